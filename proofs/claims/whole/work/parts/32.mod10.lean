theorem kk_in {k : Int32} : inL k.toInt64 (-100) 100 = true ↔ (-100 ≤ k ∧ k ≤ nI 100) := by
  unfold inL
  simp only [Bool.and_eq_true, decide_eq_true_eq]
  rw [Int64.le_iff_toInt_le, Int64.le_iff_toInt_le, Int32.le_iff_toInt_le, Int32.le_iff_toInt_le, Int32.toInt_toInt64, nI_toInt (by omega), show (-100 : Int64).toInt = -100 by decide, show (100 : Int64).toInt = 100 by decide, show (-100 : Int32).toInt = -100 by decide]
  exact Iff.rfl
section MOD10
variable {G : GP} {M : Mem} {s : Sg} {lq : Int32}
theorem c_X7_chain (h : InvM G M s lq) (q i j k w : Int32) : Con G yX7_chain cX7_chain 14 (some .int) 3 0 0 [.ref (gB G + 816), .int q, .int i, .int j, .int k, .int w] M none (PM G M (S_chain s q i j k w) s lq) := by
  have hI := h
  obtain ⟨⟨st, pd, gd', hO⟩, hA, hJ, hg⟩ := h
  obtain ⟨-, -, -, -, ⟨f5, a5, b5⟩, -⟩ := hA
  obtain ⟨f6, a6⟩ := hJ.1 822 (by decide)
  have h60 := hg.2.1
  have hin := hg.2.2.2.2.1
  generalize hR : S_chain s q i j k w = R
  unfold S_chain at hR
  refine Con.of (by decide +kernel) (Nat.le_of_ble_eq_true rfl) (fun X F hnm => ?_)
  show V G X 0 0 _ M _ 0 [some (.ref (gB G + 816)), some (.int q), some (.int i), some (.int j), some (.int k), some (.int w), none, none, none, none, none, none, none, none] []
  have bad : ¬ (inR q (sNq s) = true ∧ inR i 4 = true ∧ inR j 4 = true ∧ i ≠ j ∧ (-100 ≤ k ∧ k ≤ nI 100) ∧ inR w 3 = true) → V G X 0 0 (BQ G X (PM G M R s lq) 0 0) M none 49 [some (.ref (gB G + 816)), some (.int q), some (.int i), some (.int j), some (.int k), some (.int w), none, none, none, none, none, none, none, none] [] := by
    intro z
    rw [if_neg z] at hR
    subst hR
    refine V_ldc F dX7_chain_49 kc_X7_131 ?_
    exact V_iret F rfl dX7_chain_51 rfl ⟨rfl, hI, fun _ _ => rfl, rfl⟩
  refine V_aload_n F dX7_chain_0 rfl ?_
  refine V_iload_n F dX7_chain_1 rfl ?_
  refine V_ivR F iv_X7_115 dX7_chain_2 (As := [_]) (c_X7_isQuad h60 hO _) (by assumption) rfl rfl rfl rfl ?_
  refine V_if_eq F 49 dX7_chain_5 (by decide) (fun c5 => ?_) (fun c5 => ?_)
  · rw [bI_0] at c5
    exact bad (fun z => by rw [c5] at z; cases z.1)
  · rw [bI_n] at c5
    refine V_iload_n F dX7_chain_8 rfl ?_
    refine V_i2l F dX7_chain_9 ?_
    refine V_lconst F dX7_chain_10 (v := 0) (by decide) ?_
    refine V_ldc2 F dX7_chain_11 kl_X7_118 ?_
    refine V_isR F is_X7_63 dX7_chain_14 (As := [_, _, _]) (c_X7_in _ _ _) rfl rfl rfl ?_
    refine V_if_eq F 49 dX7_chain_17 (by decide) (fun c17 => ?_) (fun c17 => ?_)
    · rw [bI_0, inL_R (m := 4) (by omega) (by decide)] at c17
      exact bad (fun z => by rw [c17] at z; cases z.2.1)
    · rw [bI_n, inL_R (m := 4) (by omega) (by decide)] at c17
      refine V_iload_n F dX7_chain_20 rfl ?_
      refine V_iload F dX7_chain_21 rfl ?_
      refine V_isR F is_X7_127 dX7_chain_23 (As := [_, _]) (c_X7_isCoin _ _) rfl rfl rfl ?_
      refine V_if_eq F 49 dX7_chain_26 (by decide) (fun c26 => ?_) (fun c26 => ?_)
      · rw [bI_0, Bool.and_eq_false_iff] at c26
        exact bad (fun z => by rcases c26 with e | e <;> rw [e] at z <;> simp at z)
      · rw [bI_n, Bool.and_eq_true] at c26
        refine V_iload_n F dX7_chain_29 rfl ?_
        refine V_iload_n F dX7_chain_30 rfl ?_
        refine V_icmp_eq F 49 dX7_chain_31 (by decide) (fun c31 => ?_) (fun c31 => ?_)
        · exact bad (fun z => z.2.2.2.1 c31)
        · refine V_iload F dX7_chain_34 rfl ?_
          refine V_i2l F dX7_chain_36 ?_
          refine V_ldc2 F dX7_chain_37 kl_X7_190 ?_
          refine V_ldc2 F dX7_chain_40 kl_X7_192 ?_
          refine V_isR F is_X7_63 dX7_chain_43 (As := [_, _, _]) (c_X7_in _ _ _) rfl rfl rfl ?_
          refine V_if_ne F 52 dX7_chain_46 (by decide) (fun c46 => ?_) (fun c46 => ?_)
          · rw [bI_n] at c46
            have ck := kk_in.mp c46
            rw [if_pos ⟨c5, c17, c26.1, c31, ck, c26.2⟩] at hR
            obtain ⟨a, ha, rfl⟩ := inR_t (by omega) c5
            obtain ⟨ci, hci, rfl⟩ := inR_t (by omega) c17
            obtain ⟨cj, hcj, rfl⟩ := inR_t (by omega) c26.1
            obtain ⟨v, hv, rfl⟩ := inR_t (by omega) c26.2
            have hne : ci ≠ cj := fun z => c31 (by rw [z])
            obtain ⟨o1, o2⟩ := odd_lt hci hcj hne
            have f3 := @fbt_lt ci cj
            rw [ix_nI (by omega), ix_nI (by omega), ix_nI (by omega), ix_nI (by omega)] at hR
            -- the first that is neither
            have fst : V G X 0 0 (BQ G X (PM G M R s lq) 0 0) M none 73 [some (.ref (gB G + 816)), some (.int (nI a)), some (.int (nI ci)), some (.int (nI cj)), some (.int k), some (.int (nI v)), some (.int (nI (fbt ci cj))), none, none, none, none, none, none, none] [] → V G X 0 0 (BQ G X (PM G M R s lq) 0 0) M none 52 [some (.ref (gB G + 816)), some (.int (nI a)), some (.int (nI ci)), some (.int (nI cj)), some (.int k), some (.int (nI v)), none, none, none, none, none, none, none, none] [] := by
              intro kk
              have step : ∀ f : Nat, f < 3 → (f ≠ ci ∧ f ≠ cj → fbt ci cj = f) → (¬ (f ≠ ci ∧ f ≠ cj) → V G X 0 0 (BQ G X (PM G M R s lq) 0 0) M none 55 [some (.ref (gB G + 816)), some (.int (nI a)), some (.int (nI ci)), some (.int (nI cj)), some (.int k), some (.int (nI v)), some (.int (nI (f + 1))), none, none, none, none, none, none, none] []) → V G X 0 0 (BQ G X (PM G M R s lq) 0 0) M none 55 [some (.ref (gB G + 816)), some (.int (nI a)), some (.int (nI ci)), some (.int (nI cj)), some (.int k), some (.int (nI v)), some (.int (nI f)), none, none, none, none, none, none, none] [] := by
                intro f hf h1 h2
                refine V_iload F dX7_chain_55 rfl ?_
                refine V_iload_n F dX7_chain_57 rfl ?_
                refine V_icmp_eq F 67 dX7_chain_58 (by decide) (fun c58 => ?_) (fun c58 => ?_)
                · have c58 := (nI_eq (by omega) (by omega)).mp c58
                  refine V_iinc1 F dX7_chain_67 rfl ?_
                  show V _ _ _ _ _ _ _ _ [_, _, _, _, _, _, _, _, _, _, _, _, _, _] _
                  refine V_goto F 55 dX7_chain_70 (by decide) ?_
                  exact h2 (fun z => z.1 c58)
                · have c58 : f ≠ ci := fun z => c58 (by rw [z])
                  refine V_iload F dX7_chain_61 rfl ?_
                  refine V_iload_n F dX7_chain_63 rfl ?_
                  refine V_icmp_ne F 73 dX7_chain_64 (by decide) (fun c64 => ?_) (fun c64 => ?_)
                  · have c64 : f ≠ cj := fun z => c64 (by rw [z])
                    rw [h1 ⟨c58, c64⟩] at kk
                    exact kk
                  · have c64 := (nI_eq (by omega) (by omega)).mp c64
                    refine V_iinc1 F dX7_chain_67 rfl ?_
                    show V _ _ _ _ _ _ _ _ [_, _, _, _, _, _, _, _, _, _, _, _, _, _] _
                    refine V_goto F 55 dX7_chain_70 (by decide) ?_
                    exact h2 (fun z => z.2 c64)
              refine V_iconst F dX7_chain_52 ki_0 ?_
              refine V_istore F dX7_chain_53 (Nat.le_of_ble_eq_true rfl) ?_
              show V _ _ _ _ _ _ _ _ [_, _, _, _, _, _, _, _, _, _, _, _, _, _] _
              refine step 0 (by omega) (fun z => by unfold fbt; rw [if_pos ⟨z.1, z.2⟩]) (fun q0 => step 1 (by omega) (fun z => by unfold fbt; rw [if_neg q0, if_pos ⟨z.1, z.2⟩]) (fun q1 => step 2 (by omega) (fun z => by unfold fbt; rw [if_neg q0, if_neg q1]) (fun q2 => absurd q2 (by omega))))
            refine fst ?_
            unfold chn at hR
            generalize fbt ci cj = fe at hR f3 o1 o2 ⊢
            refine V_bipush F dX7_chain_73 kb_6 ?_
            refine V_iload_n F dX7_chain_75 rfl ?_
            refine V_isub F dX7_chain_76 ?_
            rw [pk_sub (by omega)]
            refine V_iload_n F dX7_chain_77 rfl ?_
            refine V_isub F dX7_chain_78 ?_
            rw [pk_sub (by omega)]
            refine V_iload F dX7_chain_79 rfl ?_
            refine V_isub F dX7_chain_81 ?_
            rw [pk_sub (by omega)]
            generalize hod : 6 - ci - cj - fe = od at hR o1 ⊢
            refine V_istore F dX7_chain_82 (Nat.le_of_ble_eq_true rfl) ?_
            show V _ _ _ _ _ _ _ _ [_, _, _, _, _, _, _, _, _, _, _, _, _, _] _
            refine V_aload_n F dX7_chain_84 rfl ?_
            refine V_iload_n F dX7_chain_85 rfl ?_
            refine V_ivR F iv_X7_120 dX7_chain_86 (As := [_]) (c_X7_take hO a5 a6 (by omega) (fun j w hj hw => b5 a j w ha hj hw) (hin a ha)) (by assumption) rfl rfl rfl rfl ?_
            generalize sQc s a = C at hR ⊢
            have loop : ∀ (g r m x y : Nat) (c1 : Qd), g < 1000 → r + m = g → x < 4 → y < 4 → (R = if (ga r y x c1).1 = false then -20000002 else ((ga r y x c1).2 (if r % 2 = 0 then x else y) v).toInt32) → V G X 0 0 (BQ G X (PM G M R s lq) 0 0) (mset M (gB G + 822) (eJ (gT G) 12 (mc c1))) none 137 [some (.ref (gB G + 816)), some (.int (nI a)), some (.int (nI ci)), some (.int (nI cj)), some (.int k), some (.int (nI v)), some (.int (nI fe)), some (.int (nI od)), some (.int (nI x)), some (.int (nI y)), some (.int (nI g)), some (.int (nI m)), none, none] [] := by
              intro g r
              induction r with
              | zero =>
                intro m x y c1 hg1 hm hx hy e
                have hm : m = g := by omega
                subst hm
                have O1 := (mset_ne M (b := gB G + 816) (eJ (gT G) 12 (mc c1)) (show gB G + 816 ≠ gB G + 822 by omega)).trans hO
                rw [show ga 0 y x c1 = (true, c1) from rfl, if_neg (fun z => by cases z), if_pos rfl] at e
                subst e
                refine V_iload F dX7_chain_137 rfl ?_
                refine V_iload F dX7_chain_139 rfl ?_
                refine V_icmp_ge F 220 dX7_chain_141 (by decide) (fun c141 => ?_) (fun c141 => absurd (nI_le (Nat.le_refl _) (by omega)) c141)
                refine V_aload_n F dX7_chain_220 rfl ?_
                refine V_get F fl_X7_26 dX7_chain_221 O1 rfl ?_
                refine V_iconst F dX7_chain_224 ki_3 ?_
                refine V_iload F dX7_chain_225 rfl ?_
                refine V_imul F dX7_chain_227 ?_
                refine V_iload F dX7_chain_228 rfl ?_
                refine V_iadd F dX7_chain_230 ?_
                refine V_laldN F dX7_chain_231 (mset_eq _ _ _) (3 * x + v) (by first | (simp only [pk_mul, nI_add, nI_1, nI_inc]; done) | (simp only [pk_mul, nI_add, nI_1, nI_inc]; rfl) | rfl) (by omega) (by omega) ?_
                rw [mc_at hv]
                refine V_l2i F dX7_chain_232 ?_
                exact V_iret F rfl dX7_chain_233 rfl ⟨rfl, hI.setJ 822 (n := 12) rfl (by omega) _, fun z hz => mset_ne _ _ (by omega), rfl⟩
              | succ r ih =>
                intro m x y c1 hg1 hm hx hy e
                have O1 := (mset_ne M (b := gB G + 816) (eJ (gT G) 12 (mc c1)) (show gB G + 816 ≠ gB G + 822 by omega)).trans hO
                rw [show ga (r + 1) y x c1 = (if cRef (turnc c1 y) y = 0 then ga r x y (turnc c1 y) else (false, turnc c1 y)) from rfl] at e
                refine V_iload F dX7_chain_137 rfl ?_
                refine V_iload F dX7_chain_139 rfl ?_
                refine V_icmp_ge F 220 dX7_chain_141 (by decide) (fun c141 => absurd c141 (nI_ge (by omega) (by omega))) (fun c141 => ?_)
                refine V_aload_n F dX7_chain_144 rfl ?_
                refine V_iload F dX7_chain_145 rfl ?_
                refine V_ivR F iv_X7_124 dX7_chain_147 (As := [_]) (c_X7_swapAt O1 (mset_eq _ _ _) hy) O1 rfl rfl rfl rfl ?_
                rw [mset_mset]
                have ih := fun e' => ih (m + 1) y x (turnc c1 y) hg1 (by omega) hy hx e'
                have hI1 := hI.setJ 822 (n := 12) rfl (by omega) (mc (turnc c1 y))
                generalize turnc c1 y = C2 at e ih hI1 ⊢
                have O2 := (mset_ne M (b := gB G + 816) (eJ (gT G) 12 (mc C2)) (show gB G + 816 ≠ gB G + 822 by omega)).trans hO
                have m3 : ∀ z, mc C2 (3 * z) = C2 z 0 := fun z => mc_at (c := C2) (i := z) (w := 0) (by omega)
                have out : ¬ cRef C2 y = 0 → V G X 0 0 (BQ G X (PM G M R s lq) 0 0) (mset M (gB G + 822) (eJ (gT G) 12 (mc C2))) none 199 [some (.ref (gB G + 816)), some (.int (nI a)), some (.int (nI ci)), some (.int (nI cj)), some (.int k), some (.int (nI v)), some (.int (nI fe)), some (.int (nI od)), some (.int (nI x)), some (.int (nI y)), some (.int (nI g)), some (.int (nI m)), some (.int (nI 3 * nI y)), none] [] := by
                  intro z
                  rw [if_neg z, if_pos rfl] at e
                  subst e
                  refine V_ldc F dX7_chain_199 kc_X7_194 ?_
                  exact V_iret F rfl dX7_chain_201 rfl ⟨rfl, hI1, fun z hz => mset_ne _ _ (by omega), rfl⟩
                refine V_iconst F dX7_chain_150 ki_3 ?_
                refine V_iload F dX7_chain_151 rfl ?_
                refine V_imul F dX7_chain_153 ?_
                refine V_istore F dX7_chain_154 (Nat.le_of_ble_eq_true rfl) ?_
                show V _ _ _ _ _ _ _ _ [_, _, _, _, _, _, _, _, _, _, _, _, _, _] _
                refine V_aload_n F dX7_chain_156 rfl ?_
                refine V_get F fl_X7_26 dX7_chain_157 O2 rfl ?_
                refine V_iload F dX7_chain_160 rfl ?_
                refine V_laldN F dX7_chain_162 (mset_eq _ _ _) (3 * y) (by first | (simp only [pk_mul, nI_add, nI_1, nI_inc]; done) | (simp only [pk_mul, nI_add, nI_1, nI_inc]; rfl) | rfl) (by omega) (by omega) ?_
                rw [m3]
                refine V_isR F is_X7_90 dX7_chain_163 (As := [_]) (c_X7_isBend _) rfl rfl rfl ?_
                refine V_if_eq F 199 dX7_chain_166 (by decide) (fun c166 => ?_) (fun c166 => ?_)
                · rw [bI_0] at c166
                  exact out (fun z => by have := (cRef_0 z).1; rw [this] at c166; cases c166)
                · rw [bI_n] at c166
                  refine V_aload_n F dX7_chain_169 rfl ?_
                  refine V_get F fl_X7_26 dX7_chain_170 O2 rfl ?_
                  refine V_iload F dX7_chain_173 rfl ?_
                  refine V_iconst F dX7_chain_175 ki_1 ?_
                  refine V_iadd F dX7_chain_176 ?_
                  refine V_laldN F dX7_chain_177 (mset_eq _ _ _) (3 * y + 1) (by first | (simp only [pk_mul, nI_add, nI_1, nI_inc]; done) | (simp only [pk_mul, nI_add, nI_1, nI_inc]; rfl) | rfl) (by omega) (by omega) ?_
                  rw [mc_at (by omega)]
                  refine V_isR F is_X7_94 dX7_chain_178 (As := [_]) (c_X7_isPlace _) rfl rfl rfl ?_
                  refine V_if_eq F 199 dX7_chain_181 (by decide) (fun c181 => ?_) (fun c181 => ?_)
                  · rw [bI_0] at c181
                    exact out (fun z => by have := (cRef_0 z).2; unfold plR at this; rw [Bool.or_eq_false_iff] at this; rw [this.1] at c181; cases c181)
                  · rw [bI_n] at c181
                    refine V_aload_n F dX7_chain_184 rfl ?_
                    refine V_get F fl_X7_26 dX7_chain_185 O2 rfl ?_
                    refine V_iload F dX7_chain_188 rfl ?_
                    refine V_iconst F dX7_chain_190 ki_2 ?_
                    refine V_iadd F dX7_chain_191 ?_
                    refine V_laldN F dX7_chain_192 (mset_eq _ _ _) (3 * y + 2) (by first | (simp only [pk_mul, nI_add, nI_1, nI_inc]; done) | (simp only [pk_mul, nI_add, nI_1, nI_inc]; rfl) | rfl) (by omega) (by omega) ?_
                    rw [mc_at (by omega)]
                    refine V_isR F is_X7_94 dX7_chain_193 (As := [_]) (c_X7_isPlace _) rfl rfl rfl ?_
                    refine V_if_ne F 202 dX7_chain_196 (by decide) (fun c196 => ?_) (fun c196 => ?_)
                    · rw [bI_n] at c196
                      have hz : cRef C2 y = 0 := by
                        unfold cRef plR
                        simp only [Bool.not_eq_true'] at c166 c181 c196
                        rw [c166, c181, c196]
                        rfl
                      rw [if_pos hz] at e
                      refine V_iload F dX7_chain_202 rfl ?_
                      refine V_istore F dX7_chain_204 (Nat.le_of_ble_eq_true rfl) ?_
                      show V _ _ _ _ _ _ _ _ [_, _, _, _, _, _, _, _, _, _, _, _, _, _] _
                      refine V_iload F dX7_chain_206 rfl ?_
                      refine V_istore F dX7_chain_208 (Nat.le_of_ble_eq_true rfl) ?_
                      show V _ _ _ _ _ _ _ _ [_, _, _, _, _, _, _, _, _, _, _, _, _, _] _
                      refine V_iload F dX7_chain_210 rfl ?_
                      refine V_istore F dX7_chain_212 (Nat.le_of_ble_eq_true rfl) ?_
                      show V _ _ _ _ _ _ _ _ [_, _, _, _, _, _, _, _, _, _, _, _, _, _] _
                      refine V_iinc1 F dX7_chain_214 rfl ?_
                      show V _ _ _ _ _ _ _ _ [_, _, _, _, _, _, _, _, _, _, _, _, _, _] _
                      refine V_goto F 137 dX7_chain_217 (by decide) ?_
                      refine V_drop 12 (V_drop 13 (ih ?_))
                      rw [e]
                      by_cases p : r % 2 = 0
                      · rw [if_pos p, if_neg (show ¬ (r + 1) % 2 = 0 by omega)]
                      · rw [if_neg p, if_pos (show (r + 1) % 2 = 0 by omega)]
                    · rw [bI_0] at c196
                      exact out (fun z => by have := (cRef_0 z).2; unfold plR at this; rw [Bool.or_eq_false_iff] at this; rw [this.2] at c196; cases c196)
            have O1 := (mset_ne M (b := gB G + 816) (eJ (gT G) 12 (mc C)) (show gB G + 816 ≠ gB G + 822 by omega)).trans hO
            by_cases hk0 : 0 < k
            · rw [if_pos (Int32.le_of_lt hk0)] at hR
              obtain ⟨kk, hkk, rfl⟩ := nI_of2 (M := nI 100) (nI_toInt (by omega)) (Int32.not_lt.mpr (Int32.le_of_lt hk0)) ck.2
              rw [ix_nI (by omega)] at hR
              have hk1 : 1 ≤ kk := by
                by_cases q : kk = 0
                · subst q; exact absurd hk0 (by decide)
                · omega
              refine V_iload F dX7_chain_89 rfl ?_
              refine V_if_le F 99 dX7_chain_91 (by decide) (fun c91 => absurd hk0 (Int32.not_lt.mpr c91)) (fun c91 => ?_)
              refine V_iload F dX7_chain_94 rfl ?_
              refine V_goto F 101 dX7_chain_96 (by decide) ?_
              refine V_istore F dX7_chain_101 (Nat.le_of_ble_eq_true rfl) ?_
              show V _ _ _ _ _ _ _ _ [_, _, _, _, _, _, _, _, _, _, _, _, _, _] _
              refine V_iload F dX7_chain_103 rfl ?_
              refine V_if_le F 113 dX7_chain_105 (by decide) (fun c105 => absurd hk0 (Int32.not_lt.mpr c105)) (fun c105 => ?_)
              refine V_iload F dX7_chain_108 rfl ?_
              refine V_goto F 115 dX7_chain_110 (by decide) ?_
              refine V_istore F dX7_chain_115 (Nat.le_of_ble_eq_true rfl) ?_
              show V _ _ _ _ _ _ _ _ [_, _, _, _, _, _, _, _, _, _, _, _, _, _] _
              refine V_iload F dX7_chain_117 rfl ?_
              refine V_if_le F 129 dX7_chain_119 (by decide) (fun c119 => absurd hk0 (Int32.not_lt.mpr c119)) (fun c119 => ?_)
              refine V_iload F dX7_chain_122 rfl ?_
              refine V_iconst F dX7_chain_124 ki_1 ?_
              refine V_isub F dX7_chain_125 ?_
              rw [pk_sub (by omega)]
              refine V_goto F 132 dX7_chain_126 (by decide) ?_
              refine V_istore F dX7_chain_132 (Nat.le_of_ble_eq_true rfl) ?_
              show V _ _ _ _ _ _ _ _ [_, _, _, _, _, _, _, _, _, _, _, _, _, _] _
              refine V_iconst F dX7_chain_134 ki_0 ?_
              refine V_istore F dX7_chain_135 (Nat.le_of_ble_eq_true rfl) ?_
              show V _ _ _ _ _ _ _ _ [_, _, _, _, _, _, _, _, _, _, _, _, _, _] _
              refine loop (kk - 1) (kk - 1) 0 od fe C (by omega) (by omega) o1 (by omega) ?_
              rw [← hR]
              by_cases p : kk % 2 = 0
              · rw [if_pos p, if_neg (show ¬ (kk - 1) % 2 = 0 by omega)]
              · rw [if_neg p, if_pos (show (kk - 1) % 2 = 0 by omega)]
            · have hle := Int32.not_lt.mp hk0
              have hneg : ∃ kk, kk ≤ 100 ∧ k = -nI kk := by
                refine ⟨(-k.toInt).toNat, ?_, ?_⟩
                · have := ck.1
                  rw [Int32.le_iff_toInt_le] at this
                  have e : (-100 : Int32).toInt = -100 := by decide
                  omega
                · have := ck.1
                  rw [Int32.le_iff_toInt_le] at this hle
                  have e : (-100 : Int32).toInt = -100 := by decide
                  have e0 : (0 : Int32).toInt = 0 := by decide
                  apply Int32.toInt_inj.mp
                  rw [sb_negT (by omega)]
                  omega
              obtain ⟨kk, hkk, rfl⟩ := hneg
              refine V_iload F dX7_chain_89 rfl ?_
              refine V_if_le F 99 dX7_chain_91 (by decide) (fun c91 => ?_) (fun c91 => absurd hle c91)
              refine V_iload F dX7_chain_99 rfl ?_
              refine V_istore F dX7_chain_101 (Nat.le_of_ble_eq_true rfl) ?_
              show V _ _ _ _ _ _ _ _ [_, _, _, _, _, _, _, _, _, _, _, _, _, _] _
              refine V_iload F dX7_chain_103 rfl ?_
              refine V_if_le F 113 dX7_chain_105 (by decide) (fun c105 => ?_) (fun c105 => absurd hle c105)
              refine V_iload F dX7_chain_113 rfl ?_
              refine V_istore F dX7_chain_115 (Nat.le_of_ble_eq_true rfl) ?_
              show V _ _ _ _ _ _ _ _ [_, _, _, _, _, _, _, _, _, _, _, _, _, _] _
              refine V_iload F dX7_chain_117 rfl ?_
              refine V_if_le F 129 dX7_chain_119 (by decide) (fun c119 => ?_) (fun c119 => absurd hle c119)
              refine V_iload F dX7_chain_129 rfl ?_
              refine V_ineg F dX7_chain_131 ?_
              rw [Int32.neg_neg]
              refine V_istore F dX7_chain_132 (Nat.le_of_ble_eq_true rfl) ?_
              show V _ _ _ _ _ _ _ _ [_, _, _, _, _, _, _, _, _, _, _, _, _, _] _
              refine V_iconst F dX7_chain_134 ki_0 ?_
              refine V_istore F dX7_chain_135 (Nat.le_of_ble_eq_true rfl) ?_
              show V _ _ _ _ _ _ _ _ [_, _, _, _, _, _, _, _, _, _, _, _, _, _] _
              refine loop kk kk 0 fe od C (by omega) (by omega) (by omega) o1 ?_
              rw [← hR]
              by_cases hz : kk = 0
              · subst hz
                rfl
              · rw [if_neg (show ¬ 0 ≤ -nI kk from fun z => by
                  rw [Int32.le_iff_toInt_le, sb_negT (by omega)] at z
                  have e0 : (0 : Int32).toInt = 0 := by decide
                  omega), Int32.neg_neg, ix_nI (by omega)]
          · rw [bI_0] at c46
            exact bad (fun z => by rw [kk_in.mpr z.2.2.2.2.1] at c46; cases c46)
end MOD10
