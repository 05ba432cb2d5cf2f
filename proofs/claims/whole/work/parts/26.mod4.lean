def mc (c : Qd) : Nat → Int64 := fun k => c (k / 3) (k % 3)
theorem mc_at {c : Qd} {i w : Nat} (hw : w < 3) : mc c (3 * i + w) = c i w := by
  unfold mc
  rw [show (3 * i + w) / 3 = i by omega, show (3 * i + w) % 3 = w by omega]
theorem mc_up {c : Qd} {i w : Nat} {x : Int64} (hw : w < 3) : va_up (mc c) (3 * i + w) x = mc (upc c i w x) := by
  funext k
  unfold va_up mc upc
  by_cases h : k = 3 * i + w
  · rw [if_pos h, if_pos ⟨by omega, by omega⟩]
  · rw [if_neg h, if_neg (fun q => h (by omega))]
theorem trn_M (c : Qd) (i w : Nat) : 2 * (c 0 w + c 1 w + c 2 w + c 3 w - c i w) - c i w = trn c i w := by
  unfold trn tsum
  generalize c 0 w + c 1 w + c 2 w + c 3 w = A
  generalize c i w = B
  grind
theorem cw_up0 {f g : Nat → Int64} {sp i : Nat} : va_up (cw f g sp 0 i) i (f (sp + i)) = cw f g sp 0 (i + 1) := by
  have := cw_up (f := f) (g := g) (sp := sp) (dp := 0) (i := i)
  rwa [Nat.zero_add] at this
theorem InvM.setJ {G : GP} {M : Mem} {s : Sg} {lq : Int32} (h : InvM G M s lq) (i : Nat) {n : Nat} (hn : jl i = n) (h0 : 0 < n) (f : Nat → Int64) : InvM G (mset M (gB G + i) (eJ (gT G) n f)) s lq := by
  obtain ⟨⟨st, pd, gd, hO⟩, hA, hJ, hg⟩ := h
  have := jl_c (i := i) (by omega)
  exact ⟨⟨st, pd, gd, (mset_ne _ _ (by omega)).trans hO⟩, hA.frame (fun j hj => mset_ne _ _ (by omega)), hJ.setJ i hn h0 f, hg⟩
theorem InvM.setI {G : GP} {M : Mem} {s : Sg} {lq : Int32} (h : InvM G M s lq) (i : Nat) {n : Nat} (hn : il i = n) (h0 : 0 < n) (f : Nat → Int32) : InvM G (mset M (gB G + i) (eI (gT G) n f)) s lq := by
  obtain ⟨⟨st, pd, gd, hO⟩, hA, hJ, hg⟩ := h
  have := il_c (i := i) (by omega)
  exact ⟨⟨st, pd, gd, (mset_ne _ _ (by omega)).trans hO⟩, hA.frame (fun j hj => mset_ne _ _ (by omega)), hJ.setI i hn h0 f, hg⟩
theorem mJ.obj {G : GP} {M : Mem} (h : mJ G M) (e : va_E) : mJ G (mset M (gB G + 816) e) := h.other (fun i hi => by
  rcases hi with hi | hi
  · have := jl_c hi; omega
  · have := il_c hi; omega)
theorem InvM.setO {G : GP} {M : Mem} {s : Sg} {lq : Int32} (h : InvM G M s lq) (st pd gd : Int32) : InvM G (mset M (gB G + 816) (objM G (nI (sNq s)) st (nI (sS s)) (nI (sMo s)) lq pd gd)) s lq := by
  obtain ⟨-, hA, hJ, hg⟩ := h
  exact ⟨⟨st, pd, gd, mset_eq _ _ _⟩, hA.frame (fun j hj => mset_ne _ _ (by omega)), hJ.obj _, hg⟩
section MOD4
variable {G : GP} {M : Mem} {n : Option Nat} {s : Sg} {lq : Int32} {nq st lm lmo pd gd : Int32} {c : Qd}
theorem c_X7_copy (h : InvM G M s lq) (r i t j m : Int32) : Con G yX7_copy cX7_copy 7 (some .int) 2 0 0 [.ref (gB G + 816), .int r, .int i, .int t, .int j, .int m] M none (PM G M (S_copy s r i t j m).1 (S_copy s r i t j m).2 lq) := by
  have hI := h
  obtain ⟨⟨st, pd, gd, hO⟩, hA, hJ, hg⟩ := h
  obtain ⟨⟨f1, a1, b1⟩, ⟨f2, a2, b2⟩, ⟨f3, a3, b3⟩, -⟩ := hA
  obtain ⟨fm, am⟩ := hJ.1 825 (by decide)
  have am : M (gB G + 825) = some (eJ (gT G) 24 fm) := am
  generalize hR : S_copy s r i t j m = R
  unfold S_copy at hR
  refine Con.of (by decide +kernel) (Nat.le_of_ble_eq_true rfl) (fun X F hnm => ?_)
  show V G X 0 0 _ M _ 0 [some (.ref (gB G + 816)), some (.int r), some (.int i), some (.int t), some (.int j), some (.int m), none] []
  generalize hQ : BQ G X _ 0 0 = Q
  have bad : R = (-1, s) → V G X 0 0 Q M none 14 [some (.ref (gB G + 816)), some (.int r), some (.int i), some (.int t), some (.int j), some (.int m), none] [] := by
    intro z
    subst z hQ
    refine V_iconst F dX7_copy_14 ki_m1 ?_
    exact V_iret F rfl dX7_copy_15 rfl ⟨rfl, hI, fun _ _ => rfl, rfl⟩
  refine V_iload_n F dX7_copy_0 rfl ?_
  refine V_isR F is_X7_67 dX7_copy_1 (As := [_]) (c_X7_isBag _) rfl rfl rfl ?_
  refine V_if_eq F 14 dX7_copy_4 (by decide) (fun c4 => ?_) (fun c4 => ?_)
  · rw [bI_0] at c4
    exact bad (by rw [← hR, if_pos (Or.inl c4)])
  · rw [bI_n] at c4
    refine V_iload_n F dX7_copy_7 rfl ?_
    refine V_isR F is_X7_67 dX7_copy_8 (As := [_]) (c_X7_isBag _) rfl rfl rfl ?_
    refine V_if_ne F 16 dX7_copy_11 (by decide) (fun c11 => ?_) (fun c11 => ?_)
    · rw [bI_n] at c11
      rw [if_neg (fun z => by
          rcases z with z | z
          · rw [c4] at z; cases z
          · rw [c11] at z; cases z)] at hR
      obtain ⟨a, ha, rfl⟩ := inR_t (by omega) c4
      obtain ⟨b, hb, rfl⟩ := inR_t (by omega) c11
      rw [ix_nI (by omega), ix_nI (by omega)] at hR
      have k1 := (hg.1 a ha)
      have k2 := (hg.1 b hb)
      have null : (sKd s a = -1 ∨ sKd s b = -1) → V G X 0 0 Q M none 34 [some (.ref (gB G + 816)), some (.int (nI a)), some (.int i), some (.int (nI b)), some (.int j), some (.int m), none] [] := by
        intro z
        rw [if_pos z] at hR
        subst hR hQ
        refine V_bipush F dX7_copy_34 kb_m11 ?_
        exact V_iret F rfl dX7_copy_36 rfl ⟨rfl, hI, fun _ _ => rfl, rfl⟩
      refine V_aload_n F dX7_copy_16 rfl ?_
      refine V_get F fl_X7_7 dX7_copy_17 (by assumption) rfl ?_
      refine V_iload_n F dX7_copy_20 rfl ?_
      refine V_ialdN F dX7_copy_21 (by assumption) _ (by first | (simp only [pk_mul, nI_add, nI_1, nI_inc]; done) | (simp only [pk_mul, nI_add, nI_1, nI_inc]; rfl) | rfl) (by omega) (by omega) ?_
      rw [b1 a ha]
      refine V_if_lt F 34 dX7_copy_22 (by decide) (fun c22 => ?_) (fun c22 => ?_)
      · exact null (Or.inl ((kd_neg k1.1).mp c22))
      · have d1 : ¬ sKd s a = -1 := fun z => c22 ((kd_neg k1.1).mpr z)
        refine V_aload_n F dX7_copy_25 rfl ?_
        refine V_get F fl_X7_7 dX7_copy_26 (by assumption) rfl ?_
        refine V_iload_n F dX7_copy_29 rfl ?_
        refine V_ialdN F dX7_copy_30 (by assumption) _ (by first | (simp only [pk_mul, nI_add, nI_1, nI_inc]; done) | (simp only [pk_mul, nI_add, nI_1, nI_inc]; rfl) | rfl) (by omega) (by omega) ?_
        rw [b1 b hb]
        refine V_if_ge F 37 dX7_copy_31 (by decide) (fun c31 => ?_) (fun c31 => ?_)
        · have d2 : ¬ sKd s b = -1 := fun z => absurd ((kd_neg k2.1).mpr z) (Int32.not_lt.mpr c31)
          rw [if_neg (fun z => z.elim d1 d2)] at hR
          refine V_aload_n F dX7_copy_37 rfl ?_
          refine V_get F fl_X7_7 dX7_copy_38 (by assumption) rfl ?_
          refine V_iload_n F dX7_copy_41 rfl ?_
          refine V_ialdN F dX7_copy_42 (by assumption) _ (by first | (simp only [pk_mul, nI_add, nI_1, nI_inc]; done) | (simp only [pk_mul, nI_add, nI_1, nI_inc]; rfl) | rfl) (by omega) (by omega) ?_
          rw [b1 a ha]
          refine V_aload_n F dX7_copy_43 rfl ?_
          refine V_get F fl_X7_7 dX7_copy_44 (by assumption) rfl ?_
          refine V_iload_n F dX7_copy_47 rfl ?_
          refine V_ialdN F dX7_copy_48 (by assumption) _ (by first | (simp only [pk_mul, nI_add, nI_1, nI_inc]; done) | (simp only [pk_mul, nI_add, nI_1, nI_inc]; rfl) | rfl) (by omega) (by omega) ?_
          rw [b1 b hb]
          refine V_icmp_eq F 55 dX7_copy_49 (by decide) (fun c49 => ?_) (fun c49 => ?_)
          · rw [if_neg (fun z => z c49)] at hR
            have out : ¬ (hasP i m (nI (sLn s a)) = true ∧ hasP j m (nI (sLn s b)) = true) → V G X 0 0 Q M none 104 [some (.ref (gB G + 816)), some (.int (nI a)), some (.int i), some (.int (nI b)), some (.int j), some (.int m), none] [] := by
              intro z
              rw [if_neg z] at hR
              subst hR hQ
              refine V_bipush F dX7_copy_104 kb_m12 ?_
              exact V_iret F rfl dX7_copy_106 rfl ⟨rfl, hI, fun _ _ => rfl, rfl⟩
            have p1 := hasP_N (i := i) (m := m) k1.2
            have p2 := hasP_N (i := j) (m := m) k2.2
            refine V_iload F dX7_copy_55 rfl ?_
            refine V_if_lt F 104 dX7_copy_57 (by decide) (fun c57 => ?_) (fun c57 => ?_)
            · exact out (fun z => p1.mp z.1 (Or.inl c57))
            · refine V_iload_n F dX7_copy_60 rfl ?_
              refine V_if_lt F 104 dX7_copy_61 (by decide) (fun c61 => ?_) (fun c61 => ?_)
              · exact out (fun z => p1.mp z.1 (Or.inr (Or.inl c61)))
              · refine V_iload F dX7_copy_64 rfl ?_
                refine V_if_lt F 104 dX7_copy_66 (by decide) (fun c66 => ?_) (fun c66 => ?_)
                · exact out (fun z => p2.mp z.2 (Or.inr (Or.inl c66)))
                · refine V_iload_n F dX7_copy_69 rfl ?_
                  refine V_i2l F dX7_copy_70 ?_
                  refine V_iload F dX7_copy_71 rfl ?_
                  refine V_i2l F dX7_copy_73 ?_
                  refine V_ladd F dX7_copy_74 ?_
                  refine V_aload_n F dX7_copy_75 rfl ?_
                  refine V_get F fl_X7_13 dX7_copy_76 (by assumption) rfl ?_
                  refine V_iload_n F dX7_copy_79 rfl ?_
                  refine V_ialdN F dX7_copy_80 (by assumption) _ (by first | (simp only [pk_mul, nI_add, nI_1, nI_inc]; done) | (simp only [pk_mul, nI_add, nI_1, nI_inc]; rfl) | rfl) (by omega) (by omega) ?_
                  rw [b2 a ha]
                  refine V_i2l F dX7_copy_81 ?_
                  refine V_lcmp F dX7_copy_82 ?_
                  refine V_if_gt F 104 dX7_copy_83 (by decide) (fun c83 => ?_) (fun c83 => ?_)
                  · rw [lcmp_gt] at c83
                    exact out (fun z => p1.mp z.1 (Or.inr (Or.inr c83)))
                  · rw [lcmp_gt] at c83
                    refine V_iload F dX7_copy_86 rfl ?_
                    refine V_i2l F dX7_copy_88 ?_
                    refine V_iload F dX7_copy_89 rfl ?_
                    refine V_i2l F dX7_copy_91 ?_
                    refine V_ladd F dX7_copy_92 ?_
                    refine V_aload_n F dX7_copy_93 rfl ?_
                    refine V_get F fl_X7_13 dX7_copy_94 (by assumption) rfl ?_
                    refine V_iload_n F dX7_copy_97 rfl ?_
                    refine V_ialdN F dX7_copy_98 (by assumption) _ (by first | (simp only [pk_mul, nI_add, nI_1, nI_inc]; done) | (simp only [pk_mul, nI_add, nI_1, nI_inc]; rfl) | rfl) (by omega) (by omega) ?_
                    rw [b2 b hb]
                    refine V_i2l F dX7_copy_99 ?_
                    refine V_lcmp F dX7_copy_100 ?_
                    refine V_if_le F 107 dX7_copy_101 (by decide) (fun c101 => ?_) (fun c101 => ?_)
                    · rw [lcmp_le] at c101
                      have q1 : hasP i m (nI (sLn s a)) = true := p1.mpr (fun z => z.elim c57 (fun z => z.elim c61 c83))
                      have q2 : hasP j m (nI (sLn s b)) = true := p2.mpr (fun z => z.elim c57 (fun z => z.elim c66 (Int64.not_lt.mpr c101)))
                      rw [if_pos ⟨q1, q2⟩] at hR
                      obtain ⟨i', m', rfl, rfl, h1⟩ := hasP_t (by omega) q1
                      obtain ⟨j', m2, rfl, hmm, h2⟩ := hasP_t (by omega) q2
                      have k12 := k1.2
                      have k22 := k2.2
                      have hmm : m' = m2 := (nI_eq (by omega) (by omega)).mp hmm
                      subst hmm
                      rw [ix_nI (by omega), ix_nI (by omega), ix_nI (by omega)] at hR
                      have loop1 : ∀ q k : Nat, q + k = m' → (∀ M', M' = mset M (gB G + 825) (eJ (gT G) 24 (cw f3 fm (24 * a + i') 0 m')) → V G X 0 0 Q M' none 144 [some (.ref (gB G + 816)), some (.int (nI a)), some (.int (nI i')), some (.int (nI b)), some (.int (nI j')), some (.int (nI m')), some (.int (nI m'))] []) → V G X 0 0 Q (mset M (gB G + 825) (eJ (gT G) 24 (cw f3 fm (24 * a + i') 0 k))) none 110 [some (.ref (gB G + 816)), some (.int (nI a)), some (.int (nI i')), some (.int (nI b)), some (.int (nI j')), some (.int (nI m')), some (.int (nI k))] [] := by
                        intro q
                        induction q with
                        | zero =>
                          intro k hk kk
                          have hk : k = m' := by omega
                          subst hk
                          refine V_iload F dX7_copy_110 rfl ?_
                          refine V_iload F dX7_copy_112 rfl ?_
                          refine V_icmp_ge F 144 dX7_copy_114 (by decide) (fun c114 => ?_) (fun c114 => absurd (nI_le (by omega) (by omega)) c114)
                          exact kk _ rfl
                        | succ q ih =>
                          intro k hk kk
                          refine V_iload F dX7_copy_110 rfl ?_
                          refine V_iload F dX7_copy_112 rfl ?_
                          refine V_icmp_ge F 144 dX7_copy_114 (by decide) (fun c114 => absurd c114 (nI_ge (by omega) (by omega))) (fun c114 => ?_)
                          refine V_aload_n F dX7_copy_117 rfl ?_
                          refine V_get F fl_X7_39 dX7_copy_118 ((mset_ne _ _ (by omega)).trans hO) rfl ?_
                          refine V_iload F dX7_copy_121 rfl ?_
                          refine V_aload_n F dX7_copy_123 rfl ?_
                          refine V_get F fl_X7_16 dX7_copy_124 ((mset_ne _ _ (by omega)).trans hO) rfl ?_
                          refine V_bipush F dX7_copy_127 kb_24 ?_
                          refine V_iload_n F dX7_copy_129 rfl ?_
                          refine V_imul F dX7_copy_130 ?_
                          rw [pk_mul]
                          refine V_iload_n F dX7_copy_131 rfl ?_
                          refine V_iadd F dX7_copy_132 ?_
                          refine V_iload F dX7_copy_133 rfl ?_
                          refine V_iadd F dX7_copy_135 ?_
                          rw [nI_add, nI_add]
                          refine V_laldN F dX7_copy_136 ((mset_ne _ _ (by omega)).trans a3) _ (by first | (simp only [pk_mul, nI_add, nI_1, nI_inc]; done) | (simp only [pk_mul, nI_add, nI_1, nI_inc]; rfl) | rfl) (by omega) (by omega) ?_
                          refine V_lastN F dX7_copy_137 (mset_eq _ _ _) _ (by first | (simp only [pk_mul, nI_add, nI_1, nI_inc]; done) | (simp only [pk_mul, nI_add, nI_1, nI_inc]; rfl) | rfl) (by omega) (by omega) ?_
                          rw [mset_mset, cw_up0]
                          refine V_iinc1 F dX7_copy_138 rfl ?_
                          show V _ _ _ _ _ _ _ _ [_, _, _, _, _, _, _] _
                          refine V_goto F 110 dX7_copy_141 (by decide) ?_
                          exact ih (k + 1) (by omega) kk
                      refine V_iconst F dX7_copy_107 ki_0 ?_
                      refine V_istore F dX7_copy_108 (Nat.le_of_ble_eq_true rfl) ?_
                      show V _ _ _ _ _ _ _ _ [_, _, _, _, _, _, _] _
                      have st1 := loop1 m' 0 (by omega) ?_
                      rw [show cw f3 fm (24 * a + i') 0 0 = fm from funext fun z => by unfold cw; rw [if_neg (by omega)], mset_self am] at st1
                      · exact st1
                      · intro M1 hM1
                        have hI1 : InvM G M1 s lq := by rw [hM1]; exact hI.setJ 825 rfl (by decide) _
                        have e1 : ∀ z, z ≠ gB G + 825 → M1 z = M z := fun z hz => by rw [hM1]; exact mset_ne _ _ hz
                        have em : M1 (gB G + 825) = some (eJ (gT G) 24 (cw f3 fm (24 * a + i') 0 m')) := by rw [hM1]; exact mset_eq _ _ _
                        clear hM1
                        have loop2 : ∀ q k : Nat, q + k = m' → V G X 0 0 Q (mset M1 (gB G + 819) (eJ (gT G) 144 (cw f3 f3 (24 * a + i') (24 * b + j') k))) none 147 [some (.ref (gB G + 816)), some (.int (nI a)), some (.int (nI i')), some (.int (nI b)), some (.int (nI j')), some (.int (nI m')), some (.int (nI k))] [] := by
                          intro q
                          induction q with
                          | zero =>
                            intro k hk
                            have hk : k = m' := by omega
                            subst hk
                            subst hR hQ
                            have fin := hI1.pl (p := va_cpy (sPl s a) (sPl s b) i' j' k) (g := cw f3 f3 (24 * a + i') (24 * b + j') k) hb (fun c e hc he => by
                              unfold cw va_cpy
                              by_cases q : c = b
                              · subst q
                                rw [if_pos rfl]
                                by_cases q2 : j' ≤ e ∧ e < j' + k
                                · rw [if_pos (by omega), if_pos q2, show 24 * a + i' + (24 * c + e - (24 * c + j')) = 24 * a + (i' + (e - j')) by omega]
                                  exact b3 _ _ ha (by omega)
                                · rw [if_neg (by omega), if_neg q2]; exact b3 c e hc he
                              · rw [if_neg (by omega), if_neg q]; exact b3 c e hc he)
                            refine V_iload F dX7_copy_147 rfl ?_
                            refine V_iload F dX7_copy_149 rfl ?_
                            refine V_icmp_ge F 182 dX7_copy_151 (by decide) (fun c151 => ?_) (fun c151 => absurd (nI_le (by omega) (by omega)) c151)
                            refine V_iconst F dX7_copy_182 ki_0 ?_
                            exact V_iret F rfl dX7_copy_183 rfl ⟨rfl, fin, fun z hz => by rw [mset_ne _ _ (by omega), e1 z (by omega)], rfl⟩
                          | succ q ih =>
                            intro k hk
                            refine V_iload F dX7_copy_147 rfl ?_
                            refine V_iload F dX7_copy_149 rfl ?_
                            refine V_icmp_ge F 182 dX7_copy_151 (by decide) (fun c151 => absurd c151 (nI_ge (by omega) (by omega))) (fun c151 => ?_)
                            refine V_aload_n F dX7_copy_154 rfl ?_
                            refine V_get F fl_X7_16 dX7_copy_155 ((mset_ne _ _ (by omega)).trans ((e1 _ (by omega)).trans hO)) rfl ?_
                            refine V_bipush F dX7_copy_158 kb_24 ?_
                            refine V_iload_n F dX7_copy_160 rfl ?_
                            refine V_imul F dX7_copy_161 ?_
                            rw [pk_mul]
                            refine V_iload F dX7_copy_162 rfl ?_
                            refine V_iadd F dX7_copy_164 ?_
                            refine V_iload F dX7_copy_165 rfl ?_
                            refine V_iadd F dX7_copy_167 ?_
                            rw [nI_add, nI_add]
                            refine V_aload_n F dX7_copy_168 rfl ?_
                            refine V_get F fl_X7_39 dX7_copy_169 ((mset_ne _ _ (by omega)).trans ((e1 _ (by omega)).trans hO)) rfl ?_
                            refine V_iload F dX7_copy_172 rfl ?_
                            refine V_laldN F dX7_copy_174 ((mset_ne _ _ (by omega)).trans em) _ (by first | (simp only [pk_mul, nI_add, nI_1, nI_inc]; done) | (simp only [pk_mul, nI_add, nI_1, nI_inc]; rfl) | rfl) (by omega) (by omega) ?_
                            rw [show cw f3 fm (24 * a + i') 0 m' k = f3 (24 * a + i' + k) by unfold cw; rw [if_pos (by omega), Nat.sub_zero]]
                            refine V_lastN F dX7_copy_175 (mset_eq _ _ _) _ (by first | (simp only [pk_mul, nI_add, nI_1, nI_inc]; done) | (simp only [pk_mul, nI_add, nI_1, nI_inc]; rfl) | rfl) (by omega) (by omega) ?_
                            rw [mset_mset, cw_up]
                            refine V_iinc1 F dX7_copy_176 rfl ?_
                            show V _ _ _ _ _ _ _ _ [_, _, _, _, _, _, _] _
                            refine V_goto F 147 dX7_copy_179 (by decide) ?_
                            exact ih (k + 1) (by omega)
                        refine V_iconst F dX7_copy_144 ki_0 ?_
                        refine V_istore F dX7_copy_145 (Nat.le_of_ble_eq_true rfl) ?_
                        show V _ _ _ _ _ _ _ _ [_, _, _, _, _, _, _] _
                        have := loop2 m' 0 (by omega)
                        rw [show cw f3 f3 (24 * a + i') (24 * b + j') 0 = f3 from funext fun z => by unfold cw; rw [if_neg (by omega)], mset_self ((e1 _ (by omega)).trans a3)] at this
                        exact this
                    · rw [lcmp_le] at c101
                      exact out (fun z => p2.mp z.2 (Or.inr (Or.inr (Int64.not_le.mp c101))))
          · rw [if_pos c49] at hR
            subst hR hQ
            refine V_bipush F dX7_copy_52 kb_m14 ?_
            exact V_iret F rfl dX7_copy_54 rfl ⟨rfl, hI, fun _ _ => rfl, rfl⟩
        · exact null (Or.inr ((kd_neg k2.1).mp (Int32.not_le.mp c31)))
    · rw [bI_0] at c11
      exact bad (by rw [← hR, if_pos (Or.inr c11)])
end MOD4
