theorem in_i64 {x : Int64} (h1 : -2147483648 ≤ x.toInt) (h2 : x.toInt < 2147483648) : x.toInt32.toInt64 = x := by
  apply Int64.toInt_inj.mp
  rw [Int32.toInt_toInt64, Int64.toInt_toInt32]
  exact bm32 (by omega) (by omega)
theorem in_b {x : Int64} (h : bRef x = false) : x.toInt32.toInt64 = x := by
  have := bRef_in h
  exact in_i64 (by omega) (by omega)
theorem pRef_in {x : Int64} (h : pRef x = false) : -50000 ≤ x.toInt ∧ x.toInt ≤ 50000 := by
  unfold pRef at h
  simp only [Bool.or_eq_false_iff, decide_eq_false_iff_not] at h
  obtain ⟨h2, h3⟩ := h
  rw [Int64.lt_iff_toInt_lt] at h2 h3
  have e1 : (-50000 : Int64).toInt = -50000 := by decide
  have e2 : (50000 : Int64).toInt = 50000 := by decide
  omega
theorem in_p {x : Int64} (h : pRef x = false) : x.toInt32.toInt64 = x := by
  have := pRef_in h
  exact in_i64 (by omega) (by omega)
theorem coin_in {c : Qd} {i : Nat} (h1 : bRef (c i 0) = false) (h2 : plR c i = false) : ∀ w, w < 3 → (c i w).toInt32.toInt64 = c i w := fun w hw => by
  unfold plR at h2
  rw [Bool.or_eq_false_iff] at h2
  have hw' : w = 0 ∨ w = 1 ∨ w = 2 := by omega
  rcases hw' with rfl | rfl | rfl
  · exact in_b h1
  · exact in_p h2.1
  · exact in_p h2.2
theorem rfs_0 {c : Qd} (h : rfs c = 0) : bRefs c = false ∧ plRs c = false ∧ bst c = true ∧ ¬ 1 < nng c 4 ∧ ¬ 1 < dvs c 4 ∧ tall c = true := by
  unfold rfs at h
  split at h
  · exact absurd h (by decide)
  · split at h
    · exact absurd h (by decide)
    · split at h
      · exact absurd h (by decide)
      · split at h
        · exact absurd h (by decide)
        · split at h
          · exact absurd h (by decide)
          · split at h
            · exact absurd h (by decide)
            · simp_all
theorem qIn_of {c : Qd} (h1 : bRefs c = false) (h2 : plRs c = false) : qIn c := by
  unfold bRefs at h1
  unfold plRs at h2
  simp only [Bool.or_eq_false_iff] at h1 h2
  obtain ⟨a0, a1, a2, a3⟩ := h1
  obtain ⟨p0, p1, p2, p3⟩ := h2
  intro j w hj hw
  have hj' : j = 0 ∨ j = 1 ∨ j = 2 ∨ j = 3 := by omega
  rcases hj' with rfl | rfl | rfl | rfl
  · exact coin_in a0 p0 w hw
  · exact coin_in a1 p1 w hw
  · exact coin_in a2 p2 w hw
  · exact coin_in a3 p3 w hw
theorem cRef_0 {c : Qd} {i : Nat} (h : cRef c i = 0) : bRef (c i 0) = false ∧ plR c i = false := by
  unfold cRef at h
  split at h
  · exact absurd h (by decide)
  · split at h
    · exact absurd h (by decide)
    · simp_all
theorem qIn_turn {c : Qd} {i : Nat} (h : qIn c) (hr : cRef (turnc c i) i = 0) : qIn (turnc c i) := by
  obtain ⟨h1, h2⟩ := cRef_0 hr
  intro j w hj hw
  by_cases q : j = i
  · subst q; exact coin_in h1 h2 w hw
  · have : turnc c i j w = c j w := by unfold turnc; rw [if_neg (fun z => q z.1)]
    rw [this]
    exact h j w hj hw
section MOD8
variable {G : GP} {M : Mem} {s : Sg} {lq : Int32}
theorem c_X7_quad (h : InvM G M s lq) (r i : Int32) : Con G yX7_quad cX7_quad 5 (some .int) 4 0 0 [.ref (gB G + 816), .int r, .int i] M none (PM G M (S_quad s r i).1 (S_quad s r i).2 lq) := by
  have hI := h
  obtain ⟨⟨st, pd, gd', hO⟩, hA, hJ, hg⟩ := h
  obtain ⟨⟨f1, a1, b1⟩, ⟨f2, a2, b2⟩, ⟨f3, a3, b3⟩, -⟩ := hA
  obtain ⟨f6, a6⟩ := hJ.1 822 (by decide)
  have a6 : M (gB G + 822) = some (eJ (gT G) 12 f6) := a6
  have h60 := hg.2.1
  generalize hR : S_quad s r i = R
  unfold S_quad at hR
  refine Con.of (by decide +kernel) (Nat.le_of_ble_eq_true rfl) (fun X F hnm => ?_)
  show V G X 0 0 _ M _ 0 [some (.ref (gB G + 816)), some (.int r), some (.int i), none, none] []
  generalize hQ : BQ G X _ 0 0 = Q
  refine V_iload_n F dX7_quad_0 rfl ?_
  refine V_isR F is_X7_67 dX7_quad_1 (As := [_]) (c_X7_isBag _) rfl rfl rfl ?_
  refine V_if_ne F 9 dX7_quad_4 (by decide) (fun c4 => ?_) (fun c4 => ?_)
  · rw [bI_n] at c4
    obtain ⟨a, ha, rfl⟩ := inR_t (by omega) c4
    have er : rop s (nI a) i (nI 12) = if sKd s a = -1 then -11 else if hasP i (nI 12) (nI (sLn s a)) = true then nI 0 else -12 := by
      unfold rop
      rw [c4, if_neg (by decide), ix_nI (by omega)]
    have k1 := hg.1 a ha
    refine V_aload_n F dX7_quad_9 rfl ?_
    refine V_get F fl_X7_7 dX7_quad_10 (by assumption) rfl ?_
    refine V_iload_n F dX7_quad_13 rfl ?_
    refine V_ialdN F dX7_quad_14 (by assumption) _ (by first | (simp only [pk_mul, nI_add, nI_1, nI_inc]; done) | (simp only [pk_mul, nI_add, nI_1, nI_inc]; rfl) | rfl) (by omega) (by omega) ?_
    rw [b1 a ha]
    refine V_if_ge F 21 dX7_quad_15 (by decide) (fun c15 => ?_) (fun c15 => ?_)
    · have hk : ¬ sKd s a = -1 := fun z => absurd ((kd_neg k1.1).mpr z) (Int32.not_lt.mpr c15)
      rw [if_neg hk] at er
      have p1 := hasP_N (i := i) (m := nI 12) k1.2
      have out : ¬ hasP i (nI 12) (nI (sLn s a)) = true → V G X 0 0 Q M none 42 [some (.ref (gB G + 816)), some (.int (nI a)), some (.int i), none, none] [] := by
        intro z
        rw [if_neg z] at er
        rw [er, if_neg (by decide)] at hR
        subst hR hQ
        refine V_bipush F dX7_quad_42 kb_m12 ?_
        exact V_iret F rfl dX7_quad_44 rfl ⟨rfl, hI, fun _ _ => rfl, rfl⟩
      refine V_iload_n F dX7_quad_21 rfl ?_
      refine V_if_lt F 42 dX7_quad_22 (by decide) (fun c22 => ?_) (fun c22 => ?_)
      · exact out (fun z => p1.mp z (Or.inr (Or.inl c22)))
      · refine V_iload_n F dX7_quad_25 rfl ?_
        refine V_i2l F dX7_quad_26 ?_
        refine V_ldc2 F dX7_quad_27 kl_X7_105 ?_
        refine V_ladd F dX7_quad_30 ?_
        refine V_aload_n F dX7_quad_31 rfl ?_
        refine V_get F fl_X7_13 dX7_quad_32 (by assumption) rfl ?_
        refine V_iload_n F dX7_quad_35 rfl ?_
        refine V_ialdN F dX7_quad_36 (by assumption) _ (by first | (simp only [pk_mul, nI_add, nI_1, nI_inc]; done) | (simp only [pk_mul, nI_add, nI_1, nI_inc]; rfl) | rfl) (by omega) (by omega) ?_
        rw [b2 a ha]
        refine V_i2l F dX7_quad_37 ?_
        refine V_lcmp F dX7_quad_38 ?_
        refine V_if_le F 45 dX7_quad_39 (by decide) (fun c39 => ?_) (fun c39 => ?_)
        · rw [lcmp_le] at c39
          have hp : hasP i (nI 12) (nI (sLn s a)) = true := p1.mpr (fun z => by
            rcases z with z | z | z
            · exact absurd z (by decide)
            · exact c22 z
            · exact absurd z (Int64.not_lt.mpr c39))
          obtain ⟨b, b', rfl, e12, hab⟩ := hasP_t (by have := k1.2; omega) hp
          rw [if_pos hp] at er
          rw [er, if_pos (show nI 0 = 0 from rfl), ix_nI (by have := k1.2; omega), ix_nI (by omega)] at hR
          have hb' : 12 = b' := by
            by_cases q : b' < 2 ^ 31
            · exact (nI_eq (by omega) q).mp e12
            · have := k1.2; omega
          subst hb'
          have hln := k1.2
          generalize hC : cof (sPl s a) b = C at hR
          have hv : ∀ k w, k < 4 → w < 3 → f3 (24 * a + b + 4 * w + k) = mc C (3 * k + w) := fun k w hk hw => by
            rw [mc_at hw, ← hC, show 24 * a + b + 4 * w + k = 24 * a + (b + (4 * w + k)) by omega, b3 a _ ha (by omega)]
            rfl
          have step : ∀ k w, k < 4 → w < 3 → (∀ f, (∀ z, z < 3 * k + (w + 1) → f z = mc C z) → V G X 0 0 Q (mset M (gB G + 822) (eJ (gT G) 12 f)) none 55 [some (.ref (gB G + 816)), some (.int (nI a)), some (.int (nI b)), some (.int (nI k)), some (.int (nI (w + 1)))] []) → ∀ f, (∀ z, z < 3 * k + w → f z = mc C z) → V G X 0 0 Q (mset M (gB G + 822) (eJ (gT G) 12 f)) none 55 [some (.ref (gB G + 816)), some (.int (nI a)), some (.int (nI b)), some (.int (nI k)), some (.int (nI w))] [] := by
            intro k w hk hw kk f hf
            refine V_iload F dX7_quad_55 rfl ?_
            refine V_iconst F dX7_quad_57 ki_3 ?_
            refine V_icmp_ge F 96 dX7_quad_58 (by decide) (fun c58 => absurd c58 (nI_ge hw (by omega))) (fun c58 => ?_)
            refine V_aload_n F dX7_quad_61 rfl ?_
            refine V_get F fl_X7_26 dX7_quad_62 ((mset_ne _ _ (by omega)).trans hO) rfl ?_
            refine V_iconst F dX7_quad_65 ki_3 ?_
            refine V_iload_n F dX7_quad_66 rfl ?_
            refine V_imul F dX7_quad_67 ?_
            refine V_iload F dX7_quad_68 rfl ?_
            refine V_iadd F dX7_quad_70 ?_
            refine V_aload_n F dX7_quad_71 rfl ?_
            refine V_get F fl_X7_16 dX7_quad_72 ((mset_ne _ _ (by omega)).trans hO) rfl ?_
            refine V_bipush F dX7_quad_75 kb_24 ?_
            refine V_iload_n F dX7_quad_77 rfl ?_
            refine V_imul F dX7_quad_78 ?_
            refine V_iload_n F dX7_quad_79 rfl ?_
            refine V_iadd F dX7_quad_80 ?_
            refine V_iconst F dX7_quad_81 ki_4 ?_
            refine V_iload F dX7_quad_82 rfl ?_
            refine V_imul F dX7_quad_84 ?_
            refine V_iadd F dX7_quad_85 ?_
            refine V_iload_n F dX7_quad_86 rfl ?_
            refine V_iadd F dX7_quad_87 ?_
            refine V_laldN F dX7_quad_88 ((mset_ne _ _ (by omega)).trans a3) (24 * a + b + 4 * w + k) (by first | (simp only [pk_mul, nI_add, nI_1, nI_inc]; done) | (simp only [pk_mul, nI_add, nI_1, nI_inc]; rfl) | rfl) (by omega) (by omega) ?_
            rw [hv k w hk hw]
            refine V_lastN F dX7_quad_89 (mset_eq _ _ _) (3 * k + w) (by first | (simp only [pk_mul, nI_add, nI_1, nI_inc]; done) | (simp only [pk_mul, nI_add, nI_1, nI_inc]; rfl) | rfl) (by omega) (by omega) ?_
            rw [mset_mset]
            refine V_iinc1 F dX7_quad_90 rfl ?_
            show V _ _ _ _ _ _ _ _ [_, _, _, _, _] _
            refine V_goto F 55 dX7_quad_93 (by decide) ?_
            refine kk _ (fun z hz => ?_)
            unfold va_up
            by_cases q : z = 3 * k + w
            · rw [if_pos q, q]
            · rw [if_neg q]; exact hf z (by omega)
          have inn : ∀ k, k < 4 → (∀ f, (∀ z, z < 3 * k + 3 → f z = mc C z) → V G X 0 0 Q (mset M (gB G + 822) (eJ (gT G) 12 f)) none 55 [some (.ref (gB G + 816)), some (.int (nI a)), some (.int (nI b)), some (.int (nI k)), some (.int (nI 3))] []) → ∀ f, (∀ z, z < 3 * k → f z = mc C z) → V G X 0 0 Q (mset M (gB G + 822) (eJ (gT G) 12 f)) none 47 [some (.ref (gB G + 816)), some (.int (nI a)), some (.int (nI b)), some (.int (nI k)), none] [] := by
            intro k hk kk f hf
            refine V_iload_n F dX7_quad_47 rfl ?_
            refine V_iconst F dX7_quad_48 ki_4 ?_
            refine V_icmp_ge F 102 dX7_quad_49 (by decide) (fun c49 => absurd c49 (nI_ge hk (by omega))) (fun c49 => ?_)
            refine V_iconst F dX7_quad_52 ki_0 ?_
            refine V_istore F dX7_quad_53 (Nat.le_of_ble_eq_true rfl) ?_
            show V _ _ _ _ _ _ _ _ [_, _, _, _, _] _
            exact step k 0 hk (by omega) (step k 1 hk (by omega) (step k 2 hk (by omega) kk)) f hf
          have out1 : ∀ k, k < 4 → (∀ f, (∀ z, z < 3 * (k + 1) → f z = mc C z) → V G X 0 0 Q (mset M (gB G + 822) (eJ (gT G) 12 f)) none 47 [some (.ref (gB G + 816)), some (.int (nI a)), some (.int (nI b)), some (.int (nI (k + 1))), none] []) → ∀ f, (∀ z, z < 3 * k → f z = mc C z) → V G X 0 0 Q (mset M (gB G + 822) (eJ (gT G) 12 f)) none 47 [some (.ref (gB G + 816)), some (.int (nI a)), some (.int (nI b)), some (.int (nI k)), none] [] := by
            intro k hk kk
            refine inn k hk (fun f hf => ?_)
            refine V_iload F dX7_quad_55 rfl ?_
            refine V_iconst F dX7_quad_57 ki_3 ?_
            refine V_icmp_ge F 96 dX7_quad_58 (by decide) (fun c58 => ?_) (fun c58 => absurd (by decide) c58)
            refine V_iinc1 F dX7_quad_96 rfl ?_
            show V _ _ _ _ _ _ _ _ [_, _, _, _, _] _
            refine V_goto F 47 dX7_quad_99 (by decide) ?_
            exact V_drop 4 (kk f (fun z hz => hf z (by omega)))
          refine V_iconst F dX7_quad_45 ki_0 ?_
          refine V_istore_n F dX7_quad_46 (Nat.le_of_ble_eq_true rfl) ?_
          show V _ _ _ _ _ _ _ _ [_, _, _, _, _] _
          have := out1 0 (by omega) (out1 1 (by omega) (out1 2 (by omega) (out1 3 (by omega) (fun f hf => ?_)))) f6 (fun z hz => by omega)
          · rw [mset_self a6] at this
            exact this
          · refine V_iload_n F dX7_quad_47 rfl ?_
            refine V_iconst F dX7_quad_48 ki_4 ?_
            refine V_icmp_ge F 102 dX7_quad_49 (by decide) (fun c49 => ?_) (fun c49 => absurd (by decide) c49)
            refine V_mem (fun H hm => mem_J (g := mc C) (fun z hz => hf z (by omega)) hm) ?_
            have hI1 := hI.setJ 822 (n := 12) rfl (by omega) (mc C)
            have e6 := mset_eq M (gB G + 822) (eJ (gT G) 12 (mc C))
            have fr1 : ∀ z, z ≠ gB G + 822 → mset M (gB G + 822) (eJ (gT G) 12 (mc C)) z = M z := fun z hz => mset_ne _ _ hz
            generalize mset M (gB G + 822) (eJ (gT G) 12 (mc C)) = M1 at hI1 e6 fr1 ⊢
            have O1 := (fr1 (gB G + 816) (by omega)).trans hO
            refine V_aload_n F dX7_quad_102 rfl ?_
            refine V_ivR F iv_X7_107 dX7_quad_103 (As := []) (c_X7_againstFour O1 e6) (by assumption) rfl rfl rfl rfl ?_
            refine V_istore_n F dX7_quad_106 (Nat.le_of_ble_eq_true rfl) ?_
            show V _ _ _ _ _ _ _ _ [_, _, _, _, _] _
            refine V_iload_n F dX7_quad_107 rfl ?_
            by_cases hz : rfs C = 0
            · rw [if_pos hz] at hR
              rw [hz]
              refine V_if_eq F 115 dX7_quad_108 (by decide) (fun c108 => ?_) (fun c108 => absurd rfl c108)
              refine V_aload_n F dX7_quad_115 rfl ?_
              refine V_get F fl_X7_79 dX7_quad_116 (by assumption) rfl ?_
              refine V_bipush F dX7_quad_119 kb_60 ?_
              refine V_icmp_ne F 129 dX7_quad_121 (by decide) (fun c121 => ?_) (fun c121 => ?_)
              · have c121 : sNq s < 60 := by
                  have : sNq s ≠ 60 := fun q => c121 (by rw [q])
                  omega
                rw [if_pos c121] at hR
                refine V_aload_n F dX7_quad_129 rfl ?_
                refine V_bipush F dX7_quad_130 kb_m3 ?_
                refine V_ivP F iv_X7_111 dX7_quad_132 (As := [_]) (c_X7_newQuad hI1 e6 c121 (qIn_of (rfs_0 hz).1 (rfs_0 hz).2.1) (-3) (sn C)) O1 rfl rfl rfl rfl ?_
                rintro v M3 n3 ⟨rfl, hI3, hf3, rfl⟩
                subst hR hQ
                exact V_iret F rfl dX7_quad_135 rfl ⟨rfl, hI3, fun z hz => (hf3 z hz).trans (fr1 z (by omega)), rfl⟩
              · have c121 : ¬ sNq s < 60 := by have := (nI_eq (b := 60) (by omega) (by omega)).mp c121; omega
                rw [if_neg c121] at hR
                subst hR hQ
                refine V_bipush F dX7_quad_124 kb_m2 ?_
                refine V_goto F 135 dX7_quad_126 (by decide) ?_
                exact V_iret F rfl dX7_quad_135 rfl ⟨rfl, hI1, fun z hz => fr1 z (by omega), rfl⟩
            · rw [if_neg hz] at hR
              subst hR hQ
              refine V_if_eq F 115 dX7_quad_108 (by decide) (fun c108 => absurd c108 hz) (fun c108 => ?_)
              refine V_iload_n F dX7_quad_111 rfl ?_
              refine V_goto F 135 dX7_quad_112 (by decide) ?_
              exact V_iret F rfl dX7_quad_135 rfl ⟨rfl, hI1, fun z hz => fr1 z (by omega), rfl⟩
        · rw [lcmp_le] at c39
          exact out (fun z => p1.mp z (Or.inr (Or.inr (Int64.not_le.mp c39))))
    · have hk : sKd s a = -1 := (kd_neg k1.1).mp (Int32.not_le.mp c15)
      rw [if_pos hk] at er
      rw [er, if_neg (by decide)] at hR
      subst hR hQ
      refine V_bipush F dX7_quad_18 kb_m11 ?_
      exact V_iret F rfl dX7_quad_20 rfl ⟨rfl, hI, fun _ _ => rfl, rfl⟩
  · rw [bI_0] at c4
    have er : rop s r i (nI 12) = -1 := by unfold rop; rw [if_pos c4]
    rw [er, if_neg (by decide)] at hR
    subst hR hQ
    refine V_iconst F dX7_quad_7 ki_m1 ?_
    exact V_iret F rfl dX7_quad_8 rfl ⟨rfl, hI, fun _ _ => rfl, rfl⟩
end MOD8
