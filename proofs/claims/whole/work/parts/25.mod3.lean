theorem hasP_N {i m : Int32} {len : Nat} (hl : len ≤ 24) : hasP i m (nI len) = true ↔ ¬ (m < 0 ∨ i < 0 ∨ (nI len).toInt64 < i.toInt64 + m.toInt64) := by
  unfold hasP
  simp only [Bool.and_eq_true, decide_eq_true_eq]
  constructor
  · rintro ⟨h1, h2, h3⟩ (q | q | q)
    · exact absurd q (Int32.not_lt.mpr h2)
    · exact absurd q (Int32.not_lt.mpr h1)
    · exact absurd q (Int64.not_lt.mpr h3)
  · intro h
    exact ⟨Int32.not_lt.mp (fun q => h (Or.inr (Or.inl q))), Int32.not_lt.mp (fun q => h (Or.inl q)), Int64.not_lt.mp (fun q => h (Or.inr (Or.inr q)))⟩
def cw (f g : Nat → Int64) (sp dp i : Nat) : Nat → Int64 := fun z => if dp ≤ z ∧ z < dp + i then f (sp + (z - dp)) else g z
theorem cw_up {f g : Nat → Int64} {sp dp i : Nat} : va_up (cw f g sp dp i) (dp + i) (f (sp + i)) = cw f g sp dp (i + 1) := by
  funext z
  unfold va_up cw
  by_cases q : z = dp + i
  · subst q
    rw [if_pos rfl, if_pos (by omega)]
    congr 1
    omega
  · rw [if_neg q]
    by_cases q2 : dp ≤ z ∧ z < dp + i
    · rw [if_pos q2, if_pos (by omega)]
    · rw [if_neg q2, if_neg (by omega)]
theorem InvM.fill {G : GP} {M : Mem} {s : Sg} {lq : Int32} (h : InvM G M s lq) {a : Nat} (ha : a < 6) {k : Int32} {len : Nat} (hk : kdOk k) (hlen : len ≤ 24) {f1 f2 : Nat → Int32} {f3 : Nat → Int64} (b1 : ∀ r, r < 6 → f1 r = sKd s r) (b2 : ∀ r, r < 6 → f2 r = nI (sLn s r)) (b3 : ∀ r j, r < 6 → j < 24 → f3 (24 * r + j) = sPl s r j) : InvM G (mset (mset (mset M (gB G + 817) (eI (gT G) 6 (va_up f1 a k))) (gB G + 818) (eI (gT G) 6 (va_up f2 a (nI len)))) (gB G + 819) (eJ (gT G) 144 (bw f3 a 24))) (ubag s a k len (fun _ => 0)) lq := by
  obtain ⟨⟨st, pd, gd, hO⟩, hA, hJ, hg⟩ := h
  have e : ∀ z, z ≠ gB G + 817 → z ≠ gB G + 818 → z ≠ gB G + 819 → mset (mset (mset M (gB G + 817) (eI (gT G) 6 (va_up f1 a k))) (gB G + 818) (eI (gT G) 6 (va_up f2 a (nI len)))) (gB G + 819) (eJ (gT G) 144 (bw f3 a 24)) z = M z := fun z z1 z2 z3 => by rw [mset_ne _ _ z3, mset_ne _ _ z2, mset_ne _ _ z1]
  refine ⟨⟨st, pd, gd, (e _ (by omega) (by omega) (by omega)).trans hO⟩, hA.bag (g1 := va_up f1 a k) (g2 := va_up f2 a (nI len)) (g3 := bw f3 a 24) (by rw [mset_ne _ _ (by omega), mset_ne _ _ (by omega), mset_eq]) (fun c hc => ?_) (by rw [mset_ne _ _ (by omega), mset_eq]) (fun c hc => ?_) (mset_eq _ _ _) (fun c j hc hj => ?_) (fun i hi => e _ (by omega) (by omega) (by omega)), hJ.frame (fun i hi => ?_), hg.bag hk hlen⟩
  · unfold va_up; split
    · rfl
    · exact b1 c hc
  · unfold va_up; split
    · rfl
    · exact b2 c hc
  · unfold bw
    by_cases q : c = a
    · rw [if_pos (by omega), if_pos q]
    · rw [if_neg (by omega), if_neg q]; exact b3 c j hc hj
  · rcases hi with hi | hi
    · have := jl_c hi; exact e _ (by omega) (by omega) (by omega)
    · have := il_c hi; exact e _ (by omega) (by omega) (by omega)
section MOD3
variable {G : GP} {M : Mem} {n : Option Nat} {s : Sg} {lq : Int32}
theorem c_X7_bag (h : InvM G M s lq) (r k m : Int32) : Con G yX7_bag cX7_bag 5 (some .int) 2 0 0 [.ref (gB G + 816), .int r, .int k, .int m] M none (PM G M (S_bag s r k m).1 (S_bag s r k m).2 lq) := by
  have hI := h
  obtain ⟨⟨st, pd, gd, hO⟩, hA, hJ, hg⟩ := h
  have hA0 := hA
  obtain ⟨⟨f1, a1, b1⟩, ⟨f2, a2, b2⟩, ⟨f3, a3, b3⟩, -⟩ := hA
  generalize hR : S_bag s r k m = R
  unfold S_bag at hR
  refine Con.of (by decide +kernel) (Nat.le_of_ble_eq_true rfl) (fun X F hnm => ?_)
  show V G X 0 0 _ M _ 0 [some (.ref (gB G + 816)), some (.int r), some (.int k), some (.int m), none] []
  generalize hQ : BQ G X _ 0 0 = Q
  have bad : R = (-1, s) → V G X 0 0 Q M none 31 [some (.ref (gB G + 816)), some (.int r), some (.int k), some (.int m), none] [] := by
    intro z
    subst z
    subst hQ
    refine V_iconst F dX7_bag_31 ki_m1 ?_
    exact V_iret F rfl dX7_bag_32 rfl ⟨rfl, hI, fun _ _ => rfl, rfl⟩
  have mid : ¬ (inR r 6 = false ∨ k < -1 ∨ nI 2 < k) → ¬ (0 ≤ k ∧ nI 24 < m) → V G X 0 0 Q M none 33 [some (.ref (gB G + 816)), some (.int r), some (.int k), some (.int m), none] [] := by
    intro h1 h2
    rw [if_neg h1] at hR
    have hk := kd_ok (k := k) (fun z => h1 (Or.inr z))
    obtain ⟨a, ha, rfl⟩ := inR_t (x := r) (m := 6) (by omega) (by
      cases e : inR r 6 with
      | true => rfl
      | false => exact absurd (Or.inl e) h1)
    rw [ix_nI (by omega)] at hR
    have fill : ∀ (len : Nat), len ≤ 24 → R = (nI 0, ubag s a k len (fun _ => 0)) → V G X 0 0 Q (mset (mset M (gB G + 817) (eI (gT G) 6 (va_up f1 a k))) (gB G + 818) (eI (gT G) 6 (va_up f2 a (nI len)))) none 66 [some (.ref (gB G + 816)), some (.int (nI a)), some (.int k), some (.int m), none] [] := by
      intro len hlen hE
      have loop : ∀ q i : Nat, q + i = 24 → V G X 0 0 Q (mset (mset (mset M (gB G + 817) (eI (gT G) 6 (va_up f1 a k))) (gB G + 818) (eI (gT G) 6 (va_up f2 a (nI len)))) (gB G + 819) (eJ (gT G) 144 (bw f3 a i))) none 69 [some (.ref (gB G + 816)), some (.int (nI a)), some (.int k), some (.int m), some (.int (nI i))] [] := by
        intro q
        induction q with
        | zero =>
          intro i hi
          have hi : i = 24 := by omega
          subst hi
          subst hE
          subst hQ
          refine V_iload F dX7_bag_69 rfl ?_
          refine V_bipush F dX7_bag_71 kb_24 ?_
          refine V_icmp_ge F 95 dX7_bag_73 (by decide) (fun c73 => ?_) (fun c73 => absurd (by decide) c73)
          refine V_iconst F dX7_bag_95 ki_0 ?_
          exact V_iret F rfl dX7_bag_96 rfl ⟨rfl, hI.fill ha hk hlen b1 b2 b3, fun z hz => by rw [mset_ne _ _ (by omega), mset_ne _ _ (by omega), mset_ne _ _ (by omega)], rfl⟩
        | succ q ih =>
          intro i hi
          refine V_iload F dX7_bag_69 rfl ?_
          refine V_bipush F dX7_bag_71 kb_24 ?_
          refine V_icmp_ge F 95 dX7_bag_73 (by decide) (fun c73 => absurd c73 (nI_ge (by omega) (by omega))) (fun c73 => ?_)
          refine V_aload_n F dX7_bag_76 rfl ?_
          refine V_get F fl_X7_16 dX7_bag_77 ((mset_ne _ _ (by omega)).trans ((mset_ne _ _ (by omega)).trans ((mset_ne _ _ (by omega)).trans hO))) rfl ?_
          refine V_bipush F dX7_bag_80 kb_24 ?_
          refine V_iload_n F dX7_bag_82 rfl ?_
          refine V_imul F dX7_bag_83 ?_
          rw [pk_mul]
          refine V_iload F dX7_bag_84 rfl ?_
          refine V_iadd F dX7_bag_86 ?_
          refine V_lconst F dX7_bag_87 (v := 0) (by decide) ?_
          rw [show nI (24 * a) + nI i = nI (24 * a + i) from nI_add _ _]
          refine V_lastN F dX7_bag_88 (mset_eq _ _ _) _ (by first | (simp only [pk_mul, nI_add, nI_1, nI_inc]; done) | (simp only [pk_mul, nI_add, nI_1, nI_inc]; rfl) | rfl) (by omega) (by omega) ?_
          rw [mset_mset, bw_up]
          refine V_iinc1 F dX7_bag_89 rfl ?_
          show V _ _ _ _ _ _ _ _ [_, _, _, _, _] _
          refine V_goto F 69 dX7_bag_92 (by decide) ?_
          exact ih (i + 1) (by omega)
      refine V_iconst F dX7_bag_66 ki_0 ?_
      refine V_istore F dX7_bag_67 (Nat.le_of_ble_eq_true rfl) ?_
      show V _ _ _ _ _ _ _ _ [_, _, _, _, _] _
      have := loop 24 0 rfl
      rw [show bw f3 a 0 = f3 from funext fun z => by unfold bw; rw [if_neg (by omega)], mset_self (by rw [mset_ne _ _ (by omega), mset_ne _ _ (by omega)]; exact a3)] at this
      exact this
    refine V_iload_n F dX7_bag_33 rfl ?_
    refine V_if_lt F 44 dX7_bag_34 (by decide) (fun c34 => ?_) (fun c34 => ?_)
    · -- k < 0
      have c34 := (kd_neg hk).mp c34
      rw [if_pos c34] at hR
      subst c34
      refine V_aload_n F dX7_bag_44 rfl ?_
      refine V_get F fl_X7_7 dX7_bag_45 (by assumption) rfl ?_
      refine V_iload_n F dX7_bag_48 rfl ?_
      refine V_iload_n F dX7_bag_49 rfl ?_
      refine V_iastN F dX7_bag_50 (by assumption) _ (by first | (simp only [pk_mul, nI_add, nI_1, nI_inc]; done) | (simp only [pk_mul, nI_add, nI_1, nI_inc]; rfl) | rfl) (by omega) (by omega) ?_
      refine V_aload_n F dX7_bag_51 rfl ?_
      refine V_get F fl_X7_13 dX7_bag_52 ((mset_ne _ _ (by omega)).trans hO) rfl ?_
      refine V_iload_n F dX7_bag_55 rfl ?_
      refine V_iload_n F dX7_bag_56 rfl ?_
      refine V_if_ge F 64 dX7_bag_57 (by decide) (fun c57 => absurd c57 (by decide)) (fun c57 => ?_)
      have := fill 0 (by omega) hR.symm
      refine V_iconst F dX7_bag_60 ki_0 ?_
      refine V_goto F 65 dX7_bag_61 (by decide) ?_
      refine V_iastN F dX7_bag_65 ((mset_ne _ _ (by omega)).trans a2) _ (by first | (simp only [pk_mul, nI_add, nI_1, nI_inc]; done) | (simp only [pk_mul, nI_add, nI_1, nI_inc]; rfl) | rfl) (by omega) (by omega) ?_
      exact this
    · have c34' := Int32.not_lt.mp c34
      rw [if_neg (fun z => absurd ((kd_neg hk).mpr z) c34), if_neg (fun z => h2 ⟨c34', z⟩)] at hR
      have close : ∀ q, q ≤ 24 → m = nI q → V G X 0 0 Q M none 44 [some (.ref (gB G + 816)), some (.int (nI a)), some (.int k), some (.int m), none] [] := by
        intro q hq hm
        subst hm
        rw [if_neg (nI_pos (by omega)), ix_nI (by omega)] at hR
        refine V_aload_n F dX7_bag_44 rfl ?_
        refine V_get F fl_X7_7 dX7_bag_45 (by assumption) rfl ?_
        refine V_iload_n F dX7_bag_48 rfl ?_
        refine V_iload_n F dX7_bag_49 rfl ?_
        refine V_iastN F dX7_bag_50 (by assumption) _ (by first | (simp only [pk_mul, nI_add, nI_1, nI_inc]; done) | (simp only [pk_mul, nI_add, nI_1, nI_inc]; rfl) | rfl) (by omega) (by omega) ?_
        refine V_aload_n F dX7_bag_51 rfl ?_
        refine V_get F fl_X7_13 dX7_bag_52 ((mset_ne _ _ (by omega)).trans hO) rfl ?_
        refine V_iload_n F dX7_bag_55 rfl ?_
        refine V_iload_n F dX7_bag_56 rfl ?_
        refine V_if_ge F 64 dX7_bag_57 (by decide) (fun c57 => ?_) (fun c57 => absurd c34' c57)
        have := fill q hq hR.symm
        refine V_iload_n F dX7_bag_64 rfl ?_
        refine V_iastN F dX7_bag_65 ((mset_ne _ _ (by omega)).trans a2) _ (by first | (simp only [pk_mul, nI_add, nI_1, nI_inc]; done) | (simp only [pk_mul, nI_add, nI_1, nI_inc]; rfl) | rfl) (by omega) (by omega) ?_
        exact this
      refine V_iload_n F dX7_bag_37 rfl ?_
      refine V_if_ge F 44 dX7_bag_38 (by decide) (fun c38 => ?_) (fun c38 => ?_)
      · obtain ⟨q, hq, rfl⟩ := nI_of (Int32.not_lt.mpr c38)
        exact close q ((nI_leI (b := 24) (by omega) (by omega)).mp (Int32.not_lt.mp (fun z => h2 ⟨c34', z⟩))) rfl
      · rw [if_pos (Int32.not_le.mp c38)] at hR
        subst hR
        subst hQ
        refine V_bipush F dX7_bag_41 kb_m13 ?_
        exact V_iret F rfl dX7_bag_43 rfl ⟨rfl, hI, fun _ _ => rfl, rfl⟩
  refine V_iload_n F dX7_bag_0 rfl ?_
  refine V_isR F is_X7_67 dX7_bag_1 (As := [_]) (c_X7_isBag _) rfl rfl rfl ?_
  refine V_if_eq F 31 dX7_bag_4 (by decide) (fun c4 => ?_) (fun c4 => ?_)
  · rw [bI_0] at c4
    exact bad (by rw [← hR, if_pos (Or.inl c4)])
  · rw [bI_n] at c4
    refine V_iload_n F dX7_bag_7 rfl ?_
    refine V_i2l F dX7_bag_8 ?_
    refine V_ldc2 F dX7_bag_9 kl_X7_71 ?_
    refine V_ldc2 F dX7_bag_12 kl_X7_73 ?_
    refine V_isR F is_X7_63 dX7_bag_15 (As := [_, _, _]) (c_X7_in _ _ _) rfl rfl rfl ?_
    refine V_if_eq F 31 dX7_bag_18 (by decide) (fun c18 => ?_) (fun c18 => ?_)
    · rw [bI_0] at c18
      have c18 : ¬ ¬ (k < -1 ∨ nI 2 < k) := fun z => by rw [kd_in.mpr z] at c18; cases c18
      exact bad (by rw [← hR, if_pos (Or.inr (Classical.not_not.mp c18))])
    · rw [bI_n] at c18
      have c18 := kd_in.mp c18
      have h1 : ¬ (inR r 6 = false ∨ k < -1 ∨ nI 2 < k) := fun z => by
        rcases z with z | z
        · rw [c4] at z; cases z
        · exact c18 z
      refine V_iload_n F dX7_bag_21 rfl ?_
      refine V_if_lt F 33 dX7_bag_22 (by decide) (fun c22 => ?_) (fun c22 => ?_)
      · exact mid h1 (fun z => absurd z.1 (Int32.not_le.mpr c22))
      · refine V_iload_n F dX7_bag_25 rfl ?_
        refine V_bipush F dX7_bag_26 kb_24 ?_
        refine V_icmp_le F 33 dX7_bag_28 (by decide) (fun c28 => ?_) (fun c28 => ?_)
        · exact mid h1 (fun z => absurd z.2 (Int32.not_lt.mpr c28))
        · refine bad ?_
          rw [← hR, if_neg h1, if_neg (fun z => by subst z; exact absurd c22 (by decide)), if_pos (Int32.not_le.mp c28)]
end MOD3
