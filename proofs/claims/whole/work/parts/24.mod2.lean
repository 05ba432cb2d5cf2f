theorem mA.bag {G : GP} {M M' : Mem} {s : Sg} (h : mA G M s) {r : Nat} {k : Int32} {len : Nat} {p : Nat → Int64} {g1 g2 : Nat → Int32} {g3 : Nat → Int64} (h1 : M' (gB G + 817) = some (eI (gT G) 6 g1)) (e1 : ∀ a, a < 6 → g1 a = if a = r then k else sKd s a) (h2 : M' (gB G + 818) = some (eI (gT G) 6 g2)) (e2 : ∀ a, a < 6 → g2 a = if a = r then nI len else nI (sLn s a)) (h3 : M' (gB G + 819) = some (eJ (gT G) 144 g3)) (e3 : ∀ a j, a < 6 → j < 24 → g3 (24 * a + j) = if a = r then p j else sPl s a j) (e4 : ∀ i, i = 820 ∨ i = 821 ∨ i = 824 → M' (gB G + i) = M (gB G + i)) : mA G M' (ubag s r k len p) := by
  obtain ⟨-, -, -, ⟨f4, a4, b4⟩, ⟨f5, a5, b5⟩, ⟨f6, a6, b6⟩⟩ := h
  refine ⟨⟨g1, h1, fun a ha => (e1 a ha).trans ?_⟩, ⟨g2, h2, fun a ha => (e2 a ha).trans ?_⟩, ⟨g3, h3, fun a j ha hj => (e3 a j ha hj).trans ?_⟩, ⟨f4, (e4 _ (by omega)).trans a4, b4⟩, ⟨f5, (e4 _ (by omega)).trans a5, b5⟩, ⟨f6, (e4 _ (by omega)).trans a6, b6⟩⟩
  · rfl
  · simp only [ubag, sLn]; split <;> rfl
  · simp only [ubag, sPl]; split <;> rfl
theorem gOk.bag {s : Sg} (h : gOk s) {r : Nat} {k : Int32} {len : Nat} {p : Nat → Int64} (hk : kdOk k) (hl : len ≤ 24) : gOk (ubag s r k len p) := by
  obtain ⟨h1, h2, h3, h4⟩ := h
  refine ⟨fun a ha => ?_, h2, h3, h4⟩
  simp only [ubag, sKd, sLn]
  constructor
  · split
    · exact hk
    · exact (h1 a ha).1
  · split
    · exact hl
    · exact (h1 a ha).2
theorem kd_in {k : Int32} : inL k.toInt64 (-1) 2 = true ↔ ¬ (k < -1 ∨ nI 2 < k) := by
  unfold inL
  simp only [Bool.and_eq_true, decide_eq_true_eq]
  rw [Int64.le_iff_toInt_le, Int64.le_iff_toInt_le, Int32.lt_iff_toInt_lt, Int32.lt_iff_toInt_lt, Int32.toInt_toInt64, nI_toInt (by omega), show (-1 : Int64).toInt = -1 by decide, show (2 : Int64).toInt = 2 by decide, show (-1 : Int32).toInt = -1 by decide]
  omega
theorem kd_ok {k : Int32} (h : ¬ (k < -1 ∨ nI 2 < k)) : kdOk k := by
  rw [Int32.lt_iff_toInt_lt, Int32.lt_iff_toInt_lt, nI_toInt (by omega), show (-1 : Int32).toInt = -1 by decide] at h
  have hc : k.toInt = -1 ∨ k.toInt = 0 ∨ k.toInt = 1 ∨ k.toInt = 2 := by omega
  rcases hc with q | q | q | q
  · exact Or.inl (Int32.toInt_inj.mp (q.trans (by decide)))
  · exact Or.inr (Or.inl (Int32.toInt_inj.mp (q.trans (by decide))))
  · exact Or.inr (Or.inr (Or.inl (Int32.toInt_inj.mp (q.trans (by decide)))))
  · exact Or.inr (Or.inr (Or.inr (Int32.toInt_inj.mp (q.trans (by decide)))))
theorem kd_neg {k : Int32} (h : kdOk k) : k < 0 ↔ k = -1 := by
  rcases h with rfl | rfl | rfl | rfl <;> decide
def bw (f : Nat → Int64) (r i : Nat) : Nat → Int64 := fun z => if 24 * r ≤ z ∧ z < 24 * r + i then 0 else f z
theorem bw_up {f : Nat → Int64} {r i : Nat} : va_up (bw f r i) (24 * r + i) 0 = bw f r (i + 1) := by
  funext z
  unfold va_up bw
  by_cases q : z = 24 * r + i
  · rw [if_pos q, if_pos (by omega)]
  · rw [if_neg q]
    by_cases q2 : 24 * r ≤ z ∧ z < 24 * r + i
    · rw [if_pos q2, if_pos (by omega)]
    · rw [if_neg q2, if_neg (by omega)]
/-- against() of the model is the class's refusal of one place -/
theorem hasP_1 {i : Int32} {len : Nat} (hl : len ≤ 24) : inL i.toInt64 0 (nI len - nI 1).toInt64 = hasP i (nI 1) (nI len) := by
  have e : (nI len - nI 1).toInt64.toInt = (len : Int) - 1 := by
    rw [Int32.toInt_toInt64, pk_sub_toInt (by omega) (by omega)]
    rfl
  unfold inL hasP
  have e0 : (0 : Int64).toInt = 0 := by decide
  have e1 : (0 : Int32).toInt = 0 := by decide
  have hi1 : (-2147483648 : Int) ≤ i.toInt := Int32.le_toInt i
  have hi2 : i.toInt < 2147483648 := Int32.toInt_lt i
  have s1 : (i.toInt64 + (nI 1).toInt64).toInt = i.toInt + 1 := by
    rw [Int64.toInt_add, Int32.toInt_toInt64, Int32.toInt_toInt64, nI_toInt (by omega)]
    exact bm64 (by omega) (by omega)
  rw [show decide ((0 : Int32) ≤ nI 1) = true by decide, Bool.true_and]
  congr 1
  · apply decide_eq_decide.mpr
    rw [Int64.le_iff_toInt_le, Int32.le_iff_toInt_le, Int32.toInt_toInt64, e0, e1]
  · apply decide_eq_decide.mpr
    rw [Int64.le_iff_toInt_le, Int64.le_iff_toInt_le, s1, e, Int32.toInt_toInt64, Int32.toInt_toInt64, nI_toInt (by omega)]
    omega
section MOD2
variable {G : GP} {M : Mem} {n : Option Nat} {s : Sg} {lq : Int32}
theorem c_X7_against (h : InvM G M s lq) (r i : Int32) : Con G yX7_against cX7_against 3 (some .int) 2 0 0 [.ref (gB G + 816), .int r, .int i] M n (R1 (some (.int (rop s r i (nI 1)))) M n) := by
  obtain ⟨⟨st, pd, gd, hO⟩, ⟨⟨f1, a1, b1⟩, ⟨f2, a2, b2⟩, -⟩, hJ, ⟨g1, -⟩⟩ := h
  generalize hR : rop s r i (nI 1) = R
  unfold rop at hR
  refine Con.of (by decide +kernel) (Nat.le_of_ble_eq_true rfl) (fun X F hnm => ?_)
  show V G X 0 0 _ M _ 0 [some (.ref (gB G + 816)), some (.int r), some (.int i)] []
  refine V_iload_n F dX7_against_0 rfl ?_
  refine V_isR F is_X7_67 dX7_against_1 (As := [_]) (c_X7_isBag _) rfl rfl rfl ?_
  refine V_if_ne F 11 dX7_against_4 (by decide) (fun c4 => ?_) (fun c4 => ?_)
  · rw [bI_n] at c4
    rw [if_neg (by rw [c4]; decide)] at hR
    obtain ⟨k, hk, rfl⟩ := inR_t (by omega) c4
    rw [ix_nI (by omega)] at hR
    obtain ⟨k1, k2⟩ := g1 k hk
    refine V_aload_n F dX7_against_11 rfl ?_
    refine V_get F fl_X7_7 dX7_against_12 (by assumption) rfl ?_
    refine V_iload_n F dX7_against_15 rfl ?_
    refine V_ialdN F dX7_against_16 (by assumption) _ (by first | (simp only [pk_mul, nI_add, nI_1, nI_inc]; done) | (simp only [pk_mul, nI_add, nI_1, nI_inc]; rfl) | rfl) (by omega) (by omega) ?_
    rw [b1 k hk]
    refine V_if_ge F 25 dX7_against_17 (by decide) (fun c17 => ?_) (fun c17 => ?_)
    · have c17 : ¬ sKd s k = -1 := fun z => absurd ((kd_neg k1).mpr z) (Int32.not_lt.mpr c17)
      rw [if_neg c17] at hR
      refine V_iload_n F dX7_against_25 rfl ?_
      refine V_i2l F dX7_against_26 ?_
      refine V_lconst F dX7_against_27 (v := 0) (by decide) ?_
      refine V_aload_n F dX7_against_28 rfl ?_
      refine V_get F fl_X7_13 dX7_against_29 (by assumption) rfl ?_
      refine V_iload_n F dX7_against_32 rfl ?_
      refine V_ialdN F dX7_against_33 (by assumption) _ (by first | (simp only [pk_mul, nI_add, nI_1, nI_inc]; done) | (simp only [pk_mul, nI_add, nI_1, nI_inc]; rfl) | rfl) (by omega) (by omega) ?_
      rw [b2 k hk]
      refine V_iconst F dX7_against_34 ki_1 ?_
      refine V_isub F dX7_against_35 ?_
      refine V_i2l F dX7_against_36 ?_
      refine V_isR F is_X7_63 dX7_against_37 (As := [_, _, _]) (c_X7_in _ _ _) rfl rfl rfl ?_
      refine V_if_ne F 48 dX7_against_40 (by decide) (fun c40 => ?_) (fun c40 => ?_)
      · rw [bI_n, hasP_1 k2] at c40
        rw [if_pos c40] at hR
        subst hR
        refine V_iconst F dX7_against_48 ki_0 ?_
        exact V_iret F rfl dX7_against_49 rfl ⟨rfl, rfl, rfl⟩
      · rw [bI_0, hasP_1 k2] at c40
        rw [if_neg (by rw [c40]; decide)] at hR
        subst hR
        refine V_bipush F dX7_against_43 kb_m12 ?_
        refine V_goto F 49 dX7_against_45 (by decide) ?_
        exact V_iret F rfl dX7_against_49 rfl ⟨rfl, rfl, rfl⟩
    · have c17 := (kd_neg k1).mp (Int32.not_le.mp c17)
      rw [if_pos c17] at hR
      subst hR
      refine V_bipush F dX7_against_20 kb_m11 ?_
      refine V_goto F 49 dX7_against_22 (by decide) ?_
      exact V_iret F rfl dX7_against_49 rfl ⟨rfl, rfl, rfl⟩
  · rw [bI_0] at c4
    rw [if_pos c4] at hR
    subst hR
    refine V_iconst F dX7_against_7 ki_m1 ?_
    refine V_goto F 49 dX7_against_8 (by decide) ?_
    exact V_iret F rfl dX7_against_49 rfl ⟨rfl, rfl, rfl⟩
theorem gOk.ln {s : Sg} (h : gOk s) : ∀ k, k < 6 → sLn s k ≤ 24 := fun k hk => (h.1 k hk).2
theorem InvM.pl (h : InvM G M s lq) {r : Nat} (hr : r < 6) {p : Nat → Int64} {g : Nat → Int64} (hg : ∀ a j, a < 6 → j < 24 → g (24 * a + j) = if a = r then p j else sPl s a j) : InvM G (mset M (gB G + 819) (eJ (gT G) 144 g)) (ubag s r (sKd s r) (sLn s r) p) lq := by
  obtain ⟨⟨st, pd, gd, hO⟩, hA, hJ, hg1⟩ := h
  have hA0 := hA
  obtain ⟨⟨f1, a1, b1⟩, ⟨f2, a2, b2⟩, -⟩ := hA
  refine ⟨⟨st, pd, gd, (mset_ne _ _ (by omega)).trans hO⟩, hA0.bag ((mset_ne _ _ (by omega)).trans a1) (fun a ha => ?_) ((mset_ne _ _ (by omega)).trans a2) (fun a ha => ?_) (mset_eq _ _ _) hg (fun i hi => mset_ne _ _ (by omega)), hJ.other (fun i hi q => ?_), hg1.bag (hg1.1 r hr).1 (hg1.1 r hr).2⟩
  · rw [b1 a ha]; split
    · subst_vars; rfl
    · rfl
  · rw [b2 a ha]; split
    · subst_vars; rfl
    · rfl
  · rcases hi with hi | hi
    · have := jl_c hi; omega
    · have := il_c hi; omega
theorem c_X7_put (h : InvM G M s lq) (r i : Int32) (v : Int64) : Con G yX7_put cX7_put 6 (some .int) 3 0 0 [.ref (gB G + 816), .int r, .int i, .long v] M none (PM G M (S_put s r i v).1 (S_put s r i v).2 lq) := by
  have hI := h
  obtain ⟨⟨st, pd, gd, hO⟩, ⟨⟨f1, a1, b1⟩, ⟨f2, a2, b2⟩, ⟨f3, a3, b3⟩, -⟩, hJ, hg⟩ := h
  generalize hR : S_put s r i v = R
  unfold S_put at hR
  refine Con.of (by decide +kernel) (Nat.le_of_ble_eq_true rfl) (fun X F hnm => ?_)
  show V G X 0 0 _ M _ 0 [some (.ref (gB G + 816)), some (.int r), some (.int i), some (.long v), none, none] []
  refine V_aload_n F dX7_put_0 rfl ?_
  refine V_iload_n F dX7_put_1 rfl ?_
  refine V_iload_n F dX7_put_2 rfl ?_
  refine V_ivR F iv_X7_75 dX7_put_3 (As := [_, _]) (c_X7_against hI _ _) (by assumption) rfl rfl rfl rfl ?_
  refine V_istore F dX7_put_6 (Nat.le_of_ble_eq_true rfl) ?_
  show V _ _ _ _ _ _ _ _ [_, _, _, _, _, _] _
  refine V_iload F dX7_put_8 rfl ?_
  refine V_if_ne F 57 dX7_put_10 (by decide) (fun c10 => ?_) (fun c10 => ?_)
  · rw [if_neg c10] at hR
    subst hR
    refine V_iload F dX7_put_57 rfl ?_
    exact V_iret F rfl dX7_put_59 rfl ⟨rfl, hI, fun _ _ => rfl, rfl⟩
  · rw [if_pos c10] at hR
    obtain ⟨k, a, b, hk, rfl, rfl, hb, hab, hab2⟩ := rop_0 hg.ln c10
    have hb1 : 1 = b := (nI_eq (by omega) (by omega)).mp hb
    rw [ix_nI (by omega), ix_nI (by omega)] at hR
    have fin : ∀ x : Int64, x = cutv (sKd s k) v → V G X 0 0 (BQ G X (PM G M R.1 R.2 lq) 0 0) M none 56 [some (.ref (gB G + 816)), some (.int (nI k)), some (.int (nI a)), some (.long v), none, some (.int (rop s (nI k) (nI a) (nI 1)))] [.long x, .int (nI (24 * k + a)), .ref (gB G + 819)] := by
      intro x hx
      subst hx hR
      have := hI.pl (p := va_up (sPl s k) a (cutv (sKd s k) v)) (g := va_up f3 (24 * k + a) (cutv (sKd s k) v)) hk (fun c j hc hj => by
        unfold va_up
        by_cases q : c = k
        · subst q
          rw [if_pos rfl]
          by_cases q2 : j = a
          · subst q2; rw [if_pos rfl, if_pos rfl]
          · rw [if_neg (by omega), if_neg q2]; exact b3 c j hc hj
        · rw [if_neg (by omega), if_neg q]; exact b3 c j hc hj)
      refine V_lastN F dX7_put_56 (by assumption) _ (by first | (simp only [pk_mul, nI_add, nI_1, nI_inc]; done) | (simp only [pk_mul, nI_add, nI_1, nI_inc]; rfl) | rfl) (by omega) (by omega) ?_
      refine V_iload F dX7_put_57 rfl ?_
      exact V_iret F rfl dX7_put_59 rfl ⟨by rw [c10]; rfl, this, fun z hz => mset_ne _ _ (by omega), rfl⟩
    refine V_aload_n F dX7_put_13 rfl ?_
    refine V_get F fl_X7_16 dX7_put_14 (by assumption) rfl ?_
    refine V_bipush F dX7_put_17 kb_24 ?_
    refine V_iload_n F dX7_put_19 rfl ?_
    refine V_imul F dX7_put_20 ?_
    refine V_iload_n F dX7_put_21 rfl ?_
    refine V_iadd F dX7_put_22 ?_
    rw [pk_mul, nI_add]
    refine V_aload_n F dX7_put_23 rfl ?_
    refine V_get F fl_X7_7 dX7_put_24 (by assumption) rfl ?_
    refine V_iload_n F dX7_put_27 rfl ?_
    refine V_ialdN F dX7_put_28 (by assumption) _ (by first | (simp only [pk_mul, nI_add, nI_1, nI_inc]; done) | (simp only [pk_mul, nI_add, nI_1, nI_inc]; rfl) | rfl) (by omega) (by omega) ?_
    rw [b1 k hk]
    refine V_if_ne F 39 dX7_put_29 (by decide) (fun c29 => ?_) (fun c29 => ?_)
    · refine V_aload_n F dX7_put_39 rfl ?_
      refine V_get F fl_X7_7 dX7_put_40 (by assumption) rfl ?_
      refine V_iload_n F dX7_put_43 rfl ?_
      refine V_ialdN F dX7_put_44 (by assumption) _ (by first | (simp only [pk_mul, nI_add, nI_1, nI_inc]; done) | (simp only [pk_mul, nI_add, nI_1, nI_inc]; rfl) | rfl) (by omega) (by omega) ?_
      rw [b1 k hk]
      refine V_iconst F dX7_put_45 ki_1 ?_
      refine V_icmp_ne F 55 dX7_put_46 (by decide) (fun c46 => ?_) (fun c46 => ?_)
      · refine V_lload_n F dX7_put_55 rfl ?_
        exact fin _ (by unfold cutv; rw [if_neg c29, if_neg c46])
      · refine V_lload_n F dX7_put_49 rfl ?_
        refine V_l2i F dX7_put_50 ?_
        refine V_i2l F dX7_put_51 ?_
        refine V_goto F 56 dX7_put_52 (by decide) ?_
        exact fin _ (by unfold cutv; rw [if_neg c29, if_pos c46])
    · refine V_lload_n F dX7_put_32 rfl ?_
      refine V_l2i F dX7_put_33 ?_
      refine V_i2s F dX7_put_34 ?_
      refine V_i2l F dX7_put_35 ?_
      refine V_goto F 56 dX7_put_36 (by decide) ?_
      exact fin _ (by unfold cutv; rw [if_pos c29])
theorem c_X7_holds (h : InvM G M s lq) (r i : Int32) (v : Int64) : Con G yX7_holds cX7_holds 6 (some .int) 3 0 0 [.ref (gB G + 816), .int r, .int i, .long v] M none (PM G M (S_holds s r i v) s lq) := by
  have hI := h
  obtain ⟨⟨st, pd, gd, hO⟩, ⟨⟨f1, a1, b1⟩, ⟨f2, a2, b2⟩, ⟨f3, a3, b3⟩, -⟩, hJ, hg⟩ := h
  generalize hR : S_holds s r i v = R
  unfold S_holds at hR
  refine Con.of (by decide +kernel) (Nat.le_of_ble_eq_true rfl) (fun X F hnm => ?_)
  show V G X 0 0 _ M _ 0 [some (.ref (gB G + 816)), some (.int r), some (.int i), some (.long v), none, none] []
  refine V_aload_n F dX7_holds_0 rfl ?_
  refine V_iload_n F dX7_holds_1 rfl ?_
  refine V_iload_n F dX7_holds_2 rfl ?_
  refine V_ivR F iv_X7_75 dX7_holds_3 (As := [_, _]) (c_X7_against hI _ _) (by assumption) rfl rfl rfl rfl ?_
  refine V_istore F dX7_holds_6 (Nat.le_of_ble_eq_true rfl) ?_
  show V _ _ _ _ _ _ _ _ [_, _, _, _, _, _] _
  refine V_iload F dX7_holds_8 rfl ?_
  refine V_if_eq F 18 dX7_holds_10 (by decide) (fun c10 => ?_) (fun c10 => ?_)
  · rw [if_pos c10] at hR
    obtain ⟨k, a, b, hk, rfl, rfl, hb, hab, hab2⟩ := rop_0 hg.ln c10
    have hb1 : 1 = b := (nI_eq (by omega) (by omega)).mp hb
    rw [ix_nI (by omega), ix_nI (by omega)] at hR
    refine V_aload_n F dX7_holds_18 rfl ?_
    refine V_get F fl_X7_16 dX7_holds_19 (by assumption) rfl ?_
    refine V_bipush F dX7_holds_22 kb_24 ?_
    refine V_iload_n F dX7_holds_24 rfl ?_
    refine V_imul F dX7_holds_25 ?_
    refine V_iload_n F dX7_holds_26 rfl ?_
    refine V_iadd F dX7_holds_27 ?_
    rw [pk_mul, nI_add]
    refine V_laldN F dX7_holds_28 (by assumption) _ (by first | (simp only [pk_mul, nI_add, nI_1, nI_inc]; done) | (simp only [pk_mul, nI_add, nI_1, nI_inc]; rfl) | rfl) (by omega) (by omega) ?_
    rw [b3 k a hk (by omega)]
    refine V_lload_n F dX7_holds_29 rfl ?_
    refine V_lcmp F dX7_holds_30 ?_
    refine V_if_ne F 38 dX7_holds_31 (by decide) (fun c31 => ?_) (fun c31 => ?_)
    · rw [lcmp_eq] at c31
      subst hR
      refine V_iconst F dX7_holds_38 ki_0 ?_
      exact V_iret F rfl dX7_holds_39 rfl ⟨rf (by simpa using c31), hI, fun _ _ => rfl, rfl⟩
    · rw [lcmp_eq] at c31
      subst hR
      refine V_iconst F dX7_holds_34 ki_1 ?_
      refine V_goto F 39 dX7_holds_35 (by decide) ?_
      exact V_iret F rfl dX7_holds_39 rfl ⟨rt (by simpa using c31), hI, fun _ _ => rfl, rfl⟩
  · rw [if_neg c10] at hR
    subst hR
    refine V_iload F dX7_holds_13 rfl ?_
    refine V_goto F 39 dX7_holds_15 (by decide) ?_
    exact V_iret F rfl dX7_holds_39 rfl ⟨rfl, hI, fun _ _ => rfl, rfl⟩
end MOD2
