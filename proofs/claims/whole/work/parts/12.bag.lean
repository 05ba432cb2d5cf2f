def hasP (i m len : Int32) : Bool := decide (0 ≤ i) && (decide (0 ≤ m) && decide (i.toInt64 + m.toInt64 ≤ len.toInt64))
def cutv (k : Int32) (v : Int64) : Int64 := if k = 0 then v.toInt32.toInt16.toInt32.toInt64 else if k = nI 1 then v.toInt32.toInt64 else v
section BAG
variable {G : GP} {M : Mem} {n : Option Nat} {a p : Nat} {f : Nat → Int64} {kd len : Int32}
theorem c_X0_become (h0 : M a = some (eO 0 [.ref p, .int kd, .int len])) (h1 : M p = some (eJ (gT G) 24 f)) (k m : Int32) : Con G yX0_become cX0_become 3 none 1 0 0 [.ref a, .int k, .int m] M n (R1 none (mset (mset M a (eO 0 [.ref p, .int k, .int m])) p (eJ (gT G) 24 (fun _ => 0))) n) := by
  refine Con.of (by decide +kernel) (Nat.le_of_ble_eq_true rfl) (fun X F hnm => ?_)
  show V G X 0 0 _ M _ 0 [some (.ref a), some (.int k), some (.int m)] []
  have hap := ne_oj h0 h1
  refine V_aload_n F dX0_become_0 rfl ?_
  refine V_iload_n F dX0_become_1 rfl ?_
  refine V_put F fl_X0_15 dX0_become_2 (by assumption) rfl rfl (Nat.le_of_ble_eq_true rfl) ?_
  refine V_aload_n F dX0_become_5 rfl ?_
  refine V_iload_n F dX0_become_6 rfl ?_
  refine V_put F fl_X0_19 dX0_become_7 (mset_eq _ _ _) rfl rfl (Nat.le_of_ble_eq_true rfl) ?_
  refine V_aload_n F dX0_become_10 rfl ?_
  refine V_get F fl_X0_9 dX0_become_11 (mset_eq _ _ _) rfl ?_
  refine V_lconst F dX0_become_14 (v := 0) (by decide) ?_
  rw [mset_mset]
  refine V_isR F is_X0_22 dX0_become_15 (As := [_, _]) (c_J7_fill_d0a16 ((mset_ne _ _ hap.symm).trans h1) (by omega) 0) rfl rfl rfl ?_
  refine V_mem (fun H hm => mem_J (g := fun _ => 0) ?_ hm) ?_
  · intro k hk
    simp [filled, hk]
  exact V_vret F rfl dX0_become_18 ⟨rfl, rfl, rfl⟩
theorem c_X0_hasPlaces (h0 : M a = some (eO 0 [.ref p, .int kd, .int len])) (i m : Int32) : Con G yX0_hasPlaces cX0_hasPlaces 3 (some .boolean) 0 0 0 [.ref a, .int i, .int m] M n (R1 (some (.int (bI (hasP i m len)))) M n) := by
  refine Con.of (by decide +kernel) (Nat.le_of_ble_eq_true rfl) (fun X F hnm => ?_)
  show V G X 0 0 _ M _ 0 [some (.ref a), some (.int i), some (.int m)] []
  refine V_iload_n F dX0_hasPlaces_0 rfl ?_
  refine V_if_lt F 26 dX0_hasPlaces_1 (by decide) (fun c1 => ?_) (fun c1 => ?_)
  · refine V_iconst F dX0_hasPlaces_26 ki_0 ?_
    exact V_iret F rfl dX0_hasPlaces_27 rfl ⟨rf (by simp only [hasP, Bool.and_eq_false_iff]; exact Or.inl (decide_eq_false (Int32.not_le.mpr c1))), rfl, rfl⟩
  · refine V_iload_n F dX0_hasPlaces_4 rfl ?_
    refine V_if_lt F 26 dX0_hasPlaces_5 (by decide) (fun c5 => ?_) (fun c5 => ?_)
    · refine V_iconst F dX0_hasPlaces_26 ki_0 ?_
      exact V_iret F rfl dX0_hasPlaces_27 rfl ⟨rf (by simp only [hasP, Bool.and_eq_false_iff]; exact Or.inr (Or.inl (decide_eq_false (Int32.not_le.mpr c5)))), rfl, rfl⟩
    · refine V_iload_n F dX0_hasPlaces_8 rfl ?_
      refine V_i2l F dX0_hasPlaces_9 ?_
      refine V_iload_n F dX0_hasPlaces_10 rfl ?_
      refine V_i2l F dX0_hasPlaces_11 ?_
      refine V_ladd F dX0_hasPlaces_12 ?_
      refine V_aload_n F dX0_hasPlaces_13 rfl ?_
      refine V_get F fl_X0_19 dX0_hasPlaces_14 (by assumption) rfl ?_
      refine V_i2l F dX0_hasPlaces_17 ?_
      refine V_lcmp F dX0_hasPlaces_18 ?_
      refine V_if_gt F 26 dX0_hasPlaces_19 (by decide) (fun c19 => ?_) (fun c19 => ?_)
      · rw [lcmp_gt] at c19
        refine V_iconst F dX0_hasPlaces_26 ki_0 ?_
        exact V_iret F rfl dX0_hasPlaces_27 rfl ⟨rf (by simp only [hasP, Bool.and_eq_false_iff]; exact Or.inr (Or.inr (decide_eq_false (Int64.not_le.mpr c19)))), rfl, rfl⟩
      · rw [lcmp_gt] at c19
        refine V_iconst F dX0_hasPlaces_22 ki_1 ?_
        refine V_goto F 27 dX0_hasPlaces_23 (by decide) ?_
        exact V_iret F rfl dX0_hasPlaces_27 rfl ⟨rt (by simp only [hasP, Bool.and_eq_true]; exact ⟨decide_eq_true (Int32.not_lt.mp c1), decide_eq_true (Int32.not_lt.mp c5), decide_eq_true (Int64.not_lt.mp c19)⟩), rfl, rfl⟩
theorem c_X0_keep (h0 : M a = some (eO 0 [.ref p, .int kd, .int len])) (h1 : M p = some (eJ (gT G) 24 f)) {j : Nat} (hj : j < 24) (v : Int64) : Con G yX0_keep cX0_keep 4 none 0 0 0 [.ref a, .int (nI j), .long v] M n (R1 none (mset M p (eJ (gT G) 24 (va_up f j (cutv kd v)))) n) := by
  refine Con.of (by decide +kernel) (Nat.le_of_ble_eq_true rfl) (fun X F hnm => ?_)
  show V G X 0 0 _ M _ 0 [some (.ref a), some (.int (nI j)), some (.long v), none] []
  refine V_aload_n F dX0_keep_0 rfl ?_
  refine V_get F fl_X0_15 dX0_keep_1 (by assumption) rfl ?_
  refine V_if_ne F 20 dX0_keep_4 (by decide) (fun c4 => ?_) (fun c4 => ?_)
  · refine V_aload_n F dX0_keep_20 rfl ?_
    refine V_get F fl_X0_15 dX0_keep_21 (by assumption) rfl ?_
    refine V_iconst F dX0_keep_24 ki_1 ?_
    refine V_icmp_ne F 40 dX0_keep_25 (by decide) (fun c25 => ?_) (fun c25 => ?_)
    · refine V_aload_n F dX0_keep_40 rfl ?_
      refine V_get F fl_X0_9 dX0_keep_41 (by assumption) rfl ?_
      refine V_iload_n F dX0_keep_44 rfl ?_
      refine V_lload_n F dX0_keep_45 rfl ?_
      refine V_lastN F dX0_keep_46 (by assumption) _ (by first | (simp only [pk_mul, nI_add, nI_1, nI_inc]; done) | (simp only [pk_mul, nI_add, nI_1, nI_inc]; rfl) | rfl) (by omega) (by omega) ?_
      exact V_vret F rfl dX0_keep_47 ⟨rfl, by unfold cutv; rw [if_neg c4, if_neg c25], rfl⟩
    · refine V_aload_n F dX0_keep_28 rfl ?_
      refine V_get F fl_X0_9 dX0_keep_29 (by assumption) rfl ?_
      refine V_iload_n F dX0_keep_32 rfl ?_
      refine V_lload_n F dX0_keep_33 rfl ?_
      refine V_l2i F dX0_keep_34 ?_
      refine V_i2l F dX0_keep_35 ?_
      refine V_lastN F dX0_keep_36 (by assumption) _ (by first | (simp only [pk_mul, nI_add, nI_1, nI_inc]; done) | (simp only [pk_mul, nI_add, nI_1, nI_inc]; rfl) | rfl) (by omega) (by omega) ?_
      refine V_goto F 47 dX0_keep_37 (by decide) ?_
      exact V_vret F rfl dX0_keep_47 ⟨rfl, by unfold cutv; rw [if_neg c4, if_pos c25], rfl⟩
  · refine V_aload_n F dX0_keep_7 rfl ?_
    refine V_get F fl_X0_9 dX0_keep_8 (by assumption) rfl ?_
    refine V_iload_n F dX0_keep_11 rfl ?_
    refine V_lload_n F dX0_keep_12 rfl ?_
    refine V_l2i F dX0_keep_13 ?_
    refine V_i2s F dX0_keep_14 ?_
    refine V_i2l F dX0_keep_15 ?_
    refine V_lastN F dX0_keep_16 (by assumption) _ (by first | (simp only [pk_mul, nI_add, nI_1, nI_inc]; done) | (simp only [pk_mul, nI_add, nI_1, nI_inc]; rfl) | rfl) (by omega) (by omega) ?_
    refine V_goto F 47 dX0_keep_17 (by decide) ?_
    exact V_vret F rfl dX0_keep_47 ⟨rfl, by simp [cutv, c4], rfl⟩
end BAG
def ordv (p q : Nat → Int64) : Int32 := if p 0 ≠ q 0 then cmp64 (p 0) (q 0) else if p 1 ≠ q 1 then cmp64 (p 1) (q 1) else cmp64 (p 2) (q 2)
theorem cmp64_0 (x y : Int64) : cmp64 x y = 0 ↔ x = y := by
  unfold cmp64
  by_cases h : x < y
  · rw [if_pos h]
    refine ⟨fun q => absurd q (by decide), fun q => ?_⟩
    subst q
    exact absurd h (by simp)
  · rw [if_neg h]
    by_cases h2 : x = y
    · simp [h2, nI_0]
    · simp [h2]
      decide
def isLst (G : GP) (M : Mem) (a ro : Nat) (r : Nat → Nat) (lst : Nat → Nat → Int64) (S : Nat) (mo se : Int32) : Prop :=
  M a = some (eO 2 [.ref ro, .int (nI S), .int mo, .int se]) ∧ (∃ g, M ro = some (eQ (gT G) 5 3 g) ∧ ∀ w, w < 3 → g w = some (r w)) ∧ ∀ w, w < 3 → M (r w) = some (eJ (gT G) 240 (fun k => lst k w))
def posl (lst : Nat → Nat → Int64) (q : Nat → Int64) : Nat → Nat
  | 0 => 0
  | k + 1 => if 0 < ordv (lst k) q then posl lst q k else k + 1
theorem posl_le (lst : Nat → Nat → Int64) (q : Nat → Int64) : ∀ k, posl lst q k ≤ k
  | 0 => Nat.le_refl _
  | k + 1 => by unfold posl; have := posl_le lst q k; split <;> omega
def lins (lst : Nat → Nat → Int64) (p S : Nat) (q : Nat → Int64) : Nat → Nat → Int64 := fun k w => if k = p then q w else if p < k ∧ k ≤ S then lst (k - 1) w else lst k w
def ent (lst : Nat → Nat → Int64) (S : Nat) (c : Qd) (i : Nat) : Bool × Nat × (Nat → Nat → Int64) :=
  if cRef c i = 0 then
    if 0 < posl lst (c i) S ∧ ordv (lst (posl lst (c i) S - 1)) (c i) = 0 then (true, S, lst)
    else if 240 ≤ S then (false, S, lst) else (true, S + 1, lins lst (posl lst (c i) S) S (c i))
  else (false, S, lst)
section LST
variable {G : GP} {M : Mem} {n : Option Nat} {a ro : Nat} {r : Nat → Nat} {lst : Nat → Nat → Int64} {S : Nat} {mo se : Int32} {b q : Nat} {c : Qd}
theorem c_X2_begin {x0 x1 x2 : Value} (h0 : M a = some (eO 2 [.ref ro, x0, x1, x2])) (m s : Int32) : Con G yX2_begin cX2_begin 3 none 0 0 0 [.ref a, .int m, .int s] M n (R1 none (mset M a (eO 2 [.ref ro, .int (nI 0), .int m, .int s])) n) := by
  refine Con.of (by decide +kernel) (Nat.le_of_ble_eq_true rfl) (fun X F hnm => ?_)
  show V G X 0 0 _ M _ 0 [some (.ref a), some (.int m), some (.int s)] []
  refine V_aload_n F dX2_begin_0 rfl ?_
  refine V_iconst F dX2_begin_1 ki_0 ?_
  refine V_put F fl_X2_16 dX2_begin_2 (by assumption) rfl rfl (Nat.le_of_ble_eq_true rfl) ?_
  refine V_aload_n F dX2_begin_5 rfl ?_
  refine V_iload_n F dX2_begin_6 rfl ?_
  refine V_put F fl_X2_20 dX2_begin_7 (mset_eq _ _ _) rfl rfl (Nat.le_of_ble_eq_true rfl) ?_
  refine V_aload_n F dX2_begin_10 rfl ?_
  refine V_iload_n F dX2_begin_11 rfl ?_
  refine V_put F fl_X2_23 dX2_begin_12 (mset_eq _ _ _) rfl rfl (Nat.le_of_ble_eq_true rfl) ?_
  rw [mset_mset, mset_mset]
  exact V_vret F rfl dX2_begin_15 ⟨rfl, rfl, rfl⟩
theorem c_X2_order (hl : isLst G M a ro r lst S mo se) (h0 : M b = some (eO 1 [.ref q])) (h1 : M q = some (eJ (gT G) 12 (fc c))) {j i : Nat} (hj : j < 240) (hi : i < 4) : Con G yX2_order cX2_order 6 (some .int) 1 0 0 [.ref a, .int (nI j), .ref b, .int (nI i)] M n (R1 (some (.int (ordv (lst j) (c i)))) M n) := by
  obtain ⟨l0, ⟨g, l1, l2⟩, l3⟩ := hl
  refine Con.of (by decide +kernel) (Nat.le_of_ble_eq_true rfl) (fun X F hnm => ?_)
  show V G X 0 0 _ M _ 0 [some (.ref a), some (.int (nI j)), some (.ref b), some (.int (nI i)), none, none] []
  have step : ∀ w : Nat, w < 3 → (lst j w = c i w → V G X 0 0 (BQ G X (R1 (some (.int (ordv (lst j) (c i)))) M n) 0 0) M n 3 [some (.ref a), some (.int (nI j)), some (.ref b), some (.int (nI i)), some (.int (nI (w + 1))), none] []) → (lst j w ≠ c i w → ordv (lst j) (c i) = cmp64 (lst j w) (c i w)) → V G X 0 0 (BQ G X (R1 (some (.int (ordv (lst j) (c i)))) M n) 0 0) M n 3 [some (.ref a), some (.int (nI j)), some (.ref b), some (.int (nI i)), some (.int (nI w)), none] [] := by
    intro w hw kk kf
    refine V_iload F dX2_order_3 rfl ?_
    refine V_iconst F dX2_order_5 ki_2 ?_
    refine V_icmp_gt F 44 dX2_order_6 (by decide) (fun c6 => absurd c6 (nI_nlt (by omega) (by omega))) (fun c6 => ?_)
    refine V_aload_n F dX2_order_9 rfl ?_
    refine V_get F fl_X2_11 dX2_order_10 (by assumption) rfl ?_
    refine V_iload F dX2_order_13 rfl ?_
    refine V_aaldN F 5 dX2_order_15 (by assumption) rfl rfl _ (by first | (simp only [pk_mul, nI_add, nI_1, nI_inc]; done) | (simp only [pk_mul, nI_add, nI_1, nI_inc]; rfl) | rfl) (by omega) (by omega) (l2 w hw) ?_
    refine V_iload_n F dX2_order_16 rfl ?_
    refine V_laldN F dX2_order_17 (l3 w hw) _ (by first | (simp only [pk_mul, nI_add, nI_1, nI_inc]; done) | (simp only [pk_mul, nI_add, nI_1, nI_inc]; rfl) | rfl) (by omega) (by omega) ?_
    refine V_aload_n F dX2_order_18 rfl ?_
    refine V_iload_n F dX2_order_19 rfl ?_
    refine V_iload F dX2_order_20 rfl ?_
    refine V_ivR F iv_X2_42 dX2_order_22 (As := [_, _]) (c_X1_told h0 h1 hi hw) (by assumption) rfl rfl rfl rfl ?_
    refine V_isR F is_X2_46 dX2_order_25 (As := [_, _]) (c_J13_compare_74951 _ _) rfl rfl rfl ?_
    refine V_istore F dX2_order_28 (Nat.le_of_ble_eq_true rfl) ?_
    show V _ _ _ _ _ _ _ _ [_, _, _, _, _, _] _
    refine V_iload F dX2_order_30 rfl ?_
    refine V_if_eq F 38 dX2_order_32 (by decide) (fun c32 => ?_) (fun c32 => ?_)
    · rw [cmp64_0] at c32
      refine V_iinc1 F dX2_order_38 rfl ?_
      show V _ _ _ _ _ _ _ _ [_, _, _, _, _, _] _
      refine V_goto F 3 dX2_order_41 (by decide) ?_
      exact V_drop 5 (kk c32)
    · rw [cmp64_0] at c32
      refine V_iload F dX2_order_35 rfl ?_
      exact V_iret F rfl dX2_order_37 rfl ⟨by rw [kf c32], rfl, rfl⟩
  refine V_iconst F dX2_order_0 ki_0 ?_
  refine V_istore F dX2_order_1 (Nat.le_of_ble_eq_true rfl) ?_
  show V _ _ _ _ _ _ _ _ [_, _, _, _, _, _] _
  refine step 0 (by omega) (fun q0 => step 1 (by omega) (fun q1 => step 2 (by omega) (fun q2 => ?_) ?_) ?_) ?_
  · refine V_iload F dX2_order_3 rfl ?_
    refine V_iconst F dX2_order_5 ki_2 ?_
    refine V_icmp_gt F 44 dX2_order_6 (by decide) (fun c6 => ?_) (fun c6 => absurd (by decide) c6)
    refine V_iconst F dX2_order_44 ki_0 ?_
    exact V_iret F rfl dX2_order_45 rfl ⟨by simp [ordv, q0, q1, (cmp64_0 _ _).mpr q2, nI_0], rfl, rfl⟩
  · intro z; simp [ordv, q0, q1]
  · intro z; simp [ordv, q0, z]
  · intro z; simp [ordv, z]
end LST
