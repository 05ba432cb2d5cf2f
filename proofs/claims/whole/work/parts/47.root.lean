theorem mulb {a x : Int} {A X : Nat} (ha : a.natAbs ≤ A) (hx : x.natAbs ≤ X) : (a * x).natAbs ≤ A * X := by
  rw [Int.natAbs_mul]
  exact Nat.mul_le_mul ha hx
theorem ex_mul {a b : Int64} {A B : Nat} (ha : a.toInt.natAbs ≤ A) (hb : b.toInt.natAbs ≤ B) (h : A * B < 9223372036854775808) : (a * b).toInt = a.toInt * b.toInt := by
  have := mulb ha hb
  rw [Int64.toInt_mul]
  exact bm64 (by omega) (by omega)
theorem ex_add {a b : Int64} (h : a.toInt.natAbs + b.toInt.natAbs < 9223372036854775808) : (a + b).toInt = a.toInt + b.toInt := by
  rw [Int64.toInt_add]
  exact bm64 (by omega) (by omega)
theorem ex_sub {a b : Int64} (h : a.toInt.natAbs + b.toInt.natAbs < 9223372036854775808) : (a - b).toInt = a.toInt - b.toInt := by
  rw [Int64.toInt_sub]
  exact bm64 (by omega) (by omega)
theorem acc_n {c : Qd} {j : Nat} (h : cRef c j = 0) : (c j 0).toInt.natAbs ≤ 20000 ∧ (c j 1).toInt.natAbs ≤ 50000 ∧ (c j 2).toInt.natAbs ≤ 50000 := by
  obtain ⟨-, h0, h1, h2⟩ := acc_b h
  unfold tI at h0 h1 h2
  omega
theorem cross_I {a x b u : Int64} (ha : a.toInt.natAbs ≤ 20000) (hx : x.toInt.natAbs ≤ 50000) (hb : b.toInt.natAbs ≤ 20000) (hu : u.toInt.natAbs ≤ 50000) : ((b * x - a * u) * (b * x - a * u)).toInt = (b.toInt * x.toInt - a.toInt * u.toInt) * (b.toInt * x.toInt - a.toInt * u.toInt) ∧ ((b.toInt * x.toInt - a.toInt * u.toInt) * (b.toInt * x.toInt - a.toInt * u.toInt)).natAbs ≤ 4000000000000000000 := by
  have m1 := mulb hb hx
  have m2 := mulb ha hu
  have e1 := ex_mul hb hx (by omega)
  have e2 := ex_mul ha hu (by omega)
  have e3 : (b * x - a * u).toInt = b.toInt * x.toInt - a.toInt * u.toInt := by rw [ex_sub (by rw [e1, e2]; omega), e1, e2]
  have n3 : (b.toInt * x.toInt - a.toInt * u.toInt).natAbs ≤ 2000000000 := by omega
  refine ⟨?_, mulb n3 n3⟩
  rw [ex_mul (A := 2000000000) (B := 2000000000) (by rw [e3]; exact n3) (by rw [e3]; exact n3) (by omega), e3]
theorem tch_I {c : Qd} {i j : Nat} (hi : cRef c i = 0) (hj : cRef c j = 0) (h : tch c i c j = true) : TT c i j := by
  obtain ⟨a1, a2, a3⟩ := acc_n hi
  obtain ⟨b1, b2, b3⟩ := acc_n hj
  unfold tch tchf at h
  have h := congrArg Int64.toInt (beq_iff_eq.mp h)
  obtain ⟨x1, x2⟩ := cross_I a1 a2 b1 b2
  obtain ⟨y1, y2⟩ := cross_I a1 a3 b1 b3
  have s1 : (c i 0 + c j 0).toInt = (c i 0).toInt + (c j 0).toInt := ex_add (by omega)
  rw [ex_add (by rw [x1, y1]; omega), x1, y1, ex_mul (A := 40000) (B := 40000) (by rw [s1]; omega) (by rw [s1]; omega) (by omega), s1] at h
  exact h
def SQ (c : Qd) : Prop := (∀ j, j < 4 → cRef c j = 0) ∧ 0 < bsm c ∧ 2 * bsq c = bsm c * bsm c ∧ ∀ i j, i < 4 → j < 4 → i ≠ j → TT c i j
theorem TT_sym {c : Qd} {i j : Nat} (h : TT c i j) : TT c j i := by
  unfold TT at h ⊢
  grind
theorem SQ_rfs {c : Qd} (h : rfs c = 0) : SQ c := by
  obtain ⟨h1, h2, h3, -, -, h6⟩ := rfs_0 h
  have ha : ∀ j, j < 4 → cRef c j = 0 := fun j hj => by
    unfold bRefs at h1
    unfold plRs at h2
    simp only [Bool.or_eq_false_iff] at h1 h2
    obtain ⟨a0, a1, a2, a3⟩ := h1
    obtain ⟨p0, p1, p2, p3⟩ := h2
    unfold cRef
    have hj' : j = 0 ∨ j = 1 ∨ j = 2 ∨ j = 3 := by omega
    rcases hj' with rfl | rfl | rfl | rfl
    · rw [a0, p0]; rfl
    · rw [a1, p1]; rfl
    · rw [a2, p2]; rfl
    · rw [a3, p3]; rfl
  have n0 := (acc_n (ha 0 (by omega))).1
  have n1 := (acc_n (ha 1 (by omega))).1
  have n2 := (acc_n (ha 2 (by omega))).1
  have n3 := (acc_n (ha 3 (by omega))).1
  have hsum : (tsum c 0).toInt = bsm c := tsum_I (acc_b2 ha (by omega))
  unfold bst at h3
  rw [Bool.and_eq_true, decide_eq_true_eq, beq_iff_eq, Int64.lt_iff_toInt_lt, hsum] at h3
  refine ⟨ha, h3.1, ?_, ?_⟩
  · have h := congrArg Int64.toInt h3.2
    have q0 := ex_mul n0 n0 (by omega)
    have q1 := ex_mul n1 n1 (by omega)
    have q2 := ex_mul n2 n2 (by omega)
    have q3 := ex_mul n3 n3 (by omega)
    have m0 := mulb n0 n0
    have m1 := mulb n1 n1
    have m2 := mulb n2 n2
    have m3 := mulb n3 n3
    have z0 : (0 : Int64).toInt = 0 := by decide
    have e1 : (0 + c 0 0 * c 0 0).toInt = (c 0 0).toInt * (c 0 0).toInt := by rw [ex_add (by rw [q0, z0]; omega), q0, z0, Int.zero_add]
    have e2 : (0 + c 0 0 * c 0 0 + c 1 0 * c 1 0).toInt = (c 0 0).toInt * (c 0 0).toInt + (c 1 0).toInt * (c 1 0).toInt := by rw [ex_add (by rw [e1, q1]; omega), e1, q1]
    have e3 : (0 + c 0 0 * c 0 0 + c 1 0 * c 1 0 + c 2 0 * c 2 0).toInt = (c 0 0).toInt * (c 0 0).toInt + (c 1 0).toInt * (c 1 0).toInt + (c 2 0).toInt * (c 2 0).toInt := by rw [ex_add (by rw [e2, q2]; omega), e2, q2]
    have e4 : (sqs c 4).toInt = bsq c := by
      show (0 + c 0 0 * c 0 0 + c 1 0 * c 1 0 + c 2 0 * c 2 0 + c 3 0 * c 3 0).toInt = _
      rw [ex_add (by rw [e3, q3]; omega), e3, q3]
      rfl
    have bn : (bsq c).natAbs ≤ 1600000000 := by
      unfold bsq tI
      omega
    have sn : (bsm c).natAbs ≤ 80000 := by
      unfold bsm tI
      omega
    rw [ex_mul (A := 2) (B := 1600000000) (by decide) (by rw [e4]; exact bn) (by omega), e4, ex_mul (A := 80000) (B := 80000) (by rw [hsum]; exact sn) (by rw [hsum]; exact sn) (by omega), hsum] at h
    exact h
  · unfold tall at h6
    simp only [Bool.and_eq_true] at h6
    obtain ⟨t01, t02, t03, t12, t13, t23⟩ := h6
    have T : ∀ i j, i < 4 → j < 4 → tch c i c j = true → TT c i j := fun i j hi hj h => tch_I (ha i hi) (ha j hj) h
    have k01 := T 0 1 (by omega) (by omega) t01
    have k02 := T 0 2 (by omega) (by omega) t02
    have k03 := T 0 3 (by omega) (by omega) t03
    have k12 := T 1 2 (by omega) (by omega) t12
    have k13 := T 1 3 (by omega) (by omega) t13
    have k23 := T 2 3 (by omega) (by omega) t23
    intro i j hi hj hij
    have hi' : i = 0 ∨ i = 1 ∨ i = 2 ∨ i = 3 := by omega
    have hj' : j = 0 ∨ j = 1 ∨ j = 2 ∨ j = 3 := by omega
    rcases hi' with rfl | rfl | rfl | rfl <;> rcases hj' with rfl | rfl | rfl | rfl <;> first | exact absurd rfl hij | assumption | exact TT_sym (by assumption)
theorem SQ.GI {c : Qd} (h : SQ c) : ∃ D, GI D c := by
  obtain ⟨ha, -, -, ht⟩ := h
  have b0 := (acc_b (ha 0 (by omega))).1
  have b1 := (acc_b (ha 1 (by omega))).1
  have b2 := (acc_b (ha 2 (by omega))).1
  have b3 := (acc_b (ha 3 (by omega))).1
  have hP : tI c 0 0 * tI c 1 0 * tI c 2 0 * tI c 3 0 ≠ 0 := Int.mul_ne_zero (Int.mul_ne_zero (Int.mul_ne_zero b0 b1) b2) b3
  generalize hg : tI c 0 0 * tI c 1 0 * tI c 2 0 * tI c 3 0 = P at hP
  have hpos : 0 < P * P := by
    have := sq0 P
    have : P * P ≠ 0 := Int.mul_ne_zero hP hP
    omega
  refine ⟨P * P, GI_of hpos ha (fun j hj => ?_) ht⟩
  have hd : tI c j 0 ∣ P := by
    rw [← hg]
    have hj' : j = 0 ∨ j = 1 ∨ j = 2 ∨ j = 3 := by omega
    rcases hj' with rfl | rfl | rfl | rfl
    · exact ⟨tI c 1 0 * tI c 2 0 * tI c 3 0, by grind⟩
    · exact ⟨tI c 0 0 * tI c 2 0 * tI c 3 0, by grind⟩
    · exact ⟨tI c 0 0 * tI c 1 0 * tI c 3 0, by grind⟩
    · exact ⟨tI c 0 0 * tI c 1 0 * tI c 2 0, by grind⟩
  exact Int.dvd_mul_of_dvd_left hd
theorem SQ.DQ {c : Qd} (h : SQ c) : DQ c := ⟨fun j hj => (acc_b (h.1 j hj)).2.1, h.2.1, h.2.2.1⟩
theorem SQ.turn {c : Qd} (h : SQ c) {i : Nat} (hi : i < 4) (hr : cRef (turnc c i) i = 0) : SQ (turnc c i) := by
  obtain ⟨D, hg⟩ := h.GI
  have hg2 := hg.turn hi hr
  have ht := fun j => turn_I (c := c) (i := i) (j := j) (w := 0) hi (by omega) (acc_b2 h.1 (by omega))
  obtain ⟨-, hs, hd, -⟩ := h
  have key : 0 < bsm (turnc c i) ∧ 2 * bsq (turnc c i) = bsm (turnc c i) * bsm (turnc c i) := by
    have t0 := ht 0
    have t1 := ht 1
    have t2 := ht 2
    have t3 := ht 3
    unfold bsm bsq at *
    have hi' : i = 0 ∨ i = 1 ∨ i = 2 ∨ i = 3 := by omega
    rcases hi' with rfl | rfl | rfl | rfl
    all_goals
      simp only [reduceIte, Nat.reduceEqDiff] at t0 t1 t2 t3
      rw [t0, t1, t2, t3]
      generalize tI c 0 0 = x0 at *
      generalize tI c 1 0 = x1 at *
      generalize tI c 2 0 = x2 at *
      generalize tI c 3 0 = x3 at *
    · have n := new_sum (a := x1) (b := x2) (c := x3) (d := x0) (by omega) (by grind)
      exact ⟨by omega, by have := n.2; grind⟩
    · have n := new_sum (a := x0) (b := x2) (c := x3) (d := x1) (by omega) (by grind)
      exact ⟨by omega, by have := n.2; grind⟩
    · have n := new_sum (a := x0) (b := x1) (c := x3) (d := x2) (by omega) (by grind)
      exact ⟨by omega, by have := n.2; grind⟩
    · have n := new_sum (a := x0) (b := x1) (c := x2) (d := x3) (by omega) (by grind)
      exact ⟨by omega, by have := n.2; grind⟩
  exact ⟨hg2.2.1, key.1, key.2, fun a b ha hb hab => hg2.TT ha hb hab⟩
theorem SQ.qIn {c : Qd} (h : SQ c) : qIn c := fun j w hj hw => by
  obtain ⟨h1, h2⟩ := cRef_0 (h.1 j hj)
  exact coin_in h1 h2 w hw
theorem SQ.evn {c : Qd} (h : SQ c) : ev c := by
  have e := h.DQ.even
  unfold ev dsm
  rw [cod_dg c (by omega), cod_dg c (by omega), cod_dg c (by omega), cod_dg c (by omega)]
  have r0 := rsd_I (c 0 0)
  have r1 := rsd_I (c 1 0)
  have r2 := rsd_I (c 2 0)
  have r3 := rsd_I (c 3 0)
  unfold bsm tI at e
  omega
def RLv (D : Int) (v : Nat → Nat → Int) (c : Qd) : Prop := GT D v ∧ ∀ j w, j < 4 → w < 3 → c j w = Int64.ofInt (v j w)
theorem RLv.turn {D : Int} {v : Nat → Nat → Int} {c : Qd} (h : RLv D v c) {i : Nat} (hi : i < 4) : RLv D (vup v i (nw v i)) (turnc c i) := by
  refine ⟨h.1.turn hi, fun j w hj hw => ?_⟩
  unfold vup turnc
  by_cases q : j = i
  · rw [if_pos ⟨q, hw⟩, if_pos q]
    unfold trn tsum nw
    rw [h.2 0 w (by omega) hw, h.2 1 w (by omega) hw, h.2 2 w (by omega) hw, h.2 3 w (by omega) hw, h.2 i w hi hw]
    simp only [Int64.ofInt_sub, Int64.ofInt_add, Int64.ofInt_mul]
    rfl
  · rw [if_neg (fun z => q z.1), if_neg q]
    exact h.2 j w hj hw
theorem RLv.gdr {D : Int} : ∀ (m : Nat) (v : Nat → Nat → Int) (c : Qd), RLv D v c → ∃ v', RLv D v' (gd m c).2
  | 0, v, _, h => ⟨v, h⟩
  | m + 1, v, c, h => by
    by_cases q : trn c (grt c) 0 < c (grt c) 0
    · rw [gd_go q]
      exact RLv.gdr m _ _ (h.turn (grt_lt c))
    · rw [gd_stop q]
      exact ⟨v, h⟩
theorem RLv.tchs {D : Int} {v : Nat → Nat → Int} {c : Qd} (hD : D ≠ 0) (h : RLv D v c) {i j : Nat} (hi : i < 4) (hj : j < 4) (hij : i ≠ j) : tch c i c j = true := by
  have t := Bf_T hD (h.1.1 i hi) (h.1.1 j hj) (h.1.2 i j hi hj hij)
  unfold tch tchf
  rw [h.2 i 0 hi (by omega), h.2 i 1 hi (by omega), h.2 i 2 hi (by omega), h.2 j 0 hj (by omega), h.2 j 1 hj (by omega), h.2 j 2 hj (by omega)]
  rw [beq_iff_eq]
  have t := congrArg Int64.ofInt t
  simp only [Int64.ofInt_sub, Int64.ofInt_add, Int64.ofInt_mul] at t
  exact t
theorem SQ.root {c : Qd} (h : SQ c) (m : Nat) (hr : ∀ j, j < 4 → cRef (gd m c).2 j = 0) : SQ (gd m c).2 := by
  obtain ⟨D, hg⟩ := h.GI
  obtain ⟨v', hv⟩ := RLv.gdr (D := D) m (vI D c) c ⟨hg.2.2, fun j w hj hw => by
    rw [vI_w hw]
    exact (Int64.ofInt_toInt _).symm⟩
  have hd := gd_DQ m c h.DQ
  exact ⟨hr, hd.2.1, hd.2.2, fun i j hi hj hij => tch_I (hr i hi) (hr j hj) (hv.tchs (by have := hg.1; omega) hi hj hij)⟩
