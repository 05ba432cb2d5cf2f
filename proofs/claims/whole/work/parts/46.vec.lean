def Bf (D : Int) (p q : Nat → Int) : Int := 2 * D * (p 1 * q 1 + p 2 * q 2) - p 0 * q 3 - p 3 * q 0
def nw (v : Nat → Nat → Int) (i : Nat) : Nat → Int := fun w => 2 * (v 0 w + v 1 w + v 2 w + v 3 w) - 3 * v i w
theorem Bf_sym (D : Int) (p q : Nat → Int) : Bf D p q = Bf D q p := by unfold Bf; grind
theorem Bf_nw (D : Int) (v : Nat → Nat → Int) (i : Nat) (q : Nat → Int) : Bf D (nw v i) q = 2 * (Bf D (v 0) q + Bf D (v 1) q + Bf D (v 2) q + Bf D (v 3) q) - 3 * Bf D (v i) q := by unfold Bf nw; grind
def GT (D : Int) (v : Nat → Nat → Int) : Prop := (∀ j, j < 4 → Bf D (v j) (v j) = 2 * D) ∧ ∀ i j, i < 4 → j < 4 → i ≠ j → Bf D (v i) (v j) = -2 * D
def vup (v : Nat → Nat → Int) (i : Nat) (x : Nat → Int) : Nat → Nat → Int := fun j => if j = i then x else v j
theorem GT.row {D : Int} {v : Nat → Nat → Int} (h : GT D v) {j : Nat} (hj : j < 4) : Bf D (v 0) (v j) + Bf D (v 1) (v j) + Bf D (v 2) (v j) + Bf D (v 3) (v j) = -4 * D := by
  obtain ⟨h1, h2⟩ := h
  have hj' : j = 0 ∨ j = 1 ∨ j = 2 ∨ j = 3 := by omega
  rcases hj' with rfl | rfl | rfl | rfl
  · rw [h1 0 hj, h2 1 0 (by omega) hj (by omega), h2 2 0 (by omega) hj (by omega), h2 3 0 (by omega) hj (by omega)]; omega
  · rw [h1 1 hj, h2 0 1 (by omega) hj (by omega), h2 2 1 (by omega) hj (by omega), h2 3 1 (by omega) hj (by omega)]; omega
  · rw [h1 2 hj, h2 0 2 (by omega) hj (by omega), h2 1 2 (by omega) hj (by omega), h2 3 2 (by omega) hj (by omega)]; omega
  · rw [h1 3 hj, h2 0 3 (by omega) hj (by omega), h2 1 3 (by omega) hj (by omega), h2 2 3 (by omega) hj (by omega)]; omega
theorem GT.nw_o {D : Int} {v : Nat → Nat → Int} (h : GT D v) {i j : Nat} (hi : i < 4) (hj : j < 4) (hij : i ≠ j) : Bf D (nw v i) (v j) = -2 * D := by
  rw [Bf_nw, h.row hj, h.2 i j hi hj hij]; omega
theorem GT.nw_i {D : Int} {v : Nat → Nat → Int} (h : GT D v) {i : Nat} (hi : i < 4) : Bf D (nw v i) (v i) = -14 * D := by
  rw [Bf_nw, h.row hi, h.1 i hi]; omega
theorem GT.nw_s {D : Int} {v : Nat → Nat → Int} (h : GT D v) {i : Nat} (hi : i < 4) : Bf D (nw v i) (nw v i) = 2 * D := by
  have ni := h.nw_i hi
  have no := fun j hj hij => h.nw_o (i := i) (j := j) hi hj hij
  rw [Bf_nw, Bf_sym D (v i), ni, Bf_sym D (v 0), Bf_sym D (v 1), Bf_sym D (v 2), Bf_sym D (v 3)]
  have hi' : i = 0 ∨ i = 1 ∨ i = 2 ∨ i = 3 := by omega
  rcases hi' with rfl | rfl | rfl | rfl
  · rw [ni, no 1 (by omega) (by omega), no 2 (by omega) (by omega), no 3 (by omega) (by omega)]; omega
  · rw [ni, no 0 (by omega) (by omega), no 2 (by omega) (by omega), no 3 (by omega) (by omega)]; omega
  · rw [ni, no 0 (by omega) (by omega), no 1 (by omega) (by omega), no 3 (by omega) (by omega)]; omega
  · rw [ni, no 0 (by omega) (by omega), no 1 (by omega) (by omega), no 2 (by omega) (by omega)]; omega
theorem GT.turn {D : Int} {v : Nat → Nat → Int} (h : GT D v) {i : Nat} (hi : i < 4) : GT D (vup v i (nw v i)) := by
  constructor
  · intro j hj
    unfold vup
    by_cases q : j = i
    · rw [if_pos q]; exact h.nw_s hi
    · rw [if_neg q]; exact h.1 j hj
  · intro a b ha hb hab
    unfold vup
    by_cases q1 : a = i
    · subst q1
      rw [if_pos rfl, if_neg (fun z => hab z.symm)]
      exact h.nw_o ha hb hab
    · rw [if_neg q1]
      by_cases q2 : b = i
      · subst q2
        rw [if_pos rfl, Bf_sym]
        exact h.nw_o hb ha (fun z => hab z.symm)
      · rw [if_neg q2]; exact h.2 a b ha hb hab
/-- two that are so touch -/
theorem Bf_T {D : Int} {p q : Nat → Int} (hD : D ≠ 0) (hp : Bf D p p = 2 * D) (hq : Bf D q q = 2 * D) (h : Bf D p q = -2 * D) : (q 0 * p 1 - p 0 * q 1) * (q 0 * p 1 - p 0 * q 1) + (q 0 * p 2 - p 0 * q 2) * (q 0 * p 2 - p 0 * q 2) = (p 0 + q 0) * (p 0 + q 0) := by
  unfold Bf at hp hq h
  have e1 : p 0 * p 3 = D * (p 1 * p 1 + p 2 * p 2) - D := by grind
  have e2 : q 0 * q 3 = D * (q 1 * q 1 + q 2 * q 2) - D := by grind
  have e3 : 2 * D * (p 1 * q 1 + p 2 * q 2) = p 0 * q 3 + p 3 * q 0 - 2 * D := by grind
  have key : D * ((q 0 * p 1 - p 0 * q 1) * (q 0 * p 1 - p 0 * q 1) + (q 0 * p 2 - p 0 * q 2) * (q 0 * p 2 - p 0 * q 2)) = D * ((p 0 + q 0) * (p 0 + q 0)) := by
    have a1 : D * ((q 0 * p 1 - p 0 * q 1) * (q 0 * p 1 - p 0 * q 1) + (q 0 * p 2 - p 0 * q 2) * (q 0 * p 2 - p 0 * q 2)) = q 0 * q 0 * (D * (p 1 * p 1 + p 2 * p 2)) + p 0 * p 0 * (D * (q 1 * q 1 + q 2 * q 2)) - p 0 * q 0 * (2 * D * (p 1 * q 1 + p 2 * q 2)) := by grind
    rw [a1, e3, show D * (p 1 * p 1 + p 2 * p 2) = p 0 * p 3 + D by omega, show D * (q 1 * q 1 + q 2 * q 2) = q 0 * q 3 + D by omega]
    grind
  exact Int.eq_of_mul_eq_mul_left hD key
def zc (D b x y : Int) : Int := D * (x * x + y * y - 1) / b
theorem zc_mul {D b x y : Int} (h : b ∣ D) : b * zc D b x y = D * (x * x + y * y - 1) := by
  unfold zc
  exact Int.mul_ediv_cancel' (Int.dvd_mul_of_dvd_left h)
theorem zc_of {D b x y z : Int} (hb : b ≠ 0) (h : b * z = D * (x * x + y * y - 1)) : zc D b x y = z := by
  unfold zc
  rw [← h, Int.mul_ediv_cancel_left _ hb]
def vI (D : Int) (c : Qd) (j : Nat) : Nat → Int := fun w => if w = 3 then zc D (tI c j 0) (tI c j 1) (tI c j 2) else tI c j w
theorem vI_w {D : Int} {c : Qd} {j w : Nat} (hw : w < 3) : vI D c j w = tI c j w := by unfold vI; rw [if_neg (by omega)]
def accs (c : Qd) (j : Nat) : Prop := cRef c j = 0
theorem acc_b {c : Qd} {j : Nat} (h : cRef c j = 0) : tI c j 0 ≠ 0 ∧ (-20000 ≤ tI c j 0 ∧ tI c j 0 ≤ 20000) ∧ (-50000 ≤ tI c j 1 ∧ tI c j 1 ≤ 50000) ∧ -50000 ≤ tI c j 2 ∧ tI c j 2 ≤ 50000 := by
  obtain ⟨h1, h2⟩ := cRef_0 h
  unfold plR at h2
  rw [Bool.or_eq_false_iff] at h2
  have b := bRef_in h1
  exact ⟨b.1, b.2, pRef_in h2.1, pRef_in h2.2⟩
theorem acc_w {c : Qd} {j : Nat} (h : cRef c j = 0) {w : Nat} (hw : w < 3) : -50000 ≤ tI c j w ∧ tI c j w ≤ 50000 := by
  obtain ⟨-, h0, h1, h2⟩ := acc_b h
  have hw' : w = 0 ∨ w = 1 ∨ w = 2 := by omega
  rcases hw' with rfl | rfl | rfl <;> omega
theorem acc_b2 {c : Qd} (h : ∀ j, j < 4 → cRef c j = 0) {w : Nat} (hw : w < 3) : ∀ j, j < 4 → -1099511627776 ≤ tI c j w ∧ tI c j w ≤ 1099511627776 := fun j hj => by
  have := acc_w (h j hj) hw
  omega
def GI (D : Int) (c : Qd) : Prop := 0 < D ∧ (∀ j, j < 4 → cRef c j = 0) ∧ GT D (vI D c)
def TT (c : Qd) (i j : Nat) : Prop := (tI c j 0 * tI c i 1 - tI c i 0 * tI c j 1) * (tI c j 0 * tI c i 1 - tI c i 0 * tI c j 1) + (tI c j 0 * tI c i 2 - tI c i 0 * tI c j 2) * (tI c j 0 * tI c i 2 - tI c i 0 * tI c j 2) = (tI c i 0 + tI c j 0) * (tI c i 0 + tI c j 0)
theorem GI.TT {D : Int} {c : Qd} (h : GI D c) {i j : Nat} (hi : i < 4) (hj : j < 4) (hij : i ≠ j) : TT c i j := by
  have := Bf_T (by have := h.1; omega) (h.2.2.1 i hi) (h.2.2.1 j hj) (h.2.2.2 i j hi hj hij)
  rw [vI_w (by omega), vI_w (by omega), vI_w (by omega), vI_w (by omega), vI_w (by omega), vI_w (by omega)] at this
  exact this
theorem GI_of {D : Int} {c : Qd} (hD : 0 < D) (ha : ∀ j, j < 4 → cRef c j = 0) (hd : ∀ j, j < 4 → tI c j 0 ∣ D) (ht : ∀ i j, i < 4 → j < 4 → i ≠ j → TT c i j) : GI D c := by
  have self : ∀ j, j < 4 → tI c j 0 * vI D c j 3 = D * (tI c j 1 * tI c j 1 + tI c j 2 * tI c j 2 - 1) := fun j hj => by
    unfold vI; rw [if_pos rfl]; exact zc_mul (hd j hj)
  refine ⟨hD, ha, fun j hj => ?_, fun i j hi hj hij => ?_⟩
  · have := self j hj
    unfold Bf
    rw [vI_w (by omega), vI_w (by omega), vI_w (by omega)]
    grind
  · have s1 := self i hi
    have s2 := self j hj
    have t := ht i j hi hj hij
    have b1 := (acc_b (ha i hi)).1
    have b2 := (acc_b (ha j hj)).1
    unfold Bf
    unfold TT at t
    rw [vI_w (D := D) (c := c) (j := i) (w := 1) (by omega), vI_w (D := D) (c := c) (j := j) (w := 1) (by omega), vI_w (D := D) (c := c) (j := i) (w := 2) (by omega), vI_w (D := D) (c := c) (j := j) (w := 2) (by omega), vI_w (D := D) (c := c) (j := i) (w := 0) (by omega), vI_w (D := D) (c := c) (j := j) (w := 0) (by omega)]
    generalize vI D c i 3 = z1 at *
    generalize vI D c j 3 = z2 at *
    generalize tI c i 0 = a at *
    generalize tI c j 0 = b at *
    generalize tI c i 1 = x at *
    generalize tI c j 1 = u at *
    generalize tI c i 2 = y at *
    generalize tI c j 2 = v at *
    have hab : a * b ≠ 0 := Int.mul_ne_zero b1 b2
    apply Int.eq_of_mul_eq_mul_left hab
    have k1 : a * b * (2 * D * (x * u + y * v) - a * z2 - z1 * b) = 2 * D * (a * b * (x * u + y * v)) - a * a * (b * z2) - b * b * (a * z1) := by grind
    rw [k1, s1, s2]
    have k2 : b * b * (x * x + y * y) + a * a * (u * u + v * v) - 2 * (a * b * (x * u + y * v)) = (a + b) * (a + b) := by grind
    have k3 : D * (b * b * (x * x + y * y) + a * a * (u * u + v * v) - 2 * (a * b * (x * u + y * v))) = D * ((a + b) * (a + b)) := by rw [k2]
    grind
theorem vI_turn {D : Int} {c : Qd} (h : GI D c) {i : Nat} (hi : i < 4) (hr : cRef (turnc c i) i = 0) : ∀ j, j < 4 → ∀ w, w < 4 → vI D (turnc c i) j w = vup (vI D c) i (nw (vI D c) i) j w := by
  obtain ⟨hD, ha, hg⟩ := h
  have low : ∀ j, j < 4 → ∀ w, w < 3 → tI (turnc c i) j w = vup (vI D c) i (nw (vI D c) i) j w := fun j hj w hw => by
    rw [turn_I hi hw (acc_b2 ha hw)]
    unfold vup
    by_cases q : j = i
    · rw [if_pos q, if_pos q]
      unfold nw
      rw [vI_w hw, vI_w hw, vI_w hw, vI_w hw, vI_w hw]
    · rw [if_neg q, if_neg q, vI_w hw]
  have same : ∀ j, j < 4 → j ≠ i → ∀ w, tI (turnc c i) j w = tI c j w := fun j hj q w => by
    unfold tI turnc
    rw [if_neg (fun z => q z.1)]
  intro j hj w hw
  by_cases q3 : w = 3
  · subst q3
    by_cases q : j = i
    · subst q
      unfold vI
      rw [if_pos rfl]
      refine zc_of (acc_b hr).1 ?_
      have l0 := low j hj 0 (by omega)
      have l1 := low j hj 1 (by omega)
      have l2 := low j hj 2 (by omega)
      rw [l0, l1, l2]
      have s := hg.nw_s hi
      show vup (vI D c) j (nw (vI D c) j) j 0 * vup (vI D c) j (nw (vI D c) j) j 3 = _
      have e : vup (vI D c) j (nw (vI D c) j) j = nw (vI D c) j := by unfold vup; rw [if_pos rfl]
      rw [e]
      unfold Bf at s
      generalize nw (vI D c) j = p at s
      grind
    · unfold vup
      rw [if_neg q]
      unfold vI
      rw [if_pos rfl, if_pos rfl, same j hj q, same j hj q, same j hj q]
  · rw [vI_w (by omega)]
    exact low j hj w (by omega)
theorem Bf_congr {D : Int} {p p' q q' : Nat → Int} (h1 : ∀ w, w < 4 → p w = p' w) (h2 : ∀ w, w < 4 → q w = q' w) : Bf D p q = Bf D p' q' := by
  unfold Bf
  rw [h1 0 (by omega), h1 1 (by omega), h1 2 (by omega), h1 3 (by omega), h2 0 (by omega), h2 1 (by omega), h2 2 (by omega), h2 3 (by omega)]
theorem acc_turn {c : Qd} {i : Nat} (ha : ∀ j, j < 4 → cRef c j = 0) (hr : cRef (turnc c i) i = 0) : ∀ j, j < 4 → cRef (turnc c i) j = 0 := fun j hj => by
  by_cases q : j = i
  · subst q; exact hr
  · have e : ∀ w, turnc c i j w = c j w := fun w => by unfold turnc; rw [if_neg (fun z => q z.1)]
    have := ha j hj
    unfold cRef plR at this ⊢
    rw [e 0, e 1, e 2]
    exact this
theorem GI.turn {D : Int} {c : Qd} (h : GI D c) {i : Nat} (hi : i < 4) (hr : cRef (turnc c i) i = 0) : GI D (turnc c i) := by
  have hv := vI_turn h hi hr
  have ht := h.2.2.turn hi
  refine ⟨h.1, acc_turn h.2.1 hr, fun j hj => ?_, fun a b ha hb hab => ?_⟩
  · rw [Bf_congr (hv j hj) (hv j hj)]; exact ht.1 j hj
  · rw [Bf_congr (hv a ha) (hv b hb)]; exact ht.2 a b ha hb hab
