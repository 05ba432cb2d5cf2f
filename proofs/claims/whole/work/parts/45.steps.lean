theorem sq0 (x : Int) : 0 ≤ x * x := by
  rcases Int.le_total 0 x with h | h
  · exact Int.mul_nonneg h h
  · exact Int.mul_nonneg_of_nonpos_of_nonpos h h
theorem sqz {x : Int} (h : x * x ≤ 0) : x = 0 := by
  have := sq0 x
  have e : x * x = 0 := by omega
  rcases Int.mul_eq_zero.mp e with q | q <;> exact q
theorem desc_id {a b p q : Int} (h : 2 * (a * a + b * b + p * p + q * q) = (a + b + p + q) * (a + b + p + q)) : (a - b) * (a - b) + (p - q) * (p - q) = 2 * ((a + b) * (p + q)) := by grind
theorem pair_p {a b p q : Int} (hs : 0 < a + b + p + q) (h : 2 * (a * a + b * b + p * p + q * q) = (a + b + p + q) * (a + b + p + q)) : 0 ≤ a + b := by
  have e := desc_id h
  have s1 := sq0 (a - b)
  have s2 := sq0 (p - q)
  rcases Int.lt_or_le (a + b) 0 with hn | hn
  · have : (a + b) * (p + q) < 0 := Int.mul_neg_of_neg_of_pos hn (by omega)
    omega
  · exact hn
theorem pair_n {a b p q : Int} (hs : a + b + p + q < 0) (h : 2 * (a * a + b * b + p * p + q * q) = (a + b + p + q) * (a + b + p + q)) : a + b ≤ 0 := by
  have := pair_p (a := -a) (b := -b) (p := -p) (q := -q) (by omega) (by grind)
  omega
theorem pair_1 {d g p q : Int} (hs : 0 < d + g + p + q) (h : 2 * (d * d + g * g + p * p + q * q) = (d + g + p + q) * (d + g + p + q)) (hd : d + g + p + q < 2 * d) : 1 ≤ p + q := by
  have e := desc_id h
  have s1 := sq0 (d - g)
  have s2 := sq0 (p - q)
  have h0 : 0 ≤ p + q := pair_p (a := p) (b := q) (p := d) (q := g) (by omega) (by grind)
  rcases Int.lt_or_le (p + q) 1 with hn | hn
  · have hz : p + q = 0 := by omega
    rw [hz, Int.mul_zero] at e
    have := sqz (x := d - g) (by omega)
    omega
  · exact hn
/-- the new sum is above 0 -/
theorem new_sum {a b c d : Int} (hs : 0 < a + b + c + d) (h : 2 * (a * a + b * b + c * c + d * d) = (a + b + c + d) * (a + b + c + d)) : 0 < a + b + c + (2 * (a + b + c) - d) ∧ 2 * (a * a + b * b + c * c + (2 * (a + b + c) - d) * (2 * (a + b + c) - d)) = (a + b + c + (2 * (a + b + c) - d)) * (a + b + c + (2 * (a + b + c) - d)) := by
  have h' : 2 * (a * a + b * b + c * c + (2 * (a + b + c) - d) * (2 * (a + b + c) - d)) = (a + b + c + (2 * (a + b + c) - d)) * (a + b + c + (2 * (a + b + c) - d)) := by grind
  refine ⟨?_, h'⟩
  have q1 : 0 ≤ a + b := pair_p (p := c) (q := d) hs h
  have q2 : 0 ≤ a + c := pair_p (p := b) (q := d) (by omega) (by grind)
  have q3 : 0 ≤ b + c := pair_p (p := a) (q := d) (by omega) (by grind)
  generalize hd : 2 * (a + b + c) - d = d' at h' ⊢
  have zero : ¬ (a = 0 ∧ b = 0 ∧ c = 0) := fun ⟨z1, z2, z3⟩ => by
    subst z1 z2 z3
    have : d * d = 0 := by grind
    rcases Int.mul_eq_zero.mp this with w | w <;> omega
  rcases Int.lt_or_le 0 (a + b + c + d') with hp | hp
  · exact hp
  · exfalso
    apply zero
    rcases Int.lt_or_eq_of_le hp with hn | hn
    · have r1 : a + b ≤ 0 := pair_n (p := c) (q := d') hn h'
      have r2 : a + c ≤ 0 := pair_n (p := b) (q := d') (by omega) (by grind)
      have r3 : b + c ≤ 0 := pair_n (p := a) (q := d') (by omega) (by grind)
      omega
    · rw [hn] at h'
      have s1 := sq0 a
      have s2 := sq0 b
      have s3 := sq0 c
      have s4 := sq0 d'
      exact ⟨sqz (by omega), sqz (by omega), sqz (by omega)⟩
def bsm (c : Qd) : Int := tI c 0 0 + tI c 1 0 + tI c 2 0 + tI c 3 0
def bsq (c : Qd) : Int := tI c 0 0 * tI c 0 0 + tI c 1 0 * tI c 1 0 + tI c 2 0 * tI c 2 0 + tI c 3 0 * tI c 3 0
def DQ (c : Qd) : Prop := (∀ j, j < 4 → -20000 ≤ tI c j 0 ∧ tI c j 0 ≤ 20000) ∧ 0 < bsm c ∧ 2 * bsq c = bsm c * bsm c
theorem DQ.b2 {c : Qd} (h : DQ c) : ∀ j, j < 4 → -1099511627776 ≤ tI c j 0 ∧ tI c j 0 ≤ 1099511627776 := fun j hj => by
  have := h.1 j hj
  omega
theorem DQ.even {c : Qd} (h : DQ c) : bsm c % 2 = 0 := by
  have h2 := h.2.2
  have : bsm c % 2 = 0 ∨ bsm c % 2 = 1 := by omega
  rcases this with q | q
  · exact q
  · exfalso
    obtain ⟨k, hk⟩ : ∃ k, bsm c = 2 * k + 1 := ⟨bsm c / 2, by omega⟩
    rw [hk] at h2
    have : (2 * k + 1) * (2 * k + 1) = 2 * (2 * (k * k) + 2 * k) + 1 := by grind
    omega
theorem grt_max (c : Qd) : ∀ j, j < 4 → tI c j 0 ≤ tI c (grt c) 0 := by
  have key : ∀ b k, tI c b 0 ≤ tI c (gstep c b k) 0 ∧ tI c k 0 ≤ tI c (gstep c b k) 0 := fun b k => by
    unfold gstep tI
    split
    · next q => rw [Int64.lt_iff_toInt_lt] at q; omega
    · next q => rw [Int64.lt_iff_toInt_lt] at q; omega
  intro j hj
  have k1 := key 0 1
  have k2 := key (gstep c 0 1) 2
  have k3 := key (gstep c (gstep c 0 1) 2) 3
  have hj' : j = 0 ∨ j = 1 ∨ j = 2 ∨ j = 3 := by omega
  unfold grt
  rcases hj' with rfl | rfl | rfl | rfl <;> omega
/-- the step down: the next four -/
theorem DQ.turn {c : Qd} (h : DQ c) {i : Nat} (hi : i < 4) (hlt : trn c i 0 < c i 0) : DQ (turnc c i) ∧ bsm (turnc c i) = bsm c - 2 * (2 * tI c i 0 - bsm c) ∧ bsm c < 2 * tI c i 0 := by
  have ht := fun j => turn_I (c := c) (i := i) (j := j) (w := 0) hi (by omega) h.b2
  have hn := trn_I (c := c) (i := i) (w := 0) hi h.b2
  rw [Int64.lt_iff_toInt_lt, hn] at hlt
  obtain ⟨hb, hs, hd⟩ := h
  have b0 := hb 0 (by omega)
  have b1 := hb 1 (by omega)
  have b2 := hb 2 (by omega)
  have b3 := hb 3 (by omega)
  have t0 := ht 0
  have t1 := ht 1
  have t2 := ht 2
  have t3 := ht 3
  unfold DQ
  unfold bsm bsq at *
  have hlt : 2 * (tI c 0 0 + tI c 1 0 + tI c 2 0 + tI c 3 0) - 3 * tI c i 0 < tI c i 0 := hlt
  have hi' : i = 0 ∨ i = 1 ∨ i = 2 ∨ i = 3 := by omega
  have hbn : ∀ (w x y z : Int), 0 < x + y + z + w → 2 * (x * x + y * y + z * z + w * w) = (x + y + z + w) * (x + y + z + w) → x ≤ 20000 → -20000 ≤ w := fun w x y z h1 h2 h3 => by
    have := pair_p (a := w) (b := x) (p := y) (q := z) (by omega) (by grind)
    omega
  rcases hi' with rfl | rfl | rfl | rfl
  all_goals
    simp only [reduceIte, Nat.reduceEqDiff] at t0 t1 t2 t3
    generalize tI c 0 0 = x0 at *
    generalize tI c 1 0 = x1 at *
    generalize tI c 2 0 = x2 at *
    generalize tI c 3 0 = x3 at *
  · have n := new_sum (a := x1) (b := x2) (c := x3) (d := x0) (by omega) (by grind)
    rw [show 2 * (x1 + x2 + x3) - x0 = 2 * (x0 + x1 + x2 + x3) - 3 * x0 by omega] at n
    generalize hy : 2 * (x0 + x1 + x2 + x3) - 3 * x0 = y at *
    have lo := hbn y x1 x2 x3 n.1 n.2 (by omega)
    refine ⟨⟨fun j hj => ?_, by omega, by rw [t0, t1, t2, t3]; have := n.2; grind⟩, by omega, by omega⟩
    have hj' : j = 0 ∨ j = 1 ∨ j = 2 ∨ j = 3 := by omega
    rcases hj' with rfl | rfl | rfl | rfl <;> omega
  · have n := new_sum (a := x0) (b := x2) (c := x3) (d := x1) (by omega) (by grind)
    rw [show 2 * (x0 + x2 + x3) - x1 = 2 * (x0 + x1 + x2 + x3) - 3 * x1 by omega] at n
    generalize hy : 2 * (x0 + x1 + x2 + x3) - 3 * x1 = y at *
    have lo := hbn y x0 x2 x3 n.1 n.2 (by omega)
    refine ⟨⟨fun j hj => ?_, by omega, by rw [t0, t1, t2, t3]; have := n.2; grind⟩, by omega, by omega⟩
    have hj' : j = 0 ∨ j = 1 ∨ j = 2 ∨ j = 3 := by omega
    rcases hj' with rfl | rfl | rfl | rfl <;> omega
  · have n := new_sum (a := x0) (b := x1) (c := x3) (d := x2) (by omega) (by grind)
    rw [show 2 * (x0 + x1 + x3) - x2 = 2 * (x0 + x1 + x2 + x3) - 3 * x2 by omega] at n
    generalize hy : 2 * (x0 + x1 + x2 + x3) - 3 * x2 = y at *
    have lo := hbn y x0 x1 x3 n.1 n.2 (by omega)
    refine ⟨⟨fun j hj => ?_, by omega, by rw [t0, t1, t2, t3]; have := n.2; grind⟩, by omega, by omega⟩
    have hj' : j = 0 ∨ j = 1 ∨ j = 2 ∨ j = 3 := by omega
    rcases hj' with rfl | rfl | rfl | rfl <;> omega
  · have n := new_sum (a := x0) (b := x1) (c := x2) (d := x3) (by omega) (by grind)
    rw [show 2 * (x0 + x1 + x2) - x3 = 2 * (x0 + x1 + x2 + x3) - 3 * x3 by omega] at n
    generalize hy : 2 * (x0 + x1 + x2 + x3) - 3 * x3 = y at *
    have lo := hbn y x0 x1 x2 n.1 n.2 (by omega)
    refine ⟨⟨fun j hj => ?_, by omega, by rw [t0, t1, t2, t3]; have := n.2; grind⟩, by omega, by omega⟩
    have hj' : j = 0 ∨ j = 1 ∨ j = 2 ∨ j = 3 := by omega
    rcases hj' with rfl | rfl | rfl | rfl <;> omega
def Rr (c : Qd) : Int := 2 * tI c (grt c) 0 - bsm c
theorem Rr_turn {c : Qd} (h : DQ c) {i : Nat} (hi : i < 4) (hlt : trn c i 0 < c i 0) (hj : grt (turnc c i) ≠ i) : Rr (turnc c i) ≤ 2 * tI c i 0 - bsm c - 2 := by
  obtain ⟨h1, h2, h3⟩ := h.turn hi hlt
  have ht := turn_I (c := c) (i := i) (j := grt (turnc c i)) (w := 0) hi (by omega) h.b2
  rw [if_neg hj] at ht
  have hj4 := grt_lt (turnc c i)
  unfold Rr
  rw [ht, h2]
  generalize grt (turnc c i) = j at *
  obtain ⟨hb, hs, hd⟩ := h
  unfold bsm bsq at *
  have hi' : i = 0 ∨ i = 1 ∨ i = 2 ∨ i = 3 := by omega
  have hj' : j = 0 ∨ j = 1 ∨ j = 2 ∨ j = 3 := by omega
  rcases hi' with rfl | rfl | rfl | rfl
  · rcases hj' with rfl | rfl | rfl | rfl
    · exact absurd rfl hj
    · have := pair_1 (d := tI c 0 0) (g := tI c 1 0) (p := tI c 2 0) (q := tI c 3 0) (by omega) (by grind) (by omega)
      omega
    · have := pair_1 (d := tI c 0 0) (g := tI c 2 0) (p := tI c 1 0) (q := tI c 3 0) (by omega) (by grind) (by omega)
      omega
    · have := pair_1 (d := tI c 0 0) (g := tI c 3 0) (p := tI c 1 0) (q := tI c 2 0) (by omega) (by grind) (by omega)
      omega
  · rcases hj' with rfl | rfl | rfl | rfl
    · have := pair_1 (d := tI c 1 0) (g := tI c 0 0) (p := tI c 2 0) (q := tI c 3 0) (by omega) (by grind) (by omega)
      omega
    · exact absurd rfl hj
    · have := pair_1 (d := tI c 1 0) (g := tI c 2 0) (p := tI c 0 0) (q := tI c 3 0) (by omega) (by grind) (by omega)
      omega
    · have := pair_1 (d := tI c 1 0) (g := tI c 3 0) (p := tI c 0 0) (q := tI c 2 0) (by omega) (by grind) (by omega)
      omega
  · rcases hj' with rfl | rfl | rfl | rfl
    · have := pair_1 (d := tI c 2 0) (g := tI c 0 0) (p := tI c 1 0) (q := tI c 3 0) (by omega) (by grind) (by omega)
      omega
    · have := pair_1 (d := tI c 2 0) (g := tI c 1 0) (p := tI c 0 0) (q := tI c 3 0) (by omega) (by grind) (by omega)
      omega
    · exact absurd rfl hj
    · have := pair_1 (d := tI c 2 0) (g := tI c 3 0) (p := tI c 0 0) (q := tI c 1 0) (by omega) (by grind) (by omega)
      omega
  · rcases hj' with rfl | rfl | rfl | rfl
    · have := pair_1 (d := tI c 3 0) (g := tI c 0 0) (p := tI c 1 0) (q := tI c 2 0) (by omega) (by grind) (by omega)
      omega
    · have := pair_1 (d := tI c 3 0) (g := tI c 1 0) (p := tI c 0 0) (q := tI c 2 0) (by omega) (by grind) (by omega)
      omega
    · have := pair_1 (d := tI c 3 0) (g := tI c 2 0) (p := tI c 0 0) (q := tI c 1 0) (by omega) (by grind) (by omega)
      omega
    · exact absurd rfl hj
theorem gd_stop {c : Qd} {m : Nat} (h : ¬ trn c (grt c) 0 < c (grt c) 0) : gd m c = (0, c) := by
  cases m with
  | zero => rfl
  | succ m => unfold gd; rw [if_neg h]
theorem gd_go {c : Qd} {m : Nat} (h : trn c (grt c) 0 < c (grt c) 0) : gd (m + 1) c = ((gd m (turnc c (grt c))).1 + 1, (gd m (turnc c (grt c))).2) := by
  rw [show gd (m + 1) c = (if trn c (grt c) 0 < c (grt c) 0 then ((gd m (turnc c (grt c))).1 + 1, (gd m (turnc c (grt c))).2) else (0, c)) from rfl, if_pos h]
theorem gd_R : ∀ (m : Nat) (c : Qd), DQ c → (gd m c).1 = 0 ∨ (2 * ((gd m c).1 : Int) ≤ Rr c ∧ 2 * (((gd m c).1 : Int) * ((gd m c).1 + 1)) ≤ bsm c)
  | 0, c, _ => Or.inl rfl
  | m + 1, c, h => by
    by_cases q : trn c (grt c) 0 < c (grt c) 0
    · rw [gd_go q]
      obtain ⟨h1, h2, h3⟩ := h.turn (grt_lt c) q
      have ih := gd_R m _ h1
      have e1 := h.even
      have e2 := h1.even
      have p2 := h1.2.1
      right
      show 2 * (((gd m (turnc c (grt c))).1 + 1 : Nat) : Int) ≤ Rr c ∧ 2 * ((((gd m (turnc c (grt c))).1 + 1 : Nat) : Int) * (((gd m (turnc c (grt c))).1 + 1 : Nat) + 1)) ≤ bsm c
      have hz : (gd m (turnc c (grt c))).1 = 0 ∨ (2 * ((gd m (turnc c (grt c))).1 : Int) ≤ Rr c - 2 ∧ 2 * (((gd m (turnc c (grt c))).1 : Int) * ((gd m (turnc c (grt c))).1 + 1)) ≤ bsm (turnc c (grt c))) := by
        rcases ih with z | ⟨z1, z2⟩
        · exact Or.inl z
        · by_cases w : grt (turnc c (grt c)) = grt c
          · left
            have : ¬ trn (turnc c (grt c)) (grt (turnc c (grt c))) 0 < turnc c (grt c) (grt (turnc c (grt c))) 0 := by
              rw [w]
              have tt : trn (turnc c (grt c)) (grt c) 0 = c (grt c) 0 := by
                have := congrFun (congrFun (turn_turn c (grt_lt c)) (grt c)) 0
                unfold turnc at this ⊢
                rwa [if_pos ⟨rfl, by omega⟩] at this
              rw [tt, show turnc c (grt c) (grt c) 0 = trn c (grt c) 0 by unfold turnc; rw [if_pos ⟨rfl, by omega⟩]]
              exact Int64.lt_asymm q
            rw [gd_stop this]
          · right
            have := Rr_turn h (grt_lt c) q w
            unfold Rr at this ⊢
            unfold Rr at z1
            exact ⟨by omega, z2⟩
      unfold Rr at hz ⊢
      generalize (gd m (turnc c (grt c))).1 = t at hz
      rcases hz with rfl | ⟨z1, z2⟩
      · simp only [Nat.zero_add]
        refine ⟨by omega, by omega⟩
      · refine ⟨by omega, ?_⟩
        have e : (((t + 1 : Nat) : Int) * ((t + 1 : Nat) + 1)) = (t : Int) * (t + 1) + 2 * (t + 1) := by
          push_cast
          grind
        rw [e]
        omega
    · rw [gd_stop q]
      exact Or.inl rfl
theorem gd_1000 {c : Qd} (h : DQ c) (m : Nat) : (gd m c).1 ≤ 1000 := by
  rcases gd_R m c h with z | ⟨-, z⟩
  · omega
  · have b : bsm c ≤ 80000 := by
      have h0 := h.1 0 (by omega)
      have h1 := h.1 1 (by omega)
      have h2 := h.1 2 (by omega)
      have h3 := h.1 3 (by omega)
      unfold bsm
      omega
    generalize (gd m c).1 = t at z
    rcases Nat.lt_or_ge 1000 t with q | q
    · exfalso
      have : (1000 : Int) * (t + 1) ≤ (t : Int) * (t + 1) := Int.mul_le_mul_of_nonneg_right (by omega) (by omega)
      omega
    · exact q
theorem gd_DQ : ∀ (m : Nat) (c : Qd), DQ c → DQ (gd m c).2
  | 0, _, h => h
  | m + 1, c, h => by
    by_cases q : trn c (grt c) 0 < c (grt c) 0
    · rw [gd_go q]
      exact gd_DQ m _ (h.turn (grt_lt c) q).1
    · rw [gd_stop q]
      exact h
