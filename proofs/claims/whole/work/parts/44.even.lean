abbrev tI (c : Qd) (j w : Nat) : Int := (c j w).toInt
theorem tsum_I {c : Qd} {w : Nat} (h : ∀ j, j < 4 → -1099511627776 ≤ tI c j w ∧ tI c j w ≤ 1099511627776) : (tsum c w).toInt = tI c 0 w + tI c 1 w + tI c 2 w + tI c 3 w := by
  have h0 := h 0 (by omega)
  have h1 := h 1 (by omega)
  have h2 := h 2 (by omega)
  have h3 := h 3 (by omega)
  unfold tI at h0 h1 h2 h3 ⊢
  unfold tsum
  rw [Int64.toInt_add, Int64.toInt_add, Int64.toInt_add, bm64 (x := (c 0 w).toInt + (c 1 w).toInt) (by omega) (by omega), bm64 (x := (c 0 w).toInt + (c 1 w).toInt + (c 2 w).toInt) (by omega) (by omega)]
  exact bm64 (by omega) (by omega)
theorem trn_I {c : Qd} {i w : Nat} (hi : i < 4) (h : ∀ j, j < 4 → -1099511627776 ≤ tI c j w ∧ tI c j w ≤ 1099511627776) : (trn c i w).toInt = 2 * (tI c 0 w + tI c 1 w + tI c 2 w + tI c 3 w) - 3 * tI c i w := by
  have hs := tsum_I h
  have h0 := h 0 (by omega)
  have h1 := h 1 (by omega)
  have h2 := h 2 (by omega)
  have h3 := h 3 (by omega)
  have hi2 := h i hi
  unfold tI at hs h0 h1 h2 h3 hi2 ⊢
  unfold trn
  rw [Int64.toInt_sub, Int64.toInt_mul, Int64.toInt_mul, hs, show (2 : Int64).toInt = 2 by decide, show (3 : Int64).toInt = 3 by decide, bm64 (x := 2 * ((c 0 w).toInt + (c 1 w).toInt + (c 2 w).toInt + (c 3 w).toInt)) (by omega) (by omega), bm64 (x := 3 * (c i w).toInt) (by omega) (by omega)]
  exact bm64 (by omega) (by omega)
theorem turn_I {c : Qd} {i j w : Nat} (hi : i < 4) (hw : w < 3) (h : ∀ j, j < 4 → -1099511627776 ≤ tI c j w ∧ tI c j w ≤ 1099511627776) : tI (turnc c i) j w = if j = i then 2 * (tI c 0 w + tI c 1 w + tI c 2 w + tI c 3 w) - 3 * tI c i w else tI c j w := by
  unfold tI turnc
  by_cases q : j = i
  · rw [if_pos ⟨q, hw⟩, if_pos q]; exact trn_I hi h
  · rw [if_neg (fun z => q z.1), if_neg q]
theorem qIn.b {c : Qd} (h : qIn c) {j w : Nat} (hj : j < 4) (hw : w < 3) : -2147483648 ≤ tI c j w ∧ tI c j w ≤ 2147483647 := by
  unfold tI
  rw [← h j w hj hw, Int32.toInt_toInt64]
  exact ⟨Int32.le_toInt _, Int32.toInt_le _⟩
theorem qIn.b2 {c : Qd} (h : qIn c) {w : Nat} (hw : w < 3) : ∀ j, j < 4 → -1099511627776 ≤ tI c j w ∧ tI c j w ≤ 1099511627776 := fun j hj => by
  have := h.b hj hw
  omega
theorem cod_dg (c : Qd) {j : Nat} (hj : j < 4) : dg (cod c 4) j = rsd (c j 0) := by
  have e : cod c 4 = en (rsd (c 0 0)) (rsd (c 1 0)) (rsd (c 2 0)) (rsd (c 3 0)) := by
    show (((0 + 1 * rsd (c 0 0)) + 24 * rsd (c 1 0)) + 576 * rsd (c 2 0)) + 13824 * rsd (c 3 0) = _
    unfold en
    omega
  obtain ⟨e0, e1, e2, e3⟩ := en_dg (rsd_lt (c 0 0)) (rsd_lt (c 1 0)) (rsd_lt (c 2 0)) (rsd_lt (c 3 0))
  rw [e]
  have hj' : j = 0 ∨ j = 1 ∨ j = 2 ∨ j = 3 := by omega
  rcases hj' with rfl | rfl | rfl | rfl <;> assumption
theorem codM_rv (c : Qd) : codM c 4 = rv (cod c 4) := by
  unfold rv
  rw [cod_dg c (by omega), cod_dg c (by omega), cod_dg c (by omega), cod_dg c (by omega)]
  show 24 * (24 * (24 * (24 * 0 + rsd (c 0 0)) + rsd (c 1 0)) + rsd (c 2 0)) + rsd (c 3 0) = _
  unfold en
  omega
theorem rsd_I (x : Int64) : (rsd x : Int) = x.toInt % 24 := by unfold rsd; omega
theorem cod_turn {c : Qd} {i : Nat} (h : qIn c) (hi : i < 4) : cod (turnc c i) 4 = swp (cod c 4) i := by
  refine dg_ext (cod_lt _) (swp_lt hi (cod_lt c)).1 (fun j hj => ?_)
  rw [swp_dg (cod_lt c) hi hj, cod_dg _ hj]
  have ht := turn_I (c := c) (i := i) (j := j) (w := 0) hi (by omega) (h.b2 (by omega))
  by_cases q : j = i
  · subst q
    rw [if_pos rfl] at ht ⊢
    rw [nd_eq]
    unfold dsm
    rw [cod_dg c (by omega), cod_dg c (by omega), cod_dg c (by omega), cod_dg c (by omega), cod_dg c hi]
    have r0 := rsd_I (c 0 0)
    have r1 := rsd_I (c 1 0)
    have r2 := rsd_I (c 2 0)
    have r3 := rsd_I (c 3 0)
    have rj := rsd_I (c j 0)
    have rt := rsd_I (turnc c j j 0)
    rw [show (turnc c j j 0).toInt = tI (turnc c j) j 0 from rfl, ht] at rt
    have lj := rsd_lt (c j 0)
    have lt := rsd_lt (turnc c j j 0)
    unfold tI at rt
    omega
  · rw [if_neg q] at ht ⊢
    rw [cod_dg c hj]
    unfold rsd
    rw [show (turnc c i j 0).toInt = (c j 0).toInt from ht]
def ev (c : Qd) : Prop := dsm (cod c 4) % 2 = 0
theorem ev_turn {c : Qd} {i : Nat} (h : qIn c) (hi : i < 4) (he : ev c) : ev (turnc c i) := by
  unfold ev
  rw [cod_turn h hi]
  exact ((RE.base (v := cod c 4)).step i hi |>.four (cod_lt c) he).1
theorem sn_MK {c : Qd} (he : ev c) : ∃ W, sn c = MK W ∧ ∀ x, x ∈ W ↔ RE (cod c 4) x := gat_MK (cod_lt c) he
theorem sn_turn {c : Qd} {i : Nat} (h : qIn c) (hi : i < 4) (he : ev c) : sn (turnc c i) = sn c := by
  obtain ⟨W1, e1, m1⟩ := sn_MK he
  obtain ⟨W2, e2, m2⟩ := sn_MK (ev_turn h hi he)
  rw [e1, e2]
  rw [cod_turn h hi] at m2
  have hr := (RE.base (v := cod c 4)).step i hi
  refine mk_eq (fun x hx => (m1 x).mpr (hr.trans ((m2 x).mp hx))) (fun x hx => (m2 x).mpr ((hr.symm (cod_lt c)).trans ((m1 x).mp hx)))
theorem bits4_rv (u : Nat) : bits4 (rv u) = bits4 u := by
  unfold bits4
  rw [rv_dg u (by omega), rv_dg u (by omega), rv_dg u (by omega), rv_dg u (by omega)]
  show ((bitI (dg u 0) ||| bitI (dg u 1)) ||| bitI (dg u 2)) ||| bitI (dg u 3) = ((bitI (dg u 3) ||| bitI (dg u 2)) ||| bitI (dg u 1)) ||| bitI (dg u 0)
  generalize bitI (dg u 0) = a
  generalize bitI (dg u 1) = b
  generalize bitI (dg u 2) = c
  generalize bitI (dg u 3) = d
  ac_rfl
theorem mk_map (W : List Nat) : MK (W.map rv) = MK W := by
  induction W with
  | nil => rfl
  | cons u t ih =>
    show bits4 (rv u) ||| MK (t.map rv) = bits4 u ||| MK t
    rw [bits4_rv, ih]
theorem seen_eq {c : Qd} (he : ev c) : mseen 1296 (fup (fun _ => nI 0) (codM c 4), [codM c 4]) (nI 0) = some (sn c) := by
  obtain ⟨W1, e1, m1⟩ := sn_MK he
  have hv := cod_lt c
  obtain ⟨res, W2, e2, rfl, m2⟩ := mseen_MK (v := codM c 4) (codM_lt c) (by rw [codM_rv, rv_dsm]; exact he)
  rw [e2, e1]
  congr 1
  rw [← mk_map W2]
  rw [codM_rv] at m2
  refine mk_eq (fun x hx => ?_) (fun x hx => ?_)
  · obtain ⟨u, hu, rfl⟩ := List.mem_map.mp hx
    have := ((m2 u).mp hu).rvs (rv_lt _)
    rw [rv_rv hv] at this
    exact (m1 _).mpr this
  · have hx' := (m1 x).mp hx
    refine List.mem_map.mpr ⟨rv x, (m2 _).mpr (hx'.rvs hv), rv_rv (hx'.lt hv)⟩
