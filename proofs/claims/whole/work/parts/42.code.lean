def en (a b c d : Nat) : Nat := a + 24 * b + 576 * c + 13824 * d
theorem en_dg {a b c d : Nat} (ha : a < 24) (hb : b < 24) (hc : c < 24) (hd : d < 24) : dg (en a b c d) 0 = a ∧ dg (en a b c d) 1 = b ∧ dg (en a b c d) 2 = c ∧ dg (en a b c d) 3 = d := by
  unfold en
  refine ⟨?_, ?_, ?_, ?_⟩
  · show (a + 24 * b + 576 * c + 13824 * d) / 1 % 24 = a
    omega
  · show (a + 24 * b + 576 * c + 13824 * d) / 24 % 24 = b
    omega
  · show (a + 24 * b + 576 * c + 13824 * d) / 576 % 24 = c
    omega
  · show (a + 24 * b + 576 * c + 13824 * d) / 13824 % 24 = d
    omega
theorem of_dg {u : Nat} (h : u < 331776) : u = en (dg u 0) (dg u 1) (dg u 2) (dg u 3) := by
  show u = u / 1 % 24 + 24 * (u / 24 % 24) + 576 * (u / 576 % 24) + 13824 * (u / 13824 % 24)
  omega
theorem en_lt {a b c d : Nat} (ha : a < 24) (hb : b < 24) (hc : c < 24) (hd : d < 24) : en a b c d < 331776 := by unfold en; omega
theorem swp_en {u : Nat} (h : u < 331776) : swp u 0 = en (nd u 0) (dg u 1) (dg u 2) (dg u 3) ∧ swp u 1 = en (dg u 0) (nd u 1) (dg u 2) (dg u 3) ∧ swp u 2 = en (dg u 0) (dg u 1) (nd u 2) (dg u 3) ∧ swp u 3 = en (dg u 0) (dg u 1) (dg u 2) (nd u 3) := by
  have e := of_dg h
  unfold en at e ⊢
  refine ⟨?_, ?_, ?_, ?_⟩
  · show u - 1 * dg u 0 + 1 * nd u 0 = _
    omega
  · show u - 24 * dg u 1 + 24 * nd u 1 = _
    omega
  · show u - 576 * dg u 2 + 576 * nd u 2 = _
    omega
  · show u - 13824 * dg u 3 + 13824 * nd u 3 = _
    omega
theorem swp_dg {u i j : Nat} (h : u < 331776) (hi : i < 4) (hj : j < 4) : dg (swp u i) j = if j = i then nd u i else dg u j := by
  obtain ⟨s0, s1, s2, s3⟩ := swp_en h
  have d0 := dg_lt u 0
  have d1 := dg_lt u 1
  have d2 := dg_lt u 2
  have d3 := dg_lt u 3
  have hi' : i = 0 ∨ i = 1 ∨ i = 2 ∨ i = 3 := by omega
  have hj' : j = 0 ∨ j = 1 ∨ j = 2 ∨ j = 3 := by omega
  rcases hi' with rfl | rfl | rfl | rfl
  · obtain ⟨e0, e1, e2, e3⟩ := en_dg (nd_lt u 0) d1 d2 d3
    rw [s0]
    rcases hj' with rfl | rfl | rfl | rfl <;> simp [e0, e1, e2, e3]
  · obtain ⟨e0, e1, e2, e3⟩ := en_dg d0 (nd_lt u 1) d2 d3
    rw [s1]
    rcases hj' with rfl | rfl | rfl | rfl <;> simp [e0, e1, e2, e3]
  · obtain ⟨e0, e1, e2, e3⟩ := en_dg d0 d1 (nd_lt u 2) d3
    rw [s2]
    rcases hj' with rfl | rfl | rfl | rfl <;> simp [e0, e1, e2, e3]
  · obtain ⟨e0, e1, e2, e3⟩ := en_dg d0 d1 d2 (nd_lt u 3)
    rw [s3]
    rcases hj' with rfl | rfl | rfl | rfl <;> simp [e0, e1, e2, e3]
theorem dg_ext {u v : Nat} (hu : u < 331776) (hv : v < 331776) (h : ∀ j, j < 4 → dg u j = dg v j) : u = v := by
  rw [of_dg hu, of_dg hv, h 0 (by omega), h 1 (by omega), h 2 (by omega), h 3 (by omega)]
def dsm (u : Nat) : Nat := dg u 0 + dg u 1 + dg u 2 + dg u 3
theorem dsm_le (u i : Nat) (hi : i < 4) : dg u i ≤ dsm u := by
  unfold dsm
  have hi' : i = 0 ∨ i = 1 ∨ i = 2 ∨ i = 3 := by omega
  rcases hi' with rfl | rfl | rfl | rfl <;> omega
theorem dsm_swp {u i : Nat} (h : u < 331776) (hi : i < 4) : dsm (swp u i) + dg u i = dsm u + nd u i := by
  unfold dsm
  rw [swp_dg h hi (by omega), swp_dg h hi (by omega), swp_dg h hi (by omega), swp_dg h hi (by omega)]
  have hi' : i = 0 ∨ i = 1 ∨ i = 2 ∨ i = 3 := by omega
  rcases hi' with rfl | rfl | rfl | rfl <;> simp <;> omega
theorem nd_eq (u i : Nat) : nd u i = (2 * dsm u + 72 - 3 * dg u i) % 24 := rfl
theorem swp_swp {u i : Nat} (h : u < 331776) (hi : i < 4) : swp (swp u i) i = u := by
  have h2 := (swp_lt hi h).1
  refine dg_ext (swp_lt hi h2).1 h (fun j hj => ?_)
  rw [swp_dg h2 hi hj]
  by_cases q : j = i
  · subst q
    rw [if_pos rfl, nd_eq, swp_dg h hi hi, if_pos rfl]
    have e := dsm_swp h hi
    have n := nd_eq u j
    have d := dg_lt u j
    have l := dsm_le u j hi
    have n2 := nd_lt u j
    omega
  · rw [if_neg q, swp_dg h hi hj, if_neg q]
def rv (u : Nat) : Nat := en (dg u 3) (dg u 2) (dg u 1) (dg u 0)
theorem rv_lt (u : Nat) : rv u < 331776 := en_lt (dg_lt _ _) (dg_lt _ _) (dg_lt _ _) (dg_lt _ _)
theorem rv_dg (u : Nat) {j : Nat} (hj : j < 4) : dg (rv u) j = dg u (3 - j) := by
  obtain ⟨e0, e1, e2, e3⟩ := en_dg (dg_lt u 3) (dg_lt u 2) (dg_lt u 1) (dg_lt u 0)
  have hj' : j = 0 ∨ j = 1 ∨ j = 2 ∨ j = 3 := by omega
  rcases hj' with rfl | rfl | rfl | rfl <;> assumption
theorem rv_dsm (u : Nat) : dsm (rv u) = dsm u := by
  unfold dsm
  rw [rv_dg u (by omega), rv_dg u (by omega), rv_dg u (by omega), rv_dg u (by omega)]
  show dg u 3 + dg u 2 + dg u 1 + dg u 0 = _
  omega
theorem rv_rv {u : Nat} (h : u < 331776) : rv (rv u) = u := dg_ext (rv_lt _) h (fun j hj => by
  rw [rv_dg _ hj, rv_dg _ (by omega), show 3 - (3 - j) = j by omega])
theorem rv_swp {u i : Nat} (h : u < 331776) (hi : i < 4) : swp (rv u) (3 - i) = rv (swp u i) := by
  refine dg_ext (swp_lt (by omega) (rv_lt u)).1 (rv_lt _) (fun j hj => ?_)
  rw [swp_dg (rv_lt u) (by omega) hj, rv_dg (swp u i) hj, rv_dg u hj, swp_dg h hi (by omega)]
  by_cases q : j = 3 - i
  · rw [if_pos q, if_pos (by omega), nd_eq, nd_eq, rv_dsm, rv_dg u (by omega), show 3 - (3 - i) = i by omega]
  · rw [if_neg q, if_neg (by omega)]
def RE (v u : Nat) : Prop := ∃ l : List Nat, (∀ i ∈ l, i < 4) ∧ l.foldr (fun i w => swp w i) v = u
theorem RE.base {v : Nat} : RE v v := ⟨[], fun _ h => absurd h List.not_mem_nil, rfl⟩
theorem RE.step {v u : Nat} (i : Nat) (hi : i < 4) (h : RE v u) : RE v (swp u i) := by
  obtain ⟨l, h1, h2⟩ := h
  refine ⟨i :: l, fun j hj => ?_, ?_⟩
  · rcases List.mem_cons.mp hj with rfl | q
    · exact hi
    · exact h1 j q
  · rw [List.foldr_cons, h2]
theorem RE.ind {v u : Nat} {P : Nat → Prop} (h : RE v u) (h0 : P v) (h1 : ∀ w i, i < 4 → RE v w → P w → P (swp w i)) : P u := by
  obtain ⟨l, a1, a2⟩ := h
  subst a2
  induction l with
  | nil => exact h0
  | cons i l ih =>
    rw [List.foldr_cons]
    exact h1 _ i (a1 i (List.mem_cons_self ..)) ⟨l, fun j hj => a1 j (List.mem_cons_of_mem _ hj), rfl⟩ (ih (fun j hj => a1 j (List.mem_cons_of_mem _ hj)))
theorem RE.lt {v u : Nat} (hv : v < 331776) (h : RE v u) : u < 331776 := by
  exact h.ind (P := fun u => u < 331776) hv (fun w i hi _ ih => (swp_lt hi ih).1)
theorem RE.four {v u : Nat} (hv : v < 331776) (he : dsm v % 2 = 0) (h : RE v u) : dsm u % 2 = 0 ∧ ∀ j, j < 4 → dg u j % 4 = dg v j % 4 := by
  refine h.ind (P := fun u => dsm u % 2 = 0 ∧ ∀ j, j < 4 → dg u j % 4 = dg v j % 4) ⟨he, fun _ _ => rfl⟩ (fun w i hi h ih => ?_)
  · have hw := h.lt hv
    have n := nd_eq w i
    have d := dg_lt w i
    have l := dsm_le w i hi
    have e := dsm_swp hw hi
    have key : nd w i % 4 = dg w i % 4 := by omega
    refine ⟨by omega, fun j hj => ?_⟩
    rw [swp_dg hw hi hj]
    by_cases q : j = i
    · subst q; rw [if_pos rfl, key]; exact ih.2 j hj
    · rw [if_neg q]; exact ih.2 j hj
theorem RE.trans {v u w : Nat} (h1 : RE v u) (h2 : RE u w) : RE v w := by
  exact h2.ind h1 (fun w i hi _ ih => RE.step i hi ih)
theorem RE.symm {v u : Nat} (hv : v < 331776) (h : RE v u) : RE u v := by
  refine h.ind (P := fun u => RE u v) RE.base (fun w i hi h ih => ?_)
  have hw := h.lt hv
  have := RE.step (v := swp w i) i hi RE.base
  rw [swp_swp hw hi] at this
  exact this.trans ih
theorem RE.rvs {v u : Nat} (hv : v < 331776) (h : RE v u) : RE (rv v) (rv u) := by
  refine h.ind (P := fun u => RE (rv v) (rv u)) RE.base (fun w i hi h ih => ?_)
  rw [← rv_swp (h.lt hv) hi]
  exact RE.step (3 - i) (by omega) ih
theorem nodup_len : ∀ (n : Nat) (l : List Nat), l.Nodup → (∀ x ∈ l, x < n) → l.length ≤ n
  | 0, l, _, h => by
    cases l with
    | nil => exact Nat.le_refl _
    | cons x t => exact absurd (h x (List.mem_cons_self ..)) (by omega)
  | n + 1, l, hn, h => by
    by_cases q : n ∈ l
    · have := nodup_len n (l.erase n) (hn.erase n) (fun x hx => by
        have h1 := h x (List.mem_of_mem_erase hx)
        have h2 : x ≠ n := fun z => by
          subst z
          exact (hn.mem_erase_iff.mp hx).1 rfl
        omega)
      rw [List.length_erase_of_mem q] at this
      omega
    · have := nodup_len n l hn (fun x hx => by
        have h1 := h x hx
        have h2 : x ≠ n := fun z => q (z ▸ hx)
        omega)
      omega
def phi (u : Nat) : Nat := dg u 0 / 4 + 6 * (dg u 1 / 4) + 36 * (dg u 2 / 4) + 216 * (dg u 3 / 4)
theorem RE.len {v : Nat} (hv : v < 331776) (he : dsm v % 2 = 0) {l : List Nat} (hn : l.Nodup) (h : ∀ x ∈ l, RE v x) : l.length ≤ 1296 := by
  have hm : (l.map phi).Nodup := by
    refine List.pairwise_map.mpr (hn.imp_of_mem (fun {a b} ha hb hne hp => hne ?_))
    have a1 := (h a ha).four hv he
    have b1 := (h b hb).four hv he
    refine dg_ext ((h a ha).lt hv) ((h b hb).lt hv) (fun j hj => ?_)
    have a2 := a1.2 j hj
    have b2 := b1.2 j hj
    have c : ∀ w k, dg w k < 24 := dg_lt
    have a0 := c a 0
    have a3 := c a 1
    have a4 := c a 2
    have a5 := c a 3
    have b0 := c b 0
    have b3 := c b 1
    have b4 := c b 2
    have b5 := c b 3
    unfold phi at hp
    have hj' : j = 0 ∨ j = 1 ∨ j = 2 ∨ j = 3 := by omega
    rcases hj' with rfl | rfl | rfl | rfl <;> omega
  have := nodup_len 1296 (l.map phi) hm (fun x hx => by
    obtain ⟨u, hu, rfl⟩ := List.mem_map.mp hx
    have c : ∀ w k, dg w k < 24 := dg_lt
    have a0 := c u 0
    have a3 := c u 1
    have a4 := c u 2
    have a5 := c u 3
    unfold phi
    omega)
  rwa [List.length_map] at this
