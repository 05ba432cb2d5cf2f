def at3 (lst : Nat → Nat → Int64) (k : Nat) : C3 := (lst k 0, lst k 1, lst k 2)
def tL (lst : Nat → Nat → Int64) (S : Nat) : List C3 := (List.range S).map (at3 lst)
def ltC (x y : C3) : Prop := x.1 < y.1 ∨ (x.1 = y.1 ∧ (x.2.1 < y.2.1 ∨ (x.2.1 = y.2.1 ∧ x.2.2 < y.2.2)))
theorem lt_ne {a b : Int64} (h : a < b) : a ≠ b := fun e => by
  rw [e, Int64.lt_iff_toInt_lt] at h
  omega
theorem ltC_irr (x : C3) : ¬ ltC x x := fun h => by
  rcases h with h | ⟨-, h | ⟨-, h⟩⟩ <;> exact absurd rfl (lt_ne h)
theorem ltC_tr {x y z : C3} (h1 : ltC x y) (h2 : ltC y z) : ltC x z := by
  unfold ltC at *
  simp only [Int64.lt_iff_toInt_lt] at *
  rcases h1 with h1 | ⟨e1, h1 | ⟨f1, h1⟩⟩ <;> rcases h2 with h2 | ⟨e2, h2 | ⟨f2, h2⟩⟩
  · exact Or.inl (by omega)
  · exact Or.inl (by rw [← e2]; exact h1)
  · exact Or.inl (by rw [← e2]; exact h1)
  · exact Or.inl (by rw [e1]; exact h2)
  · exact Or.inr ⟨e1.trans e2, Or.inl (by omega)⟩
  · exact Or.inr ⟨e1.trans e2, Or.inl (by rw [← f2]; exact h1)⟩
  · exact Or.inl (by rw [e1]; exact h2)
  · exact Or.inr ⟨e1.trans e2, Or.inl (by rw [f1]; exact h2)⟩
  · exact Or.inr ⟨e1.trans e2, Or.inr ⟨f1.trans f2, by omega⟩⟩
theorem tri64 (a b : Int64) : a < b ∨ a = b ∨ b < a := by
  rw [Int64.lt_iff_toInt_lt, Int64.lt_iff_toInt_lt]
  rcases Int.lt_trichotomy a.toInt b.toInt with h | h | h
  · exact Or.inl h
  · exact Or.inr (Or.inl (Int64.toInt_inj.mp h))
  · exact Or.inr (Or.inr h)
theorem ltC_tri (x y : C3) : ltC x y ∨ x = y ∨ ltC y x := by
  rcases tri64 x.1 y.1 with h | h | h
  · exact Or.inl (Or.inl h)
  · rcases tri64 x.2.1 y.2.1 with g | g | g
    · exact Or.inl (Or.inr ⟨h, Or.inl g⟩)
    · rcases tri64 x.2.2 y.2.2 with f | f | f
      · exact Or.inl (Or.inr ⟨h, Or.inr ⟨g, f⟩⟩)
      · exact Or.inr (Or.inl (Prod.ext h (Prod.ext g f)))
      · exact Or.inr (Or.inr (Or.inr ⟨h.symm, Or.inr ⟨g.symm, f⟩⟩))
    · exact Or.inr (Or.inr (Or.inr ⟨h.symm, Or.inl g⟩))
  · exact Or.inr (Or.inr (Or.inl h))
theorem ord_lt (lst : Nat → Nat → Int64) (k : Nat) (c : Qd) (i : Nat) : 0 < ordv (lst k) (c i) ↔ ltC (co c i) (at3 lst k) := by
  rw [ordv_p]
  unfold ltC co at3
  constructor
  · rintro (h | ⟨h, g | ⟨g, f⟩⟩)
    · exact Or.inl h
    · exact Or.inr ⟨h.symm, Or.inl g⟩
    · exact Or.inr ⟨h.symm, Or.inr ⟨g.symm, f⟩⟩
  · rintro (h | ⟨h, g | ⟨g, f⟩⟩)
    · exact Or.inl h
    · exact Or.inr ⟨h.symm, Or.inl g⟩
    · exact Or.inr ⟨h.symm, Or.inr ⟨g.symm, f⟩⟩
theorem ord_eq (lst : Nat → Nat → Int64) (k : Nat) (c : Qd) (i : Nat) : ordv (lst k) (c i) = 0 ↔ at3 lst k = co c i := by
  rw [ordv_0]
  unfold co at3
  simp only [Prod.mk.injEq]
def srtL (lst : Nat → Nat → Int64) (S : Nat) : Prop := ∀ i j, i < j → j < S → ltC (at3 lst i) (at3 lst j)
theorem mem_tL {lst : Nat → Nat → Int64} {S : Nat} {x : C3} : x ∈ tL lst S ↔ ∃ k, k < S ∧ x = at3 lst k := by
  unfold tL
  rw [List.mem_map]
  constructor
  · rintro ⟨k, hk, rfl⟩; exact ⟨k, List.mem_range.mp hk, rfl⟩
  · rintro ⟨k, hk, rfl⟩; exact ⟨k, List.mem_range.mpr hk, rfl⟩
theorem tL_len (lst : Nat → Nat → Int64) (S : Nat) : (tL lst S).length = S := by unfold tL; rw [List.length_map, List.length_range]
theorem tL_nodup {lst : Nat → Nat → Int64} {S : Nat} (h : srtL lst S) : (tL lst S).Nodup := by
  unfold tL
  refine List.pairwise_map.mpr ((List.pairwise_lt_range (n := S)).imp_of_mem (fun {a b} _ hb hab e => ?_))
  have := h a b hab (List.mem_range.mp hb)
  rw [e] at this
  exact ltC_irr _ this
theorem perm_nd : ∀ (l1 l2 : List C3), l1.Nodup → l1.length = l2.length → (∀ a ∈ l1, a ∈ l2) → l1.Perm l2
  | [], l2, _, h, _ => by
    have : l2 = [] := List.eq_nil_of_length_eq_zero h.symm
    rw [this]
  | a :: t, l2, hn, h, hc => by
    have ha : a ∈ l2 := hc a (List.mem_cons_self ..)
    have hn := List.nodup_cons.mp hn
    refine List.Perm.trans (List.Perm.cons a (perm_nd t (l2.erase a) hn.2 ?_ (fun b hb => ?_))) (List.perm_cons_erase ha).symm
    · rw [List.length_erase_of_mem ha]
      rw [List.length_cons] at h
      omega
    · refine (List.mem_erase_of_ne (fun z => ?_)).mpr (hc b (List.mem_cons_of_mem _ hb))
      subst z
      exact hn.1 hb
theorem posl_s {lst : Nat → Nat → Int64} {q : Nat → Int64} : ∀ k, (∀ j, posl lst q k ≤ j → j < k → 0 < ordv (lst j) q) ∧ (0 < posl lst q k → ¬ 0 < ordv (lst (posl lst q k - 1)) q)
  | 0 => ⟨fun j _ h => by omega, fun h => by unfold posl at h; omega⟩
  | k + 1 => by
    unfold posl
    by_cases h : 0 < ordv (lst k) q
    · rw [if_pos h]
      obtain ⟨h1, h2⟩ := posl_s (lst := lst) (q := q) k
      refine ⟨fun j a b => ?_, h2⟩
      by_cases e : j = k
      · subst e; exact h
      · exact h1 j a (by omega)
    · rw [if_neg h]
      exact ⟨fun j a b => by omega, fun _ => by rw [Nat.add_sub_cancel]; exact h⟩
theorem ent_new {lst : Nat → Nat → Int64} {S : Nat} {c : Qd} {i : Nat} (ha : cRef c i = 0) (hn : co c i ∉ tL lst S) : ent lst S c i = if 240 ≤ S then (false, S, lst) else (true, S + 1, lins lst (posl lst (c i) S) S (c i)) := by
  unfold ent
  rw [if_pos ha, if_neg (fun z => hn ?_)]
  have := posl_le lst (c i) S
  exact mem_tL.mpr ⟨posl lst (c i) S - 1, by omega, ((ord_eq _ _ _ _).mp z.2).symm⟩
theorem lins_at (lst : Nat → Nat → Int64) (p S : Nat) (c : Qd) (i k : Nat) : at3 (lins lst p S (c i)) k = if k = p then co c i else if p < k ∧ k ≤ S then at3 lst (k - 1) else at3 lst k := by
  unfold at3 lins co
  by_cases h : k = p
  · rw [if_pos h, if_pos h, if_pos h, if_pos h]
  · rw [if_neg h, if_neg h, if_neg h, if_neg h]
    by_cases g : p < k ∧ k ≤ S
    · rw [if_pos g, if_pos g, if_pos g, if_pos g]
    · rw [if_neg g, if_neg g, if_neg g, if_neg g]
theorem ins_srt {lst : Nat → Nat → Int64} {S : Nat} {c : Qd} {i : Nat} (hs : srtL lst S) (hn : co c i ∉ tL lst S) : srtL (lins lst (posl lst (c i) S) S (c i)) (S + 1) := by
  have hp := posl_le lst (c i) S
  obtain ⟨h1, h2⟩ := posl_s (lst := lst) (q := c i) S
  generalize posl lst (c i) S = p at hp h1 h2
  have up : ∀ j, p ≤ j → j < S → ltC (co c i) (at3 lst j) := fun j a b => (ord_lt _ _ _ _).mp (h1 j a b)
  have dn : ∀ j, j < p → ltC (at3 lst j) (co c i) := fun j a => by
    have hlast : ltC (at3 lst (p - 1)) (co c i) := by
      rcases ltC_tri (at3 lst (p - 1)) (co c i) with h | h | h
      · exact h
      · exact absurd (mem_tL.mpr ⟨p - 1, by omega, h.symm⟩) hn
      · exact absurd ((ord_lt _ _ _ _).mpr h) (h2 (by omega))
    by_cases e : j = p - 1
    · rw [e]; exact hlast
    · exact ltC_tr (hs j (p - 1) (by omega) (by omega)) hlast
  intro a b hab hb
  rw [lins_at, lins_at]
  by_cases ea : a = p
  · rw [if_pos ea, if_neg (by omega), if_pos (by omega)]
    exact up (b - 1) (by omega) (by omega)
  · rw [if_neg ea]
    by_cases eb : b = p
    · rw [if_pos eb, if_neg (by omega)]
      exact dn a (by omega)
    · rw [if_neg eb]
      by_cases ga : p < a ∧ a ≤ S
      · rw [if_pos ga, if_pos (by omega)]
        exact hs (a - 1) (b - 1) (by omega) (by omega)
      · rw [if_neg ga]
        by_cases gb : p < b ∧ b ≤ S
        · rw [if_pos gb]
          by_cases e : a = b - 1
          · omega
          · exact hs a (b - 1) (by omega) (by omega)
        · rw [if_neg gb]
          exact hs a b hab (by omega)
theorem ins_perm {lst : Nat → Nat → Int64} {S : Nat} {c : Qd} {i : Nat} (hs : srtL lst S) (hn : co c i ∉ tL lst S) : (co c i :: tL lst S).Perm (tL (lins lst (posl lst (c i) S) S (c i)) (S + 1)) := by
  have hp := posl_le lst (c i) S
  generalize posl lst (c i) S = p at hp
  refine perm_nd _ _ (List.nodup_cons.mpr ⟨hn, tL_nodup hs⟩) (by rw [List.length_cons, tL_len, tL_len]) (fun a ha => ?_)
  rcases List.mem_cons.mp ha with rfl | ha
  · exact mem_tL.mpr ⟨p, by omega, by rw [lins_at, if_pos rfl]⟩
  · obtain ⟨k, hk, rfl⟩ := mem_tL.mp ha
    by_cases q : k < p
    · exact mem_tL.mpr ⟨k, by omega, by rw [lins_at, if_neg (by omega), if_neg (by omega)]⟩
    · exact mem_tL.mpr ⟨k + 1, by omega, by rw [lins_at, if_neg (by omega), if_pos (by omega), Nat.add_sub_cancel]⟩
theorem srtL_eq {f g : Nat → Nat → Int64} : ∀ S, srtL f S → srtL g S → (∀ x, x ∈ tL f S ↔ x ∈ tL g S) → ∀ k, k < S → at3 f k = at3 g k
  | 0, _, _, _ => fun k h => by omega
  | S + 1, hf, hg, hm => by
    have top : at3 f S = at3 g S := by
      obtain ⟨j, hj, ej⟩ := mem_tL.mp ((hm _).mp (mem_tL.mpr ⟨S, by omega, rfl⟩))
      obtain ⟨i, hi, ei⟩ := mem_tL.mp ((hm _).mpr (mem_tL.mpr ⟨S, by omega, rfl⟩))
      by_cases q : j = S
      · rw [ej, q]
      · by_cases q2 : i = S
        · rw [ei, q2]
        · have a1 := hg j S (by omega) (by omega)
          have a2 := hf i S (by omega) (by omega)
          rw [← ej] at a1
          rw [← ei] at a2
          exact absurd (ltC_tr a1 a2) (ltC_irr _)
    have low := srtL_eq S (fun i j a b => hf i j a (by omega)) (fun i j a b => hg i j a (by omega)) (fun x => by
      constructor
      · intro h
        obtain ⟨k, hk, rfl⟩ := mem_tL.mp h
        obtain ⟨j, hj, e⟩ := mem_tL.mp ((hm _).mp (mem_tL.mpr ⟨k, by omega, rfl⟩))
        have : j ≠ S := fun z => by
          have := hf k S (by omega) (by omega)
          rw [e, z, ← top] at this
          exact ltC_irr _ this
        exact mem_tL.mpr ⟨j, by omega, e⟩
      · intro h
        obtain ⟨k, hk, rfl⟩ := mem_tL.mp h
        obtain ⟨j, hj, e⟩ := mem_tL.mp ((hm _).mpr (mem_tL.mpr ⟨k, by omega, rfl⟩))
        have : j ≠ S := fun z => by
          have := hg k S (by omega) (by omega)
          rw [e, z, top] at this
          exact ltC_irr _ this
        exact mem_tL.mpr ⟨j, by omega, e⟩)
    intro k hk
    by_cases q : k = S
    · rw [q]; exact top
    · exact low k (by omega)
