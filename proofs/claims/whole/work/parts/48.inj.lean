abbrev C3 : Type := Int64 × Int64 × Int64
def co (c : Qd) (i : Nat) : C3 := (c i 0, c i 1, c i 2)
def pc1 (S : Qd → Int32 → List C3) (mo : Int32) (u : Qd) (bk : Int32) (i : Nat) : List C3 := if nI i = bk ∨ mo.toInt64 < trn u i 0 ∨ cRef (turnc u i) i ≠ 0 then [] else co (turnc u i) i :: S (turnc u i) (nI i)
def sub (mo : Int32) : Nat → Qd → Int32 → List C3
  | 0, _, _ => []
  | n + 1, u, bk => pc1 (sub mo n) mo u bk 0 ++ (pc1 (sub mo n) mo u bk 1 ++ (pc1 (sub mo n) mo u bk 2 ++ pc1 (sub mo n) mo u bk 3))
def vC (D : Int) (x : C3) : Nat → Int := fun w => if w = 3 then zc D x.1.toInt x.2.1.toInt x.2.2.toInt else if w = 0 then x.1.toInt else if w = 1 then x.2.1.toInt else x.2.2.toInt
theorem vC_co (D : Int) (c : Qd) (j : Nat) : ∀ w, w < 4 → vC D (co c j) w = vI D c j w := fun w hw => by
  have hw' : w = 0 ∨ w = 1 ∨ w = 2 ∨ w = 3 := by omega
  rcases hw' with rfl | rfl | rfl | rfl <;> rfl
def FLn (F : (Nat → Int) → Int) : Prop := (∀ v i, F (nw v i) = 2 * (F (v 0) + F (v 1) + F (v 2) + F (v 3)) - 3 * F (v i)) ∧ ∀ p q, (∀ w, w < 4 → p w = q w) → F p = F q
theorem FLn.neg {F : (Nat → Int) → Int} (h : FLn F) : FLn (fun p => -F p) := ⟨fun v i => by have := h.1 v i; show -F (nw v i) = 2 * (-F (v 0) + -F (v 1) + -F (v 2) + -F (v 3)) - 3 * -F (v i); omega, fun p q e => by show -F p = -F q; rw [h.2 p q e]⟩
theorem FLn.turn {F : (Nat → Int) → Int} (h : FLn F) {D : Int} {u : Qd} (hg : GI D u) {i : Nat} (hi : i < 4) (hr : cRef (turnc u i) i = 0) {j : Nat} (hj : j < 4) : F (vI D (turnc u i) j) = if j = i then 2 * (F (vI D u 0) + F (vI D u 1) + F (vI D u 2) + F (vI D u 3)) - 3 * F (vI D u i) else F (vI D u j) := by
  rw [h.2 _ _ (vI_turn hg hi hr j hj)]
  unfold vup
  by_cases q : j = i
  · rw [if_pos q, if_pos q]; exact h.1 _ i
  · rw [if_neg q, if_neg q]
theorem pc1_mem {S : Qd → Int32 → List C3} {mo : Int32} {u : Qd} {bk : Int32} {i : Nat} {x : C3} (h : x ∈ pc1 S mo u bk i) : nI i ≠ bk ∧ ¬ mo.toInt64 < trn u i 0 ∧ cRef (turnc u i) i = 0 ∧ (x = co (turnc u i) i ∨ x ∈ S (turnc u i) (nI i)) := by
  unfold pc1 at h
  by_cases q : nI i = bk ∨ mo.toInt64 < trn u i 0 ∨ cRef (turnc u i) i ≠ 0
  · rw [if_pos q] at h; exact absurd h List.not_mem_nil
  · rw [if_neg q] at h
    refine ⟨fun z => q (Or.inl z), fun z => q (Or.inr (Or.inl z)), ?_, List.mem_cons.mp h⟩
    by_cases w : cRef (turnc u i) i = 0
    · exact w
    · exact absurd (Or.inr (Or.inr w)) q
theorem sub_mem {mo : Int32} {n : Nat} {u : Qd} {bk : Int32} {x : C3} (h : x ∈ sub mo (n + 1) u bk) : ∃ i, i < 4 ∧ x ∈ pc1 (sub mo n) mo u bk i := by
  unfold sub at h
  rcases List.mem_append.mp h with q | h
  · exact ⟨0, by omega, q⟩
  · rcases List.mem_append.mp h with q | h
    · exact ⟨1, by omega, q⟩
    · rcases List.mem_append.mp h with q | h
      · exact ⟨2, by omega, q⟩
      · exact ⟨3, by omega, h⟩
theorem sub_le {F : (Nat → Int) → Int} (hF : FLn F) {D : Int} {mo : Int32} : ∀ (n : Nat) (u : Qd) (k : Nat), GI D u → k < 4 → (∀ j, j < 4 → F (vI D u j) ≤ 0) → (∀ j, j < 4 → F (vI D u k) ≤ F (vI D u j)) → ∀ x ∈ sub mo n u (nI k), F (vC D x) ≤ F (vI D u k)
  | 0, u, k, _, _, _, _, x, hx => absurd hx List.not_mem_nil
  | n + 1, u, k, hg, hk, h0, hm, x, hx => by
    obtain ⟨i, hi, hx⟩ := sub_mem hx
    obtain ⟨hne, -, hr, hx⟩ := pc1_mem hx
    have hik : i ≠ k := fun z => hne (by rw [z])
    have ft := fun j hj => hF.turn (j := j) hg hi hr hj
    have y := ft i hi
    rw [if_pos rfl] at y
    have a0 := h0 0 (by omega)
    have a1 := h0 1 (by omega)
    have a2 := h0 2 (by omega)
    have a3 := h0 3 (by omega)
    have mi := hm i hi
    have yk : F (vI D (turnc u i) i) ≤ F (vI D u k) := by
      have hi' : i = 0 ∨ i = 1 ∨ i = 2 ∨ i = 3 := by omega
      have hk' : k = 0 ∨ k = 1 ∨ k = 2 ∨ k = 3 := by omega
      rcases hi' with rfl | rfl | rfl | rfl <;> rcases hk' with rfl | rfl | rfl | rfl <;> first | exact absurd rfl hik | omega
    rcases hx with rfl | hx
    · rw [hF.2 _ _ (vC_co D (turnc u i) i)]
      exact yk
    · refine Int.le_trans (sub_le hF n (turnc u i) i (hg.turn hi hr) hi (fun j hj => ?_) (fun j hj => ?_) x hx) yk
      · rw [ft j hj]
        by_cases q : j = i
        · rw [if_pos q, ← y]; exact Int.le_trans yk (h0 k hk)
        · rw [if_neg q]; exact h0 j hj
      · rw [ft j hj]
        by_cases q : j = i
        · rw [if_pos q, ← y]; exact Int.le_refl _
        · rw [if_neg q]; exact Int.le_trans yk (hm j hj)
def Af (D : Int) (u : Qd) (k : Nat) (p : Nat → Int) : Int := 2 * Bf D p (vI D u k) - (Bf D p (vI D u 0) + Bf D p (vI D u 1) + Bf D p (vI D u 2) + Bf D p (vI D u 3))
theorem Af_FLn (D : Int) (u : Qd) (k : Nat) : FLn (Af D u k) := by
  constructor
  · intro v i
    unfold Af
    rw [Bf_nw, Bf_nw, Bf_nw, Bf_nw, Bf_nw]
    omega
  · intro p q e
    unfold Af
    rw [Bf_congr e (fun _ _ => rfl), Bf_congr e (q := vI D u 0) (fun _ _ => rfl), Bf_congr e (q := vI D u 1) (fun _ _ => rfl), Bf_congr e (q := vI D u 2) (fun _ _ => rfl), Bf_congr e (q := vI D u 3) (fun _ _ => rfl)]
theorem Af_v {D : Int} {u : Qd} (h : GI D u) {k j : Nat} (hk : k < 4) (hj : j < 4) : Af D u k (vI D u j) = if j = k then 8 * D else 0 := by
  have r := h.2.2.row hj
  rw [Bf_sym D (vI D u 0), Bf_sym D (vI D u 1), Bf_sym D (vI D u 2), Bf_sym D (vI D u 3)] at r
  unfold Af
  by_cases q : j = k
  · subst q
    rw [if_pos rfl, r, h.2.2.1 j hj]; omega
  · rw [if_neg q, r, h.2.2.2 j k hj hk q]; omega
theorem piece_A {D : Int} {mo : Int32} {n : Nat} {u : Qd} {bk : Int32} {i : Nat} (h : GI D u) (hi : i < 4) {x : C3} (hx : x ∈ pc1 (sub mo n) mo u bk i) : Af D u i (vC D x) < 0 ∧ ∀ k, k < 4 → k ≠ i → 0 ≤ Af D u k (vC D x) := by
  obtain ⟨-, -, hr, hx⟩ := pc1_mem hx
  have hD := h.1
  have g2 := h.turn hi hr
  have val : ∀ k j, k < 4 → j < 4 → Af D u k (vI D (turnc u i) j) = if j = i then (if i = k then -8 * D else 16 * D) else (if j = k then 8 * D else 0) := fun k j hk hj => by
    rw [(Af_FLn D u k).turn h hi hr hj]
    by_cases q : j = i
    · rw [if_pos q, if_pos q, Af_v h hk (by omega), Af_v h hk (by omega), Af_v h hk (by omega), Af_v h hk (by omega), Af_v h hk hi]
      have hk' : k = 0 ∨ k = 1 ∨ k = 2 ∨ k = 3 := by omega
      by_cases w : i = k
      · rw [if_pos w, if_pos w]
        rcases hk' with rfl | rfl | rfl | rfl <;> simp <;> omega
      · rw [if_neg w, if_neg w]
        rcases hk' with rfl | rfl | rfl | rfl <;> simp <;> omega
    · rw [if_neg q, if_neg q, Af_v h hk hj]
  have hd : ∀ k, Af D u k (vC D (co (turnc u i) i)) = Af D u k (vI D (turnc u i) i) := fun k => (Af_FLn D u k).2 _ _ (vC_co D (turnc u i) i)
  have neg : Af D u i (vC D x) ≤ Af D u i (vI D (turnc u i) i) := by
    rcases hx with rfl | hx
    · rw [hd]; exact Int.le_refl _
    · refine sub_le (Af_FLn D u i) n (turnc u i) i g2 hi (fun j hj => ?_) (fun j hj => ?_) x hx
      · rw [val i j hi hj]
        by_cases q : j = i
        · rw [if_pos q, if_pos rfl]; omega
        · rw [if_neg q, if_neg q]; exact Int.le_refl _
      · rw [val i j hi hj, val i i hi hi, if_pos rfl, if_pos rfl]
        by_cases q : j = i
        · rw [if_pos q]; omega
        · rw [if_neg q, if_neg q]; omega
  refine ⟨?_, fun k hk hki => ?_⟩
  · rw [val i i hi hi, if_pos rfl, if_pos rfl] at neg
    omega
  · have pos : -Af D u k (vC D x) ≤ -Af D u k (vI D (turnc u i) i) := by
      rcases hx with rfl | hx
      · rw [hd]; exact Int.le_refl _
      · refine sub_le (Af_FLn D u k).neg n (turnc u i) i g2 hi (fun j hj => ?_) (fun j hj => ?_) x hx
        · show -Af D u k (vI D (turnc u i) j) ≤ 0
          rw [val k j hk hj]
          by_cases q : j = i
          · rw [if_pos q, if_neg (fun z => hki z.symm)]; omega
          · rw [if_neg q]
            split <;> omega
        · show -Af D u k (vI D (turnc u i) i) ≤ -Af D u k (vI D (turnc u i) j)
          rw [val k j hk hj, val k i hk hi, if_pos rfl, if_neg (fun z => hki z.symm)]
          by_cases q : j = i
          · rw [if_pos q]; omega
          · rw [if_neg q]
            split <;> omega
    rw [val k i hk hi, if_pos rfl, if_neg (fun z => hki z.symm)] at pos
    omega
theorem own_A {D : Int} {u : Qd} (h : GI D u) {k j : Nat} (hk : k < 4) (hj : j < 4) : 0 ≤ Af D u k (vC D (co u j)) := by
  rw [(Af_FLn D u k).2 _ _ (vC_co D u j), Af_v h hk hj]
  have := h.1
  split <;> omega
theorem own_sub {D : Int} {mo : Int32} {n : Nat} {u : Qd} {bk : Int32} (h : GI D u) {j : Nat} (hj : j < 4) : co u j ∉ sub mo n u bk := fun hx => by
  cases n with
  | zero => exact absurd hx List.not_mem_nil
  | succ n =>
    obtain ⟨i, hi, hx⟩ := sub_mem hx
    have := (piece_A h hi hx).1
    have := own_A h hi hj
    omega
theorem sub_nodup {D : Int} {mo : Int32} : ∀ (n : Nat) (u : Qd) (bk : Int32), GI D u → (sub mo n u bk).Nodup
  | 0, _, _, _ => List.Pairwise.nil
  | n + 1, u, bk, h => by
    have one : ∀ i, i < 4 → (pc1 (sub mo n) mo u bk i).Nodup := fun i hi => by
      unfold pc1
      by_cases q : nI i = bk ∨ mo.toInt64 < trn u i 0 ∨ cRef (turnc u i) i ≠ 0
      · rw [if_pos q]; exact List.Pairwise.nil
      · rw [if_neg q]
        have hr : cRef (turnc u i) i = 0 := by
          by_cases w : cRef (turnc u i) i = 0
          · exact w
          · exact absurd (Or.inr (Or.inr w)) q
        exact List.nodup_cons.mpr ⟨own_sub (h.turn hi hr) hi, sub_nodup n _ _ (h.turn hi hr)⟩
    have two : ∀ i k, i < 4 → k < 4 → i ≠ k → ∀ a ∈ pc1 (sub mo n) mo u bk i, ∀ b ∈ pc1 (sub mo n) mo u bk k, a ≠ b := fun i k hi hk hik a ha b hb e => by
      subst e
      have h1 := (piece_A h hi ha).1
      have h2 := (piece_A h hk hb).2 i hi hik
      omega
    unfold sub
    refine List.nodup_append.mpr ⟨one 0 (by omega), List.nodup_append.mpr ⟨one 1 (by omega), List.nodup_append.mpr ⟨one 2 (by omega), one 3 (by omega), two 2 3 (by omega) (by omega) (by omega)⟩, fun a ha b hb => ?_⟩, fun a ha b hb => ?_⟩
    · rcases List.mem_append.mp hb with hb | hb
      · exact two 1 2 (by omega) (by omega) (by omega) a ha b hb
      · exact two 1 3 (by omega) (by omega) (by omega) a ha b hb
    · rcases List.mem_append.mp hb with hb | hb
      · exact two 0 1 (by omega) (by omega) (by omega) a ha b hb
      · rcases List.mem_append.mp hb with hb | hb
        · exact two 0 2 (by omega) (by omega) (by omega) a ha b hb
        · exact two 0 3 (by omega) (by omega) (by omega) a ha b hb
theorem own_ne {D : Int} {u : Qd} (h : GI D u) {i j : Nat} (hi : i < 4) (hj : j < 4) (hij : i ≠ j) : co u i ≠ co u j := fun e => by
  have h1 := (Af_FLn D u i).2 _ _ (vC_co D u i)
  have h2 := (Af_FLn D u i).2 _ _ (vC_co D u j)
  rw [Af_v h hi hi, if_pos rfl] at h1
  rw [Af_v h hi hj, if_neg (fun z => hij z.symm), ← e, h1] at h2
  have := h.1
  omega
theorem all_nodup {D : Int} {mo : Int32} {n : Nat} {u : Qd} {bk : Int32} (h : GI D u) : ([co u 0, co u 1, co u 2, co u 3] ++ sub mo n u bk).Nodup := by
  refine List.nodup_append.mpr ⟨?_, sub_nodup n u bk h, fun a ha b hb e => ?_⟩
  · have n01 := own_ne h (i := 0) (j := 1) (by omega) (by omega) (by omega)
    have n02 := own_ne h (i := 0) (j := 2) (by omega) (by omega) (by omega)
    have n03 := own_ne h (i := 0) (j := 3) (by omega) (by omega) (by omega)
    have n12 := own_ne h (i := 1) (j := 2) (by omega) (by omega) (by omega)
    have n13 := own_ne h (i := 1) (j := 3) (by omega) (by omega) (by omega)
    have n23 := own_ne h (i := 2) (j := 3) (by omega) (by omega) (by omega)
    simp [n01, n02, n03, n12, n13, n23]
  · subst e
    simp only [List.mem_cons, List.not_mem_nil, or_false] at ha
    rcases ha with rfl | rfl | rfl | rfl
    · exact own_sub h (j := 0) (by omega) hb
    · exact own_sub h (j := 1) (by omega) hb
    · exact own_sub h (j := 2) (by omega) hb
    · exact own_sub h (j := 3) (by omega) hb
