def pcR (S : Qd → Int32 → Bool) (mo : Int32) (u : Qd) (bk : Int32) (i : Nat) : Bool := if nI i = bk ∨ mo.toInt64 < trn u i 0 then false else if cRef (turnc u i) i = 0 then S (turnc u i) (nI i) else true
def subR (mo : Int32) : Nat → Qd → Int32 → Bool
  | 0, _, _ => false
  | n + 1, u, bk => pcR (subR mo n) mo u bk 0 || (pcR (subR mo n) mo u bk 1 || (pcR (subR mo n) mo u bk 2 || pcR (subR mo n) mo u bk 3))
abbrev Pd : Type := List (Nat × Qd × Int32)
def remL (mo : Int32) (P : Pd) : List C3 := P.flatMap (fun e => sub mo e.1 e.2.1 e.2.2)
def remR (mo : Int32) (P : Pd) : Bool := P.any (fun e => subR mo e.1 e.2.1 e.2.2)
def pOk (D : Int) (mo : Int32) (S : Nat) (P : Pd) : Prop := ∀ e ∈ P, GI D e.2.1 ∧ upTo e.2.1 mo = true ∧ 250 ≤ S + e.1
def CI (D : Int) (mo : Int32) (A : List C3) (R : Bool) (s : St) (P : Pd) (Y : List C3) (y : Bool) : Prop := s.1 = true ∧ srtL s.2.2.1 s.2.1 ∧ s.2.1 ≤ 240 ∧ (tL s.2.2.1 s.2.1 ++ (Y ++ remL mo P)).Perm A ∧ (y || remR mo P) = R ∧ pOk D mo s.2.1 P
theorem upTo_j {u : Qd} {mo : Int32} : upTo u mo = true ↔ ∀ j, j < 4 → u j 0 ≤ mo.toInt64 := by
  unfold upTo
  simp only [Bool.and_eq_true, decide_eq_true_eq]
  constructor
  · rintro ⟨h0, h1, h2, h3⟩ j hj
    have hj' : j = 0 ∨ j = 1 ∨ j = 2 ∨ j = 3 := by omega
    rcases hj' with rfl | rfl | rfl | rfl <;> assumption
  · intro h
    exact ⟨h 0 (by omega), h 1 (by omega), h 2 (by omega), h 3 (by omega)⟩
theorem upTo_turn {u : Qd} {mo : Int32} {i : Nat} (h : upTo u mo = true) (hb : ¬ mo.toInt64 < trn u i 0) : upTo (turnc u i) mo = true := by
  rw [upTo_j] at h ⊢
  intro j hj
  unfold turnc
  by_cases q : j = i
  · rw [if_pos ⟨q, by omega⟩]; exact Int64.not_lt.mp hb
  · rw [if_neg (fun z => q z.1)]; exact h j hj
theorem perm_mv {T T' X Y Z Z' A : List C3} {x : C3} (h : (T ++ (((x :: X) ++ Y) ++ Z)).Perm A) (hT : (x :: T).Perm T') (hZ : Z'.Perm (X ++ Z)) : (T' ++ (Y ++ Z')).Perm A := by
  refine List.Perm.trans ?_ h
  have h1 : (T' ++ (Y ++ Z')).Perm ((x :: T) ++ (Y ++ (X ++ Z))) := List.Perm.append hT.symm (List.Perm.append_left Y hZ)
  refine h1.trans ?_
  have h2 : (T ++ (((x :: X) ++ Y) ++ Z)).Perm (x :: (T ++ ((X ++ Y) ++ Z))) := by
    show (T ++ x :: ((X ++ Y) ++ Z)).Perm _
    exact List.perm_middle
  refine List.Perm.trans ?_ h2.symm
  show (x :: (T ++ (Y ++ (X ++ Z)))).Perm _
  refine List.Perm.cons x (List.Perm.append_left T ?_)
  rw [← List.append_assoc]
  exact List.Perm.append_right Z List.perm_append_comm
/-- one swap: nothing to do, an end, or a coin more -/
theorem mv {D : Int} {mo : Int32} {A : List C3} {R : Bool} {s : St} {P : Pd} {Y : List C3} {y : Bool} {n : Nat} {u : Qd} {bk : Int32} {i : Nat} (hA : A.Nodup) (hg : GI D u) (hi : i < 4) (hu : upTo u mo = true) (hf : 250 ≤ s.2.1 + (n + 1)) (h : CI D mo A R s P (pc1 (sub mo n) mo u bk i ++ Y) (pcR (subR mo n) mo u bk i || y)) :
    ((nI i = bk ∨ mo.toInt64 < trn u i 0) ∧ CI D mo A R s P Y y) ∨
    (¬ (nI i = bk ∨ mo.toInt64 < trn u i 0) ∧ (ent s.2.2.1 s.2.1 (turnc u i) i).1 = false ∧ (R = true ∨ 240 < A.length)) ∨
    (¬ (nI i = bk ∨ mo.toInt64 < trn u i 0) ∧ (ent s.2.2.1 s.2.1 (turnc u i) i).1 = true ∧ (ent s.2.2.1 s.2.1 (turnc u i) i).2.1 = s.2.1 + 1 ∧ s.2.1 < 240 ∧ ∀ (w : List (Qd × Int32)) (P' : Pd), (remL mo P').Perm (sub mo n (turnc u i) (nI i) ++ remL mo P) → remR mo P' = (subR mo n (turnc u i) (nI i) || remR mo P) → (∀ e ∈ P', e ∈ P ∨ e = (n, turnc u i, nI i)) → CI D mo A R (true, (ent s.2.2.1 s.2.1 (turnc u i) i).2.1, (ent s.2.2.1 s.2.1 (turnc u i) i).2.2, w) P' Y y) := by
  obtain ⟨h1, h2, h3, h4, h5, h6⟩ := h
  by_cases q : nI i = bk ∨ mo.toInt64 < trn u i 0
  · left
    have e1 : pc1 (sub mo n) mo u bk i = [] := by
      unfold pc1
      rw [if_pos (q.elim Or.inl (fun z => Or.inr (Or.inl z)))]
    have e2 : pcR (subR mo n) mo u bk i = false := by unfold pcR; rw [if_pos q]
    rw [e1] at h4
    rw [e2] at h5
    exact ⟨q, h1, h2, h3, h4, h5, h6⟩
  · right
    by_cases hr : cRef (turnc u i) i = 0
    · have e1 : pc1 (sub mo n) mo u bk i = co (turnc u i) i :: sub mo n (turnc u i) (nI i) := by
        unfold pc1
        rw [if_neg (fun z => z.elim (fun z => q (Or.inl z)) (fun z => z.elim (fun z => q (Or.inr z)) (fun z => z hr)))]
      have e2 : pcR (subR mo n) mo u bk i = subR mo n (turnc u i) (nI i) := by unfold pcR; rw [if_neg q, if_pos hr]
      rw [e1] at h4
      rw [e2] at h5
      have hn : co (turnc u i) i ∉ tL s.2.2.1 s.2.1 := fun z => by
        have := h4.nodup_iff.mpr hA
        exact (List.nodup_append.mp this).2.2 _ z _ (List.mem_append_left _ (List.mem_append_left _ (List.mem_cons_self ..))) rfl
      have he := ent_new hr hn
      by_cases hS : 240 ≤ s.2.1
      · left
        rw [if_pos hS] at he
        refine ⟨q, by rw [he], Or.inr ?_⟩
        have := h4.length_eq
        rw [List.length_append, tL_len, List.length_append, List.length_append, List.length_cons] at this
        omega
      · right
        rw [if_neg hS] at he
        rw [he]
        refine ⟨q, rfl, rfl, by omega, fun w P' p1 p2 p3 => ⟨rfl, ins_srt h2 hn, by show s.2.1 + 1 ≤ 240; omega, perm_mv h4 (ins_perm h2 hn) p1, ?_, fun e he => ?_⟩⟩
        · rw [p2, ← h5]
          cases y <;> cases subR mo n (turnc u i) (nI i) <;> cases remR mo P <;> rfl
        · rcases p3 e he with z | rfl
          · obtain ⟨z1, z2, z3⟩ := h6 e z
            exact ⟨z1, z2, by show 250 ≤ s.2.1 + 1 + e.1; omega⟩
          · refine ⟨hg.turn hi hr, upTo_turn hu (fun z => q (Or.inr z)), ?_⟩
            show 250 ≤ s.2.1 + 1 + n
            omega
    · left
      have e2 : pcR (subR mo n) mo u bk i = true := by unfold pcR; rw [if_neg q, if_neg hr]
      refine ⟨q, ?_, Or.inl ?_⟩
      · unfold ent; rw [if_neg hr]
      · rw [e2] at h5
        rw [← h5]; rfl
def BS (k : Nat) (s : St) (P : Pd) : Prop := P.map (·.2) = s.2.2.2.drop k ∧ k ≤ s.2.2.2.length ∧ s.2.2.2.length + 3 = s.2.1
theorem sw1_CI {D : Int} {mo : Int32} {A : List C3} {R : Bool} {s : St} {P : Pd} {Y : List C3} {y : Bool} {n : Nat} {u : Qd} {bk : Int32} {i k : Nat} (hA : A.Nodup) (hg : GI D u) (hi : i < 4) (hu : upTo u mo = true) (hf : 250 ≤ s.2.1 + (n + 1)) (h : CI D mo A R s P (pc1 (sub mo n) mo u bk i ++ Y) (pcR (subR mo n) mo u bk i || y)) (hb : BS k s P) : ((sw1 u bk mo i s).1 = false ∧ (R = true ∨ 240 < A.length)) ∨ (s.2.1 ≤ (sw1 u bk mo i s).2.1 ∧ ∃ P', CI D mo A R (sw1 u bk mo i s) P' Y y ∧ BS k (sw1 u bk mo i s) P') := by
  have hs : s.1 = true := h.1
  obtain ⟨b1, b2, b3⟩ := hb
  unfold sw1
  rw [if_neg (by rw [hs]; decide)]
  rcases mv hA hg hi hu hf h with ⟨q, c⟩ | ⟨q, c1, c2⟩ | ⟨q, c1, c2, c3, c4⟩
  · right
    have e : (if nI i = bk then s else if mo.toInt64 < trn u i 0 then s else if (ent s.2.2.1 s.2.1 (turnc u i) i).1 = false then (false, (ent s.2.2.1 s.2.1 (turnc u i) i).2.1, (ent s.2.2.1 s.2.1 (turnc u i) i).2.2, s.2.2.2) else if s.2.2.2.length < 241 then (true, (ent s.2.2.1 s.2.1 (turnc u i) i).2.1, (ent s.2.2.1 s.2.1 (turnc u i) i).2.2, s.2.2.2 ++ [(turnc u i, nI i)]) else (false, (ent s.2.2.1 s.2.1 (turnc u i) i).2.1, (ent s.2.2.1 s.2.1 (turnc u i) i).2.2, s.2.2.2)) = s := by
      rcases q with q | q
      · rw [if_pos q]
      · by_cases w : nI i = bk
        · rw [if_pos w]
        · rw [if_neg w, if_pos q]
    rw [e]
    exact ⟨Nat.le_refl _, P, c, b1, b2, b3⟩
  · left
    rw [if_neg (fun z => q (Or.inl z)), if_neg (fun z => q (Or.inr z)), if_pos c1]
    exact ⟨rfl, c2⟩
  · right
    rw [if_neg (fun z => q (Or.inl z)), if_neg (fun z => q (Or.inr z)), if_neg (by rw [c1]; decide), if_pos (by omega)]
    refine ⟨by show s.2.1 ≤ (ent s.2.2.1 s.2.1 (turnc u i) i).2.1; omega, P ++ [(n, turnc u i, nI i)], c4 _ _ ?_ ?_ (fun e he => ?_), ?_, ?_, ?_⟩
    · unfold remL
      rw [List.flatMap_append]
      refine List.perm_append_comm.trans ?_
      refine List.Perm.append_right _ ?_
      simp
    · unfold remR
      rw [List.any_append, Bool.or_comm]
      simp
    · rcases List.mem_append.mp he with z | z
      · exact Or.inl z
      · exact Or.inr (List.mem_singleton.mp z)
    · show (P ++ [(n, turnc u i, nI i)]).map (·.2) = (s.2.2.2 ++ [(turnc u i, nI i)]).drop k
      rw [List.map_append, b1, List.drop_append_of_le_length b2]
      rfl
    · show k ≤ (s.2.2.2 ++ [(turnc u i, nI i)]).length
      rw [List.length_append]; omega
    · show (s.2.2.2 ++ [(turnc u i, nI i)]).length + 3 = (ent s.2.2.1 s.2.1 (turnc u i) i).2.1
      rw [List.length_append, c2]
      show s.2.2.2.length + 1 + 3 = s.2.1 + 1
      omega
