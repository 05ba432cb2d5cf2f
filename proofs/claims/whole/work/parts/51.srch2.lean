def RES (A : List C3) (R : Bool) (g : St) : Prop := (g.1 = true ∧ srtL g.2.2.1 g.2.1 ∧ (tL g.2.2.1 g.2.1).Perm A ∧ R = false ∧ g.2.1 ≤ 240) ∨ (g.1 = false ∧ (R = true ∨ 240 < A.length))
theorem RES_eq {A : List C3} {R : Bool} {g r : St} (h1 : RES A R g) (h2 : RES A R r) : g.1 = r.1 ∧ (g.1 = true → g.2.1 = r.2.1 ∧ ∀ k, k < g.2.1 → at3 g.2.2.1 k = at3 r.2.2.1 k) := by
  rcases h1 with ⟨a1, a2, a3, a4, a5⟩ | ⟨a1, a2⟩ <;> rcases h2 with ⟨b1, b2, b3, b4, b5⟩ | ⟨b1, b2⟩
  · have l1 := a3.length_eq
    have l2 := b3.length_eq
    rw [tL_len] at l1 l2
    have e : g.2.1 = r.2.1 := by omega
    refine ⟨a1.trans b1.symm, fun _ => ⟨e, ?_⟩⟩
    rw [← e] at b2 b3
    exact srtL_eq _ a2 b2 (fun x => (a3.mem_iff).trans b3.mem_iff.symm)
  · exfalso
    have l1 := a3.length_eq
    rw [tL_len] at l1
    rcases b2 with z | z
    · rw [a4] at z; cases z
    · omega
  · exfalso
    have l1 := b3.length_eq
    rw [tL_len] at l1
    rcases a2 with z | z
    · rw [b4] at z; cases z
    · omega
  · exact ⟨a1.trans b1.symm, fun z => by rw [a1] at z; cases z⟩
theorem CI.pop {D : Int} {mo : Int32} {A : List C3} {R : Bool} {s : St} {P : Pd} {e : Nat × Qd × Int32} (h : CI D mo A R s (e :: P) [] false) : CI D mo A R s P (sub mo e.1 e.2.1 e.2.2) (subR mo e.1 e.2.1 e.2.2) := by
  obtain ⟨h1, h2, h3, h4, h5, h6⟩ := h
  exact ⟨h1, h2, h3, h4, h5, fun x hx => h6 x (List.mem_cons_of_mem _ hx)⟩
theorem CI.z {D : Int} {mo : Int32} {A : List C3} {R : Bool} {s : St} {P : Pd} {Y : List C3} {y : Bool} (h : CI D mo A R s P Y y) : CI D mo A R s P (Y ++ []) (y || false) := by
  rw [List.append_nil, Bool.or_false]
  exact h
theorem sw4_CI {D : Int} {mo : Int32} {A : List C3} {R : Bool} {s : St} {P : Pd} {n : Nat} {u : Qd} {bk : Int32} {k : Nat} (hA : A.Nodup) (hg : GI D u) (hu : upTo u mo = true) (hf : 250 ≤ s.2.1 + (n + 1)) (h : CI D mo A R s P (sub mo (n + 1) u bk) (subR mo (n + 1) u bk)) (hb : BS k s P) : ((sw4 u bk mo s).1 = false ∧ (R = true ∨ 240 < A.length)) ∨ ∃ P', CI D mo A R (sw4 u bk mo s) P' [] false ∧ BS k (sw4 u bk mo s) P' := by
  unfold sw4
  rcases sw1_CI hA hg (i := 0) (by omega) hu hf h hb with ⟨f, b⟩ | ⟨l0, P0, c0, b0⟩
  · left
    rw [sw1_f (i := 1) f, sw1_f (i := 2) f, sw1_f (i := 3) f]
    exact ⟨f, b⟩
  · rcases sw1_CI hA hg (i := 1) (by omega) hu (by omega) c0 b0 with ⟨f, b⟩ | ⟨l1, P1, c1, b1⟩
    · left
      rw [sw1_f (i := 2) f, sw1_f (i := 3) f]
      exact ⟨f, b⟩
    · rcases sw1_CI hA hg (i := 2) (by omega) hu (by omega) c1 b1 with ⟨f, b⟩ | ⟨l2, P2, c2, b2⟩
      · left
        rw [sw1_f (i := 3) f]
        exact ⟨f, b⟩
      · rcases sw1_CI hA hg (i := 3) (by omega) hu (by omega) c2.z b2 with ⟨f, b⟩ | ⟨l3, P3, c3, b3⟩
        · exact Or.inl ⟨f, b⟩
        · exact Or.inr ⟨P3, c3, b3⟩
theorem glp_RES {D : Int} {mo : Int32} {A : List C3} {R : Bool} (hA : A.Nodup) : ∀ (m n : Nat) (s : St) (P : Pd), m + n = 241 → CI D mo A R s P [] false → BS n s P → RES A R (glp mo m n s)
  | 0, n, s, P, hm, hc, hb => by
    obtain ⟨b1, b2, b3⟩ := hb
    have := hc.2.2.1
    omega
  | m + 1, n, s, P, hm, hc, hb => by
    obtain ⟨b1, b2, b3⟩ := hb
    have h1 := hc.1
    have h3 := hc.2.2.1
    unfold glp
    rw [if_neg (by rw [h1]; decide)]
    cases hg : s.2.2.2[n]? with
    | none =>
      have hlen := List.getElem?_eq_none_iff.mp hg
      rw [List.drop_of_length_le hlen] at b1
      have hP : P = [] := List.map_eq_nil_iff.mp b1
      subst hP
      obtain ⟨c1, c2, c3, c4, c5, c6⟩ := hc
      left
      refine ⟨c1, c2, ?_, c5.symm, c3⟩
      have c4 : (tL s.2.2.1 s.2.1 ++ []).Perm A := c4
      rwa [List.append_nil] at c4
    | some x =>
      obtain ⟨hn, hx⟩ := List.getElem?_eq_some_iff.mp hg
      rw [List.drop_eq_getElem_cons hn] at b1
      cases P with
      | nil => cases b1
      | cons e P =>
        rw [List.map_cons] at b1
        injection b1 with e1 e2
        rw [hx] at e1
        obtain ⟨o1, o2, o3⟩ := hc.2.2.2.2.2 e (List.mem_cons_self ..)
        have hp := hc.pop
        rw [e1] at o1 o2 hp
        obtain ⟨n0, hn0⟩ : ∃ n0, e.1 = n0 + 1 := ⟨e.1 - 1, by omega⟩
        rw [hn0] at hp o3
        show RES A R (glp mo m (n + 1) (sw4 x.1 x.2 mo s))
        rcases sw4_CI hA o1 o2 o3 hp (k := n + 1) ⟨e2, hn, b3⟩ with ⟨f, b⟩ | ⟨P', c, b⟩
        · rw [glp_f f]
          exact Or.inr ⟨f, b⟩
        · exact glp_RES hA m (n + 1) _ P' (by omega) c b
def MS (s : St) (P : Pd) : Prop := P.map (·.2) = s.2.2.2 ∧ s.2.2.2.length ≤ s.2.1
theorem mw1_CI {D : Int} {mo : Int32} {A : List C3} {R : Bool} {s : St} {P : Pd} {Y : List C3} {y : Bool} {n : Nat} {u : Qd} {bk : Int32} {i : Nat} (hA : A.Nodup) (hg : GI D u) (hi : i < 4) (hu : upTo u mo = true) (hf : 250 ≤ s.2.1 + (n + 1)) (h : CI D mo A R s P (pc1 (sub mo n) mo u bk i ++ Y) (pcR (subR mo n) mo u bk i || y)) (hb : MS s P) : ((mw1 u bk mo i s).1 = false ∧ (R = true ∨ 240 < A.length)) ∨ (s.2.1 ≤ (mw1 u bk mo i s).2.1 ∧ s.2.2.2.length + (mw1 u bk mo i s).2.1 = (mw1 u bk mo i s).2.2.2.length + s.2.1 ∧ ∃ P', CI D mo A R (mw1 u bk mo i s) P' Y y ∧ MS (mw1 u bk mo i s) P') := by
  have hs : s.1 = true := h.1
  obtain ⟨b1, b2⟩ := hb
  unfold mw1
  rw [if_neg (by rw [hs]; decide)]
  rcases mv hA hg hi hu hf h with ⟨q, c⟩ | ⟨q, c1, c2⟩ | ⟨q, c1, c2, c3, c4⟩
  · right
    have e : (if nI i = bk then s else if mo.toInt64 < trn u i 0 then s else if (ent s.2.2.1 s.2.1 (turnc u i) i).1 = false then (false, (ent s.2.2.1 s.2.1 (turnc u i) i).2.1, (ent s.2.2.1 s.2.1 (turnc u i) i).2.2, s.2.2.2) else if s.2.2.2.length < 2000 then (true, (ent s.2.2.1 s.2.1 (turnc u i) i).2.1, (ent s.2.2.1 s.2.1 (turnc u i) i).2.2, (turnc u i, nI i) :: s.2.2.2) else (false, (ent s.2.2.1 s.2.1 (turnc u i) i).2.1, (ent s.2.2.1 s.2.1 (turnc u i) i).2.2, s.2.2.2)) = s := by
      rcases q with q | q
      · rw [if_pos q]
      · by_cases w : nI i = bk
        · rw [if_pos w]
        · rw [if_neg w, if_pos q]
    rw [e]
    exact ⟨Nat.le_refl _, rfl, P, c, b1, b2⟩
  · left
    rw [if_neg (fun z => q (Or.inl z)), if_neg (fun z => q (Or.inr z)), if_pos c1]
    exact ⟨rfl, c2⟩
  · right
    rw [if_neg (fun z => q (Or.inl z)), if_neg (fun z => q (Or.inr z)), if_neg (by rw [c1]; decide), if_pos (by omega)]
    refine ⟨by show s.2.1 ≤ (ent s.2.2.1 s.2.1 (turnc u i) i).2.1; omega, ?_, (n, turnc u i, nI i) :: P, c4 _ _ (List.Perm.refl _) rfl (fun e he => ?_), ?_, ?_⟩
    · show s.2.2.2.length + (ent s.2.2.1 s.2.1 (turnc u i) i).2.1 = ((turnc u i, nI i) :: s.2.2.2).length + s.2.1
      rw [List.length_cons]; omega
    · rcases List.mem_cons.mp he with z | z
      · exact Or.inr z
      · exact Or.inl z
    · show ((n, turnc u i, nI i) :: P).map (·.2) = (turnc u i, nI i) :: s.2.2.2
      rw [List.map_cons, b1]
    · show ((turnc u i, nI i) :: s.2.2.2).length ≤ (ent s.2.2.1 s.2.1 (turnc u i) i).2.1
      rw [List.length_cons, c2]
      omega
theorem mw4_CI {D : Int} {mo : Int32} {A : List C3} {R : Bool} {s : St} {P : Pd} {n : Nat} {u : Qd} {bk : Int32} (hA : A.Nodup) (hg : GI D u) (hu : upTo u mo = true) (hf : 250 ≤ s.2.1 + (n + 1)) (h : CI D mo A R s P (sub mo (n + 1) u bk) (subR mo (n + 1) u bk)) (hb : MS s P) : ((mw4 u bk mo s).1 = false ∧ (R = true ∨ 240 < A.length)) ∨ (s.2.2.2.length + (mw4 u bk mo s).2.1 = (mw4 u bk mo s).2.2.2.length + s.2.1 ∧ ∃ P', CI D mo A R (mw4 u bk mo s) P' [] false ∧ MS (mw4 u bk mo s) P') := by
  unfold mw4
  rcases mw1_CI hA hg (i := 0) (by omega) hu hf h hb with ⟨f, b⟩ | ⟨l0, q0, P0, c0, b0⟩
  · left
    rw [mw1_f (i := 1) f, mw1_f (i := 2) f, mw1_f (i := 3) f]
    exact ⟨f, b⟩
  · rcases mw1_CI hA hg (i := 1) (by omega) hu (by omega) c0 b0 with ⟨f, b⟩ | ⟨l1, q1, P1, c1, b1⟩
    · left
      rw [mw1_f (i := 2) f, mw1_f (i := 3) f]
      exact ⟨f, b⟩
    · rcases mw1_CI hA hg (i := 2) (by omega) hu (by omega) c1 b1 with ⟨f, b⟩ | ⟨l2, q2, P2, c2, b2⟩
      · left
        rw [mw1_f (i := 3) f]
        exact ⟨f, b⟩
      · rcases mw1_CI hA hg (i := 3) (by omega) hu (by omega) c2.z b2 with ⟨f, b⟩ | ⟨l3, q3, P3, c3, b3⟩
        · exact Or.inl ⟨f, b⟩
        · exact Or.inr ⟨by omega, P3, c3, b3⟩
theorem mlp_RES {D : Int} {mo : Int32} {A : List C3} {R : Bool} (hA : A.Nodup) : ∀ (m : Nat) (s : St) (P : Pd), 240 + s.2.2.2.length ≤ m + s.2.1 → CI D mo A R s P [] false → MS s P → ∃ r, mlp mo m s = some r ∧ RES A R r
  | m, s, [], hm, hc, hb => by
    have hst : s.2.2.2 = [] := hb.1.symm
    obtain ⟨c1, c2, c3, c4, c5, c6⟩ := hc
    refine ⟨s, mlp_e hst, Or.inl ⟨c1, c2, ?_, c5.symm, c3⟩⟩
    have c4 : (tL s.2.2.1 s.2.1 ++ []).Perm A := c4
    rwa [List.append_nil] at c4
  | 0, s, e :: P, hm, hc, hb => by
    have h1 := hb.1
    rw [List.map_cons] at h1
    rw [← h1, List.length_cons] at hm
    have := hc.2.2.1
    omega
  | m + 1, s, e :: P, hm, hc, hb => by
    obtain ⟨b1, b2⟩ := hb
    rw [List.map_cons] at b1
    obtain ⟨o1, o2, o3⟩ := hc.2.2.2.2.2 e (List.mem_cons_self ..)
    have hp := hc.pop
    have h1 := hc.1
    obtain ⟨n0, hn0⟩ : ∃ n0, e.1 = n0 + 1 := ⟨e.1 - 1, by have := hc.2.2.1; omega⟩
    rw [hn0] at hp o3
    have hlen : s.2.2.2.length = (P.map (·.2)).length + 1 := by rw [← b1, List.length_cons]
    have hstep : mlp mo (m + 1) s = mlp mo m (mw4 e.2.1 e.2.2 mo (true, s.2.1, s.2.2.1, P.map (·.2))) := by
      rw [show mlp mo (m + 1) s = (if s.1 = false then some s else match s.2.2.2 with
        | [] => some s
        | x :: t => mlp mo m (mstep mo x (s.1, s.2.1, s.2.2.1, t))) from rfl, if_neg (by rw [h1]; decide), ← b1, h1]
      show mlp mo m (mstep mo e.2 (true, s.2.1, s.2.2.1, P.map (·.2))) = _
      unfold mstep
      rw [if_pos o2]
    rw [hstep]
    rcases mw4_CI (s := (true, s.2.1, s.2.2.1, P.map (·.2))) hA o1 o2 o3 ⟨rfl, hp.2⟩ ⟨rfl, by show (P.map (·.2)).length ≤ s.2.1; omega⟩ with ⟨f, b⟩ | ⟨q, P', c, b⟩
    · exact ⟨_, mlp_f f, Or.inr ⟨f, b⟩⟩
    · refine mlp_RES hA m _ P' ?_ c b
      have q : (P.map (·.2)).length + (mw4 e.2.1 e.2.2 mo (true, s.2.1, s.2.2.1, P.map (·.2))).2.1 = (mw4 e.2.1 e.2.2 mo (true, s.2.1, s.2.2.1, P.map (·.2))).2.2.2.length + s.2.1 := q
      omega
