theorem ent_found {lst : Nat → Nat → Int64} {S : Nat} {c : Qd} {i : Nat} (hs : srtL lst S) (ha : cRef c i = 0) (hm : co c i ∈ tL lst S) : ent lst S c i = (true, S, lst) := by
  obtain ⟨k, hk, e⟩ := mem_tL.mp hm
  have hp := posl_le lst (c i) S
  obtain ⟨h1, h2⟩ := posl_s (lst := lst) (q := c i) S
  unfold ent
  rw [if_pos ha]
  generalize posl lst (c i) S = p at hp h1 h2
  have kp : k < p := by
    rcases Nat.lt_or_ge k p with z | z
    · exact z
    · have := (ord_lt _ _ _ _).mp (h1 k z hk)
      rw [← e] at this
      exact absurd this (ltC_irr _)
  have kl : k = p - 1 := by
    rcases Nat.lt_or_ge k (p - 1) with z | z
    · have := hs k (p - 1) z (by omega)
      rw [← e] at this
      exact absurd ((ord_lt _ _ _ _).mpr this) (h2 (by omega))
    · omega
  rw [if_pos ⟨by omega, (ord_eq _ _ _ _).mpr (by rw [← kl]; exact e.symm)⟩]
theorem ent_inv {lst : Nat → Nat → Int64} {S : Nat} {c : Qd} {i : Nat} (hs : srtL lst S) (h3 : S ≤ 240) : srtL (ent lst S c i).2.2 (ent lst S c i).2.1 ∧ (ent lst S c i).2.1 ≤ 240 ∧ (∀ x ∈ tL (ent lst S c i).2.2 (ent lst S c i).2.1, x ∈ tL lst S ∨ (x = co c i ∧ cRef c i = 0)) ∧ ((ent lst S c i).1 = true → cRef c i = 0) := by
  by_cases ha : cRef c i = 0
  · by_cases hm : co c i ∈ tL lst S
    · rw [ent_found hs ha hm]
      exact ⟨hs, h3, fun x hx => Or.inl hx, fun _ => ha⟩
    · rw [ent_new ha hm]
      by_cases q : 240 ≤ S
      · rw [if_pos q]
        exact ⟨hs, h3, fun x hx => Or.inl hx, fun _ => ha⟩
      · rw [if_neg q]
        refine ⟨ins_srt hs hm, by show S + 1 ≤ 240; omega, fun x hx => ?_, fun _ => ha⟩
        rcases List.mem_cons.mp ((ins_perm hs hm).mem_iff.mpr hx) with z | z
        · exact Or.inr ⟨z, ha⟩
        · exact Or.inl z
  · have e : ent lst S c i = (false, S, lst) := by unfold ent; rw [if_neg ha]
    rw [e]
    exact ⟨hs, h3, fun x hx => Or.inl hx, fun z => by cases z⟩
def JG (c : Qd) (mo : Int32) (k : Nat) (s : St) : Prop := srtL s.2.2.1 s.2.1 ∧ s.2.1 ≤ 240 ∧ (∀ x ∈ tL s.2.2.1 s.2.1, ∃ i, i < 4 ∧ x = co c i ∧ cRef c i = 0) ∧ s.2.2.2 = [] ∧ (s.1 = true → ∀ i, i < k → ¬ mo.toInt64 < c i 0 → cRef c i = 0)
theorem g1_JG {c : Qd} {mo : Int32} {k : Nat} {s : St} (hk : k < 4) (h : JG c mo k s) : JG c mo (k + 1) (g1 c mo k s) := by
  obtain ⟨h1, h2, h3, h4, h5⟩ := h
  unfold g1
  by_cases q : s.1 = false
  · rw [if_pos q]
    exact ⟨h1, h2, h3, h4, fun z => by rw [q] at z; cases z⟩
  · rw [if_neg q]
    have q' : s.1 = true := by simpa using q
    by_cases w : mo.toInt64 < c k 0
    · rw [if_pos w]
      refine ⟨h1, h2, h3, h4, fun z i hi hn => ?_⟩
      by_cases e : i = k
      · subst e; exact absurd w hn
      · exact h5 z i (by omega) hn
    · rw [if_neg w]
      obtain ⟨e1, e2, e3, e4⟩ := ent_inv (c := c) (i := k) h1 h2
      refine ⟨e1, e2, fun x hx => ?_, h4, fun z i hi hn => ?_⟩
      · rcases e3 x hx with z | ⟨z1, z2⟩
        · exact h3 x z
        · exact ⟨k, hk, z1, z2⟩
      · by_cases e : i = k
        · subst e; exact e4 z
        · exact h5 q' i (by omega) hn
theorem g4_JG (c : Qd) (mo : Int32) (lst : Nat → Nat → Int64) : JG c mo 4 (g4 c mo (true, 0, lst, [])) := by
  have h0 : JG c mo 0 (true, 0, lst, []) := ⟨fun i j _ h => absurd h (Nat.not_lt_zero _), Nat.zero_le _, fun x hx => absurd hx List.not_mem_nil, rfl, fun _ i h => absurd h (Nat.not_lt_zero _)⟩
  exact g1_JG (by omega) (g1_JG (by omega) (g1_JG (by omega) (g1_JG (by omega) h0)))
theorem g1_new {c : Qd} {mo : Int32} {k : Nat} {s : St} {L : List C3} (hk : k < 4) (h1 : s.1 = true) (h2 : s.2.1 = k) (hs : srtL s.2.2.1 s.2.1) (hp : (tL s.2.2.1 s.2.1).Perm L) (hn : co c k ∉ L) (hm : ¬ mo.toInt64 < c k 0) (ha : cRef c k = 0) : (g1 c mo k s).1 = true ∧ (g1 c mo k s).2.1 = k + 1 ∧ srtL (g1 c mo k s).2.2.1 (g1 c mo k s).2.1 ∧ (tL (g1 c mo k s).2.2.1 (g1 c mo k s).2.1).Perm (co c k :: L) := by
  have hn' : co c k ∉ tL s.2.2.1 s.2.1 := fun z => hn (hp.mem_iff.mp z)
  have e : g1 c mo k s = (true, s.2.1 + 1, lins s.2.2.1 (posl s.2.2.1 (c k) s.2.1) s.2.1 (c k), s.2.2.2) := by
    unfold g1
    rw [if_neg (by rw [h1]; decide), if_neg hm, ent_new ha hn', if_neg (by omega)]
  rw [e]
  exact ⟨rfl, by show s.2.1 + 1 = k + 1; omega, ins_srt hs hn', (ins_perm hs hn').symm.trans (List.Perm.cons _ hp)⟩
theorem sub_acc {mo : Int32} : ∀ (n : Nat) (u : Qd) (bk : Int32), ∀ x ∈ sub mo n u bk, ∃ c i, x = co c i ∧ cRef c i = 0
  | 0, _, _, x, hx => absurd hx List.not_mem_nil
  | n + 1, u, bk, x, hx => by
    obtain ⟨i, hi, hx⟩ := sub_mem hx
    obtain ⟨-, -, hr, hx⟩ := pc1_mem hx
    rcases hx with rfl | hx
    · exact ⟨_, i, rfl, hr⟩
    · exact sub_acc n _ _ x hx
def inC (x : C3) : Prop := x.1.toInt32.toInt64 = x.1 ∧ x.2.1.toInt32.toInt64 = x.2.1 ∧ x.2.2.toInt32.toInt64 = x.2.2
theorem co_in {c : Qd} {i : Nat} (h : cRef c i = 0) : inC (co c i) := by
  obtain ⟨h1, h2⟩ := cRef_0 h
  exact ⟨coin_in h1 h2 0 (by omega), coin_in h1 h2 1 (by omega), coin_in h1 h2 2 (by omega)⟩
theorem range_of {lst : Nat → Nat → Int64} {S : Nat} (h : ∀ x ∈ tL lst S, inC x) : ∀ k w, k < S → w < 3 → (lst k w).toInt32.toInt64 = lst k w := fun k w hk hw => by
  obtain ⟨h0, h1, h2⟩ := h _ (mem_tL.mpr ⟨k, hk, rfl⟩)
  have hw' : w = 0 ∨ w = 1 ∨ w = 2 := by omega
  rcases hw' with rfl | rfl | rfl <;> assumption
theorem upTo_grt {c : Qd} {mo : Int32} : upTo c mo = true ↔ ¬ mo.toInt64 < c (grt c) 0 := by
  rw [upTo_j]
  constructor
  · intro h
    exact Int64.not_lt.mpr (h _ (grt_lt c))
  · intro h j hj
    have := grt_max c j hj
    unfold tI at this
    rw [Int64.lt_iff_toInt_lt] at h
    rw [Int64.le_iff_toInt_le]
    omega
theorem list_same {c : Qd} {mo : Int32} {lst : Nat → Nat → Int64} (hG : (∀ j, j < 4 → cRef c j = 0) → ∃ D, GI D c) : ∃ r, mgth 300 c mo lst = some r ∧ (gth c mo lst 0).1 = r.1 ∧ (r.1 = true → (gth c mo lst 0).2.1 = r.2.1 ∧ (∀ k, k < r.2.1 → at3 (gth c mo lst 0).2.2.1 k = at3 r.2.2.1 k) ∧ srtL r.2.2.1 r.2.1 ∧ r.2.1 ≤ 240 ∧ ∀ k w, k < r.2.1 → w < 3 → (r.2.2.1 k w).toInt32.toInt64 = r.2.2.1 k w) := by
  obtain ⟨j1, j2, j3, j4, j5⟩ := g4_JG c mo lst
  unfold mgth gth
  by_cases q : (g4 c mo (true, 0, lst, [])).1 = false
  · rw [if_pos q, if_pos q]
    exact ⟨_, rfl, rfl, fun z => by rw [q] at z; cases z⟩
  · rw [if_neg q, if_neg q]
    have q' : (g4 c mo (true, 0, lst, [])).1 = true := by simpa using q
    by_cases hu : upTo c mo = true
    · have ha : ∀ j, j < 4 → cRef c j = 0 := fun j hj => j5 q' j hj (Int64.not_lt.mpr (upTo_j.mp hu j hj))
      obtain ⟨D, hg⟩ := hG ha
      have hb : ∀ j, j < 4 → ¬ mo.toInt64 < c j 0 := fun j hj => Int64.not_lt.mpr (upTo_j.mp hu j hj)
      have ne := fun i j hi hj hij => own_ne hg (i := i) (j := j) hi hj hij
      obtain ⟨a1, a2, a3, a4⟩ := g1_new (c := c) (mo := mo) (k := 0) (s := (true, 0, lst, [])) (L := []) (by omega) rfl rfl (fun i j _ h => absurd h (Nat.not_lt_zero _)) (List.Perm.refl _) List.not_mem_nil (hb 0 (by omega)) (ha 0 (by omega))
      obtain ⟨b1, b2, b3, b4⟩ := g1_new (c := c) (mo := mo) (k := 1) (by omega) a1 a2 a3 a4 (by simp [ne 1 0 (by omega) (by omega) (by omega)]) (hb 1 (by omega)) (ha 1 (by omega))
      obtain ⟨c1, c2, c3, c4⟩ := g1_new (c := c) (mo := mo) (k := 2) (by omega) b1 b2 b3 b4 (by simp [ne 2 0 (by omega) (by omega) (by omega), ne 2 1 (by omega) (by omega) (by omega)]) (hb 2 (by omega)) (ha 2 (by omega))
      obtain ⟨d1, d2, d3, d4⟩ := g1_new (c := c) (mo := mo) (k := 3) (by omega) c1 c2 c3 c4 (by simp [ne 3 0 (by omega) (by omega) (by omega), ne 3 1 (by omega) (by omega) (by omega), ne 3 2 (by omega) (by omega) (by omega)]) (hb 3 (by omega)) (ha 3 (by omega))
      have hA := all_nodup (mo := mo) (n := 246) (bk := -3) hg
      have ws : ws0 c mo = [(c, -3)] := by unfold ws0; rw [if_neg (upTo_grt.mp hu)]
      rw [ws]
      show ∃ r, mlp mo 300 (true, (g1 c mo 3 (g1 c mo 2 (g1 c mo 1 (g1 c mo 0 (true, 0, lst, []))))).2.1, (g1 c mo 3 (g1 c mo 2 (g1 c mo 1 (g1 c mo 0 (true, 0, lst, []))))).2.2.1, [(c, -3)]) = some r ∧ (glp mo 241 0 (true, (g1 c mo 3 (g1 c mo 2 (g1 c mo 1 (g1 c mo 0 (true, 0, lst, []))))).2.1, (g1 c mo 3 (g1 c mo 2 (g1 c mo 1 (g1 c mo 0 (true, 0, lst, []))))).2.2.1, [(c, -3)])).1 = r.1 ∧ (r.1 = true → (glp mo 241 0 (true, (g1 c mo 3 (g1 c mo 2 (g1 c mo 1 (g1 c mo 0 (true, 0, lst, []))))).2.1, (g1 c mo 3 (g1 c mo 2 (g1 c mo 1 (g1 c mo 0 (true, 0, lst, []))))).2.2.1, [(c, -3)])).2.1 = r.2.1 ∧ (∀ k, k < r.2.1 → at3 (glp mo 241 0 (true, (g1 c mo 3 (g1 c mo 2 (g1 c mo 1 (g1 c mo 0 (true, 0, lst, []))))).2.1, (g1 c mo 3 (g1 c mo 2 (g1 c mo 1 (g1 c mo 0 (true, 0, lst, []))))).2.2.1, [(c, -3)])).2.2.1 k = at3 r.2.2.1 k) ∧ srtL r.2.2.1 r.2.1 ∧ r.2.1 ≤ 240 ∧ ∀ k w, k < r.2.1 → w < 3 → (r.2.2.1 k w).toInt32.toInt64 = r.2.2.1 k w)
      generalize g1 c mo 3 (g1 c mo 2 (g1 c mo 1 (g1 c mo 0 (true, 0, lst, [])))) = s4 at d1 d2 d3 d4
      have hci : CI D mo ([co c 0, co c 1, co c 2, co c 3] ++ sub mo 246 c (-3)) (subR mo 246 c (-3)) (true, s4.2.1, s4.2.2.1, [(c, -3)]) [(246, c, -3)] [] false := by
        refine ⟨rfl, d3, by show s4.2.1 ≤ 240; omega, ?_, ?_, fun e he => ?_⟩
        · show (tL s4.2.2.1 s4.2.1 ++ (sub mo 246 c (-3) ++ [])).Perm _
          rw [List.append_nil]
          refine List.Perm.append_right _ (d4.trans ?_)
          exact (List.reverse_perm [co c 0, co c 1, co c 2, co c 3])
        · show (false || (subR mo 246 c (-3) || false)) = _
          rw [Bool.or_false, Bool.false_or]
        · rw [List.mem_singleton.mp he]
          exact ⟨hg, hu, by show 250 ≤ s4.2.1 + 246; omega⟩
      have R1 := glp_RES hA 241 0 _ _ rfl hci ⟨rfl, Nat.zero_le _, by show 1 + 3 = s4.2.1; omega⟩
      obtain ⟨r, e, R2⟩ := mlp_RES hA 300 _ _ (by show 240 + 1 ≤ 300 + s4.2.1; omega) hci ⟨rfl, by show 1 ≤ s4.2.1; omega⟩
      obtain ⟨k1, k2⟩ := RES_eq R1 R2
      refine ⟨r, e, k1, fun hr => ?_⟩
      obtain ⟨m1, m2⟩ := k2 (k1.trans hr)
      rcases R2 with ⟨-, p2, p3, -, p5⟩ | ⟨p1, -⟩
      · refine ⟨m1, fun k hk => m2 k (by omega), p2, p5, range_of (fun x hx => ?_)⟩
        rcases List.mem_append.mp (p3.mem_iff.mp hx) with z | z
        · simp only [List.mem_cons, List.not_mem_nil, or_false] at z
          rcases z with rfl | rfl | rfl | rfl
          · exact co_in (ha 0 (by omega))
          · exact co_in (ha 1 (by omega))
          · exact co_in (ha 2 (by omega))
          · exact co_in (ha 3 (by omega))
        · obtain ⟨u, i, rfl, hr⟩ := sub_acc _ _ _ x z
          exact co_in hr
      · rw [p1] at hr; cases hr
    · have ws : ws0 c mo = [] := by
        unfold ws0
        rw [if_pos]
        by_cases w : mo.toInt64 < c (grt c) 0
        · exact w
        · exact absurd (upTo_grt.mpr w) hu
      rw [ws]
      have e1 : glp mo 241 0 (true, (g4 c mo (true, 0, lst, [])).2.1, (g4 c mo (true, 0, lst, [])).2.2.1, []) = (true, (g4 c mo (true, 0, lst, [])).2.1, (g4 c mo (true, 0, lst, [])).2.2.1, []) := rfl
      have e2 : mlp mo 300 (true, (g4 c mo (true, 0, lst, [])).2.1, (g4 c mo (true, 0, lst, [])).2.2.1, [(c, -3)]) = some (true, (g4 c mo (true, 0, lst, [])).2.1, (g4 c mo (true, 0, lst, [])).2.2.1, []) := by
        show mlp mo 299 (mstep mo (c, -3) (true, (g4 c mo (true, 0, lst, [])).2.1, (g4 c mo (true, 0, lst, [])).2.2.1, [])) = _
        unfold mstep
        rw [if_neg hu]
        rfl
      rw [e1, e2]
      refine ⟨_, rfl, rfl, fun _ => ⟨rfl, fun _ _ => rfl, j1, j2, range_of (fun x hx => ?_)⟩⟩
      obtain ⟨i, hi, rfl, hr⟩ := j3 x hx
      exact co_in hr
