theorem sh_e : ∀ e, e < 32 → ((nI e &&& 31 : Int32).toBitVec.smod 32).toNat = e := by decide +kernel
theorem sbit_t (w : Int32) {e : Nat} (he : e < 32) : sbit w e = w.toBitVec.getLsbD e := by
  unfold sbit
  rw [pk_and (w >>> (nI e &&& 31)) (m := nI 1) 1 (by decide), Int32.toBitVec_shiftRight]
  have h0 : (w.toBitVec.sshiftRight' ((nI e &&& 31 : Int32).toBitVec.smod 32)) = w.toBitVec.sshiftRight e := by
    show w.toBitVec.sshiftRight (((nI e &&& 31 : Int32).toBitVec.smod 32).toNat) = _
    rw [sh_e e he]
  rw [h0]
  have h1 : (w.toBitVec.sshiftRight e).getLsbD 0 = w.toBitVec.getLsbD e := by
    rw [BitVec.getLsbD_sshiftRight]
    simp [he]
  rw [← h1]
  show (nI ((w.toBitVec.sshiftRight e).toNat % 2 ^ 1) == nI 1) = (w.toBitVec.sshiftRight e).toNat.testBit 0
  rw [Nat.testBit_zero]
  have hm : (w.toBitVec.sshiftRight e).toNat % 2 ^ 1 = 0 ∨ (w.toBitVec.sshiftRight e).toNat % 2 ^ 1 = 1 := by omega
  rcases hm with q | q
  · rw [q]; decide
  · rw [q]; decide
theorem one_t : ∀ d, d < 32 → ∀ e, e < 32 → (nI 1 <<< (nI d &&& 31 : Int32)).toBitVec.getLsbD e = decide (e = d) := by decide +kernel
theorem orb_t (w : Int32) {d e : Nat} (hd : d < 32) (he : e < 32) : sbit (orb w d) e = (decide (e = d) || sbit w e) := by
  rw [sbit_t _ he, sbit_t _ he]
  unfold orb
  rw [Int32.toBitVec_or, BitVec.getLsbD_or, one_t d hd e he, Bool.or_comm]
theorem fhs_up (f : Nat → Int32) (x u : Nat) : fhs (fup f x) u = (decide (u = x) || fhs f u) := by
  unfold fhs fup va_up
  by_cases q : u / 32 = x / 32
  · rw [if_pos q, orb_t _ (Nat.mod_lt _ (by omega)) (Nat.mod_lt _ (by omega)), ← q]
    congr 1
    apply decide_eq_decide.mpr
    omega
  · rw [if_neg q, decide_eq_false (by intro z; rw [z] at q; exact q rfl), Bool.false_or]
theorem fhs_0 (u : Nat) : fhs (fun _ => nI 0) u = false := by
  unfold fhs
  rw [sbit_t _ (Nat.mod_lt _ (by omega))]
  exact BitVec.getLsbD_zero
def bits4 (u : Nat) : Int32 := (((bitI (dg u 3) ||| bitI (dg u 2)) ||| bitI (dg u 1)) ||| bitI (dg u 0))
def MK : List Nat → Int32
  | [] => nI 0
  | u :: t => bits4 u ||| MK t
theorem or_ac (a b c : Int32) : a ||| (b ||| c) = b ||| (a ||| c) := by
  rw [← Int32.or_assoc, Int32.or_comm a b, Int32.or_assoc]
theorem mk_mem {u : Nat} : ∀ {l : List Nat}, u ∈ l → bits4 u ||| MK l = MK l
  | x :: t, h => by
    unfold MK
    rcases List.mem_cons.mp h with rfl | q
    · rw [← Int32.or_assoc, Int32.or_self]
    · rw [or_ac, mk_mem q]
theorem mk_sub {l2 : List Nat} : ∀ {l1 : List Nat}, (∀ x ∈ l1, x ∈ l2) → MK l1 ||| MK l2 = MK l2
  | [], _ => Int32.zero_or
  | x :: t, h => by
    show (bits4 x ||| MK t) ||| MK l2 = MK l2
    rw [Int32.or_assoc, mk_sub (fun y hy => h y (List.mem_cons_of_mem _ hy)), mk_mem (h x (List.mem_cons_self ..))]
theorem mk_eq {l1 l2 : List Nat} (h1 : ∀ x ∈ l1, x ∈ l2) (h2 : ∀ x ∈ l2, x ∈ l1) : MK l1 = MK l2 := by
  rw [← mk_sub h1, Int32.or_comm, mk_sub h2]
theorem mk_app : ∀ (a b : List Nat), MK (a ++ b) = MK a ||| MK b
  | [], b => Int32.zero_or.symm
  | x :: t, b => by
    show bits4 x ||| MK (t ++ b) = (bits4 x ||| MK t) ||| MK b
    rw [mk_app t b, Int32.or_assoc]
theorem orb4_bits (s : Int32) (u : Nat) : orb4 s u 4 = s ||| bits4 u := by
  show (((s ||| bitI (dg u 0)) ||| bitI (dg u 1)) ||| bitI (dg u 2)) ||| bitI (dg u 3) = s ||| (((bitI (dg u 3) ||| bitI (dg u 2)) ||| bitI (dg u 1)) ||| bitI (dg u 0))
  generalize bitI (dg u 0) = a
  generalize bitI (dg u 1) = b
  generalize bitI (dg u 2) = c
  generalize bitI (dg u 3) = d
  ac_rfl
theorem ent1_RE {v x : Nat} {l : List Nat} (hv : v < 331776) (he : dsm v % 2 = 0) (hn : l.Nodup) (hr : ∀ y ∈ l, RE v y) (hx : RE v x) : (ent1 l x).Nodup ∧ (∀ y ∈ ent1 l x, RE v y) ∧ x ∈ ent1 l x ∧ ∃ t, ent1 l x = l ++ t := by
  have hl := RE.len hv he hn hr
  unfold ent1
  by_cases q : x ∈ l
  · rw [if_pos q]; exact ⟨hn, hr, q, [], (List.append_nil _).symm⟩
  · rw [if_neg q, if_pos (by omega)]
    refine ⟨?_, fun y hy => ?_, List.mem_append_right _ (List.mem_singleton_self _), [x], rfl⟩
    · refine List.nodup_append.mpr ⟨hn, List.pairwise_singleton .., fun a ha b hb => ?_⟩
      rw [List.mem_singleton.mp hb]
      exact fun z => q (z ▸ ha)
    · rcases List.mem_append.mp hy with z | z
      · exact hr y z
      · rw [List.mem_singleton.mp z]; exact hx
theorem ent4_RE {v u : Nat} {l : List Nat} (hv : v < 331776) (he : dsm v % 2 = 0) (hn : l.Nodup) (hr : ∀ y ∈ l, RE v y) (hu : RE v u) : ∀ k, k ≤ 4 → (ent4 l u k).Nodup ∧ (∀ y ∈ ent4 l u k, RE v y) ∧ (∀ i, i < k → swp u i ∈ ent4 l u k) ∧ ∃ t, ent4 l u k = l ++ t
  | 0, _ => ⟨hn, hr, fun i h => by omega, [], (List.append_nil _).symm⟩
  | k + 1, hk => by
    obtain ⟨a1, a2, a3, t, a4⟩ := ent4_RE hv he hn hr hu k (by omega)
    obtain ⟨b1, b2, b3, t2, b4⟩ := ent1_RE hv he a1 a2 (hu.step k (by omega))
    refine ⟨b1, b2, fun i hi => ?_, t ++ t2, ?_⟩
    · by_cases q : i = k
      · subst q; exact b3
      · show swp u i ∈ ent1 (ent4 l u k) (swp u k)
        rw [b4]
        exact List.mem_append_left _ (a3 i (by omega))
    · show ent1 (ent4 l u k) (swp u k) = _
      rw [b4, a4, List.append_assoc]
theorem clo_RE {v : Nat} {l : List Nat} (h0 : v ∈ l) (h : ∀ u ∈ l, ∀ i, i < 4 → swp u i ∈ l) {x : Nat} (hx : RE v x) : x ∈ l := hx.ind (P := fun x => x ∈ l) h0 (fun w i hi _ hw => h w hw i hi)
theorem gat_RE {v : Nat} (hv : v < 331776) (he : dsm v % 2 = 0) : ∀ (m k : Nat) (l : List Nat) (s : Int32), m + k = 3840 → l.Nodup → (∀ x ∈ l, RE v x) → v ∈ l → (∀ u ∈ l.take k, ∀ i, i < 4 → swp u i ∈ l) → k ≤ l.length → s = MK (l.take k) → ∃ W, gat m k l s = MK W ∧ ∀ x, x ∈ W ↔ RE v x
  | 0, k, l, s, hm, hn, hr, _, _, hk, _ => by
    have := RE.len hv he hn hr
    omega
  | m + 1, k, l, s, hm, hn, hr, h0, hc, hk, hs => by
    unfold gat
    cases hg : l[k]? with
    | none =>
      have hlen : l.length ≤ k := List.getElem?_eq_none_iff.mp hg
      rw [List.take_of_length_le hlen] at hs hc
      exact ⟨l, hs, fun x => ⟨hr x, clo_RE h0 hc⟩⟩
    | some u =>
      have hul : u ∈ l := List.mem_of_getElem? hg
      obtain ⟨a1, a2, a3, t, a4⟩ := ent4_RE hv he hn hr (hr u hul) 4 (Nat.le_refl _)
      have hk' : k < l.length := (List.getElem?_eq_some_iff.mp hg).1
      have tk : (ent4 l u 4).take (k + 1) = l.take k ++ [u] := by
        rw [a4, List.take_append_of_le_length (by omega), List.take_add_one, hg]
        rfl
      refine gat_RE hv he m (k + 1) (ent4 l u 4) (orb4 s u 4) (by omega) a1 a2 (by rw [a4]; exact List.mem_append_left _ h0) (fun w hw i hi => ?_) (by rw [a4, List.length_append]; omega) ?_
      · rw [tk] at hw
        rcases List.mem_append.mp hw with z | z
        · rw [a4]; exact List.mem_append_left _ (hc w z i hi)
        · rw [List.mem_singleton.mp z]; exact a3 i hi
      · rw [tk, mk_app, orb4_bits, hs]
        congr 1
        exact Int32.or_zero.symm
theorem gat_MK {v : Nat} (hv : v < 331776) (he : dsm v % 2 = 0) : ∃ W, gat 3840 0 [v] (nI 0) = MK W ∧ ∀ x, x ∈ W ↔ RE v x :=
  gat_RE hv he 3840 0 [v] (nI 0) rfl (List.pairwise_singleton ..) (fun x hx => by rw [List.mem_singleton.mp hx]; exact RE.base) (List.mem_singleton_self _) (fun u hu => absurd hu List.not_mem_nil) (Nat.zero_le _) rfl
def JS (v : Nat) (P : List Nat) (s : Sk) : Prop := (P ++ s.2).Nodup ∧ (∀ x ∈ P ++ s.2, RE v x) ∧ ∀ u, fhs s.1 u = decide (u ∈ P ++ s.2)
theorem ms1_JS {v x i : Nat} {P : List Nat} {s : Sk} (hx : RE v x) (hi : i < 4) (h : JS v P s) : JS v P (ms1 x i s) ∧ swp x (3 - i) ∈ P ++ (ms1 x i s).2 ∧ ∀ y ∈ P ++ s.2, y ∈ P ++ (ms1 x i s).2 := by
  obtain ⟨h1, h2, h3⟩ := h
  have hs := hx.step (3 - i) (by omega)
  unfold ms1
  by_cases q : fhs s.1 (swp x (3 - i)) = true
  · rw [if_pos q]
    have hm : swp x (3 - i) ∈ P ++ s.2 := by rw [h3] at q; exact of_decide_eq_true q
    refine ⟨⟨h1, h2, fun u => ?_⟩, hm, fun y hy => hy⟩
    rw [fhs_up, h3]
    by_cases z : u = swp x (3 - i)
    · subst z; rw [decide_eq_true hm]; simp
    · rw [decide_eq_false z, Bool.false_or]
  · rw [if_neg q]
    have hm : ¬ swp x (3 - i) ∈ P ++ s.2 := fun z => q (by rw [h3]; exact decide_eq_true z)
    have hp : ((swp x (3 - i)) :: (P ++ s.2)).Perm (P ++ (swp x (3 - i)) :: s.2) := List.perm_middle.symm
    refine ⟨⟨hp.nodup_iff.mp (List.nodup_cons.mpr ⟨hm, h1⟩), fun y hy => ?_, fun u => ?_⟩, List.mem_append_right _ (List.mem_cons_self ..), fun y hy => hp.mem_iff.mp (List.mem_cons_of_mem _ hy)⟩
    · rcases List.mem_cons.mp (hp.mem_iff.mpr hy) with rfl | z
      · exact hs
      · exact h2 y z
    · rw [fhs_up, h3, ← Bool.decide_or]
      apply decide_eq_decide.mpr
      rw [← hp.mem_iff, List.mem_cons]
theorem mseen_RE {v : Nat} (hv : v < 331776) (he : dsm v % 2 = 0) : ∀ (m : Nat) (P : List Nat) (s : Sk), JS v P s → v ∈ P ++ s.2 → (∀ u ∈ P, ∀ i, i < 4 → swp u i ∈ P ++ s.2) → 1296 ≤ m + P.length → ∃ res W, mseen m s (MK P) = some res ∧ res = MK W ∧ ∀ x, x ∈ W ↔ RE v x
  | m, P, (f, []), h, h0, hc, hm => by
    obtain ⟨h1, h2, h3⟩ := h
    rw [List.append_nil] at h0 h2
    refine ⟨MK P, P, mseen_e rfl, rfl, fun x => ⟨h2 x, clo_RE h0 (fun u hu i hi => ?_)⟩⟩
    have := hc u hu i hi
    rwa [List.append_nil] at this
  | 0, P, (f, x :: t), h, h0, hc, hm => by
    have := RE.len hv he h.1 h.2.1
    rw [List.length_append, List.length_cons] at this
    omega
  | m + 1, P, (f, x :: t), h, h0, hc, hm => by
    have hl := RE.len hv he h.1 h.2.1
    rw [List.length_append, List.length_cons] at hl
    have hp : (P ++ x :: t).Perm ((x :: P) ++ t) := List.perm_middle
    have hx : RE v x := h.2.1 x (List.mem_append_right _ (List.mem_cons_self ..))
    have j0 : JS v (x :: P) (f, t) := ⟨hp.nodup_iff.mp h.1, fun y hy => h.2.1 y (hp.mem_iff.mpr hy), fun u => (h.2.2 u).trans (decide_eq_decide.mpr hp.mem_iff)⟩
    obtain ⟨j1, k1, l1⟩ := ms1_JS hx (i := 0) (by omega) j0
    obtain ⟨j2, k2, l2⟩ := ms1_JS hx (i := 1) (by omega) j1
    obtain ⟨j3, k3, l3⟩ := ms1_JS hx (i := 2) (by omega) j2
    obtain ⟨j4, k4, l4⟩ := ms1_JS hx (i := 3) (by omega) j3
    have ih := mseen_RE hv he m (x :: P) (ms4 x (f, t)) j4 (l4 _ (l3 _ (l2 _ (l1 _ (hp.mem_iff.mp h0))))) (fun u hu i hi => ?_) (by rw [List.length_cons]; omega)
    · obtain ⟨res, W, e1, e2, e3⟩ := ih
      refine ⟨res, W, ?_, e2, e3⟩
      show (if t.length + 4 ≤ 331776 then mseen m (ms4 x (f, t)) (orM (MK P) x) else none) = some res
      rw [if_pos (by omega), ← e1]
      congr 1
      show MK P ||| bits4 x = bits4 x ||| MK P
      exact Int32.or_comm _ _
    · rcases List.mem_cons.mp hu with rfl | q
      · have hi' : i = 3 ∨ i = 2 ∨ i = 1 ∨ i = 0 := by omega
        rcases hi' with rfl | rfl | rfl | rfl
        · exact l4 _ (l3 _ (l2 _ k1))
        · exact l4 _ (l3 _ k2)
        · exact l4 _ k3
        · exact k4
      · exact l4 _ (l3 _ (l2 _ (l1 _ (hp.mem_iff.mp (hc u q i hi)))))
theorem mseen_MK {v : Nat} (hv : v < 331776) (he : dsm v % 2 = 0) : ∃ res W, mseen 1296 (fup (fun _ => nI 0) v, [v]) (nI 0) = some res ∧ res = MK W ∧ ∀ x, x ∈ W ↔ RE v x := by
  refine mseen_RE hv he 1296 [] (fup (fun _ => nI 0) v, [v]) ⟨List.pairwise_singleton .., fun x hx => ?_, fun u => ?_⟩ (List.mem_singleton_self _) (fun u hu => absurd hu List.not_mem_nil) (Nat.le_refl _)
  · rw [List.nil_append] at hx
    rw [List.mem_singleton.mp hx]; exact RE.base
  · rw [fhs_up, fhs_0, Bool.or_false]
    apply decide_eq_decide.mpr
    exact (List.mem_singleton).symm
