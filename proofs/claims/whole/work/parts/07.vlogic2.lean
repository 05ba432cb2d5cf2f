theorem Met.ofWF {l : Launch} {y : MethodName} {ws ws' : List Cond} {rm : Room} {Pc : Array Value → State → Prop} {Qc : Array Value → State → Outcome → State → Prop} {mc ms : Nat} {free : Addr → Prop} {cc : ByteArray} {maxL : Nat} {ret : Option FieldType}
    (hy : plainFor y = true) (hw : ws = Cond.code y cc maxL ret :: ws')
    (body : ∀ p e s m args below meth c s₁, BodyLoose p l y (headSpec ws rm) cc maxL ret e s m args below meth c s₁ → c.maxLocals = maxL → Pc args s →
      W p l e (headSpec ws rm).room s m args below meth c s.heap [] 0 0 (MQ below Qc args s mc ms free) (entryFrame m args maxL)) : Met l y ws rm Pc Qc mc ms free := by
  refine MetFree.of_bodySF (code := cc) (maxLocals := maxL) (ret := ret) hy ?_ ?_
  · intro args s m h hn
    obtain ⟨meth, c, h1, h2, h3, h4, h5, h6, -, -⟩ := Cond.code_spec hn (atoms_spec (ws := ws) h _ (by rw [hw]; exact List.mem_cons_self))
    exact ⟨meth, c, h1, h2, h3, h4, h5, h6⟩
  · intro p e s m args below meth c s₁ B hml hP _
    have hh0 : s₁.heap = s.heap := by rw [B.state]; rfl
    obtain ⟨t, a1, o, b1, b2, b3⟩ := body p e s m args below meth c s₁ B hml hP s₁ hh0 (Stand.of_body B)
    exact ⟨t, o, a1, b1, b2, ⟨b3.1, b3.2⟩⟩
theorem Con.ofF {G : GP} {y : MethodName} {cd : ByteArray} {mL : Nat} {rt : Option FieldType} {d mc ms : Nat} {av : List Value} {M : Mem} {n : Option Nat} {post : Option Value → Mem → Option Nat → Prop} (hp : plainFor y = true) (hlen : (lg_sl av).length ≤ mL)
    (k : ∀ X : CX, FX G X y.cls cd rt d mc ms → (xmeth X).name = y.name → V G X 0 0 (BQ G X post mc ms) M n 0 (entL av mL) []) : Con G y cd mL rt d mc ms av M n post := by
  refine Met.ofWF (cc := cd) (maxL := mL) (ret := rt) hp rfl ?_
  intro p e s m args below meth c s₁ B hml hv
  obtain ⟨rfl, hm, hK, hst, hns, hB⟩ := hv
  have hts := atoms_spec (ws := Cond.code y cd mL rt :: gtbl) B.pre
  have hown : s.vm.findClass y.cls = some m.cls := findClass_of_methodNamed B.named
  have hk := k (p, e, { frames := d, cells := mc, slots := ms, locals := 36 * d }, s, m, av.toArray, below, meth, c) ⟨B.exec, B.bytes, B.returns, B.notSynchronized, hown, fun w hw => hts w (List.mem_cons_of_mem _ hw), hK, hst, hns, hB, Nat.le_refl _, Nat.le_refl _, Nat.le_refl _, Nat.le_refl _⟩ (name_of_methodNamed B.named B.method).1
  rw [lg_entry_eq]
  have hl := lv_entry av (n := mL) hlen
  refine hk s.heap [] _ hm va_S.rf ?_ (by rw [entL_len _ _ hlen]; exact hml.symm)
  refine ⟨by rw [entL_len _ _ hlen]; exact hl.1, hl.2.1, fun q hq => ?_⟩
  obtain ⟨i, w⟩ := q
  have := entL_ln av mL 0 i w (mem_asl.mp hq)
  rw [Nat.zero_add] at this
  exact hl.2.2 _ this
def wl (M : Mem) (z : Nat) : va_W := (List.range z).filterMap fun b => (M b).map fun e => (b, e)
theorem wl_mem {M : Mem} {z b : Nat} {e : va_E} : (b, e) ∈ wl M z ↔ b < z ∧ M b = some e := by
  unfold wl
  rw [List.mem_filterMap]
  constructor
  · rintro ⟨c, hc, he⟩
    cases hm : M c with
    | none => rw [hm] at he; cases he
    | some w => rw [hm] at he; cases he; exact ⟨List.mem_range.mp hc, hm⟩
  · intro ⟨h1, h2⟩
    exact ⟨b, List.mem_range.mpr h1, by rw [h2]; rfl⟩
theorem wl_pw (M : Mem) (z : Nat) : (wl M z).Pairwise (fun p q => p.1 < q.1) := by
  unfold wl
  rw [List.pairwise_filterMap]
  refine List.Pairwise.imp ?_ List.pairwise_lt_range
  intro a b hab x hx y hy
  cases hm : M a with
  | none => rw [hm] at hx; cases hx
  | some w =>
    cases hn : M b with
    | none => rw [hn] at hy; cases hy
    | some w2 =>
      rw [hm] at hx
      rw [hn] at hy
      cases hx
      cases hy
      exact hab
theorem wl_D {G : GP} {M : Mem} {n : Option Nat} {H : Heap} (h : mem G M n H) : va_D (fun q => gB G ≤ q) (wl M H.size) := by
  have hp := wl_pw M H.size
  rw [List.pairwise_iff_getElem] at hp
  refine ⟨fun i j p q hi hj hpq => ?_, fun k q hk => ?_⟩
  · obtain ⟨li, ei⟩ := List.getElem?_eq_some_iff.mp hi
    obtain ⟨lj, ej⟩ := List.getElem?_eq_some_iff.mp hj
    rcases Nat.lt_trichotomy i j with q1 | q1 | q1
    · have := hp i j li lj q1
      rw [ei, ej] at this
      omega
    · exact q1
    · have := hp j i lj li q1
      rw [ei, ej] at this
      omega
  · obtain ⟨b, e⟩ := q
    exact (h.2 b e (wl_mem.mp (List.mem_of_getElem? hk)).2).1
theorem wl_P {G : GP} {M : Mem} {n : Option Nat} {H : Heap} (h : mem G M n H) : va_P (gD G) vwCl (wl M H.size) H := fun k q hk => by
  obtain ⟨b, e⟩ := q
  exact (h.2 b e (wl_mem.mp (List.mem_of_getElem? hk)).2).2
theorem wl_back {G : GP} {M : Mem} {n : Option Nat} {H H1 : Heap} {a q1 : Nat} {e0 e : va_E} (h : mem G M n H) (ha : M a = some e0) (hq : (wl M H.size)[q1]? = some (a, e0)) (hP : va_P (gD G) vwCl ((wl M H.size).set q1 (a, e)) H1) : mem G (mset M a e) none H1 := by
  refine ⟨fun k hk => (by cases hk), fun b e2 hb => ?_⟩
  have hl := (List.getElem?_eq_some_iff.mp hq).1
  by_cases hba : b = a
  · subst hba
    rw [mset_eq] at hb
    cases hb
    exact ⟨(h.2 _ _ ha).1, hP q1 _ (List.getElem?_set_self hl)⟩
  · rw [mset_ne _ _ hba] at hb
    obtain ⟨k, hk⟩ := List.getElem?_of_mem (wl_mem.mpr ⟨(h.2 _ _ hb).2.lt, hb⟩)
    refine ⟨(h.2 _ _ hb).1, hP k _ ?_⟩
    rw [List.getElem?_set_ne]
    · exact hk
    · intro e
      subst e
      rw [hq] at hk
      cases hk
      exact hba rfl
theorem nI_inc (a : Nat) : nI a + Int32.ofInt 1 = nI (a + 1) := by rw [show Int32.ofInt 1 = 1 by decide]; exact nI_1 a
theorem nI_dec (a : Nat) : nI (a + 1) + Int32.ofInt (-1) = nI a := by rw [show Int32.ofInt (-1) = -1 by decide]; exact pk_m1 a
section VV2
variable {G : GP} {X : CX} {cells slots : Nat} {Q : State → Prop} {M : Mem} {n : Option Nat} {pc : Nat} {L : List (Option Value)} {st : List Value} {own : String} {cc : ByteArray} {ret : Option FieldType} {d rc rs : Nat}
theorem V_acopy (F : FX G X own cc ret d rc rs) {i a0 a n0 n1 : Nat} {f g : Nat → Int64} {s1 s2 s3 : Int32} (hw : Cond.methodLink own i arraycopyName ∈ gtbl) (hdg : decode cc pc = .ok (.invokestatic i, 3)) (h0 : M a0 = some (eJ (gT G) n0 f)) (h1 : M a = some (eJ (gT G) n1 g)) (sp dp m : Nat) (e1 : s1 = nI sp) (e2 : s2 = nI dp) (e3 : s3 = nI m) (h4 : sp + m ≤ n0) (h5 : dp + m ≤ n1) (h6 : n0 < 2 ^ 31) (h7 : n1 < 2 ^ 31) (hd : 1 ≤ d) (hW : (st.map fun v => v.category).sum ≤ 8)
    (k : V G X cells slots Q (mset M a (eJ (gT G) n1 (va_cpy f g sp dp m))) none (pc + 3) L st) : V G X cells slots Q M none pc L (.int s3 :: .int s2 :: .ref a :: .int s1 :: .ref a0 :: st) := fun H locs ls hm hS hL hz => by
  subst e1 e2 e3
  have f1 := F.d.1
  have f2 := F.d.2.1
  obtain ⟨q0, hq0⟩ := List.getElem?_of_mem (wl_mem.mpr ⟨(hm.2 _ _ h0).2.lt, h0⟩)
  obtain ⟨q1, hq1⟩ := List.getElem?_of_mem (wl_mem.mpr ⟨(hm.2 _ _ h1).2.lt, h1⟩)
  have c1 : (nI sp).toNatClampNeg = sp := nI_clamp (by omega)
  have c2 : (nI dp).toNatClampNeg = dp := nI_clamp (by omega)
  have c3 : (nI m).toNatClampNeg = m := nI_clamp (by omega)
  refine va_copyl F.x F.b (hz.symm.trans hL.1.symm) F.o (F.t _ hw) (F.t _ w_acN) (F.t _ w_acS) (F.t _ w_acI) F.K (wl_P hm) (wl_D hm) hS q0 q1 1 1 (ty := .long) hq0 hq1 rfl rfl rfl (nI_pos (by omega)) (nI_pos (by omega)) (nI_pos (by omega)) (by rw [c1, c3]; exact h4) (by rw [c2, c3]; exact h5) (fun _ _ => rfl) (by omega) ?_ hdg fun H1 locs1 hP1 _ hS1 => ?_
  · have : nativeFrameWords "java/lang/System" "arraycopy" 5 + 11 ≤ 28 := by decide +kernel
    omega
  · rw [c1, c2, c3] at hP1
    exact k H1 locs1 ls (wl_back hm h1 hq1 hP1) hS1 hL hz
def mrow (M : Mem) (h N : Nat) (eo z : va_E) : Mem := fun b => if b = h then some eo else if h + 1 ≤ b ∧ b < h + 1 + N then some z else M b
theorem vr_outer (c : ClassId) (N h0 : Nat) : ∀ i : Nat, Jvm.Free.Multi.outerC c N h0 i = arrV c N (fun j => va_rf (if j < i then some (h0 + 1 + j) else none))
  | 0 => by
    show ({ cls := c, slots := Array.replicate N .null, vm := .none } : Cell) = _
    rw [arrV_new]
    refine congrArg (arrV c N) (funext fun j => ?_)
    simp [va_rf]
  | i + 1 => by
    show (Jvm.Free.Multi.outerC c N h0 i).setSlot i (.ref (h0 + 1 + i)) = _
    rw [vr_outer c N h0 i, arrV_store]
    refine congrArg (arrV c N) (funext fun j => ?_)
    by_cases e : j = i
    · subst e
      simp [updV, va_rf]
    · by_cases h : j < i
      · simp [updV, e, h, Nat.lt_succ_of_lt h]
      · simp [updV, e, h, show ¬ j < i + 1 by omega]
theorem V_mna (F : FX G X own cc ret d rc rs) {i h N K : Nat} {s1 s2 : Int32} (hw : Cond.classLink own i ("[" ++ (FieldType.array .long).toString) ∈ gtbl) (hdg : decode cc pc = .ok (.multianewarray i 2, 4)) (e1 : s1 = nI N) (e2 : s2 = nI K) (hN : N < 100000) (hK : K < 100000) (hc1 : cells + (1 + N) ≤ rc) (hc2 : slots + (N + N * K) ≤ rs)
    (k : V G X (cells + 1 + N) (slots + N + N * K) Q (mrow M h N (eQ (gT G) 5 N (fun j => if j < N then some (h + 1 + j) else none)) (eJ (gT G) K (fun _ => 0))) (some (h + 1 + N)) (pc + 4) L (.ref h :: st)) : V G X cells slots Q M (some h) pc L (.int s2 :: .int s1 :: st) := fun H locs ls hm hS hL hz => by
  subst e1 e2
  have hsz : H.size = h := hm.1 h rfl
  have cN : (nI N).toNatClampNeg = N := nI_clamp (by omega)
  have cK : (nI K).toNatClampNeg = K := nI_clamp (by omega)
  intro T hT Xs
  obtain ⟨vm₁, cA, comp, -, fA, fC, hO, -, X', step⟩ := Xs.multianewarray2F F.x F.o (F.t _ hw) (va_AL.use F.n.2.2.2.2) (F.t _ w_aJ) (g := F0 (xm X) pc ls (.int (nI K) :: .int (nI N) :: st)) rfl (by rw [F.b]; exact hdg) rfl (nI_pos (by omega)) (nI_pos (by omega)) (by rw [cN]; omega) (by rw [cK]; show K * 8 ≤ _; omega) (by rw [cK]; omega) rfl rfl (by rw [cN]; exact Nat.le_trans hc1 F.d.2.2.1) (by rw [cN, cK]; exact Nat.le_trans hc2 F.d.2.2.2)
  rw [cN, cK] at X' step
  have eJc : gT G 1 = comp := Option.some.inj (((F.K.2 1 _ rfl).2 : (xs X).vm.findClass ("[" ++ FieldType.long.toString) = some (gT G 1)).symm.trans fC)
  have eAc : gT G 5 = cA := Option.some.inj (((F.K.2 5 _ rfl).2 : (xs X).vm.findClass ("[" ++ (FieldType.array .long).toString) = some (gT G 5)).symm.trans fA)
  subst eJc eAc
  generalize hF : Jvm.Free.Multi.fill (T.setVm vm₁) (gT G 5) (gT G 1) N K (defaultValue .long) N = FS at X' step
  have hTh : (T.setVm vm₁).heap = H := hT
  obtain ⟨f1, f2, -, -⟩ := Jvm.Free.Multi.fill_facts (T.setVm vm₁) (gT G 5) (gT G 1) N K (defaultValue .long) N
  rw [hF, hTh] at f1 f2
  have hold : ∀ x : Nat, x < H.size → FS.heap[x]? = H[x]? := fun x hx => by
    have := Jvm.Free.Multi.fill_old (T.setVm vm₁) (gT G 5) (gT G 1) N K (defaultValue .long) (a := x) (by rw [hTh]; exact hx) N
    rw [hF, hTh] at this
    exact this
  have hz0 : Jvm.Free.Multi.innerC (gT G 1) K (defaultValue .long) = vp_cell (gT G 1) (K, .inr (.inl (fun _ => 0))) := by
    rw [vp_cell_l]
    exact arrV_new _ _ _
  have hrow : ∀ j : Nat, j < N → FS.heap[H.size + 1 + j]? = some (vp_cell (gT G 1) (K, .inr (.inl (fun _ => 0)))) := fun j hj => by
    have := Jvm.Free.Multi.fill_inner (T.setVm vm₁) (gT G 5) (gT G 1) N K (defaultValue .long) N j hj
    rw [hF, hTh, hz0] at this
    exact this
  have hout : Jvm.Free.Multi.outerC (gT G 5) N H.size N = vp_cell (gT G 5) (N, .inr (.inr (.inr (.inr (fun i => if i < N then some (H.size + 1 + i) else none))))) := by
    rw [vp_cell_q]
    exact vr_outer (gT G 5) N H.size N
  rw [hout] at f2
  have hB := F.B
  have hS1 := hS.1
  obtain ⟨t, a1, b1⟩ := k FS.heap locs ls ⟨fun q hq => (by cases hq; rw [f1, hsz] <;> omega), fun b e2 hb => by
    unfold mrow at hb
    by_cases q1 : b = h
    · rw [if_pos q1] at hb
      cases hb
      refine ⟨by omega, ?_⟩
      show FS.heap[b]? = some _
      rw [q1, ← hsz]
      exact f2
    · rw [if_neg q1] at hb
      by_cases q2 : h + 1 ≤ b ∧ b < h + 1 + N
      · rw [if_pos q2] at hb
        cases hb
        refine ⟨by omega, ?_⟩
        show FS.heap[b]? = some _
        have := hrow (b - (h + 1)) (by omega)
        rw [show H.size + 1 + (b - (h + 1)) = b by omega] at this
        exact this
      · rw [if_neg q2] at hb
        exact ⟨(hm.2 _ _ hb).1, (hm.2 _ _ hb).2.kept (hold b (hm.2 _ _ hb).2.lt)⟩⟩ ⟨by rw [f1]; omega, fun x q1 q2 => (hold x (Nat.lt_of_lt_of_le q1 hS.1)).trans (hS.2.1 x q1 q2), hS.2.2⟩ hL hz FS rfl X'
  refine ⟨t, step t ?_, b1⟩
  have e : T.heap.size = h := by rw [hT]; exact hsz
  rw [e]
  exact a1
theorem V_ialdN (F : FX G X own cc ret d rc rs) {a N : Nat} {f : Nat → Int32} {i : Int32} (hdg : decode cc pc = .ok (.iaload, 1)) (hM : M a = some (eI (gT G) N f)) (j : Nat) (hi : i = nI j) (hj : j < N) (hN : N < 2 ^ 31) (k : V G X cells slots Q M n (pc + 1) L (.int (f j) :: st)) : V G X cells slots Q M n pc L (.int i :: .ref a :: st) := by
  subst hi
  refine V_iald F hdg hM (vp_in_nI hj hN) ?_
  rw [nI_clamp (by omega)]
  exact k
theorem V_laldN (F : FX G X own cc ret d rc rs) {a N : Nat} {f : Nat → Int64} {i : Int32} (hdg : decode cc pc = .ok (.laload, 1)) (hM : M a = some (eJ (gT G) N f)) (j : Nat) (hi : i = nI j) (hj : j < N) (hN : N < 2 ^ 31) (k : V G X cells slots Q M n (pc + 1) L (.long (f j) :: st)) : V G X cells slots Q M n pc L (.int i :: .ref a :: st) := by
  subst hi
  refine V_lald F hdg hM (vp_in_nI hj hN) ?_
  rw [nI_clamp (by omega)]
  exact k
theorem V_aaldN (F : FX G X own cc ret d rc rs) {a N x : Nat} (t : Nat) {ty : FieldType} {f : Nat → Option Nat} {i : Int32} (hdg : decode cc pc = .ok (.aaload, 1)) (hM : M a = some (eQ (gT G) t N f)) (ht : (tysOf (gT G))[t]? = some (gT G t, ty)) (hty : ty.isReference = true) (j : Nat) (hi : i = nI j) (hj : j < N) (hN : N < 2 ^ 31) (hx : f j = some x) (k : V G X cells slots Q M n (pc + 1) L (.ref x :: st)) : V G X cells slots Q M n pc L (.int i :: .ref a :: st) := by
  subst hi
  exact V_aald F t hdg hM ht hty (vp_in_nI hj hN) (by rw [nI_clamp (by omega)]; exact hx) k
theorem V_iastN (F : FX G X own cc ret d rc rs) {a N : Nat} {f : Nat → Int32} {i x : Int32} (hdg : decode cc pc = .ok (.iastore, 1)) (hM : M a = some (eI (gT G) N f)) (j : Nat) (hi : i = nI j) (hj : j < N) (hN : N < 2 ^ 31) (k : V G X cells slots Q (mset M a (eI (gT G) N (va_up f j x))) n (pc + 1) L st) : V G X cells slots Q M n pc L (.int x :: .int i :: .ref a :: st) := by
  subst hi
  refine V_iast F hdg hM (vp_in_nI hj hN) ?_
  rw [nI_clamp (by omega)]
  exact k
theorem V_lastN (F : FX G X own cc ret d rc rs) {a N : Nat} {f : Nat → Int64} {i : Int32} {x : Int64} (hdg : decode cc pc = .ok (.lastore, 1)) (hM : M a = some (eJ (gT G) N f)) (j : Nat) (hi : i = nI j) (hj : j < N) (hN : N < 2 ^ 31) (k : V G X cells slots Q (mset M a (eJ (gT G) N (va_up f j x))) n (pc + 1) L st) : V G X cells slots Q M n pc L (.long x :: .int i :: .ref a :: st) := by
  subst hi
  refine V_last F hdg hM (vp_in_nI hj hN) ?_
  rw [nI_clamp (by omega)]
  exact k
theorem V_aastN (F : FX G X own cc ret d rc rs) {a N x ci : Nat} (t : Nat) {r : vw_C} {fs : List Value} {f : Nat → Option Nat} {i : Int32} (hdg : decode cc pc = .ok (.aastore, 1)) (hM : M a = some (eQ (gT G) t N f)) (ht : (tysOf (gT G))[t]? = some (gT G t, .object r.1)) (hx : M x = some (eO ci fs)) (hr : vwCl[ci]? = some r) (j : Nat) (hi : i = nI j) (hj : j < N) (hN : N < 2 ^ 31) (k : V G X cells slots Q (mset M a (eQ (gT G) t N (va_up f j (some x)))) n (pc + 1) L st) : V G X cells slots Q M n pc L (.ref x :: .int i :: .ref a :: st) := by
  subst hi
  refine V_aast F t hdg hM ht hx hr (vp_in_nI hj hN) ?_
  rw [nI_clamp (by omega)]
  exact k
theorem V_taldN (F : FX G X own cc ret d rc rs) {i : Int32} (hdg : decode cc pc = .ok (.iaload, 1)) (j : Nat) (hi : i = nI j) (hj : j < 4) (k : V G X cells slots Q M n (pc + 1) L (.int (wt j) :: st)) : V G X cells slots Q M n pc L (.int i :: .ref (gw G) :: st) := by
  subst hi
  refine V_tald F hdg (vp_in_nI hj (by omega)) ?_
  rw [nI_clamp (by omega)]
  exact k
theorem V_ivR (F : FX G X own cc ret d rc rs) {i mL na dc a ci N : Nat} {y : MethodName} {cd : ByteArray} {rt : Option FieldType} {T : u_T} {fs As st0 : List Value} {v : Option Value} {M' : Mem} {n' : Option Nat} (w : IV own i y cd mL rt na) (hdg : decode cc pc = .ok (.invokevirtual i, 3)) (hc : Con G y cd mL rt dc 0 0 (.ref a :: As) M n (R1 v M' n')) (hM : M a = some (eO ci fs)) (hci : vwCl[ci]? = some (y.cls, T, N)) (hst : st0 = As.reverse ++ .ref a :: st) (hn : As.length = na) (hk : ((dc + 1).ble d && mL.ble 17 && cells.ble rc && slots.ble rs && ((st.map Value.category).sum).ble 8) = true)
    (kk : V G X cells slots Q M' n' (pc + 3) L (v.toList ++ st)) : V G X cells slots Q M n pc L st0 := by
  simp only [Bool.and_eq_true] at hk
  obtain ⟨⟨⟨⟨k1, k2⟩, k3⟩, k4⟩, k5⟩ := hk
  exact V_iv F w hdg hc hM hci hst hn (Nat.le_of_ble_eq_true k1) (Nat.le_of_ble_eq_true k2) (Nat.le_of_ble_eq_true k3) (Nat.le_of_ble_eq_true k4) (Nat.le_of_ble_eq_true k5) (fun v2 M2 n2 h => by obtain ⟨rfl, rfl, rfl⟩ := h; exact kk)
theorem V_isR (F : FX G X own cc ret d rc rs) {i mL na dc : Nat} {y : MethodName} {cd : ByteArray} {rt : Option FieldType} {As st0 : List Value} {v : Option Value} {M' : Mem} {n' : Option Nat} (w : IS own i y cd mL rt na) (hdg : decode cc pc = .ok (.invokestatic i, 3)) (hc : Con G y cd mL rt dc 0 0 As M n (R1 v M' n')) (hst : st0 = As.reverse ++ st) (hn : As.length = na) (hk : ((dc + 1).ble d && mL.ble 17 && cells.ble rc && slots.ble rs && ((st.map Value.category).sum).ble 8) = true)
    (kk : V G X cells slots Q M' n' (pc + 3) L (v.toList ++ st)) : V G X cells slots Q M n pc L st0 := by
  simp only [Bool.and_eq_true] at hk
  obtain ⟨⟨⟨⟨k1, k2⟩, k3⟩, k4⟩, k5⟩ := hk
  exact V_is F w hdg hc hst hn (Nat.le_of_ble_eq_true k1) (Nat.le_of_ble_eq_true k2) (Nat.le_of_ble_eq_true k3) (Nat.le_of_ble_eq_true k4) (Nat.le_of_ble_eq_true k5) (fun v2 M2 n2 h => by obtain ⟨rfl, rfl, rfl⟩ := h; exact kk)
theorem V_ivP (F : FX G X own cc ret d rc rs) {i mL na dc a ci N : Nat} {y : MethodName} {cd : ByteArray} {rt : Option FieldType} {T : u_T} {fs As st0 : List Value} {post : Option Value → Mem → Option Nat → Prop} (w : IV own i y cd mL rt na) (hdg : decode cc pc = .ok (.invokevirtual i, 3)) (hc : Con G y cd mL rt dc 0 0 (.ref a :: As) M n post) (hM : M a = some (eO ci fs)) (hci : vwCl[ci]? = some (y.cls, T, N)) (hst : st0 = As.reverse ++ .ref a :: st) (hn : As.length = na) (hk : ((dc + 1).ble d && mL.ble 17 && cells.ble rc && slots.ble rs && ((st.map Value.category).sum).ble 8) = true)
    (kk : ∀ v M' n', post v M' n' → V G X cells slots Q M' n' (pc + 3) L (v.toList ++ st)) : V G X cells slots Q M n pc L st0 := by
  simp only [Bool.and_eq_true] at hk
  obtain ⟨⟨⟨⟨k1, k2⟩, k3⟩, k4⟩, k5⟩ := hk
  exact V_iv F w hdg hc hM hci hst hn (Nat.le_of_ble_eq_true k1) (Nat.le_of_ble_eq_true k2) (Nat.le_of_ble_eq_true k3) (Nat.le_of_ble_eq_true k4) (Nat.le_of_ble_eq_true k5) kk
theorem V_iinc1 (F : FX G X own cc ret d rc rs) {j k : Nat} (hdg : decode cc pc = .ok (.iinc j 1, 3)) (hl : ln L j = some (.int (nI k))) (kk : V G X cells slots Q M n (pc + 3) (st1 L j (.int (nI (k + 1)))) st) : V G X cells slots Q M n pc L st := V_iinc F hdg hl (by rw [nI_inc]; exact kk)
theorem V_iincm (F : FX G X own cc ret d rc rs) {j k : Nat} (hdg : decode cc pc = .ok (.iinc j (-1), 3)) (hl : ln L j = some (.int (nI (k + 1)))) (kk : V G X cells slots Q M n (pc + 3) (st1 L j (.int (nI k))) st) : V G X cells slots Q M n pc L st := V_iinc F hdg hl (by rw [nI_dec]; exact kk)
theorem V_drop (i : Nat) (kk : V G X cells slots Q M n pc (lset L i none) st) : V G X cells slots Q M n pc L st := fun H locs ls hm hS hL hz => kk H locs ls hm hS (by
  refine ⟨by rw [lset_len]; exact hL.1, hL.2.1, fun q hq => ?_⟩
  obtain ⟨j, w⟩ := q
  rcases lset_ln _ _ _ _ _ (mem_asl.mp hq) with ⟨_, b⟩ | ⟨_, b⟩
  · cases b
  · exact hL.get b) (by rw [lset_len]; exact hz)
/-- two maps that the machine can't tell apart -/
theorem V_mem {M1 : Mem} (h : ∀ (H : Heap), mem G M n H → mem G M1 n H) (k : V G X cells slots Q M1 n pc L st) : V G X cells slots Q M n pc L st := fun H locs ls hm hS hL hz => k H locs ls (h H hm) hS hL hz
end VV2
theorem mset_mset (M : Mem) (a : Nat) (e e2 : va_E) : mset (mset M a e) a e2 = mset M a e2 := by
  funext b
  by_cases h : b = a <;> simp [mset, h]
theorem mset_self {M : Mem} {a : Nat} {e : va_E} (h : M a = some e) : mset M a e = M := by
  funext b
  by_cases hb : b = a
  · subst hb; rw [mset_eq]; exact h.symm
  · rw [mset_ne _ _ hb]
theorem mset_comm (M : Mem) {a b : Nat} (e e2 : va_E) (h : a ≠ b) : mset (mset M a e) b e2 = mset (mset M b e2) a e := by
  funext c
  by_cases h1 : c = a
  · subst h1; rw [mset_ne _ _ h, mset_eq, mset_eq]
  · by_cases h2 : c = b
    · subst h2; rw [mset_eq, mset_ne _ _ h1, mset_eq]
    · rw [mset_ne _ _ h2, mset_ne _ _ h1, mset_ne _ _ h1, mset_ne _ _ h2]
theorem ne_oj {M : Mem} {a r ci : Nat} {fs : List Value} {x : ClassId × vp_A} (h : M a = some (eO ci fs)) (h1 : M r = some (.inl x)) : a ≠ r := fun e => by
  subst e
  rw [h] at h1
  cases h1
theorem arrV_congr {α : Type} (cA : ClassId) (N : Nat) (mk : α → Value) {f g : Nat → α} (h : ∀ k, k < N → f k = g k) : arrV cA N (fun j => mk (f j)) = arrV cA N (fun j => mk (g j)) := by
  have : (Array.ofFn (n := N) fun j => mk (f j.val)) = (Array.ofFn (n := N) fun j => mk (g j.val)) := by
    congr 1
    funext j
    rw [h j.val j.isLt]
  show ({ cls := cA, slots := Array.ofFn (n := N) fun j => mk (f j.val), vm := .none } : Cell) = _
  rw [this]
  rfl
theorem mem_cell {G : GP} {M : Mem} {n : Option Nat} {H : Heap} {a : Nat} {x y : ClassId × vp_A} (h : mem G (mset M a (.inl x)) n H) (e : vp_cell x.1 x.2 = vp_cell y.1 y.2) : mem G (mset M a (.inl y)) n H := by
  refine ⟨h.1, fun b e2 hb => ?_⟩
  by_cases hba : b = a
  · subst hba
    rw [mset_eq] at hb
    cases hb
    have := h.2 b _ (mset_eq M b _)
    refine ⟨this.1, ?_⟩
    have h2 : H[b]? = some (vp_cell x.1 x.2) := this.2
    show H[b]? = some (vp_cell y.1 y.2)
    rw [h2, e]
  · rw [mset_ne _ _ hba] at hb
    exact h.2 b e2 (by rw [mset_ne _ _ hba]; exact hb)
theorem mem_J {G : GP} {M : Mem} {n : Option Nat} {H : Heap} {a N : Nat} {f g : Nat → Int64} (e : ∀ k, k < N → f k = g k) (h : mem G (mset M a (eJ (gT G) N f)) n H) : mem G (mset M a (eJ (gT G) N g)) n H := mem_cell h (by rw [vp_cell_l, vp_cell_l]; exact arrV_congr _ _ _ e)
theorem mem_I {G : GP} {M : Mem} {n : Option Nat} {H : Heap} {a N : Nat} {f g : Nat → Int32} (e : ∀ k, k < N → f k = g k) (h : mem G (mset M a (eI (gT G) N f)) n H) : mem G (mset M a (eI (gT G) N g)) n H := mem_cell h (by rw [vp_cell_i, vp_cell_i]; exact arrV_congr _ _ _ e)
theorem mem_Q {G : GP} {M : Mem} {n : Option Nat} {H : Heap} {a N t : Nat} {f g : Nat → Option Nat} (e : ∀ k, k < N → f k = g k) (h : mem G (mset M a (eQ (gT G) t N f)) n H) : mem G (mset M a (eQ (gT G) t N g)) n H := mem_cell h (by rw [vp_cell_q, vp_cell_q]; exact arrV_congr _ _ _ e)
def bI (b : Bool) : Int32 := if b then 1 else 0
theorem bI_0 {b : Bool} : bI b = 0 ↔ b = false := by cases b <;> decide
theorem bI_n {b : Bool} : ¬ bI b = 0 ↔ b = true := by cases b <;> decide
theorem rt {b : Bool} (h : b = true) : some (Value.int (nI 1)) = some (.int (bI b)) := by subst h; rfl
theorem rf {b : Bool} (h : b = false) : some (Value.int (nI 0)) = some (.int (bI b)) := by subst h; rfl
theorem bI_z (b : Bool) : narrow .boolean (.int (bI b)) = .int (bI b) := by cases b <;> rfl
theorem ki_m1 : Int32.ofInt (-1) = (-1) := by decide +kernel
theorem ki_0 : Int32.ofInt (0) = nI 0 := by decide +kernel
theorem ki_1 : Int32.ofInt (1) = nI 1 := by decide +kernel
theorem ki_2 : Int32.ofInt (2) = nI 2 := by decide +kernel
theorem ki_3 : Int32.ofInt (3) = nI 3 := by decide +kernel
theorem ki_4 : Int32.ofInt (4) = nI 4 := by decide +kernel
theorem ki_5 : Int32.ofInt (5) = nI 5 := by decide +kernel
theorem kb_m100 : (Int8.ofInt (-100)).toInt32 = (-100) := by decide +kernel
theorem kb_m20 : (Int8.ofInt (-20)).toInt32 = (-20) := by decide +kernel
theorem kb_m19 : (Int8.ofInt (-19)).toInt32 = (-19) := by decide +kernel
theorem kb_m18 : (Int8.ofInt (-18)).toInt32 = (-18) := by decide +kernel
theorem kb_m17 : (Int8.ofInt (-17)).toInt32 = (-17) := by decide +kernel
theorem kb_m16 : (Int8.ofInt (-16)).toInt32 = (-16) := by decide +kernel
theorem kb_m15 : (Int8.ofInt (-15)).toInt32 = (-15) := by decide +kernel
theorem kb_m14 : (Int8.ofInt (-14)).toInt32 = (-14) := by decide +kernel
theorem kb_m13 : (Int8.ofInt (-13)).toInt32 = (-13) := by decide +kernel
theorem kb_m12 : (Int8.ofInt (-12)).toInt32 = (-12) := by decide +kernel
theorem kb_m11 : (Int8.ofInt (-11)).toInt32 = (-11) := by decide +kernel
theorem kb_m4 : (Int8.ofInt (-4)).toInt32 = (-4) := by decide +kernel
theorem kb_m3 : (Int8.ofInt (-3)).toInt32 = (-3) := by decide +kernel
theorem kb_m2 : (Int8.ofInt (-2)).toInt32 = (-2) := by decide +kernel
theorem kb_6 : (Int8.ofInt (6)).toInt32 = nI 6 := by decide +kernel
theorem kb_9 : (Int8.ofInt (9)).toInt32 = nI 9 := by decide +kernel
theorem kb_12 : (Int8.ofInt (12)).toInt32 = nI 12 := by decide +kernel
theorem kb_24 : (Int8.ofInt (24)).toInt32 = nI 24 := by decide +kernel
theorem kb_31 : (Int8.ofInt (31)).toInt32 = nI 31 := by decide +kernel
theorem kb_32 : (Int8.ofInt (32)).toInt32 = nI 32 := by decide +kernel
theorem kb_60 : (Int8.ofInt (60)).toInt32 = nI 60 := by decide +kernel
theorem kb_100 : (Int8.ofInt (100)).toInt32 = nI 100 := by decide +kernel
theorem ks_144 : (Int16.ofInt (144)).toInt32 = nI 144 := by decide +kernel
theorem ks_240 : (Int16.ofInt (240)).toInt32 = nI 240 := by decide +kernel
theorem ks_241 : (Int16.ofInt (241)).toInt32 = nI 241 := by decide +kernel
theorem ks_576 : (Int16.ofInt (576)).toInt32 = nI 576 := by decide +kernel
theorem ks_720 : (Int16.ofInt (720)).toInt32 = nI 720 := by decide +kernel
theorem ks_732 : (Int16.ofInt (732)).toInt32 = nI 732 := by decide +kernel
theorem ks_1000 : (Int16.ofInt (1000)).toInt32 = nI 1000 := by decide +kernel
theorem ks_2000 : (Int16.ofInt (2000)).toInt32 = nI 2000 := by decide +kernel
theorem ks_3840 : (Int16.ofInt (3840)).toInt32 = nI 3840 := by decide +kernel
theorem ks_10368 : (Int16.ofInt (10368)).toInt32 = nI 10368 := by decide +kernel
theorem ks_13824 : (Int16.ofInt (13824)).toInt32 = nI 13824 := by decide +kernel
theorem ks_24000 : (Int16.ofInt (24000)).toInt32 = nI 24000 := by decide +kernel
theorem lcmp_gt (x y : Int64) : 0 < lg_cmp x y ↔ y < x := by
  unfold lg_cmp
  by_cases h : x > y
  · simp [h]
  · by_cases h2 : x = y
    · simp [h2]
    · simp [h, h2]
theorem lcmp_eq (x y : Int64) : lg_cmp x y = 0 ↔ x = y := by
  unfold lg_cmp
  by_cases h : x > y
  · rw [if_pos h]
    refine ⟨fun q => absurd q (by decide), fun q => ?_⟩
    subst q
    exact absurd h (by simp)
  · rw [if_neg h]
    by_cases h2 : x = y
    · simp [h2]
    · simp [h2]
theorem lcmp_lt (x y : Int64) : lg_cmp x y < 0 ↔ x < y := by
  unfold lg_cmp
  by_cases h : x > y
  · rw [if_pos h]
    refine ⟨fun q => absurd q (by decide), fun q => ?_⟩
    simp only [gt_iff_lt, Int64.lt_iff_toInt_lt] at h q
    omega
  · rw [if_neg h]
    by_cases h2 : x = y
    · simp [h2]
    · rw [if_neg h2]
      refine ⟨fun _ => ?_, fun _ => by decide⟩
      have h3 : ¬ x.toInt = y.toInt := fun q => h2 (Int64.toInt_inj.mp q)
      simp only [gt_iff_lt, Int64.lt_iff_toInt_lt] at h ⊢
      omega
theorem lcmp_le (x y : Int64) : lg_cmp x y ≤ 0 ↔ x ≤ y := by
  have h := lcmp_gt x y
  rw [Int64.le_iff_toInt_le]
  rw [Int64.lt_iff_toInt_lt] at h
  rw [Int32.le_iff_toInt_le]
  rw [Int32.lt_iff_toInt_lt] at h
  omega
theorem lcmp_ge (x y : Int64) : 0 ≤ lg_cmp x y ↔ y ≤ x := lg_cmp_ge x y

