/-! THE CLAIM OUT OF ONE WALK OF THE LAW'S BODY. Your part is whole_start (and what it stands on); all else here is the same for every law, but numbers. -/
def R_law : String := "TouchingCoinsLaw"
def lw_P (b : Addr) (xs : List Int32) (args : Array Value) (s : State) : Prop := args = #[.ref b] ∧ s.IntsAt b xs ∧ xs.length ≤ 3072 ∧ (Jvm.Cond.and given_1 narrow_1).before args s = true
def lw_Q (_ : Array Value) (s : State) (o : Outcome) (t : State) : Prop := o = .returned (some (.int 1)) ∧ Framed s o t [] 600000 7302249
def lw_Z (below : List Frame) (a : Array Value) (s : State) : State → Prop := fun t => ∃ o, t.status = .running ∧ Ended t below o ∧ lw_Q a s o t
/-- the law's own end, with 1 on the stack, nothing written that was there before, its room as the claim has it -/
theorem lw_ret {p : Program} {l : Launch} {e : Env} {s : State} {m : MethodId} {below : List Frame} {meth : Method} {c : Code} {b : Nat} (hx : p.tables.exec = Jvm.exec) (hb : c.code = code) (hr : meth.sig.returnType = ret) (hlocks : meth.locks = false) {pc : Nat} {H : Heap} {ls : Array Slot} (hdg : decode code pc = .ok (.ireturn, 1)) : W p l e room_1 s m #[Value.ref b] below meth c H [] 600000 7302249 (lw_Z below #[Value.ref b] s) (F0 m pc ls [.int 1]) := by
  intro T hT X
  obtain ⟨fs, hret, hrun, hended, hW, hframe⟩ := X.leave (v := some (.int 1)) (hlocks := hlocks) (fun h => by rw [hr] at h; cases h)
  have hmeth' : T.vm.method? m = some meth := X.method'
  refine ⟨T.setFrames fs, ?_, .returned (some (.int 1)), hrun, hended, rfl, ⟨_, rfl⟩, hW, hframe⟩
  jvm_step X.here [X.here.top, hx, hb, hdg, hmeth', hr, ret, narrow_b1]
  (try refine ⟨rfl, ?_⟩); (try refine ⟨rfl, ?_⟩)
  first | (intro acts; rw [hret _ acts rfl rfl rfl]) | rw [hret _ _ rfl rfl rfl]
  exact Steps.refl _
/-- what holds at the law's entry: the machine, the code, the tables' words (any of lw_tbl by 'hts w (by decide +kernel)'), the script of L ints xs at the cell b, what the Statement gives of the start (any of its parts by flat_of_before) -/
def lw_At (p : Program) (s : State) (m : MethodId) (meth : Method) (c : Code) (b L : Nat) (xs : Nat → Int32) : Prop :=
  p.tables.exec = Jvm.exec ∧ c.code = code ∧ meth.sig.returnType = ret ∧ c.maxLocals = 4 ∧ s.vm.findClass R_law = some m.cls ∧ (∀ w ∈ lw_tbl, w.before #[Value.ref b] s = true) ∧ va_X b L xs s s.heap ∧ b < s.heap.size ∧ meth.locks = false ∧ (Jvm.Cond.and given_1 narrow_1).before #[Value.ref b] s = true
theorem arr_obj {A : Array Value} {s : State} {C : String} (h : (Cond.arrayOver (.object C)).before A s = true) : ∃ c, ArrOfT s c (.object C) ∧ va_RA s c (.object C) := by
  obtain ⟨comp, c, k, h1, h2, h3, h4, h5⟩ := Cond.arrayOver_spec h
  exact ⟨c, fun N z => ⟨(fun k h => by cases h), k, h3, comp, h4⟩, k, comp, h3, h4, h1, h5⟩
theorem arr_arr {A : Array Value} {s : State} (h : (Cond.arrayOver (.array .long)).before A s = true) : ∃ c, ArrOfT s c (.array .long) ∧ va_RA s c (.array .long) := by
  obtain ⟨comp, c, k, h1, h3, h4, h5⟩ := Cond.arrayOver_specA h
  exact ⟨c, fun N z => ⟨(fun k h => by cases h), k, h3, comp, h4⟩, h5⟩
theorem arr_int {A : Array Value} {s : State} (h : (Cond.arrayClass .int).before A s = true) : ∃ c, ArrOfT s c .int ∧ va_RA s c .int := by
  obtain ⟨c, k, comp, h1, h2, h3⟩ := Cond.arrayClass_spec h
  exact ⟨c, fun N z => ⟨(fun k h => by cases h), k, h2, comp, h3⟩, h1⟩
theorem arr_long {A : Array Value} {s : State} (h : (Cond.arrayClass .long).before A s = true) : ∃ c, ArrOfT s c .long ∧ va_RA s c .long := by
  obtain ⟨c, k, comp, h1, h2, h3⟩ := Cond.arrayClass_spec h
  exact ⟨c, fun N z => ⟨(fun k h => by cases h), k, h2, comp, h3⟩, h1⟩
/-- YOUR PART: from the entry, for every script of at most 3072 ints, the law comes to its end with true ('hflags': the launch's flags, for a law that throws: no stack traces) -/
theorem whole_start {p : Program} {e : Env} {s : State} {m : MethodId} {below : List Frame} {meth : Method} {c : Code} (l : Launch) (hflags : l.flags = flags0) {b L : Nat} {xs : Nat → Int32} (hL : L ≤ 3072) (C0 : lw_At p s m meth c b L xs) : W p l e room_1 s m #[Value.ref b] below meth c s.heap [] 0 0 (lw_Z below #[Value.ref b] s) (entryFrame m ([Value.ref b] : List Value).toArray 4) := by
  obtain ⟨hx, hb, hr, hml, hown, hts, hX, hbl, hlocks, hgv⟩ := id C0
  have hs := flat_of_before _ hgv
  have hg : ∀ w ∈ gtbl, w.before #[Value.ref b] s = true := fun w h => hts w (List.mem_filter.mp h).1
  have hout : ∀ a : Nat, a < s.heap.size → ¬ (fun q : Nat => s.heap.size ≤ q) a := fun a ha => Nat.not_le.mpr ha
  obtain ⟨c0, hc0⟩ := arr_int (hg _ w_aI)
  obtain ⟨c1, hc1⟩ := arr_long (hg _ w_aJ)
  have w2 := hts (Cond.arrayOver (.object "TouchingCoins$Bag")) (List.mem_of_getElem? (i := 41) (by decide +kernel))
  have w3 := hts (Cond.arrayOver (.object "TouchingCoins$Quad")) (List.mem_of_getElem? (i := 43) (by decide +kernel))
  have w4 := hts (Cond.arrayOver (.object "TouchingCoins$Four")) (List.mem_of_getElem? (i := 77) (by decide +kernel))
  have w5 := hts (Cond.arrayOver (.array .long)) (List.mem_of_getElem? (i := 99) (by decide +kernel))
  obtain ⟨c2, hc2⟩ := arr_obj w2
  obtain ⟨c3, hc3⟩ := arr_obj w3
  obtain ⟨c4, hc4⟩ := arr_obj w4
  obtain ⟨c5, hc5⟩ := arr_arr w5
  obtain ⟨T, hT⟩ : ∃ T : Nat → ClassId, ∀ (k : Nat) (q : ClassId × FieldType), (tysOf T)[k]? = some q → ArrOfT s q.1 q.2 ∧ va_RA s q.1 q.2 := by
    refine ⟨fun k => if k = 0 then c0 else if k = 1 then c1 else if k = 2 then c2 else if k = 3 then c3 else if k = 4 then c4 else c5, fun k q hq => ?_⟩
    match k, hq with
    | 0, hq => cases hq; exact hc0
    | 1, hq => cases hq; exact hc1
    | 2, hq => cases hq; exact hc2
    | 3, hq => cases hq; exact hc3
    | 4, hq => cases hq; exact hc4
    | 5, hq => cases hq; exact hc5
    | k + 6, hq => simp [tysOf] at hq
  obtain ⟨dC, dI, hKc⟩ : ∃ (dC : Nat → ClassId) (dI : Nat → Nat → Nat), ∀ (k : Nat) (q : vw_C), vwCl[k]? = some q → u_Kn s q.1 q.2.1 q.2.2 (dC k) (dI k) := by
    obtain ⟨a0, i0, k0⟩ := u_known (C := RX0) (T := TX0) (N := 3) (n := 3) hg clsOk0.1 (hg _ it_X0)
    obtain ⟨a1, i1, k1⟩ := u_known (C := RX1) (T := TX1) (N := 1) (n := 1) hg clsOk1.1 (hg _ it_X1)
    obtain ⟨a2, i2, k2⟩ := u_known (C := RX2) (T := TX2) (N := 4) (n := 4) hg clsOk2.1 (hg _ it_X2)
    obtain ⟨a3, i3, k3⟩ := u_known (C := RX3) (T := TX3) (N := 4) (n := 4) hg clsOk3.1 (hg _ it_X3)
    obtain ⟨a4, i4, k4⟩ := u_known (C := RX4) (T := TX4) (N := 5) (n := 5) hg clsOk4.1 (hg _ it_X4)
    obtain ⟨a5, i5, k5⟩ := u_known (C := RX5) (T := TX5) (N := 2) (n := 2) hg clsOk5.1 (hg _ it_X5)
    obtain ⟨a6, i6, k6⟩ := u_known (C := RX6) (T := TX6) (N := 8) (n := 8) hg clsOk6.1 (hg _ it_X6)
    obtain ⟨a7, i7, k7⟩ := u_known (C := RX7) (T := TX7) (N := 22) (n := 22) hg clsOk7.1 (hg _ it_X7)
    refine ⟨fun k => if k = 0 then a0 else if k = 1 then a1 else if k = 2 then a2 else if k = 3 then a3 else if k = 4 then a4 else if k = 5 then a5 else if k = 6 then a6 else a7, fun k => if k = 0 then i0 else if k = 1 then i1 else if k = 2 then i2 else if k = 3 then i3 else if k = 4 then i4 else if k = 5 then i5 else if k = 6 then i6 else i7, fun k q hq => ?_⟩
    match k, hq with
    | 0, hq => cases hq; exact k0
    | 1, hq => cases hq; exact k1
    | 2, hq => cases hq; exact k2
    | 3, hq => cases hq; exact k3
    | 4, hq => cases hq; exact k4
    | 5, hq => cases hq; exact k5
    | 6, hq => cases hq; exact k6
    | 7, hq => cases hq; exact k7
    | k + 8, hq => simp [vwCl] at hq
  have e4 : (Term.length (.static "TouchingCoins$Remainders" "WEIGHT" "[I")).eval #[Value.ref b] s none [] s = some (.int 4) := va_eqt (hs _ (by decide +kernel))
  have f0 : (Term.elem (.static "TouchingCoins$Remainders" "WEIGHT" "[I") (.int 0)).eval #[Value.ref b] s none [] s = some (.int 1) := va_eqt (hs _ (by decide +kernel))
  have f1 : (Term.elem (.static "TouchingCoins$Remainders" "WEIGHT" "[I") (.int 1)).eval #[Value.ref b] s none [] s = some (.int 24) := va_eqt (hs _ (by decide +kernel))
  have f2 : (Term.elem (.static "TouchingCoins$Remainders" "WEIGHT" "[I") (.int 2)).eval #[Value.ref b] s none [] s = some (.int 576) := va_eqt (hs _ (by decide +kernel))
  have f3 : (Term.elem (.static "TouchingCoins$Remainders" "WEIGHT" "[I") (.int 3)).eval #[Value.ref b] s none [] s = some (.int 13824) := va_eqt (hs _ (by decide +kernel))
  obtain ⟨w, hw, hwT⟩ := va_Tof (args := #[Value.ref b]) (s := s) (tm := .static "TouchingCoins$Remainders" "WEIGHT" "[I") (ty := .int) (N := 4) (f := fun j => .int (wt j)) (A := fun q => s.heap.size ≤ q) (by omega) (hs _ (by decide +kernel)) e4 (fun j hj => by
    match j, hj with
    | 0, _ => exact f0
    | 1, _ => exact f1
    | 2, _ => exact f2
    | 3, _ => exact f3) hout
  have hwZ : va_Z "TouchingCoins$Remainders" "WEIGHT" "[I" (.ref w) (fun q => s.heap.size ≤ q) s s.heap := va_Zref (hts (Cond.laysStatic "TouchingCoins$Remainders" "WEIGHT" "[I") (List.mem_of_getElem? (i := 292) (by decide +kernel))) (hts (Cond.initialized "TouchingCoins$Remainders") (List.mem_of_getElem? (i := 22) (by decide +kernel))) hw hout
  have F : FX (l, (dC, dI), T, s.heap.size, w) (p, e, room_1, s, m, #[Value.ref b], below, meth, c) RL cL_law (some .boolean) 10 600000 7302249 := ⟨hx, hb, hr, hlocks, hown, hg, ⟨hKc, hT⟩, ⟨hwZ, hwT⟩, ⟨fun w h => va_Nw.of (by
    have := (List.mem_filter.mp h).2
    cases w <;> first | rfl | simp [isNest] at this) (hts w (List.mem_filter.mp h).1), w2, w3, w4, w5⟩, Nat.le_refl _, Nat.le_of_ble_eq_true rfl, Nat.le_of_ble_eq_true rfl, Nat.le_of_ble_eq_true rfl, Nat.le_of_ble_eq_true rfl⟩
  have hS : scr (l, (dC, dI), T, s.heap.size, w) (p, e, room_1, s, m, #[Value.ref b], below, meth, c) b L xs := ⟨hX, hbl, hL⟩
  have K := law_all (Q := lw_Z below #[Value.ref b] s) F hS (fun M t => V_iconst F dL_law_924 ki_1 (V_widen (k1 := 600000) (k2 := 7302249) (Nat.le_of_ble_eq_true rfl) (Nat.le_of_ble_eq_true rfl) (fun H locs ls hm hS hL hz => va_forget (fun q hq => hS.2.2 q hq) (lw_ret hx hb hr hlocks dL_law_925))))
  rw [lg_entry_eq]
  have hl := lv_entry ([.ref b] : List Value) (n := 4) (Nat.le_of_ble_eq_true rfl)
  refine K s.heap [] _ ⟨fun k hk => by cases hk; rfl, fun a e h => by cases h⟩ va_S.rf ?_ hml.symm
  refine ⟨hl.1, hl.2.1, fun q hq => ?_⟩
  obtain ⟨i, w⟩ := q
  have := entL_ln [.ref b] 4 0 i w (mem_asl.mp hq)
  rw [Nat.zero_add] at this
  exact hl.2.2 _ this
