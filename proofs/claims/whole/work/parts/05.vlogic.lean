/-! V: the machine over a total map M of the cells made since the start; locals as a list by places -/
abbrev Mem : Type := Nat → Option va_E
abbrev GP : Type := Launch × va_G × (Nat → ClassId) × Nat × Nat
abbrev CX : Type := Program × Env × Room × State × MethodId × Array Value × List Frame × Method × Code
abbrev gl (G : GP) : Launch := G.1
abbrev gD (G : GP) : va_G := G.2.1
abbrev gT (G : GP) : Nat → ClassId := G.2.2.1
abbrev gB (G : GP) : Nat := G.2.2.2.1
abbrev gw (G : GP) : Nat := G.2.2.2.2
abbrev xp (X : CX) : Program := X.1
abbrev xe (X : CX) : Env := X.2.1
abbrev xR (X : CX) : Room := X.2.2.1
abbrev xs (X : CX) : State := X.2.2.2.1
abbrev xm (X : CX) : MethodId := X.2.2.2.2.1
abbrev xa (X : CX) : Array Value := X.2.2.2.2.2.1
abbrev xb (X : CX) : List Frame := X.2.2.2.2.2.2.1
abbrev xmeth (X : CX) : Method := X.2.2.2.2.2.2.2.1
abbrev xc (X : CX) : Code := X.2.2.2.2.2.2.2.2
def mset (M : Mem) (a : Nat) (e : va_E) : Mem := fun b => if b = a then some e else M b
theorem mset_eq (M : Mem) (a : Nat) (e : va_E) : mset M a e a = some e := by simp [mset]
theorem mset_ne (M : Mem) {a b : Nat} (e : va_E) (h : b ≠ a) : mset M a e b = M b := by simp [mset, h]
abbrev eI (T : Nat → ClassId) (n : Nat) (f : Nat → Int32) : va_E := .inl (T 0, n, .inl f)
abbrev eJ (T : Nat → ClassId) (n : Nat) (f : Nat → Int64) : va_E := .inl (T 1, n, .inr (.inl f))
abbrev eQ (T : Nat → ClassId) (k n : Nat) (f : Nat → Option Nat) : va_E := .inl (T k, n, .inr (.inr (.inr (.inr f))))
abbrev eO (ci : Nat) (fs : List Value) : va_E := .inr (ci, fs)
def tysOf (T : Nat → ClassId) : List (ClassId × FieldType) := [(T 0, .int), (T 1, .long), (T 2, .object "TouchingCoins$Bag"), (T 3, .object "TouchingCoins$Quad"), (T 4, .object "TouchingCoins$Four"), (T 5, .array .long)]
def wt (j : Nat) : Int32 := if j = 0 then 1 else if j = 1 then 24 else if j = 2 then 576 else 13824
def mem (G : GP) (M : Mem) (n : Option Nat) (H : Heap) : Prop := (∀ k, n = some k → H.size = k) ∧ ∀ a e, M a = some e → gB G ≤ a ∧ va_at (gD G) vwCl (a, e) H
def isNest : Cond → Bool
  | .methodLinkNest .. => true
  | _ => false
def gtbl : List Cond := lw_tbl.filter goodWord
def nlist : List Cond := lw_tbl.filter isNest
theorem gt {w : Cond} (h : w ∈ lw_tbl) (hg : goodWord w = true) : w ∈ gtbl := List.mem_filter.mpr ⟨h, hg⟩
theorem nt {w : Cond} (h : w ∈ lw_tbl) (hg : isNest w = true) : w ∈ nlist := List.mem_filter.mpr ⟨h, hg⟩
def va_AL (U : State) : Prop := (Cond.arrayOver (.array .long)).before #[] U = true
theorem va_AL.use {A : Array Value} {U : State} (h : va_AL U) : (Cond.arrayOver (.array .long)).before A U = true := h
theorem va_AL.moved {u U : State} (hvm : u.vm.Alike U.vm) (h : va_AL u) : va_AL U := by
  have h0 := h
  obtain ⟨comp, c, k, h1, h3, h4, h5⟩ := Cond.arrayOver_specA h
  unfold va_AL Cond.before at h0
  simp only [Cond.holds, Cond.value, beq_iff_eq] at h0
  simp only [h1, Option.bind_some, Option.bind_eq_some_iff, Option.map_eq_some_iff] at h0
  obtain ⟨c', hi', k2, hk2, hb⟩ := h0
  have hcc : c' = c := by
    cases hkd : k2.kind with
    | array c2 ty =>
      rw [hkd] at hb
      simp at hb
      have := hb.2
      rw [h5] at this
      exact (Option.some.inj this).symm
    | _ => rw [hkd] at hb; simp at hb
  subst hcc
  have h2 : (u.vm.classes.findIdx? fun (x : Class) => match x.kind with | .array component _ => component == comp | _ => false) = some c' := hi'
  obtain ⟨k', hk', he⟩ := hvm.2.2 _ _ h3
  have hi : (U.vm.classes.findIdx? fun (x : Class) => match x.kind with | .array component _ => component == comp | _ => false) = some c' := by
    refine (va_idx_bare U.vm comp).symm.trans ?_
    first | rw [hvm.bare_eq] | rw [← hvm.bare_eq]
    exact (va_idx_bare u.vm comp).trans h2
  have hkind : k'.kind = .array comp (.array .long) := by rw [he]; exact h4
  have f1 : U.vm.findClass (FieldType.array .long).toString = some comp := by rw [hvm.findClass]; exact h1
  have f2 : U.vm.findClass ("[" ++ (FieldType.array .long).toString) = some c' := by rw [hvm.findClass]; exact h5
  unfold va_AL Cond.before Cond.holds
  simp only [Cond.value]
  rw [f1, Option.bind_some]
  refine (congrArg (fun o : Option Nat => (o.bind (fun c => (U.vm.classes[c]?).map fun (k : Class) => match k.kind with | .array _ ty => decide (ty = FieldType.array .long) && decide (U.vm.findClass ("[" ++ (FieldType.array .long).toString) = some c) | _ => false) == some true)) hi).trans ?_
  simp [hk', hkind, f2]
def nst (U : State) : Prop := (∀ w ∈ nlist, va_Nw w U) ∧ va_AO "TouchingCoins$Bag" U ∧ va_AO "TouchingCoins$Quad" U ∧ va_AO "TouchingCoins$Four" U ∧ va_AL U
theorem nst.same {u U : State} (hv : u.vm = U.vm) (h : nst u) : nst U := ⟨fun w hw => va_Nw.same (by
    have := (List.mem_filter.mp hw).2
    cases w <;> first | rfl | simp [isNest] at this) hv (h.1 w hw), va_AO.moved (by rw [hv]; exact Vm.Alike.refl _) h.2.1, va_AO.moved (by rw [hv]; exact Vm.Alike.refl _) h.2.2.1, va_AO.moved (by rw [hv]; exact Vm.Alike.refl _) h.2.2.2.1, va_AL.moved (by rw [hv]; exact Vm.Alike.refl _) h.2.2.2.2⟩
theorem nst.warm {s U : State} (hW : s.WarmedH U.vm) (h : nst s) : nst U := ⟨fun w hw => by
    have := (List.mem_filter.mp hw).2
    have h1 := h.1 w hw
    cases w <;> first | exact va_Nw.warmM hW h1 | simp [isNest] at this, va_AO.moved hW.alike h.2.1, va_AO.moved hW.alike h.2.2.1, va_AO.moved hW.alike h.2.2.2.1, va_AL.moved hW.alike h.2.2.2.2⟩
def stat (G : GP) (U : State) (H : Heap) : Prop := va_Z "TouchingCoins$Remainders" "WEIGHT" "[I" (.ref (gw G)) (fun q => gB G ≤ q) U H ∧ va_T .int (gw G) 4 (fun j => .int (wt j)) (fun q => gB G ≤ q) U H
theorem stat.moved {G : GP} {u U : State} {H : Heap} (hv : u.vm.Alike U.vm) (h : stat G u H) : stat G U H := ⟨va_Z.moved hv h.1, va_T.moved hv h.2⟩
theorem stat.kept {G : GP} {U : State} {H H1 : Heap} (h : stat G U H) (hq : ∀ a : Nat, a < H.size → ¬ (fun q => gB G ≤ q) a → H1[a]? = H[a]?) : stat G U H1 := ⟨va_Z.kept h.1 hq, va_T.kept h.2 hq⟩
def ln : List (Option Value) → Nat → Option Value
  | [], _ => none
  | v :: _, 0 => v
  | _ :: l, n + 1 => ln l n
def lset : List (Option Value) → Nat → Option Value → List (Option Value)
  | [], _, _ => []
  | _ :: l, 0, v => v :: l
  | w :: l, n + 1, v => w :: lset l n v
def lclr1 (L : List (Option Value)) (j : Nat) : List (Option Value) := match ln L j with
  | some (.long _) => lset L j none
  | some (.double _) => lset L j none
  | _ => L
def lclr (L : List (Option Value)) : Nat → List (Option Value)
  | 0 => L
  | j + 1 => lclr1 L j
def st1 (L : List (Option Value)) (i : Nat) (v : Value) : List (Option Value) := lset (lclr L i) i (some v)
def st2 (L : List (Option Value)) (i : Nat) (v : Value) : List (Option Value) := lset (lset (lclr L i) i (some v)) (i + 1) none
theorem lset_len (L : List (Option Value)) (i : Nat) (v : Option Value) : (lset L i v).length = L.length := by
  induction L generalizing i with
  | nil => rfl
  | cons w l ih => cases i with
    | zero => rfl
    | succ i => simp [lset, ih]
theorem lset_ln (L : List (Option Value)) (i j : Nat) (v : Option Value) (w : Value) (h : ln (lset L i v) j = some w) : (j = i ∧ v = some w) ∨ (j ≠ i ∧ ln L j = some w) := by
  induction L generalizing i j with
  | nil => simp [lset, ln] at h
  | cons x l ih => cases i with
    | zero => cases j with
      | zero => exact Or.inl ⟨rfl, h⟩
      | succ j => exact Or.inr ⟨by simp, h⟩
    | succ i => cases j with
      | zero => exact Or.inr ⟨by simp, h⟩
      | succ j =>
        rcases ih i j h with ⟨a, b⟩ | ⟨a, b⟩
        · exact Or.inl ⟨by rw [a], b⟩
        · exact Or.inr ⟨by omega, b⟩
theorem lclr_len (L : List (Option Value)) (i : Nat) : (lclr L i).length = L.length := by
  cases i with
  | zero => rfl
  | succ j =>
    show (lclr1 L j).length = _
    unfold lclr1
    split <;> first | rfl | exact lset_len _ _ _
theorem lclr_ln (L : List (Option Value)) (i j : Nat) (w : Value) (h : ln (lclr L i) j = some w) : ln L j = some w ∧ ¬ (j + 1 = i ∧ w.category = 2) := by
  cases i with
  | zero => exact ⟨h, fun q => by have := q.1; omega⟩
  | succ k =>
    have h : ln (lclr1 L k) j = some w := h
    unfold lclr1 at h
    split at h
    · rcases lset_ln _ _ _ _ _ h with ⟨a, b⟩ | ⟨a, b⟩
      · cases b
      · exact ⟨b, fun q => a (by have := q.1; omega)⟩
    · rcases lset_ln _ _ _ _ _ h with ⟨a, b⟩ | ⟨a, b⟩
      · cases b
      · exact ⟨b, fun q => a (by have := q.1; omega)⟩
    · rename_i h1 h2
      refine ⟨h, fun q => ?_⟩
      have e : j = k := by have := q.1; omega
      subst e
      have q2 := q.2
      have h : ln L j = some w := by first | exact h | assumption
      cases w with
      | long x => exact h1 x h
      | double x => exact h2 x h
      | _ => simp [Value.category] at q2
theorem st1_len (L : List (Option Value)) (i : Nat) (v : Value) : (st1 L i v).length = L.length := by unfold st1; rw [lset_len, lclr_len]
theorem st2_len (L : List (Option Value)) (i : Nat) (v : Value) : (st2 L i v).length = L.length := by unfold st2; rw [lset_len, lset_len, lclr_len]
def asl (L : List (Option Value)) : List (Nat × Value) := (List.range L.length).filterMap fun i => (ln L i).map fun v => (i, v)
theorem ln_lt {L : List (Option Value)} {i : Nat} {v : Value} (h : ln L i = some v) : i < L.length := by
  induction L generalizing i with
  | nil => simp [ln] at h
  | cons w l ih => cases i with
    | zero => simp
    | succ i => have := ih h; simp; omega
theorem mem_asl {L : List (Option Value)} {i : Nat} {v : Value} : (i, v) ∈ asl L ↔ ln L i = some v := by
  unfold asl
  rw [List.mem_filterMap]
  constructor
  · rintro ⟨j, hj, he⟩
    cases hl : ln L j with
    | none => rw [hl] at he; cases he
    | some w => rw [hl] at he; cases he; exact hl
  · intro h
    exact ⟨i, List.mem_range.mpr (ln_lt h), by rw [h]; rfl⟩
def hasL (ls : Array Slot) (L : List (Option Value)) : Prop := lv_has ls L.length (asl L)
theorem hasL.get {ls : Array Slot} {L : List (Option Value)} (h : hasL ls L) {i : Nat} {v : Value} (hl : ln L i = some v) : ls[i]? = some (.val v) := h.2.2 (i, v) (mem_asl.mpr hl)
theorem hasL.s1 {ls : Array Slot} {L : List (Option Value)} {i : Nat} {v : Value} (h : lv_has ls L.length ((i, v) :: (asl L).filter (fun q => !(q.1 == i) && !(q.1 + 1 == i && q.2.category == 2)))) : hasL ls (st1 L i v) := by
  refine ⟨by rw [st1_len]; exact h.1, h.2.1, fun q hq => ?_⟩
  obtain ⟨j, w⟩ := q
  have hq := mem_asl.mp hq
  refine h.2.2 _ ?_
  rcases lset_ln _ _ _ _ _ hq with ⟨a, b⟩ | ⟨a, b⟩
  · cases b; subst a; exact List.mem_cons_self
  · obtain ⟨c, d⟩ := lclr_ln _ _ _ _ b
    refine List.mem_cons_of_mem _ (List.mem_filter.mpr ⟨mem_asl.mpr c, ?_⟩)
    by_cases h1 : j + 1 = i
    · have h2 : ¬ w.category = 2 := fun z => d ⟨h1, z⟩
      simp [a, h2]
    · simp [a, h1]
theorem hasL.s2 {ls : Array Slot} {L : List (Option Value)} {i : Nat} {v : Value} (h : lv_has ls L.length ((i, v) :: (asl L).filter (fun q => !(q.1 == i) && (!(q.1 == i + 1) && !(q.1 + 1 == i && q.2.category == 2))))) : hasL ls (st2 L i v) := by
  refine ⟨by rw [st2_len]; exact h.1, h.2.1, fun q hq => ?_⟩
  obtain ⟨j, w⟩ := q
  have hq := mem_asl.mp hq
  refine h.2.2 _ ?_
  rcases lset_ln _ _ _ _ _ hq with ⟨a, b⟩ | ⟨a0, b⟩
  · cases b
  · rcases lset_ln _ _ _ _ _ b with ⟨a, b⟩ | ⟨a, b⟩
    · cases b; subst a; exact List.mem_cons_self
    · obtain ⟨c, d⟩ := lclr_ln _ _ _ _ b
      refine List.mem_cons_of_mem _ (List.mem_filter.mpr ⟨mem_asl.mpr c, ?_⟩)
      by_cases h1 : j + 1 = i
      · have h2 : ¬ w.category = 2 := fun z => d ⟨h1, z⟩
        simp [a, a0, h2]
      · simp [a, a0, h1]
def V (G : GP) (X : CX) (cells slots : Nat) (Q : State → Prop) (M : Mem) (n : Option Nat) (pc : Nat) (L : List (Option Value)) (st : List Value) : Prop :=
  ∀ (H : Heap) (locs : List Loc) (ls : Array Slot), mem G M n H → va_S (fun q => gB G ≤ q) (xs X).heap H locs → hasL ls L → L.length = (xc X).maxLocals →
    W (xp X) (gl G) (xe X) (xR X) (xs X) (xm X) (xa X) (xb X) (xmeth X) (xc X) H locs cells slots Q (F0 (xm X) pc ls st)
def FX (G : GP) (X : CX) (own : String) (cc : ByteArray) (ret : Option FieldType) (d rc rs : Nat) : Prop :=
  (xp X).tables.exec = Jvm.exec ∧ (xc X).code = cc ∧ (xmeth X).sig.returnType = ret ∧ (xmeth X).locks = false ∧ (xs X).vm.findClass own = some (xm X).cls ∧ (∀ w ∈ gtbl, w.before (xa X) (xs X) = true) ∧ va_K (gD G) vwCl (tysOf (gT G)) (xs X) ∧ stat G (xs X) (xs X).heap ∧ nst (xs X) ∧ gB G ≤ (xs X).heap.size ∧ d ≤ (xR X).frames ∧ 36 * d ≤ (xR X).locals ∧ rc ≤ (xR X).cells ∧ rs ≤ (xR X).slots
abbrev FX.x {G : GP} {X : CX} {own : String} {cc : ByteArray} {ret : Option FieldType} {d rc rs : Nat} (F : FX G X own cc ret d rc rs) := F.1
abbrev FX.b {G : GP} {X : CX} {own : String} {cc : ByteArray} {ret : Option FieldType} {d rc rs : Nat} (F : FX G X own cc ret d rc rs) := F.2.1
abbrev FX.r {G : GP} {X : CX} {own : String} {cc : ByteArray} {ret : Option FieldType} {d rc rs : Nat} (F : FX G X own cc ret d rc rs) := F.2.2.1
abbrev FX.k {G : GP} {X : CX} {own : String} {cc : ByteArray} {ret : Option FieldType} {d rc rs : Nat} (F : FX G X own cc ret d rc rs) := F.2.2.2.1
abbrev FX.o {G : GP} {X : CX} {own : String} {cc : ByteArray} {ret : Option FieldType} {d rc rs : Nat} (F : FX G X own cc ret d rc rs) := F.2.2.2.2.1
abbrev FX.t {G : GP} {X : CX} {own : String} {cc : ByteArray} {ret : Option FieldType} {d rc rs : Nat} (F : FX G X own cc ret d rc rs) := F.2.2.2.2.2.1
abbrev FX.K {G : GP} {X : CX} {own : String} {cc : ByteArray} {ret : Option FieldType} {d rc rs : Nat} (F : FX G X own cc ret d rc rs) := F.2.2.2.2.2.2.1
abbrev FX.s {G : GP} {X : CX} {own : String} {cc : ByteArray} {ret : Option FieldType} {d rc rs : Nat} (F : FX G X own cc ret d rc rs) := F.2.2.2.2.2.2.2.1
abbrev FX.n {G : GP} {X : CX} {own : String} {cc : ByteArray} {ret : Option FieldType} {d rc rs : Nat} (F : FX G X own cc ret d rc rs) := F.2.2.2.2.2.2.2.2.1
abbrev FX.B {G : GP} {X : CX} {own : String} {cc : ByteArray} {ret : Option FieldType} {d rc rs : Nat} (F : FX G X own cc ret d rc rs) := F.2.2.2.2.2.2.2.2.2.1
abbrev FX.d {G : GP} {X : CX} {own : String} {cc : ByteArray} {ret : Option FieldType} {d rc rs : Nat} (F : FX G X own cc ret d rc rs) := F.2.2.2.2.2.2.2.2.2.2
def Pre (G : GP) (M : Mem) (n : Option Nat) (U : State) : Prop := mem G M n U.heap ∧ va_K (gD G) vwCl (tysOf (gT G)) U ∧ stat G U U.heap ∧ nst U ∧ gB G ≤ U.heap.size
def QQ (G : GP) (post : Option Value → Mem → Option Nat → Prop) : Array Value → State → Outcome → State → Prop := fun _ st oc t => ∃ (v : Option Value) (M' : Mem) (n' : Option Nat), oc = .returned v ∧ post v M' n' ∧ mem G M' n' t.heap ∧ va_F (fun q => gB G ≤ q) st t
def Con (G : GP) (y : MethodName) (cd : ByteArray) (mL : Nat) (rt : Option FieldType) (d mc ms : Nat) (av : List Value) (M : Mem) (n : Option Nat) (post : Option Value → Mem → Option Nat → Prop) : Prop :=
  Met (gl G) y (Cond.code y cd mL rt :: gtbl) { frames := d, cells := mc, slots := ms, locals := 36 * d } (va_Pc av (Pre G M n)) (QQ G post) mc ms (fun q => gB G ≤ q)
def BQ (G : GP) (X : CX) (post : Option Value → Mem → Option Nat → Prop) (mc ms : Nat) : State → Prop := MQ (xb X) (QQ G post) (xa X) (xs X) mc ms (fun q => gB G ≤ q)
def R1 (v : Option Value) (M : Mem) (n : Option Nat) : Option Value → Mem → Option Nat → Prop := fun v' M' n' => v' = v ∧ M' = M ∧ n' = n
def entL : List Value → Nat → List (Option Value)
  | [], k => List.replicate k none
  | .long x :: vs, k => some (.long x) :: none :: entL vs (k - 2)
  | .double x :: vs, k => some (.double x) :: none :: entL vs (k - 2)
  | v :: vs, k => some v :: entL vs (k - 1)
theorem ln_none (k i : Nat) : ln (List.replicate k none) i = none := by
  induction k generalizing i with
  | zero => rfl
  | succ k ih => cases i with
    | zero => rfl
    | succ i => exact ih i
theorem entL_ln (vs : List Value) : ∀ (k b i : Nat) (w : Value), ln (entL vs k) i = some w → (b + i, w) ∈ lv_args b vs := by
  induction vs with
  | nil => intro k b i w h; rw [entL, ln_none] at h; cases h
  | cons v vs ih =>
    intro k b i w h
    have one : ∀ k', ln (some v :: entL vs k') i = some w → v.category ≠ 2 → (b + i, w) ∈ lv_args b (v :: vs) := by
      intro k' h hc
      unfold lv_args
      rw [if_neg hc]
      cases i with
      | zero => cases h; exact List.mem_cons_self
      | succ i => have := ih k' (b + 1) i w h; rw [show b + 1 + i = b + (i + 1) by omega] at this; exact List.mem_cons_of_mem _ this
    have two : ∀ k', ln (some v :: none :: entL vs k') i = some w → v.category = 2 → (b + i, w) ∈ lv_args b (v :: vs) := by
      intro k' h hc
      unfold lv_args
      rw [if_pos hc]
      cases i with
      | zero => cases h; exact List.mem_cons_self
      | succ i => cases i with
        | zero => cases h
        | succ i => have := ih k' (b + 2) i w h; rw [show b + 2 + i = b + (i + 1 + 1) by omega] at this; exact List.mem_cons_of_mem _ this
    cases v <;> first | exact two _ h rfl | exact one _ h (by decide) | exact one _ h (by simp [Value.category])
theorem entL_len (vs : List Value) : ∀ k, (lg_sl vs).length ≤ k → (entL vs k).length = k := by
  induction vs with
  | nil => intro k _; simp [entL]
  | cons v vs ih =>
    intro k h
    have e : lg_sl (v :: vs) = (if v.category = 2 then [.val v, .second] else [.val v]) ++ lg_sl vs := rfl
    rw [e, List.length_append] at h
    cases v <;> simp [Value.category] at h <;> simp only [entL, List.length_cons] <;> rw [ih _ (by omega)] <;> omega
theorem tbl_good : ∀ w ∈ gtbl, (w.onTables && w.keeps) = true ∨ ∃ ty, w = .arrayClass ty := fun w h => good_of_word (List.mem_filter.mp h).2
theorem tbl_in {ws : List Cond} (h : ∀ w ∈ ws, w ∈ gtbl) : GoodIn gtbl ws := fun w hw => ⟨h w hw, tbl_good w (h w hw)⟩
theorem Pre.blind {G : GP} {M : Mem} {n : Option Nat} {av : List Value} : FrameBlind (va_Pc av (Pre G M n)) := fun a U g mk q => by
  obtain ⟨q0, q1, q2, q3, q5, q4⟩ := q
  exact ⟨q0, q1, va_K.moved (u := U) (U := U.calling g mk a) (Vm.Alike.refl U.vm) q2, stat.moved (u := U) (U := U.calling g mk a) (Vm.Alike.refl U.vm) q3, nst.same (u := U) (U := U.calling g mk a) rfl q5, q4⟩
theorem Con.of {G : GP} {y : MethodName} {cd : ByteArray} {mL : Nat} {rt : Option FieldType} {d mc ms : Nat} {av : List Value} {M : Mem} {n : Option Nat} {post : Option Value → Mem → Option Nat → Prop} (hp : plainName y.cls = true) (hlen : (lg_sl av).length ≤ mL)
    (k : ∀ X : CX, FX G X y.cls cd rt d mc ms → (xmeth X).name = y.name → V G X 0 0 (BQ G X post mc ms) M n 0 (entL av mL) []) : Con G y cd mL rt d mc ms av M n post := by
  refine Met.ofW (cc := cd) (maxL := mL) (ret := rt) hp rfl ?_
  intro p e s m args below meth c s₁ B hml hv
  obtain ⟨rfl, hm, hK, hst, hns, hB⟩ := hv
  have hts := atoms_spec (ws := Cond.code y cd mL rt :: gtbl) B.pre
  have hown : s.vm.findClass y.cls = some m.cls := findClass_of_methodNamed B.named
  have hk := k (p, e, { frames := d, cells := mc, slots := ms, locals := 36 * d }, s, m, av.toArray, below, meth, c) ⟨B.exec, B.bytes, B.returns, B.notSynchronized, hown, fun w hw => hts w (List.mem_cons_of_mem _ hw), hK, hst, hns, hB, Nat.le_refl _, Nat.le_refl _, Nat.le_refl _, Nat.le_refl _⟩ (name_of_methodNamed B.named B.method).1
  rw [lg_entry_eq]
  have hl := lv_entry av (n := mL) hlen
  refine hk s.heap [] _ hm va_S.rf ?_ (by rw [entL_len _ _ hlen]; exact hml.symm)
  refine ⟨by rw [entL_len _ _ hlen]; exact hl.1, hl.2.1, fun q hq => ?_⟩
  obtain ⟨i, w⟩ := q
  have := entL_ln av mL 0 i w (mem_asl.mp hq)
  rw [Nat.zero_add] at this
  exact hl.2.2 _ this
theorem Con.imp {G : GP} {y : MethodName} {cd : ByteArray} {mL : Nat} {rt : Option FieldType} {d mc ms : Nat} {av : List Value} {M : Mem} {n : Option Nat} {post post' : Option Value → Mem → Option Nat → Prop} (h : Con G y cd mL rt d mc ms av M n post) (hi : ∀ v M' n', post v M' n' → post' v M' n') : Con G y cd mL rt d mc ms av M n post' := by
  unfold Con Met MetFree at *
  intro p e ha hc hk s m args below hf happ hP hK
  obtain ⟨k, oc, h1, h2, h3, ⟨⟨v, M', n', e1, e2, e3, e4⟩, h5⟩⟩ := h p e ha hc hk s m args below hf happ hP hK
  exact ⟨k, oc, h1, h2, h3, ⟨v, M', n', e1, hi _ _ _ e2, e3, e4⟩, h5⟩
def FL (own : String) (idx ci k : Nat) (C : String) (T : u_T) (N : Nat) (ty : FieldType) (fin : Bool) : Prop := vwCl[ci]? = some (C, T, N) ∧ k < N ∧ Cond.fieldLink own idx (T k).1 (T k).2.1 (T k).2.2.1 ∈ gtbl ∧ parseFieldDescriptor (T k).2.2.1 = some ty ∧ (T k).2.2.2 = fin
def IV (own : String) (idx : Nat) (y : MethodName) (cd : ByteArray) (mL : Nat) (rt : Option FieldType) (na : Nat) : Prop := Cond.methodLink own idx y ∈ gtbl ∧ Cond.instanceMethod y ∈ gtbl ∧ Cond.selects y.cls y y ∈ gtbl ∧ Cond.initialized y.cls ∈ gtbl ∧ Cond.code y cd mL rt ∈ gtbl ∧ (y.cls ≠ "java/lang/invoke/MethodHandle" ∧ y.cls ≠ "java/lang/invoke/VarHandle" ∧ (parseMethodDescriptor y.desc).map (fun d => d.parameters.length) = some na)
def IS (own : String) (idx : Nat) (y : MethodName) (cd : ByteArray) (mL : Nat) (rt : Option FieldType) (na : Nat) : Prop := Cond.methodLink own idx y ∈ gtbl ∧ Cond.static y ∈ gtbl ∧ Cond.initialized y.cls ∈ gtbl ∧ Cond.code y cd mL rt ∈ gtbl ∧ (y.cls ≠ "java/lang/invoke/MethodHandle" ∧ y.cls ≠ "java/lang/invoke/VarHandle" ∧ (parseMethodDescriptor y.desc).map (fun d => d.parameters.length) = some na)
def IC (own : String) (idx : Nat) (y : MethodName) (cd : ByteArray) (mL : Nat) (na : Nat) : Prop := Cond.methodLink own idx y ∈ gtbl ∧ Cond.instanceMethod y ∈ gtbl ∧ Cond.initialized y.cls ∈ gtbl ∧ Cond.code y cd mL none ∈ gtbl ∧ (y.name = "<init>" ∧ y.cls ≠ "java/lang/invoke/MethodHandle" ∧ y.cls ≠ "java/lang/invoke/VarHandle" ∧ (parseMethodDescriptor y.desc).map (fun d => d.parameters.length) = some na)
def IK (own : String) (idx : Nat) (y : MethodName) (host : String) (cd : ByteArray) (mL : Nat) (na : Nat) : Prop := Cond.methodLinkNest own idx y host ∈ nlist ∧ Cond.instanceMethod y ∈ gtbl ∧ Cond.initialized y.cls ∈ gtbl ∧ Cond.code y cd mL none ∈ gtbl ∧ (y.name = "<init>" ∧ y.cls ≠ "java/lang/invoke/MethodHandle" ∧ y.cls ≠ "java/lang/invoke/VarHandle" ∧ (parseMethodDescriptor y.desc).map (fun d => d.parameters.length) = some na)
def clsOk (q : vw_C) : Prop := (∀ w ∈ u_ws q.1 q.2.1 q.2.2, w ∈ gtbl) ∧ (∃ ty : Nat → FieldType, ∀ k, k < q.2.2 → parseFieldDescriptor (q.2.1 k).2.2.1 = some (ty k)) ∧ ∀ a, a < q.2.2 → ∀ b, b < q.2.2 → a ≠ b → (q.2.1 a).2.1 ≠ (q.2.1 b).2.1
theorem clsOk0 : clsOk (RX0, TX0, 3) := ⟨by decide +kernel, ⟨tyX0, tyX0_ok⟩, nmX0⟩
theorem clsOk1 : clsOk (RX1, TX1, 1) := ⟨by decide +kernel, ⟨tyX1, tyX1_ok⟩, nmX1⟩
theorem clsOk2 : clsOk (RX2, TX2, 4) := ⟨by decide +kernel, ⟨tyX2, tyX2_ok⟩, nmX2⟩
theorem clsOk3 : clsOk (RX3, TX3, 4) := ⟨by decide +kernel, ⟨tyX3, tyX3_ok⟩, nmX3⟩
theorem clsOk4 : clsOk (RX4, TX4, 5) := ⟨by decide +kernel, ⟨tyX4, tyX4_ok⟩, nmX4⟩
theorem clsOk5 : clsOk (RX5, TX5, 2) := ⟨by decide +kernel, ⟨tyX5, tyX5_ok⟩, nmX5⟩
theorem clsOk6 : clsOk (RX6, TX6, 8) := ⟨by decide +kernel, ⟨tyX6, tyX6_ok⟩, nmX6⟩
theorem clsOk7 : clsOk (RX7, TX7, 22) := ⟨by decide +kernel, ⟨tyX7, tyX7_ok⟩, nmX7⟩
theorem cls_ok : ∀ (ci : Nat) (q : vw_C), vwCl[ci]? = some q → clsOk q := by
  intro ci q h
  match ci, h with
  | 0, h => cases h; exact clsOk0
  | 1, h => cases h; exact clsOk1
  | 2, h => cases h; exact clsOk2
  | 3, h => cases h; exact clsOk3
  | 4, h => cases h; exact clsOk4
  | 5, h => cases h; exact clsOk5
  | 6, h => cases h; exact clsOk6
  | 7, h => cases h; exact clsOk7
  | k + 8, h => simp [vwCl] at h
section VV
variable {G : GP} {X : CX} {cells slots : Nat} {Q : State → Prop} {M : Mem} {n : Option Nat} {pc : Nat} {L : List (Option Value)} {st : List Value} {own : String} {cc : ByteArray} {ret : Option FieldType} {d rc rs : Nat}
theorem V_iconst (F : FX G X own cc ret d rc rs) {i : Int} {v : Int32} (hdg : decode cc pc = .ok (.iconst i, 1)) (hv : Int32.ofInt i = v) (k : V G X cells slots Q M n (pc + 1) L (.int v :: st)) : V G X cells slots Q M n pc L st := fun H locs ls hm hS hL hz => lv_iconst F.x F.b hdg hv (k H locs ls hm hS hL hz)
theorem V_bipush (F : FX G X own cc ret d rc rs) {i : Int} {v : Int32} (hdg : decode cc pc = .ok (.bipush i, 2)) (hv : (Int8.ofInt i).toInt32 = v) (k : V G X cells slots Q M n (pc + 2) L (.int v :: st)) : V G X cells slots Q M n pc L st := fun H locs ls hm hS hL hz => lv_bipush F.x F.b hdg hv (k H locs ls hm hS hL hz)
theorem V_sipush (F : FX G X own cc ret d rc rs) {i : Int} {v : Int32} (hdg : decode cc pc = .ok (.sipush i, 3)) (hv : (Int16.ofInt i).toInt32 = v) (k : V G X cells slots Q M n (pc + 3) L (.int v :: st)) : V G X cells slots Q M n pc L st := fun H locs ls hm hS hL hz => lv_sipush F.x F.b hdg hv (k H locs ls hm hS hL hz)
theorem V_lconst (F : FX G X own cc ret d rc rs) {i : Fin 2} {v : Int64} (hdg : decode cc pc = .ok (.lconst i, 1)) (hv : Int64.ofNat (i : Nat) = v) (k : V G X cells slots Q M n (pc + 1) L (.long v :: st)) : V G X cells slots Q M n pc L st := fun H locs ls hm hS hL hz => lv_lconst F.x F.b hdg hv (k H locs ls hm hS hL hz)
theorem V_ldc (F : FX G X own cc ret d rc rs) {i : Nat} {v : Int32} (hdg : decode cc pc = .ok (.ldc i, 2)) (hw : Cond.constant own i v ∈ gtbl) (k : V G X cells slots Q M n (pc + 2) L (.int v :: st)) : V G X cells slots Q M n pc L st := fun H locs ls hm hS hL hz => lv_ldc F.x F.b F.o (F.t _ hw) hdg (k H locs ls hm hS hL hz)
theorem V_ldc2 (F : FX G X own cc ret d rc rs) {i : Nat} {v : Int64} (hdg : decode cc pc = .ok (.ldc2_w i, 3)) (hw : Cond.constantLong own i v ∈ gtbl) (k : V G X cells slots Q M n (pc + 3) L (.long v :: st)) : V G X cells slots Q M n pc L st := fun H locs ls hm hS hL hz => lv_ldc2 F.x F.b F.o (F.t _ hw) hdg (k H locs ls hm hS hL hz)
theorem V_iload_n (F : FX G X own cc ret d rc rs) {j : Fin 4} {x : Int32} (hdg : decode cc pc = .ok (.iload_n j, 1)) (hl : ln L (j : Nat) = some (.int x)) (k : V G X cells slots Q M n (pc + 1) L (.int x :: st)) : V G X cells slots Q M n pc L st := fun H locs ls hm hS hL hz => lv_iload_n F.x F.b hdg rfl (hL.get hl) (k H locs ls hm hS hL hz)
theorem V_iload (F : FX G X own cc ret d rc rs) {j : Nat} {x : Int32} (hdg : decode cc pc = .ok (.iload j, 2)) (hl : ln L j = some (.int x)) (k : V G X cells slots Q M n (pc + 2) L (.int x :: st)) : V G X cells slots Q M n pc L st := fun H locs ls hm hS hL hz => lv_iload F.x F.b hdg (hL.get hl) (k H locs ls hm hS hL hz)
theorem V_istore_n (F : FX G X own cc ret d rc rs) {j : Fin 4} {x : Int32} (hdg : decode cc pc = .ok (.istore_n j, 1)) (hn : (j : Nat) < L.length) (k : V G X cells slots Q M n (pc + 1) (st1 L (j : Nat) (.int x)) st) : V G X cells slots Q M n pc L (.int x :: st) := fun H locs ls hm hS hL hz => lv_istore_n F.x F.b hdg rfl hL hn rfl (fun ls2 h2 => k H locs ls2 hm hS (hasL.s1 h2) (by rw [st1_len]; exact hz))
theorem V_istore (F : FX G X own cc ret d rc rs) {j : Nat} {x : Int32} (hdg : decode cc pc = .ok (.istore j, 2)) (hn : j < L.length) (k : V G X cells slots Q M n (pc + 2) (st1 L j (.int x)) st) : V G X cells slots Q M n pc L (.int x :: st) := fun H locs ls hm hS hL hz => lv_istore F.x F.b hdg hL hn rfl (fun ls2 h2 => k H locs ls2 hm hS (hasL.s1 h2) (by rw [st1_len]; exact hz))
theorem V_lload_n (F : FX G X own cc ret d rc rs) {j : Fin 4} {x : Int64} (hdg : decode cc pc = .ok (.lload_n j, 1)) (hl : ln L (j : Nat) = some (.long x)) (k : V G X cells slots Q M n (pc + 1) L (.long x :: st)) : V G X cells slots Q M n pc L st := fun H locs ls hm hS hL hz => lv_lload_n F.x F.b hdg rfl (hL.get hl) (k H locs ls hm hS hL hz)
theorem V_lload (F : FX G X own cc ret d rc rs) {j : Nat} {x : Int64} (hdg : decode cc pc = .ok (.lload j, 2)) (hl : ln L j = some (.long x)) (k : V G X cells slots Q M n (pc + 2) L (.long x :: st)) : V G X cells slots Q M n pc L st := fun H locs ls hm hS hL hz => lv_lload F.x F.b hdg (hL.get hl) (k H locs ls hm hS hL hz)
theorem V_lstore_n (F : FX G X own cc ret d rc rs) {j : Fin 4} {x : Int64} (hdg : decode cc pc = .ok (.lstore_n j, 1)) (hn : (j : Nat) + 1 < L.length) (k : V G X cells slots Q M n (pc + 1) (st2 L (j : Nat) (.long x)) st) : V G X cells slots Q M n pc L (.long x :: st) := fun H locs ls hm hS hL hz => lv_lstore_n F.x F.b hdg rfl hL hn rfl (fun ls2 h2 => k H locs ls2 hm hS (hasL.s2 h2) (by rw [st2_len]; exact hz))
theorem V_lstore (F : FX G X own cc ret d rc rs) {j : Nat} {x : Int64} (hdg : decode cc pc = .ok (.lstore j, 2)) (hn : j + 1 < L.length) (k : V G X cells slots Q M n (pc + 2) (st2 L j (.long x)) st) : V G X cells slots Q M n pc L (.long x :: st) := fun H locs ls hm hS hL hz => lv_lstore F.x F.b hdg hL hn rfl (fun ls2 h2 => k H locs ls2 hm hS (hasL.s2 h2) (by rw [st2_len]; exact hz))
theorem V_aload_n (F : FX G X own cc ret d rc rs) {j : Fin 4} {x : Nat} (hdg : decode cc pc = .ok (.aload_n j, 1)) (hl : ln L (j : Nat) = some (.ref x)) (k : V G X cells slots Q M n (pc + 1) L (.ref x :: st)) : V G X cells slots Q M n pc L st := fun H locs ls hm hS hL hz => lv_aload_n F.x F.b hdg rfl (hL.get hl) (k H locs ls hm hS hL hz)
theorem V_aload (F : FX G X own cc ret d rc rs) {j : Nat} {x : Nat} (hdg : decode cc pc = .ok (.aload j, 2)) (hl : ln L j = some (.ref x)) (k : V G X cells slots Q M n (pc + 2) L (.ref x :: st)) : V G X cells slots Q M n pc L st := fun H locs ls hm hS hL hz => lv_aload F.x F.b hdg (hL.get hl) (k H locs ls hm hS hL hz)
theorem V_astore_n (F : FX G X own cc ret d rc rs) {j : Fin 4} {x : Nat} (hdg : decode cc pc = .ok (.astore_n j, 1)) (hn : (j : Nat) < L.length) (k : V G X cells slots Q M n (pc + 1) (st1 L (j : Nat) (.ref x)) st) : V G X cells slots Q M n pc L (.ref x :: st) := fun H locs ls hm hS hL hz => lv_astore_n F.x F.b hdg rfl hL hn rfl (fun ls2 h2 => k H locs ls2 hm hS (hasL.s1 h2) (by rw [st1_len]; exact hz))
theorem V_astore (F : FX G X own cc ret d rc rs) {j : Nat} {x : Nat} (hdg : decode cc pc = .ok (.astore j, 2)) (hn : j < L.length) (k : V G X cells slots Q M n (pc + 2) (st1 L j (.ref x)) st) : V G X cells slots Q M n pc L (.ref x :: st) := fun H locs ls hm hS hL hz => lv_astore F.x F.b hdg hL hn rfl (fun ls2 h2 => k H locs ls2 hm hS (hasL.s1 h2) (by rw [st1_len]; exact hz))
theorem V_iinc (F : FX G X own cc ret d rc rs) {j : Nat} {i : Int} {x : Int32} (hdg : decode cc pc = .ok (.iinc j i, 3)) (hl : ln L j = some (.int x)) (k : V G X cells slots Q M n (pc + 3) (st1 L j (.int (x + Int32.ofInt i))) st) : V G X cells slots Q M n pc L st := fun H locs ls hm hS hL hz => by
  obtain ⟨q, hq⟩ := List.getElem?_of_mem (mem_asl.mpr hl)
  exact lv_iinc F.x F.b hdg hL hq rfl (ln_lt hl) rfl (fun ls2 h2 => k H locs ls2 hm hS (hasL.s1 h2) (by rw [st1_len]; exact hz))
theorem V_iadd (F : FX G X own cc ret d rc rs) {x y : Int32} (hdg : decode cc pc = .ok (.iadd, 1)) (k : V G X cells slots Q M n (pc + 1) L (.int (x + y) :: st)) : V G X cells slots Q M n pc L (.int y :: .int x :: st) := fun H locs ls hm hS hL hz => lv_iadd F.x F.b hdg (k H locs ls hm hS hL hz)
theorem V_isub (F : FX G X own cc ret d rc rs) {x y : Int32} (hdg : decode cc pc = .ok (.isub, 1)) (k : V G X cells slots Q M n (pc + 1) L (.int (x - y) :: st)) : V G X cells slots Q M n pc L (.int y :: .int x :: st) := fun H locs ls hm hS hL hz => lv_isub F.x F.b hdg (k H locs ls hm hS hL hz)
theorem V_imul (F : FX G X own cc ret d rc rs) {x y : Int32} (hdg : decode cc pc = .ok (.imul, 1)) (k : V G X cells slots Q M n (pc + 1) L (.int (x * y) :: st)) : V G X cells slots Q M n pc L (.int y :: .int x :: st) := fun H locs ls hm hS hL hz => lv_imul F.x F.b hdg (k H locs ls hm hS hL hz)
theorem V_iand (F : FX G X own cc ret d rc rs) {x y : Int32} (hdg : decode cc pc = .ok (.iand, 1)) (k : V G X cells slots Q M n (pc + 1) L (.int (x &&& y) :: st)) : V G X cells slots Q M n pc L (.int y :: .int x :: st) := fun H locs ls hm hS hL hz => lv_iand F.x F.b hdg (k H locs ls hm hS hL hz)
theorem V_ior (F : FX G X own cc ret d rc rs) {x y : Int32} (hdg : decode cc pc = .ok (.ior, 1)) (k : V G X cells slots Q M n (pc + 1) L (.int (x ||| y) :: st)) : V G X cells slots Q M n pc L (.int y :: .int x :: st) := fun H locs ls hm hS hL hz => lv_ior F.x F.b hdg (k H locs ls hm hS hL hz)
theorem V_ixor (F : FX G X own cc ret d rc rs) {x y : Int32} (hdg : decode cc pc = .ok (.ixor, 1)) (k : V G X cells slots Q M n (pc + 1) L (.int (x ^^^ y) :: st)) : V G X cells slots Q M n pc L (.int y :: .int x :: st) := fun H locs ls hm hS hL hz => lv_ixor F.x F.b hdg (k H locs ls hm hS hL hz)
theorem V_ishl (F : FX G X own cc ret d rc rs) {x y : Int32} (hdg : decode cc pc = .ok (.ishl, 1)) (k : V G X cells slots Q M n (pc + 1) L (.int (x <<< (y &&& 31)) :: st)) : V G X cells slots Q M n pc L (.int y :: .int x :: st) := fun H locs ls hm hS hL hz => lv_ishl F.x F.b hdg (k H locs ls hm hS hL hz)
theorem V_ishr (F : FX G X own cc ret d rc rs) {x y : Int32} (hdg : decode cc pc = .ok (.ishr, 1)) (k : V G X cells slots Q M n (pc + 1) L (.int (x >>> (y &&& 31)) :: st)) : V G X cells slots Q M n pc L (.int y :: .int x :: st) := fun H locs ls hm hS hL hz => lv_ishr F.x F.b hdg (k H locs ls hm hS hL hz)
theorem V_idiv (F : FX G X own cc ret d rc rs) {x y : Int32} (hdg : decode cc pc = .ok (.idiv, 1)) (hne : ¬ y = 0) (k : V G X cells slots Q M n (pc + 1) L (.int (x / y) :: st)) : V G X cells slots Q M n pc L (.int y :: .int x :: st) := fun H locs ls hm hS hL hz => lv_idiv F.x F.b hdg hne (k H locs ls hm hS hL hz)
theorem V_irem (F : FX G X own cc ret d rc rs) {x y : Int32} (hdg : decode cc pc = .ok (.irem, 1)) (hne : ¬ y = 0) (k : V G X cells slots Q M n (pc + 1) L (.int (x - x / y * y) :: st)) : V G X cells slots Q M n pc L (.int y :: .int x :: st) := fun H locs ls hm hS hL hz => lv_irem F.x F.b hdg hne (k H locs ls hm hS hL hz)
theorem V_ineg (F : FX G X own cc ret d rc rs) {x : Int32} (hdg : decode cc pc = .ok (.ineg, 1)) (k : V G X cells slots Q M n (pc + 1) L (.int (-x) :: st)) : V G X cells slots Q M n pc L (.int x :: st) := fun H locs ls hm hS hL hz => lv_ineg F.x F.b hdg (k H locs ls hm hS hL hz)
theorem V_ladd (F : FX G X own cc ret d rc rs) {x y : Int64} (hdg : decode cc pc = .ok (.ladd, 1)) (k : V G X cells slots Q M n (pc + 1) L (.long (x + y) :: st)) : V G X cells slots Q M n pc L (.long y :: .long x :: st) := fun H locs ls hm hS hL hz => lv_ladd F.x F.b hdg (k H locs ls hm hS hL hz)
theorem V_lsub (F : FX G X own cc ret d rc rs) {x y : Int64} (hdg : decode cc pc = .ok (.lsub, 1)) (k : V G X cells slots Q M n (pc + 1) L (.long (x - y) :: st)) : V G X cells slots Q M n pc L (.long y :: .long x :: st) := fun H locs ls hm hS hL hz => lv_lsub F.x F.b hdg (k H locs ls hm hS hL hz)
theorem V_lmul (F : FX G X own cc ret d rc rs) {x y : Int64} (hdg : decode cc pc = .ok (.lmul, 1)) (k : V G X cells slots Q M n (pc + 1) L (.long (x * y) :: st)) : V G X cells slots Q M n pc L (.long y :: .long x :: st) := fun H locs ls hm hS hL hz => lv_lmul F.x F.b hdg (k H locs ls hm hS hL hz)
theorem V_land (F : FX G X own cc ret d rc rs) {x y : Int64} (hdg : decode cc pc = .ok (.land, 1)) (k : V G X cells slots Q M n (pc + 1) L (.long (x &&& y) :: st)) : V G X cells slots Q M n pc L (.long y :: .long x :: st) := fun H locs ls hm hS hL hz => lv_land F.x F.b hdg (k H locs ls hm hS hL hz)
theorem V_lor (F : FX G X own cc ret d rc rs) {x y : Int64} (hdg : decode cc pc = .ok (.lor, 1)) (k : V G X cells slots Q M n (pc + 1) L (.long (x ||| y) :: st)) : V G X cells slots Q M n pc L (.long y :: .long x :: st) := fun H locs ls hm hS hL hz => lv_lor F.x F.b hdg (k H locs ls hm hS hL hz)
theorem V_lxor (F : FX G X own cc ret d rc rs) {x y : Int64} (hdg : decode cc pc = .ok (.lxor, 1)) (k : V G X cells slots Q M n (pc + 1) L (.long (x ^^^ y) :: st)) : V G X cells slots Q M n pc L (.long y :: .long x :: st) := fun H locs ls hm hS hL hz => lv_lxor F.x F.b hdg (k H locs ls hm hS hL hz)
theorem V_lrem (F : FX G X own cc ret d rc rs) {x y : Int64} (hdg : decode cc pc = .ok (.lrem, 1)) (hne : ¬ y = 0) (k : V G X cells slots Q M n (pc + 1) L (.long (x - x / y * y) :: st)) : V G X cells slots Q M n pc L (.long y :: .long x :: st) := fun H locs ls hm hS hL hz => lv_lrem F.x F.b hdg hne (k H locs ls hm hS hL hz)
theorem V_lneg (F : FX G X own cc ret d rc rs) {x : Int64} (hdg : decode cc pc = .ok (.lneg, 1)) (k : V G X cells slots Q M n (pc + 1) L (.long (-x) :: st)) : V G X cells slots Q M n pc L (.long x :: st) := fun H locs ls hm hS hL hz => lv_lneg F.x F.b hdg (k H locs ls hm hS hL hz)
theorem V_lshl (F : FX G X own cc ret d rc rs) {x : Int64} {y : Int32} (hdg : decode cc pc = .ok (.lshl, 1)) (k : V G X cells slots Q M n (pc + 1) L (.long (x <<< (y.toInt64 &&& 63)) :: st)) : V G X cells slots Q M n pc L (.int y :: .long x :: st) := fun H locs ls hm hS hL hz => lv_lshl F.x F.b hdg rfl (k H locs ls hm hS hL hz)
theorem V_i2l (F : FX G X own cc ret d rc rs) {x : Int32} (hdg : decode cc pc = .ok (.i2l, 1)) (k : V G X cells slots Q M n (pc + 1) L (.long x.toInt64 :: st)) : V G X cells slots Q M n pc L (.int x :: st) := fun H locs ls hm hS hL hz => t_i2l F.x F.b hdg rfl (k H locs ls hm hS hL hz)
theorem V_l2i (F : FX G X own cc ret d rc rs) {x : Int64} (hdg : decode cc pc = .ok (.l2i, 1)) (k : V G X cells slots Q M n (pc + 1) L (.int x.toInt32 :: st)) : V G X cells slots Q M n pc L (.long x :: st) := fun H locs ls hm hS hL hz => t_l2i F.x F.b hdg rfl (k H locs ls hm hS hL hz)
theorem V_i2s (F : FX G X own cc ret d rc rs) {x : Int32} (hdg : decode cc pc = .ok (.i2s, 1)) (k : V G X cells slots Q M n (pc + 1) L (.int x.toInt16.toInt32 :: st)) : V G X cells slots Q M n pc L (.int x :: st) := fun H locs ls hm hS hL hz => lv_i2s F.x F.b hdg rfl (k H locs ls hm hS hL hz)
theorem V_lcmp (F : FX G X own cc ret d rc rs) {x y : Int64} (hdg : decode cc pc = .ok (.lcmp, 1)) (k : V G X cells slots Q M n (pc + 1) L (.int (lg_cmp x y) :: st)) : V G X cells slots Q M n pc L (.long y :: .long x :: st) := fun H locs ls hm hS hL hz => W.lcmp F.x F.b hdg (k H locs ls hm hS hL hz)
theorem V_dup (F : FX G X own cc ret d rc rs) {v : Value} (hdg : decode cc pc = .ok (.dup, 1)) (hc : v.category = 1) (k : V G X cells slots Q M n (pc + 1) L (v :: v :: st)) : V G X cells slots Q M n pc L (v :: st) := fun H locs ls hm hS hL hz => lv_dup F.x F.b hdg hc (k H locs ls hm hS hL hz)
theorem V_dup2 (F : FX G X own cc ret d rc rs) {v w : Value} (hdg : decode cc pc = .ok (.dup2, 1)) (hc : v.category = 1) (hc2 : w.category = 1) (k : V G X cells slots Q M n (pc + 1) L (v :: w :: v :: w :: st)) : V G X cells slots Q M n pc L (v :: w :: st) := fun H locs ls hm hS hL hz => lv_dup2_11 F.x F.b hdg hc hc2 (k H locs ls hm hS hL hz)
theorem V_pop (F : FX G X own cc ret d rc rs) {v : Value} (hdg : decode cc pc = .ok (.pop, 1)) (hc : v.category = 1) (k : V G X cells slots Q M n (pc + 1) L st) : V G X cells slots Q M n pc L (v :: st) := fun H locs ls hm hS hL hz => lv_pop F.x F.b hdg hc (k H locs ls hm hS hL hz)
theorem V_if_eq (F : FX G X own cc ret d rc rs) {x : Int32} {off : Int} (tgt : Nat) (hdg : decode cc pc = .ok (.ifCond .eq off, 3)) (ht : (pc : Int) + off = (tgt : Int)) (kt : x = 0 → V G X cells slots Q M n tgt L st) (kf : ¬ x = 0 → V G X cells slots Q M n (pc + 3) L st) : V G X cells slots Q M n pc L (.int x :: st) := fun H locs ls hm hS hL hz => lv_if_eq F.x F.b hdg ht (fun q => kt q H locs ls hm hS hL hz) (fun q => kf q H locs ls hm hS hL hz)
theorem V_if_ne (F : FX G X own cc ret d rc rs) {x : Int32} {off : Int} (tgt : Nat) (hdg : decode cc pc = .ok (.ifCond .ne off, 3)) (ht : (pc : Int) + off = (tgt : Int)) (kt : ¬ x = 0 → V G X cells slots Q M n tgt L st) (kf : x = 0 → V G X cells slots Q M n (pc + 3) L st) : V G X cells slots Q M n pc L (.int x :: st) := fun H locs ls hm hS hL hz => lv_if_ne F.x F.b hdg ht (fun q => kt q H locs ls hm hS hL hz) (fun q => kf q H locs ls hm hS hL hz)
theorem V_if_lt (F : FX G X own cc ret d rc rs) {x : Int32} {off : Int} (tgt : Nat) (hdg : decode cc pc = .ok (.ifCond .lt off, 3)) (ht : (pc : Int) + off = (tgt : Int)) (kt : x < 0 → V G X cells slots Q M n tgt L st) (kf : ¬ x < 0 → V G X cells slots Q M n (pc + 3) L st) : V G X cells slots Q M n pc L (.int x :: st) := fun H locs ls hm hS hL hz => lv_if_lt F.x F.b hdg ht (fun q => kt q H locs ls hm hS hL hz) (fun q => kf q H locs ls hm hS hL hz)
theorem V_if_ge (F : FX G X own cc ret d rc rs) {x : Int32} {off : Int} (tgt : Nat) (hdg : decode cc pc = .ok (.ifCond .ge off, 3)) (ht : (pc : Int) + off = (tgt : Int)) (kt : 0 ≤ x → V G X cells slots Q M n tgt L st) (kf : ¬ 0 ≤ x → V G X cells slots Q M n (pc + 3) L st) : V G X cells slots Q M n pc L (.int x :: st) := fun H locs ls hm hS hL hz => lv_if_ge F.x F.b hdg ht (fun q => kt q H locs ls hm hS hL hz) (fun q => kf q H locs ls hm hS hL hz)
theorem V_if_gt (F : FX G X own cc ret d rc rs) {x : Int32} {off : Int} (tgt : Nat) (hdg : decode cc pc = .ok (.ifCond .gt off, 3)) (ht : (pc : Int) + off = (tgt : Int)) (kt : 0 < x → V G X cells slots Q M n tgt L st) (kf : ¬ 0 < x → V G X cells slots Q M n (pc + 3) L st) : V G X cells slots Q M n pc L (.int x :: st) := fun H locs ls hm hS hL hz => lv_if_gt F.x F.b hdg ht (fun q => kt q H locs ls hm hS hL hz) (fun q => kf q H locs ls hm hS hL hz)
theorem V_if_le (F : FX G X own cc ret d rc rs) {x : Int32} {off : Int} (tgt : Nat) (hdg : decode cc pc = .ok (.ifCond .le off, 3)) (ht : (pc : Int) + off = (tgt : Int)) (kt : x ≤ 0 → V G X cells slots Q M n tgt L st) (kf : ¬ x ≤ 0 → V G X cells slots Q M n (pc + 3) L st) : V G X cells slots Q M n pc L (.int x :: st) := fun H locs ls hm hS hL hz => lv_if_le F.x F.b hdg ht (fun q => kt q H locs ls hm hS hL hz) (fun q => kf q H locs ls hm hS hL hz)
theorem V_icmp_eq (F : FX G X own cc ret d rc rs) {x y : Int32} {off : Int} (tgt : Nat) (hdg : decode cc pc = .ok (.if_icmp .eq off, 3)) (ht : (pc : Int) + off = (tgt : Int)) (kt : x = y → V G X cells slots Q M n tgt L st) (kf : ¬ x = y → V G X cells slots Q M n (pc + 3) L st) : V G X cells slots Q M n pc L (.int y :: .int x :: st) := fun H locs ls hm hS hL hz => lv_icmp_eq F.x F.b hdg ht (fun q => kt q H locs ls hm hS hL hz) (fun q => kf q H locs ls hm hS hL hz)
theorem V_icmp_ne (F : FX G X own cc ret d rc rs) {x y : Int32} {off : Int} (tgt : Nat) (hdg : decode cc pc = .ok (.if_icmp .ne off, 3)) (ht : (pc : Int) + off = (tgt : Int)) (kt : ¬ x = y → V G X cells slots Q M n tgt L st) (kf : x = y → V G X cells slots Q M n (pc + 3) L st) : V G X cells slots Q M n pc L (.int y :: .int x :: st) := fun H locs ls hm hS hL hz => lv_icmp_ne F.x F.b hdg ht (fun q => kt q H locs ls hm hS hL hz) (fun q => kf q H locs ls hm hS hL hz)
theorem V_icmp_lt (F : FX G X own cc ret d rc rs) {x y : Int32} {off : Int} (tgt : Nat) (hdg : decode cc pc = .ok (.if_icmp .lt off, 3)) (ht : (pc : Int) + off = (tgt : Int)) (kt : x < y → V G X cells slots Q M n tgt L st) (kf : ¬ x < y → V G X cells slots Q M n (pc + 3) L st) : V G X cells slots Q M n pc L (.int y :: .int x :: st) := fun H locs ls hm hS hL hz => lv_icmp_lt F.x F.b hdg ht (fun q => kt q H locs ls hm hS hL hz) (fun q => kf q H locs ls hm hS hL hz)
theorem V_icmp_ge (F : FX G X own cc ret d rc rs) {x y : Int32} {off : Int} (tgt : Nat) (hdg : decode cc pc = .ok (.if_icmp .ge off, 3)) (ht : (pc : Int) + off = (tgt : Int)) (kt : y ≤ x → V G X cells slots Q M n tgt L st) (kf : ¬ y ≤ x → V G X cells slots Q M n (pc + 3) L st) : V G X cells slots Q M n pc L (.int y :: .int x :: st) := fun H locs ls hm hS hL hz => lv_icmp_ge F.x F.b hdg ht (fun q => kt q H locs ls hm hS hL hz) (fun q => kf q H locs ls hm hS hL hz)
theorem V_icmp_gt (F : FX G X own cc ret d rc rs) {x y : Int32} {off : Int} (tgt : Nat) (hdg : decode cc pc = .ok (.if_icmp .gt off, 3)) (ht : (pc : Int) + off = (tgt : Int)) (kt : y < x → V G X cells slots Q M n tgt L st) (kf : ¬ y < x → V G X cells slots Q M n (pc + 3) L st) : V G X cells slots Q M n pc L (.int y :: .int x :: st) := fun H locs ls hm hS hL hz => lv_icmp_gt F.x F.b hdg ht (fun q => kt q H locs ls hm hS hL hz) (fun q => kf q H locs ls hm hS hL hz)
theorem V_icmp_le (F : FX G X own cc ret d rc rs) {x y : Int32} {off : Int} (tgt : Nat) (hdg : decode cc pc = .ok (.if_icmp .le off, 3)) (ht : (pc : Int) + off = (tgt : Int)) (kt : x ≤ y → V G X cells slots Q M n tgt L st) (kf : ¬ x ≤ y → V G X cells slots Q M n (pc + 3) L st) : V G X cells slots Q M n pc L (.int y :: .int x :: st) := fun H locs ls hm hS hL hz => lv_icmp_le F.x F.b hdg ht (fun q => kt q H locs ls hm hS hL hz) (fun q => kf q H locs ls hm hS hL hz)
theorem V_goto (F : FX G X own cc ret d rc rs) {off : Int} (tgt : Nat) (hdg : decode cc pc = .ok (.goto off, 3)) (ht : (pc : Int) + off = (tgt : Int)) (k : V G X cells slots Q M n tgt L st) : V G X cells slots Q M n pc L st := fun H locs ls hm hS hL hz => lv_goto F.x F.b hdg ht (k H locs ls hm hS hL hz)
theorem V_tableOut (F : FX G X own cc ret d rc rs) {df lo hi : Int} {offs : Array Int} {len : Nat} {x : Int32} (tgt : Nat) (hdg : decode cc pc = .ok (.tableswitch df lo hi offs, len)) (h : x.toInt < lo ∨ hi < x.toInt) (ht : (pc : Int) + df = (tgt : Int)) (k : V G X cells slots Q M n tgt L st) : V G X cells slots Q M n pc L (.int x :: st) := fun H locs ls hm hS hL hz => lv_tableOut F.x F.b hdg h ht (k H locs ls hm hS hL hz)
theorem V_tableIn (F : FX G X own cc ret d rc rs) {df lo hi off : Int} {offs : Array Int} {len : Nat} {x : Int32} (tgt : Nat) (hdg : decode cc pc = .ok (.tableswitch df lo hi offs, len)) (h1 : ¬ x.toInt < lo) (h2 : ¬ hi < x.toInt) (ho : offs[(x.toInt - lo).toNat]? = some off) (ht : (pc : Int) + off = (tgt : Int)) (k : V G X cells slots Q M n tgt L st) : V G X cells slots Q M n pc L (.int x :: st) := fun H locs ls hm hS hL hz => lv_tableIn F.x F.b hdg h1 h2 ho ht (k H locs ls hm hS hL hz)
theorem mem.P {G : GP} {M : Mem} {n : Option Nat} {H : Heap} {a : Nat} {e : va_E} (h : mem G M n H) (ha : M a = some e) : va_P (gD G) vwCl [(a, e)] H := fun k q hk => by
  match k, hk with
  | 0, hk => cases hk; exact (h.2 a e ha).2
  | k + 1, hk => simp at hk
theorem mem.put {G : GP} {M : Mem} {n : Option Nat} {H H1 : Heap} {a : Nat} {e0 e : va_E} (h : mem G M n H) (ha : M a = some e0) (he : va_at (gD G) vwCl (a, e) H1) (hz : H1.size = H.size) (hq : ∀ q : Nat, q ≠ a → H1[q]? = H[q]?) : mem G (mset M a e) n H1 := by
  refine ⟨fun k hk => hz.trans (h.1 k hk), fun b e2 hb => ?_⟩
  by_cases hba : b = a
  · subst hba
    rw [mset_eq] at hb
    cases hb
    exact ⟨(h.2 _ _ ha).1, he⟩
  · rw [mset_ne _ _ hba] at hb
    exact ⟨(h.2 _ _ hb).1, (h.2 _ _ hb).2.kept (hq b hba)⟩
theorem V_get (F : FX G X own cc ret d rc rs) {i ci j N a : Nat} {C : String} {T : u_T} {ty : FieldType} {fin : Bool} {fs : List Value} {v : Value} (w : FL own i ci j C T N ty fin) (hdg : decode cc pc = .ok (.getfield i, 3)) (hM : M a = some (eO ci fs)) (hv : fs[j]? = some v) (k : V G X cells slots Q M n (pc + 3) L (v :: st)) : V G X cells slots Q M n pc L (.ref a :: st) := fun H locs ls hm hS hL hz =>
  va_get (D := gD G) F.x F.b F.t (cls_ok ci _ w.1).1 F.o F.K (mem.P hm hM) 0 rfl w.1 j w.2.1 (F.t _ w.2.2.1) (fun _ h9 => h9) hv hdg (k H locs ls hm hS hL hz)
theorem V_put (F : FX G X own cc ret d rc rs) {i ci j N a : Nat} {C : String} {T : u_T} {ty : FieldType} {fs : List Value} {v : Value} (w : FL own i ci j C T N ty false) (hdg : decode cc pc = .ok (.putfield i, 3)) (hM : M a = some (eO ci fs)) (hn : narrow ty v = v) (hfit : fits ty v = true) (hl : j < fs.length) (k : V G X cells slots Q (mset M a (eO ci (fs.set j v))) n (pc + 3) L st) : V G X cells slots Q M n pc L (v :: .ref a :: st) := fun H locs ls hm hS hL hz => by
  obtain ⟨hin, ⟨ty0, hty⟩, hnm⟩ := cls_ok ci _ w.1
  have hap := va_apart (own := own) F.t hin ty0 hty hnm F.K w.1
  obtain ⟨r, h1, cell, q1, q2, q3, q4⟩ := (hm.2 _ _ hM).2
  have hr : r = (C, T, N) := Option.some.inj (h1.symm.trans w.1)
  subst hr
  obtain ⟨hSl, hfc, kC, hkC, hkind⟩ := F.K.1 ci _ w.1
  obtain ⟨cf, kf, fi, f, hi, hsl⟩ := hSl j w.2.1
  have hlay := F.t _ (hin _ (u_in_lay w.2.1))
  unfold u_lay at hlay
  rw [if_neg (by rw [w.2.2.2.2]; decide)] at hlay
  have hst := (u_facts hfc hkC (u_lays F.t hin w.2.1) hi).1
  have h6 := u_store hfc hkC hkind hlay hi w.2.2.2.1 hn hfit
  refine W.putK F.x F.b (f := f) ⟨F.o, F.t _ w.2.2.1, ⟨_, _, _, hi⟩, hst⟩ (by rw [q2]; exact h6) q1 q3 (by rw [hsl]; exact k2_hasslot (q4 j w.2.1)) rfl rfl hdg fun H' e1 e2 e3 => ?_
  rw [hsl] at e1 ⊢
  exact k H' _ ls (mem.put hm hM ⟨_, w.1, t_OB.to (V := updV (vp_V fs) j v) ⟨_, e1, q2, q3, t_set q4 hap w.2.1 v⟩ (fun z _ => vp_updV_set hl v z)⟩ e2 e3) (hS.put e2 e3 (hm.2 _ _ hM).1) hL hz
theorem V_putF (F : FX G X own cc ret d rc rs) (hnm0 : (xmeth X).name = "<init>") {i ci j N a : Nat} {C : String} {T : u_T} {ty : FieldType} {fs : List Value} {v : Value} (w : FL own i ci j C T N ty true) (hdecl : (T j).1 = own) (hdg : decode cc pc = .ok (.putfield i, 3)) (hM : M a = some (eO ci fs)) (hn : narrow ty v = v) (hfit : fits ty v = true) (hl : j < fs.length) (k : V G X cells slots Q (mset M a (eO ci (fs.set j v))) n (pc + 3) L st) : V G X cells slots Q M n pc L (v :: .ref a :: st) := fun H locs ls hm hS hL hz => by
  obtain ⟨hin, ⟨ty0, hty⟩, hnm⟩ := cls_ok ci _ w.1
  have hap := va_apart (own := own) F.t hin ty0 hty hnm F.K w.1
  obtain ⟨r, h1, cell, q1, q2, q3, q4⟩ := (hm.2 _ _ hM).2
  have hr : r = (C, T, N) := Option.some.inj (h1.symm.trans w.1)
  subst hr
  obtain ⟨hSl, hfc, kC, hkC, hkind⟩ := F.K.1 ci _ w.1
  obtain ⟨cf, kf, fi, f, hi, hsl⟩ := hSl j w.2.1
  have hlay := F.t _ (hin _ (u_in_lay w.2.1))
  unfold u_lay at hlay
  rw [if_pos w.2.2.2.2] at hlay
  have hst := (u_facts hfc hkC (u_lays F.t hin w.2.1) hi).1
  have hcf : (xm X).cls = cf := by
    obtain ⟨_, _, c', _, _, _, -, -, hf', -, -, -, hown2, -⟩ := Cond.laysFinal_spec hlay
    have e1 : c' = cf := by have := hi.symm.trans hf'; simp at this; exact this.1.symm
    rw [hdecl] at hown2
    rw [← e1]; exact Option.some.inj (F.o.symm.trans hown2)
  have h6 := u_fits hfc hkC hkind (Or.inr hlay) hi w.2.2.2.1 hn hfit
  refine W.putFinK F.x F.b F.o (F.t _ w.2.2.1) hi hst hcf hnm0 (by rw [q2]; exact h6) q1 q3 (by rw [hsl]; exact k2_hasslot (q4 j w.2.1)) rfl rfl hdg fun H' e1 e2 e3 => ?_
  rw [hsl] at e1 ⊢
  exact k H' _ ls (mem.put hm hM ⟨_, w.1, t_OB.to (V := updV (vp_V fs) j v) ⟨_, e1, q2, q3, t_set q4 hap w.2.1 v⟩ (fun z _ => vp_updV_set hl v z)⟩ e2 e3) (hS.put e2 e3 (hm.2 _ _ hM).1) hL hz
theorem V_iald (F : FX G X own cc ret d rc rs) {a N : Nat} {f : Nat → Int32} {i : Int32} (hdg : decode cc pc = .ok (.iaload, 1)) (hM : M a = some (eI (gT G) N f)) (hin : vp_in i N) (k : V G X cells slots Q M n (pc + 1) L (.int (f i.toNatClampNeg) :: st)) : V G X cells slots Q M n pc L (.int i :: .ref a :: st) := fun H locs ls hm hS hL hz => va_iald F.x F.b F.K (mem.P hm hM) 0 0 rfl rfl hin hdg (k H locs ls hm hS hL hz)
theorem V_lald (F : FX G X own cc ret d rc rs) {a N : Nat} {f : Nat → Int64} {i : Int32} (hdg : decode cc pc = .ok (.laload, 1)) (hM : M a = some (eJ (gT G) N f)) (hin : vp_in i N) (k : V G X cells slots Q M n (pc + 1) L (.long (f i.toNatClampNeg) :: st)) : V G X cells slots Q M n pc L (.int i :: .ref a :: st) := fun H locs ls hm hS hL hz => va_lald F.x F.b F.K (mem.P hm hM) 0 1 rfl rfl hin hdg (k H locs ls hm hS hL hz)
theorem V_aald (F : FX G X own cc ret d rc rs) {a N x : Nat} (j : Nat) {ty : FieldType} {f : Nat → Option Nat} {i : Int32} (hdg : decode cc pc = .ok (.aaload, 1)) (hM : M a = some (eQ (gT G) j N f)) (hj : (tysOf (gT G))[j]? = some (gT G j, ty)) (hty : ty.isReference = true) (hin : vp_in i N) (hx : f i.toNatClampNeg = some x) (k : V G X cells slots Q M n (pc + 1) L (.ref x :: st)) : V G X cells slots Q M n pc L (.int i :: .ref a :: st) := fun H locs ls hm hS hL hz => by
  have hlt : i.toNatClampNeg < N := Nat.not_le.mp fun q => hin (Or.inr q)
  refine W.aald (v := .ref x) (ty := ty) F.x F.b ((hm.2 _ _ hM).2) ((F.K.2 j _ hj).1 N (fun z => va_rf (f z))) hty (fun q => by cases q) (by show ¬ (i < 0 ∨ (arrV _ _ _).slots.size ≤ _); rw [arrV_size]; exact hin) ?_ rfl rfl hdg (k H locs ls hm hS hL hz)
  show (arrV _ _ _).slots[_]? = _
  rw [arrV_read _ _ hlt, hx]
  rfl
theorem V_iast (F : FX G X own cc ret d rc rs) {a N : Nat} {f : Nat → Int32} {i x : Int32} (hdg : decode cc pc = .ok (.iastore, 1)) (hM : M a = some (eI (gT G) N f)) (hin : vp_in i N) (k : V G X cells slots Q (mset M a (eI (gT G) N (va_up f i.toNatClampNeg x))) n (pc + 1) L st) : V G X cells slots Q M n pc L (.int x :: .int i :: .ref a :: st) := fun H locs ls hm hS hL hz => by
  refine W.iast F.x F.b (hm.2 _ _ hM).2 ((F.K.2 0 _ rfl).1 N (fun j => .int (f j))) (fun q => by cases q) (by show ¬ (i < 0 ∨ (arrV _ _ _).slots.size ≤ _); rw [arrV_size]; exact hin) rfl rfl hdg fun H1 e z oq => ?_
  refine k H1 _ ls (mem.put hm hM ?_ z oq) (hS.put z oq (hm.2 _ _ hM).1) hL hz
  show H1[a]? = some (vp_cell _ _)
  rw [e, vp_cell_i, vp_cell_i, arrV_store]
  congr 2
  funext q
  by_cases hq : q = i.toNatClampNeg
  · subst hq
    simp [updV, va_up]
  · simp [updV, va_up, hq]
theorem V_last (F : FX G X own cc ret d rc rs) {a N : Nat} {f : Nat → Int64} {i : Int32} {x : Int64} (hdg : decode cc pc = .ok (.lastore, 1)) (hM : M a = some (eJ (gT G) N f)) (hin : vp_in i N) (k : V G X cells slots Q (mset M a (eJ (gT G) N (va_up f i.toNatClampNeg x))) n (pc + 1) L st) : V G X cells slots Q M n pc L (.long x :: .int i :: .ref a :: st) := fun H locs ls hm hS hL hz => by
  refine W.last F.x F.b (hm.2 _ _ hM).2 ((F.K.2 1 _ rfl).1 N (fun j => .long (f j))) (fun q => by cases q) (by show ¬ (i < 0 ∨ (arrV _ _ _).slots.size ≤ _); rw [arrV_size]; exact hin) rfl rfl hdg fun H1 e z oq => ?_
  refine k H1 _ ls (mem.put hm hM ?_ z oq) (hS.put z oq (hm.2 _ _ hM).1) hL hz
  show H1[a]? = some (vp_cell _ _)
  rw [e, vp_cell_l, vp_cell_l, arrV_store]
  congr 2
  funext q
  by_cases hq : q = i.toNatClampNeg
  · subst hq
    simp [updV, va_up]
  · simp [updV, va_up, hq]
theorem V_aast (F : FX G X own cc ret d rc rs) {a N x ci : Nat} (j : Nat) {r : vw_C} {fs : List Value} {f : Nat → Option Nat} {i : Int32} (hdg : decode cc pc = .ok (.aastore, 1)) (hM : M a = some (eQ (gT G) j N f)) (hj : (tysOf (gT G))[j]? = some (gT G j, .object r.1)) (hx : M x = some (eO ci fs)) (hr : vwCl[ci]? = some r) (hin : vp_in i N) (k : V G X cells slots Q (mset M a (eQ (gT G) j N (va_up f i.toNatClampNeg (some x)))) n (pc + 1) L st) : V G X cells slots Q M n pc L (.ref x :: .int i :: .ref a :: st) := fun H locs ls hm hS hL hz => by
  have hlt : i.toNatClampNeg < N := Nat.not_le.mp fun q => hin (Or.inr q)
  have h0 : ¬ i < 0 := fun q => hin (Or.inl q)
  obtain ⟨r', hr', cellV, g1, g2, g3, -⟩ := (hm.2 _ _ hx).2
  have hcls := (F.K.1 ci r hr).2
  obtain ⟨kA, comp, k1, k2, k3, -⟩ := (F.K.2 j _ hj).2
  have hcomp : comp = (gD G).1 ci := Option.some.inj (k3.symm.trans hcls.1)
  subst hcomp
  obtain ⟨kC, hkC, -⟩ := hcls.2
  refine W.aast F.x F.b (hm.2 _ _ hM).2 (fun q h => by cases h) (fun h => by cases h) k1 k2 rfl hkC ⟨h0, by show _ < (arrV _ _ _).slots.size; rw [arrV_size]; exact hlt⟩ g1 (fun q h => by rw [g3] at h; cases h) (by rw [g2]; exact hkC) (by rw [g2]; exact va_assign hcls) rfl rfl hdg fun H1 e z oq => ?_
  refine k H1 _ ls (mem.put hm hM ?_ z oq) (hS.put z oq (hm.2 _ _ hM).1) hL hz
  show H1[a]? = some (vp_cell _ _)
  rw [e, vp_cell_q, vp_cell_q, arrV_store]
  congr 2
  funext q
  by_cases hq : q = i.toNatClampNeg
  · subst hq
    simp [updV, va_up, va_rf]
  · simp [updV, va_up, hq]
theorem V_alen (F : FX G X own cc ret d rc rs) {a : Nat} (j : Nat) {x : vp_A} {ty : FieldType} {c : Int32} (hdg : decode cc pc = .ok (.arraylength, 1)) (hM : M a = some (.inl (gT G j, x))) (hj : (tysOf (gT G))[j]? = some (gT G j, ty)) (hv : Int32.ofNat x.1 = c) (k : V G X cells slots Q M n (pc + 1) L (.int c :: st)) : V G X cells slots Q M n pc L (.ref a :: st) := fun H locs ls hm hS hL hz => va_alen F.x F.b F.K (mem.P hm hM) 0 j rfl hj hv hdg (k H locs ls hm hS hL hz)
theorem V_gets (F : FX G X own cc ret d rc rs) {i : Nat} (hdg : decode cc pc = .ok (.getstatic i, 3)) (hw : Cond.fieldLink own i "TouchingCoins$Remainders" "WEIGHT" "[I" ∈ gtbl) (k : V G X cells slots Q M n (pc + 3) L (.ref (gw G) :: st)) : V G X cells slots Q M n pc L st := fun H locs ls hm hS hL hz => va_gets F.x F.b F.s.1 hS F.o (F.t _ hw) (fun _ h => h) hdg (k H locs ls hm hS hL hz)
theorem V_tald (F : FX G X own cc ret d rc rs) {i : Int32} (hdg : decode cc pc = .ok (.iaload, 1)) (hin : vp_in i 4) (k : V G X cells slots Q M n (pc + 1) L (.int (wt i.toNatClampNeg) :: st)) : V G X cells slots Q M n pc L (.int i :: .ref (gw G) :: st) := fun H locs ls hm hS hL hz => va_ti F.x F.b F.s.2 hS hin rfl hdg (k H locs ls hm hS hL hz)
theorem V_iret (F : FX G X own cc ret d rc rs) {v : Int32} {ty : FieldType} {post : Option Value → Mem → Option Nat → Prop} (hr : ret = some ty) (hdg : decode cc pc = .ok (.ireturn, 1)) (hn : narrow ty (.int v) = .int v) (hp : post (some (.int v)) M n) : V G X cells slots (BQ G X post cells slots) M n pc L [.int v] := fun H locs ls hm hS hL hz => W.zret F.x F.b (F.r.trans hr) hn (fun t ht hW => ⟨_, M, n, rfl, hp, by rw [ht]; exact hm, hS.F ht⟩) hS.2.2 hdg F.k
theorem V_lret (F : FX G X own cc ret d rc rs) {v : Int64} {post : Option Value → Mem → Option Nat → Prop} (hr : ret = some .long) (hdg : decode cc pc = .ok (.lreturn, 1)) (hp : post (some (.long v)) M n) : V G X cells slots (BQ G X post cells slots) M n pc L [.long v] := fun H locs ls hm hS hL hz => W.lret F.x F.b (F.r.trans hr) (fun t ht hW => ⟨_, M, n, rfl, hp, by rw [ht]; exact hm, hS.F ht⟩) hS.2.2 hdg F.k
theorem V_vret (F : FX G X own cc ret d rc rs) {post : Option Value → Mem → Option Nat → Prop} (hr : ret = none) (hdg : decode cc pc = .ok (.return_, 1)) (hp : post none M n) : V G X cells slots (BQ G X post cells slots) M n pc L [] := fun H locs ls hm hS hL hz => W.vret F.x F.b (F.r.trans hr) (fun t ht hW => ⟨_, M, n, rfl, hp, by rw [ht]; exact hm, hS.F ht⟩) hS.2.2 hdg F.k
theorem V_widen {k1 k2 : Nat} (h1 : cells ≤ k1) (h2 : slots ≤ k2) (k : V G X k1 k2 Q M n pc L st) : V G X cells slots Q M n pc L st := fun H locs ls hm hS hL hz => W.widen h1 h2 (k H locs ls hm hS hL hz)
theorem V_oi (F : FX G X own cc ret d rc rs) {i a : Nat} (hw : Cond.methodLink own i objectInit ∈ gtbl) (hw2 : Cond.instanceMethod objectInit ∈ gtbl) (hw3 : Cond.code objectInit ⟨#[0xb1]⟩ 1 none ∈ gtbl) (hdg : decode cc pc = .ok (.invokespecial i, 3)) (hd : 1 ≤ d) (hW : (st.map fun v => v.category).sum ≤ 8) (k : V G X cells slots Q M n (pc + 3) L st) : V G X cells slots Q M n pc L (.ref a :: st) := fun H locs ls hm hS hL hz => by
  have h1 := F.d.1
  have h2 := F.d.2.1
  refine W.objInit F.x F.b F.o (F.t _ hw) (F.t _ hw2) (F.t _ hw3) rfl (hL.1.trans hz) rfl hdg (by omega) ?_ (k H locs ls hm hS hL hz)
  show 2 * 0 + _ + 12 ≤ _
  omega
theorem V_new (F : FX G X own cc ret d rc rs) {i ci N h : Nat} {C : String} {T : u_T} {ty : Nat → FieldType} {fs : List Value} (hci : vwCl[ci]? = some (C, T, N)) (hty : ∀ k, k < N → parseFieldDescriptor (T k).2.2.1 = some (ty k)) (hcl : Cond.classLink own i C ∈ gtbl) (hins : Cond.instantiable C N ∈ gtbl) (hini : Cond.initialized C ∈ gtbl) (hfs : ∀ j, j < N → defaultValue (ty j) = vp_V fs j) (hdg : decode cc pc = .ok (.new i, 3)) (hc1 : cells + 1 ≤ rc) (hc2 : slots + N ≤ rs) (hMh : M h = none)
    (k : V G X (cells + 1) (slots + N) Q (mset M h (eO ci fs)) (some (h + 1)) (pc + 3) L (.ref h :: st)) : V G X cells slots Q M (some h) pc L st := fun H locs ls hm hS hL hz => by
  have hKn := F.K.1 ci _ hci
  have hsz : H.size = h := hm.1 h rfl
  refine W.newcK F.x F.b F.o (F.t _ hcl) (F.t _ hins) (F.t _ hini) rfl hdg (Nat.le_trans hc1 F.d.2.2.1) (Nat.le_trans hc2 F.d.2.2.2) hKn.2.1 hsz fun H1 kC hkC e1 z1 o1 => ?_
  have hk : ∀ q, q < H.size → H1[q]? = H[q]? := fun q hq => o1 q (by omega)
  refine k H1 locs ls ⟨fun q hq => by cases hq; exact z1, fun b e2 hb => ?_⟩ ⟨by have := hS.1; omega, fun x q1 q2 => (hk x (Nat.lt_of_lt_of_le q1 hS.1)).trans (hS.2.1 x q1 q2), hS.2.2⟩ hL hz
  by_cases hba : b = h
  · subst hba
    rw [mset_eq] at hb
    cases hb
    refine ⟨?_, _, hci, (u_born ty F.t (cls_ok ci _ hci).1 hKn hkC e1 hty).to hfs⟩
    have := F.B
    have := hS.1
    omega
  · rw [mset_ne _ _ hba] at hb
    exact ⟨(hm.2 _ _ hb).1, (hm.2 _ _ hb).2.kept (hk b ((hm.2 _ _ hb).2.lt))⟩
theorem V_newA (F : FX G X own cc ret d rc rs) {at_ : ArrayType} {ty : FieldType} {c : Int32} {N h : Nat} {a0 : vp_A} (j : Nat) (hw : Cond.arrayClass (newarray.typeOf at_) ∈ gtbl) (hty : newarray.typeOf at_ = ty) (hj : (tysOf (gT G))[j]? = some (gT G j, ty)) (hra : ∀ (U : State) (cA : ClassId), va_RA U cA ty → U.vm.findClass ("[" ++ ty.toString) = some cA) (ha : ∀ cA : ClassId, vp_cell cA a0 = arrV cA N (fun _ => defaultValue ty)) (hdg : decode cc pc = .ok (.newarray at_, 2)) (hn : ¬ c < 0) (hN : c.toNatClampNeg = N) (hb : N * componentBytes ty ≤ 536870912) (hc1 : cells + 1 ≤ rc) (hc2 : slots + N ≤ rs)
    (k : V G X (cells + 1) (slots + N) Q (mset M h (.inl (gT G j, a0))) (some (h + 1)) (pc + 2) L (.ref h :: st)) : V G X cells slots Q M (some h) pc L (.int c :: st) := fun H locs ls hm hS hL hz => by
  have hsz : H.size = h := hm.1 h rfl
  subst hty
  refine va_newaK F.x F.b (F.t _ hw) rfl hdg rfl hn hN hb (Nat.le_trans hc1 F.d.2.2.1) (Nat.le_trans hc2 F.d.2.2.2) hsz fun H1 cA e1 z1 o1 hAr hNm => ?_
  have hcA : cA = gT G j := Option.some.inj (hNm.symm.trans (hra _ _ (F.K.2 j _ hj).2))
  subst hcA
  have hk : ∀ q, q < H.size → H1[q]? = H[q]? := fun q hq => o1 q (by omega)
  refine k H1 locs ls ⟨fun q hq => by cases hq; exact z1, fun b e2 hb => ?_⟩ ⟨by have := hS.1; omega, fun x q1 q2 => (hk x (Nat.lt_of_lt_of_le q1 hS.1)).trans (hS.2.1 x q1 q2), hS.2.2⟩ hL hz
  by_cases hba : b = h
  · subst hba
    rw [mset_eq] at hb
    cases hb
    refine ⟨by have := F.B; have := hS.1; omega, ?_⟩
    show H1[b]? = some (vp_cell _ _)
    rw [ha]
    exact e1
  · rw [mset_ne _ _ hba] at hb
    exact ⟨(hm.2 _ _ hb).1, (hm.2 _ _ hb).2.kept (hk b ((hm.2 _ _ hb).2.lt))⟩
theorem V_newQ (F : FX G X own cc ret d rc rs) {i N h : Nat} {C : String} {c : Int32} (j : Nat) (hw : Cond.classLink own i C ∈ gtbl) (hw2 : va_AO C (xs X)) (hj : (tysOf (gT G))[j]? = some (gT G j, .object C)) (hdg : decode cc pc = .ok (.anewarray i, 3)) (hn : ¬ c < 0) (hN : c.toNatClampNeg = N) (hb : N * 4 ≤ 536870912) (hc1 : cells + 1 ≤ rc) (hc2 : slots + N ≤ rs)
    (k : V G X (cells + 1) (slots + N) Q (mset M h (eQ (gT G) j N (fun _ => none))) (some (h + 1)) (pc + 3) L (.ref h :: st)) : V G X cells slots Q M (some h) pc L (.int c :: st) := fun H locs ls hm hS hL hz => by
  have hsz : H.size = h := hm.1 h rfl
  subst hsz
  subst hN
  refine W.anew F.x F.b F.o (F.t _ hw) (va_AO.use hw2) rfl hdg rfl hn hb (Nat.le_trans hc1 F.d.2.2.1) (Nat.le_trans hc2 F.d.2.2.2) fun cA kA comp f1 f2 f3 f4 => ?_
  obtain ⟨kA2, comp2, g1, g2, g3, g4⟩ := (F.K.2 j _ hj).2
  have hcA : cA = gT G j := Option.some.inj (f1.symm.trans g4)
  subst hcA
  generalize hH1 : H.push ({ cls := gT G j, slots := Array.replicate c.toNatClampNeg .null, vm := .none } : Cell) = H1
  have z1 : H1.size = H.size + 1 := by rw [← hH1, Array.size_push]
  have e1 : H1[H.size]? = some (arrV (gT G j) c.toNatClampNeg (fun _ => .null)) := by rw [← hH1, Array.getElem?_push_size, ← arrV_new]
  have hk : ∀ q : Nat, q < H.size → H1[q]? = H[q]? := fun q hq => by rw [← hH1, Array.getElem?_push, if_neg (Nat.ne_of_lt hq)]
  refine k H1 locs ls ⟨fun q hq => by cases hq; exact z1, fun b e2 hb => ?_⟩ ⟨by have := hS.1; omega, fun x q1 q2 => (hk x (Nat.lt_of_lt_of_le q1 hS.1)).trans (hS.2.1 x q1 q2), hS.2.2⟩ hL hz
  by_cases hba : b = H.size
  · subst hba
    rw [mset_eq] at hb
    cases hb
    refine ⟨by have := F.B; have := hS.1; omega, ?_⟩
    show H1[H.size]? = some (vp_cell _ _)
    rw [vp_cell_q]
    exact e1
  · rw [mset_ne _ _ hba] at hb
    exact ⟨(hm.2 _ _ hb).1, (hm.2 _ _ hb).2.kept (hk b ((hm.2 _ _ hb).2.lt))⟩
theorem V_back {g : JFrame} {v0 : Nat} {mc ms : Nat} {st0 : List Value} {a : Array Value} {post : Option Value → Mem → Option Nat → Prop} {H : Heap} {locs : List Loc} {ls : Array Slot} (hS : va_S (fun q => gB G ≤ q) (xs X).heap H locs) (hL : hasL ls L) (hz : L.length = (xc X).maxLocals)
    (hr : va_Run (xp X) (gl G) (xe X) (xR X) (xs X) (xm X) (xa X) (xb X) (xmeth X) (xc X) H locs cells slots mc ms (F0 (xm X) pc ls st0) st (QQ G post a) (fun q => gB G ≤ q))
    (kk : ∀ v M' n', post v M' n' → V G X (cells + mc) (slots + ms) Q M' n' (pc + 3) L (v.toList ++ st)) : W (xp X) (gl G) (xe X) (xR X) (xs X) (xm X) (xa X) (xb X) (xmeth X) (xc X) H locs cells slots Q (F0 (xm X) pc ls st0) := by
  intro T hT Xs
  obtain ⟨v, st₀, t, T', Lc, h0, X', hLc, e1, e2, ⟨v', M', n', hv, hp, hm', hz', hk'⟩, stp⟩ := hr T hT Xs
  cases hv
  rw [h0] at hz' hk'
  obtain ⟨t2, a1, b1⟩ := kk v M' n' hp T'.heap (locs ++ Lc) ls (by rw [e1]; exact hm') ⟨Nat.le_trans hS.1 (by rw [e1]; exact hz'), fun q q1 q2 => by rw [e1, hk' q (Nat.lt_of_lt_of_le q1 hS.1) q2]; exact hS.2.1 q q1 q2, fun q hq => by
      rcases List.mem_append.mp hq with h | h
      · exact hS.2.2 q h
      · exact hLc q h⟩ hL hz T' rfl X'
  exact ⟨t2, stp t2 a1, b1⟩
theorem V_pre (F : FX G X own cc ret d rc rs) {H : Heap} {locs : List Loc} {av : List Value} (hm : mem G M n H) (hS : va_S (fun q => gB G ≤ q) (xs X).heap H locs) : ∀ U : State, U.heap = H → (xs X).WarmedH U.vm → va_Pc av (Pre G M n) av.toArray U := fun U hU hW => ⟨rfl, by rw [hU]; exact hm, va_K.moved hW.alike F.K, stat.moved hW.alike (stat.kept F.s (fun a q1 q2 => by rw [hU]; exact hS.2.1 a q1 q2)), nst.warm hW F.n, by rw [hU]; exact Nat.le_trans F.B hS.1⟩
theorem V_iv (F : FX G X own cc ret d rc rs) {i mL na dc mc ms a ci N : Nat} {y : MethodName} {cd : ByteArray} {rt : Option FieldType} {T : u_T} {fs As st0 : List Value} {post : Option Value → Mem → Option Nat → Prop} (w : IV own i y cd mL rt na) (hdg : decode cc pc = .ok (.invokevirtual i, 3)) (hc : Con G y cd mL rt dc mc ms (.ref a :: As) M n post) (hM : M a = some (eO ci fs)) (hci : vwCl[ci]? = some (y.cls, T, N)) (hst : st0 = As.reverse ++ .ref a :: st) (hn : As.length = na) (hd : dc + 1 ≤ d) (hmL : mL ≤ 17) (hc1 : cells + mc ≤ rc) (hc2 : slots + ms ≤ rs) (hW : (st.map fun v => v.category).sum ≤ 8)
    (kk : ∀ v M' n', post v M' n' → V G X (cells + mc) (slots + ms) Q M' n' (pc + 3) L (v.toList ++ st)) : V G X cells slots Q M n pc L st0 := fun H locs ls hm hS hL hz => by
  have h1 := F.d.1
  have h2 := F.d.2.1
  refine V_back (v0 := 0) (g := F0 (xm X) pc ls st0) hS hL hz (va_runV (As := As) (rest := st) (nL := L.length) ⟨F.x, F.b, hz.symm, F.o, F.t⟩ hc (cwV (C := y.cls) na F.t (tbl_in ?_) rfl rfl rfl ⟨rfl, w.2.2.2.2.2⟩ ⟨Nat.le_trans hd h1, ?_⟩) ⟨Pre.blind, ?_, V_pre F hm hS⟩ rfl hn hL.1 hst ?_ hdg ⟨Nat.le_trans hc1 F.d.2.2.1, Nat.le_trans hc2 F.d.2.2.2⟩) kk
  · intro q hq
    unfold wsV at hq
    simp only [List.cons_append, List.nil_append, List.mem_cons] at hq
    rcases hq with rfl | rfl | rfl | rfl | rfl | hq
    · exact w.1
    · exact w.2.1
    · exact w.2.2.1
    · exact w.2.2.2.1
    · exact w.2.2.2.2.1
    · exact hq
  · show 8 + (mL + 11) + 36 * dc ≤ _
    omega
  · exact va_recv F.K (mem.P hm hM) hci (ci := ci) (q0 := 0) rfl
  · show 2 * 0 + _ ≤ 8
    omega
theorem V_is (F : FX G X own cc ret d rc rs) {i mL na dc mc ms : Nat} {y : MethodName} {cd : ByteArray} {rt : Option FieldType} {As st0 : List Value} {post : Option Value → Mem → Option Nat → Prop} (w : IS own i y cd mL rt na) (hdg : decode cc pc = .ok (.invokestatic i, 3)) (hc : Con G y cd mL rt dc mc ms As M n post) (hst : st0 = As.reverse ++ st) (hn : As.length = na) (hd : dc + 1 ≤ d) (hmL : mL ≤ 17) (hc1 : cells + mc ≤ rc) (hc2 : slots + ms ≤ rs) (hW : (st.map fun v => v.category).sum ≤ 8)
    (kk : ∀ v M' n', post v M' n' → V G X (cells + mc) (slots + ms) Q M' n' (pc + 3) L (v.toList ++ st)) : V G X cells slots Q M n pc L st0 := fun H locs ls hm hS hL hz => by
  have h1 := F.d.1
  have h2 := F.d.2.1
  refine V_back (v0 := 0) (g := F0 (xm X) pc ls st0) hS hL hz (va_runS (As := As) (rest := st) (nL := L.length) ⟨F.x, F.b, hz.symm, F.o, F.t⟩ hc (va_cwS na F.t (tbl_in ?_) rfl rfl rfl w.2.2.2.2 ⟨Nat.le_trans hd h1, ?_⟩) ⟨Pre.blind, V_pre F hm hS⟩ rfl hn hL.1 hst ?_ hdg ⟨Nat.le_trans hc1 F.d.2.2.1, Nat.le_trans hc2 F.d.2.2.2⟩) kk
  · intro q hq
    unfold va_wsS at hq
    simp only [List.cons_append, List.nil_append, List.mem_cons] at hq
    rcases hq with rfl | rfl | rfl | rfl | hq
    · exact w.1
    · exact w.2.1
    · exact w.2.2.1
    · exact w.2.2.2.1
    · exact hq
  · show 8 + (mL + 11) + 36 * dc ≤ _
    omega
  · show 2 * 0 + _ ≤ 8
    omega
theorem V_ic (F : FX G X own cc ret d rc rs) {i mL na dc mc ms a : Nat} {y : MethodName} {cd : ByteArray} {As st0 : List Value} {post : Option Value → Mem → Option Nat → Prop} (w : IC own i y cd mL na) (hdg : decode cc pc = .ok (.invokespecial i, 3)) (hc : Con G y cd mL none dc mc ms (.ref a :: As) M n post) (hst : st0 = As.reverse ++ .ref a :: st) (hn : As.length = na) (hd : dc + 1 ≤ d) (hmL : mL ≤ 17) (hc1 : cells + mc ≤ rc) (hc2 : slots + ms ≤ rs) (hW : (st.map fun v => v.category).sum ≤ 8)
    (kk : ∀ v M' n', post v M' n' → V G X (cells + mc) (slots + ms) Q M' n' (pc + 3) L (v.toList ++ st)) : V G X cells slots Q M n pc L st0 := fun H locs ls hm hS hL hz => by
  have h1 := F.d.1
  have h2 := F.d.2.1
  refine V_back (v0 := 0) (g := F0 (xm X) pc ls st0) hS hL hz (va_runI (As := As) (rest := st) (nL := L.length) ⟨F.x, F.b, hz.symm, F.o, F.t⟩ hc (cwI na F.t (tbl_in ?_) rfl rfl rfl (F.t _ w.2.2.1) (F.t _ w.1) (F.t _ w.2.1) w.2.2.2.2.1 w.2.2.2.2.2 ⟨Nat.le_trans hd h1, ?_⟩) ⟨Pre.blind, V_pre F hm hS⟩ rfl hn hL.1 hst ?_ hdg ⟨Nat.le_trans hc1 F.d.2.2.1, Nat.le_trans hc2 F.d.2.2.2⟩) kk
  · intro q hq
    rcases List.mem_cons.mp hq with rfl | hq
    · exact w.2.2.2.1
    · exact hq
  · show 8 + (mL + 11) + 36 * dc ≤ _
    omega
  · show 2 * 0 + _ ≤ 8
    omega
theorem V_ik (F : FX G X own cc ret d rc rs) {i mL na dc mc ms a : Nat} {y : MethodName} {host : String} {cd : ByteArray} {As st0 : List Value} {post : Option Value → Mem → Option Nat → Prop} (w : IK own i y host cd mL na) (hdg : decode cc pc = .ok (.invokespecial i, 3)) (hc : Con G y cd mL none dc mc ms (.ref a :: As) M n post) (hst : st0 = As.reverse ++ .ref a :: st) (hn : As.length = na) (hd : dc + 1 ≤ d) (hmL : mL ≤ 17) (hc1 : cells + mc ≤ rc) (hc2 : slots + ms ≤ rs) (hW : (st.map fun v => v.category).sum ≤ 8)
    (kk : ∀ v M' n', post v M' n' → V G X (cells + mc) (slots + ms) Q M' n' (pc + 3) L (v.toList ++ st)) : V G X cells slots Q M n pc L st0 := fun H locs ls hm hS hL hz => by
  have h1 := F.d.1
  have h2 := F.d.2.1
  refine V_back (v0 := 0) (g := F0 (xm X) pc ls st0) hS hL hz (va_runIN (As := As) (rest := st) (nL := L.length) ⟨F.x, F.b, hz.symm, F.o, F.t⟩ hc ⟨va_cnB na F.t (tbl_in ?_) rfl rfl rfl (F.n.1 _ w.1) (F.t _ w.2.2.1) w.2.2.2.2.2 ⟨Nat.le_trans hd h1, ?_⟩, w.2.2.2.2.1, F.t _ w.2.1⟩ ⟨Pre.blind, V_pre F hm hS⟩ rfl hn hL.1 hst ?_ hdg ⟨Nat.le_trans hc1 F.d.2.2.1, Nat.le_trans hc2 F.d.2.2.2⟩) kk
  · intro q hq
    rcases List.mem_cons.mp hq with rfl | hq
    · exact w.2.2.2.1
    · exact hq
  · show 8 + (mL + 11) + 36 * dc ≤ _
    omega
  · show 2 * 0 + _ ≤ 8
    omega
end VV
