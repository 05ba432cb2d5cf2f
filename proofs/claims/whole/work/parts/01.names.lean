-- ===== PART A: goes FIRST, ahead of the names: the tables' words, and 'selects' of the private methods out of them =====
/-- a private method of a class that the tables say can be made, by its rows of tables_1 -/
def lw_okq (q : MethodName × Nat) : Prop := (q.1.cls ≠ "java/lang/invoke/MethodHandle" ∧ q.1.cls ≠ "java/lang/invoke/VarHandle") ∧ Cond.instantiable q.1.cls q.2 ∈ tables_1 ∧ Cond.privateMethod q.1 ∈ tables_1 ∧ Cond.instanceMethod q.1 ∈ tables_1
theorem lw_p0 : lw_okq (⟨"TouchingCoins", "refusalOfPlaces", "(III)I"⟩, 8) := ⟨⟨by decide +kernel, by decide +kernel⟩, List.mem_of_getElem? (i := 14) (by decide +kernel), List.mem_of_getElem? (i := 187) (by decide +kernel), List.mem_of_getElem? (i := 188) (by decide +kernel)⟩
theorem lw_p1 : lw_okq (⟨"TouchingCoins", "keepDesk", "(II)I"⟩, 8) := ⟨⟨by decide +kernel, by decide +kernel⟩, List.mem_of_getElem? (i := 14) (by decide +kernel), List.mem_of_getElem? (i := 293) (by decide +kernel), List.mem_of_getElem? (i := 294) (by decide +kernel)⟩
theorem lw_p2 : lw_okq (⟨"TouchingCoins", "isQuad", "(I)Z"⟩, 8) := ⟨⟨by decide +kernel, by decide +kernel⟩, List.mem_of_getElem? (i := 14) (by decide +kernel), List.mem_of_getElem? (i := 328) (by decide +kernel), List.mem_of_getElem? (i := 329) (by decide +kernel)⟩
theorem lw_p3 : lw_okq (⟨"TouchingCoinsModel", "against", "(II)I"⟩, 22) := ⟨⟨by decide +kernel, by decide +kernel⟩, List.mem_of_getElem? (i := 466) (by decide +kernel), List.mem_of_getElem? (i := 557) (by decide +kernel), List.mem_of_getElem? (i := 558) (by decide +kernel)⟩
theorem lw_p4 : lw_okq (⟨"TouchingCoinsModel", "againstFour", "()I"⟩, 22) := ⟨⟨by decide +kernel, by decide +kernel⟩, List.mem_of_getElem? (i := 466) (by decide +kernel), List.mem_of_getElem? (i := 574) (by decide +kernel), List.mem_of_getElem? (i := 575) (by decide +kernel)⟩
theorem lw_p5 : lw_okq (⟨"TouchingCoinsModel", "newQuad", "(I)I"⟩, 22) := ⟨⟨by decide +kernel, by decide +kernel⟩, List.mem_of_getElem? (i := 466) (by decide +kernel), List.mem_of_getElem? (i := 594) (by decide +kernel), List.mem_of_getElem? (i := 595) (by decide +kernel)⟩
theorem lw_p6 : lw_okq (⟨"TouchingCoinsModel", "isQuad", "(I)Z"⟩, 22) := ⟨⟨by decide +kernel, by decide +kernel⟩, List.mem_of_getElem? (i := 466) (by decide +kernel), List.mem_of_getElem? (i := 602) (by decide +kernel), List.mem_of_getElem? (i := 603) (by decide +kernel)⟩
theorem lw_p7 : lw_okq (⟨"TouchingCoinsModel", "take", "(I)V"⟩, 22) := ⟨⟨by decide +kernel, by decide +kernel⟩, List.mem_of_getElem? (i := 466) (by decide +kernel), List.mem_of_getElem? (i := 607) (by decide +kernel), List.mem_of_getElem? (i := 608) (by decide +kernel)⟩
theorem lw_p8 : lw_okq (⟨"TouchingCoinsModel", "swapAt", "(I)V"⟩, 22) := ⟨⟨by decide +kernel, by decide +kernel⟩, List.mem_of_getElem? (i := 466) (by decide +kernel), List.mem_of_getElem? (i := 611) (by decide +kernel), List.mem_of_getElem? (i := 612) (by decide +kernel)⟩
theorem lw_p9 : lw_okq (⟨"TouchingCoinsModel", "goDown", "(I)V"⟩, 22) := ⟨⟨by decide +kernel, by decide +kernel⟩, List.mem_of_getElem? (i := 466) (by decide +kernel), List.mem_of_getElem? (i := 631) (by decide +kernel), List.mem_of_getElem? (i := 632) (by decide +kernel)⟩
theorem lw_p10 : lw_okq (⟨"TouchingCoinsModel", "greatest", "()I"⟩, 22) := ⟨⟨by decide +kernel, by decide +kernel⟩, List.mem_of_getElem? (i := 466) (by decide +kernel), List.mem_of_getElem? (i := 635) (by decide +kernel), List.mem_of_getElem? (i := 636) (by decide +kernel)⟩
theorem lw_p11 : lw_okq (⟨"TouchingCoinsModel", "layBends", "()V"⟩, 22) := ⟨⟨by decide +kernel, by decide +kernel⟩, List.mem_of_getElem? (i := 466) (by decide +kernel), List.mem_of_getElem? (i := 651) (by decide +kernel), List.mem_of_getElem? (i := 652) (by decide +kernel)⟩
theorem lw_p12 : lw_okq (⟨"TouchingCoinsModel", "gathers", "(I)Z"⟩, 22) := ⟨⟨by decide +kernel, by decide +kernel⟩, List.mem_of_getElem? (i := 466) (by decide +kernel), List.mem_of_getElem? (i := 664) (by decide +kernel), List.mem_of_getElem? (i := 665) (by decide +kernel)⟩
theorem lw_p13 : lw_okq (⟨"TouchingCoinsModel", "lists", "(I)Z"⟩, 22) := ⟨⟨by decide +kernel, by decide +kernel⟩, List.mem_of_getElem? (i := 466) (by decide +kernel), List.mem_of_getElem? (i := 668) (by decide +kernel), List.mem_of_getElem? (i := 669) (by decide +kernel)⟩
theorem lw_p14 : lw_okq (⟨"TouchingCoinsModel", "isBehind", "(IJJJ)Z"⟩, 22) := ⟨⟨by decide +kernel, by decide +kernel⟩, List.mem_of_getElem? (i := 466) (by decide +kernel), List.mem_of_getElem? (i := 672) (by decide +kernel), List.mem_of_getElem? (i := 673) (by decide +kernel)⟩
theorem lw_p15 : lw_okq (⟨"TouchingCoinsModel", "push", "(I)Z"⟩, 22) := ⟨⟨by decide +kernel, by decide +kernel⟩, List.mem_of_getElem? (i := 466) (by decide +kernel), List.mem_of_getElem? (i := 676) (by decide +kernel), List.mem_of_getElem? (i := 677) (by decide +kernel)⟩
def lw_privs_1 : List (MethodName × Nat) := [(⟨"TouchingCoins", "refusalOfPlaces", "(III)I"⟩, 8), (⟨"TouchingCoins", "keepDesk", "(II)I"⟩, 8), (⟨"TouchingCoins", "isQuad", "(I)Z"⟩, 8), (⟨"TouchingCoinsModel", "against", "(II)I"⟩, 22), (⟨"TouchingCoinsModel", "againstFour", "()I"⟩, 22), (⟨"TouchingCoinsModel", "newQuad", "(I)I"⟩, 22), (⟨"TouchingCoinsModel", "isQuad", "(I)Z"⟩, 22), (⟨"TouchingCoinsModel", "take", "(I)V"⟩, 22), (⟨"TouchingCoinsModel", "swapAt", "(I)V"⟩, 22), (⟨"TouchingCoinsModel", "goDown", "(I)V"⟩, 22), (⟨"TouchingCoinsModel", "greatest", "()I"⟩, 22), (⟨"TouchingCoinsModel", "layBends", "()V"⟩, 22), (⟨"TouchingCoinsModel", "gathers", "(I)Z"⟩, 22), (⟨"TouchingCoinsModel", "lists", "(I)Z"⟩, 22), (⟨"TouchingCoinsModel", "isBehind", "(IJJJ)Z"⟩, 22), (⟨"TouchingCoinsModel", "push", "(I)Z"⟩, 22)]
theorem lw_r1 : ∀ q ∈ lw_privs_1, lw_okq q := List.forall_mem_cons.mpr ⟨lw_p0, List.forall_mem_cons.mpr ⟨lw_p1, List.forall_mem_cons.mpr ⟨lw_p2, List.forall_mem_cons.mpr ⟨lw_p3, List.forall_mem_cons.mpr ⟨lw_p4, List.forall_mem_cons.mpr ⟨lw_p5, List.forall_mem_cons.mpr ⟨lw_p6, List.forall_mem_cons.mpr ⟨lw_p7, List.forall_mem_cons.mpr ⟨lw_p8, List.forall_mem_cons.mpr ⟨lw_p9, List.forall_mem_cons.mpr ⟨lw_p10, List.forall_mem_cons.mpr ⟨lw_p11, List.forall_mem_cons.mpr ⟨lw_p12, List.forall_mem_cons.mpr ⟨lw_p13, List.forall_mem_cons.mpr ⟨lw_p14, List.forall_mem_cons.mpr ⟨lw_p15, fun _ h => absurd h List.not_mem_nil⟩⟩⟩⟩⟩⟩⟩⟩⟩⟩⟩⟩⟩⟩⟩⟩
theorem lw_p16 : lw_okq (⟨"TouchingCoinsModel", "pop", "()I"⟩, 22) := ⟨⟨by decide +kernel, by decide +kernel⟩, List.mem_of_getElem? (i := 466) (by decide +kernel), List.mem_of_getElem? (i := 680) (by decide +kernel), List.mem_of_getElem? (i := 681) (by decide +kernel)⟩
theorem lw_p17 : lw_okq (⟨"TouchingCoinsModel", "areUpTo", "(I)Z"⟩, 22) := ⟨⟨by decide +kernel, by decide +kernel⟩, List.mem_of_getElem? (i := 466) (by decide +kernel), List.mem_of_getElem? (i := 684) (by decide +kernel), List.mem_of_getElem? (i := 685) (by decide +kernel)⟩
theorem lw_p18 : lw_okq (⟨"TouchingCoinsModel", "see", "(I)Z"⟩, 22) := ⟨⟨by decide +kernel, by decide +kernel⟩, List.mem_of_getElem? (i := 466) (by decide +kernel), List.mem_of_getElem? (i := 708) (by decide +kernel), List.mem_of_getElem? (i := 709) (by decide +kernel)⟩
def lw_privs_2 : List (MethodName × Nat) := [(⟨"TouchingCoinsModel", "pop", "()I"⟩, 22), (⟨"TouchingCoinsModel", "areUpTo", "(I)Z"⟩, 22), (⟨"TouchingCoinsModel", "see", "(I)Z"⟩, 22)]
theorem lw_r2 : ∀ q ∈ lw_privs_2, lw_okq q := List.forall_mem_cons.mpr ⟨lw_p16, List.forall_mem_cons.mpr ⟨lw_p17, List.forall_mem_cons.mpr ⟨lw_p18, fun _ h => absurd h List.not_mem_nil⟩⟩⟩
def lw_privs : List (MethodName × Nat) := lw_privs_1 ++ (lw_privs_2)
def lw_tbl : List Cond := k2_sels lw_privs ++ tables_1
theorem lw_privs_ok : ∀ q ∈ lw_privs, lw_okq q := by
  show ∀ q ∈ lw_privs_1 ++ (lw_privs_2), lw_okq q
  exact List.forall_mem_append.mpr ⟨lw_r1, lw_r2⟩

/-! ===== BEGIN words of one list among another's, by their places ===== -/
theorem goodIn_r {big : List Cond} (ws : List Cond) (ps : List Nat) (hp : ws = ps.filterMap (fun i => big[i]?)) (h : ws.all goodWord = true) : GoodIn big ws := by
  intro w hw
  have h1 := List.all_eq_true.mp h w hw
  rw [hp] at hw
  obtain ⟨i, -, hi⟩ := List.mem_filterMap.mp hw
  have hm : w ∈ big := by first | exact List.mem_of_getElem? hi | exact List.getElem?_mem hi
  exact ⟨hm, good_of_word h1⟩
theorem goodIn_app {big a b : List Cond} (ha : GoodIn big a) (hb : GoodIn big b) : GoodIn big (a ++ b) := fun w h => (List.mem_append.mp h).elim (ha w) (hb w)
theorem goodIn_ca {big a b : List Cond} {c : Cond} (ha : GoodIn big (c :: a)) (hb : GoodIn big b) : GoodIn big (c :: (a ++ b)) := fun w h => (List.mem_cons.mp h).elim (fun e => ha w (List.mem_cons.mpr (Or.inl e))) (fun h => (List.mem_append.mp h).elim (fun h => ha w (List.mem_cons.mpr (Or.inr h))) (hb w))
theorem goodIn_sub {big ws : List Cond} (hm : ∀ w ∈ ws, w ∈ big) (h : ws.all goodWord = true) : GoodIn big ws := fun w hw => ⟨hm w hw, good_of_word (List.all_eq_true.mp h w hw)⟩
/-! ===== END ===== -/

def RX0 : String := "TouchingCoins$Bag"
def TX0 : u_T := fun k => match k with
  | 0 => ("TouchingCoins$Bag", "places", "[J", true)
  | 1 => ("TouchingCoins$Bag", "kind", "I", false)
  | _ => ("TouchingCoins$Bag", "length", "I", false)
def tyX0 : Nat → FieldType := fun k => match k with
  | 0 => .array .long
  | 1 => .int
  | _ => .int
abbrev wsX00 : List Cond := u_ws RX0 TX0 3
theorem nmX0 : ∀ a, a < 3 → ∀ b, b < 3 → a ≠ b → (TX0 a).2.1 ≠ (TX0 b).2.1 := by decide +kernel
theorem tyX0_ok : ∀ k, k < 3 → parseFieldDescriptor (TX0 k).2.2.1 = some (tyX0 k) := by decide +kernel
abbrev cX0_init : ByteArray := prog_2_method_1_code
def yX0_init : MethodName := ⟨RX0, "<init>", "()V"⟩
abbrev cX0_become : ByteArray := prog_2_method_2_code
def yX0_become : MethodName := ⟨RX0, "become", "(II)V"⟩
abbrev cX0_hasPlaces : ByteArray := prog_2_method_3_code
def yX0_hasPlaces : MethodName := ⟨RX0, "hasPlaces", "(II)Z"⟩
abbrev cX0_keep : ByteArray := prog_2_method_4_code
def yX0_keep : MethodName := ⟨RX0, "keep", "(IJ)V"⟩
def RX1 : String := "TouchingCoins$Four"
def TX1 : u_T := fun k => match k with
  | _ => ("TouchingCoins$Four", "row", "[J", true)
def tyX1 : Nat → FieldType := fun k => match k with
  | _ => .array .long
abbrev wsX10 : List Cond := u_ws RX1 TX1 1
theorem nmX1 : ∀ a, a < 1 → ∀ b, b < 1 → a ≠ b → (TX1 a).2.1 ≠ (TX1 b).2.1 := by decide +kernel
theorem tyX1_ok : ∀ k, k < 1 → parseFieldDescriptor (TX1 k).2.2.1 = some (tyX1 k) := by decide +kernel
abbrev cX1_init : ByteArray := prog_3_method_1_code
def yX1_init : MethodName := ⟨RX1, "<init>", "()V"⟩
abbrev cX1_take : ByteArray := prog_3_method_2_code
def yX1_take : MethodName := ⟨RX1, "take", "(LTouchingCoins$Four;)V"⟩
abbrev cX1_told : ByteArray := prog_3_method_3_code
def yX1_told : MethodName := ⟨RX1, "told", "(II)J"⟩
abbrev cX1_bend : ByteArray := prog_3_method_4_code
def yX1_bend : MethodName := ⟨RX1, "bend", "(I)J"⟩
abbrev cX1_sum : ByteArray := prog_3_method_5_code
def yX1_sum : MethodName := ⟨RX1, "sum", "(I)J"⟩
abbrev cX1_turned : ByteArray := prog_3_method_6_code
def yX1_turned : MethodName := ⟨RX1, "turned", "(II)J"⟩
abbrev cX1_turn : ByteArray := prog_3_method_7_code
def yX1_turn : MethodName := ⟨RX1, "turn", "(I)V"⟩
abbrev cX1_greatest : ByteArray := prog_3_method_8_code
def yX1_greatest : MethodName := ⟨RX1, "greatest", "()I"⟩
abbrev cX1_goDown : ByteArray := prog_3_method_9_code
def yX1_goDown : MethodName := ⟨RX1, "goDown", "(I)I"⟩
abbrev cX1_goAlong : ByteArray := prog_3_method_10_code
def yX1_goAlong : MethodName := ⟨RX1, "goAlong", "(III)Z"⟩
abbrev cX1_turnWithin : ByteArray := prog_3_method_11_code
def yX1_turnWithin : MethodName := ⟨RX1, "turnWithin", "(I)Z"⟩
abbrev cX1_touches : ByteArray := prog_3_method_12_code
def yX1_touches : MethodName := ⟨RX1, "touches", "(ILTouchingCoins$Four;I)Z"⟩
abbrev cX1_hasBendsOf : ByteArray := prog_3_method_13_code
def yX1_hasBendsOf : MethodName := ⟨RX1, "hasBendsOf", "(LTouchingCoins$Four;)Z"⟩
abbrev cX1_timesOf : ByteArray := prog_3_method_14_code
def yX1_timesOf : MethodName := ⟨RX1, "timesOf", "(J)I"⟩
abbrev cX1_refusalOfCoin : ByteArray := prog_3_method_15_code
def yX1_refusalOfCoin : MethodName := ⟨RX1, "refusalOfCoin", "(I)I"⟩
abbrev cX1_isBendRefused : ByteArray := prog_3_method_16_code
def yX1_isBendRefused : MethodName := ⟨RX1, "isBendRefused", "(I)Z"⟩
abbrev cX1_isPlaceRefused : ByteArray := prog_3_method_17_code
def yX1_isPlaceRefused : MethodName := ⟨RX1, "isPlaceRefused", "(I)Z"⟩
abbrev cX1_isBeyond : ByteArray := prog_3_method_18_code
def yX1_isBeyond : MethodName := ⟨RX1, "isBeyond", "(J)Z"⟩
abbrev cX1_refusal : ByteArray := prog_3_method_19_code
def yX1_refusal : MethodName := ⟨RX1, "refusal", "()I"⟩
abbrev cX1_doBendsStand : ByteArray := prog_3_method_20_code
def yX1_doBendsStand : MethodName := ⟨RX1, "doBendsStand", "()Z"⟩
abbrev cX1_bendsBelowZero : ByteArray := prog_3_method_21_code
def yX1_bendsBelowZero : MethodName := ⟨RX1, "bendsBelowZero", "()I"⟩
abbrev cX1_divisorOfBends : ByteArray := prog_3_method_22_code
def yX1_divisorOfBends : MethodName := ⟨RX1, "divisorOfBends", "()J"⟩
abbrev cX1_doAllTouch : ByteArray := prog_3_method_23_code
def yX1_doAllTouch : MethodName := ⟨RX1, "doAllTouch", "()Z"⟩
def RX2 : String := "TouchingCoins$Listing"
def TX2 : u_T := fun k => match k with
  | 0 => ("TouchingCoins$Listing", "rows", "[[J", true)
  | 1 => ("TouchingCoins$Listing", "size", "I", false)
  | 2 => ("TouchingCoins$Listing", "most", "I", false)
  | _ => ("TouchingCoins$Listing", "seen", "I", false)
def tyX2 : Nat → FieldType := fun k => match k with
  | 0 => .array (.array .long)
  | 1 => .int
  | 2 => .int
  | _ => .int
abbrev wsX20 : List Cond := u_ws RX2 TX2 4
theorem nmX2 : ∀ a, a < 4 → ∀ b, b < 4 → a ≠ b → (TX2 a).2.1 ≠ (TX2 b).2.1 := by decide +kernel
theorem tyX2_ok : ∀ k, k < 4 → parseFieldDescriptor (TX2 k).2.2.1 = some (tyX2 k) := by decide +kernel
abbrev cX2_init : ByteArray := prog_4_method_1_code
def yX2_init : MethodName := ⟨RX2, "<init>", "()V"⟩
abbrev cX2_begin : ByteArray := prog_4_method_2_code
def yX2_begin : MethodName := ⟨RX2, "begin", "(II)V"⟩
abbrev cX2_enter : ByteArray := prog_4_method_3_code
def yX2_enter : MethodName := ⟨RX2, "enter", "(LTouchingCoins$Four;I)Z"⟩
abbrev cX2_order : ByteArray := prog_4_method_4_code
def yX2_order : MethodName := ⟨RX2, "order", "(ILTouchingCoins$Four;I)I"⟩
abbrev cX2_bendLeft : ByteArray := prog_4_method_5_code
def yX2_bendLeft : MethodName := ⟨RX2, "bendLeft", "(I)I"⟩
def RX3 : String := "TouchingCoins$NestSearch"
def TX3 : u_T := fun k => match k with
  | 0 => ("TouchingCoins$NestSearch", "waiting", "[LTouchingCoins$Four;", true)
  | 1 => ("TouchingCoins$NestSearch", "back", "[I", true)
  | 2 => ("TouchingCoins$NestSearch", "next", "LTouchingCoins$Four;", true)
  | _ => ("TouchingCoins$NestSearch", "end", "I", false)
def tyX3 : Nat → FieldType := fun k => match k with
  | 0 => .array (.object "TouchingCoins$Four")
  | 1 => .array .int
  | 2 => .object "TouchingCoins$Four"
  | _ => .int
abbrev wsX30 : List Cond := u_ws RX3 TX3 4
theorem nmX3 : ∀ a, a < 4 → ∀ b, b < 4 → a ≠ b → (TX3 a).2.1 ≠ (TX3 b).2.1 := by decide +kernel
theorem tyX3_ok : ∀ k, k < 4 → parseFieldDescriptor (TX3 k).2.2.1 = some (tyX3 k) := by decide +kernel
abbrev cX3_init : ByteArray := prog_5_method_1_code
def yX3_init : MethodName := ⟨RX3, "<init>", "()V"⟩
abbrev cX3_gather : ByteArray := prog_5_method_2_code
def yX3_gather : MethodName := ⟨RX3, "gather", "(LTouchingCoins$Four;LTouchingCoins$Listing;)Z"⟩
abbrev cX3_swapEachWay : ByteArray := prog_5_method_3_code
def yX3_swapEachWay : MethodName := ⟨RX3, "swapEachWay", "(ILTouchingCoins$Listing;)Z"⟩
abbrev cX3_addWaiting : ByteArray := prog_5_method_4_code
def yX3_addWaiting : MethodName := ⟨RX3, "addWaiting", "(LTouchingCoins$Four;I)Z"⟩
def RX4 : String := "TouchingCoins$Quad"
def TX4 : u_T := fun k => match k with
  | 0 => ("TouchingCoins$Quad", "coins", "LTouchingCoins$Four;", true)
  | 1 => ("TouchingCoins$Quad", "root", "LTouchingCoins$Four;", true)
  | 2 => ("TouchingCoins$Quad", "from", "I", false)
  | 3 => ("TouchingCoins$Quad", "steps", "I", false)
  | _ => ("TouchingCoins$Quad", "seen", "I", false)
def tyX4 : Nat → FieldType := fun k => match k with
  | 0 => .object "TouchingCoins$Four"
  | 1 => .object "TouchingCoins$Four"
  | 2 => .int
  | 3 => .int
  | _ => .int
abbrev wsX40 : List Cond := u_ws RX4 TX4 5
theorem nmX4 : ∀ a, a < 5 → ∀ b, b < 5 → a ≠ b → (TX4 a).2.1 ≠ (TX4 b).2.1 := by decide +kernel
theorem tyX4_ok : ∀ k, k < 5 → parseFieldDescriptor (TX4 k).2.2.1 = some (tyX4 k) := by decide +kernel
abbrev cX4_init : ByteArray := prog_6_method_1_code
def yX4_init : MethodName := ⟨RX4, "<init>", "()V"⟩
abbrev cX4_become : ByteArray := prog_6_method_2_code
def yX4_become : MethodName := ⟨RX4, "become", "(LTouchingCoins$Four;II)V"⟩
def RX5 : String := "TouchingCoins$Remainders"
def TX5 : u_T := fun k => match k with
  | 0 => ("TouchingCoins$Remainders", "fours", "[I", true)
  | _ => ("TouchingCoins$Remainders", "end", "I", false)
def tyX5 : Nat → FieldType := fun k => match k with
  | 0 => .array .int
  | _ => .int
abbrev wsX50 : List Cond := u_ws RX5 TX5 2
theorem nmX5 : ∀ a, a < 2 → ∀ b, b < 2 → a ≠ b → (TX5 a).2.1 ≠ (TX5 b).2.1 := by decide +kernel
theorem tyX5_ok : ∀ k, k < 2 → parseFieldDescriptor (TX5 k).2.2.1 = some (tyX5 k) := by decide +kernel
abbrev cX5_init : ByteArray := prog_7_method_1_code
def yX5_init : MethodName := ⟨RX5, "<init>", "()V"⟩
abbrev cX5_gather : ByteArray := prog_7_method_2_code
def yX5_gather : MethodName := ⟨RX5, "gather", "(LTouchingCoins$Four;)I"⟩
abbrev cX5_digit : ByteArray := prog_7_method_3_code
def yX5_digit : MethodName := ⟨RX5, "digit", "(II)I"⟩
abbrev cX5_swapped : ByteArray := prog_7_method_4_code
def yX5_swapped : MethodName := ⟨RX5, "swapped", "(II)I"⟩
abbrev cX5_enter : ByteArray := prog_7_method_5_code
def yX5_enter : MethodName := ⟨RX5, "enter", "(I)V"⟩
def RX6 : String := "TouchingCoins"
def TX6 : u_T := fun k => match k with
  | 0 => ("TouchingCoins", "bags", "[LTouchingCoins$Bag;", true)
  | 1 => ("TouchingCoins", "quads", "[LTouchingCoins$Quad;", true)
  | 2 => ("TouchingCoins", "quadCount", "I", false)
  | 3 => ("TouchingCoins", "desk", "LTouchingCoins$Four;", true)
  | 4 => ("TouchingCoins", "remainders", "LTouchingCoins$Remainders;", true)
  | 5 => ("TouchingCoins", "search", "LTouchingCoins$NestSearch;", true)
  | 6 => ("TouchingCoins", "listing", "LTouchingCoins$Listing;", false)
  | _ => ("TouchingCoins", "draft", "LTouchingCoins$Listing;", false)
def tyX6 : Nat → FieldType := fun k => match k with
  | 0 => .array (.object "TouchingCoins$Bag")
  | 1 => .array (.object "TouchingCoins$Quad")
  | 2 => .int
  | 3 => .object "TouchingCoins$Four"
  | 4 => .object "TouchingCoins$Remainders"
  | 5 => .object "TouchingCoins$NestSearch"
  | 6 => .object "TouchingCoins$Listing"
  | _ => .object "TouchingCoins$Listing"
abbrev wsX60 : List Cond := u_ws RX6 TX6 8
theorem nmX6 : ∀ a, a < 8 → ∀ b, b < 8 → a ≠ b → (TX6 a).2.1 ≠ (TX6 b).2.1 := by decide +kernel
theorem tyX6_ok : ∀ k, k < 8 → parseFieldDescriptor (TX6 k).2.2.1 = some (tyX6 k) := by decide +kernel
abbrev cX6_init : ByteArray := prog_1_method_1_code
def yX6_init : MethodName := ⟨RX6, "<init>", "()V"⟩
abbrev cX6_bag : ByteArray := prog_1_method_2_code
def yX6_bag : MethodName := ⟨RX6, "bag", "(III)I"⟩
abbrev cX6_put : ByteArray := prog_1_method_3_code
def yX6_put : MethodName := ⟨RX6, "put", "(IIJ)I"⟩
abbrev cX6_copy : ByteArray := prog_1_method_4_code
def yX6_copy : MethodName := ⟨RX6, "copy", "(IIIII)I"⟩
abbrev cX6_holds : ByteArray := prog_1_method_5_code
def yX6_holds : MethodName := ⟨RX6, "holds", "(IIJ)I"⟩
abbrev cX6_quad : ByteArray := prog_1_method_6_code
def yX6_quad : MethodName := ⟨RX6, "quad", "(II)I"⟩
abbrev cX6_swap : ByteArray := prog_1_method_7_code
def yX6_swap : MethodName := ⟨RX6, "swap", "(II)I"⟩
abbrev cX6_coin : ByteArray := prog_1_method_8_code
def yX6_coin : MethodName := ⟨RX6, "coin", "(III)I"⟩
abbrev cX6_from : ByteArray := prog_1_method_9_code
def yX6_from : MethodName := ⟨RX6, "from", "(I)I"⟩
abbrev cX6_steps : ByteArray := prog_1_method_10_code
def yX6_steps : MethodName := ⟨RX6, "steps", "(I)I"⟩
abbrev cX6_step : ByteArray := prog_1_method_11_code
def yX6_step : MethodName := ⟨RX6, "step", "(II)I"⟩
abbrev cX6_root : ByteArray := prog_1_method_12_code
def yX6_root : MethodName := ⟨RX6, "root", "(III)I"⟩
abbrev cX6_same : ByteArray := prog_1_method_13_code
def yX6_same : MethodName := ⟨RX6, "same", "(II)I"⟩
abbrev cX6_touch : ByteArray := prog_1_method_14_code
def yX6_touch : MethodName := ⟨RX6, "touch", "(IIII)I"⟩
abbrev cX6_list : ByteArray := prog_1_method_15_code
def yX6_list : MethodName := ⟨RX6, "list", "(II)I"⟩
abbrev cX6_listed : ByteArray := prog_1_method_16_code
def yX6_listed : MethodName := ⟨RX6, "listed", "(II)I"⟩
abbrev cX6_find : ByteArray := prog_1_method_17_code
def yX6_find : MethodName := ⟨RX6, "find", "(I)I"⟩
abbrev cX6_left : ByteArray := prog_1_method_18_code
def yX6_left : MethodName := ⟨RX6, "left", "(I)I"⟩
abbrev cX6_seen : ByteArray := prog_1_method_19_code
def yX6_seen : MethodName := ⟨RX6, "seen", "(I)I"⟩
abbrev cX6_chain : ByteArray := prog_1_method_20_code
def yX6_chain : MethodName := ⟨RX6, "chain", "(IIIII)I"⟩
abbrev cX6_count : ByteArray := prog_1_method_21_code
def yX6_count : MethodName := ⟨RX6, "count", "(I)I"⟩
abbrev cX6_isBag : ByteArray := prog_1_method_22_code
def yX6_isBag : MethodName := ⟨RX6, "isBag", "(I)Z"⟩
abbrev cX6_isQuad : ByteArray := prog_1_method_23_code
def yX6_isQuad : MethodName := ⟨RX6, "isQuad", "(I)Z"⟩
abbrev cX6_isCoin : ByteArray := prog_1_method_24_code
def yX6_isCoin : MethodName := ⟨RX6, "isCoin", "(I)Z"⟩
abbrev cX6_isWhat : ByteArray := prog_1_method_25_code
def yX6_isWhat : MethodName := ⟨RX6, "isWhat", "(I)Z"⟩
abbrev cX6_refusalOfPlaces : ByteArray := prog_1_method_26_code
def yX6_refusalOfPlaces : MethodName := ⟨RX6, "refusalOfPlaces", "(III)I"⟩
abbrev cX6_keepDesk : ByteArray := prog_1_method_27_code
def yX6_keepDesk : MethodName := ⟨RX6, "keepDesk", "(II)I"⟩
abbrev cX6_firstBut : ByteArray := prog_1_method_28_code
def yX6_firstBut : MethodName := ⟨RX6, "firstBut", "(II)I"⟩
def RX7 : String := "TouchingCoinsModel"
def TX7 : u_T := fun k => match k with
  | 0 => ("TouchingCoinsModel", "kind", "[I", true)
  | 1 => ("TouchingCoinsModel", "size", "[I", true)
  | 2 => ("TouchingCoinsModel", "bags", "[J", true)
  | 3 => ("TouchingCoinsModel", "quads", "I", false)
  | 4 => ("TouchingCoinsModel", "from", "[I", true)
  | 5 => ("TouchingCoinsModel", "coins", "[I", true)
  | 6 => ("TouchingCoinsModel", "four", "[J", true)
  | 7 => ("TouchingCoinsModel", "steps", "I", false)
  | 8 => ("TouchingCoinsModel", "stepCoin", "[I", true)
  | 9 => ("TouchingCoinsModel", "listMany", "I", false)
  | 10 => ("TouchingCoinsModel", "listMost", "I", false)
  | 11 => ("TouchingCoinsModel", "listQuad", "I", false)
  | 12 => ("TouchingCoinsModel", "listCoins", "[I", true)
  | 13 => ("TouchingCoinsModel", "middle", "[J", true)
  | 14 => ("TouchingCoinsModel", "bends", "[J", true)
  | 15 => ("TouchingCoinsModel", "piled", "I", false)
  | 16 => ("TouchingCoinsModel", "pile", "[J", true)
  | 17 => ("TouchingCoinsModel", "pileBy", "[I", true)
  | 18 => ("TouchingCoinsModel", "gathered", "I", false)
  | 19 => ("TouchingCoinsModel", "gather", "[J", true)
  | 20 => ("TouchingCoinsModel", "isSeen", "[I", true)
  | _ => ("TouchingCoinsModel", "open", "[I", true)
def tyX7 : Nat → FieldType := fun k => match k with
  | 0 => .array .int
  | 1 => .array .int
  | 2 => .array .long
  | 3 => .int
  | 4 => .array .int
  | 5 => .array .int
  | 6 => .array .long
  | 7 => .int
  | 8 => .array .int
  | 9 => .int
  | 10 => .int
  | 11 => .int
  | 12 => .array .int
  | 13 => .array .long
  | 14 => .array .long
  | 15 => .int
  | 16 => .array .long
  | 17 => .array .int
  | 18 => .int
  | 19 => .array .long
  | 20 => .array .int
  | _ => .array .int
abbrev wsX70 : List Cond := u_ws RX7 TX7 22
theorem nmX7 : ∀ a, a < 22 → ∀ b, b < 22 → a ≠ b → (TX7 a).2.1 ≠ (TX7 b).2.1 := by decide +kernel
theorem tyX7_ok : ∀ k, k < 22 → parseFieldDescriptor (TX7 k).2.2.1 = some (tyX7 k) := by decide +kernel
abbrev cX7_init : ByteArray := prog_9_method_1_code
def yX7_init : MethodName := ⟨RX7, "<init>", "()V"⟩
abbrev cX7_in : ByteArray := prog_9_method_2_code
def yX7_in : MethodName := ⟨RX7, "in", "(JJJ)Z"⟩
abbrev cX7_isBag : ByteArray := prog_9_method_3_code
def yX7_isBag : MethodName := ⟨RX7, "isBag", "(I)Z"⟩
abbrev cX7_bag : ByteArray := prog_9_method_4_code
def yX7_bag : MethodName := ⟨RX7, "bag", "(III)I"⟩
abbrev cX7_against : ByteArray := prog_9_method_5_code
def yX7_against : MethodName := ⟨RX7, "against", "(II)I"⟩
abbrev cX7_put : ByteArray := prog_9_method_6_code
def yX7_put : MethodName := ⟨RX7, "put", "(IIJ)I"⟩
abbrev cX7_copy : ByteArray := prog_9_method_7_code
def yX7_copy : MethodName := ⟨RX7, "copy", "(IIIII)I"⟩
abbrev cX7_holds : ByteArray := prog_9_method_8_code
def yX7_holds : MethodName := ⟨RX7, "holds", "(IIJ)I"⟩
abbrev cX7_isQuad : ByteArray := prog_9_method_9_code
def yX7_isQuad : MethodName := ⟨RX7, "isQuad", "(I)Z"⟩
abbrev cX7_isBend : ByteArray := prog_9_method_10_code
def yX7_isBend : MethodName := ⟨RX7, "isBend", "(J)Z"⟩
abbrev cX7_isPlace : ByteArray := prog_9_method_11_code
def yX7_isPlace : MethodName := ⟨RX7, "isPlace", "(J)Z"⟩
abbrev cX7_areTouching : ByteArray := prog_9_method_12_code
def yX7_areTouching : MethodName := ⟨RX7, "areTouching", "(JJJJJJ)Z"⟩
abbrev cX7_common : ByteArray := prog_9_method_13_code
def yX7_common : MethodName := ⟨RX7, "common", "(JJ)J"⟩
abbrev cX7_againstFour : ByteArray := prog_9_method_14_code
def yX7_againstFour : MethodName := ⟨RX7, "againstFour", "()I"⟩
abbrev cX7_newQuad : ByteArray := prog_9_method_15_code
def yX7_newQuad : MethodName := ⟨RX7, "newQuad", "(I)I"⟩
abbrev cX7_quad : ByteArray := prog_9_method_16_code
def yX7_quad : MethodName := ⟨RX7, "quad", "(II)I"⟩
abbrev cX7_take : ByteArray := prog_9_method_17_code
def yX7_take : MethodName := ⟨RX7, "take", "(I)V"⟩
abbrev cX7_swapAt : ByteArray := prog_9_method_18_code
def yX7_swapAt : MethodName := ⟨RX7, "swapAt", "(I)V"⟩
abbrev cX7_swap : ByteArray := prog_9_method_19_code
def yX7_swap : MethodName := ⟨RX7, "swap", "(II)I"⟩
abbrev cX7_isCoin : ByteArray := prog_9_method_20_code
def yX7_isCoin : MethodName := ⟨RX7, "isCoin", "(II)Z"⟩
abbrev cX7_coin : ByteArray := prog_9_method_21_code
def yX7_coin : MethodName := ⟨RX7, "coin", "(III)I"⟩
abbrev cX7_from : ByteArray := prog_9_method_22_code
def yX7_from : MethodName := ⟨RX7, "from", "(I)I"⟩
abbrev cX7_greatest : ByteArray := prog_9_method_23_code
def yX7_greatest : MethodName := ⟨RX7, "greatest", "()I"⟩
abbrev cX7_goDown : ByteArray := prog_9_method_24_code
def yX7_goDown : MethodName := ⟨RX7, "goDown", "(I)V"⟩
abbrev cX7_steps : ByteArray := prog_9_method_25_code
def yX7_steps : MethodName := ⟨RX7, "steps", "(I)I"⟩
abbrev cX7_step : ByteArray := prog_9_method_26_code
def yX7_step : MethodName := ⟨RX7, "step", "(II)I"⟩
abbrev cX7_root : ByteArray := prog_9_method_27_code
def yX7_root : MethodName := ⟨RX7, "root", "(III)I"⟩
abbrev cX7_layBends : ByteArray := prog_9_method_28_code
def yX7_layBends : MethodName := ⟨RX7, "layBends", "()V"⟩
abbrev cX7_same : ByteArray := prog_9_method_29_code
def yX7_same : MethodName := ⟨RX7, "same", "(II)I"⟩
abbrev cX7_touch : ByteArray := prog_9_method_30_code
def yX7_touch : MethodName := ⟨RX7, "touch", "(IIII)I"⟩
abbrev cX7_lists : ByteArray := prog_9_method_31_code
def yX7_lists : MethodName := ⟨RX7, "lists", "(I)Z"⟩
abbrev cX7_isBehind : ByteArray := prog_9_method_32_code
def yX7_isBehind : MethodName := ⟨RX7, "isBehind", "(IJJJ)Z"⟩
abbrev cX7_push : ByteArray := prog_9_method_33_code
def yX7_push : MethodName := ⟨RX7, "push", "(I)Z"⟩
abbrev cX7_pop : ByteArray := prog_9_method_34_code
def yX7_pop : MethodName := ⟨RX7, "pop", "()I"⟩
abbrev cX7_areUpTo : ByteArray := prog_9_method_35_code
def yX7_areUpTo : MethodName := ⟨RX7, "areUpTo", "(I)Z"⟩
abbrev cX7_gathers : ByteArray := prog_9_method_36_code
def yX7_gathers : MethodName := ⟨RX7, "gathers", "(I)Z"⟩
abbrev cX7_list : ByteArray := prog_9_method_37_code
def yX7_list : MethodName := ⟨RX7, "list", "(II)I"⟩
abbrev cX7_listed : ByteArray := prog_9_method_38_code
def yX7_listed : MethodName := ⟨RX7, "listed", "(II)I"⟩
abbrev cX7_find : ByteArray := prog_9_method_39_code
def yX7_find : MethodName := ⟨RX7, "find", "(I)I"⟩
abbrev cX7_left : ByteArray := prog_9_method_40_code
def yX7_left : MethodName := ⟨RX7, "left", "(I)I"⟩
abbrev cX7_restOf : ByteArray := prog_9_method_41_code
def yX7_restOf : MethodName := ⟨RX7, "restOf", "(I)I"⟩
abbrev cX7_see : ByteArray := prog_9_method_42_code
def yX7_see : MethodName := ⟨RX7, "see", "(I)Z"⟩
abbrev cX7_seen : ByteArray := prog_9_method_43_code
def yX7_seen : MethodName := ⟨RX7, "seen", "(I)I"⟩
abbrev cX7_chain : ByteArray := prog_9_method_44_code
def yX7_chain : MethodName := ⟨RX7, "chain", "(IIIII)I"⟩
abbrev cX7_count : ByteArray := prog_9_method_45_code
def yX7_count : MethodName := ⟨RX7, "count", "(I)I"⟩
def RJ13 : String := "java/lang/Long"
abbrev cJ13_compare_74951 : ByteArray := prog_10_method_42_code
def yJ13_compare_74951 : MethodName := ⟨RJ13, "compare", "(JJ)I"⟩
def RJ9 : String := "java/lang/Math"
abbrev cJ9_floorMod_7cf53 : ByteArray := prog_11_method_50_code
def yJ9_floorMod_7cf53 : MethodName := ⟨RJ9, "floorMod", "(II)I"⟩
abbrev cJ9_floorMod_f86c9 : ByteArray := prog_11_method_52_code
def yJ9_floorMod_f86c9 : MethodName := ⟨RJ9, "floorMod", "(JJ)J"⟩
abbrev cJ9_abs_067f4 : ByteArray := prog_11_method_61_code
def yJ9_abs_067f4 : MethodName := ⟨RJ9, "abs", "(J)J"⟩
def RJ10 : String := "java/lang/System"
def RJ7 : String := "java/util/Arrays"
abbrev cJ7_fill_d0a16 : ByteArray := prog_13_method_101_code
def yJ7_fill_d0a16 : MethodName := ⟨RJ7, "fill", "([JJ)V"⟩
def RL : String := "TouchingCoinsLaw"
abbrev cL_law : ByteArray := code
abbrev vwCl : List vw_C := [(RX0, TX0, 3), (RX1, TX1, 1), (RX2, TX2, 4), (RX3, TX3, 4), (RX4, TX4, 5), (RX5, TX5, 2), (RX6, TX6, 8), (RX7, TX7, 22)]
