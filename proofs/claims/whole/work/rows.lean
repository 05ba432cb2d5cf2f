section
-- ===== PART A: goes FIRST, ahead of the names: the tables' words, and 'selects' of the private methods out of them =====
/-- a private method of a class that the tables say can be made, by its rows of tables_1 -/
def lw_okq (q : MethodName × Nat) : Prop := (q.1.cls ≠ "java/lang/invoke/MethodHandle" ∧ q.1.cls ≠ "java/lang/invoke/VarHandle") ∧ Cond.instantiable q.1.cls q.2 ∈ tables_1 ∧ Cond.privateMethod q.1 ∈ tables_1 ∧ Cond.instanceMethod q.1 ∈ tables_1
theorem lw_p0 : lw_okq (⟨"TouchingCoins", "refusalOfPlaces", "(III)I"⟩, 8) := ⟨⟨by decide +kernel, by decide +kernel⟩, List.mem_of_getElem? (i := 14) (by decide +kernel), List.mem_of_getElem? (i := 187) (by decide +kernel), List.mem_of_getElem? (i := 188) (by decide +kernel)⟩
theorem lw_p1 : lw_okq (⟨"TouchingCoins", "keepDesk", "(II)I"⟩, 8) := ⟨⟨by decide +kernel, by decide +kernel⟩, List.mem_of_getElem? (i := 14) (by decide +kernel), List.mem_of_getElem? (i := 293) (by decide +kernel), List.mem_of_getElem? (i := 294) (by decide +kernel)⟩
theorem lw_p2 : lw_okq (⟨"TouchingCoins", "isQuad", "(I)Z"⟩, 8) := ⟨⟨by decide +kernel, by decide +kernel⟩, List.mem_of_getElem? (i := 14) (by decide +kernel), List.mem_of_getElem? (i := 328) (by decide +kernel), List.mem_of_getElem? (i := 329) (by decide +kernel)⟩
theorem lw_p3 : lw_okq (⟨"TouchingCoinsModel", "against", "(II)I"⟩, 22) := ⟨⟨by decide +kernel, by decide +kernel⟩, List.mem_of_getElem? (i := 466) (by decide +kernel), List.mem_of_getElem? (i := 557) (by decide +kernel), List.mem_of_getElem? (i := 558) (by decide +kernel)⟩
theorem lw_p4 : lw_okq (⟨"TouchingCoinsModel", "againstFour", "()I"⟩, 22) := ⟨⟨by decide +kernel, by decide +kernel⟩, List.mem_of_getElem? (i := 466) (by decide +kernel), List.mem_of_getElem? (i := 574) (by decide +kernel), List.mem_of_getElem? (i := 575) (by decide +kernel)⟩
theorem lw_p5 : lw_okq (⟨"TouchingCoinsModel", "newQuad", "(I)I"⟩, 22) := ⟨⟨by decide +kernel, by decide +kernel⟩, List.mem_of_getElem? (i := 466) (by decide +kernel), List.mem_of_getElem? (i := 594) (by decide +kernel), List.mem_of_getElem? (i := 595) (by decide +kernel)⟩
theorem lw_p6 : lw_okq (⟨"TouchingCoinsModel", "isQuad", "(I)Z"⟩, 22) := ⟨⟨by decide +kernel, by decide +kernel⟩, List.mem_of_getElem? (i := 466) (by decide +kernel), List.mem_of_getElem? (i := 602) (by decide +kernel), List.mem_of_getElem? (i := 603) (by decide +kernel)⟩
theorem lw_p7 : lw_okq (⟨"TouchingCoinsModel", "take", "(I)V"⟩, 22) := ⟨⟨by decide +kernel, by decide +kernel⟩, List.mem_of_getElem? (i := 466) (by decide +kernel), List.mem_of_getElem? (i := 607) (by decide +kernel), List.mem_of_getElem? (i := 608) (by decide +kernel)⟩
theorem lw_p8 : lw_okq (⟨"TouchingCoinsModel", "swapAt", "(I)V"⟩, 22) := ⟨⟨by decide +kernel, by decide +kernel⟩, List.mem_of_getElem? (i := 466) (by decide +kernel), List.mem_of_getElem? (i := 611) (by decide +kernel), List.mem_of_getElem? (i := 612) (by decide +kernel)⟩
theorem lw_p9 : lw_okq (⟨"TouchingCoinsModel", "goDown", "(I)V"⟩, 22) := ⟨⟨by decide +kernel, by decide +kernel⟩, List.mem_of_getElem? (i := 466) (by decide +kernel), List.mem_of_getElem? (i := 631) (by decide +kernel), List.mem_of_getElem? (i := 632) (by decide +kernel)⟩
theorem lw_p10 : lw_okq (⟨"TouchingCoinsModel", "greatest", "()I"⟩, 22) := ⟨⟨by decide +kernel, by decide +kernel⟩, List.mem_of_getElem? (i := 466) (by decide +kernel), List.mem_of_getElem? (i := 635) (by decide +kernel), List.mem_of_getElem? (i := 636) (by decide +kernel)⟩
theorem lw_p11 : lw_okq (⟨"TouchingCoinsModel", "layBends", "()V"⟩, 22) := ⟨⟨by decide +kernel, by decide +kernel⟩, List.mem_of_getElem? (i := 466) (by decide +kernel), List.mem_of_getElem? (i := 651) (by decide +kernel), List.mem_of_getElem? (i := 652) (by decide +kernel)⟩
theorem lw_p12 : lw_okq (⟨"TouchingCoinsModel", "gathers", "(I)Z"⟩, 22) := ⟨⟨by decide +kernel, by decide +kernel⟩, List.mem_of_getElem? (i := 466) (by decide +kernel), List.mem_of_getElem? (i := 664) (by decide +kernel), List.mem_of_getElem? (i := 665) (by decide +kernel)⟩
theorem lw_p13 : lw_okq (⟨"TouchingCoinsModel", "lists", "(I)Z"⟩, 22) := ⟨⟨by decide +kernel, by decide +kernel⟩, List.mem_of_getElem? (i := 466) (by decide +kernel), List.mem_of_getElem? (i := 668) (by decide +kernel), List.mem_of_getElem? (i := 669) (by decide +kernel)⟩
theorem lw_p14 : lw_okq (⟨"TouchingCoinsModel", "isBehind", "(IJJJ)Z"⟩, 22) := ⟨⟨by decide +kernel, by decide +kernel⟩, List.mem_of_getElem? (i := 466) (by decide +kernel), List.mem_of_getElem? (i := 672) (by decide +kernel), List.mem_of_getElem? (i := 673) (by decide +kernel)⟩
theorem lw_p15 : lw_okq (⟨"TouchingCoinsModel", "push", "(I)Z"⟩, 22) := ⟨⟨by decide +kernel, by decide +kernel⟩, List.mem_of_getElem? (i := 466) (by decide +kernel), List.mem_of_getElem? (i := 676) (by decide +kernel), List.mem_of_getElem? (i := 677) (by decide +kernel)⟩
def lw_privs_1 : List (MethodName × Nat) := [(⟨"TouchingCoins", "refusalOfPlaces", "(III)I"⟩, 8), (⟨"TouchingCoins", "keepDesk", "(II)I"⟩, 8), (⟨"TouchingCoins", "isQuad", "(I)Z"⟩, 8), (⟨"TouchingCoinsModel", "against", "(II)I"⟩, 22), (⟨"TouchingCoinsModel", "againstFour", "()I"⟩, 22), (⟨"TouchingCoinsModel", "newQuad", "(I)I"⟩, 22), (⟨"TouchingCoinsModel", "isQuad", "(I)Z"⟩, 22), (⟨"TouchingCoinsModel", "take", "(I)V"⟩, 22), (⟨"TouchingCoinsModel", "swapAt", "(I)V"⟩, 22), (⟨"TouchingCoinsModel", "goDown", "(I)V"⟩, 22), (⟨"TouchingCoinsModel", "greatest", "()I"⟩, 22), (⟨"TouchingCoinsModel", "layBends", "()V"⟩, 22), (⟨"TouchingCoinsModel", "gathers", "(I)Z"⟩, 22), (⟨"TouchingCoinsModel", "lists", "(I)Z"⟩, 22), (⟨"TouchingCoinsModel", "isBehind", "(IJJJ)Z"⟩, 22), (⟨"TouchingCoinsModel", "push", "(I)Z"⟩, 22)]
theorem lw_r1 : ∀ q ∈ lw_privs_1, lw_okq q := List.forall_mem_cons.mpr ⟨lw_p0, List.forall_mem_cons.mpr ⟨lw_p1, List.forall_mem_cons.mpr ⟨lw_p2, List.forall_mem_cons.mpr ⟨lw_p3, List.forall_mem_cons.mpr ⟨lw_p4, List.forall_mem_cons.mpr ⟨lw_p5, List.forall_mem_cons.mpr ⟨lw_p6, List.forall_mem_cons.mpr ⟨lw_p7, List.forall_mem_cons.mpr ⟨lw_p8, List.forall_mem_cons.mpr ⟨lw_p9, List.forall_mem_cons.mpr ⟨lw_p10, List.forall_mem_cons.mpr ⟨lw_p11, List.forall_mem_cons.mpr ⟨lw_p12, List.forall_mem_cons.mpr ⟨lw_p13, List.forall_mem_cons.mpr ⟨lw_p14, List.forall_mem_cons.mpr ⟨lw_p15, fun _ h => absurd h List.not_mem_nil⟩⟩⟩⟩⟩⟩⟩⟩⟩⟩⟩⟩⟩⟩⟩⟩
theorem lw_p16 : lw_okq (⟨"TouchingCoinsModel", "pop", "()I"⟩, 22) := ⟨⟨by decide +kernel, by decide +kernel⟩, List.mem_of_getElem? (i := 466) (by decide +kernel), List.mem_of_getElem? (i := 680) (by decide +kernel), List.mem_of_getElem? (i := 681) (by decide +kernel)⟩
theorem lw_p17 : lw_okq (⟨"TouchingCoinsModel", "areUpTo", "(I)Z"⟩, 22) := ⟨⟨by decide +kernel, by decide +kernel⟩, List.mem_of_getElem? (i := 466) (by decide +kernel), List.mem_of_getElem? (i := 684) (by decide +kernel), List.mem_of_getElem? (i := 685) (by decide +kernel)⟩
theorem lw_p18 : lw_okq (⟨"TouchingCoinsModel", "see", "(I)Z"⟩, 22) := ⟨⟨by decide +kernel, by decide +kernel⟩, List.mem_of_getElem? (i := 466) (by decide +kernel), List.mem_of_getElem? (i := 708) (by decide +kernel), List.mem_of_getElem? (i := 709) (by decide +kernel)⟩
def lw_privs_2 : List (MethodName × Nat) := [(⟨"TouchingCoinsModel", "pop", "()I"⟩, 22), (⟨"TouchingCoinsModel", "areUpTo", "(I)Z"⟩, 22), (⟨"TouchingCoinsModel", "see", "(I)Z"⟩, 22)]
theorem lw_r2 : ∀ q ∈ lw_privs_2, lw_okq q := List.forall_mem_cons.mpr ⟨lw_p16, List.forall_mem_cons.mpr ⟨lw_p17, List.forall_mem_cons.mpr ⟨lw_p18, fun _ h => absurd h List.not_mem_nil⟩⟩⟩
def lw_privs : List (MethodName × Nat) := lw_privs_1 ++ (lw_privs_2)
def lw_tbl : List Cond := k2_sels lw_privs ++ tables_1
theorem lw_privs_ok : ∀ q ∈ lw_privs, lw_okq q := by
  show ∀ q ∈ lw_privs_1 ++ (lw_privs_2), lw_okq q
  exact List.forall_mem_append.mpr ⟨lw_r1, lw_r2⟩

/-! ===== BEGIN words of one list among another's, by their places ===== -/
theorem goodIn_r {big : List Cond} (ws : List Cond) (ps : List Nat) (hp : ws = ps.filterMap (fun i => big[i]?)) (h : ws.all goodWord = true) : GoodIn big ws := by
  intro w hw
  have h1 := List.all_eq_true.mp h w hw
  rw [hp] at hw
  obtain ⟨i, -, hi⟩ := List.mem_filterMap.mp hw
  have hm : w ∈ big := by first | exact List.mem_of_getElem? hi | exact List.getElem?_mem hi
  exact ⟨hm, good_of_word h1⟩
theorem goodIn_app {big a b : List Cond} (ha : GoodIn big a) (hb : GoodIn big b) : GoodIn big (a ++ b) := fun w h => (List.mem_append.mp h).elim (ha w) (hb w)
theorem goodIn_ca {big a b : List Cond} {c : Cond} (ha : GoodIn big (c :: a)) (hb : GoodIn big b) : GoodIn big (c :: (a ++ b)) := fun w h => (List.mem_cons.mp h).elim (fun e => ha w (List.mem_cons.mpr (Or.inl e))) (fun h => (List.mem_append.mp h).elim (fun h => ha w (List.mem_cons.mpr (Or.inr h))) (hb w))
theorem goodIn_sub {big ws : List Cond} (hm : ∀ w ∈ ws, w ∈ big) (h : ws.all goodWord = true) : GoodIn big ws := fun w hw => ⟨hm w hw, good_of_word (List.all_eq_true.mp h w hw)⟩
/-! ===== END ===== -/

def RX0 : String := "TouchingCoins$Bag"
def TX0 : u_T := fun k => match k with
  | 0 => ("TouchingCoins$Bag", "places", "[J", true)
  | 1 => ("TouchingCoins$Bag", "kind", "I", false)
  | _ => ("TouchingCoins$Bag", "length", "I", false)
def tyX0 : Nat → FieldType := fun k => match k with
  | 0 => .array .long
  | 1 => .int
  | _ => .int
abbrev wsX00 : List Cond := u_ws RX0 TX0 3
theorem nmX0 : ∀ a, a < 3 → ∀ b, b < 3 → a ≠ b → (TX0 a).2.1 ≠ (TX0 b).2.1 := by decide +kernel
theorem tyX0_ok : ∀ k, k < 3 → parseFieldDescriptor (TX0 k).2.2.1 = some (tyX0 k) := by decide +kernel
abbrev cX0_init : ByteArray := prog_2_method_1_code
def yX0_init : MethodName := ⟨RX0, "<init>", "()V"⟩
abbrev cX0_become : ByteArray := prog_2_method_2_code
def yX0_become : MethodName := ⟨RX0, "become", "(II)V"⟩
abbrev cX0_hasPlaces : ByteArray := prog_2_method_3_code
def yX0_hasPlaces : MethodName := ⟨RX0, "hasPlaces", "(II)Z"⟩
abbrev cX0_keep : ByteArray := prog_2_method_4_code
def yX0_keep : MethodName := ⟨RX0, "keep", "(IJ)V"⟩
def RX1 : String := "TouchingCoins$Four"
def TX1 : u_T := fun k => match k with
  | _ => ("TouchingCoins$Four", "row", "[J", true)
def tyX1 : Nat → FieldType := fun k => match k with
  | _ => .array .long
abbrev wsX10 : List Cond := u_ws RX1 TX1 1
theorem nmX1 : ∀ a, a < 1 → ∀ b, b < 1 → a ≠ b → (TX1 a).2.1 ≠ (TX1 b).2.1 := by decide +kernel
theorem tyX1_ok : ∀ k, k < 1 → parseFieldDescriptor (TX1 k).2.2.1 = some (tyX1 k) := by decide +kernel
abbrev cX1_init : ByteArray := prog_3_method_1_code
def yX1_init : MethodName := ⟨RX1, "<init>", "()V"⟩
abbrev cX1_take : ByteArray := prog_3_method_2_code
def yX1_take : MethodName := ⟨RX1, "take", "(LTouchingCoins$Four;)V"⟩
abbrev cX1_told : ByteArray := prog_3_method_3_code
def yX1_told : MethodName := ⟨RX1, "told", "(II)J"⟩
abbrev cX1_bend : ByteArray := prog_3_method_4_code
def yX1_bend : MethodName := ⟨RX1, "bend", "(I)J"⟩
abbrev cX1_sum : ByteArray := prog_3_method_5_code
def yX1_sum : MethodName := ⟨RX1, "sum", "(I)J"⟩
abbrev cX1_turned : ByteArray := prog_3_method_6_code
def yX1_turned : MethodName := ⟨RX1, "turned", "(II)J"⟩
abbrev cX1_turn : ByteArray := prog_3_method_7_code
def yX1_turn : MethodName := ⟨RX1, "turn", "(I)V"⟩
abbrev cX1_greatest : ByteArray := prog_3_method_8_code
def yX1_greatest : MethodName := ⟨RX1, "greatest", "()I"⟩
abbrev cX1_goDown : ByteArray := prog_3_method_9_code
def yX1_goDown : MethodName := ⟨RX1, "goDown", "(I)I"⟩
abbrev cX1_goAlong : ByteArray := prog_3_method_10_code
def yX1_goAlong : MethodName := ⟨RX1, "goAlong", "(III)Z"⟩
abbrev cX1_turnWithin : ByteArray := prog_3_method_11_code
def yX1_turnWithin : MethodName := ⟨RX1, "turnWithin", "(I)Z"⟩
abbrev cX1_touches : ByteArray := prog_3_method_12_code
def yX1_touches : MethodName := ⟨RX1, "touches", "(ILTouchingCoins$Four;I)Z"⟩
abbrev cX1_hasBendsOf : ByteArray := prog_3_method_13_code
def yX1_hasBendsOf : MethodName := ⟨RX1, "hasBendsOf", "(LTouchingCoins$Four;)Z"⟩
abbrev cX1_timesOf : ByteArray := prog_3_method_14_code
def yX1_timesOf : MethodName := ⟨RX1, "timesOf", "(J)I"⟩
abbrev cX1_refusalOfCoin : ByteArray := prog_3_method_15_code
def yX1_refusalOfCoin : MethodName := ⟨RX1, "refusalOfCoin", "(I)I"⟩
abbrev cX1_isBendRefused : ByteArray := prog_3_method_16_code
def yX1_isBendRefused : MethodName := ⟨RX1, "isBendRefused", "(I)Z"⟩
abbrev cX1_isPlaceRefused : ByteArray := prog_3_method_17_code
def yX1_isPlaceRefused : MethodName := ⟨RX1, "isPlaceRefused", "(I)Z"⟩
abbrev cX1_isBeyond : ByteArray := prog_3_method_18_code
def yX1_isBeyond : MethodName := ⟨RX1, "isBeyond", "(J)Z"⟩
abbrev cX1_refusal : ByteArray := prog_3_method_19_code
def yX1_refusal : MethodName := ⟨RX1, "refusal", "()I"⟩
abbrev cX1_doBendsStand : ByteArray := prog_3_method_20_code
def yX1_doBendsStand : MethodName := ⟨RX1, "doBendsStand", "()Z"⟩
abbrev cX1_bendsBelowZero : ByteArray := prog_3_method_21_code
def yX1_bendsBelowZero : MethodName := ⟨RX1, "bendsBelowZero", "()I"⟩
abbrev cX1_divisorOfBends : ByteArray := prog_3_method_22_code
def yX1_divisorOfBends : MethodName := ⟨RX1, "divisorOfBends", "()J"⟩
abbrev cX1_doAllTouch : ByteArray := prog_3_method_23_code
def yX1_doAllTouch : MethodName := ⟨RX1, "doAllTouch", "()Z"⟩
def RX2 : String := "TouchingCoins$Listing"
def TX2 : u_T := fun k => match k with
  | 0 => ("TouchingCoins$Listing", "rows", "[[J", true)
  | 1 => ("TouchingCoins$Listing", "size", "I", false)
  | 2 => ("TouchingCoins$Listing", "most", "I", false)
  | _ => ("TouchingCoins$Listing", "seen", "I", false)
def tyX2 : Nat → FieldType := fun k => match k with
  | 0 => .array (.array .long)
  | 1 => .int
  | 2 => .int
  | _ => .int
abbrev wsX20 : List Cond := u_ws RX2 TX2 4
theorem nmX2 : ∀ a, a < 4 → ∀ b, b < 4 → a ≠ b → (TX2 a).2.1 ≠ (TX2 b).2.1 := by decide +kernel
theorem tyX2_ok : ∀ k, k < 4 → parseFieldDescriptor (TX2 k).2.2.1 = some (tyX2 k) := by decide +kernel
abbrev cX2_init : ByteArray := prog_4_method_1_code
def yX2_init : MethodName := ⟨RX2, "<init>", "()V"⟩
abbrev cX2_begin : ByteArray := prog_4_method_2_code
def yX2_begin : MethodName := ⟨RX2, "begin", "(II)V"⟩
abbrev cX2_enter : ByteArray := prog_4_method_3_code
def yX2_enter : MethodName := ⟨RX2, "enter", "(LTouchingCoins$Four;I)Z"⟩
abbrev cX2_order : ByteArray := prog_4_method_4_code
def yX2_order : MethodName := ⟨RX2, "order", "(ILTouchingCoins$Four;I)I"⟩
abbrev cX2_bendLeft : ByteArray := prog_4_method_5_code
def yX2_bendLeft : MethodName := ⟨RX2, "bendLeft", "(I)I"⟩
def RX3 : String := "TouchingCoins$NestSearch"
def TX3 : u_T := fun k => match k with
  | 0 => ("TouchingCoins$NestSearch", "waiting", "[LTouchingCoins$Four;", true)
  | 1 => ("TouchingCoins$NestSearch", "back", "[I", true)
  | 2 => ("TouchingCoins$NestSearch", "next", "LTouchingCoins$Four;", true)
  | _ => ("TouchingCoins$NestSearch", "end", "I", false)
def tyX3 : Nat → FieldType := fun k => match k with
  | 0 => .array (.object "TouchingCoins$Four")
  | 1 => .array .int
  | 2 => .object "TouchingCoins$Four"
  | _ => .int
abbrev wsX30 : List Cond := u_ws RX3 TX3 4
theorem nmX3 : ∀ a, a < 4 → ∀ b, b < 4 → a ≠ b → (TX3 a).2.1 ≠ (TX3 b).2.1 := by decide +kernel
theorem tyX3_ok : ∀ k, k < 4 → parseFieldDescriptor (TX3 k).2.2.1 = some (tyX3 k) := by decide +kernel
abbrev cX3_init : ByteArray := prog_5_method_1_code
def yX3_init : MethodName := ⟨RX3, "<init>", "()V"⟩
abbrev cX3_gather : ByteArray := prog_5_method_2_code
def yX3_gather : MethodName := ⟨RX3, "gather", "(LTouchingCoins$Four;LTouchingCoins$Listing;)Z"⟩
abbrev cX3_swapEachWay : ByteArray := prog_5_method_3_code
def yX3_swapEachWay : MethodName := ⟨RX3, "swapEachWay", "(ILTouchingCoins$Listing;)Z"⟩
abbrev cX3_addWaiting : ByteArray := prog_5_method_4_code
def yX3_addWaiting : MethodName := ⟨RX3, "addWaiting", "(LTouchingCoins$Four;I)Z"⟩
def RX4 : String := "TouchingCoins$Quad"
def TX4 : u_T := fun k => match k with
  | 0 => ("TouchingCoins$Quad", "coins", "LTouchingCoins$Four;", true)
  | 1 => ("TouchingCoins$Quad", "root", "LTouchingCoins$Four;", true)
  | 2 => ("TouchingCoins$Quad", "from", "I", false)
  | 3 => ("TouchingCoins$Quad", "steps", "I", false)
  | _ => ("TouchingCoins$Quad", "seen", "I", false)
def tyX4 : Nat → FieldType := fun k => match k with
  | 0 => .object "TouchingCoins$Four"
  | 1 => .object "TouchingCoins$Four"
  | 2 => .int
  | 3 => .int
  | _ => .int
abbrev wsX40 : List Cond := u_ws RX4 TX4 5
theorem nmX4 : ∀ a, a < 5 → ∀ b, b < 5 → a ≠ b → (TX4 a).2.1 ≠ (TX4 b).2.1 := by decide +kernel
theorem tyX4_ok : ∀ k, k < 5 → parseFieldDescriptor (TX4 k).2.2.1 = some (tyX4 k) := by decide +kernel
abbrev cX4_init : ByteArray := prog_6_method_1_code
def yX4_init : MethodName := ⟨RX4, "<init>", "()V"⟩
abbrev cX4_become : ByteArray := prog_6_method_2_code
def yX4_become : MethodName := ⟨RX4, "become", "(LTouchingCoins$Four;II)V"⟩
def RX5 : String := "TouchingCoins$Remainders"
def TX5 : u_T := fun k => match k with
  | 0 => ("TouchingCoins$Remainders", "fours", "[I", true)
  | _ => ("TouchingCoins$Remainders", "end", "I", false)
def tyX5 : Nat → FieldType := fun k => match k with
  | 0 => .array .int
  | _ => .int
abbrev wsX50 : List Cond := u_ws RX5 TX5 2
theorem nmX5 : ∀ a, a < 2 → ∀ b, b < 2 → a ≠ b → (TX5 a).2.1 ≠ (TX5 b).2.1 := by decide +kernel
theorem tyX5_ok : ∀ k, k < 2 → parseFieldDescriptor (TX5 k).2.2.1 = some (tyX5 k) := by decide +kernel
abbrev cX5_init : ByteArray := prog_7_method_1_code
def yX5_init : MethodName := ⟨RX5, "<init>", "()V"⟩
abbrev cX5_gather : ByteArray := prog_7_method_2_code
def yX5_gather : MethodName := ⟨RX5, "gather", "(LTouchingCoins$Four;)I"⟩
abbrev cX5_digit : ByteArray := prog_7_method_3_code
def yX5_digit : MethodName := ⟨RX5, "digit", "(II)I"⟩
abbrev cX5_swapped : ByteArray := prog_7_method_4_code
def yX5_swapped : MethodName := ⟨RX5, "swapped", "(II)I"⟩
abbrev cX5_enter : ByteArray := prog_7_method_5_code
def yX5_enter : MethodName := ⟨RX5, "enter", "(I)V"⟩
def RX6 : String := "TouchingCoins"
def TX6 : u_T := fun k => match k with
  | 0 => ("TouchingCoins", "bags", "[LTouchingCoins$Bag;", true)
  | 1 => ("TouchingCoins", "quads", "[LTouchingCoins$Quad;", true)
  | 2 => ("TouchingCoins", "quadCount", "I", false)
  | 3 => ("TouchingCoins", "desk", "LTouchingCoins$Four;", true)
  | 4 => ("TouchingCoins", "remainders", "LTouchingCoins$Remainders;", true)
  | 5 => ("TouchingCoins", "search", "LTouchingCoins$NestSearch;", true)
  | 6 => ("TouchingCoins", "listing", "LTouchingCoins$Listing;", false)
  | _ => ("TouchingCoins", "draft", "LTouchingCoins$Listing;", false)
def tyX6 : Nat → FieldType := fun k => match k with
  | 0 => .array (.object "TouchingCoins$Bag")
  | 1 => .array (.object "TouchingCoins$Quad")
  | 2 => .int
  | 3 => .object "TouchingCoins$Four"
  | 4 => .object "TouchingCoins$Remainders"
  | 5 => .object "TouchingCoins$NestSearch"
  | 6 => .object "TouchingCoins$Listing"
  | _ => .object "TouchingCoins$Listing"
abbrev wsX60 : List Cond := u_ws RX6 TX6 8
theorem nmX6 : ∀ a, a < 8 → ∀ b, b < 8 → a ≠ b → (TX6 a).2.1 ≠ (TX6 b).2.1 := by decide +kernel
theorem tyX6_ok : ∀ k, k < 8 → parseFieldDescriptor (TX6 k).2.2.1 = some (tyX6 k) := by decide +kernel
abbrev cX6_init : ByteArray := prog_1_method_1_code
def yX6_init : MethodName := ⟨RX6, "<init>", "()V"⟩
abbrev cX6_bag : ByteArray := prog_1_method_2_code
def yX6_bag : MethodName := ⟨RX6, "bag", "(III)I"⟩
abbrev cX6_put : ByteArray := prog_1_method_3_code
def yX6_put : MethodName := ⟨RX6, "put", "(IIJ)I"⟩
abbrev cX6_copy : ByteArray := prog_1_method_4_code
def yX6_copy : MethodName := ⟨RX6, "copy", "(IIIII)I"⟩
abbrev cX6_holds : ByteArray := prog_1_method_5_code
def yX6_holds : MethodName := ⟨RX6, "holds", "(IIJ)I"⟩
abbrev cX6_quad : ByteArray := prog_1_method_6_code
def yX6_quad : MethodName := ⟨RX6, "quad", "(II)I"⟩
abbrev cX6_swap : ByteArray := prog_1_method_7_code
def yX6_swap : MethodName := ⟨RX6, "swap", "(II)I"⟩
abbrev cX6_coin : ByteArray := prog_1_method_8_code
def yX6_coin : MethodName := ⟨RX6, "coin", "(III)I"⟩
abbrev cX6_from : ByteArray := prog_1_method_9_code
def yX6_from : MethodName := ⟨RX6, "from", "(I)I"⟩
abbrev cX6_steps : ByteArray := prog_1_method_10_code
def yX6_steps : MethodName := ⟨RX6, "steps", "(I)I"⟩
abbrev cX6_step : ByteArray := prog_1_method_11_code
def yX6_step : MethodName := ⟨RX6, "step", "(II)I"⟩
abbrev cX6_root : ByteArray := prog_1_method_12_code
def yX6_root : MethodName := ⟨RX6, "root", "(III)I"⟩
abbrev cX6_same : ByteArray := prog_1_method_13_code
def yX6_same : MethodName := ⟨RX6, "same", "(II)I"⟩
abbrev cX6_touch : ByteArray := prog_1_method_14_code
def yX6_touch : MethodName := ⟨RX6, "touch", "(IIII)I"⟩
abbrev cX6_list : ByteArray := prog_1_method_15_code
def yX6_list : MethodName := ⟨RX6, "list", "(II)I"⟩
abbrev cX6_listed : ByteArray := prog_1_method_16_code
def yX6_listed : MethodName := ⟨RX6, "listed", "(II)I"⟩
abbrev cX6_find : ByteArray := prog_1_method_17_code
def yX6_find : MethodName := ⟨RX6, "find", "(I)I"⟩
abbrev cX6_left : ByteArray := prog_1_method_18_code
def yX6_left : MethodName := ⟨RX6, "left", "(I)I"⟩
abbrev cX6_seen : ByteArray := prog_1_method_19_code
def yX6_seen : MethodName := ⟨RX6, "seen", "(I)I"⟩
abbrev cX6_chain : ByteArray := prog_1_method_20_code
def yX6_chain : MethodName := ⟨RX6, "chain", "(IIIII)I"⟩
abbrev cX6_count : ByteArray := prog_1_method_21_code
def yX6_count : MethodName := ⟨RX6, "count", "(I)I"⟩
abbrev cX6_isBag : ByteArray := prog_1_method_22_code
def yX6_isBag : MethodName := ⟨RX6, "isBag", "(I)Z"⟩
abbrev cX6_isQuad : ByteArray := prog_1_method_23_code
def yX6_isQuad : MethodName := ⟨RX6, "isQuad", "(I)Z"⟩
abbrev cX6_isCoin : ByteArray := prog_1_method_24_code
def yX6_isCoin : MethodName := ⟨RX6, "isCoin", "(I)Z"⟩
abbrev cX6_isWhat : ByteArray := prog_1_method_25_code
def yX6_isWhat : MethodName := ⟨RX6, "isWhat", "(I)Z"⟩
abbrev cX6_refusalOfPlaces : ByteArray := prog_1_method_26_code
def yX6_refusalOfPlaces : MethodName := ⟨RX6, "refusalOfPlaces", "(III)I"⟩
abbrev cX6_keepDesk : ByteArray := prog_1_method_27_code
def yX6_keepDesk : MethodName := ⟨RX6, "keepDesk", "(II)I"⟩
abbrev cX6_firstBut : ByteArray := prog_1_method_28_code
def yX6_firstBut : MethodName := ⟨RX6, "firstBut", "(II)I"⟩
def RX7 : String := "TouchingCoinsModel"
def TX7 : u_T := fun k => match k with
  | 0 => ("TouchingCoinsModel", "kind", "[I", true)
  | 1 => ("TouchingCoinsModel", "size", "[I", true)
  | 2 => ("TouchingCoinsModel", "bags", "[J", true)
  | 3 => ("TouchingCoinsModel", "quads", "I", false)
  | 4 => ("TouchingCoinsModel", "from", "[I", true)
  | 5 => ("TouchingCoinsModel", "coins", "[I", true)
  | 6 => ("TouchingCoinsModel", "four", "[J", true)
  | 7 => ("TouchingCoinsModel", "steps", "I", false)
  | 8 => ("TouchingCoinsModel", "stepCoin", "[I", true)
  | 9 => ("TouchingCoinsModel", "listMany", "I", false)
  | 10 => ("TouchingCoinsModel", "listMost", "I", false)
  | 11 => ("TouchingCoinsModel", "listQuad", "I", false)
  | 12 => ("TouchingCoinsModel", "listCoins", "[I", true)
  | 13 => ("TouchingCoinsModel", "middle", "[J", true)
  | 14 => ("TouchingCoinsModel", "bends", "[J", true)
  | 15 => ("TouchingCoinsModel", "piled", "I", false)
  | 16 => ("TouchingCoinsModel", "pile", "[J", true)
  | 17 => ("TouchingCoinsModel", "pileBy", "[I", true)
  | 18 => ("TouchingCoinsModel", "gathered", "I", false)
  | 19 => ("TouchingCoinsModel", "gather", "[J", true)
  | 20 => ("TouchingCoinsModel", "isSeen", "[I", true)
  | _ => ("TouchingCoinsModel", "open", "[I", true)
def tyX7 : Nat → FieldType := fun k => match k with
  | 0 => .array .int
  | 1 => .array .int
  | 2 => .array .long
  | 3 => .int
  | 4 => .array .int
  | 5 => .array .int
  | 6 => .array .long
  | 7 => .int
  | 8 => .array .int
  | 9 => .int
  | 10 => .int
  | 11 => .int
  | 12 => .array .int
  | 13 => .array .long
  | 14 => .array .long
  | 15 => .int
  | 16 => .array .long
  | 17 => .array .int
  | 18 => .int
  | 19 => .array .long
  | 20 => .array .int
  | _ => .array .int
abbrev wsX70 : List Cond := u_ws RX7 TX7 22
theorem nmX7 : ∀ a, a < 22 → ∀ b, b < 22 → a ≠ b → (TX7 a).2.1 ≠ (TX7 b).2.1 := by decide +kernel
theorem tyX7_ok : ∀ k, k < 22 → parseFieldDescriptor (TX7 k).2.2.1 = some (tyX7 k) := by decide +kernel
abbrev cX7_init : ByteArray := prog_9_method_1_code
def yX7_init : MethodName := ⟨RX7, "<init>", "()V"⟩
abbrev cX7_in : ByteArray := prog_9_method_2_code
def yX7_in : MethodName := ⟨RX7, "in", "(JJJ)Z"⟩
abbrev cX7_isBag : ByteArray := prog_9_method_3_code
def yX7_isBag : MethodName := ⟨RX7, "isBag", "(I)Z"⟩
abbrev cX7_bag : ByteArray := prog_9_method_4_code
def yX7_bag : MethodName := ⟨RX7, "bag", "(III)I"⟩
abbrev cX7_against : ByteArray := prog_9_method_5_code
def yX7_against : MethodName := ⟨RX7, "against", "(II)I"⟩
abbrev cX7_put : ByteArray := prog_9_method_6_code
def yX7_put : MethodName := ⟨RX7, "put", "(IIJ)I"⟩
abbrev cX7_copy : ByteArray := prog_9_method_7_code
def yX7_copy : MethodName := ⟨RX7, "copy", "(IIIII)I"⟩
abbrev cX7_holds : ByteArray := prog_9_method_8_code
def yX7_holds : MethodName := ⟨RX7, "holds", "(IIJ)I"⟩
abbrev cX7_isQuad : ByteArray := prog_9_method_9_code
def yX7_isQuad : MethodName := ⟨RX7, "isQuad", "(I)Z"⟩
abbrev cX7_isBend : ByteArray := prog_9_method_10_code
def yX7_isBend : MethodName := ⟨RX7, "isBend", "(J)Z"⟩
abbrev cX7_isPlace : ByteArray := prog_9_method_11_code
def yX7_isPlace : MethodName := ⟨RX7, "isPlace", "(J)Z"⟩
abbrev cX7_areTouching : ByteArray := prog_9_method_12_code
def yX7_areTouching : MethodName := ⟨RX7, "areTouching", "(JJJJJJ)Z"⟩
abbrev cX7_common : ByteArray := prog_9_method_13_code
def yX7_common : MethodName := ⟨RX7, "common", "(JJ)J"⟩
abbrev cX7_againstFour : ByteArray := prog_9_method_14_code
def yX7_againstFour : MethodName := ⟨RX7, "againstFour", "()I"⟩
abbrev cX7_newQuad : ByteArray := prog_9_method_15_code
def yX7_newQuad : MethodName := ⟨RX7, "newQuad", "(I)I"⟩
abbrev cX7_quad : ByteArray := prog_9_method_16_code
def yX7_quad : MethodName := ⟨RX7, "quad", "(II)I"⟩
abbrev cX7_take : ByteArray := prog_9_method_17_code
def yX7_take : MethodName := ⟨RX7, "take", "(I)V"⟩
abbrev cX7_swapAt : ByteArray := prog_9_method_18_code
def yX7_swapAt : MethodName := ⟨RX7, "swapAt", "(I)V"⟩
abbrev cX7_swap : ByteArray := prog_9_method_19_code
def yX7_swap : MethodName := ⟨RX7, "swap", "(II)I"⟩
abbrev cX7_isCoin : ByteArray := prog_9_method_20_code
def yX7_isCoin : MethodName := ⟨RX7, "isCoin", "(II)Z"⟩
abbrev cX7_coin : ByteArray := prog_9_method_21_code
def yX7_coin : MethodName := ⟨RX7, "coin", "(III)I"⟩
abbrev cX7_from : ByteArray := prog_9_method_22_code
def yX7_from : MethodName := ⟨RX7, "from", "(I)I"⟩
abbrev cX7_greatest : ByteArray := prog_9_method_23_code
def yX7_greatest : MethodName := ⟨RX7, "greatest", "()I"⟩
abbrev cX7_goDown : ByteArray := prog_9_method_24_code
def yX7_goDown : MethodName := ⟨RX7, "goDown", "(I)V"⟩
abbrev cX7_steps : ByteArray := prog_9_method_25_code
def yX7_steps : MethodName := ⟨RX7, "steps", "(I)I"⟩
abbrev cX7_step : ByteArray := prog_9_method_26_code
def yX7_step : MethodName := ⟨RX7, "step", "(II)I"⟩
abbrev cX7_root : ByteArray := prog_9_method_27_code
def yX7_root : MethodName := ⟨RX7, "root", "(III)I"⟩
abbrev cX7_layBends : ByteArray := prog_9_method_28_code
def yX7_layBends : MethodName := ⟨RX7, "layBends", "()V"⟩
abbrev cX7_same : ByteArray := prog_9_method_29_code
def yX7_same : MethodName := ⟨RX7, "same", "(II)I"⟩
abbrev cX7_touch : ByteArray := prog_9_method_30_code
def yX7_touch : MethodName := ⟨RX7, "touch", "(IIII)I"⟩
abbrev cX7_lists : ByteArray := prog_9_method_31_code
def yX7_lists : MethodName := ⟨RX7, "lists", "(I)Z"⟩
abbrev cX7_isBehind : ByteArray := prog_9_method_32_code
def yX7_isBehind : MethodName := ⟨RX7, "isBehind", "(IJJJ)Z"⟩
abbrev cX7_push : ByteArray := prog_9_method_33_code
def yX7_push : MethodName := ⟨RX7, "push", "(I)Z"⟩
abbrev cX7_pop : ByteArray := prog_9_method_34_code
def yX7_pop : MethodName := ⟨RX7, "pop", "()I"⟩
abbrev cX7_areUpTo : ByteArray := prog_9_method_35_code
def yX7_areUpTo : MethodName := ⟨RX7, "areUpTo", "(I)Z"⟩
abbrev cX7_gathers : ByteArray := prog_9_method_36_code
def yX7_gathers : MethodName := ⟨RX7, "gathers", "(I)Z"⟩
abbrev cX7_list : ByteArray := prog_9_method_37_code
def yX7_list : MethodName := ⟨RX7, "list", "(II)I"⟩
abbrev cX7_listed : ByteArray := prog_9_method_38_code
def yX7_listed : MethodName := ⟨RX7, "listed", "(II)I"⟩
abbrev cX7_find : ByteArray := prog_9_method_39_code
def yX7_find : MethodName := ⟨RX7, "find", "(I)I"⟩
abbrev cX7_left : ByteArray := prog_9_method_40_code
def yX7_left : MethodName := ⟨RX7, "left", "(I)I"⟩
abbrev cX7_restOf : ByteArray := prog_9_method_41_code
def yX7_restOf : MethodName := ⟨RX7, "restOf", "(I)I"⟩
abbrev cX7_see : ByteArray := prog_9_method_42_code
def yX7_see : MethodName := ⟨RX7, "see", "(I)Z"⟩
abbrev cX7_seen : ByteArray := prog_9_method_43_code
def yX7_seen : MethodName := ⟨RX7, "seen", "(I)I"⟩
abbrev cX7_chain : ByteArray := prog_9_method_44_code
def yX7_chain : MethodName := ⟨RX7, "chain", "(IIIII)I"⟩
abbrev cX7_count : ByteArray := prog_9_method_45_code
def yX7_count : MethodName := ⟨RX7, "count", "(I)I"⟩
def RJ13 : String := "java/lang/Long"
abbrev cJ13_compare_74951 : ByteArray := prog_10_method_42_code
def yJ13_compare_74951 : MethodName := ⟨RJ13, "compare", "(JJ)I"⟩
def RJ9 : String := "java/lang/Math"
abbrev cJ9_floorMod_7cf53 : ByteArray := prog_11_method_50_code
def yJ9_floorMod_7cf53 : MethodName := ⟨RJ9, "floorMod", "(II)I"⟩
abbrev cJ9_floorMod_f86c9 : ByteArray := prog_11_method_52_code
def yJ9_floorMod_f86c9 : MethodName := ⟨RJ9, "floorMod", "(JJ)J"⟩
abbrev cJ9_abs_067f4 : ByteArray := prog_11_method_61_code
def yJ9_abs_067f4 : MethodName := ⟨RJ9, "abs", "(J)J"⟩
def RJ10 : String := "java/lang/System"
def RJ7 : String := "java/util/Arrays"
abbrev cJ7_fill_d0a16 : ByteArray := prog_13_method_101_code
def yJ7_fill_d0a16 : MethodName := ⟨RJ7, "fill", "([JJ)V"⟩
def RL : String := "TouchingCoinsLaw"
abbrev cL_law : ByteArray := code
abbrev vwCl : List vw_C := [(RX0, TX0, 3), (RX1, TX1, 1), (RX2, TX2, 4), (RX3, TX3, 4), (RX4, TX4, 5), (RX5, TX5, 2), (RX6, TX6, 8), (RX7, TX7, 22)]
end
section
theorem dX0_init_0 : decode cX0_init 0 = .ok (.aload_n 0, 1) := by decide +kernel
theorem dX0_init_1 : decode cX0_init 1 = .ok (.invokespecial 3, 3) := by decide +kernel
theorem dX0_init_4 : decode cX0_init 4 = .ok (.aload_n 0, 1) := by decide +kernel
theorem dX0_init_5 : decode cX0_init 5 = .ok (.bipush 24, 2) := by decide +kernel
theorem dX0_init_7 : decode cX0_init 7 = .ok (.newarray .long, 2) := by decide +kernel
theorem dX0_init_9 : decode cX0_init 9 = .ok (.putfield 9, 3) := by decide +kernel
theorem dX0_init_12 : decode cX0_init 12 = .ok (.aload_n 0, 1) := by decide +kernel
theorem dX0_init_13 : decode cX0_init 13 = .ok (.iconst (-1), 1) := by decide +kernel
theorem dX0_init_14 : decode cX0_init 14 = .ok (.putfield 15, 3) := by decide +kernel
theorem dX0_init_17 : decode cX0_init 17 = .ok (.aload_n 0, 1) := by decide +kernel
theorem dX0_init_18 : decode cX0_init 18 = .ok (.iconst 0, 1) := by decide +kernel
theorem dX0_init_19 : decode cX0_init 19 = .ok (.putfield 19, 3) := by decide +kernel
theorem dX0_init_22 : decode cX0_init 22 = .ok (.return_, 1) := by decide +kernel
theorem dX0_become_0 : decode cX0_become 0 = .ok (.aload_n 0, 1) := by decide +kernel
theorem dX0_become_1 : decode cX0_become 1 = .ok (.iload_n 1, 1) := by decide +kernel
theorem dX0_become_2 : decode cX0_become 2 = .ok (.putfield 15, 3) := by decide +kernel
theorem dX0_become_5 : decode cX0_become 5 = .ok (.aload_n 0, 1) := by decide +kernel
theorem dX0_become_6 : decode cX0_become 6 = .ok (.iload_n 2, 1) := by decide +kernel
theorem dX0_become_7 : decode cX0_become 7 = .ok (.putfield 19, 3) := by decide +kernel
theorem dX0_become_10 : decode cX0_become 10 = .ok (.aload_n 0, 1) := by decide +kernel
theorem dX0_become_11 : decode cX0_become 11 = .ok (.getfield 9, 3) := by decide +kernel
theorem dX0_become_14 : decode cX0_become 14 = .ok (.lconst 0, 1) := by decide +kernel
theorem dX0_become_15 : decode cX0_become 15 = .ok (.invokestatic 22, 3) := by decide +kernel
theorem dX0_become_18 : decode cX0_become 18 = .ok (.return_, 1) := by decide +kernel
theorem dX0_hasPlaces_0 : decode cX0_hasPlaces 0 = .ok (.iload_n 1, 1) := by decide +kernel
theorem dX0_hasPlaces_1 : decode cX0_hasPlaces 1 = .ok (.ifCond .lt 25, 3) := by decide +kernel
theorem dX0_hasPlaces_4 : decode cX0_hasPlaces 4 = .ok (.iload_n 2, 1) := by decide +kernel
theorem dX0_hasPlaces_5 : decode cX0_hasPlaces 5 = .ok (.ifCond .lt 21, 3) := by decide +kernel
theorem dX0_hasPlaces_8 : decode cX0_hasPlaces 8 = .ok (.iload_n 1, 1) := by decide +kernel
theorem dX0_hasPlaces_9 : decode cX0_hasPlaces 9 = .ok (.i2l, 1) := by decide +kernel
theorem dX0_hasPlaces_10 : decode cX0_hasPlaces 10 = .ok (.iload_n 2, 1) := by decide +kernel
theorem dX0_hasPlaces_11 : decode cX0_hasPlaces 11 = .ok (.i2l, 1) := by decide +kernel
theorem dX0_hasPlaces_12 : decode cX0_hasPlaces 12 = .ok (.ladd, 1) := by decide +kernel
theorem dX0_hasPlaces_13 : decode cX0_hasPlaces 13 = .ok (.aload_n 0, 1) := by decide +kernel
theorem dX0_hasPlaces_14 : decode cX0_hasPlaces 14 = .ok (.getfield 19, 3) := by decide +kernel
theorem dX0_hasPlaces_17 : decode cX0_hasPlaces 17 = .ok (.i2l, 1) := by decide +kernel
theorem dX0_hasPlaces_18 : decode cX0_hasPlaces 18 = .ok (.lcmp, 1) := by decide +kernel
theorem dX0_hasPlaces_19 : decode cX0_hasPlaces 19 = .ok (.ifCond .gt 7, 3) := by decide +kernel
theorem dX0_hasPlaces_22 : decode cX0_hasPlaces 22 = .ok (.iconst 1, 1) := by decide +kernel
theorem dX0_hasPlaces_23 : decode cX0_hasPlaces 23 = .ok (.goto 4, 3) := by decide +kernel
theorem dX0_hasPlaces_26 : decode cX0_hasPlaces 26 = .ok (.iconst 0, 1) := by decide +kernel
theorem dX0_hasPlaces_27 : decode cX0_hasPlaces 27 = .ok (.ireturn, 1) := by decide +kernel
theorem dX0_keep_0 : decode cX0_keep 0 = .ok (.aload_n 0, 1) := by decide +kernel
theorem dX0_keep_1 : decode cX0_keep 1 = .ok (.getfield 15, 3) := by decide +kernel
theorem dX0_keep_4 : decode cX0_keep 4 = .ok (.ifCond .ne 16, 3) := by decide +kernel
theorem dX0_keep_7 : decode cX0_keep 7 = .ok (.aload_n 0, 1) := by decide +kernel
theorem dX0_keep_8 : decode cX0_keep 8 = .ok (.getfield 9, 3) := by decide +kernel
theorem dX0_keep_11 : decode cX0_keep 11 = .ok (.iload_n 1, 1) := by decide +kernel
theorem dX0_keep_12 : decode cX0_keep 12 = .ok (.lload_n 2, 1) := by decide +kernel
theorem dX0_keep_13 : decode cX0_keep 13 = .ok (.l2i, 1) := by decide +kernel
theorem dX0_keep_14 : decode cX0_keep 14 = .ok (.i2s, 1) := by decide +kernel
theorem dX0_keep_15 : decode cX0_keep 15 = .ok (.i2l, 1) := by decide +kernel
theorem dX0_keep_16 : decode cX0_keep 16 = .ok (.lastore, 1) := by decide +kernel
theorem dX0_keep_17 : decode cX0_keep 17 = .ok (.goto 30, 3) := by decide +kernel
theorem dX0_keep_20 : decode cX0_keep 20 = .ok (.aload_n 0, 1) := by decide +kernel
theorem dX0_keep_21 : decode cX0_keep 21 = .ok (.getfield 15, 3) := by decide +kernel
theorem dX0_keep_24 : decode cX0_keep 24 = .ok (.iconst 1, 1) := by decide +kernel
theorem dX0_keep_25 : decode cX0_keep 25 = .ok (.if_icmp .ne 15, 3) := by decide +kernel
theorem dX0_keep_28 : decode cX0_keep 28 = .ok (.aload_n 0, 1) := by decide +kernel
theorem dX0_keep_29 : decode cX0_keep 29 = .ok (.getfield 9, 3) := by decide +kernel
theorem dX0_keep_32 : decode cX0_keep 32 = .ok (.iload_n 1, 1) := by decide +kernel
theorem dX0_keep_33 : decode cX0_keep 33 = .ok (.lload_n 2, 1) := by decide +kernel
theorem dX0_keep_34 : decode cX0_keep 34 = .ok (.l2i, 1) := by decide +kernel
theorem dX0_keep_35 : decode cX0_keep 35 = .ok (.i2l, 1) := by decide +kernel
theorem dX0_keep_36 : decode cX0_keep 36 = .ok (.lastore, 1) := by decide +kernel
theorem dX0_keep_37 : decode cX0_keep 37 = .ok (.goto 10, 3) := by decide +kernel
theorem dX0_keep_40 : decode cX0_keep 40 = .ok (.aload_n 0, 1) := by decide +kernel
theorem dX0_keep_41 : decode cX0_keep 41 = .ok (.getfield 9, 3) := by decide +kernel
theorem dX0_keep_44 : decode cX0_keep 44 = .ok (.iload_n 1, 1) := by decide +kernel
theorem dX0_keep_45 : decode cX0_keep 45 = .ok (.lload_n 2, 1) := by decide +kernel
theorem dX0_keep_46 : decode cX0_keep 46 = .ok (.lastore, 1) := by decide +kernel
theorem dX0_keep_47 : decode cX0_keep 47 = .ok (.return_, 1) := by decide +kernel
theorem dX1_init_0 : decode cX1_init 0 = .ok (.aload_n 0, 1) := by decide +kernel
theorem dX1_init_1 : decode cX1_init 1 = .ok (.invokespecial 3, 3) := by decide +kernel
theorem dX1_init_4 : decode cX1_init 4 = .ok (.aload_n 0, 1) := by decide +kernel
theorem dX1_init_5 : decode cX1_init 5 = .ok (.bipush 12, 2) := by decide +kernel
theorem dX1_init_7 : decode cX1_init 7 = .ok (.newarray .long, 2) := by decide +kernel
theorem dX1_init_9 : decode cX1_init 9 = .ok (.putfield 11, 3) := by decide +kernel
theorem dX1_init_12 : decode cX1_init 12 = .ok (.return_, 1) := by decide +kernel
theorem dX1_take_0 : decode cX1_take 0 = .ok (.aload_n 1, 1) := by decide +kernel
theorem dX1_take_1 : decode cX1_take 1 = .ok (.getfield 11, 3) := by decide +kernel
theorem dX1_take_4 : decode cX1_take 4 = .ok (.iconst 0, 1) := by decide +kernel
theorem dX1_take_5 : decode cX1_take 5 = .ok (.aload_n 0, 1) := by decide +kernel
theorem dX1_take_6 : decode cX1_take 6 = .ok (.getfield 11, 3) := by decide +kernel
theorem dX1_take_9 : decode cX1_take 9 = .ok (.iconst 0, 1) := by decide +kernel
theorem dX1_take_10 : decode cX1_take 10 = .ok (.bipush 12, 2) := by decide +kernel
theorem dX1_take_12 : decode cX1_take 12 = .ok (.invokestatic 15, 3) := by decide +kernel
theorem dX1_take_15 : decode cX1_take 15 = .ok (.return_, 1) := by decide +kernel
theorem dX1_told_0 : decode cX1_told 0 = .ok (.aload_n 0, 1) := by decide +kernel
theorem dX1_told_1 : decode cX1_told 1 = .ok (.getfield 11, 3) := by decide +kernel
theorem dX1_told_4 : decode cX1_told 4 = .ok (.iconst 4, 1) := by decide +kernel
theorem dX1_told_5 : decode cX1_told 5 = .ok (.iload_n 2, 1) := by decide +kernel
theorem dX1_told_6 : decode cX1_told 6 = .ok (.imul, 1) := by decide +kernel
theorem dX1_told_7 : decode cX1_told 7 = .ok (.iload_n 1, 1) := by decide +kernel
theorem dX1_told_8 : decode cX1_told 8 = .ok (.iadd, 1) := by decide +kernel
theorem dX1_told_9 : decode cX1_told 9 = .ok (.laload, 1) := by decide +kernel
theorem dX1_told_10 : decode cX1_told 10 = .ok (.lreturn, 1) := by decide +kernel
theorem dX1_bend_0 : decode cX1_bend 0 = .ok (.aload_n 0, 1) := by decide +kernel
theorem dX1_bend_1 : decode cX1_bend 1 = .ok (.getfield 11, 3) := by decide +kernel
theorem dX1_bend_4 : decode cX1_bend 4 = .ok (.iload_n 1, 1) := by decide +kernel
theorem dX1_bend_5 : decode cX1_bend 5 = .ok (.laload, 1) := by decide +kernel
theorem dX1_bend_6 : decode cX1_bend 6 = .ok (.lreturn, 1) := by decide +kernel
theorem dX1_sum_0 : decode cX1_sum 0 = .ok (.aload_n 0, 1) := by decide +kernel
theorem dX1_sum_1 : decode cX1_sum 1 = .ok (.iconst 0, 1) := by decide +kernel
theorem dX1_sum_2 : decode cX1_sum 2 = .ok (.iload_n 1, 1) := by decide +kernel
theorem dX1_sum_3 : decode cX1_sum 3 = .ok (.invokevirtual 21, 3) := by decide +kernel
theorem dX1_sum_6 : decode cX1_sum 6 = .ok (.aload_n 0, 1) := by decide +kernel
theorem dX1_sum_7 : decode cX1_sum 7 = .ok (.iconst 1, 1) := by decide +kernel
theorem dX1_sum_8 : decode cX1_sum 8 = .ok (.iload_n 1, 1) := by decide +kernel
theorem dX1_sum_9 : decode cX1_sum 9 = .ok (.invokevirtual 21, 3) := by decide +kernel
theorem dX1_sum_12 : decode cX1_sum 12 = .ok (.ladd, 1) := by decide +kernel
theorem dX1_sum_13 : decode cX1_sum 13 = .ok (.aload_n 0, 1) := by decide +kernel
theorem dX1_sum_14 : decode cX1_sum 14 = .ok (.iconst 2, 1) := by decide +kernel
theorem dX1_sum_15 : decode cX1_sum 15 = .ok (.iload_n 1, 1) := by decide +kernel
theorem dX1_sum_16 : decode cX1_sum 16 = .ok (.invokevirtual 21, 3) := by decide +kernel
theorem dX1_sum_19 : decode cX1_sum 19 = .ok (.ladd, 1) := by decide +kernel
theorem dX1_sum_20 : decode cX1_sum 20 = .ok (.aload_n 0, 1) := by decide +kernel
theorem dX1_sum_21 : decode cX1_sum 21 = .ok (.iconst 3, 1) := by decide +kernel
theorem dX1_sum_22 : decode cX1_sum 22 = .ok (.iload_n 1, 1) := by decide +kernel
theorem dX1_sum_23 : decode cX1_sum 23 = .ok (.invokevirtual 21, 3) := by decide +kernel
theorem dX1_sum_26 : decode cX1_sum 26 = .ok (.ladd, 1) := by decide +kernel
theorem dX1_sum_27 : decode cX1_sum 27 = .ok (.lreturn, 1) := by decide +kernel
theorem dX1_turned_0 : decode cX1_turned 0 = .ok (.ldc2_w 25, 3) := by decide +kernel
theorem dX1_turned_3 : decode cX1_turned 3 = .ok (.aload_n 0, 1) := by decide +kernel
theorem dX1_turned_4 : decode cX1_turned 4 = .ok (.iload_n 2, 1) := by decide +kernel
theorem dX1_turned_5 : decode cX1_turned 5 = .ok (.invokevirtual 27, 3) := by decide +kernel
theorem dX1_turned_8 : decode cX1_turned 8 = .ok (.lmul, 1) := by decide +kernel
theorem dX1_turned_9 : decode cX1_turned 9 = .ok (.ldc2_w 31, 3) := by decide +kernel
theorem dX1_turned_12 : decode cX1_turned 12 = .ok (.aload_n 0, 1) := by decide +kernel
theorem dX1_turned_13 : decode cX1_turned 13 = .ok (.iload_n 1, 1) := by decide +kernel
theorem dX1_turned_14 : decode cX1_turned 14 = .ok (.iload_n 2, 1) := by decide +kernel
theorem dX1_turned_15 : decode cX1_turned 15 = .ok (.invokevirtual 21, 3) := by decide +kernel
theorem dX1_turned_18 : decode cX1_turned 18 = .ok (.lmul, 1) := by decide +kernel
theorem dX1_turned_19 : decode cX1_turned 19 = .ok (.lsub, 1) := by decide +kernel
theorem dX1_turned_20 : decode cX1_turned 20 = .ok (.lreturn, 1) := by decide +kernel
theorem dX1_turn_0 : decode cX1_turn 0 = .ok (.iconst 0, 1) := by decide +kernel
theorem dX1_turn_1 : decode cX1_turn 1 = .ok (.istore_n 2, 1) := by decide +kernel
theorem dX1_turn_2 : decode cX1_turn 2 = .ok (.iload_n 2, 1) := by decide +kernel
theorem dX1_turn_3 : decode cX1_turn 3 = .ok (.iconst 2, 1) := by decide +kernel
theorem dX1_turn_4 : decode cX1_turn 4 = .ok (.if_icmp .gt 25, 3) := by decide +kernel
theorem dX1_turn_7 : decode cX1_turn 7 = .ok (.aload_n 0, 1) := by decide +kernel
theorem dX1_turn_8 : decode cX1_turn 8 = .ok (.getfield 11, 3) := by decide +kernel
theorem dX1_turn_11 : decode cX1_turn 11 = .ok (.iconst 4, 1) := by decide +kernel
theorem dX1_turn_12 : decode cX1_turn 12 = .ok (.iload_n 2, 1) := by decide +kernel
theorem dX1_turn_13 : decode cX1_turn 13 = .ok (.imul, 1) := by decide +kernel
theorem dX1_turn_14 : decode cX1_turn 14 = .ok (.iload_n 1, 1) := by decide +kernel
theorem dX1_turn_15 : decode cX1_turn 15 = .ok (.iadd, 1) := by decide +kernel
theorem dX1_turn_16 : decode cX1_turn 16 = .ok (.aload_n 0, 1) := by decide +kernel
theorem dX1_turn_17 : decode cX1_turn 17 = .ok (.iload_n 1, 1) := by decide +kernel
theorem dX1_turn_18 : decode cX1_turn 18 = .ok (.iload_n 2, 1) := by decide +kernel
theorem dX1_turn_19 : decode cX1_turn 19 = .ok (.invokevirtual 33, 3) := by decide +kernel
theorem dX1_turn_22 : decode cX1_turn 22 = .ok (.lastore, 1) := by decide +kernel
theorem dX1_turn_23 : decode cX1_turn 23 = .ok (.iinc 2 1, 3) := by decide +kernel
theorem dX1_turn_26 : decode cX1_turn 26 = .ok (.goto (-24), 3) := by decide +kernel
theorem dX1_turn_29 : decode cX1_turn 29 = .ok (.return_, 1) := by decide +kernel
theorem dX1_greatest_0 : decode cX1_greatest 0 = .ok (.iconst 0, 1) := by decide +kernel
theorem dX1_greatest_1 : decode cX1_greatest 1 = .ok (.istore_n 1, 1) := by decide +kernel
theorem dX1_greatest_2 : decode cX1_greatest 2 = .ok (.iconst 1, 1) := by decide +kernel
theorem dX1_greatest_3 : decode cX1_greatest 3 = .ok (.istore_n 2, 1) := by decide +kernel
theorem dX1_greatest_4 : decode cX1_greatest 4 = .ok (.iload_n 2, 1) := by decide +kernel
theorem dX1_greatest_5 : decode cX1_greatest 5 = .ok (.iconst 4, 1) := by decide +kernel
theorem dX1_greatest_6 : decode cX1_greatest 6 = .ok (.if_icmp .ge 25, 3) := by decide +kernel
theorem dX1_greatest_9 : decode cX1_greatest 9 = .ok (.aload_n 0, 1) := by decide +kernel
theorem dX1_greatest_10 : decode cX1_greatest 10 = .ok (.iload_n 2, 1) := by decide +kernel
theorem dX1_greatest_11 : decode cX1_greatest 11 = .ok (.invokevirtual 36, 3) := by decide +kernel
theorem dX1_greatest_14 : decode cX1_greatest 14 = .ok (.aload_n 0, 1) := by decide +kernel
theorem dX1_greatest_15 : decode cX1_greatest 15 = .ok (.iload_n 1, 1) := by decide +kernel
theorem dX1_greatest_16 : decode cX1_greatest 16 = .ok (.invokevirtual 36, 3) := by decide +kernel
theorem dX1_greatest_19 : decode cX1_greatest 19 = .ok (.lcmp, 1) := by decide +kernel
theorem dX1_greatest_20 : decode cX1_greatest 20 = .ok (.ifCond .le 5, 3) := by decide +kernel
theorem dX1_greatest_23 : decode cX1_greatest 23 = .ok (.iload_n 2, 1) := by decide +kernel
theorem dX1_greatest_24 : decode cX1_greatest 24 = .ok (.istore_n 1, 1) := by decide +kernel
theorem dX1_greatest_25 : decode cX1_greatest 25 = .ok (.iinc 2 1, 3) := by decide +kernel
theorem dX1_greatest_28 : decode cX1_greatest 28 = .ok (.goto (-24), 3) := by decide +kernel
theorem dX1_greatest_31 : decode cX1_greatest 31 = .ok (.iload_n 1, 1) := by decide +kernel
theorem dX1_greatest_32 : decode cX1_greatest 32 = .ok (.ireturn, 1) := by decide +kernel
theorem dX1_goDown_0 : decode cX1_goDown 0 = .ok (.iconst 0, 1) := by decide +kernel
theorem dX1_goDown_1 : decode cX1_goDown 1 = .ok (.istore_n 2, 1) := by decide +kernel
theorem dX1_goDown_2 : decode cX1_goDown 2 = .ok (.iload_n 2, 1) := by decide +kernel
theorem dX1_goDown_3 : decode cX1_goDown 3 = .ok (.iload_n 1, 1) := by decide +kernel
theorem dX1_goDown_4 : decode cX1_goDown 4 = .ok (.if_icmp .ge 36, 3) := by decide +kernel
theorem dX1_goDown_7 : decode cX1_goDown 7 = .ok (.aload_n 0, 1) := by decide +kernel
theorem dX1_goDown_8 : decode cX1_goDown 8 = .ok (.invokevirtual 39, 3) := by decide +kernel
theorem dX1_goDown_11 : decode cX1_goDown 11 = .ok (.istore_n 3, 1) := by decide +kernel
theorem dX1_goDown_12 : decode cX1_goDown 12 = .ok (.aload_n 0, 1) := by decide +kernel
theorem dX1_goDown_13 : decode cX1_goDown 13 = .ok (.iload_n 3, 1) := by decide +kernel
theorem dX1_goDown_14 : decode cX1_goDown 14 = .ok (.iconst 0, 1) := by decide +kernel
theorem dX1_goDown_15 : decode cX1_goDown 15 = .ok (.invokevirtual 33, 3) := by decide +kernel
theorem dX1_goDown_18 : decode cX1_goDown 18 = .ok (.aload_n 0, 1) := by decide +kernel
theorem dX1_goDown_19 : decode cX1_goDown 19 = .ok (.iload_n 3, 1) := by decide +kernel
theorem dX1_goDown_20 : decode cX1_goDown 20 = .ok (.invokevirtual 36, 3) := by decide +kernel
theorem dX1_goDown_23 : decode cX1_goDown 23 = .ok (.lcmp, 1) := by decide +kernel
theorem dX1_goDown_24 : decode cX1_goDown 24 = .ok (.ifCond .lt 5, 3) := by decide +kernel
theorem dX1_goDown_27 : decode cX1_goDown 27 = .ok (.iload_n 2, 1) := by decide +kernel
theorem dX1_goDown_28 : decode cX1_goDown 28 = .ok (.ireturn, 1) := by decide +kernel
theorem dX1_goDown_29 : decode cX1_goDown 29 = .ok (.aload_n 0, 1) := by decide +kernel
theorem dX1_goDown_30 : decode cX1_goDown 30 = .ok (.iload_n 3, 1) := by decide +kernel
theorem dX1_goDown_31 : decode cX1_goDown 31 = .ok (.invokevirtual 43, 3) := by decide +kernel
theorem dX1_goDown_34 : decode cX1_goDown 34 = .ok (.iinc 2 1, 3) := by decide +kernel
theorem dX1_goDown_37 : decode cX1_goDown 37 = .ok (.goto (-35), 3) := by decide +kernel
theorem dX1_goDown_40 : decode cX1_goDown 40 = .ok (.iload_n 1, 1) := by decide +kernel
theorem dX1_goDown_41 : decode cX1_goDown 41 = .ok (.ireturn, 1) := by decide +kernel
theorem dX1_goAlong_0 : decode cX1_goAlong 0 = .ok (.iconst 2, 1) := by decide +kernel
theorem dX1_goAlong_1 : decode cX1_goAlong 1 = .ok (.istore 4, 2) := by decide +kernel
theorem dX1_goAlong_3 : decode cX1_goAlong 3 = .ok (.iload 4, 2) := by decide +kernel
theorem dX1_goAlong_5 : decode cX1_goAlong 5 = .ok (.iload_n 3, 1) := by decide +kernel
theorem dX1_goAlong_6 : decode cX1_goAlong 6 = .ok (.if_icmp .gt 30, 3) := by decide +kernel
theorem dX1_goAlong_9 : decode cX1_goAlong 9 = .ok (.aload_n 0, 1) := by decide +kernel
theorem dX1_goAlong_10 : decode cX1_goAlong 10 = .ok (.iload 4, 2) := by decide +kernel
theorem dX1_goAlong_12 : decode cX1_goAlong 12 = .ok (.iconst 1, 1) := by decide +kernel
theorem dX1_goAlong_13 : decode cX1_goAlong 13 = .ok (.iand, 1) := by decide +kernel
theorem dX1_goAlong_14 : decode cX1_goAlong 14 = .ok (.ifCond .ne 7, 3) := by decide +kernel
theorem dX1_goAlong_17 : decode cX1_goAlong 17 = .ok (.iload_n 1, 1) := by decide +kernel
theorem dX1_goAlong_18 : decode cX1_goAlong 18 = .ok (.goto 4, 3) := by decide +kernel
theorem dX1_goAlong_21 : decode cX1_goAlong 21 = .ok (.iload_n 2, 1) := by decide +kernel
theorem dX1_goAlong_22 : decode cX1_goAlong 22 = .ok (.invokevirtual 47, 3) := by decide +kernel
theorem dX1_goAlong_25 : decode cX1_goAlong 25 = .ok (.ifCond .ne 5, 3) := by decide +kernel
theorem dX1_goAlong_28 : decode cX1_goAlong 28 = .ok (.iconst 0, 1) := by decide +kernel
theorem dX1_goAlong_29 : decode cX1_goAlong 29 = .ok (.ireturn, 1) := by decide +kernel
theorem dX1_goAlong_30 : decode cX1_goAlong 30 = .ok (.iinc 4 1, 3) := by decide +kernel
theorem dX1_goAlong_33 : decode cX1_goAlong 33 = .ok (.goto (-30), 3) := by decide +kernel
theorem dX1_goAlong_36 : decode cX1_goAlong 36 = .ok (.iconst (-1), 1) := by decide +kernel
theorem dX1_goAlong_37 : decode cX1_goAlong 37 = .ok (.istore 4, 2) := by decide +kernel
theorem dX1_goAlong_39 : decode cX1_goAlong 39 = .ok (.iload 4, 2) := by decide +kernel
theorem dX1_goAlong_41 : decode cX1_goAlong 41 = .ok (.iload_n 3, 1) := by decide +kernel
theorem dX1_goAlong_42 : decode cX1_goAlong 42 = .ok (.if_icmp .lt 30, 3) := by decide +kernel
theorem dX1_goAlong_45 : decode cX1_goAlong 45 = .ok (.aload_n 0, 1) := by decide +kernel
theorem dX1_goAlong_46 : decode cX1_goAlong 46 = .ok (.iload 4, 2) := by decide +kernel
theorem dX1_goAlong_48 : decode cX1_goAlong 48 = .ok (.iconst 1, 1) := by decide +kernel
theorem dX1_goAlong_49 : decode cX1_goAlong 49 = .ok (.iand, 1) := by decide +kernel
theorem dX1_goAlong_50 : decode cX1_goAlong 50 = .ok (.ifCond .ne 7, 3) := by decide +kernel
theorem dX1_goAlong_53 : decode cX1_goAlong 53 = .ok (.iload_n 1, 1) := by decide +kernel
theorem dX1_goAlong_54 : decode cX1_goAlong 54 = .ok (.goto 4, 3) := by decide +kernel
theorem dX1_goAlong_57 : decode cX1_goAlong 57 = .ok (.iload_n 2, 1) := by decide +kernel
theorem dX1_goAlong_58 : decode cX1_goAlong 58 = .ok (.invokevirtual 47, 3) := by decide +kernel
theorem dX1_goAlong_61 : decode cX1_goAlong 61 = .ok (.ifCond .ne 5, 3) := by decide +kernel
theorem dX1_goAlong_64 : decode cX1_goAlong 64 = .ok (.iconst 0, 1) := by decide +kernel
theorem dX1_goAlong_65 : decode cX1_goAlong 65 = .ok (.ireturn, 1) := by decide +kernel
theorem dX1_goAlong_66 : decode cX1_goAlong 66 = .ok (.iinc 4 (-1), 3) := by decide +kernel
theorem dX1_goAlong_69 : decode cX1_goAlong 69 = .ok (.goto (-30), 3) := by decide +kernel
theorem dX1_goAlong_72 : decode cX1_goAlong 72 = .ok (.iconst 1, 1) := by decide +kernel
theorem dX1_goAlong_73 : decode cX1_goAlong 73 = .ok (.ireturn, 1) := by decide +kernel
theorem dX1_turnWithin_0 : decode cX1_turnWithin 0 = .ok (.aload_n 0, 1) := by decide +kernel
theorem dX1_turnWithin_1 : decode cX1_turnWithin 1 = .ok (.iload_n 1, 1) := by decide +kernel
theorem dX1_turnWithin_2 : decode cX1_turnWithin 2 = .ok (.invokevirtual 43, 3) := by decide +kernel
theorem dX1_turnWithin_5 : decode cX1_turnWithin 5 = .ok (.aload_n 0, 1) := by decide +kernel
theorem dX1_turnWithin_6 : decode cX1_turnWithin 6 = .ok (.iload_n 1, 1) := by decide +kernel
theorem dX1_turnWithin_7 : decode cX1_turnWithin 7 = .ok (.invokevirtual 51, 3) := by decide +kernel
theorem dX1_turnWithin_10 : decode cX1_turnWithin 10 = .ok (.ifCond .ne 7, 3) := by decide +kernel
theorem dX1_turnWithin_13 : decode cX1_turnWithin 13 = .ok (.iconst 1, 1) := by decide +kernel
theorem dX1_turnWithin_14 : decode cX1_turnWithin 14 = .ok (.goto 4, 3) := by decide +kernel
theorem dX1_turnWithin_17 : decode cX1_turnWithin 17 = .ok (.iconst 0, 1) := by decide +kernel
theorem dX1_turnWithin_18 : decode cX1_turnWithin 18 = .ok (.ireturn, 1) := by decide +kernel
theorem dX1_touches_0 : decode cX1_touches 0 = .ok (.aload_n 0, 1) := by decide +kernel
theorem dX1_touches_1 : decode cX1_touches 1 = .ok (.iload_n 1, 1) := by decide +kernel
theorem dX1_touches_2 : decode cX1_touches 2 = .ok (.invokevirtual 36, 3) := by decide +kernel
theorem dX1_touches_5 : decode cX1_touches 5 = .ok (.lstore 4, 2) := by decide +kernel
theorem dX1_touches_7 : decode cX1_touches 7 = .ok (.aload_n 2, 1) := by decide +kernel
theorem dX1_touches_8 : decode cX1_touches 8 = .ok (.iload_n 3, 1) := by decide +kernel
theorem dX1_touches_9 : decode cX1_touches 9 = .ok (.invokevirtual 36, 3) := by decide +kernel
theorem dX1_touches_12 : decode cX1_touches 12 = .ok (.lstore 6, 2) := by decide +kernel
theorem dX1_touches_14 : decode cX1_touches 14 = .ok (.lload 6, 2) := by decide +kernel
theorem dX1_touches_16 : decode cX1_touches 16 = .ok (.aload_n 0, 1) := by decide +kernel
theorem dX1_touches_17 : decode cX1_touches 17 = .ok (.iload_n 1, 1) := by decide +kernel
theorem dX1_touches_18 : decode cX1_touches 18 = .ok (.iconst 1, 1) := by decide +kernel
theorem dX1_touches_19 : decode cX1_touches 19 = .ok (.invokevirtual 21, 3) := by decide +kernel
theorem dX1_touches_22 : decode cX1_touches 22 = .ok (.lmul, 1) := by decide +kernel
theorem dX1_touches_23 : decode cX1_touches 23 = .ok (.lload 4, 2) := by decide +kernel
theorem dX1_touches_25 : decode cX1_touches 25 = .ok (.aload_n 2, 1) := by decide +kernel
theorem dX1_touches_26 : decode cX1_touches 26 = .ok (.iload_n 3, 1) := by decide +kernel
theorem dX1_touches_27 : decode cX1_touches 27 = .ok (.iconst 1, 1) := by decide +kernel
theorem dX1_touches_28 : decode cX1_touches 28 = .ok (.invokevirtual 21, 3) := by decide +kernel
theorem dX1_touches_31 : decode cX1_touches 31 = .ok (.lmul, 1) := by decide +kernel
theorem dX1_touches_32 : decode cX1_touches 32 = .ok (.lsub, 1) := by decide +kernel
theorem dX1_touches_33 : decode cX1_touches 33 = .ok (.lstore 8, 2) := by decide +kernel
theorem dX1_touches_35 : decode cX1_touches 35 = .ok (.lload 6, 2) := by decide +kernel
theorem dX1_touches_37 : decode cX1_touches 37 = .ok (.aload_n 0, 1) := by decide +kernel
theorem dX1_touches_38 : decode cX1_touches 38 = .ok (.iload_n 1, 1) := by decide +kernel
theorem dX1_touches_39 : decode cX1_touches 39 = .ok (.iconst 2, 1) := by decide +kernel
theorem dX1_touches_40 : decode cX1_touches 40 = .ok (.invokevirtual 21, 3) := by decide +kernel
theorem dX1_touches_43 : decode cX1_touches 43 = .ok (.lmul, 1) := by decide +kernel
theorem dX1_touches_44 : decode cX1_touches 44 = .ok (.lload 4, 2) := by decide +kernel
theorem dX1_touches_46 : decode cX1_touches 46 = .ok (.aload_n 2, 1) := by decide +kernel
theorem dX1_touches_47 : decode cX1_touches 47 = .ok (.iload_n 3, 1) := by decide +kernel
theorem dX1_touches_48 : decode cX1_touches 48 = .ok (.iconst 2, 1) := by decide +kernel
theorem dX1_touches_49 : decode cX1_touches 49 = .ok (.invokevirtual 21, 3) := by decide +kernel
theorem dX1_touches_52 : decode cX1_touches 52 = .ok (.lmul, 1) := by decide +kernel
theorem dX1_touches_53 : decode cX1_touches 53 = .ok (.lsub, 1) := by decide +kernel
theorem dX1_touches_54 : decode cX1_touches 54 = .ok (.lstore 10, 2) := by decide +kernel
theorem dX1_touches_56 : decode cX1_touches 56 = .ok (.lload 8, 2) := by decide +kernel
theorem dX1_touches_58 : decode cX1_touches 58 = .ok (.lload 8, 2) := by decide +kernel
theorem dX1_touches_60 : decode cX1_touches 60 = .ok (.lmul, 1) := by decide +kernel
theorem dX1_touches_61 : decode cX1_touches 61 = .ok (.lload 10, 2) := by decide +kernel
theorem dX1_touches_63 : decode cX1_touches 63 = .ok (.lload 10, 2) := by decide +kernel
theorem dX1_touches_65 : decode cX1_touches 65 = .ok (.lmul, 1) := by decide +kernel
theorem dX1_touches_66 : decode cX1_touches 66 = .ok (.ladd, 1) := by decide +kernel
theorem dX1_touches_67 : decode cX1_touches 67 = .ok (.lload 4, 2) := by decide +kernel
theorem dX1_touches_69 : decode cX1_touches 69 = .ok (.lload 6, 2) := by decide +kernel
theorem dX1_touches_71 : decode cX1_touches 71 = .ok (.ladd, 1) := by decide +kernel
theorem dX1_touches_72 : decode cX1_touches 72 = .ok (.lload 4, 2) := by decide +kernel
theorem dX1_touches_74 : decode cX1_touches 74 = .ok (.lload 6, 2) := by decide +kernel
theorem dX1_touches_76 : decode cX1_touches 76 = .ok (.ladd, 1) := by decide +kernel
theorem dX1_touches_77 : decode cX1_touches 77 = .ok (.lmul, 1) := by decide +kernel
theorem dX1_touches_78 : decode cX1_touches 78 = .ok (.lcmp, 1) := by decide +kernel
theorem dX1_touches_79 : decode cX1_touches 79 = .ok (.ifCond .ne 7, 3) := by decide +kernel
theorem dX1_touches_82 : decode cX1_touches 82 = .ok (.iconst 1, 1) := by decide +kernel
theorem dX1_touches_83 : decode cX1_touches 83 = .ok (.goto 4, 3) := by decide +kernel
theorem dX1_touches_86 : decode cX1_touches 86 = .ok (.iconst 0, 1) := by decide +kernel
theorem dX1_touches_87 : decode cX1_touches 87 = .ok (.ireturn, 1) := by decide +kernel
theorem dX1_hasBendsOf_0 : decode cX1_hasBendsOf 0 = .ok (.iconst 0, 1) := by decide +kernel
theorem dX1_hasBendsOf_1 : decode cX1_hasBendsOf 1 = .ok (.istore_n 2, 1) := by decide +kernel
theorem dX1_hasBendsOf_2 : decode cX1_hasBendsOf 2 = .ok (.iload_n 2, 1) := by decide +kernel
theorem dX1_hasBendsOf_3 : decode cX1_hasBendsOf 3 = .ok (.iconst 4, 1) := by decide +kernel
theorem dX1_hasBendsOf_4 : decode cX1_hasBendsOf 4 = .ok (.if_icmp .ge 32, 3) := by decide +kernel
theorem dX1_hasBendsOf_7 : decode cX1_hasBendsOf 7 = .ok (.aload_n 0, 1) := by decide +kernel
theorem dX1_hasBendsOf_8 : decode cX1_hasBendsOf 8 = .ok (.aload_n 0, 1) := by decide +kernel
theorem dX1_hasBendsOf_9 : decode cX1_hasBendsOf 9 = .ok (.iload_n 2, 1) := by decide +kernel
theorem dX1_hasBendsOf_10 : decode cX1_hasBendsOf 10 = .ok (.invokevirtual 36, 3) := by decide +kernel
theorem dX1_hasBendsOf_13 : decode cX1_hasBendsOf 13 = .ok (.invokevirtual 55, 3) := by decide +kernel
theorem dX1_hasBendsOf_16 : decode cX1_hasBendsOf 16 = .ok (.aload_n 1, 1) := by decide +kernel
theorem dX1_hasBendsOf_17 : decode cX1_hasBendsOf 17 = .ok (.aload_n 0, 1) := by decide +kernel
theorem dX1_hasBendsOf_18 : decode cX1_hasBendsOf 18 = .ok (.iload_n 2, 1) := by decide +kernel
theorem dX1_hasBendsOf_19 : decode cX1_hasBendsOf 19 = .ok (.invokevirtual 36, 3) := by decide +kernel
theorem dX1_hasBendsOf_22 : decode cX1_hasBendsOf 22 = .ok (.invokevirtual 55, 3) := by decide +kernel
theorem dX1_hasBendsOf_25 : decode cX1_hasBendsOf 25 = .ok (.if_icmp .eq 5, 3) := by decide +kernel
theorem dX1_hasBendsOf_28 : decode cX1_hasBendsOf 28 = .ok (.iconst 0, 1) := by decide +kernel
theorem dX1_hasBendsOf_29 : decode cX1_hasBendsOf 29 = .ok (.ireturn, 1) := by decide +kernel
theorem dX1_hasBendsOf_30 : decode cX1_hasBendsOf 30 = .ok (.iinc 2 1, 3) := by decide +kernel
theorem dX1_hasBendsOf_33 : decode cX1_hasBendsOf 33 = .ok (.goto (-31), 3) := by decide +kernel
theorem dX1_hasBendsOf_36 : decode cX1_hasBendsOf 36 = .ok (.iconst 1, 1) := by decide +kernel
theorem dX1_hasBendsOf_37 : decode cX1_hasBendsOf 37 = .ok (.ireturn, 1) := by decide +kernel
theorem dX1_timesOf_0 : decode cX1_timesOf 0 = .ok (.iconst 0, 1) := by decide +kernel
theorem dX1_timesOf_1 : decode cX1_timesOf 1 = .ok (.istore_n 3, 1) := by decide +kernel
theorem dX1_timesOf_2 : decode cX1_timesOf 2 = .ok (.iconst 0, 1) := by decide +kernel
theorem dX1_timesOf_3 : decode cX1_timesOf 3 = .ok (.istore 4, 2) := by decide +kernel
theorem dX1_timesOf_5 : decode cX1_timesOf 5 = .ok (.iload 4, 2) := by decide +kernel
theorem dX1_timesOf_7 : decode cX1_timesOf 7 = .ok (.iconst 4, 1) := by decide +kernel
theorem dX1_timesOf_8 : decode cX1_timesOf 8 = .ok (.if_icmp .ge 23, 3) := by decide +kernel
theorem dX1_timesOf_11 : decode cX1_timesOf 11 = .ok (.aload_n 0, 1) := by decide +kernel
theorem dX1_timesOf_12 : decode cX1_timesOf 12 = .ok (.iload 4, 2) := by decide +kernel
theorem dX1_timesOf_14 : decode cX1_timesOf 14 = .ok (.invokevirtual 36, 3) := by decide +kernel
theorem dX1_timesOf_17 : decode cX1_timesOf 17 = .ok (.lload_n 1, 1) := by decide +kernel
theorem dX1_timesOf_18 : decode cX1_timesOf 18 = .ok (.lcmp, 1) := by decide +kernel
theorem dX1_timesOf_19 : decode cX1_timesOf 19 = .ok (.ifCond .ne 6, 3) := by decide +kernel
theorem dX1_timesOf_22 : decode cX1_timesOf 22 = .ok (.iinc 3 1, 3) := by decide +kernel
theorem dX1_timesOf_25 : decode cX1_timesOf 25 = .ok (.iinc 4 1, 3) := by decide +kernel
theorem dX1_timesOf_28 : decode cX1_timesOf 28 = .ok (.goto (-23), 3) := by decide +kernel
theorem dX1_timesOf_31 : decode cX1_timesOf 31 = .ok (.iload_n 3, 1) := by decide +kernel
theorem dX1_timesOf_32 : decode cX1_timesOf 32 = .ok (.ireturn, 1) := by decide +kernel
theorem dX1_refusalOfCoin_0 : decode cX1_refusalOfCoin 0 = .ok (.aload_n 0, 1) := by decide +kernel
theorem dX1_refusalOfCoin_1 : decode cX1_refusalOfCoin 1 = .ok (.iload_n 1, 1) := by decide +kernel
theorem dX1_refusalOfCoin_2 : decode cX1_refusalOfCoin 2 = .ok (.invokevirtual 59, 3) := by decide +kernel
theorem dX1_refusalOfCoin_5 : decode cX1_refusalOfCoin 5 = .ok (.ifCond .eq 6, 3) := by decide +kernel
theorem dX1_refusalOfCoin_8 : decode cX1_refusalOfCoin 8 = .ok (.bipush (-15), 2) := by decide +kernel
theorem dX1_refusalOfCoin_10 : decode cX1_refusalOfCoin 10 = .ok (.ireturn, 1) := by decide +kernel
theorem dX1_refusalOfCoin_11 : decode cX1_refusalOfCoin 11 = .ok (.aload_n 0, 1) := by decide +kernel
theorem dX1_refusalOfCoin_12 : decode cX1_refusalOfCoin 12 = .ok (.iload_n 1, 1) := by decide +kernel
theorem dX1_refusalOfCoin_13 : decode cX1_refusalOfCoin 13 = .ok (.invokevirtual 62, 3) := by decide +kernel
theorem dX1_refusalOfCoin_16 : decode cX1_refusalOfCoin 16 = .ok (.ifCond .eq 8, 3) := by decide +kernel
theorem dX1_refusalOfCoin_19 : decode cX1_refusalOfCoin 19 = .ok (.bipush (-16), 2) := by decide +kernel
theorem dX1_refusalOfCoin_21 : decode cX1_refusalOfCoin 21 = .ok (.goto 4, 3) := by decide +kernel
theorem dX1_refusalOfCoin_24 : decode cX1_refusalOfCoin 24 = .ok (.iconst 0, 1) := by decide +kernel
theorem dX1_refusalOfCoin_25 : decode cX1_refusalOfCoin 25 = .ok (.ireturn, 1) := by decide +kernel
theorem dX1_isBendRefused_0 : decode cX1_isBendRefused 0 = .ok (.aload_n 0, 1) := by decide +kernel
theorem dX1_isBendRefused_1 : decode cX1_isBendRefused 1 = .ok (.iload_n 1, 1) := by decide +kernel
theorem dX1_isBendRefused_2 : decode cX1_isBendRefused 2 = .ok (.invokevirtual 36, 3) := by decide +kernel
theorem dX1_isBendRefused_5 : decode cX1_isBendRefused 5 = .ok (.lconst 0, 1) := by decide +kernel
theorem dX1_isBendRefused_6 : decode cX1_isBendRefused 6 = .ok (.lcmp, 1) := by decide +kernel
theorem dX1_isBendRefused_7 : decode cX1_isBendRefused 7 = .ok (.ifCond .eq 27, 3) := by decide +kernel
theorem dX1_isBendRefused_10 : decode cX1_isBendRefused 10 = .ok (.aload_n 0, 1) := by decide +kernel
theorem dX1_isBendRefused_11 : decode cX1_isBendRefused 11 = .ok (.iload_n 1, 1) := by decide +kernel
theorem dX1_isBendRefused_12 : decode cX1_isBendRefused 12 = .ok (.invokevirtual 36, 3) := by decide +kernel
theorem dX1_isBendRefused_15 : decode cX1_isBendRefused 15 = .ok (.ldc2_w 65, 3) := by decide +kernel
theorem dX1_isBendRefused_18 : decode cX1_isBendRefused 18 = .ok (.lcmp, 1) := by decide +kernel
theorem dX1_isBendRefused_19 : decode cX1_isBendRefused 19 = .ok (.ifCond .lt 15, 3) := by decide +kernel
theorem dX1_isBendRefused_22 : decode cX1_isBendRefused 22 = .ok (.aload_n 0, 1) := by decide +kernel
theorem dX1_isBendRefused_23 : decode cX1_isBendRefused 23 = .ok (.iload_n 1, 1) := by decide +kernel
theorem dX1_isBendRefused_24 : decode cX1_isBendRefused 24 = .ok (.invokevirtual 36, 3) := by decide +kernel
theorem dX1_isBendRefused_27 : decode cX1_isBendRefused 27 = .ok (.ldc2_w 67, 3) := by decide +kernel
theorem dX1_isBendRefused_30 : decode cX1_isBendRefused 30 = .ok (.lcmp, 1) := by decide +kernel
theorem dX1_isBendRefused_31 : decode cX1_isBendRefused 31 = .ok (.ifCond .le 7, 3) := by decide +kernel
theorem dX1_isBendRefused_34 : decode cX1_isBendRefused 34 = .ok (.iconst 1, 1) := by decide +kernel
theorem dX1_isBendRefused_35 : decode cX1_isBendRefused 35 = .ok (.goto 4, 3) := by decide +kernel
theorem dX1_isBendRefused_38 : decode cX1_isBendRefused 38 = .ok (.iconst 0, 1) := by decide +kernel
theorem dX1_isBendRefused_39 : decode cX1_isBendRefused 39 = .ok (.ireturn, 1) := by decide +kernel
theorem dX1_isPlaceRefused_0 : decode cX1_isPlaceRefused 0 = .ok (.aload_n 0, 1) := by decide +kernel
theorem dX1_isPlaceRefused_1 : decode cX1_isPlaceRefused 1 = .ok (.iload_n 1, 1) := by decide +kernel
theorem dX1_isPlaceRefused_2 : decode cX1_isPlaceRefused 2 = .ok (.iconst 1, 1) := by decide +kernel
theorem dX1_isPlaceRefused_3 : decode cX1_isPlaceRefused 3 = .ok (.invokevirtual 21, 3) := by decide +kernel
theorem dX1_isPlaceRefused_6 : decode cX1_isPlaceRefused 6 = .ok (.invokestatic 69, 3) := by decide +kernel
theorem dX1_isPlaceRefused_9 : decode cX1_isPlaceRefused 9 = .ok (.ifCond .ne 15, 3) := by decide +kernel
theorem dX1_isPlaceRefused_12 : decode cX1_isPlaceRefused 12 = .ok (.aload_n 0, 1) := by decide +kernel
theorem dX1_isPlaceRefused_13 : decode cX1_isPlaceRefused 13 = .ok (.iload_n 1, 1) := by decide +kernel
theorem dX1_isPlaceRefused_14 : decode cX1_isPlaceRefused 14 = .ok (.iconst 2, 1) := by decide +kernel
theorem dX1_isPlaceRefused_15 : decode cX1_isPlaceRefused 15 = .ok (.invokevirtual 21, 3) := by decide +kernel
theorem dX1_isPlaceRefused_18 : decode cX1_isPlaceRefused 18 = .ok (.invokestatic 69, 3) := by decide +kernel
theorem dX1_isPlaceRefused_21 : decode cX1_isPlaceRefused 21 = .ok (.ifCond .eq 7, 3) := by decide +kernel
theorem dX1_isPlaceRefused_24 : decode cX1_isPlaceRefused 24 = .ok (.iconst 1, 1) := by decide +kernel
theorem dX1_isPlaceRefused_25 : decode cX1_isPlaceRefused 25 = .ok (.goto 4, 3) := by decide +kernel
theorem dX1_isPlaceRefused_28 : decode cX1_isPlaceRefused 28 = .ok (.iconst 0, 1) := by decide +kernel
theorem dX1_isPlaceRefused_29 : decode cX1_isPlaceRefused 29 = .ok (.ireturn, 1) := by decide +kernel
theorem dX1_isBeyond_0 : decode cX1_isBeyond 0 = .ok (.lload_n 0, 1) := by decide +kernel
theorem dX1_isBeyond_1 : decode cX1_isBeyond 1 = .ok (.ldc2_w 73, 3) := by decide +kernel
theorem dX1_isBeyond_4 : decode cX1_isBeyond 4 = .ok (.lcmp, 1) := by decide +kernel
theorem dX1_isBeyond_5 : decode cX1_isBeyond 5 = .ok (.ifCond .lt 11, 3) := by decide +kernel
theorem dX1_isBeyond_8 : decode cX1_isBeyond 8 = .ok (.lload_n 0, 1) := by decide +kernel
theorem dX1_isBeyond_9 : decode cX1_isBeyond 9 = .ok (.ldc2_w 75, 3) := by decide +kernel
theorem dX1_isBeyond_12 : decode cX1_isBeyond 12 = .ok (.lcmp, 1) := by decide +kernel
theorem dX1_isBeyond_13 : decode cX1_isBeyond 13 = .ok (.ifCond .le 7, 3) := by decide +kernel
theorem dX1_isBeyond_16 : decode cX1_isBeyond 16 = .ok (.iconst 1, 1) := by decide +kernel
theorem dX1_isBeyond_17 : decode cX1_isBeyond 17 = .ok (.goto 4, 3) := by decide +kernel
theorem dX1_isBeyond_20 : decode cX1_isBeyond 20 = .ok (.iconst 0, 1) := by decide +kernel
theorem dX1_isBeyond_21 : decode cX1_isBeyond 21 = .ok (.ireturn, 1) := by decide +kernel
theorem dX1_refusal_0 : decode cX1_refusal 0 = .ok (.iconst 0, 1) := by decide +kernel
theorem dX1_refusal_1 : decode cX1_refusal 1 = .ok (.istore_n 1, 1) := by decide +kernel
theorem dX1_refusal_2 : decode cX1_refusal 2 = .ok (.iload_n 1, 1) := by decide +kernel
theorem dX1_refusal_3 : decode cX1_refusal 3 = .ok (.iconst 4, 1) := by decide +kernel
theorem dX1_refusal_4 : decode cX1_refusal 4 = .ok (.if_icmp .ge 20, 3) := by decide +kernel
theorem dX1_refusal_7 : decode cX1_refusal 7 = .ok (.aload_n 0, 1) := by decide +kernel
theorem dX1_refusal_8 : decode cX1_refusal 8 = .ok (.iload_n 1, 1) := by decide +kernel
theorem dX1_refusal_9 : decode cX1_refusal 9 = .ok (.invokevirtual 59, 3) := by decide +kernel
theorem dX1_refusal_12 : decode cX1_refusal 12 = .ok (.ifCond .eq 6, 3) := by decide +kernel
theorem dX1_refusal_15 : decode cX1_refusal 15 = .ok (.bipush (-15), 2) := by decide +kernel
theorem dX1_refusal_17 : decode cX1_refusal 17 = .ok (.ireturn, 1) := by decide +kernel
theorem dX1_refusal_18 : decode cX1_refusal 18 = .ok (.iinc 1 1, 3) := by decide +kernel
theorem dX1_refusal_21 : decode cX1_refusal 21 = .ok (.goto (-19), 3) := by decide +kernel
theorem dX1_refusal_24 : decode cX1_refusal 24 = .ok (.iconst 0, 1) := by decide +kernel
theorem dX1_refusal_25 : decode cX1_refusal 25 = .ok (.istore_n 1, 1) := by decide +kernel
theorem dX1_refusal_26 : decode cX1_refusal 26 = .ok (.iload_n 1, 1) := by decide +kernel
theorem dX1_refusal_27 : decode cX1_refusal 27 = .ok (.iconst 4, 1) := by decide +kernel
theorem dX1_refusal_28 : decode cX1_refusal 28 = .ok (.if_icmp .ge 20, 3) := by decide +kernel
theorem dX1_refusal_31 : decode cX1_refusal 31 = .ok (.aload_n 0, 1) := by decide +kernel
theorem dX1_refusal_32 : decode cX1_refusal 32 = .ok (.iload_n 1, 1) := by decide +kernel
theorem dX1_refusal_33 : decode cX1_refusal 33 = .ok (.invokevirtual 62, 3) := by decide +kernel
theorem dX1_refusal_36 : decode cX1_refusal 36 = .ok (.ifCond .eq 6, 3) := by decide +kernel
theorem dX1_refusal_39 : decode cX1_refusal 39 = .ok (.bipush (-16), 2) := by decide +kernel
theorem dX1_refusal_41 : decode cX1_refusal 41 = .ok (.ireturn, 1) := by decide +kernel
theorem dX1_refusal_42 : decode cX1_refusal 42 = .ok (.iinc 1 1, 3) := by decide +kernel
theorem dX1_refusal_45 : decode cX1_refusal 45 = .ok (.goto (-19), 3) := by decide +kernel
theorem dX1_refusal_48 : decode cX1_refusal 48 = .ok (.aload_n 0, 1) := by decide +kernel
theorem dX1_refusal_49 : decode cX1_refusal 49 = .ok (.invokevirtual 77, 3) := by decide +kernel
theorem dX1_refusal_52 : decode cX1_refusal 52 = .ok (.ifCond .ne 6, 3) := by decide +kernel
theorem dX1_refusal_55 : decode cX1_refusal 55 = .ok (.bipush (-17), 2) := by decide +kernel
theorem dX1_refusal_57 : decode cX1_refusal 57 = .ok (.ireturn, 1) := by decide +kernel
theorem dX1_refusal_58 : decode cX1_refusal 58 = .ok (.aload_n 0, 1) := by decide +kernel
theorem dX1_refusal_59 : decode cX1_refusal 59 = .ok (.invokevirtual 81, 3) := by decide +kernel
theorem dX1_refusal_62 : decode cX1_refusal 62 = .ok (.iconst 1, 1) := by decide +kernel
theorem dX1_refusal_63 : decode cX1_refusal 63 = .ok (.if_icmp .le 6, 3) := by decide +kernel
theorem dX1_refusal_66 : decode cX1_refusal 66 = .ok (.bipush (-18), 2) := by decide +kernel
theorem dX1_refusal_68 : decode cX1_refusal 68 = .ok (.ireturn, 1) := by decide +kernel
theorem dX1_refusal_69 : decode cX1_refusal 69 = .ok (.aload_n 0, 1) := by decide +kernel
theorem dX1_refusal_70 : decode cX1_refusal 70 = .ok (.invokevirtual 84, 3) := by decide +kernel
theorem dX1_refusal_73 : decode cX1_refusal 73 = .ok (.lconst 1, 1) := by decide +kernel
theorem dX1_refusal_74 : decode cX1_refusal 74 = .ok (.lcmp, 1) := by decide +kernel
theorem dX1_refusal_75 : decode cX1_refusal 75 = .ok (.ifCond .le 6, 3) := by decide +kernel
theorem dX1_refusal_78 : decode cX1_refusal 78 = .ok (.bipush (-19), 2) := by decide +kernel
theorem dX1_refusal_80 : decode cX1_refusal 80 = .ok (.ireturn, 1) := by decide +kernel
theorem dX1_refusal_81 : decode cX1_refusal 81 = .ok (.aload_n 0, 1) := by decide +kernel
theorem dX1_refusal_82 : decode cX1_refusal 82 = .ok (.invokevirtual 88, 3) := by decide +kernel
theorem dX1_refusal_85 : decode cX1_refusal 85 = .ok (.ifCond .eq 7, 3) := by decide +kernel
theorem dX1_refusal_88 : decode cX1_refusal 88 = .ok (.iconst 0, 1) := by decide +kernel
theorem dX1_refusal_89 : decode cX1_refusal 89 = .ok (.goto 5, 3) := by decide +kernel
theorem dX1_refusal_92 : decode cX1_refusal 92 = .ok (.bipush (-20), 2) := by decide +kernel
theorem dX1_refusal_94 : decode cX1_refusal 94 = .ok (.ireturn, 1) := by decide +kernel
theorem dX1_doBendsStand_0 : decode cX1_doBendsStand 0 = .ok (.lconst 0, 1) := by decide +kernel
theorem dX1_doBendsStand_1 : decode cX1_doBendsStand 1 = .ok (.lstore_n 1, 1) := by decide +kernel
theorem dX1_doBendsStand_2 : decode cX1_doBendsStand 2 = .ok (.iconst 0, 1) := by decide +kernel
theorem dX1_doBendsStand_3 : decode cX1_doBendsStand 3 = .ok (.istore_n 3, 1) := by decide +kernel
theorem dX1_doBendsStand_4 : decode cX1_doBendsStand 4 = .ok (.iload_n 3, 1) := by decide +kernel
theorem dX1_doBendsStand_5 : decode cX1_doBendsStand 5 = .ok (.iconst 4, 1) := by decide +kernel
theorem dX1_doBendsStand_6 : decode cX1_doBendsStand 6 = .ok (.if_icmp .ge 23, 3) := by decide +kernel
theorem dX1_doBendsStand_9 : decode cX1_doBendsStand 9 = .ok (.lload_n 1, 1) := by decide +kernel
theorem dX1_doBendsStand_10 : decode cX1_doBendsStand 10 = .ok (.aload_n 0, 1) := by decide +kernel
theorem dX1_doBendsStand_11 : decode cX1_doBendsStand 11 = .ok (.iload_n 3, 1) := by decide +kernel
theorem dX1_doBendsStand_12 : decode cX1_doBendsStand 12 = .ok (.invokevirtual 36, 3) := by decide +kernel
theorem dX1_doBendsStand_15 : decode cX1_doBendsStand 15 = .ok (.aload_n 0, 1) := by decide +kernel
theorem dX1_doBendsStand_16 : decode cX1_doBendsStand 16 = .ok (.iload_n 3, 1) := by decide +kernel
theorem dX1_doBendsStand_17 : decode cX1_doBendsStand 17 = .ok (.invokevirtual 36, 3) := by decide +kernel
theorem dX1_doBendsStand_20 : decode cX1_doBendsStand 20 = .ok (.lmul, 1) := by decide +kernel
theorem dX1_doBendsStand_21 : decode cX1_doBendsStand 21 = .ok (.ladd, 1) := by decide +kernel
theorem dX1_doBendsStand_22 : decode cX1_doBendsStand 22 = .ok (.lstore_n 1, 1) := by decide +kernel
theorem dX1_doBendsStand_23 : decode cX1_doBendsStand 23 = .ok (.iinc 3 1, 3) := by decide +kernel
theorem dX1_doBendsStand_26 : decode cX1_doBendsStand 26 = .ok (.goto (-22), 3) := by decide +kernel
theorem dX1_doBendsStand_29 : decode cX1_doBendsStand 29 = .ok (.aload_n 0, 1) := by decide +kernel
theorem dX1_doBendsStand_30 : decode cX1_doBendsStand 30 = .ok (.iconst 0, 1) := by decide +kernel
theorem dX1_doBendsStand_31 : decode cX1_doBendsStand 31 = .ok (.invokevirtual 27, 3) := by decide +kernel
theorem dX1_doBendsStand_34 : decode cX1_doBendsStand 34 = .ok (.lstore_n 3, 1) := by decide +kernel
theorem dX1_doBendsStand_35 : decode cX1_doBendsStand 35 = .ok (.lload_n 3, 1) := by decide +kernel
theorem dX1_doBendsStand_36 : decode cX1_doBendsStand 36 = .ok (.lconst 0, 1) := by decide +kernel
theorem dX1_doBendsStand_37 : decode cX1_doBendsStand 37 = .ok (.lcmp, 1) := by decide +kernel
theorem dX1_doBendsStand_38 : decode cX1_doBendsStand 38 = .ok (.ifCond .le 19, 3) := by decide +kernel
theorem dX1_doBendsStand_41 : decode cX1_doBendsStand 41 = .ok (.ldc2_w 25, 3) := by decide +kernel
theorem dX1_doBendsStand_44 : decode cX1_doBendsStand 44 = .ok (.lload_n 1, 1) := by decide +kernel
theorem dX1_doBendsStand_45 : decode cX1_doBendsStand 45 = .ok (.lmul, 1) := by decide +kernel
theorem dX1_doBendsStand_46 : decode cX1_doBendsStand 46 = .ok (.lload_n 3, 1) := by decide +kernel
theorem dX1_doBendsStand_47 : decode cX1_doBendsStand 47 = .ok (.lload_n 3, 1) := by decide +kernel
theorem dX1_doBendsStand_48 : decode cX1_doBendsStand 48 = .ok (.lmul, 1) := by decide +kernel
theorem dX1_doBendsStand_49 : decode cX1_doBendsStand 49 = .ok (.lcmp, 1) := by decide +kernel
theorem dX1_doBendsStand_50 : decode cX1_doBendsStand 50 = .ok (.ifCond .ne 7, 3) := by decide +kernel
theorem dX1_doBendsStand_53 : decode cX1_doBendsStand 53 = .ok (.iconst 1, 1) := by decide +kernel
theorem dX1_doBendsStand_54 : decode cX1_doBendsStand 54 = .ok (.goto 4, 3) := by decide +kernel
theorem dX1_doBendsStand_57 : decode cX1_doBendsStand 57 = .ok (.iconst 0, 1) := by decide +kernel
theorem dX1_doBendsStand_58 : decode cX1_doBendsStand 58 = .ok (.ireturn, 1) := by decide +kernel
theorem dX1_bendsBelowZero_0 : decode cX1_bendsBelowZero 0 = .ok (.iconst 0, 1) := by decide +kernel
theorem dX1_bendsBelowZero_1 : decode cX1_bendsBelowZero 1 = .ok (.istore_n 1, 1) := by decide +kernel
theorem dX1_bendsBelowZero_2 : decode cX1_bendsBelowZero 2 = .ok (.iconst 0, 1) := by decide +kernel
theorem dX1_bendsBelowZero_3 : decode cX1_bendsBelowZero 3 = .ok (.istore_n 2, 1) := by decide +kernel
theorem dX1_bendsBelowZero_4 : decode cX1_bendsBelowZero 4 = .ok (.iload_n 2, 1) := by decide +kernel
theorem dX1_bendsBelowZero_5 : decode cX1_bendsBelowZero 5 = .ok (.iconst 4, 1) := by decide +kernel
theorem dX1_bendsBelowZero_6 : decode cX1_bendsBelowZero 6 = .ok (.if_icmp .ge 22, 3) := by decide +kernel
theorem dX1_bendsBelowZero_9 : decode cX1_bendsBelowZero 9 = .ok (.aload_n 0, 1) := by decide +kernel
theorem dX1_bendsBelowZero_10 : decode cX1_bendsBelowZero 10 = .ok (.iload_n 2, 1) := by decide +kernel
theorem dX1_bendsBelowZero_11 : decode cX1_bendsBelowZero 11 = .ok (.invokevirtual 36, 3) := by decide +kernel
theorem dX1_bendsBelowZero_14 : decode cX1_bendsBelowZero 14 = .ok (.lconst 0, 1) := by decide +kernel
theorem dX1_bendsBelowZero_15 : decode cX1_bendsBelowZero 15 = .ok (.lcmp, 1) := by decide +kernel
theorem dX1_bendsBelowZero_16 : decode cX1_bendsBelowZero 16 = .ok (.ifCond .ge 6, 3) := by decide +kernel
theorem dX1_bendsBelowZero_19 : decode cX1_bendsBelowZero 19 = .ok (.iinc 1 1, 3) := by decide +kernel
theorem dX1_bendsBelowZero_22 : decode cX1_bendsBelowZero 22 = .ok (.iinc 2 1, 3) := by decide +kernel
theorem dX1_bendsBelowZero_25 : decode cX1_bendsBelowZero 25 = .ok (.goto (-21), 3) := by decide +kernel
theorem dX1_bendsBelowZero_28 : decode cX1_bendsBelowZero 28 = .ok (.iload_n 1, 1) := by decide +kernel
theorem dX1_bendsBelowZero_29 : decode cX1_bendsBelowZero 29 = .ok (.ireturn, 1) := by decide +kernel
theorem dX1_divisorOfBends_0 : decode cX1_divisorOfBends 0 = .ok (.lconst 0, 1) := by decide +kernel
theorem dX1_divisorOfBends_1 : decode cX1_divisorOfBends 1 = .ok (.lstore_n 1, 1) := by decide +kernel
theorem dX1_divisorOfBends_2 : decode cX1_divisorOfBends 2 = .ok (.iconst 0, 1) := by decide +kernel
theorem dX1_divisorOfBends_3 : decode cX1_divisorOfBends 3 = .ok (.istore_n 3, 1) := by decide +kernel
theorem dX1_divisorOfBends_4 : decode cX1_divisorOfBends 4 = .ok (.iload_n 3, 1) := by decide +kernel
theorem dX1_divisorOfBends_5 : decode cX1_divisorOfBends 5 = .ok (.iconst 4, 1) := by decide +kernel
theorem dX1_divisorOfBends_6 : decode cX1_divisorOfBends 6 = .ok (.if_icmp .ge 55, 3) := by decide +kernel
theorem dX1_divisorOfBends_9 : decode cX1_divisorOfBends 9 = .ok (.aload_n 0, 1) := by decide +kernel
theorem dX1_divisorOfBends_10 : decode cX1_divisorOfBends 10 = .ok (.iload_n 3, 1) := by decide +kernel
theorem dX1_divisorOfBends_11 : decode cX1_divisorOfBends 11 = .ok (.invokevirtual 36, 3) := by decide +kernel
theorem dX1_divisorOfBends_14 : decode cX1_divisorOfBends 14 = .ok (.invokestatic 91, 3) := by decide +kernel
theorem dX1_divisorOfBends_17 : decode cX1_divisorOfBends 17 = .ok (.lstore 4, 2) := by decide +kernel
theorem dX1_divisorOfBends_19 : decode cX1_divisorOfBends 19 = .ok (.iconst 0, 1) := by decide +kernel
theorem dX1_divisorOfBends_20 : decode cX1_divisorOfBends 20 = .ok (.istore 6, 2) := by decide +kernel
theorem dX1_divisorOfBends_22 : decode cX1_divisorOfBends 22 = .ok (.iload 6, 2) := by decide +kernel
theorem dX1_divisorOfBends_24 : decode cX1_divisorOfBends 24 = .ok (.bipush 100, 2) := by decide +kernel
theorem dX1_divisorOfBends_26 : decode cX1_divisorOfBends 26 = .ok (.if_icmp .ge 29, 3) := by decide +kernel
theorem dX1_divisorOfBends_29 : decode cX1_divisorOfBends 29 = .ok (.lload 4, 2) := by decide +kernel
theorem dX1_divisorOfBends_31 : decode cX1_divisorOfBends 31 = .ok (.lconst 0, 1) := by decide +kernel
theorem dX1_divisorOfBends_32 : decode cX1_divisorOfBends 32 = .ok (.lcmp, 1) := by decide +kernel
theorem dX1_divisorOfBends_33 : decode cX1_divisorOfBends 33 = .ok (.ifCond .eq 22, 3) := by decide +kernel
theorem dX1_divisorOfBends_36 : decode cX1_divisorOfBends 36 = .ok (.lload_n 1, 1) := by decide +kernel
theorem dX1_divisorOfBends_37 : decode cX1_divisorOfBends 37 = .ok (.lload 4, 2) := by decide +kernel
theorem dX1_divisorOfBends_39 : decode cX1_divisorOfBends 39 = .ok (.lrem, 1) := by decide +kernel
theorem dX1_divisorOfBends_40 : decode cX1_divisorOfBends 40 = .ok (.lstore 7, 2) := by decide +kernel
theorem dX1_divisorOfBends_42 : decode cX1_divisorOfBends 42 = .ok (.lload 4, 2) := by decide +kernel
theorem dX1_divisorOfBends_44 : decode cX1_divisorOfBends 44 = .ok (.lstore_n 1, 1) := by decide +kernel
theorem dX1_divisorOfBends_45 : decode cX1_divisorOfBends 45 = .ok (.lload 7, 2) := by decide +kernel
theorem dX1_divisorOfBends_47 : decode cX1_divisorOfBends 47 = .ok (.lstore 4, 2) := by decide +kernel
theorem dX1_divisorOfBends_49 : decode cX1_divisorOfBends 49 = .ok (.iinc 6 1, 3) := by decide +kernel
theorem dX1_divisorOfBends_52 : decode cX1_divisorOfBends 52 = .ok (.goto (-30), 3) := by decide +kernel
theorem dX1_divisorOfBends_55 : decode cX1_divisorOfBends 55 = .ok (.iinc 3 1, 3) := by decide +kernel
theorem dX1_divisorOfBends_58 : decode cX1_divisorOfBends 58 = .ok (.goto (-54), 3) := by decide +kernel
theorem dX1_divisorOfBends_61 : decode cX1_divisorOfBends 61 = .ok (.lload_n 1, 1) := by decide +kernel
theorem dX1_divisorOfBends_62 : decode cX1_divisorOfBends 62 = .ok (.lreturn, 1) := by decide +kernel
theorem dX1_doAllTouch_0 : decode cX1_doAllTouch 0 = .ok (.iconst 0, 1) := by decide +kernel
theorem dX1_doAllTouch_1 : decode cX1_doAllTouch 1 = .ok (.istore_n 1, 1) := by decide +kernel
theorem dX1_doAllTouch_2 : decode cX1_doAllTouch 2 = .ok (.iload_n 1, 1) := by decide +kernel
theorem dX1_doAllTouch_3 : decode cX1_doAllTouch 3 = .ok (.iconst 4, 1) := by decide +kernel
theorem dX1_doAllTouch_4 : decode cX1_doAllTouch 4 = .ok (.if_icmp .ge 36, 3) := by decide +kernel
theorem dX1_doAllTouch_7 : decode cX1_doAllTouch 7 = .ok (.iload_n 1, 1) := by decide +kernel
theorem dX1_doAllTouch_8 : decode cX1_doAllTouch 8 = .ok (.iconst 1, 1) := by decide +kernel
theorem dX1_doAllTouch_9 : decode cX1_doAllTouch 9 = .ok (.iadd, 1) := by decide +kernel
theorem dX1_doAllTouch_10 : decode cX1_doAllTouch 10 = .ok (.istore_n 2, 1) := by decide +kernel
theorem dX1_doAllTouch_11 : decode cX1_doAllTouch 11 = .ok (.iload_n 2, 1) := by decide +kernel
theorem dX1_doAllTouch_12 : decode cX1_doAllTouch 12 = .ok (.iconst 4, 1) := by decide +kernel
theorem dX1_doAllTouch_13 : decode cX1_doAllTouch 13 = .ok (.if_icmp .ge 21, 3) := by decide +kernel
theorem dX1_doAllTouch_16 : decode cX1_doAllTouch 16 = .ok (.aload_n 0, 1) := by decide +kernel
theorem dX1_doAllTouch_17 : decode cX1_doAllTouch 17 = .ok (.iload_n 1, 1) := by decide +kernel
theorem dX1_doAllTouch_18 : decode cX1_doAllTouch 18 = .ok (.aload_n 0, 1) := by decide +kernel
theorem dX1_doAllTouch_19 : decode cX1_doAllTouch 19 = .ok (.iload_n 2, 1) := by decide +kernel
theorem dX1_doAllTouch_20 : decode cX1_doAllTouch 20 = .ok (.invokevirtual 97, 3) := by decide +kernel
theorem dX1_doAllTouch_23 : decode cX1_doAllTouch 23 = .ok (.ifCond .ne 5, 3) := by decide +kernel
theorem dX1_doAllTouch_26 : decode cX1_doAllTouch 26 = .ok (.iconst 0, 1) := by decide +kernel
theorem dX1_doAllTouch_27 : decode cX1_doAllTouch 27 = .ok (.ireturn, 1) := by decide +kernel
theorem dX1_doAllTouch_28 : decode cX1_doAllTouch 28 = .ok (.iinc 2 1, 3) := by decide +kernel
theorem dX1_doAllTouch_31 : decode cX1_doAllTouch 31 = .ok (.goto (-20), 3) := by decide +kernel
theorem dX1_doAllTouch_34 : decode cX1_doAllTouch 34 = .ok (.iinc 1 1, 3) := by decide +kernel
theorem dX1_doAllTouch_37 : decode cX1_doAllTouch 37 = .ok (.goto (-35), 3) := by decide +kernel
theorem dX1_doAllTouch_40 : decode cX1_doAllTouch 40 = .ok (.iconst 1, 1) := by decide +kernel
theorem dX1_doAllTouch_41 : decode cX1_doAllTouch 41 = .ok (.ireturn, 1) := by decide +kernel
theorem dX2_init_0 : decode cX2_init 0 = .ok (.aload_n 0, 1) := by decide +kernel
theorem dX2_init_1 : decode cX2_init 1 = .ok (.invokespecial 3, 3) := by decide +kernel
theorem dX2_init_4 : decode cX2_init 4 = .ok (.aload_n 0, 1) := by decide +kernel
theorem dX2_init_5 : decode cX2_init 5 = .ok (.iconst 3, 1) := by decide +kernel
theorem dX2_init_6 : decode cX2_init 6 = .ok (.sipush 240, 3) := by decide +kernel
theorem dX2_init_9 : decode cX2_init 9 = .ok (.multianewarray 9 2, 4) := by decide +kernel
theorem dX2_init_13 : decode cX2_init 13 = .ok (.putfield 11, 3) := by decide +kernel
theorem dX2_init_16 : decode cX2_init 16 = .ok (.aload_n 0, 1) := by decide +kernel
theorem dX2_init_17 : decode cX2_init 17 = .ok (.iconst 0, 1) := by decide +kernel
theorem dX2_init_18 : decode cX2_init 18 = .ok (.putfield 16, 3) := by decide +kernel
theorem dX2_init_21 : decode cX2_init 21 = .ok (.aload_n 0, 1) := by decide +kernel
theorem dX2_init_22 : decode cX2_init 22 = .ok (.iconst 0, 1) := by decide +kernel
theorem dX2_init_23 : decode cX2_init 23 = .ok (.putfield 20, 3) := by decide +kernel
theorem dX2_init_26 : decode cX2_init 26 = .ok (.aload_n 0, 1) := by decide +kernel
theorem dX2_init_27 : decode cX2_init 27 = .ok (.iconst 0, 1) := by decide +kernel
theorem dX2_init_28 : decode cX2_init 28 = .ok (.putfield 23, 3) := by decide +kernel
theorem dX2_init_31 : decode cX2_init 31 = .ok (.return_, 1) := by decide +kernel
theorem dX2_begin_0 : decode cX2_begin 0 = .ok (.aload_n 0, 1) := by decide +kernel
theorem dX2_begin_1 : decode cX2_begin 1 = .ok (.iconst 0, 1) := by decide +kernel
theorem dX2_begin_2 : decode cX2_begin 2 = .ok (.putfield 16, 3) := by decide +kernel
theorem dX2_begin_5 : decode cX2_begin 5 = .ok (.aload_n 0, 1) := by decide +kernel
theorem dX2_begin_6 : decode cX2_begin 6 = .ok (.iload_n 1, 1) := by decide +kernel
theorem dX2_begin_7 : decode cX2_begin 7 = .ok (.putfield 20, 3) := by decide +kernel
theorem dX2_begin_10 : decode cX2_begin 10 = .ok (.aload_n 0, 1) := by decide +kernel
theorem dX2_begin_11 : decode cX2_begin 11 = .ok (.iload_n 2, 1) := by decide +kernel
theorem dX2_begin_12 : decode cX2_begin 12 = .ok (.putfield 23, 3) := by decide +kernel
theorem dX2_begin_15 : decode cX2_begin 15 = .ok (.return_, 1) := by decide +kernel
theorem dX2_enter_0 : decode cX2_enter 0 = .ok (.aload_n 1, 1) := by decide +kernel
theorem dX2_enter_1 : decode cX2_enter 1 = .ok (.iload_n 2, 1) := by decide +kernel
theorem dX2_enter_2 : decode cX2_enter 2 = .ok (.invokevirtual 26, 3) := by decide +kernel
theorem dX2_enter_5 : decode cX2_enter 5 = .ok (.ifCond .eq 5, 3) := by decide +kernel
theorem dX2_enter_8 : decode cX2_enter 8 = .ok (.iconst 0, 1) := by decide +kernel
theorem dX2_enter_9 : decode cX2_enter 9 = .ok (.ireturn, 1) := by decide +kernel
theorem dX2_enter_10 : decode cX2_enter 10 = .ok (.aload_n 0, 1) := by decide +kernel
theorem dX2_enter_11 : decode cX2_enter 11 = .ok (.getfield 16, 3) := by decide +kernel
theorem dX2_enter_14 : decode cX2_enter 14 = .ok (.istore_n 3, 1) := by decide +kernel
theorem dX2_enter_15 : decode cX2_enter 15 = .ok (.iload_n 3, 1) := by decide +kernel
theorem dX2_enter_16 : decode cX2_enter 16 = .ok (.ifCond .le 21, 3) := by decide +kernel
theorem dX2_enter_19 : decode cX2_enter 19 = .ok (.aload_n 0, 1) := by decide +kernel
theorem dX2_enter_20 : decode cX2_enter 20 = .ok (.iload_n 3, 1) := by decide +kernel
theorem dX2_enter_21 : decode cX2_enter 21 = .ok (.iconst 1, 1) := by decide +kernel
theorem dX2_enter_22 : decode cX2_enter 22 = .ok (.isub, 1) := by decide +kernel
theorem dX2_enter_23 : decode cX2_enter 23 = .ok (.aload_n 1, 1) := by decide +kernel
theorem dX2_enter_24 : decode cX2_enter 24 = .ok (.iload_n 2, 1) := by decide +kernel
theorem dX2_enter_25 : decode cX2_enter 25 = .ok (.invokevirtual 32, 3) := by decide +kernel
theorem dX2_enter_28 : decode cX2_enter 28 = .ok (.ifCond .le 9, 3) := by decide +kernel
theorem dX2_enter_31 : decode cX2_enter 31 = .ok (.iinc 3 (-1), 3) := by decide +kernel
theorem dX2_enter_34 : decode cX2_enter 34 = .ok (.goto (-19), 3) := by decide +kernel
theorem dX2_enter_37 : decode cX2_enter 37 = .ok (.iload_n 3, 1) := by decide +kernel
theorem dX2_enter_38 : decode cX2_enter 38 = .ok (.ifCond .le 17, 3) := by decide +kernel
theorem dX2_enter_41 : decode cX2_enter 41 = .ok (.aload_n 0, 1) := by decide +kernel
theorem dX2_enter_42 : decode cX2_enter 42 = .ok (.iload_n 3, 1) := by decide +kernel
theorem dX2_enter_43 : decode cX2_enter 43 = .ok (.iconst 1, 1) := by decide +kernel
theorem dX2_enter_44 : decode cX2_enter 44 = .ok (.isub, 1) := by decide +kernel
theorem dX2_enter_45 : decode cX2_enter 45 = .ok (.aload_n 1, 1) := by decide +kernel
theorem dX2_enter_46 : decode cX2_enter 46 = .ok (.iload_n 2, 1) := by decide +kernel
theorem dX2_enter_47 : decode cX2_enter 47 = .ok (.invokevirtual 32, 3) := by decide +kernel
theorem dX2_enter_50 : decode cX2_enter 50 = .ok (.ifCond .ne 5, 3) := by decide +kernel
theorem dX2_enter_53 : decode cX2_enter 53 = .ok (.iconst 1, 1) := by decide +kernel
theorem dX2_enter_54 : decode cX2_enter 54 = .ok (.ireturn, 1) := by decide +kernel
theorem dX2_enter_55 : decode cX2_enter 55 = .ok (.aload_n 0, 1) := by decide +kernel
theorem dX2_enter_56 : decode cX2_enter 56 = .ok (.getfield 16, 3) := by decide +kernel
theorem dX2_enter_59 : decode cX2_enter 59 = .ok (.sipush 240, 3) := by decide +kernel
theorem dX2_enter_62 : decode cX2_enter 62 = .ok (.if_icmp .lt 5, 3) := by decide +kernel
theorem dX2_enter_65 : decode cX2_enter 65 = .ok (.iconst 0, 1) := by decide +kernel
theorem dX2_enter_66 : decode cX2_enter 66 = .ok (.ireturn, 1) := by decide +kernel
theorem dX2_enter_67 : decode cX2_enter 67 = .ok (.iconst 0, 1) := by decide +kernel
theorem dX2_enter_68 : decode cX2_enter 68 = .ok (.istore 4, 2) := by decide +kernel
theorem dX2_enter_70 : decode cX2_enter 70 = .ok (.iload 4, 2) := by decide +kernel
theorem dX2_enter_72 : decode cX2_enter 72 = .ok (.iconst 2, 1) := by decide +kernel
theorem dX2_enter_73 : decode cX2_enter 73 = .ok (.if_icmp .gt 52, 3) := by decide +kernel
theorem dX2_enter_76 : decode cX2_enter 76 = .ok (.aload_n 0, 1) := by decide +kernel
theorem dX2_enter_77 : decode cX2_enter 77 = .ok (.getfield 11, 3) := by decide +kernel
theorem dX2_enter_80 : decode cX2_enter 80 = .ok (.iload 4, 2) := by decide +kernel
theorem dX2_enter_82 : decode cX2_enter 82 = .ok (.aaload, 1) := by decide +kernel
theorem dX2_enter_83 : decode cX2_enter 83 = .ok (.iload_n 3, 1) := by decide +kernel
theorem dX2_enter_84 : decode cX2_enter 84 = .ok (.aload_n 0, 1) := by decide +kernel
theorem dX2_enter_85 : decode cX2_enter 85 = .ok (.getfield 11, 3) := by decide +kernel
theorem dX2_enter_88 : decode cX2_enter 88 = .ok (.iload 4, 2) := by decide +kernel
theorem dX2_enter_90 : decode cX2_enter 90 = .ok (.aaload, 1) := by decide +kernel
theorem dX2_enter_91 : decode cX2_enter 91 = .ok (.iload_n 3, 1) := by decide +kernel
theorem dX2_enter_92 : decode cX2_enter 92 = .ok (.iconst 1, 1) := by decide +kernel
theorem dX2_enter_93 : decode cX2_enter 93 = .ok (.iadd, 1) := by decide +kernel
theorem dX2_enter_94 : decode cX2_enter 94 = .ok (.aload_n 0, 1) := by decide +kernel
theorem dX2_enter_95 : decode cX2_enter 95 = .ok (.getfield 16, 3) := by decide +kernel
theorem dX2_enter_98 : decode cX2_enter 98 = .ok (.iload_n 3, 1) := by decide +kernel
theorem dX2_enter_99 : decode cX2_enter 99 = .ok (.isub, 1) := by decide +kernel
theorem dX2_enter_100 : decode cX2_enter 100 = .ok (.invokestatic 36, 3) := by decide +kernel
theorem dX2_enter_103 : decode cX2_enter 103 = .ok (.aload_n 0, 1) := by decide +kernel
theorem dX2_enter_104 : decode cX2_enter 104 = .ok (.getfield 11, 3) := by decide +kernel
theorem dX2_enter_107 : decode cX2_enter 107 = .ok (.iload 4, 2) := by decide +kernel
theorem dX2_enter_109 : decode cX2_enter 109 = .ok (.aaload, 1) := by decide +kernel
theorem dX2_enter_110 : decode cX2_enter 110 = .ok (.iload_n 3, 1) := by decide +kernel
theorem dX2_enter_111 : decode cX2_enter 111 = .ok (.aload_n 1, 1) := by decide +kernel
theorem dX2_enter_112 : decode cX2_enter 112 = .ok (.iload_n 2, 1) := by decide +kernel
theorem dX2_enter_113 : decode cX2_enter 113 = .ok (.iload 4, 2) := by decide +kernel
theorem dX2_enter_115 : decode cX2_enter 115 = .ok (.invokevirtual 42, 3) := by decide +kernel
theorem dX2_enter_118 : decode cX2_enter 118 = .ok (.lastore, 1) := by decide +kernel
theorem dX2_enter_119 : decode cX2_enter 119 = .ok (.iinc 4 1, 3) := by decide +kernel
theorem dX2_enter_122 : decode cX2_enter 122 = .ok (.goto (-52), 3) := by decide +kernel
theorem dX2_enter_125 : decode cX2_enter 125 = .ok (.aload_n 0, 1) := by decide +kernel
theorem dX2_enter_126 : decode cX2_enter 126 = .ok (.dup, 1) := by decide +kernel
theorem dX2_enter_127 : decode cX2_enter 127 = .ok (.getfield 16, 3) := by decide +kernel
theorem dX2_enter_130 : decode cX2_enter 130 = .ok (.iconst 1, 1) := by decide +kernel
theorem dX2_enter_131 : decode cX2_enter 131 = .ok (.iadd, 1) := by decide +kernel
theorem dX2_enter_132 : decode cX2_enter 132 = .ok (.putfield 16, 3) := by decide +kernel
theorem dX2_enter_135 : decode cX2_enter 135 = .ok (.iconst 1, 1) := by decide +kernel
theorem dX2_enter_136 : decode cX2_enter 136 = .ok (.ireturn, 1) := by decide +kernel
theorem dX2_order_0 : decode cX2_order 0 = .ok (.iconst 0, 1) := by decide +kernel
theorem dX2_order_1 : decode cX2_order 1 = .ok (.istore 4, 2) := by decide +kernel
theorem dX2_order_3 : decode cX2_order 3 = .ok (.iload 4, 2) := by decide +kernel
theorem dX2_order_5 : decode cX2_order 5 = .ok (.iconst 2, 1) := by decide +kernel
theorem dX2_order_6 : decode cX2_order 6 = .ok (.if_icmp .gt 38, 3) := by decide +kernel
theorem dX2_order_9 : decode cX2_order 9 = .ok (.aload_n 0, 1) := by decide +kernel
theorem dX2_order_10 : decode cX2_order 10 = .ok (.getfield 11, 3) := by decide +kernel
theorem dX2_order_13 : decode cX2_order 13 = .ok (.iload 4, 2) := by decide +kernel
theorem dX2_order_15 : decode cX2_order 15 = .ok (.aaload, 1) := by decide +kernel
theorem dX2_order_16 : decode cX2_order 16 = .ok (.iload_n 1, 1) := by decide +kernel
theorem dX2_order_17 : decode cX2_order 17 = .ok (.laload, 1) := by decide +kernel
theorem dX2_order_18 : decode cX2_order 18 = .ok (.aload_n 2, 1) := by decide +kernel
theorem dX2_order_19 : decode cX2_order 19 = .ok (.iload_n 3, 1) := by decide +kernel
theorem dX2_order_20 : decode cX2_order 20 = .ok (.iload 4, 2) := by decide +kernel
theorem dX2_order_22 : decode cX2_order 22 = .ok (.invokevirtual 42, 3) := by decide +kernel
theorem dX2_order_25 : decode cX2_order 25 = .ok (.invokestatic 46, 3) := by decide +kernel
theorem dX2_order_28 : decode cX2_order 28 = .ok (.istore 5, 2) := by decide +kernel
theorem dX2_order_30 : decode cX2_order 30 = .ok (.iload 5, 2) := by decide +kernel
theorem dX2_order_32 : decode cX2_order 32 = .ok (.ifCond .eq 6, 3) := by decide +kernel
theorem dX2_order_35 : decode cX2_order 35 = .ok (.iload 5, 2) := by decide +kernel
theorem dX2_order_37 : decode cX2_order 37 = .ok (.ireturn, 1) := by decide +kernel
theorem dX2_order_38 : decode cX2_order 38 = .ok (.iinc 4 1, 3) := by decide +kernel
theorem dX2_order_41 : decode cX2_order 41 = .ok (.goto (-38), 3) := by decide +kernel
theorem dX2_order_44 : decode cX2_order 44 = .ok (.iconst 0, 1) := by decide +kernel
theorem dX2_order_45 : decode cX2_order 45 = .ok (.ireturn, 1) := by decide +kernel
theorem dX2_bendLeft_0 : decode cX2_bendLeft 0 = .ok (.iconst 0, 1) := by decide +kernel
theorem dX2_bendLeft_1 : decode cX2_bendLeft 1 = .ok (.istore_n 2, 1) := by decide +kernel
theorem dX2_bendLeft_2 : decode cX2_bendLeft 2 = .ok (.iconst 0, 1) := by decide +kernel
theorem dX2_bendLeft_3 : decode cX2_bendLeft 3 = .ok (.istore_n 3, 1) := by decide +kernel
theorem dX2_bendLeft_4 : decode cX2_bendLeft 4 = .ok (.iconst 1, 1) := by decide +kernel
theorem dX2_bendLeft_5 : decode cX2_bendLeft 5 = .ok (.istore 4, 2) := by decide +kernel
theorem dX2_bendLeft_7 : decode cX2_bendLeft 7 = .ok (.iload 4, 2) := by decide +kernel
theorem dX2_bendLeft_9 : decode cX2_bendLeft 9 = .ok (.aload_n 0, 1) := by decide +kernel
theorem dX2_bendLeft_10 : decode cX2_bendLeft 10 = .ok (.getfield 20, 3) := by decide +kernel
theorem dX2_bendLeft_13 : decode cX2_bendLeft 13 = .ok (.if_icmp .gt 100, 3) := by decide +kernel
theorem dX2_bendLeft_16 : decode cX2_bendLeft 16 = .ok (.iload_n 3, 1) := by decide +kernel
theorem dX2_bendLeft_17 : decode cX2_bendLeft 17 = .ok (.aload_n 0, 1) := by decide +kernel
theorem dX2_bendLeft_18 : decode cX2_bendLeft 18 = .ok (.getfield 16, 3) := by decide +kernel
theorem dX2_bendLeft_21 : decode cX2_bendLeft 21 = .ok (.if_icmp .ge 24, 3) := by decide +kernel
theorem dX2_bendLeft_24 : decode cX2_bendLeft 24 = .ok (.aload_n 0, 1) := by decide +kernel
theorem dX2_bendLeft_25 : decode cX2_bendLeft 25 = .ok (.getfield 11, 3) := by decide +kernel
theorem dX2_bendLeft_28 : decode cX2_bendLeft 28 = .ok (.iconst 0, 1) := by decide +kernel
theorem dX2_bendLeft_29 : decode cX2_bendLeft 29 = .ok (.aaload, 1) := by decide +kernel
theorem dX2_bendLeft_30 : decode cX2_bendLeft 30 = .ok (.iload_n 3, 1) := by decide +kernel
theorem dX2_bendLeft_31 : decode cX2_bendLeft 31 = .ok (.laload, 1) := by decide +kernel
theorem dX2_bendLeft_32 : decode cX2_bendLeft 32 = .ok (.iload 4, 2) := by decide +kernel
theorem dX2_bendLeft_34 : decode cX2_bendLeft 34 = .ok (.i2l, 1) := by decide +kernel
theorem dX2_bendLeft_35 : decode cX2_bendLeft 35 = .ok (.lcmp, 1) := by decide +kernel
theorem dX2_bendLeft_36 : decode cX2_bendLeft 36 = .ok (.ifCond .ge 9, 3) := by decide +kernel
theorem dX2_bendLeft_39 : decode cX2_bendLeft 39 = .ok (.iinc 3 1, 3) := by decide +kernel
theorem dX2_bendLeft_42 : decode cX2_bendLeft 42 = .ok (.goto (-26), 3) := by decide +kernel
theorem dX2_bendLeft_45 : decode cX2_bendLeft 45 = .ok (.iload_n 3, 1) := by decide +kernel
theorem dX2_bendLeft_46 : decode cX2_bendLeft 46 = .ok (.aload_n 0, 1) := by decide +kernel
theorem dX2_bendLeft_47 : decode cX2_bendLeft 47 = .ok (.getfield 16, 3) := by decide +kernel
theorem dX2_bendLeft_50 : decode cX2_bendLeft 50 = .ok (.if_icmp .ge 22, 3) := by decide +kernel
theorem dX2_bendLeft_53 : decode cX2_bendLeft 53 = .ok (.aload_n 0, 1) := by decide +kernel
theorem dX2_bendLeft_54 : decode cX2_bendLeft 54 = .ok (.getfield 11, 3) := by decide +kernel
theorem dX2_bendLeft_57 : decode cX2_bendLeft 57 = .ok (.iconst 0, 1) := by decide +kernel
theorem dX2_bendLeft_58 : decode cX2_bendLeft 58 = .ok (.aaload, 1) := by decide +kernel
theorem dX2_bendLeft_59 : decode cX2_bendLeft 59 = .ok (.iload_n 3, 1) := by decide +kernel
theorem dX2_bendLeft_60 : decode cX2_bendLeft 60 = .ok (.laload, 1) := by decide +kernel
theorem dX2_bendLeft_61 : decode cX2_bendLeft 61 = .ok (.iload 4, 2) := by decide +kernel
theorem dX2_bendLeft_63 : decode cX2_bendLeft 63 = .ok (.i2l, 1) := by decide +kernel
theorem dX2_bendLeft_64 : decode cX2_bendLeft 64 = .ok (.lcmp, 1) := by decide +kernel
theorem dX2_bendLeft_65 : decode cX2_bendLeft 65 = .ok (.ifCond .ne 7, 3) := by decide +kernel
theorem dX2_bendLeft_68 : decode cX2_bendLeft 68 = .ok (.iconst 1, 1) := by decide +kernel
theorem dX2_bendLeft_69 : decode cX2_bendLeft 69 = .ok (.goto 4, 3) := by decide +kernel
theorem dX2_bendLeft_72 : decode cX2_bendLeft 72 = .ok (.iconst 0, 1) := by decide +kernel
theorem dX2_bendLeft_73 : decode cX2_bendLeft 73 = .ok (.istore 5, 2) := by decide +kernel
theorem dX2_bendLeft_75 : decode cX2_bendLeft 75 = .ok (.iload 5, 2) := by decide +kernel
theorem dX2_bendLeft_77 : decode cX2_bendLeft 77 = .ok (.ifCond .ne 30, 3) := by decide +kernel
theorem dX2_bendLeft_80 : decode cX2_bendLeft 80 = .ok (.aload_n 0, 1) := by decide +kernel
theorem dX2_bendLeft_81 : decode cX2_bendLeft 81 = .ok (.getfield 23, 3) := by decide +kernel
theorem dX2_bendLeft_84 : decode cX2_bendLeft 84 = .ok (.iload 4, 2) := by decide +kernel
theorem dX2_bendLeft_86 : decode cX2_bendLeft 86 = .ok (.bipush 24, 2) := by decide +kernel
theorem dX2_bendLeft_88 : decode cX2_bendLeft 88 = .ok (.irem, 1) := by decide +kernel
theorem dX2_bendLeft_89 : decode cX2_bendLeft 89 = .ok (.ishr, 1) := by decide +kernel
theorem dX2_bendLeft_90 : decode cX2_bendLeft 90 = .ok (.iconst 1, 1) := by decide +kernel
theorem dX2_bendLeft_91 : decode cX2_bendLeft 91 = .ok (.iand, 1) := by decide +kernel
theorem dX2_bendLeft_92 : decode cX2_bendLeft 92 = .ok (.iconst 1, 1) := by decide +kernel
theorem dX2_bendLeft_93 : decode cX2_bendLeft 93 = .ok (.if_icmp .ne 14, 3) := by decide +kernel
theorem dX2_bendLeft_96 : decode cX2_bendLeft 96 = .ok (.iload_n 2, 1) := by decide +kernel
theorem dX2_bendLeft_97 : decode cX2_bendLeft 97 = .ok (.iload_n 1, 1) := by decide +kernel
theorem dX2_bendLeft_98 : decode cX2_bendLeft 98 = .ok (.if_icmp .ne 6, 3) := by decide +kernel
theorem dX2_bendLeft_101 : decode cX2_bendLeft 101 = .ok (.iload 4, 2) := by decide +kernel
theorem dX2_bendLeft_103 : decode cX2_bendLeft 103 = .ok (.ireturn, 1) := by decide +kernel
theorem dX2_bendLeft_104 : decode cX2_bendLeft 104 = .ok (.iinc 2 1, 3) := by decide +kernel
theorem dX2_bendLeft_107 : decode cX2_bendLeft 107 = .ok (.iinc 4 1, 3) := by decide +kernel
theorem dX2_bendLeft_110 : decode cX2_bendLeft 110 = .ok (.goto (-103), 3) := by decide +kernel
theorem dX2_bendLeft_113 : decode cX2_bendLeft 113 = .ok (.bipush (-3), 2) := by decide +kernel
theorem dX2_bendLeft_115 : decode cX2_bendLeft 115 = .ok (.ireturn, 1) := by decide +kernel
theorem dX3_init_0 : decode cX3_init 0 = .ok (.aload_n 0, 1) := by decide +kernel
theorem dX3_init_1 : decode cX3_init 1 = .ok (.invokespecial 3, 3) := by decide +kernel
theorem dX3_init_4 : decode cX3_init 4 = .ok (.aload_n 0, 1) := by decide +kernel
theorem dX3_init_5 : decode cX3_init 5 = .ok (.sipush 241, 3) := by decide +kernel
theorem dX3_init_8 : decode cX3_init 8 = .ok (.anewarray 11, 3) := by decide +kernel
theorem dX3_init_11 : decode cX3_init 11 = .ok (.putfield 13, 3) := by decide +kernel
theorem dX3_init_14 : decode cX3_init 14 = .ok (.aload_n 0, 1) := by decide +kernel
theorem dX3_init_15 : decode cX3_init 15 = .ok (.sipush 241, 3) := by decide +kernel
theorem dX3_init_18 : decode cX3_init 18 = .ok (.newarray .int, 2) := by decide +kernel
theorem dX3_init_20 : decode cX3_init 20 = .ok (.putfield 17, 3) := by decide +kernel
theorem dX3_init_23 : decode cX3_init 23 = .ok (.aload_n 0, 1) := by decide +kernel
theorem dX3_init_24 : decode cX3_init 24 = .ok (.new 11, 3) := by decide +kernel
theorem dX3_init_27 : decode cX3_init 27 = .ok (.dup, 1) := by decide +kernel
theorem dX3_init_28 : decode cX3_init 28 = .ok (.invokespecial 21, 3) := by decide +kernel
theorem dX3_init_31 : decode cX3_init 31 = .ok (.putfield 22, 3) := by decide +kernel
theorem dX3_init_34 : decode cX3_init 34 = .ok (.aload_n 0, 1) := by decide +kernel
theorem dX3_init_35 : decode cX3_init 35 = .ok (.iconst 0, 1) := by decide +kernel
theorem dX3_init_36 : decode cX3_init 36 = .ok (.putfield 26, 3) := by decide +kernel
theorem dX3_init_39 : decode cX3_init 39 = .ok (.iconst 0, 1) := by decide +kernel
theorem dX3_init_40 : decode cX3_init 40 = .ok (.istore_n 1, 1) := by decide +kernel
theorem dX3_init_41 : decode cX3_init 41 = .ok (.iload_n 1, 1) := by decide +kernel
theorem dX3_init_42 : decode cX3_init 42 = .ok (.sipush 241, 3) := by decide +kernel
theorem dX3_init_45 : decode cX3_init 45 = .ok (.if_icmp .ge 22, 3) := by decide +kernel
theorem dX3_init_48 : decode cX3_init 48 = .ok (.aload_n 0, 1) := by decide +kernel
theorem dX3_init_49 : decode cX3_init 49 = .ok (.getfield 13, 3) := by decide +kernel
theorem dX3_init_52 : decode cX3_init 52 = .ok (.iload_n 1, 1) := by decide +kernel
theorem dX3_init_53 : decode cX3_init 53 = .ok (.new 11, 3) := by decide +kernel
theorem dX3_init_56 : decode cX3_init 56 = .ok (.dup, 1) := by decide +kernel
theorem dX3_init_57 : decode cX3_init 57 = .ok (.invokespecial 21, 3) := by decide +kernel
theorem dX3_init_60 : decode cX3_init 60 = .ok (.aastore, 1) := by decide +kernel
theorem dX3_init_61 : decode cX3_init 61 = .ok (.iinc 1 1, 3) := by decide +kernel
theorem dX3_init_64 : decode cX3_init 64 = .ok (.goto (-23), 3) := by decide +kernel
theorem dX3_init_67 : decode cX3_init 67 = .ok (.return_, 1) := by decide +kernel
theorem dX3_gather_0 : decode cX3_gather 0 = .ok (.iconst 0, 1) := by decide +kernel
theorem dX3_gather_1 : decode cX3_gather 1 = .ok (.istore_n 3, 1) := by decide +kernel
theorem dX3_gather_2 : decode cX3_gather 2 = .ok (.iload_n 3, 1) := by decide +kernel
theorem dX3_gather_3 : decode cX3_gather 3 = .ok (.iconst 4, 1) := by decide +kernel
theorem dX3_gather_4 : decode cX3_gather 4 = .ok (.if_icmp .ge 34, 3) := by decide +kernel
theorem dX3_gather_7 : decode cX3_gather 7 = .ok (.aload_n 1, 1) := by decide +kernel
theorem dX3_gather_8 : decode cX3_gather 8 = .ok (.iload_n 3, 1) := by decide +kernel
theorem dX3_gather_9 : decode cX3_gather 9 = .ok (.invokevirtual 30, 3) := by decide +kernel
theorem dX3_gather_12 : decode cX3_gather 12 = .ok (.aload_n 2, 1) := by decide +kernel
theorem dX3_gather_13 : decode cX3_gather 13 = .ok (.getfield 34, 3) := by decide +kernel
theorem dX3_gather_16 : decode cX3_gather 16 = .ok (.i2l, 1) := by decide +kernel
theorem dX3_gather_17 : decode cX3_gather 17 = .ok (.lcmp, 1) := by decide +kernel
theorem dX3_gather_18 : decode cX3_gather 18 = .ok (.ifCond .gt 14, 3) := by decide +kernel
theorem dX3_gather_21 : decode cX3_gather 21 = .ok (.aload_n 2, 1) := by decide +kernel
theorem dX3_gather_22 : decode cX3_gather 22 = .ok (.aload_n 1, 1) := by decide +kernel
theorem dX3_gather_23 : decode cX3_gather 23 = .ok (.iload_n 3, 1) := by decide +kernel
theorem dX3_gather_24 : decode cX3_gather 24 = .ok (.invokevirtual 39, 3) := by decide +kernel
theorem dX3_gather_27 : decode cX3_gather 27 = .ok (.ifCond .ne 5, 3) := by decide +kernel
theorem dX3_gather_30 : decode cX3_gather 30 = .ok (.iconst 0, 1) := by decide +kernel
theorem dX3_gather_31 : decode cX3_gather 31 = .ok (.ireturn, 1) := by decide +kernel
theorem dX3_gather_32 : decode cX3_gather 32 = .ok (.iinc 3 1, 3) := by decide +kernel
theorem dX3_gather_35 : decode cX3_gather 35 = .ok (.goto (-33), 3) := by decide +kernel
theorem dX3_gather_38 : decode cX3_gather 38 = .ok (.aload_n 0, 1) := by decide +kernel
theorem dX3_gather_39 : decode cX3_gather 39 = .ok (.iconst 0, 1) := by decide +kernel
theorem dX3_gather_40 : decode cX3_gather 40 = .ok (.putfield 26, 3) := by decide +kernel
theorem dX3_gather_43 : decode cX3_gather 43 = .ok (.aload_n 1, 1) := by decide +kernel
theorem dX3_gather_44 : decode cX3_gather 44 = .ok (.aload_n 1, 1) := by decide +kernel
theorem dX3_gather_45 : decode cX3_gather 45 = .ok (.invokevirtual 43, 3) := by decide +kernel
theorem dX3_gather_48 : decode cX3_gather 48 = .ok (.invokevirtual 30, 3) := by decide +kernel
theorem dX3_gather_51 : decode cX3_gather 51 = .ok (.aload_n 2, 1) := by decide +kernel
theorem dX3_gather_52 : decode cX3_gather 52 = .ok (.getfield 34, 3) := by decide +kernel
theorem dX3_gather_55 : decode cX3_gather 55 = .ok (.i2l, 1) := by decide +kernel
theorem dX3_gather_56 : decode cX3_gather 56 = .ok (.lcmp, 1) := by decide +kernel
theorem dX3_gather_57 : decode cX3_gather 57 = .ok (.ifCond .gt 11, 3) := by decide +kernel
theorem dX3_gather_60 : decode cX3_gather 60 = .ok (.aload_n 0, 1) := by decide +kernel
theorem dX3_gather_61 : decode cX3_gather 61 = .ok (.aload_n 1, 1) := by decide +kernel
theorem dX3_gather_62 : decode cX3_gather 62 = .ok (.bipush (-3), 2) := by decide +kernel
theorem dX3_gather_64 : decode cX3_gather 64 = .ok (.invokevirtual 47, 3) := by decide +kernel
theorem dX3_gather_67 : decode cX3_gather 67 = .ok (.pop, 1) := by decide +kernel
theorem dX3_gather_68 : decode cX3_gather 68 = .ok (.iconst 0, 1) := by decide +kernel
theorem dX3_gather_69 : decode cX3_gather 69 = .ok (.istore_n 3, 1) := by decide +kernel
theorem dX3_gather_70 : decode cX3_gather 70 = .ok (.iload_n 3, 1) := by decide +kernel
theorem dX3_gather_71 : decode cX3_gather 71 = .ok (.aload_n 0, 1) := by decide +kernel
theorem dX3_gather_72 : decode cX3_gather 72 = .ok (.getfield 26, 3) := by decide +kernel
theorem dX3_gather_75 : decode cX3_gather 75 = .ok (.if_icmp .ge 27, 3) := by decide +kernel
theorem dX3_gather_78 : decode cX3_gather 78 = .ok (.iload_n 3, 1) := by decide +kernel
theorem dX3_gather_79 : decode cX3_gather 79 = .ok (.sipush 241, 3) := by decide +kernel
theorem dX3_gather_82 : decode cX3_gather 82 = .ok (.if_icmp .ge 20, 3) := by decide +kernel
theorem dX3_gather_85 : decode cX3_gather 85 = .ok (.aload_n 0, 1) := by decide +kernel
theorem dX3_gather_86 : decode cX3_gather 86 = .ok (.iload_n 3, 1) := by decide +kernel
theorem dX3_gather_87 : decode cX3_gather 87 = .ok (.aload_n 2, 1) := by decide +kernel
theorem dX3_gather_88 : decode cX3_gather 88 = .ok (.invokevirtual 50, 3) := by decide +kernel
theorem dX3_gather_91 : decode cX3_gather 91 = .ok (.ifCond .ne 5, 3) := by decide +kernel
theorem dX3_gather_94 : decode cX3_gather 94 = .ok (.iconst 0, 1) := by decide +kernel
theorem dX3_gather_95 : decode cX3_gather 95 = .ok (.ireturn, 1) := by decide +kernel
theorem dX3_gather_96 : decode cX3_gather 96 = .ok (.iinc 3 1, 3) := by decide +kernel
theorem dX3_gather_99 : decode cX3_gather 99 = .ok (.goto (-29), 3) := by decide +kernel
theorem dX3_gather_102 : decode cX3_gather 102 = .ok (.iconst 1, 1) := by decide +kernel
theorem dX3_gather_103 : decode cX3_gather 103 = .ok (.ireturn, 1) := by decide +kernel
theorem dX3_swapEachWay_0 : decode cX3_swapEachWay 0 = .ok (.iconst 0, 1) := by decide +kernel
theorem dX3_swapEachWay_1 : decode cX3_swapEachWay 1 = .ok (.istore_n 3, 1) := by decide +kernel
theorem dX3_swapEachWay_2 : decode cX3_swapEachWay 2 = .ok (.iload_n 3, 1) := by decide +kernel
theorem dX3_swapEachWay_3 : decode cX3_swapEachWay 3 = .ok (.iconst 4, 1) := by decide +kernel
theorem dX3_swapEachWay_4 : decode cX3_swapEachWay 4 = .ok (.if_icmp .ge 89, 3) := by decide +kernel
theorem dX3_swapEachWay_7 : decode cX3_swapEachWay 7 = .ok (.iload_n 3, 1) := by decide +kernel
theorem dX3_swapEachWay_8 : decode cX3_swapEachWay 8 = .ok (.aload_n 0, 1) := by decide +kernel
theorem dX3_swapEachWay_9 : decode cX3_swapEachWay 9 = .ok (.getfield 17, 3) := by decide +kernel
theorem dX3_swapEachWay_12 : decode cX3_swapEachWay 12 = .ok (.iload_n 1, 1) := by decide +kernel
theorem dX3_swapEachWay_13 : decode cX3_swapEachWay 13 = .ok (.iaload, 1) := by decide +kernel
theorem dX3_swapEachWay_14 : decode cX3_swapEachWay 14 = .ok (.if_icmp .eq 73, 3) := by decide +kernel
theorem dX3_swapEachWay_17 : decode cX3_swapEachWay 17 = .ok (.aload_n 0, 1) := by decide +kernel
theorem dX3_swapEachWay_18 : decode cX3_swapEachWay 18 = .ok (.getfield 13, 3) := by decide +kernel
theorem dX3_swapEachWay_21 : decode cX3_swapEachWay 21 = .ok (.iload_n 1, 1) := by decide +kernel
theorem dX3_swapEachWay_22 : decode cX3_swapEachWay 22 = .ok (.aaload, 1) := by decide +kernel
theorem dX3_swapEachWay_23 : decode cX3_swapEachWay 23 = .ok (.iload_n 3, 1) := by decide +kernel
theorem dX3_swapEachWay_24 : decode cX3_swapEachWay 24 = .ok (.iconst 0, 1) := by decide +kernel
theorem dX3_swapEachWay_25 : decode cX3_swapEachWay 25 = .ok (.invokevirtual 54, 3) := by decide +kernel
theorem dX3_swapEachWay_28 : decode cX3_swapEachWay 28 = .ok (.aload_n 2, 1) := by decide +kernel
theorem dX3_swapEachWay_29 : decode cX3_swapEachWay 29 = .ok (.getfield 34, 3) := by decide +kernel
theorem dX3_swapEachWay_32 : decode cX3_swapEachWay 32 = .ok (.i2l, 1) := by decide +kernel
theorem dX3_swapEachWay_33 : decode cX3_swapEachWay 33 = .ok (.lcmp, 1) := by decide +kernel
theorem dX3_swapEachWay_34 : decode cX3_swapEachWay 34 = .ok (.ifCond .le 6, 3) := by decide +kernel
theorem dX3_swapEachWay_37 : decode cX3_swapEachWay 37 = .ok (.goto 50, 3) := by decide +kernel
theorem dX3_swapEachWay_40 : decode cX3_swapEachWay 40 = .ok (.aload_n 0, 1) := by decide +kernel
theorem dX3_swapEachWay_41 : decode cX3_swapEachWay 41 = .ok (.getfield 22, 3) := by decide +kernel
theorem dX3_swapEachWay_44 : decode cX3_swapEachWay 44 = .ok (.aload_n 0, 1) := by decide +kernel
theorem dX3_swapEachWay_45 : decode cX3_swapEachWay 45 = .ok (.getfield 13, 3) := by decide +kernel
theorem dX3_swapEachWay_48 : decode cX3_swapEachWay 48 = .ok (.iload_n 1, 1) := by decide +kernel
theorem dX3_swapEachWay_49 : decode cX3_swapEachWay 49 = .ok (.aaload, 1) := by decide +kernel
theorem dX3_swapEachWay_50 : decode cX3_swapEachWay 50 = .ok (.invokevirtual 58, 3) := by decide +kernel
theorem dX3_swapEachWay_53 : decode cX3_swapEachWay 53 = .ok (.aload_n 0, 1) := by decide +kernel
theorem dX3_swapEachWay_54 : decode cX3_swapEachWay 54 = .ok (.getfield 22, 3) := by decide +kernel
theorem dX3_swapEachWay_57 : decode cX3_swapEachWay 57 = .ok (.iload_n 3, 1) := by decide +kernel
theorem dX3_swapEachWay_58 : decode cX3_swapEachWay 58 = .ok (.invokevirtual 62, 3) := by decide +kernel
theorem dX3_swapEachWay_61 : decode cX3_swapEachWay 61 = .ok (.aload_n 2, 1) := by decide +kernel
theorem dX3_swapEachWay_62 : decode cX3_swapEachWay 62 = .ok (.aload_n 0, 1) := by decide +kernel
theorem dX3_swapEachWay_63 : decode cX3_swapEachWay 63 = .ok (.getfield 22, 3) := by decide +kernel
theorem dX3_swapEachWay_66 : decode cX3_swapEachWay 66 = .ok (.iload_n 3, 1) := by decide +kernel
theorem dX3_swapEachWay_67 : decode cX3_swapEachWay 67 = .ok (.invokevirtual 39, 3) := by decide +kernel
theorem dX3_swapEachWay_70 : decode cX3_swapEachWay 70 = .ok (.ifCond .eq 15, 3) := by decide +kernel
theorem dX3_swapEachWay_73 : decode cX3_swapEachWay 73 = .ok (.aload_n 0, 1) := by decide +kernel
theorem dX3_swapEachWay_74 : decode cX3_swapEachWay 74 = .ok (.aload_n 0, 1) := by decide +kernel
theorem dX3_swapEachWay_75 : decode cX3_swapEachWay 75 = .ok (.getfield 22, 3) := by decide +kernel
theorem dX3_swapEachWay_78 : decode cX3_swapEachWay 78 = .ok (.iload_n 3, 1) := by decide +kernel
theorem dX3_swapEachWay_79 : decode cX3_swapEachWay 79 = .ok (.invokevirtual 47, 3) := by decide +kernel
theorem dX3_swapEachWay_82 : decode cX3_swapEachWay 82 = .ok (.ifCond .ne 5, 3) := by decide +kernel
theorem dX3_swapEachWay_85 : decode cX3_swapEachWay 85 = .ok (.iconst 0, 1) := by decide +kernel
theorem dX3_swapEachWay_86 : decode cX3_swapEachWay 86 = .ok (.ireturn, 1) := by decide +kernel
theorem dX3_swapEachWay_87 : decode cX3_swapEachWay 87 = .ok (.iinc 3 1, 3) := by decide +kernel
theorem dX3_swapEachWay_90 : decode cX3_swapEachWay 90 = .ok (.goto (-88), 3) := by decide +kernel
theorem dX3_swapEachWay_93 : decode cX3_swapEachWay 93 = .ok (.iconst 1, 1) := by decide +kernel
theorem dX3_swapEachWay_94 : decode cX3_swapEachWay 94 = .ok (.ireturn, 1) := by decide +kernel
theorem dX3_addWaiting_0 : decode cX3_addWaiting 0 = .ok (.aload_n 0, 1) := by decide +kernel
theorem dX3_addWaiting_1 : decode cX3_addWaiting 1 = .ok (.getfield 26, 3) := by decide +kernel
theorem dX3_addWaiting_4 : decode cX3_addWaiting 4 = .ok (.sipush 241, 3) := by decide +kernel
theorem dX3_addWaiting_7 : decode cX3_addWaiting 7 = .ok (.if_icmp .lt 5, 3) := by decide +kernel
theorem dX3_addWaiting_10 : decode cX3_addWaiting 10 = .ok (.iconst 0, 1) := by decide +kernel
theorem dX3_addWaiting_11 : decode cX3_addWaiting 11 = .ok (.ireturn, 1) := by decide +kernel
theorem dX3_addWaiting_12 : decode cX3_addWaiting 12 = .ok (.aload_n 0, 1) := by decide +kernel
theorem dX3_addWaiting_13 : decode cX3_addWaiting 13 = .ok (.getfield 13, 3) := by decide +kernel
theorem dX3_addWaiting_16 : decode cX3_addWaiting 16 = .ok (.aload_n 0, 1) := by decide +kernel
theorem dX3_addWaiting_17 : decode cX3_addWaiting 17 = .ok (.getfield 26, 3) := by decide +kernel
theorem dX3_addWaiting_20 : decode cX3_addWaiting 20 = .ok (.aaload, 1) := by decide +kernel
theorem dX3_addWaiting_21 : decode cX3_addWaiting 21 = .ok (.aload_n 1, 1) := by decide +kernel
theorem dX3_addWaiting_22 : decode cX3_addWaiting 22 = .ok (.invokevirtual 58, 3) := by decide +kernel
theorem dX3_addWaiting_25 : decode cX3_addWaiting 25 = .ok (.aload_n 0, 1) := by decide +kernel
theorem dX3_addWaiting_26 : decode cX3_addWaiting 26 = .ok (.getfield 17, 3) := by decide +kernel
theorem dX3_addWaiting_29 : decode cX3_addWaiting 29 = .ok (.aload_n 0, 1) := by decide +kernel
theorem dX3_addWaiting_30 : decode cX3_addWaiting 30 = .ok (.getfield 26, 3) := by decide +kernel
theorem dX3_addWaiting_33 : decode cX3_addWaiting 33 = .ok (.iload_n 2, 1) := by decide +kernel
theorem dX3_addWaiting_34 : decode cX3_addWaiting 34 = .ok (.iastore, 1) := by decide +kernel
theorem dX3_addWaiting_35 : decode cX3_addWaiting 35 = .ok (.aload_n 0, 1) := by decide +kernel
theorem dX3_addWaiting_36 : decode cX3_addWaiting 36 = .ok (.dup, 1) := by decide +kernel
theorem dX3_addWaiting_37 : decode cX3_addWaiting 37 = .ok (.getfield 26, 3) := by decide +kernel
theorem dX3_addWaiting_40 : decode cX3_addWaiting 40 = .ok (.iconst 1, 1) := by decide +kernel
theorem dX3_addWaiting_41 : decode cX3_addWaiting 41 = .ok (.iadd, 1) := by decide +kernel
theorem dX3_addWaiting_42 : decode cX3_addWaiting 42 = .ok (.putfield 26, 3) := by decide +kernel
theorem dX3_addWaiting_45 : decode cX3_addWaiting 45 = .ok (.iconst 1, 1) := by decide +kernel
theorem dX3_addWaiting_46 : decode cX3_addWaiting 46 = .ok (.ireturn, 1) := by decide +kernel
theorem dX4_init_0 : decode cX4_init 0 = .ok (.aload_n 0, 1) := by decide +kernel
theorem dX4_init_1 : decode cX4_init 1 = .ok (.invokespecial 3, 3) := by decide +kernel
theorem dX4_init_4 : decode cX4_init 4 = .ok (.aload_n 0, 1) := by decide +kernel
theorem dX4_init_5 : decode cX4_init 5 = .ok (.new 9, 3) := by decide +kernel
theorem dX4_init_8 : decode cX4_init 8 = .ok (.dup, 1) := by decide +kernel
theorem dX4_init_9 : decode cX4_init 9 = .ok (.invokespecial 11, 3) := by decide +kernel
theorem dX4_init_12 : decode cX4_init 12 = .ok (.putfield 12, 3) := by decide +kernel
theorem dX4_init_15 : decode cX4_init 15 = .ok (.aload_n 0, 1) := by decide +kernel
theorem dX4_init_16 : decode cX4_init 16 = .ok (.new 9, 3) := by decide +kernel
theorem dX4_init_19 : decode cX4_init 19 = .ok (.dup, 1) := by decide +kernel
theorem dX4_init_20 : decode cX4_init 20 = .ok (.invokespecial 11, 3) := by decide +kernel
theorem dX4_init_23 : decode cX4_init 23 = .ok (.putfield 18, 3) := by decide +kernel
theorem dX4_init_26 : decode cX4_init 26 = .ok (.aload_n 0, 1) := by decide +kernel
theorem dX4_init_27 : decode cX4_init 27 = .ok (.bipush (-3), 2) := by decide +kernel
theorem dX4_init_29 : decode cX4_init 29 = .ok (.putfield 21, 3) := by decide +kernel
theorem dX4_init_32 : decode cX4_init 32 = .ok (.aload_n 0, 1) := by decide +kernel
theorem dX4_init_33 : decode cX4_init 33 = .ok (.iconst 0, 1) := by decide +kernel
theorem dX4_init_34 : decode cX4_init 34 = .ok (.putfield 25, 3) := by decide +kernel
theorem dX4_init_37 : decode cX4_init 37 = .ok (.aload_n 0, 1) := by decide +kernel
theorem dX4_init_38 : decode cX4_init 38 = .ok (.iconst 0, 1) := by decide +kernel
theorem dX4_init_39 : decode cX4_init 39 = .ok (.putfield 28, 3) := by decide +kernel
theorem dX4_init_42 : decode cX4_init 42 = .ok (.return_, 1) := by decide +kernel
theorem dX4_become_0 : decode cX4_become 0 = .ok (.aload_n 0, 1) := by decide +kernel
theorem dX4_become_1 : decode cX4_become 1 = .ok (.getfield 12, 3) := by decide +kernel
theorem dX4_become_4 : decode cX4_become 4 = .ok (.aload_n 1, 1) := by decide +kernel
theorem dX4_become_5 : decode cX4_become 5 = .ok (.invokevirtual 31, 3) := by decide +kernel
theorem dX4_become_8 : decode cX4_become 8 = .ok (.aload_n 0, 1) := by decide +kernel
theorem dX4_become_9 : decode cX4_become 9 = .ok (.getfield 18, 3) := by decide +kernel
theorem dX4_become_12 : decode cX4_become 12 = .ok (.aload_n 1, 1) := by decide +kernel
theorem dX4_become_13 : decode cX4_become 13 = .ok (.invokevirtual 31, 3) := by decide +kernel
theorem dX4_become_16 : decode cX4_become 16 = .ok (.aload_n 0, 1) := by decide +kernel
theorem dX4_become_17 : decode cX4_become 17 = .ok (.aload_n 0, 1) := by decide +kernel
theorem dX4_become_18 : decode cX4_become 18 = .ok (.getfield 18, 3) := by decide +kernel
theorem dX4_become_21 : decode cX4_become 21 = .ok (.ldc 35, 2) := by decide +kernel
theorem dX4_become_23 : decode cX4_become 23 = .ok (.invokevirtual 36, 3) := by decide +kernel
theorem dX4_become_26 : decode cX4_become 26 = .ok (.putfield 25, 3) := by decide +kernel
theorem dX4_become_29 : decode cX4_become 29 = .ok (.aload_n 0, 1) := by decide +kernel
theorem dX4_become_30 : decode cX4_become 30 = .ok (.iload_n 2, 1) := by decide +kernel
theorem dX4_become_31 : decode cX4_become 31 = .ok (.putfield 21, 3) := by decide +kernel
theorem dX4_become_34 : decode cX4_become 34 = .ok (.aload_n 0, 1) := by decide +kernel
theorem dX4_become_35 : decode cX4_become 35 = .ok (.iload_n 3, 1) := by decide +kernel
theorem dX4_become_36 : decode cX4_become 36 = .ok (.putfield 28, 3) := by decide +kernel
theorem dX4_become_39 : decode cX4_become 39 = .ok (.return_, 1) := by decide +kernel
theorem dX5_init_0 : decode cX5_init 0 = .ok (.aload_n 0, 1) := by decide +kernel
theorem dX5_init_1 : decode cX5_init 1 = .ok (.invokespecial 3, 3) := by decide +kernel
theorem dX5_init_4 : decode cX5_init 4 = .ok (.aload_n 0, 1) := by decide +kernel
theorem dX5_init_5 : decode cX5_init 5 = .ok (.sipush 3840, 3) := by decide +kernel
theorem dX5_init_8 : decode cX5_init 8 = .ok (.newarray .int, 2) := by decide +kernel
theorem dX5_init_10 : decode cX5_init 10 = .ok (.putfield 9, 3) := by decide +kernel
theorem dX5_init_13 : decode cX5_init 13 = .ok (.aload_n 0, 1) := by decide +kernel
theorem dX5_init_14 : decode cX5_init 14 = .ok (.iconst 0, 1) := by decide +kernel
theorem dX5_init_15 : decode cX5_init 15 = .ok (.putfield 15, 3) := by decide +kernel
theorem dX5_init_18 : decode cX5_init 18 = .ok (.return_, 1) := by decide +kernel
theorem dX5_gather_0 : decode cX5_gather 0 = .ok (.iconst 0, 1) := by decide +kernel
theorem dX5_gather_1 : decode cX5_gather 1 = .ok (.istore_n 2, 1) := by decide +kernel
theorem dX5_gather_2 : decode cX5_gather 2 = .ok (.iconst 0, 1) := by decide +kernel
theorem dX5_gather_3 : decode cX5_gather 3 = .ok (.istore_n 3, 1) := by decide +kernel
theorem dX5_gather_4 : decode cX5_gather 4 = .ok (.iload_n 3, 1) := by decide +kernel
theorem dX5_gather_5 : decode cX5_gather 5 = .ok (.iconst 4, 1) := by decide +kernel
theorem dX5_gather_6 : decode cX5_gather 6 = .ok (.if_icmp .ge 30, 3) := by decide +kernel
theorem dX5_gather_9 : decode cX5_gather 9 = .ok (.iload_n 2, 1) := by decide +kernel
theorem dX5_gather_10 : decode cX5_gather 10 = .ok (.getstatic 21, 3) := by decide +kernel
theorem dX5_gather_13 : decode cX5_gather 13 = .ok (.iload_n 3, 1) := by decide +kernel
theorem dX5_gather_14 : decode cX5_gather 14 = .ok (.iaload, 1) := by decide +kernel
theorem dX5_gather_15 : decode cX5_gather 15 = .ok (.aload_n 1, 1) := by decide +kernel
theorem dX5_gather_16 : decode cX5_gather 16 = .ok (.iload_n 3, 1) := by decide +kernel
theorem dX5_gather_17 : decode cX5_gather 17 = .ok (.invokevirtual 24, 3) := by decide +kernel
theorem dX5_gather_20 : decode cX5_gather 20 = .ok (.ldc2_w 28, 3) := by decide +kernel
theorem dX5_gather_23 : decode cX5_gather 23 = .ok (.invokestatic 30, 3) := by decide +kernel
theorem dX5_gather_26 : decode cX5_gather 26 = .ok (.l2i, 1) := by decide +kernel
theorem dX5_gather_27 : decode cX5_gather 27 = .ok (.imul, 1) := by decide +kernel
theorem dX5_gather_28 : decode cX5_gather 28 = .ok (.iadd, 1) := by decide +kernel
theorem dX5_gather_29 : decode cX5_gather 29 = .ok (.istore_n 2, 1) := by decide +kernel
theorem dX5_gather_30 : decode cX5_gather 30 = .ok (.iinc 3 1, 3) := by decide +kernel
theorem dX5_gather_33 : decode cX5_gather 33 = .ok (.goto (-29), 3) := by decide +kernel
theorem dX5_gather_36 : decode cX5_gather 36 = .ok (.aload_n 0, 1) := by decide +kernel
theorem dX5_gather_37 : decode cX5_gather 37 = .ok (.iconst 0, 1) := by decide +kernel
theorem dX5_gather_38 : decode cX5_gather 38 = .ok (.putfield 15, 3) := by decide +kernel
theorem dX5_gather_41 : decode cX5_gather 41 = .ok (.aload_n 0, 1) := by decide +kernel
theorem dX5_gather_42 : decode cX5_gather 42 = .ok (.iload_n 2, 1) := by decide +kernel
theorem dX5_gather_43 : decode cX5_gather 43 = .ok (.invokevirtual 36, 3) := by decide +kernel
theorem dX5_gather_46 : decode cX5_gather 46 = .ok (.iconst 0, 1) := by decide +kernel
theorem dX5_gather_47 : decode cX5_gather 47 = .ok (.istore_n 3, 1) := by decide +kernel
theorem dX5_gather_48 : decode cX5_gather 48 = .ok (.iconst 0, 1) := by decide +kernel
theorem dX5_gather_49 : decode cX5_gather 49 = .ok (.istore 4, 2) := by decide +kernel
theorem dX5_gather_51 : decode cX5_gather 51 = .ok (.iload 4, 2) := by decide +kernel
theorem dX5_gather_53 : decode cX5_gather 53 = .ok (.aload_n 0, 1) := by decide +kernel
theorem dX5_gather_54 : decode cX5_gather 54 = .ok (.getfield 15, 3) := by decide +kernel
theorem dX5_gather_57 : decode cX5_gather 57 = .ok (.if_icmp .ge 65, 3) := by decide +kernel
theorem dX5_gather_60 : decode cX5_gather 60 = .ok (.iload 4, 2) := by decide +kernel
theorem dX5_gather_62 : decode cX5_gather 62 = .ok (.sipush 3840, 3) := by decide +kernel
theorem dX5_gather_65 : decode cX5_gather 65 = .ok (.if_icmp .ge 57, 3) := by decide +kernel
theorem dX5_gather_68 : decode cX5_gather 68 = .ok (.iconst 0, 1) := by decide +kernel
theorem dX5_gather_69 : decode cX5_gather 69 = .ok (.istore 5, 2) := by decide +kernel
theorem dX5_gather_71 : decode cX5_gather 71 = .ok (.iload 5, 2) := by decide +kernel
theorem dX5_gather_73 : decode cX5_gather 73 = .ok (.iconst 4, 1) := by decide +kernel
theorem dX5_gather_74 : decode cX5_gather 74 = .ok (.if_icmp .ge 42, 3) := by decide +kernel
theorem dX5_gather_77 : decode cX5_gather 77 = .ok (.iload_n 3, 1) := by decide +kernel
theorem dX5_gather_78 : decode cX5_gather 78 = .ok (.iconst 1, 1) := by decide +kernel
theorem dX5_gather_79 : decode cX5_gather 79 = .ok (.aload_n 0, 1) := by decide +kernel
theorem dX5_gather_80 : decode cX5_gather 80 = .ok (.getfield 9, 3) := by decide +kernel
theorem dX5_gather_83 : decode cX5_gather 83 = .ok (.iload 4, 2) := by decide +kernel
theorem dX5_gather_85 : decode cX5_gather 85 = .ok (.iaload, 1) := by decide +kernel
theorem dX5_gather_86 : decode cX5_gather 86 = .ok (.iload 5, 2) := by decide +kernel
theorem dX5_gather_88 : decode cX5_gather 88 = .ok (.invokestatic 40, 3) := by decide +kernel
theorem dX5_gather_91 : decode cX5_gather 91 = .ok (.ishl, 1) := by decide +kernel
theorem dX5_gather_92 : decode cX5_gather 92 = .ok (.ior, 1) := by decide +kernel
theorem dX5_gather_93 : decode cX5_gather 93 = .ok (.istore_n 3, 1) := by decide +kernel
theorem dX5_gather_94 : decode cX5_gather 94 = .ok (.aload_n 0, 1) := by decide +kernel
theorem dX5_gather_95 : decode cX5_gather 95 = .ok (.aload_n 0, 1) := by decide +kernel
theorem dX5_gather_96 : decode cX5_gather 96 = .ok (.getfield 9, 3) := by decide +kernel
theorem dX5_gather_99 : decode cX5_gather 99 = .ok (.iload 4, 2) := by decide +kernel
theorem dX5_gather_101 : decode cX5_gather 101 = .ok (.iaload, 1) := by decide +kernel
theorem dX5_gather_102 : decode cX5_gather 102 = .ok (.iload 5, 2) := by decide +kernel
theorem dX5_gather_104 : decode cX5_gather 104 = .ok (.invokestatic 44, 3) := by decide +kernel
theorem dX5_gather_107 : decode cX5_gather 107 = .ok (.invokevirtual 36, 3) := by decide +kernel
theorem dX5_gather_110 : decode cX5_gather 110 = .ok (.iinc 5 1, 3) := by decide +kernel
theorem dX5_gather_113 : decode cX5_gather 113 = .ok (.goto (-42), 3) := by decide +kernel
theorem dX5_gather_116 : decode cX5_gather 116 = .ok (.iinc 4 1, 3) := by decide +kernel
theorem dX5_gather_119 : decode cX5_gather 119 = .ok (.goto (-68), 3) := by decide +kernel
theorem dX5_gather_122 : decode cX5_gather 122 = .ok (.iload_n 3, 1) := by decide +kernel
theorem dX5_gather_123 : decode cX5_gather 123 = .ok (.ireturn, 1) := by decide +kernel
theorem dX5_digit_0 : decode cX5_digit 0 = .ok (.iload_n 0, 1) := by decide +kernel
theorem dX5_digit_1 : decode cX5_digit 1 = .ok (.getstatic 21, 3) := by decide +kernel
theorem dX5_digit_4 : decode cX5_digit 4 = .ok (.iload_n 1, 1) := by decide +kernel
theorem dX5_digit_5 : decode cX5_digit 5 = .ok (.iaload, 1) := by decide +kernel
theorem dX5_digit_6 : decode cX5_digit 6 = .ok (.idiv, 1) := by decide +kernel
theorem dX5_digit_7 : decode cX5_digit 7 = .ok (.bipush 24, 2) := by decide +kernel
theorem dX5_digit_9 : decode cX5_digit 9 = .ok (.irem, 1) := by decide +kernel
theorem dX5_digit_10 : decode cX5_digit 10 = .ok (.ireturn, 1) := by decide +kernel
theorem dX5_swapped_0 : decode cX5_swapped 0 = .ok (.iload_n 0, 1) := by decide +kernel
theorem dX5_swapped_1 : decode cX5_swapped 1 = .ok (.iconst 0, 1) := by decide +kernel
theorem dX5_swapped_2 : decode cX5_swapped 2 = .ok (.invokestatic 40, 3) := by decide +kernel
theorem dX5_swapped_5 : decode cX5_swapped 5 = .ok (.iload_n 0, 1) := by decide +kernel
theorem dX5_swapped_6 : decode cX5_swapped 6 = .ok (.iconst 1, 1) := by decide +kernel
theorem dX5_swapped_7 : decode cX5_swapped 7 = .ok (.invokestatic 40, 3) := by decide +kernel
theorem dX5_swapped_10 : decode cX5_swapped 10 = .ok (.iadd, 1) := by decide +kernel
theorem dX5_swapped_11 : decode cX5_swapped 11 = .ok (.iload_n 0, 1) := by decide +kernel
theorem dX5_swapped_12 : decode cX5_swapped 12 = .ok (.iconst 2, 1) := by decide +kernel
theorem dX5_swapped_13 : decode cX5_swapped 13 = .ok (.invokestatic 40, 3) := by decide +kernel
theorem dX5_swapped_16 : decode cX5_swapped 16 = .ok (.iadd, 1) := by decide +kernel
theorem dX5_swapped_17 : decode cX5_swapped 17 = .ok (.iload_n 0, 1) := by decide +kernel
theorem dX5_swapped_18 : decode cX5_swapped 18 = .ok (.iconst 3, 1) := by decide +kernel
theorem dX5_swapped_19 : decode cX5_swapped 19 = .ok (.invokestatic 40, 3) := by decide +kernel
theorem dX5_swapped_22 : decode cX5_swapped 22 = .ok (.iadd, 1) := by decide +kernel
theorem dX5_swapped_23 : decode cX5_swapped 23 = .ok (.istore_n 2, 1) := by decide +kernel
theorem dX5_swapped_24 : decode cX5_swapped 24 = .ok (.iload_n 0, 1) := by decide +kernel
theorem dX5_swapped_25 : decode cX5_swapped 25 = .ok (.iload_n 1, 1) := by decide +kernel
theorem dX5_swapped_26 : decode cX5_swapped 26 = .ok (.invokestatic 40, 3) := by decide +kernel
theorem dX5_swapped_29 : decode cX5_swapped 29 = .ok (.istore_n 3, 1) := by decide +kernel
theorem dX5_swapped_30 : decode cX5_swapped 30 = .ok (.iload_n 0, 1) := by decide +kernel
theorem dX5_swapped_31 : decode cX5_swapped 31 = .ok (.getstatic 21, 3) := by decide +kernel
theorem dX5_swapped_34 : decode cX5_swapped 34 = .ok (.iload_n 1, 1) := by decide +kernel
theorem dX5_swapped_35 : decode cX5_swapped 35 = .ok (.iaload, 1) := by decide +kernel
theorem dX5_swapped_36 : decode cX5_swapped 36 = .ok (.iconst 2, 1) := by decide +kernel
theorem dX5_swapped_37 : decode cX5_swapped 37 = .ok (.iload_n 2, 1) := by decide +kernel
theorem dX5_swapped_38 : decode cX5_swapped 38 = .ok (.imul, 1) := by decide +kernel
theorem dX5_swapped_39 : decode cX5_swapped 39 = .ok (.iconst 3, 1) := by decide +kernel
theorem dX5_swapped_40 : decode cX5_swapped 40 = .ok (.iload_n 3, 1) := by decide +kernel
theorem dX5_swapped_41 : decode cX5_swapped 41 = .ok (.imul, 1) := by decide +kernel
theorem dX5_swapped_42 : decode cX5_swapped 42 = .ok (.isub, 1) := by decide +kernel
theorem dX5_swapped_43 : decode cX5_swapped 43 = .ok (.bipush 24, 2) := by decide +kernel
theorem dX5_swapped_45 : decode cX5_swapped 45 = .ok (.invokestatic 47, 3) := by decide +kernel
theorem dX5_swapped_48 : decode cX5_swapped 48 = .ok (.iload_n 3, 1) := by decide +kernel
theorem dX5_swapped_49 : decode cX5_swapped 49 = .ok (.isub, 1) := by decide +kernel
theorem dX5_swapped_50 : decode cX5_swapped 50 = .ok (.imul, 1) := by decide +kernel
theorem dX5_swapped_51 : decode cX5_swapped 51 = .ok (.iadd, 1) := by decide +kernel
theorem dX5_swapped_52 : decode cX5_swapped 52 = .ok (.ireturn, 1) := by decide +kernel
theorem dX5_enter_0 : decode cX5_enter 0 = .ok (.iconst 0, 1) := by decide +kernel
theorem dX5_enter_1 : decode cX5_enter 1 = .ok (.istore_n 2, 1) := by decide +kernel
theorem dX5_enter_2 : decode cX5_enter 2 = .ok (.iload_n 2, 1) := by decide +kernel
theorem dX5_enter_3 : decode cX5_enter 3 = .ok (.aload_n 0, 1) := by decide +kernel
theorem dX5_enter_4 : decode cX5_enter 4 = .ok (.getfield 15, 3) := by decide +kernel
theorem dX5_enter_7 : decode cX5_enter 7 = .ok (.if_icmp .ge 20, 3) := by decide +kernel
theorem dX5_enter_10 : decode cX5_enter 10 = .ok (.aload_n 0, 1) := by decide +kernel
theorem dX5_enter_11 : decode cX5_enter 11 = .ok (.getfield 9, 3) := by decide +kernel
theorem dX5_enter_14 : decode cX5_enter 14 = .ok (.iload_n 2, 1) := by decide +kernel
theorem dX5_enter_15 : decode cX5_enter 15 = .ok (.iaload, 1) := by decide +kernel
theorem dX5_enter_16 : decode cX5_enter 16 = .ok (.iload_n 1, 1) := by decide +kernel
theorem dX5_enter_17 : decode cX5_enter 17 = .ok (.if_icmp .ne 4, 3) := by decide +kernel
theorem dX5_enter_20 : decode cX5_enter 20 = .ok (.return_, 1) := by decide +kernel
theorem dX5_enter_21 : decode cX5_enter 21 = .ok (.iinc 2 1, 3) := by decide +kernel
theorem dX5_enter_24 : decode cX5_enter 24 = .ok (.goto (-22), 3) := by decide +kernel
theorem dX5_enter_27 : decode cX5_enter 27 = .ok (.aload_n 0, 1) := by decide +kernel
theorem dX5_enter_28 : decode cX5_enter 28 = .ok (.getfield 15, 3) := by decide +kernel
theorem dX5_enter_31 : decode cX5_enter 31 = .ok (.sipush 3840, 3) := by decide +kernel
theorem dX5_enter_34 : decode cX5_enter 34 = .ok (.if_icmp .ge 23, 3) := by decide +kernel
theorem dX5_enter_37 : decode cX5_enter 37 = .ok (.aload_n 0, 1) := by decide +kernel
theorem dX5_enter_38 : decode cX5_enter 38 = .ok (.getfield 9, 3) := by decide +kernel
theorem dX5_enter_41 : decode cX5_enter 41 = .ok (.aload_n 0, 1) := by decide +kernel
theorem dX5_enter_42 : decode cX5_enter 42 = .ok (.getfield 15, 3) := by decide +kernel
theorem dX5_enter_45 : decode cX5_enter 45 = .ok (.iload_n 1, 1) := by decide +kernel
theorem dX5_enter_46 : decode cX5_enter 46 = .ok (.iastore, 1) := by decide +kernel
theorem dX5_enter_47 : decode cX5_enter 47 = .ok (.aload_n 0, 1) := by decide +kernel
theorem dX5_enter_48 : decode cX5_enter 48 = .ok (.dup, 1) := by decide +kernel
theorem dX5_enter_49 : decode cX5_enter 49 = .ok (.getfield 15, 3) := by decide +kernel
theorem dX5_enter_52 : decode cX5_enter 52 = .ok (.iconst 1, 1) := by decide +kernel
theorem dX5_enter_53 : decode cX5_enter 53 = .ok (.iadd, 1) := by decide +kernel
theorem dX5_enter_54 : decode cX5_enter 54 = .ok (.putfield 15, 3) := by decide +kernel
theorem dX5_enter_57 : decode cX5_enter 57 = .ok (.return_, 1) := by decide +kernel
theorem dJ7_fill_d0a16_0 : decode cJ7_fill_d0a16 0 = .ok (.iconst 0, 1) := by decide +kernel
theorem dJ7_fill_d0a16_1 : decode cJ7_fill_d0a16 1 = .ok (.istore_n 3, 1) := by decide +kernel
theorem dJ7_fill_d0a16_2 : decode cJ7_fill_d0a16 2 = .ok (.aload_n 0, 1) := by decide +kernel
theorem dJ7_fill_d0a16_3 : decode cJ7_fill_d0a16 3 = .ok (.arraylength, 1) := by decide +kernel
theorem dJ7_fill_d0a16_4 : decode cJ7_fill_d0a16 4 = .ok (.istore 4, 2) := by decide +kernel
theorem dJ7_fill_d0a16_6 : decode cJ7_fill_d0a16 6 = .ok (.iload_n 3, 1) := by decide +kernel
theorem dJ7_fill_d0a16_7 : decode cJ7_fill_d0a16 7 = .ok (.iload 4, 2) := by decide +kernel
theorem dJ7_fill_d0a16_9 : decode cJ7_fill_d0a16 9 = .ok (.if_icmp .ge 13, 3) := by decide +kernel
theorem dJ7_fill_d0a16_12 : decode cJ7_fill_d0a16 12 = .ok (.aload_n 0, 1) := by decide +kernel
theorem dJ7_fill_d0a16_13 : decode cJ7_fill_d0a16 13 = .ok (.iload_n 3, 1) := by decide +kernel
theorem dJ7_fill_d0a16_14 : decode cJ7_fill_d0a16 14 = .ok (.lload_n 1, 1) := by decide +kernel
theorem dJ7_fill_d0a16_15 : decode cJ7_fill_d0a16 15 = .ok (.lastore, 1) := by decide +kernel
theorem dJ7_fill_d0a16_16 : decode cJ7_fill_d0a16 16 = .ok (.iinc 3 1, 3) := by decide +kernel
theorem dJ7_fill_d0a16_19 : decode cJ7_fill_d0a16 19 = .ok (.goto (-13), 3) := by decide +kernel
theorem dJ7_fill_d0a16_22 : decode cJ7_fill_d0a16 22 = .ok (.return_, 1) := by decide +kernel
theorem dJ9_floorMod_7cf53_0 : decode cJ9_floorMod_7cf53 0 = .ok (.iload_n 0, 1) := by decide +kernel
theorem dJ9_floorMod_7cf53_1 : decode cJ9_floorMod_7cf53 1 = .ok (.iload_n 1, 1) := by decide +kernel
theorem dJ9_floorMod_7cf53_2 : decode cJ9_floorMod_7cf53 2 = .ok (.irem, 1) := by decide +kernel
theorem dJ9_floorMod_7cf53_3 : decode cJ9_floorMod_7cf53 3 = .ok (.istore_n 2, 1) := by decide +kernel
theorem dJ9_floorMod_7cf53_4 : decode cJ9_floorMod_7cf53 4 = .ok (.iload_n 0, 1) := by decide +kernel
theorem dJ9_floorMod_7cf53_5 : decode cJ9_floorMod_7cf53 5 = .ok (.iload_n 1, 1) := by decide +kernel
theorem dJ9_floorMod_7cf53_6 : decode cJ9_floorMod_7cf53 6 = .ok (.ixor, 1) := by decide +kernel
theorem dJ9_floorMod_7cf53_7 : decode cJ9_floorMod_7cf53 7 = .ok (.ifCond .ge 11, 3) := by decide +kernel
theorem dJ9_floorMod_7cf53_10 : decode cJ9_floorMod_7cf53 10 = .ok (.iload_n 2, 1) := by decide +kernel
theorem dJ9_floorMod_7cf53_11 : decode cJ9_floorMod_7cf53 11 = .ok (.ifCond .eq 7, 3) := by decide +kernel
theorem dJ9_floorMod_7cf53_14 : decode cJ9_floorMod_7cf53 14 = .ok (.iload_n 2, 1) := by decide +kernel
theorem dJ9_floorMod_7cf53_15 : decode cJ9_floorMod_7cf53 15 = .ok (.iload_n 1, 1) := by decide +kernel
theorem dJ9_floorMod_7cf53_16 : decode cJ9_floorMod_7cf53 16 = .ok (.iadd, 1) := by decide +kernel
theorem dJ9_floorMod_7cf53_17 : decode cJ9_floorMod_7cf53 17 = .ok (.ireturn, 1) := by decide +kernel
theorem dJ9_floorMod_7cf53_18 : decode cJ9_floorMod_7cf53 18 = .ok (.iload_n 2, 1) := by decide +kernel
theorem dJ9_floorMod_7cf53_19 : decode cJ9_floorMod_7cf53 19 = .ok (.ireturn, 1) := by decide +kernel
theorem dJ9_floorMod_f86c9_0 : decode cJ9_floorMod_f86c9 0 = .ok (.lload_n 0, 1) := by decide +kernel
theorem dJ9_floorMod_f86c9_1 : decode cJ9_floorMod_f86c9 1 = .ok (.lload_n 2, 1) := by decide +kernel
theorem dJ9_floorMod_f86c9_2 : decode cJ9_floorMod_f86c9 2 = .ok (.lrem, 1) := by decide +kernel
theorem dJ9_floorMod_f86c9_3 : decode cJ9_floorMod_f86c9 3 = .ok (.lstore 4, 2) := by decide +kernel
theorem dJ9_floorMod_f86c9_5 : decode cJ9_floorMod_f86c9 5 = .ok (.lload_n 0, 1) := by decide +kernel
theorem dJ9_floorMod_f86c9_6 : decode cJ9_floorMod_f86c9 6 = .ok (.lload_n 2, 1) := by decide +kernel
theorem dJ9_floorMod_f86c9_7 : decode cJ9_floorMod_f86c9 7 = .ok (.lxor, 1) := by decide +kernel
theorem dJ9_floorMod_f86c9_8 : decode cJ9_floorMod_f86c9 8 = .ok (.lconst 0, 1) := by decide +kernel
theorem dJ9_floorMod_f86c9_9 : decode cJ9_floorMod_f86c9 9 = .ok (.lcmp, 1) := by decide +kernel
theorem dJ9_floorMod_f86c9_10 : decode cJ9_floorMod_f86c9 10 = .ok (.ifCond .ge 15, 3) := by decide +kernel
theorem dJ9_floorMod_f86c9_13 : decode cJ9_floorMod_f86c9 13 = .ok (.lload 4, 2) := by decide +kernel
theorem dJ9_floorMod_f86c9_15 : decode cJ9_floorMod_f86c9 15 = .ok (.lconst 0, 1) := by decide +kernel
theorem dJ9_floorMod_f86c9_16 : decode cJ9_floorMod_f86c9 16 = .ok (.lcmp, 1) := by decide +kernel
theorem dJ9_floorMod_f86c9_17 : decode cJ9_floorMod_f86c9 17 = .ok (.ifCond .eq 8, 3) := by decide +kernel
theorem dJ9_floorMod_f86c9_20 : decode cJ9_floorMod_f86c9 20 = .ok (.lload 4, 2) := by decide +kernel
theorem dJ9_floorMod_f86c9_22 : decode cJ9_floorMod_f86c9 22 = .ok (.lload_n 2, 1) := by decide +kernel
theorem dJ9_floorMod_f86c9_23 : decode cJ9_floorMod_f86c9 23 = .ok (.ladd, 1) := by decide +kernel
theorem dJ9_floorMod_f86c9_24 : decode cJ9_floorMod_f86c9 24 = .ok (.lreturn, 1) := by decide +kernel
theorem dJ9_floorMod_f86c9_25 : decode cJ9_floorMod_f86c9 25 = .ok (.lload 4, 2) := by decide +kernel
theorem dJ9_floorMod_f86c9_27 : decode cJ9_floorMod_f86c9 27 = .ok (.lreturn, 1) := by decide +kernel
theorem dJ9_abs_067f4_0 : decode cJ9_abs_067f4 0 = .ok (.lload_n 0, 1) := by decide +kernel
theorem dJ9_abs_067f4_1 : decode cJ9_abs_067f4 1 = .ok (.lconst 0, 1) := by decide +kernel
theorem dJ9_abs_067f4_2 : decode cJ9_abs_067f4 2 = .ok (.lcmp, 1) := by decide +kernel
theorem dJ9_abs_067f4_3 : decode cJ9_abs_067f4 3 = .ok (.ifCond .ge 8, 3) := by decide +kernel
theorem dJ9_abs_067f4_6 : decode cJ9_abs_067f4 6 = .ok (.lload_n 0, 1) := by decide +kernel
theorem dJ9_abs_067f4_7 : decode cJ9_abs_067f4 7 = .ok (.lneg, 1) := by decide +kernel
theorem dJ9_abs_067f4_8 : decode cJ9_abs_067f4 8 = .ok (.goto 4, 3) := by decide +kernel
theorem dJ9_abs_067f4_11 : decode cJ9_abs_067f4 11 = .ok (.lload_n 0, 1) := by decide +kernel
theorem dJ9_abs_067f4_12 : decode cJ9_abs_067f4 12 = .ok (.lreturn, 1) := by decide +kernel
theorem dJ13_compare_74951_0 : decode cJ13_compare_74951 0 = .ok (.lload_n 0, 1) := by decide +kernel
theorem dJ13_compare_74951_1 : decode cJ13_compare_74951 1 = .ok (.lload_n 2, 1) := by decide +kernel
theorem dJ13_compare_74951_2 : decode cJ13_compare_74951 2 = .ok (.lcmp, 1) := by decide +kernel
theorem dJ13_compare_74951_3 : decode cJ13_compare_74951 3 = .ok (.ifCond .ge 7, 3) := by decide +kernel
theorem dJ13_compare_74951_6 : decode cJ13_compare_74951 6 = .ok (.iconst (-1), 1) := by decide +kernel
theorem dJ13_compare_74951_7 : decode cJ13_compare_74951 7 = .ok (.goto 14, 3) := by decide +kernel
theorem dJ13_compare_74951_10 : decode cJ13_compare_74951 10 = .ok (.lload_n 0, 1) := by decide +kernel
theorem dJ13_compare_74951_11 : decode cJ13_compare_74951 11 = .ok (.lload_n 2, 1) := by decide +kernel
theorem dJ13_compare_74951_12 : decode cJ13_compare_74951 12 = .ok (.lcmp, 1) := by decide +kernel
theorem dJ13_compare_74951_13 : decode cJ13_compare_74951 13 = .ok (.ifCond .ne 7, 3) := by decide +kernel
theorem dJ13_compare_74951_16 : decode cJ13_compare_74951 16 = .ok (.iconst 0, 1) := by decide +kernel
theorem dJ13_compare_74951_17 : decode cJ13_compare_74951 17 = .ok (.goto 4, 3) := by decide +kernel
theorem dJ13_compare_74951_20 : decode cJ13_compare_74951 20 = .ok (.iconst 1, 1) := by decide +kernel
theorem dJ13_compare_74951_21 : decode cJ13_compare_74951 21 = .ok (.ireturn, 1) := by decide +kernel
end
section
theorem dX6_init_0 : decode cX6_init 0 = .ok (.aload_n 0, 1) := by decide +kernel
theorem dX6_init_1 : decode cX6_init 1 = .ok (.invokespecial 1, 3) := by decide +kernel
theorem dX6_init_4 : decode cX6_init 4 = .ok (.aload_n 0, 1) := by decide +kernel
theorem dX6_init_5 : decode cX6_init 5 = .ok (.bipush 6, 2) := by decide +kernel
theorem dX6_init_7 : decode cX6_init 7 = .ok (.anewarray 9, 3) := by decide +kernel
theorem dX6_init_10 : decode cX6_init 10 = .ok (.putfield 11, 3) := by decide +kernel
theorem dX6_init_13 : decode cX6_init 13 = .ok (.aload_n 0, 1) := by decide +kernel
theorem dX6_init_14 : decode cX6_init 14 = .ok (.bipush 60, 2) := by decide +kernel
theorem dX6_init_16 : decode cX6_init 16 = .ok (.anewarray 15, 3) := by decide +kernel
theorem dX6_init_19 : decode cX6_init 19 = .ok (.putfield 17, 3) := by decide +kernel
theorem dX6_init_22 : decode cX6_init 22 = .ok (.aload_n 0, 1) := by decide +kernel
theorem dX6_init_23 : decode cX6_init 23 = .ok (.iconst 0, 1) := by decide +kernel
theorem dX6_init_24 : decode cX6_init 24 = .ok (.putfield 21, 3) := by decide +kernel
theorem dX6_init_27 : decode cX6_init 27 = .ok (.aload_n 0, 1) := by decide +kernel
theorem dX6_init_28 : decode cX6_init 28 = .ok (.new 25, 3) := by decide +kernel
theorem dX6_init_31 : decode cX6_init 31 = .ok (.dup, 1) := by decide +kernel
theorem dX6_init_32 : decode cX6_init 32 = .ok (.invokespecial 27, 3) := by decide +kernel
theorem dX6_init_35 : decode cX6_init 35 = .ok (.putfield 28, 3) := by decide +kernel
theorem dX6_init_38 : decode cX6_init 38 = .ok (.aload_n 0, 1) := by decide +kernel
theorem dX6_init_39 : decode cX6_init 39 = .ok (.new 32, 3) := by decide +kernel
theorem dX6_init_42 : decode cX6_init 42 = .ok (.dup, 1) := by decide +kernel
theorem dX6_init_43 : decode cX6_init 43 = .ok (.invokespecial 34, 3) := by decide +kernel
theorem dX6_init_46 : decode cX6_init 46 = .ok (.putfield 35, 3) := by decide +kernel
theorem dX6_init_49 : decode cX6_init 49 = .ok (.aload_n 0, 1) := by decide +kernel
theorem dX6_init_50 : decode cX6_init 50 = .ok (.new 39, 3) := by decide +kernel
theorem dX6_init_53 : decode cX6_init 53 = .ok (.dup, 1) := by decide +kernel
theorem dX6_init_54 : decode cX6_init 54 = .ok (.invokespecial 41, 3) := by decide +kernel
theorem dX6_init_57 : decode cX6_init 57 = .ok (.putfield 42, 3) := by decide +kernel
theorem dX6_init_60 : decode cX6_init 60 = .ok (.aload_n 0, 1) := by decide +kernel
theorem dX6_init_61 : decode cX6_init 61 = .ok (.new 46, 3) := by decide +kernel
theorem dX6_init_64 : decode cX6_init 64 = .ok (.dup, 1) := by decide +kernel
theorem dX6_init_65 : decode cX6_init 65 = .ok (.invokespecial 48, 3) := by decide +kernel
theorem dX6_init_68 : decode cX6_init 68 = .ok (.putfield 49, 3) := by decide +kernel
theorem dX6_init_71 : decode cX6_init 71 = .ok (.aload_n 0, 1) := by decide +kernel
theorem dX6_init_72 : decode cX6_init 72 = .ok (.new 46, 3) := by decide +kernel
theorem dX6_init_75 : decode cX6_init 75 = .ok (.dup, 1) := by decide +kernel
theorem dX6_init_76 : decode cX6_init 76 = .ok (.invokespecial 48, 3) := by decide +kernel
theorem dX6_init_79 : decode cX6_init 79 = .ok (.putfield 53, 3) := by decide +kernel
theorem dX6_init_82 : decode cX6_init 82 = .ok (.iconst 0, 1) := by decide +kernel
theorem dX6_init_83 : decode cX6_init 83 = .ok (.istore_n 1, 1) := by decide +kernel
theorem dX6_init_84 : decode cX6_init 84 = .ok (.iload_n 1, 1) := by decide +kernel
theorem dX6_init_85 : decode cX6_init 85 = .ok (.bipush 6, 2) := by decide +kernel
theorem dX6_init_87 : decode cX6_init 87 = .ok (.if_icmp .ge 22, 3) := by decide +kernel
theorem dX6_init_90 : decode cX6_init 90 = .ok (.aload_n 0, 1) := by decide +kernel
theorem dX6_init_91 : decode cX6_init 91 = .ok (.getfield 11, 3) := by decide +kernel
theorem dX6_init_94 : decode cX6_init 94 = .ok (.iload_n 1, 1) := by decide +kernel
theorem dX6_init_95 : decode cX6_init 95 = .ok (.new 9, 3) := by decide +kernel
theorem dX6_init_98 : decode cX6_init 98 = .ok (.dup, 1) := by decide +kernel
theorem dX6_init_99 : decode cX6_init 99 = .ok (.invokespecial 56, 3) := by decide +kernel
theorem dX6_init_102 : decode cX6_init 102 = .ok (.aastore, 1) := by decide +kernel
theorem dX6_init_103 : decode cX6_init 103 = .ok (.iinc 1 1, 3) := by decide +kernel
theorem dX6_init_106 : decode cX6_init 106 = .ok (.goto (-22), 3) := by decide +kernel
theorem dX6_init_109 : decode cX6_init 109 = .ok (.iconst 0, 1) := by decide +kernel
theorem dX6_init_110 : decode cX6_init 110 = .ok (.istore_n 1, 1) := by decide +kernel
theorem dX6_init_111 : decode cX6_init 111 = .ok (.iload_n 1, 1) := by decide +kernel
theorem dX6_init_112 : decode cX6_init 112 = .ok (.bipush 60, 2) := by decide +kernel
theorem dX6_init_114 : decode cX6_init 114 = .ok (.if_icmp .ge 22, 3) := by decide +kernel
theorem dX6_init_117 : decode cX6_init 117 = .ok (.aload_n 0, 1) := by decide +kernel
theorem dX6_init_118 : decode cX6_init 118 = .ok (.getfield 17, 3) := by decide +kernel
theorem dX6_init_121 : decode cX6_init 121 = .ok (.iload_n 1, 1) := by decide +kernel
theorem dX6_init_122 : decode cX6_init 122 = .ok (.new 15, 3) := by decide +kernel
theorem dX6_init_125 : decode cX6_init 125 = .ok (.dup, 1) := by decide +kernel
theorem dX6_init_126 : decode cX6_init 126 = .ok (.invokespecial 57, 3) := by decide +kernel
theorem dX6_init_129 : decode cX6_init 129 = .ok (.aastore, 1) := by decide +kernel
theorem dX6_init_130 : decode cX6_init 130 = .ok (.iinc 1 1, 3) := by decide +kernel
theorem dX6_init_133 : decode cX6_init 133 = .ok (.goto (-22), 3) := by decide +kernel
theorem dX6_init_136 : decode cX6_init 136 = .ok (.return_, 1) := by decide +kernel
theorem dX6_bag_0 : decode cX6_bag 0 = .ok (.iload_n 1, 1) := by decide +kernel
theorem dX6_bag_1 : decode cX6_bag 1 = .ok (.invokestatic 58, 3) := by decide +kernel
theorem dX6_bag_4 : decode cX6_bag 4 = .ok (.ifCond .eq 13, 3) := by decide +kernel
theorem dX6_bag_7 : decode cX6_bag 7 = .ok (.iload_n 2, 1) := by decide +kernel
theorem dX6_bag_8 : decode cX6_bag 8 = .ok (.iconst (-1), 1) := by decide +kernel
theorem dX6_bag_9 : decode cX6_bag 9 = .ok (.if_icmp .lt 8, 3) := by decide +kernel
theorem dX6_bag_12 : decode cX6_bag 12 = .ok (.iload_n 2, 1) := by decide +kernel
theorem dX6_bag_13 : decode cX6_bag 13 = .ok (.iconst 2, 1) := by decide +kernel
theorem dX6_bag_14 : decode cX6_bag 14 = .ok (.if_icmp .le 5, 3) := by decide +kernel
theorem dX6_bag_17 : decode cX6_bag 17 = .ok (.iconst (-1), 1) := by decide +kernel
theorem dX6_bag_18 : decode cX6_bag 18 = .ok (.ireturn, 1) := by decide +kernel
theorem dX6_bag_19 : decode cX6_bag 19 = .ok (.iload_n 2, 1) := by decide +kernel
theorem dX6_bag_20 : decode cX6_bag 20 = .ok (.iconst (-1), 1) := by decide +kernel
theorem dX6_bag_21 : decode cX6_bag 21 = .ok (.if_icmp .ne 16, 3) := by decide +kernel
theorem dX6_bag_24 : decode cX6_bag 24 = .ok (.aload_n 0, 1) := by decide +kernel
theorem dX6_bag_25 : decode cX6_bag 25 = .ok (.getfield 11, 3) := by decide +kernel
theorem dX6_bag_28 : decode cX6_bag 28 = .ok (.iload_n 1, 1) := by decide +kernel
theorem dX6_bag_29 : decode cX6_bag 29 = .ok (.aaload, 1) := by decide +kernel
theorem dX6_bag_30 : decode cX6_bag 30 = .ok (.iconst (-1), 1) := by decide +kernel
theorem dX6_bag_31 : decode cX6_bag 31 = .ok (.iconst 0, 1) := by decide +kernel
theorem dX6_bag_32 : decode cX6_bag 32 = .ok (.invokevirtual 62, 3) := by decide +kernel
theorem dX6_bag_35 : decode cX6_bag 35 = .ok (.iconst 0, 1) := by decide +kernel
theorem dX6_bag_36 : decode cX6_bag 36 = .ok (.ireturn, 1) := by decide +kernel
theorem dX6_bag_37 : decode cX6_bag 37 = .ok (.iload_n 3, 1) := by decide +kernel
theorem dX6_bag_38 : decode cX6_bag 38 = .ok (.bipush 24, 2) := by decide +kernel
theorem dX6_bag_40 : decode cX6_bag 40 = .ok (.if_icmp .le 5, 3) := by decide +kernel
theorem dX6_bag_43 : decode cX6_bag 43 = .ok (.iconst (-1), 1) := by decide +kernel
theorem dX6_bag_44 : decode cX6_bag 44 = .ok (.ireturn, 1) := by decide +kernel
theorem dX6_bag_45 : decode cX6_bag 45 = .ok (.iload_n 3, 1) := by decide +kernel
theorem dX6_bag_46 : decode cX6_bag 46 = .ok (.ifCond .ge 6, 3) := by decide +kernel
theorem dX6_bag_49 : decode cX6_bag 49 = .ok (.bipush (-13), 2) := by decide +kernel
theorem dX6_bag_51 : decode cX6_bag 51 = .ok (.ireturn, 1) := by decide +kernel
theorem dX6_bag_52 : decode cX6_bag 52 = .ok (.aload_n 0, 1) := by decide +kernel
theorem dX6_bag_53 : decode cX6_bag 53 = .ok (.getfield 11, 3) := by decide +kernel
theorem dX6_bag_56 : decode cX6_bag 56 = .ok (.iload_n 1, 1) := by decide +kernel
theorem dX6_bag_57 : decode cX6_bag 57 = .ok (.aaload, 1) := by decide +kernel
theorem dX6_bag_58 : decode cX6_bag 58 = .ok (.iload_n 2, 1) := by decide +kernel
theorem dX6_bag_59 : decode cX6_bag 59 = .ok (.iload_n 3, 1) := by decide +kernel
theorem dX6_bag_60 : decode cX6_bag 60 = .ok (.invokevirtual 62, 3) := by decide +kernel
theorem dX6_bag_63 : decode cX6_bag 63 = .ok (.iconst 0, 1) := by decide +kernel
theorem dX6_bag_64 : decode cX6_bag 64 = .ok (.ireturn, 1) := by decide +kernel
theorem dX6_put_0 : decode cX6_put 0 = .ok (.aload_n 0, 1) := by decide +kernel
theorem dX6_put_1 : decode cX6_put 1 = .ok (.iload_n 1, 1) := by decide +kernel
theorem dX6_put_2 : decode cX6_put 2 = .ok (.iload_n 2, 1) := by decide +kernel
theorem dX6_put_3 : decode cX6_put 3 = .ok (.iconst 1, 1) := by decide +kernel
theorem dX6_put_4 : decode cX6_put 4 = .ok (.invokevirtual 66, 3) := by decide +kernel
theorem dX6_put_7 : decode cX6_put 7 = .ok (.istore 5, 2) := by decide +kernel
theorem dX6_put_9 : decode cX6_put 9 = .ok (.iload 5, 2) := by decide +kernel
theorem dX6_put_11 : decode cX6_put 11 = .ok (.ifCond .eq 6, 3) := by decide +kernel
theorem dX6_put_14 : decode cX6_put 14 = .ok (.iload 5, 2) := by decide +kernel
theorem dX6_put_16 : decode cX6_put 16 = .ok (.ireturn, 1) := by decide +kernel
theorem dX6_put_17 : decode cX6_put 17 = .ok (.aload_n 0, 1) := by decide +kernel
theorem dX6_put_18 : decode cX6_put 18 = .ok (.getfield 11, 3) := by decide +kernel
theorem dX6_put_21 : decode cX6_put 21 = .ok (.iload_n 1, 1) := by decide +kernel
theorem dX6_put_22 : decode cX6_put 22 = .ok (.aaload, 1) := by decide +kernel
theorem dX6_put_23 : decode cX6_put 23 = .ok (.iload_n 2, 1) := by decide +kernel
theorem dX6_put_24 : decode cX6_put 24 = .ok (.lload_n 3, 1) := by decide +kernel
theorem dX6_put_25 : decode cX6_put 25 = .ok (.invokevirtual 70, 3) := by decide +kernel
theorem dX6_put_28 : decode cX6_put 28 = .ok (.iconst 0, 1) := by decide +kernel
theorem dX6_put_29 : decode cX6_put 29 = .ok (.ireturn, 1) := by decide +kernel
theorem dX6_copy_0 : decode cX6_copy 0 = .ok (.iload_n 1, 1) := by decide +kernel
theorem dX6_copy_1 : decode cX6_copy 1 = .ok (.invokestatic 58, 3) := by decide +kernel
theorem dX6_copy_4 : decode cX6_copy 4 = .ok (.ifCond .eq 10, 3) := by decide +kernel
theorem dX6_copy_7 : decode cX6_copy 7 = .ok (.iload_n 3, 1) := by decide +kernel
theorem dX6_copy_8 : decode cX6_copy 8 = .ok (.invokestatic 58, 3) := by decide +kernel
theorem dX6_copy_11 : decode cX6_copy 11 = .ok (.ifCond .ne 5, 3) := by decide +kernel
theorem dX6_copy_14 : decode cX6_copy 14 = .ok (.iconst (-1), 1) := by decide +kernel
theorem dX6_copy_15 : decode cX6_copy 15 = .ok (.ireturn, 1) := by decide +kernel
theorem dX6_copy_16 : decode cX6_copy 16 = .ok (.aload_n 0, 1) := by decide +kernel
theorem dX6_copy_17 : decode cX6_copy 17 = .ok (.getfield 11, 3) := by decide +kernel
theorem dX6_copy_20 : decode cX6_copy 20 = .ok (.iload_n 1, 1) := by decide +kernel
theorem dX6_copy_21 : decode cX6_copy 21 = .ok (.aaload, 1) := by decide +kernel
theorem dX6_copy_22 : decode cX6_copy 22 = .ok (.astore 6, 2) := by decide +kernel
theorem dX6_copy_24 : decode cX6_copy 24 = .ok (.aload_n 0, 1) := by decide +kernel
theorem dX6_copy_25 : decode cX6_copy 25 = .ok (.getfield 11, 3) := by decide +kernel
theorem dX6_copy_28 : decode cX6_copy 28 = .ok (.iload_n 3, 1) := by decide +kernel
theorem dX6_copy_29 : decode cX6_copy 29 = .ok (.aaload, 1) := by decide +kernel
theorem dX6_copy_30 : decode cX6_copy 30 = .ok (.astore 7, 2) := by decide +kernel
theorem dX6_copy_32 : decode cX6_copy 32 = .ok (.aload 6, 2) := by decide +kernel
theorem dX6_copy_34 : decode cX6_copy 34 = .ok (.getfield 74, 3) := by decide +kernel
theorem dX6_copy_37 : decode cX6_copy 37 = .ok (.iconst (-1), 1) := by decide +kernel
theorem dX6_copy_38 : decode cX6_copy 38 = .ok (.if_icmp .eq 12, 3) := by decide +kernel
theorem dX6_copy_41 : decode cX6_copy 41 = .ok (.aload 7, 2) := by decide +kernel
theorem dX6_copy_43 : decode cX6_copy 43 = .ok (.getfield 74, 3) := by decide +kernel
theorem dX6_copy_46 : decode cX6_copy 46 = .ok (.iconst (-1), 1) := by decide +kernel
theorem dX6_copy_47 : decode cX6_copy 47 = .ok (.if_icmp .ne 6, 3) := by decide +kernel
theorem dX6_copy_50 : decode cX6_copy 50 = .ok (.bipush (-11), 2) := by decide +kernel
theorem dX6_copy_52 : decode cX6_copy 52 = .ok (.ireturn, 1) := by decide +kernel
theorem dX6_copy_53 : decode cX6_copy 53 = .ok (.aload 6, 2) := by decide +kernel
theorem dX6_copy_55 : decode cX6_copy 55 = .ok (.getfield 74, 3) := by decide +kernel
theorem dX6_copy_58 : decode cX6_copy 58 = .ok (.aload 7, 2) := by decide +kernel
theorem dX6_copy_60 : decode cX6_copy 60 = .ok (.getfield 74, 3) := by decide +kernel
theorem dX6_copy_63 : decode cX6_copy 63 = .ok (.if_icmp .eq 6, 3) := by decide +kernel
theorem dX6_copy_66 : decode cX6_copy 66 = .ok (.bipush (-14), 2) := by decide +kernel
theorem dX6_copy_68 : decode cX6_copy 68 = .ok (.ireturn, 1) := by decide +kernel
theorem dX6_copy_69 : decode cX6_copy 69 = .ok (.aload 6, 2) := by decide +kernel
theorem dX6_copy_71 : decode cX6_copy 71 = .ok (.iload_n 2, 1) := by decide +kernel
theorem dX6_copy_72 : decode cX6_copy 72 = .ok (.iload 5, 2) := by decide +kernel
theorem dX6_copy_74 : decode cX6_copy 74 = .ok (.invokevirtual 77, 3) := by decide +kernel
theorem dX6_copy_77 : decode cX6_copy 77 = .ok (.ifCond .eq 15, 3) := by decide +kernel
theorem dX6_copy_80 : decode cX6_copy 80 = .ok (.aload 7, 2) := by decide +kernel
theorem dX6_copy_82 : decode cX6_copy 82 = .ok (.iload 4, 2) := by decide +kernel
theorem dX6_copy_84 : decode cX6_copy 84 = .ok (.iload 5, 2) := by decide +kernel
theorem dX6_copy_86 : decode cX6_copy 86 = .ok (.invokevirtual 77, 3) := by decide +kernel
theorem dX6_copy_89 : decode cX6_copy 89 = .ok (.ifCond .ne 6, 3) := by decide +kernel
theorem dX6_copy_92 : decode cX6_copy 92 = .ok (.bipush (-12), 2) := by decide +kernel
theorem dX6_copy_94 : decode cX6_copy 94 = .ok (.ireturn, 1) := by decide +kernel
theorem dX6_copy_95 : decode cX6_copy 95 = .ok (.aload 6, 2) := by decide +kernel
theorem dX6_copy_97 : decode cX6_copy 97 = .ok (.getfield 81, 3) := by decide +kernel
theorem dX6_copy_100 : decode cX6_copy 100 = .ok (.iload_n 2, 1) := by decide +kernel
theorem dX6_copy_101 : decode cX6_copy 101 = .ok (.aload 7, 2) := by decide +kernel
theorem dX6_copy_103 : decode cX6_copy 103 = .ok (.getfield 81, 3) := by decide +kernel
theorem dX6_copy_106 : decode cX6_copy 106 = .ok (.iload 4, 2) := by decide +kernel
theorem dX6_copy_108 : decode cX6_copy 108 = .ok (.iload 5, 2) := by decide +kernel
theorem dX6_copy_110 : decode cX6_copy 110 = .ok (.invokestatic 85, 3) := by decide +kernel
theorem dX6_copy_113 : decode cX6_copy 113 = .ok (.iconst 0, 1) := by decide +kernel
theorem dX6_copy_114 : decode cX6_copy 114 = .ok (.ireturn, 1) := by decide +kernel
theorem dX6_holds_0 : decode cX6_holds 0 = .ok (.aload_n 0, 1) := by decide +kernel
theorem dX6_holds_1 : decode cX6_holds 1 = .ok (.iload_n 1, 1) := by decide +kernel
theorem dX6_holds_2 : decode cX6_holds 2 = .ok (.iload_n 2, 1) := by decide +kernel
theorem dX6_holds_3 : decode cX6_holds 3 = .ok (.iconst 1, 1) := by decide +kernel
theorem dX6_holds_4 : decode cX6_holds 4 = .ok (.invokevirtual 66, 3) := by decide +kernel
theorem dX6_holds_7 : decode cX6_holds 7 = .ok (.istore 5, 2) := by decide +kernel
theorem dX6_holds_9 : decode cX6_holds 9 = .ok (.iload 5, 2) := by decide +kernel
theorem dX6_holds_11 : decode cX6_holds 11 = .ok (.ifCond .eq 6, 3) := by decide +kernel
theorem dX6_holds_14 : decode cX6_holds 14 = .ok (.iload 5, 2) := by decide +kernel
theorem dX6_holds_16 : decode cX6_holds 16 = .ok (.ireturn, 1) := by decide +kernel
theorem dX6_holds_17 : decode cX6_holds 17 = .ok (.aload_n 0, 1) := by decide +kernel
theorem dX6_holds_18 : decode cX6_holds 18 = .ok (.getfield 11, 3) := by decide +kernel
theorem dX6_holds_21 : decode cX6_holds 21 = .ok (.iload_n 1, 1) := by decide +kernel
theorem dX6_holds_22 : decode cX6_holds 22 = .ok (.aaload, 1) := by decide +kernel
theorem dX6_holds_23 : decode cX6_holds 23 = .ok (.getfield 81, 3) := by decide +kernel
theorem dX6_holds_26 : decode cX6_holds 26 = .ok (.iload_n 2, 1) := by decide +kernel
theorem dX6_holds_27 : decode cX6_holds 27 = .ok (.laload, 1) := by decide +kernel
theorem dX6_holds_28 : decode cX6_holds 28 = .ok (.lload_n 3, 1) := by decide +kernel
theorem dX6_holds_29 : decode cX6_holds 29 = .ok (.lcmp, 1) := by decide +kernel
theorem dX6_holds_30 : decode cX6_holds 30 = .ok (.ifCond .ne 7, 3) := by decide +kernel
theorem dX6_holds_33 : decode cX6_holds 33 = .ok (.iconst 1, 1) := by decide +kernel
theorem dX6_holds_34 : decode cX6_holds 34 = .ok (.goto 4, 3) := by decide +kernel
theorem dX6_holds_37 : decode cX6_holds 37 = .ok (.iconst 0, 1) := by decide +kernel
theorem dX6_holds_38 : decode cX6_holds 38 = .ok (.ireturn, 1) := by decide +kernel
theorem dX6_quad_0 : decode cX6_quad 0 = .ok (.aload_n 0, 1) := by decide +kernel
theorem dX6_quad_1 : decode cX6_quad 1 = .ok (.iload_n 1, 1) := by decide +kernel
theorem dX6_quad_2 : decode cX6_quad 2 = .ok (.iload_n 2, 1) := by decide +kernel
theorem dX6_quad_3 : decode cX6_quad 3 = .ok (.bipush 12, 2) := by decide +kernel
theorem dX6_quad_5 : decode cX6_quad 5 = .ok (.invokevirtual 66, 3) := by decide +kernel
theorem dX6_quad_8 : decode cX6_quad 8 = .ok (.istore_n 3, 1) := by decide +kernel
theorem dX6_quad_9 : decode cX6_quad 9 = .ok (.iload_n 3, 1) := by decide +kernel
theorem dX6_quad_10 : decode cX6_quad 10 = .ok (.ifCond .eq 5, 3) := by decide +kernel
theorem dX6_quad_13 : decode cX6_quad 13 = .ok (.iload_n 3, 1) := by decide +kernel
theorem dX6_quad_14 : decode cX6_quad 14 = .ok (.ireturn, 1) := by decide +kernel
theorem dX6_quad_15 : decode cX6_quad 15 = .ok (.aload_n 0, 1) := by decide +kernel
theorem dX6_quad_16 : decode cX6_quad 16 = .ok (.getfield 11, 3) := by decide +kernel
theorem dX6_quad_19 : decode cX6_quad 19 = .ok (.iload_n 1, 1) := by decide +kernel
theorem dX6_quad_20 : decode cX6_quad 20 = .ok (.aaload, 1) := by decide +kernel
theorem dX6_quad_21 : decode cX6_quad 21 = .ok (.getfield 81, 3) := by decide +kernel
theorem dX6_quad_24 : decode cX6_quad 24 = .ok (.iload_n 2, 1) := by decide +kernel
theorem dX6_quad_25 : decode cX6_quad 25 = .ok (.aload_n 0, 1) := by decide +kernel
theorem dX6_quad_26 : decode cX6_quad 26 = .ok (.getfield 28, 3) := by decide +kernel
theorem dX6_quad_29 : decode cX6_quad 29 = .ok (.getfield 91, 3) := by decide +kernel
theorem dX6_quad_32 : decode cX6_quad 32 = .ok (.iconst 0, 1) := by decide +kernel
theorem dX6_quad_33 : decode cX6_quad 33 = .ok (.bipush 12, 2) := by decide +kernel
theorem dX6_quad_35 : decode cX6_quad 35 = .ok (.invokestatic 85, 3) := by decide +kernel
theorem dX6_quad_38 : decode cX6_quad 38 = .ok (.aload_n 0, 1) := by decide +kernel
theorem dX6_quad_39 : decode cX6_quad 39 = .ok (.getfield 28, 3) := by decide +kernel
theorem dX6_quad_42 : decode cX6_quad 42 = .ok (.invokevirtual 94, 3) := by decide +kernel
theorem dX6_quad_45 : decode cX6_quad 45 = .ok (.istore_n 3, 1) := by decide +kernel
theorem dX6_quad_46 : decode cX6_quad 46 = .ok (.iload_n 3, 1) := by decide +kernel
theorem dX6_quad_47 : decode cX6_quad 47 = .ok (.ifCond .eq 5, 3) := by decide +kernel
theorem dX6_quad_50 : decode cX6_quad 50 = .ok (.iload_n 3, 1) := by decide +kernel
theorem dX6_quad_51 : decode cX6_quad 51 = .ok (.ireturn, 1) := by decide +kernel
theorem dX6_quad_52 : decode cX6_quad 52 = .ok (.aload_n 0, 1) := by decide +kernel
theorem dX6_quad_53 : decode cX6_quad 53 = .ok (.getfield 21, 3) := by decide +kernel
theorem dX6_quad_56 : decode cX6_quad 56 = .ok (.bipush 60, 2) := by decide +kernel
theorem dX6_quad_58 : decode cX6_quad 58 = .ok (.if_icmp .lt 6, 3) := by decide +kernel
theorem dX6_quad_61 : decode cX6_quad 61 = .ok (.bipush (-2), 2) := by decide +kernel
theorem dX6_quad_63 : decode cX6_quad 63 = .ok (.ireturn, 1) := by decide +kernel
theorem dX6_quad_64 : decode cX6_quad 64 = .ok (.aload_n 0, 1) := by decide +kernel
theorem dX6_quad_65 : decode cX6_quad 65 = .ok (.bipush (-3), 2) := by decide +kernel
theorem dX6_quad_67 : decode cX6_quad 67 = .ok (.aload_n 0, 1) := by decide +kernel
theorem dX6_quad_68 : decode cX6_quad 68 = .ok (.getfield 35, 3) := by decide +kernel
theorem dX6_quad_71 : decode cX6_quad 71 = .ok (.aload_n 0, 1) := by decide +kernel
theorem dX6_quad_72 : decode cX6_quad 72 = .ok (.getfield 28, 3) := by decide +kernel
theorem dX6_quad_75 : decode cX6_quad 75 = .ok (.invokevirtual 98, 3) := by decide +kernel
theorem dX6_quad_78 : decode cX6_quad 78 = .ok (.invokevirtual 102, 3) := by decide +kernel
theorem dX6_quad_81 : decode cX6_quad 81 = .ok (.ireturn, 1) := by decide +kernel
theorem dX6_swap_0 : decode cX6_swap 0 = .ok (.aload_n 0, 1) := by decide +kernel
theorem dX6_swap_1 : decode cX6_swap 1 = .ok (.iload_n 1, 1) := by decide +kernel
theorem dX6_swap_2 : decode cX6_swap 2 = .ok (.invokevirtual 106, 3) := by decide +kernel
theorem dX6_swap_5 : decode cX6_swap 5 = .ok (.ifCond .eq 10, 3) := by decide +kernel
theorem dX6_swap_8 : decode cX6_swap 8 = .ok (.iload_n 2, 1) := by decide +kernel
theorem dX6_swap_9 : decode cX6_swap 9 = .ok (.invokestatic 109, 3) := by decide +kernel
theorem dX6_swap_12 : decode cX6_swap 12 = .ok (.ifCond .ne 5, 3) := by decide +kernel
theorem dX6_swap_15 : decode cX6_swap 15 = .ok (.iconst (-1), 1) := by decide +kernel
theorem dX6_swap_16 : decode cX6_swap 16 = .ok (.ireturn, 1) := by decide +kernel
theorem dX6_swap_17 : decode cX6_swap 17 = .ok (.aload_n 0, 1) := by decide +kernel
theorem dX6_swap_18 : decode cX6_swap 18 = .ok (.getfield 28, 3) := by decide +kernel
theorem dX6_swap_21 : decode cX6_swap 21 = .ok (.aload_n 0, 1) := by decide +kernel
theorem dX6_swap_22 : decode cX6_swap 22 = .ok (.getfield 17, 3) := by decide +kernel
theorem dX6_swap_25 : decode cX6_swap 25 = .ok (.iload_n 1, 1) := by decide +kernel
theorem dX6_swap_26 : decode cX6_swap 26 = .ok (.aaload, 1) := by decide +kernel
theorem dX6_swap_27 : decode cX6_swap 27 = .ok (.getfield 112, 3) := by decide +kernel
theorem dX6_swap_30 : decode cX6_swap 30 = .ok (.invokevirtual 115, 3) := by decide +kernel
theorem dX6_swap_33 : decode cX6_swap 33 = .ok (.aload_n 0, 1) := by decide +kernel
theorem dX6_swap_34 : decode cX6_swap 34 = .ok (.getfield 28, 3) := by decide +kernel
theorem dX6_swap_37 : decode cX6_swap 37 = .ok (.iload_n 2, 1) := by decide +kernel
theorem dX6_swap_38 : decode cX6_swap 38 = .ok (.invokevirtual 119, 3) := by decide +kernel
theorem dX6_swap_41 : decode cX6_swap 41 = .ok (.aload_n 0, 1) := by decide +kernel
theorem dX6_swap_42 : decode cX6_swap 42 = .ok (.getfield 28, 3) := by decide +kernel
theorem dX6_swap_45 : decode cX6_swap 45 = .ok (.iload_n 2, 1) := by decide +kernel
theorem dX6_swap_46 : decode cX6_swap 46 = .ok (.invokevirtual 123, 3) := by decide +kernel
theorem dX6_swap_49 : decode cX6_swap 49 = .ok (.istore_n 3, 1) := by decide +kernel
theorem dX6_swap_50 : decode cX6_swap 50 = .ok (.iload_n 3, 1) := by decide +kernel
theorem dX6_swap_51 : decode cX6_swap 51 = .ok (.ifCond .eq 5, 3) := by decide +kernel
theorem dX6_swap_54 : decode cX6_swap 54 = .ok (.iload_n 3, 1) := by decide +kernel
theorem dX6_swap_55 : decode cX6_swap 55 = .ok (.ireturn, 1) := by decide +kernel
theorem dX6_swap_56 : decode cX6_swap 56 = .ok (.aload_n 0, 1) := by decide +kernel
theorem dX6_swap_57 : decode cX6_swap 57 = .ok (.getfield 21, 3) := by decide +kernel
theorem dX6_swap_60 : decode cX6_swap 60 = .ok (.bipush 60, 2) := by decide +kernel
theorem dX6_swap_62 : decode cX6_swap 62 = .ok (.if_icmp .lt 6, 3) := by decide +kernel
theorem dX6_swap_65 : decode cX6_swap 65 = .ok (.bipush (-2), 2) := by decide +kernel
theorem dX6_swap_67 : decode cX6_swap 67 = .ok (.ireturn, 1) := by decide +kernel
theorem dX6_swap_68 : decode cX6_swap 68 = .ok (.aload_n 0, 1) := by decide +kernel
theorem dX6_swap_69 : decode cX6_swap 69 = .ok (.iload_n 1, 1) := by decide +kernel
theorem dX6_swap_70 : decode cX6_swap 70 = .ok (.aload_n 0, 1) := by decide +kernel
theorem dX6_swap_71 : decode cX6_swap 71 = .ok (.getfield 17, 3) := by decide +kernel
theorem dX6_swap_74 : decode cX6_swap 74 = .ok (.iload_n 1, 1) := by decide +kernel
theorem dX6_swap_75 : decode cX6_swap 75 = .ok (.aaload, 1) := by decide +kernel
theorem dX6_swap_76 : decode cX6_swap 76 = .ok (.getfield 127, 3) := by decide +kernel
theorem dX6_swap_79 : decode cX6_swap 79 = .ok (.invokevirtual 102, 3) := by decide +kernel
theorem dX6_swap_82 : decode cX6_swap 82 = .ok (.ireturn, 1) := by decide +kernel
theorem dX6_coin_0 : decode cX6_coin 0 = .ok (.aload_n 0, 1) := by decide +kernel
theorem dX6_coin_1 : decode cX6_coin 1 = .ok (.iload_n 1, 1) := by decide +kernel
theorem dX6_coin_2 : decode cX6_coin 2 = .ok (.invokevirtual 106, 3) := by decide +kernel
theorem dX6_coin_5 : decode cX6_coin 5 = .ok (.ifCond .eq 17, 3) := by decide +kernel
theorem dX6_coin_8 : decode cX6_coin 8 = .ok (.iload_n 2, 1) := by decide +kernel
theorem dX6_coin_9 : decode cX6_coin 9 = .ok (.invokestatic 109, 3) := by decide +kernel
theorem dX6_coin_12 : decode cX6_coin 12 = .ok (.ifCond .eq 10, 3) := by decide +kernel
theorem dX6_coin_15 : decode cX6_coin 15 = .ok (.iload_n 3, 1) := by decide +kernel
theorem dX6_coin_16 : decode cX6_coin 16 = .ok (.invokestatic 130, 3) := by decide +kernel
theorem dX6_coin_19 : decode cX6_coin 19 = .ok (.ifCond .ne 6, 3) := by decide +kernel
theorem dX6_coin_22 : decode cX6_coin 22 = .ok (.ldc 133, 2) := by decide +kernel
theorem dX6_coin_24 : decode cX6_coin 24 = .ok (.ireturn, 1) := by decide +kernel
theorem dX6_coin_25 : decode cX6_coin 25 = .ok (.aload_n 0, 1) := by decide +kernel
theorem dX6_coin_26 : decode cX6_coin 26 = .ok (.getfield 17, 3) := by decide +kernel
theorem dX6_coin_29 : decode cX6_coin 29 = .ok (.iload_n 1, 1) := by decide +kernel
theorem dX6_coin_30 : decode cX6_coin 30 = .ok (.aaload, 1) := by decide +kernel
theorem dX6_coin_31 : decode cX6_coin 31 = .ok (.getfield 112, 3) := by decide +kernel
theorem dX6_coin_34 : decode cX6_coin 34 = .ok (.iload_n 2, 1) := by decide +kernel
theorem dX6_coin_35 : decode cX6_coin 35 = .ok (.iload_n 3, 1) := by decide +kernel
theorem dX6_coin_36 : decode cX6_coin 36 = .ok (.invokevirtual 134, 3) := by decide +kernel
theorem dX6_coin_39 : decode cX6_coin 39 = .ok (.l2i, 1) := by decide +kernel
theorem dX6_coin_40 : decode cX6_coin 40 = .ok (.ireturn, 1) := by decide +kernel
theorem dX6_from_0 : decode cX6_from 0 = .ok (.aload_n 0, 1) := by decide +kernel
theorem dX6_from_1 : decode cX6_from 1 = .ok (.iload_n 1, 1) := by decide +kernel
theorem dX6_from_2 : decode cX6_from 2 = .ok (.invokevirtual 106, 3) := by decide +kernel
theorem dX6_from_5 : decode cX6_from 5 = .ok (.ifCond .eq 15, 3) := by decide +kernel
theorem dX6_from_8 : decode cX6_from 8 = .ok (.aload_n 0, 1) := by decide +kernel
theorem dX6_from_9 : decode cX6_from 9 = .ok (.getfield 17, 3) := by decide +kernel
theorem dX6_from_12 : decode cX6_from 12 = .ok (.iload_n 1, 1) := by decide +kernel
theorem dX6_from_13 : decode cX6_from 13 = .ok (.aaload, 1) := by decide +kernel
theorem dX6_from_14 : decode cX6_from 14 = .ok (.getfield 138, 3) := by decide +kernel
theorem dX6_from_17 : decode cX6_from 17 = .ok (.goto 4, 3) := by decide +kernel
theorem dX6_from_20 : decode cX6_from 20 = .ok (.iconst (-1), 1) := by decide +kernel
theorem dX6_from_21 : decode cX6_from 21 = .ok (.ireturn, 1) := by decide +kernel
theorem dX6_steps_0 : decode cX6_steps 0 = .ok (.aload_n 0, 1) := by decide +kernel
theorem dX6_steps_1 : decode cX6_steps 1 = .ok (.iload_n 1, 1) := by decide +kernel
theorem dX6_steps_2 : decode cX6_steps 2 = .ok (.invokevirtual 106, 3) := by decide +kernel
theorem dX6_steps_5 : decode cX6_steps 5 = .ok (.ifCond .eq 15, 3) := by decide +kernel
theorem dX6_steps_8 : decode cX6_steps 8 = .ok (.aload_n 0, 1) := by decide +kernel
theorem dX6_steps_9 : decode cX6_steps 9 = .ok (.getfield 17, 3) := by decide +kernel
theorem dX6_steps_12 : decode cX6_steps 12 = .ok (.iload_n 1, 1) := by decide +kernel
theorem dX6_steps_13 : decode cX6_steps 13 = .ok (.aaload, 1) := by decide +kernel
theorem dX6_steps_14 : decode cX6_steps 14 = .ok (.getfield 141, 3) := by decide +kernel
theorem dX6_steps_17 : decode cX6_steps 17 = .ok (.goto 4, 3) := by decide +kernel
theorem dX6_steps_20 : decode cX6_steps 20 = .ok (.iconst (-1), 1) := by decide +kernel
theorem dX6_steps_21 : decode cX6_steps 21 = .ok (.ireturn, 1) := by decide +kernel
theorem dX6_step_0 : decode cX6_step 0 = .ok (.aload_n 0, 1) := by decide +kernel
theorem dX6_step_1 : decode cX6_step 1 = .ok (.iload_n 1, 1) := by decide +kernel
theorem dX6_step_2 : decode cX6_step 2 = .ok (.invokevirtual 106, 3) := by decide +kernel
theorem dX6_step_5 : decode cX6_step 5 = .ok (.ifCond .eq 7, 3) := by decide +kernel
theorem dX6_step_8 : decode cX6_step 8 = .ok (.iload_n 2, 1) := by decide +kernel
theorem dX6_step_9 : decode cX6_step 9 = .ok (.ifCond .ge 5, 3) := by decide +kernel
theorem dX6_step_12 : decode cX6_step 12 = .ok (.iconst (-1), 1) := by decide +kernel
theorem dX6_step_13 : decode cX6_step 13 = .ok (.ireturn, 1) := by decide +kernel
theorem dX6_step_14 : decode cX6_step 14 = .ok (.iload_n 2, 1) := by decide +kernel
theorem dX6_step_15 : decode cX6_step 15 = .ok (.aload_n 0, 1) := by decide +kernel
theorem dX6_step_16 : decode cX6_step 16 = .ok (.getfield 17, 3) := by decide +kernel
theorem dX6_step_19 : decode cX6_step 19 = .ok (.iload_n 1, 1) := by decide +kernel
theorem dX6_step_20 : decode cX6_step 20 = .ok (.aaload, 1) := by decide +kernel
theorem dX6_step_21 : decode cX6_step 21 = .ok (.getfield 141, 3) := by decide +kernel
theorem dX6_step_24 : decode cX6_step 24 = .ok (.if_icmp .lt 6, 3) := by decide +kernel
theorem dX6_step_27 : decode cX6_step 27 = .ok (.bipush (-3), 2) := by decide +kernel
theorem dX6_step_29 : decode cX6_step 29 = .ok (.ireturn, 1) := by decide +kernel
theorem dX6_step_30 : decode cX6_step 30 = .ok (.aload_n 0, 1) := by decide +kernel
theorem dX6_step_31 : decode cX6_step 31 = .ok (.getfield 28, 3) := by decide +kernel
theorem dX6_step_34 : decode cX6_step 34 = .ok (.aload_n 0, 1) := by decide +kernel
theorem dX6_step_35 : decode cX6_step 35 = .ok (.getfield 17, 3) := by decide +kernel
theorem dX6_step_38 : decode cX6_step 38 = .ok (.iload_n 1, 1) := by decide +kernel
theorem dX6_step_39 : decode cX6_step 39 = .ok (.aaload, 1) := by decide +kernel
theorem dX6_step_40 : decode cX6_step 40 = .ok (.getfield 112, 3) := by decide +kernel
theorem dX6_step_43 : decode cX6_step 43 = .ok (.invokevirtual 115, 3) := by decide +kernel
theorem dX6_step_46 : decode cX6_step 46 = .ok (.aload_n 0, 1) := by decide +kernel
theorem dX6_step_47 : decode cX6_step 47 = .ok (.getfield 28, 3) := by decide +kernel
theorem dX6_step_50 : decode cX6_step 50 = .ok (.iload_n 2, 1) := by decide +kernel
theorem dX6_step_51 : decode cX6_step 51 = .ok (.invokevirtual 144, 3) := by decide +kernel
theorem dX6_step_54 : decode cX6_step 54 = .ok (.pop, 1) := by decide +kernel
theorem dX6_step_55 : decode cX6_step 55 = .ok (.aload_n 0, 1) := by decide +kernel
theorem dX6_step_56 : decode cX6_step 56 = .ok (.getfield 28, 3) := by decide +kernel
theorem dX6_step_59 : decode cX6_step 59 = .ok (.invokevirtual 147, 3) := by decide +kernel
theorem dX6_step_62 : decode cX6_step 62 = .ok (.ireturn, 1) := by decide +kernel
theorem dX6_root_0 : decode cX6_root 0 = .ok (.aload_n 0, 1) := by decide +kernel
theorem dX6_root_1 : decode cX6_root 1 = .ok (.iload_n 1, 1) := by decide +kernel
theorem dX6_root_2 : decode cX6_root 2 = .ok (.invokevirtual 106, 3) := by decide +kernel
theorem dX6_root_5 : decode cX6_root 5 = .ok (.ifCond .eq 17, 3) := by decide +kernel
theorem dX6_root_8 : decode cX6_root 8 = .ok (.iload_n 2, 1) := by decide +kernel
theorem dX6_root_9 : decode cX6_root 9 = .ok (.invokestatic 109, 3) := by decide +kernel
theorem dX6_root_12 : decode cX6_root 12 = .ok (.ifCond .eq 10, 3) := by decide +kernel
theorem dX6_root_15 : decode cX6_root 15 = .ok (.iload_n 3, 1) := by decide +kernel
theorem dX6_root_16 : decode cX6_root 16 = .ok (.invokestatic 130, 3) := by decide +kernel
theorem dX6_root_19 : decode cX6_root 19 = .ok (.ifCond .ne 6, 3) := by decide +kernel
theorem dX6_root_22 : decode cX6_root 22 = .ok (.ldc 133, 2) := by decide +kernel
theorem dX6_root_24 : decode cX6_root 24 = .ok (.ireturn, 1) := by decide +kernel
theorem dX6_root_25 : decode cX6_root 25 = .ok (.aload_n 0, 1) := by decide +kernel
theorem dX6_root_26 : decode cX6_root 26 = .ok (.getfield 17, 3) := by decide +kernel
theorem dX6_root_29 : decode cX6_root 29 = .ok (.iload_n 1, 1) := by decide +kernel
theorem dX6_root_30 : decode cX6_root 30 = .ok (.aaload, 1) := by decide +kernel
theorem dX6_root_31 : decode cX6_root 31 = .ok (.getfield 150, 3) := by decide +kernel
theorem dX6_root_34 : decode cX6_root 34 = .ok (.iload_n 2, 1) := by decide +kernel
theorem dX6_root_35 : decode cX6_root 35 = .ok (.iload_n 3, 1) := by decide +kernel
theorem dX6_root_36 : decode cX6_root 36 = .ok (.invokevirtual 134, 3) := by decide +kernel
theorem dX6_root_39 : decode cX6_root 39 = .ok (.l2i, 1) := by decide +kernel
theorem dX6_root_40 : decode cX6_root 40 = .ok (.ireturn, 1) := by decide +kernel
theorem dX6_same_0 : decode cX6_same 0 = .ok (.aload_n 0, 1) := by decide +kernel
theorem dX6_same_1 : decode cX6_same 1 = .ok (.iload_n 1, 1) := by decide +kernel
theorem dX6_same_2 : decode cX6_same 2 = .ok (.invokevirtual 106, 3) := by decide +kernel
theorem dX6_same_5 : decode cX6_same 5 = .ok (.ifCond .eq 11, 3) := by decide +kernel
theorem dX6_same_8 : decode cX6_same 8 = .ok (.aload_n 0, 1) := by decide +kernel
theorem dX6_same_9 : decode cX6_same 9 = .ok (.iload_n 2, 1) := by decide +kernel
theorem dX6_same_10 : decode cX6_same 10 = .ok (.invokevirtual 106, 3) := by decide +kernel
theorem dX6_same_13 : decode cX6_same 13 = .ok (.ifCond .ne 5, 3) := by decide +kernel
theorem dX6_same_16 : decode cX6_same 16 = .ok (.iconst (-1), 1) := by decide +kernel
theorem dX6_same_17 : decode cX6_same 17 = .ok (.ireturn, 1) := by decide +kernel
theorem dX6_same_18 : decode cX6_same 18 = .ok (.aload_n 0, 1) := by decide +kernel
theorem dX6_same_19 : decode cX6_same 19 = .ok (.getfield 17, 3) := by decide +kernel
theorem dX6_same_22 : decode cX6_same 22 = .ok (.iload_n 1, 1) := by decide +kernel
theorem dX6_same_23 : decode cX6_same 23 = .ok (.aaload, 1) := by decide +kernel
theorem dX6_same_24 : decode cX6_same 24 = .ok (.getfield 150, 3) := by decide +kernel
theorem dX6_same_27 : decode cX6_same 27 = .ok (.aload_n 0, 1) := by decide +kernel
theorem dX6_same_28 : decode cX6_same 28 = .ok (.getfield 17, 3) := by decide +kernel
theorem dX6_same_31 : decode cX6_same 31 = .ok (.iload_n 2, 1) := by decide +kernel
theorem dX6_same_32 : decode cX6_same 32 = .ok (.aaload, 1) := by decide +kernel
theorem dX6_same_33 : decode cX6_same 33 = .ok (.getfield 150, 3) := by decide +kernel
theorem dX6_same_36 : decode cX6_same 36 = .ok (.invokevirtual 153, 3) := by decide +kernel
theorem dX6_same_39 : decode cX6_same 39 = .ok (.ifCond .eq 7, 3) := by decide +kernel
theorem dX6_same_42 : decode cX6_same 42 = .ok (.iconst 1, 1) := by decide +kernel
theorem dX6_same_43 : decode cX6_same 43 = .ok (.goto 4, 3) := by decide +kernel
theorem dX6_same_46 : decode cX6_same 46 = .ok (.iconst 0, 1) := by decide +kernel
theorem dX6_same_47 : decode cX6_same 47 = .ok (.ireturn, 1) := by decide +kernel
theorem dX6_touch_0 : decode cX6_touch 0 = .ok (.aload_n 0, 1) := by decide +kernel
theorem dX6_touch_1 : decode cX6_touch 1 = .ok (.iload_n 1, 1) := by decide +kernel
theorem dX6_touch_2 : decode cX6_touch 2 = .ok (.invokevirtual 106, 3) := by decide +kernel
theorem dX6_touch_5 : decode cX6_touch 5 = .ok (.ifCond .eq 26, 3) := by decide +kernel
theorem dX6_touch_8 : decode cX6_touch 8 = .ok (.iload_n 2, 1) := by decide +kernel
theorem dX6_touch_9 : decode cX6_touch 9 = .ok (.invokestatic 109, 3) := by decide +kernel
theorem dX6_touch_12 : decode cX6_touch 12 = .ok (.ifCond .eq 19, 3) := by decide +kernel
theorem dX6_touch_15 : decode cX6_touch 15 = .ok (.aload_n 0, 1) := by decide +kernel
theorem dX6_touch_16 : decode cX6_touch 16 = .ok (.iload_n 3, 1) := by decide +kernel
theorem dX6_touch_17 : decode cX6_touch 17 = .ok (.invokevirtual 106, 3) := by decide +kernel
theorem dX6_touch_20 : decode cX6_touch 20 = .ok (.ifCond .eq 11, 3) := by decide +kernel
theorem dX6_touch_23 : decode cX6_touch 23 = .ok (.iload 4, 2) := by decide +kernel
theorem dX6_touch_25 : decode cX6_touch 25 = .ok (.invokestatic 109, 3) := by decide +kernel
theorem dX6_touch_28 : decode cX6_touch 28 = .ok (.ifCond .ne 5, 3) := by decide +kernel
theorem dX6_touch_31 : decode cX6_touch 31 = .ok (.iconst (-1), 1) := by decide +kernel
theorem dX6_touch_32 : decode cX6_touch 32 = .ok (.ireturn, 1) := by decide +kernel
theorem dX6_touch_33 : decode cX6_touch 33 = .ok (.aload_n 0, 1) := by decide +kernel
theorem dX6_touch_34 : decode cX6_touch 34 = .ok (.getfield 17, 3) := by decide +kernel
theorem dX6_touch_37 : decode cX6_touch 37 = .ok (.iload_n 1, 1) := by decide +kernel
theorem dX6_touch_38 : decode cX6_touch 38 = .ok (.aaload, 1) := by decide +kernel
theorem dX6_touch_39 : decode cX6_touch 39 = .ok (.getfield 112, 3) := by decide +kernel
theorem dX6_touch_42 : decode cX6_touch 42 = .ok (.iload_n 2, 1) := by decide +kernel
theorem dX6_touch_43 : decode cX6_touch 43 = .ok (.aload_n 0, 1) := by decide +kernel
theorem dX6_touch_44 : decode cX6_touch 44 = .ok (.getfield 17, 3) := by decide +kernel
theorem dX6_touch_47 : decode cX6_touch 47 = .ok (.iload_n 3, 1) := by decide +kernel
theorem dX6_touch_48 : decode cX6_touch 48 = .ok (.aaload, 1) := by decide +kernel
theorem dX6_touch_49 : decode cX6_touch 49 = .ok (.getfield 112, 3) := by decide +kernel
theorem dX6_touch_52 : decode cX6_touch 52 = .ok (.iload 4, 2) := by decide +kernel
theorem dX6_touch_54 : decode cX6_touch 54 = .ok (.invokevirtual 157, 3) := by decide +kernel
theorem dX6_touch_57 : decode cX6_touch 57 = .ok (.ifCond .eq 7, 3) := by decide +kernel
theorem dX6_touch_60 : decode cX6_touch 60 = .ok (.iconst 1, 1) := by decide +kernel
theorem dX6_touch_61 : decode cX6_touch 61 = .ok (.goto 4, 3) := by decide +kernel
theorem dX6_touch_64 : decode cX6_touch 64 = .ok (.iconst 0, 1) := by decide +kernel
theorem dX6_touch_65 : decode cX6_touch 65 = .ok (.ireturn, 1) := by decide +kernel
theorem dX6_list_0 : decode cX6_list 0 = .ok (.aload_n 0, 1) := by decide +kernel
theorem dX6_list_1 : decode cX6_list 1 = .ok (.iload_n 1, 1) := by decide +kernel
theorem dX6_list_2 : decode cX6_list 2 = .ok (.invokevirtual 106, 3) := by decide +kernel
theorem dX6_list_5 : decode cX6_list 5 = .ok (.ifCond .eq 15, 3) := by decide +kernel
theorem dX6_list_8 : decode cX6_list 8 = .ok (.iload_n 2, 1) := by decide +kernel
theorem dX6_list_9 : decode cX6_list 9 = .ok (.iconst 1, 1) := by decide +kernel
theorem dX6_list_10 : decode cX6_list 10 = .ok (.if_icmp .lt 10, 3) := by decide +kernel
theorem dX6_list_13 : decode cX6_list 13 = .ok (.iload_n 2, 1) := by decide +kernel
theorem dX6_list_14 : decode cX6_list 14 = .ok (.sipush 2000, 3) := by decide +kernel
theorem dX6_list_17 : decode cX6_list 17 = .ok (.if_icmp .le 5, 3) := by decide +kernel
theorem dX6_list_20 : decode cX6_list 20 = .ok (.iconst (-1), 1) := by decide +kernel
theorem dX6_list_21 : decode cX6_list 21 = .ok (.ireturn, 1) := by decide +kernel
theorem dX6_list_22 : decode cX6_list 22 = .ok (.aload_n 0, 1) := by decide +kernel
theorem dX6_list_23 : decode cX6_list 23 = .ok (.getfield 53, 3) := by decide +kernel
theorem dX6_list_26 : decode cX6_list 26 = .ok (.iload_n 2, 1) := by decide +kernel
theorem dX6_list_27 : decode cX6_list 27 = .ok (.aload_n 0, 1) := by decide +kernel
theorem dX6_list_28 : decode cX6_list 28 = .ok (.getfield 17, 3) := by decide +kernel
theorem dX6_list_31 : decode cX6_list 31 = .ok (.iload_n 1, 1) := by decide +kernel
theorem dX6_list_32 : decode cX6_list 32 = .ok (.aaload, 1) := by decide +kernel
theorem dX6_list_33 : decode cX6_list 33 = .ok (.getfield 127, 3) := by decide +kernel
theorem dX6_list_36 : decode cX6_list 36 = .ok (.invokevirtual 161, 3) := by decide +kernel
theorem dX6_list_39 : decode cX6_list 39 = .ok (.aload_n 0, 1) := by decide +kernel
theorem dX6_list_40 : decode cX6_list 40 = .ok (.getfield 42, 3) := by decide +kernel
theorem dX6_list_43 : decode cX6_list 43 = .ok (.aload_n 0, 1) := by decide +kernel
theorem dX6_list_44 : decode cX6_list 44 = .ok (.getfield 17, 3) := by decide +kernel
theorem dX6_list_47 : decode cX6_list 47 = .ok (.iload_n 1, 1) := by decide +kernel
theorem dX6_list_48 : decode cX6_list 48 = .ok (.aaload, 1) := by decide +kernel
theorem dX6_list_49 : decode cX6_list 49 = .ok (.getfield 150, 3) := by decide +kernel
theorem dX6_list_52 : decode cX6_list 52 = .ok (.aload_n 0, 1) := by decide +kernel
theorem dX6_list_53 : decode cX6_list 53 = .ok (.getfield 53, 3) := by decide +kernel
theorem dX6_list_56 : decode cX6_list 56 = .ok (.invokevirtual 164, 3) := by decide +kernel
theorem dX6_list_59 : decode cX6_list 59 = .ok (.ifCond .ne 6, 3) := by decide +kernel
theorem dX6_list_62 : decode cX6_list 62 = .ok (.bipush (-4), 2) := by decide +kernel
theorem dX6_list_64 : decode cX6_list 64 = .ok (.ireturn, 1) := by decide +kernel
theorem dX6_list_65 : decode cX6_list 65 = .ok (.aload_n 0, 1) := by decide +kernel
theorem dX6_list_66 : decode cX6_list 66 = .ok (.getfield 49, 3) := by decide +kernel
theorem dX6_list_69 : decode cX6_list 69 = .ok (.astore_n 3, 1) := by decide +kernel
theorem dX6_list_70 : decode cX6_list 70 = .ok (.aload_n 0, 1) := by decide +kernel
theorem dX6_list_71 : decode cX6_list 71 = .ok (.aload_n 0, 1) := by decide +kernel
theorem dX6_list_72 : decode cX6_list 72 = .ok (.getfield 53, 3) := by decide +kernel
theorem dX6_list_75 : decode cX6_list 75 = .ok (.putfield 49, 3) := by decide +kernel
theorem dX6_list_78 : decode cX6_list 78 = .ok (.aload_n 0, 1) := by decide +kernel
theorem dX6_list_79 : decode cX6_list 79 = .ok (.aload_n 3, 1) := by decide +kernel
theorem dX6_list_80 : decode cX6_list 80 = .ok (.putfield 53, 3) := by decide +kernel
theorem dX6_list_83 : decode cX6_list 83 = .ok (.aload_n 0, 1) := by decide +kernel
theorem dX6_list_84 : decode cX6_list 84 = .ok (.getfield 49, 3) := by decide +kernel
theorem dX6_list_87 : decode cX6_list 87 = .ok (.getfield 167, 3) := by decide +kernel
theorem dX6_list_90 : decode cX6_list 90 = .ok (.ireturn, 1) := by decide +kernel
theorem dX6_listed_0 : decode cX6_listed 0 = .ok (.iload_n 2, 1) := by decide +kernel
theorem dX6_listed_1 : decode cX6_listed 1 = .ok (.invokestatic 130, 3) := by decide +kernel
theorem dX6_listed_4 : decode cX6_listed 4 = .ok (.ifCond .ne 6, 3) := by decide +kernel
theorem dX6_listed_7 : decode cX6_listed 7 = .ok (.ldc 133, 2) := by decide +kernel
theorem dX6_listed_9 : decode cX6_listed 9 = .ok (.ireturn, 1) := by decide +kernel
theorem dX6_listed_10 : decode cX6_listed 10 = .ok (.iload_n 1, 1) := by decide +kernel
theorem dX6_listed_11 : decode cX6_listed 11 = .ok (.ifCond .lt 14, 3) := by decide +kernel
theorem dX6_listed_14 : decode cX6_listed 14 = .ok (.iload_n 1, 1) := by decide +kernel
theorem dX6_listed_15 : decode cX6_listed 15 = .ok (.aload_n 0, 1) := by decide +kernel
theorem dX6_listed_16 : decode cX6_listed 16 = .ok (.getfield 49, 3) := by decide +kernel
theorem dX6_listed_19 : decode cX6_listed 19 = .ok (.getfield 167, 3) := by decide +kernel
theorem dX6_listed_22 : decode cX6_listed 22 = .ok (.if_icmp .lt 6, 3) := by decide +kernel
theorem dX6_listed_25 : decode cX6_listed 25 = .ok (.ldc 170, 2) := by decide +kernel
theorem dX6_listed_27 : decode cX6_listed 27 = .ok (.ireturn, 1) := by decide +kernel
theorem dX6_listed_28 : decode cX6_listed 28 = .ok (.aload_n 0, 1) := by decide +kernel
theorem dX6_listed_29 : decode cX6_listed 29 = .ok (.getfield 49, 3) := by decide +kernel
theorem dX6_listed_32 : decode cX6_listed 32 = .ok (.getfield 171, 3) := by decide +kernel
theorem dX6_listed_35 : decode cX6_listed 35 = .ok (.iload_n 2, 1) := by decide +kernel
theorem dX6_listed_36 : decode cX6_listed 36 = .ok (.aaload, 1) := by decide +kernel
theorem dX6_listed_37 : decode cX6_listed 37 = .ok (.iload_n 1, 1) := by decide +kernel
theorem dX6_listed_38 : decode cX6_listed 38 = .ok (.laload, 1) := by decide +kernel
theorem dX6_listed_39 : decode cX6_listed 39 = .ok (.l2i, 1) := by decide +kernel
theorem dX6_listed_40 : decode cX6_listed 40 = .ok (.ireturn, 1) := by decide +kernel
theorem dX6_find_0 : decode cX6_find 0 = .ok (.iconst 0, 1) := by decide +kernel
theorem dX6_find_1 : decode cX6_find 1 = .ok (.istore_n 2, 1) := by decide +kernel
theorem dX6_find_2 : decode cX6_find 2 = .ok (.iconst 0, 1) := by decide +kernel
theorem dX6_find_3 : decode cX6_find 3 = .ok (.istore_n 3, 1) := by decide +kernel
theorem dX6_find_4 : decode cX6_find 4 = .ok (.iload_n 3, 1) := by decide +kernel
theorem dX6_find_5 : decode cX6_find 5 = .ok (.aload_n 0, 1) := by decide +kernel
theorem dX6_find_6 : decode cX6_find 6 = .ok (.getfield 49, 3) := by decide +kernel
theorem dX6_find_9 : decode cX6_find 9 = .ok (.getfield 167, 3) := by decide +kernel
theorem dX6_find_12 : decode cX6_find 12 = .ok (.if_icmp .ge 29, 3) := by decide +kernel
theorem dX6_find_15 : decode cX6_find 15 = .ok (.aload_n 0, 1) := by decide +kernel
theorem dX6_find_16 : decode cX6_find 16 = .ok (.getfield 49, 3) := by decide +kernel
theorem dX6_find_19 : decode cX6_find 19 = .ok (.getfield 171, 3) := by decide +kernel
theorem dX6_find_22 : decode cX6_find 22 = .ok (.iconst 0, 1) := by decide +kernel
theorem dX6_find_23 : decode cX6_find 23 = .ok (.aaload, 1) := by decide +kernel
theorem dX6_find_24 : decode cX6_find 24 = .ok (.iload_n 3, 1) := by decide +kernel
theorem dX6_find_25 : decode cX6_find 25 = .ok (.laload, 1) := by decide +kernel
theorem dX6_find_26 : decode cX6_find 26 = .ok (.iload_n 1, 1) := by decide +kernel
theorem dX6_find_27 : decode cX6_find 27 = .ok (.i2l, 1) := by decide +kernel
theorem dX6_find_28 : decode cX6_find 28 = .ok (.lcmp, 1) := by decide +kernel
theorem dX6_find_29 : decode cX6_find 29 = .ok (.ifCond .ne 6, 3) := by decide +kernel
theorem dX6_find_32 : decode cX6_find 32 = .ok (.iinc 2 1, 3) := by decide +kernel
theorem dX6_find_35 : decode cX6_find 35 = .ok (.iinc 3 1, 3) := by decide +kernel
theorem dX6_find_38 : decode cX6_find 38 = .ok (.goto (-34), 3) := by decide +kernel
theorem dX6_find_41 : decode cX6_find 41 = .ok (.iload_n 2, 1) := by decide +kernel
theorem dX6_find_42 : decode cX6_find 42 = .ok (.ireturn, 1) := by decide +kernel
theorem dX6_left_0 : decode cX6_left 0 = .ok (.iload_n 1, 1) := by decide +kernel
theorem dX6_left_1 : decode cX6_left 1 = .ok (.ifCond .ge 7, 3) := by decide +kernel
theorem dX6_left_4 : decode cX6_left 4 = .ok (.iconst (-1), 1) := by decide +kernel
theorem dX6_left_5 : decode cX6_left 5 = .ok (.goto 11, 3) := by decide +kernel
theorem dX6_left_8 : decode cX6_left 8 = .ok (.aload_n 0, 1) := by decide +kernel
theorem dX6_left_9 : decode cX6_left 9 = .ok (.getfield 49, 3) := by decide +kernel
theorem dX6_left_12 : decode cX6_left 12 = .ok (.iload_n 1, 1) := by decide +kernel
theorem dX6_left_13 : decode cX6_left 13 = .ok (.invokevirtual 175, 3) := by decide +kernel
theorem dX6_left_16 : decode cX6_left 16 = .ok (.ireturn, 1) := by decide +kernel
theorem dX6_seen_0 : decode cX6_seen 0 = .ok (.aload_n 0, 1) := by decide +kernel
theorem dX6_seen_1 : decode cX6_seen 1 = .ok (.iload_n 1, 1) := by decide +kernel
theorem dX6_seen_2 : decode cX6_seen 2 = .ok (.invokevirtual 106, 3) := by decide +kernel
theorem dX6_seen_5 : decode cX6_seen 5 = .ok (.ifCond .eq 15, 3) := by decide +kernel
theorem dX6_seen_8 : decode cX6_seen 8 = .ok (.aload_n 0, 1) := by decide +kernel
theorem dX6_seen_9 : decode cX6_seen 9 = .ok (.getfield 17, 3) := by decide +kernel
theorem dX6_seen_12 : decode cX6_seen 12 = .ok (.iload_n 1, 1) := by decide +kernel
theorem dX6_seen_13 : decode cX6_seen 13 = .ok (.aaload, 1) := by decide +kernel
theorem dX6_seen_14 : decode cX6_seen 14 = .ok (.getfield 127, 3) := by decide +kernel
theorem dX6_seen_17 : decode cX6_seen 17 = .ok (.goto 4, 3) := by decide +kernel
theorem dX6_seen_20 : decode cX6_seen 20 = .ok (.iconst (-1), 1) := by decide +kernel
theorem dX6_seen_21 : decode cX6_seen 21 = .ok (.ireturn, 1) := by decide +kernel
theorem dX6_chain_0 : decode cX6_chain 0 = .ok (.aload_n 0, 1) := by decide +kernel
theorem dX6_chain_1 : decode cX6_chain 1 = .ok (.iload_n 1, 1) := by decide +kernel
theorem dX6_chain_2 : decode cX6_chain 2 = .ok (.invokevirtual 106, 3) := by decide +kernel
theorem dX6_chain_5 : decode cX6_chain 5 = .ok (.ifCond .eq 22, 3) := by decide +kernel
theorem dX6_chain_8 : decode cX6_chain 8 = .ok (.iload_n 2, 1) := by decide +kernel
theorem dX6_chain_9 : decode cX6_chain 9 = .ok (.invokestatic 109, 3) := by decide +kernel
theorem dX6_chain_12 : decode cX6_chain 12 = .ok (.ifCond .eq 15, 3) := by decide +kernel
theorem dX6_chain_15 : decode cX6_chain 15 = .ok (.iload_n 3, 1) := by decide +kernel
theorem dX6_chain_16 : decode cX6_chain 16 = .ok (.invokestatic 109, 3) := by decide +kernel
theorem dX6_chain_19 : decode cX6_chain 19 = .ok (.ifCond .eq 8, 3) := by decide +kernel
theorem dX6_chain_22 : decode cX6_chain 22 = .ok (.iload_n 2, 1) := by decide +kernel
theorem dX6_chain_23 : decode cX6_chain 23 = .ok (.iload_n 3, 1) := by decide +kernel
theorem dX6_chain_24 : decode cX6_chain 24 = .ok (.if_icmp .ne 6, 3) := by decide +kernel
theorem dX6_chain_27 : decode cX6_chain 27 = .ok (.ldc 133, 2) := by decide +kernel
theorem dX6_chain_29 : decode cX6_chain 29 = .ok (.ireturn, 1) := by decide +kernel
theorem dX6_chain_30 : decode cX6_chain 30 = .ok (.iload 4, 2) := by decide +kernel
theorem dX6_chain_32 : decode cX6_chain 32 = .ok (.bipush (-100), 2) := by decide +kernel
theorem dX6_chain_34 : decode cX6_chain 34 = .ok (.if_icmp .lt 18, 3) := by decide +kernel
theorem dX6_chain_37 : decode cX6_chain 37 = .ok (.iload 4, 2) := by decide +kernel
theorem dX6_chain_39 : decode cX6_chain 39 = .ok (.bipush 100, 2) := by decide +kernel
theorem dX6_chain_41 : decode cX6_chain 41 = .ok (.if_icmp .gt 11, 3) := by decide +kernel
theorem dX6_chain_44 : decode cX6_chain 44 = .ok (.iload 5, 2) := by decide +kernel
theorem dX6_chain_46 : decode cX6_chain 46 = .ok (.invokestatic 130, 3) := by decide +kernel
theorem dX6_chain_49 : decode cX6_chain 49 = .ok (.ifCond .ne 6, 3) := by decide +kernel
theorem dX6_chain_52 : decode cX6_chain 52 = .ok (.ldc 133, 2) := by decide +kernel
theorem dX6_chain_54 : decode cX6_chain 54 = .ok (.ireturn, 1) := by decide +kernel
theorem dX6_chain_55 : decode cX6_chain 55 = .ok (.iload_n 2, 1) := by decide +kernel
theorem dX6_chain_56 : decode cX6_chain 56 = .ok (.iload_n 3, 1) := by decide +kernel
theorem dX6_chain_57 : decode cX6_chain 57 = .ok (.invokestatic 178, 3) := by decide +kernel
theorem dX6_chain_60 : decode cX6_chain 60 = .ok (.istore 6, 2) := by decide +kernel
theorem dX6_chain_62 : decode cX6_chain 62 = .ok (.bipush 6, 2) := by decide +kernel
theorem dX6_chain_64 : decode cX6_chain 64 = .ok (.iload_n 2, 1) := by decide +kernel
theorem dX6_chain_65 : decode cX6_chain 65 = .ok (.isub, 1) := by decide +kernel
theorem dX6_chain_66 : decode cX6_chain 66 = .ok (.iload_n 3, 1) := by decide +kernel
theorem dX6_chain_67 : decode cX6_chain 67 = .ok (.isub, 1) := by decide +kernel
theorem dX6_chain_68 : decode cX6_chain 68 = .ok (.iload 6, 2) := by decide +kernel
theorem dX6_chain_70 : decode cX6_chain 70 = .ok (.isub, 1) := by decide +kernel
theorem dX6_chain_71 : decode cX6_chain 71 = .ok (.istore 7, 2) := by decide +kernel
theorem dX6_chain_73 : decode cX6_chain 73 = .ok (.aload_n 0, 1) := by decide +kernel
theorem dX6_chain_74 : decode cX6_chain 74 = .ok (.getfield 28, 3) := by decide +kernel
theorem dX6_chain_77 : decode cX6_chain 77 = .ok (.aload_n 0, 1) := by decide +kernel
theorem dX6_chain_78 : decode cX6_chain 78 = .ok (.getfield 17, 3) := by decide +kernel
theorem dX6_chain_81 : decode cX6_chain 81 = .ok (.iload_n 1, 1) := by decide +kernel
theorem dX6_chain_82 : decode cX6_chain 82 = .ok (.aaload, 1) := by decide +kernel
theorem dX6_chain_83 : decode cX6_chain 83 = .ok (.getfield 112, 3) := by decide +kernel
theorem dX6_chain_86 : decode cX6_chain 86 = .ok (.invokevirtual 115, 3) := by decide +kernel
theorem dX6_chain_89 : decode cX6_chain 89 = .ok (.aload_n 0, 1) := by decide +kernel
theorem dX6_chain_90 : decode cX6_chain 90 = .ok (.getfield 28, 3) := by decide +kernel
theorem dX6_chain_93 : decode cX6_chain 93 = .ok (.iload 6, 2) := by decide +kernel
theorem dX6_chain_95 : decode cX6_chain 95 = .ok (.iload 7, 2) := by decide +kernel
theorem dX6_chain_97 : decode cX6_chain 97 = .ok (.iload 4, 2) := by decide +kernel
theorem dX6_chain_99 : decode cX6_chain 99 = .ok (.invokevirtual 181, 3) := by decide +kernel
theorem dX6_chain_102 : decode cX6_chain 102 = .ok (.ifCond .ne 6, 3) := by decide +kernel
theorem dX6_chain_105 : decode cX6_chain 105 = .ok (.ldc 185, 2) := by decide +kernel
theorem dX6_chain_107 : decode cX6_chain 107 = .ok (.ireturn, 1) := by decide +kernel
theorem dX6_chain_108 : decode cX6_chain 108 = .ok (.aload_n 0, 1) := by decide +kernel
theorem dX6_chain_109 : decode cX6_chain 109 = .ok (.getfield 28, 3) := by decide +kernel
theorem dX6_chain_112 : decode cX6_chain 112 = .ok (.iload 4, 2) := by decide +kernel
theorem dX6_chain_114 : decode cX6_chain 114 = .ok (.iconst 1, 1) := by decide +kernel
theorem dX6_chain_115 : decode cX6_chain 115 = .ok (.iand, 1) := by decide +kernel
theorem dX6_chain_116 : decode cX6_chain 116 = .ok (.ifCond .ne 8, 3) := by decide +kernel
theorem dX6_chain_119 : decode cX6_chain 119 = .ok (.iload 6, 2) := by decide +kernel
theorem dX6_chain_121 : decode cX6_chain 121 = .ok (.goto 5, 3) := by decide +kernel
theorem dX6_chain_124 : decode cX6_chain 124 = .ok (.iload 7, 2) := by decide +kernel
theorem dX6_chain_126 : decode cX6_chain 126 = .ok (.iload 5, 2) := by decide +kernel
theorem dX6_chain_128 : decode cX6_chain 128 = .ok (.invokevirtual 134, 3) := by decide +kernel
theorem dX6_chain_131 : decode cX6_chain 131 = .ok (.l2i, 1) := by decide +kernel
theorem dX6_chain_132 : decode cX6_chain 132 = .ok (.ireturn, 1) := by decide +kernel
theorem dX6_count_0 : decode cX6_count 0 = .ok (.iload_n 1, 1) := by decide +kernel
theorem dX6_count_1 : decode cX6_count 1 = .ok (.tableswitch 48 0 2 #[27, 32, 40], 27) := by decide +kernel
theorem dX6_count_28 : decode cX6_count 28 = .ok (.aload_n 0, 1) := by decide +kernel
theorem dX6_count_29 : decode cX6_count 29 = .ok (.getfield 21, 3) := by decide +kernel
theorem dX6_count_32 : decode cX6_count 32 = .ok (.ireturn, 1) := by decide +kernel
theorem dX6_count_33 : decode cX6_count 33 = .ok (.aload_n 0, 1) := by decide +kernel
theorem dX6_count_34 : decode cX6_count 34 = .ok (.getfield 49, 3) := by decide +kernel
theorem dX6_count_37 : decode cX6_count 37 = .ok (.getfield 167, 3) := by decide +kernel
theorem dX6_count_40 : decode cX6_count 40 = .ok (.ireturn, 1) := by decide +kernel
theorem dX6_count_41 : decode cX6_count 41 = .ok (.aload_n 0, 1) := by decide +kernel
theorem dX6_count_42 : decode cX6_count 42 = .ok (.getfield 49, 3) := by decide +kernel
theorem dX6_count_45 : decode cX6_count 45 = .ok (.getfield 186, 3) := by decide +kernel
theorem dX6_count_48 : decode cX6_count 48 = .ok (.ireturn, 1) := by decide +kernel
theorem dX6_count_49 : decode cX6_count 49 = .ok (.iconst (-1), 1) := by decide +kernel
theorem dX6_count_50 : decode cX6_count 50 = .ok (.ireturn, 1) := by decide +kernel
theorem dX6_isBag_0 : decode cX6_isBag 0 = .ok (.iload_n 0, 1) := by decide +kernel
theorem dX6_isBag_1 : decode cX6_isBag 1 = .ok (.ifCond .lt 13, 3) := by decide +kernel
theorem dX6_isBag_4 : decode cX6_isBag 4 = .ok (.iload_n 0, 1) := by decide +kernel
theorem dX6_isBag_5 : decode cX6_isBag 5 = .ok (.bipush 6, 2) := by decide +kernel
theorem dX6_isBag_7 : decode cX6_isBag 7 = .ok (.if_icmp .ge 7, 3) := by decide +kernel
theorem dX6_isBag_10 : decode cX6_isBag 10 = .ok (.iconst 1, 1) := by decide +kernel
theorem dX6_isBag_11 : decode cX6_isBag 11 = .ok (.goto 4, 3) := by decide +kernel
theorem dX6_isBag_14 : decode cX6_isBag 14 = .ok (.iconst 0, 1) := by decide +kernel
theorem dX6_isBag_15 : decode cX6_isBag 15 = .ok (.ireturn, 1) := by decide +kernel
theorem dX6_isQuad_0 : decode cX6_isQuad 0 = .ok (.iload_n 1, 1) := by decide +kernel
theorem dX6_isQuad_1 : decode cX6_isQuad 1 = .ok (.ifCond .lt 15, 3) := by decide +kernel
theorem dX6_isQuad_4 : decode cX6_isQuad 4 = .ok (.iload_n 1, 1) := by decide +kernel
theorem dX6_isQuad_5 : decode cX6_isQuad 5 = .ok (.aload_n 0, 1) := by decide +kernel
theorem dX6_isQuad_6 : decode cX6_isQuad 6 = .ok (.getfield 21, 3) := by decide +kernel
theorem dX6_isQuad_9 : decode cX6_isQuad 9 = .ok (.if_icmp .ge 7, 3) := by decide +kernel
theorem dX6_isQuad_12 : decode cX6_isQuad 12 = .ok (.iconst 1, 1) := by decide +kernel
theorem dX6_isQuad_13 : decode cX6_isQuad 13 = .ok (.goto 4, 3) := by decide +kernel
theorem dX6_isQuad_16 : decode cX6_isQuad 16 = .ok (.iconst 0, 1) := by decide +kernel
theorem dX6_isQuad_17 : decode cX6_isQuad 17 = .ok (.ireturn, 1) := by decide +kernel
theorem dX6_isCoin_0 : decode cX6_isCoin 0 = .ok (.iload_n 0, 1) := by decide +kernel
theorem dX6_isCoin_1 : decode cX6_isCoin 1 = .ok (.ifCond .lt 12, 3) := by decide +kernel
theorem dX6_isCoin_4 : decode cX6_isCoin 4 = .ok (.iload_n 0, 1) := by decide +kernel
theorem dX6_isCoin_5 : decode cX6_isCoin 5 = .ok (.iconst 4, 1) := by decide +kernel
theorem dX6_isCoin_6 : decode cX6_isCoin 6 = .ok (.if_icmp .ge 7, 3) := by decide +kernel
theorem dX6_isCoin_9 : decode cX6_isCoin 9 = .ok (.iconst 1, 1) := by decide +kernel
theorem dX6_isCoin_10 : decode cX6_isCoin 10 = .ok (.goto 4, 3) := by decide +kernel
theorem dX6_isCoin_13 : decode cX6_isCoin 13 = .ok (.iconst 0, 1) := by decide +kernel
theorem dX6_isCoin_14 : decode cX6_isCoin 14 = .ok (.ireturn, 1) := by decide +kernel
theorem dX6_isWhat_0 : decode cX6_isWhat 0 = .ok (.iload_n 0, 1) := by decide +kernel
theorem dX6_isWhat_1 : decode cX6_isWhat 1 = .ok (.ifCond .lt 12, 3) := by decide +kernel
theorem dX6_isWhat_4 : decode cX6_isWhat 4 = .ok (.iload_n 0, 1) := by decide +kernel
theorem dX6_isWhat_5 : decode cX6_isWhat 5 = .ok (.iconst 2, 1) := by decide +kernel
theorem dX6_isWhat_6 : decode cX6_isWhat 6 = .ok (.if_icmp .gt 7, 3) := by decide +kernel
theorem dX6_isWhat_9 : decode cX6_isWhat 9 = .ok (.iconst 1, 1) := by decide +kernel
theorem dX6_isWhat_10 : decode cX6_isWhat 10 = .ok (.goto 4, 3) := by decide +kernel
theorem dX6_isWhat_13 : decode cX6_isWhat 13 = .ok (.iconst 0, 1) := by decide +kernel
theorem dX6_isWhat_14 : decode cX6_isWhat 14 = .ok (.ireturn, 1) := by decide +kernel
theorem dX6_refusalOfPlaces_0 : decode cX6_refusalOfPlaces 0 = .ok (.iload_n 1, 1) := by decide +kernel
theorem dX6_refusalOfPlaces_1 : decode cX6_refusalOfPlaces 1 = .ok (.invokestatic 58, 3) := by decide +kernel
theorem dX6_refusalOfPlaces_4 : decode cX6_refusalOfPlaces 4 = .ok (.ifCond .ne 5, 3) := by decide +kernel
theorem dX6_refusalOfPlaces_7 : decode cX6_refusalOfPlaces 7 = .ok (.iconst (-1), 1) := by decide +kernel
theorem dX6_refusalOfPlaces_8 : decode cX6_refusalOfPlaces 8 = .ok (.ireturn, 1) := by decide +kernel
theorem dX6_refusalOfPlaces_9 : decode cX6_refusalOfPlaces 9 = .ok (.aload_n 0, 1) := by decide +kernel
theorem dX6_refusalOfPlaces_10 : decode cX6_refusalOfPlaces 10 = .ok (.getfield 11, 3) := by decide +kernel
theorem dX6_refusalOfPlaces_13 : decode cX6_refusalOfPlaces 13 = .ok (.iload_n 1, 1) := by decide +kernel
theorem dX6_refusalOfPlaces_14 : decode cX6_refusalOfPlaces 14 = .ok (.aaload, 1) := by decide +kernel
theorem dX6_refusalOfPlaces_15 : decode cX6_refusalOfPlaces 15 = .ok (.getfield 74, 3) := by decide +kernel
theorem dX6_refusalOfPlaces_18 : decode cX6_refusalOfPlaces 18 = .ok (.iconst (-1), 1) := by decide +kernel
theorem dX6_refusalOfPlaces_19 : decode cX6_refusalOfPlaces 19 = .ok (.if_icmp .ne 6, 3) := by decide +kernel
theorem dX6_refusalOfPlaces_22 : decode cX6_refusalOfPlaces 22 = .ok (.bipush (-11), 2) := by decide +kernel
theorem dX6_refusalOfPlaces_24 : decode cX6_refusalOfPlaces 24 = .ok (.ireturn, 1) := by decide +kernel
theorem dX6_refusalOfPlaces_25 : decode cX6_refusalOfPlaces 25 = .ok (.aload_n 0, 1) := by decide +kernel
theorem dX6_refusalOfPlaces_26 : decode cX6_refusalOfPlaces 26 = .ok (.getfield 11, 3) := by decide +kernel
theorem dX6_refusalOfPlaces_29 : decode cX6_refusalOfPlaces 29 = .ok (.iload_n 1, 1) := by decide +kernel
theorem dX6_refusalOfPlaces_30 : decode cX6_refusalOfPlaces 30 = .ok (.aaload, 1) := by decide +kernel
theorem dX6_refusalOfPlaces_31 : decode cX6_refusalOfPlaces 31 = .ok (.iload_n 2, 1) := by decide +kernel
theorem dX6_refusalOfPlaces_32 : decode cX6_refusalOfPlaces 32 = .ok (.iload_n 3, 1) := by decide +kernel
theorem dX6_refusalOfPlaces_33 : decode cX6_refusalOfPlaces 33 = .ok (.invokevirtual 77, 3) := by decide +kernel
theorem dX6_refusalOfPlaces_36 : decode cX6_refusalOfPlaces 36 = .ok (.ifCond .eq 7, 3) := by decide +kernel
theorem dX6_refusalOfPlaces_39 : decode cX6_refusalOfPlaces 39 = .ok (.iconst 0, 1) := by decide +kernel
theorem dX6_refusalOfPlaces_40 : decode cX6_refusalOfPlaces 40 = .ok (.goto 5, 3) := by decide +kernel
theorem dX6_refusalOfPlaces_43 : decode cX6_refusalOfPlaces 43 = .ok (.bipush (-12), 2) := by decide +kernel
theorem dX6_refusalOfPlaces_45 : decode cX6_refusalOfPlaces 45 = .ok (.ireturn, 1) := by decide +kernel
theorem dX6_keepDesk_0 : decode cX6_keepDesk 0 = .ok (.aload_n 0, 1) := by decide +kernel
theorem dX6_keepDesk_1 : decode cX6_keepDesk 1 = .ok (.getfield 17, 3) := by decide +kernel
theorem dX6_keepDesk_4 : decode cX6_keepDesk 4 = .ok (.aload_n 0, 1) := by decide +kernel
theorem dX6_keepDesk_5 : decode cX6_keepDesk 5 = .ok (.getfield 21, 3) := by decide +kernel
theorem dX6_keepDesk_8 : decode cX6_keepDesk 8 = .ok (.aaload, 1) := by decide +kernel
theorem dX6_keepDesk_9 : decode cX6_keepDesk 9 = .ok (.aload_n 0, 1) := by decide +kernel
theorem dX6_keepDesk_10 : decode cX6_keepDesk 10 = .ok (.getfield 28, 3) := by decide +kernel
theorem dX6_keepDesk_13 : decode cX6_keepDesk 13 = .ok (.iload_n 1, 1) := by decide +kernel
theorem dX6_keepDesk_14 : decode cX6_keepDesk 14 = .ok (.iload_n 2, 1) := by decide +kernel
theorem dX6_keepDesk_15 : decode cX6_keepDesk 15 = .ok (.invokevirtual 189, 3) := by decide +kernel
theorem dX6_keepDesk_18 : decode cX6_keepDesk 18 = .ok (.aload_n 0, 1) := by decide +kernel
theorem dX6_keepDesk_19 : decode cX6_keepDesk 19 = .ok (.dup, 1) := by decide +kernel
theorem dX6_keepDesk_20 : decode cX6_keepDesk 20 = .ok (.getfield 21, 3) := by decide +kernel
theorem dX6_keepDesk_23 : decode cX6_keepDesk 23 = .ok (.iconst 1, 1) := by decide +kernel
theorem dX6_keepDesk_24 : decode cX6_keepDesk 24 = .ok (.iadd, 1) := by decide +kernel
theorem dX6_keepDesk_25 : decode cX6_keepDesk 25 = .ok (.putfield 21, 3) := by decide +kernel
theorem dX6_keepDesk_28 : decode cX6_keepDesk 28 = .ok (.aload_n 0, 1) := by decide +kernel
theorem dX6_keepDesk_29 : decode cX6_keepDesk 29 = .ok (.getfield 21, 3) := by decide +kernel
theorem dX6_keepDesk_32 : decode cX6_keepDesk 32 = .ok (.iconst 1, 1) := by decide +kernel
theorem dX6_keepDesk_33 : decode cX6_keepDesk 33 = .ok (.isub, 1) := by decide +kernel
theorem dX6_keepDesk_34 : decode cX6_keepDesk 34 = .ok (.ireturn, 1) := by decide +kernel
theorem dX6_firstBut_0 : decode cX6_firstBut 0 = .ok (.iconst 0, 1) := by decide +kernel
theorem dX6_firstBut_1 : decode cX6_firstBut 1 = .ok (.istore_n 2, 1) := by decide +kernel
theorem dX6_firstBut_2 : decode cX6_firstBut 2 = .ok (.iload_n 2, 1) := by decide +kernel
theorem dX6_firstBut_3 : decode cX6_firstBut 3 = .ok (.iconst 2, 1) := by decide +kernel
theorem dX6_firstBut_4 : decode cX6_firstBut 4 = .ok (.if_icmp .ge 21, 3) := by decide +kernel
theorem dX6_firstBut_7 : decode cX6_firstBut 7 = .ok (.iload_n 2, 1) := by decide +kernel
theorem dX6_firstBut_8 : decode cX6_firstBut 8 = .ok (.iload_n 0, 1) := by decide +kernel
theorem dX6_firstBut_9 : decode cX6_firstBut 9 = .ok (.if_icmp .eq 10, 3) := by decide +kernel
theorem dX6_firstBut_12 : decode cX6_firstBut 12 = .ok (.iload_n 2, 1) := by decide +kernel
theorem dX6_firstBut_13 : decode cX6_firstBut 13 = .ok (.iload_n 1, 1) := by decide +kernel
theorem dX6_firstBut_14 : decode cX6_firstBut 14 = .ok (.if_icmp .eq 5, 3) := by decide +kernel
theorem dX6_firstBut_17 : decode cX6_firstBut 17 = .ok (.iload_n 2, 1) := by decide +kernel
theorem dX6_firstBut_18 : decode cX6_firstBut 18 = .ok (.ireturn, 1) := by decide +kernel
theorem dX6_firstBut_19 : decode cX6_firstBut 19 = .ok (.iinc 2 1, 3) := by decide +kernel
theorem dX6_firstBut_22 : decode cX6_firstBut 22 = .ok (.goto (-20), 3) := by decide +kernel
theorem dX6_firstBut_25 : decode cX6_firstBut 25 = .ok (.iconst 2, 1) := by decide +kernel
theorem dX6_firstBut_26 : decode cX6_firstBut 26 = .ok (.ireturn, 1) := by decide +kernel
theorem dL_law_0 : decode cL_law 0 = .ok (.new 7, 3) := by decide +kernel
theorem dL_law_3 : decode cL_law 3 = .ok (.dup, 1) := by decide +kernel
theorem dL_law_4 : decode cL_law 4 = .ok (.invokespecial 9, 3) := by decide +kernel
theorem dL_law_7 : decode cL_law 7 = .ok (.astore_n 1, 1) := by decide +kernel
theorem dL_law_8 : decode cL_law 8 = .ok (.new 10, 3) := by decide +kernel
theorem dL_law_11 : decode cL_law 11 = .ok (.dup, 1) := by decide +kernel
theorem dL_law_12 : decode cL_law 12 = .ok (.invokespecial 12, 3) := by decide +kernel
theorem dL_law_15 : decode cL_law 15 = .ok (.astore_n 2, 1) := by decide +kernel
theorem dL_law_16 : decode cL_law 16 = .ok (.iconst 0, 1) := by decide +kernel
theorem dL_law_17 : decode cL_law 17 = .ok (.istore_n 3, 1) := by decide +kernel
theorem dL_law_18 : decode cL_law 18 = .ok (.iload_n 3, 1) := by decide +kernel
theorem dL_law_19 : decode cL_law 19 = .ok (.aload_n 0, 1) := by decide +kernel
theorem dL_law_20 : decode cL_law 20 = .ok (.arraylength, 1) := by decide +kernel
theorem dL_law_21 : decode cL_law 21 = .ok (.bipush 6, 2) := by decide +kernel
theorem dL_law_23 : decode cL_law 23 = .ok (.isub, 1) := by decide +kernel
theorem dL_law_24 : decode cL_law 24 = .ok (.if_icmp .gt 900, 3) := by decide +kernel
theorem dL_law_27 : decode cL_law 27 = .ok (.aload_n 0, 1) := by decide +kernel
theorem dL_law_28 : decode cL_law 28 = .ok (.iload_n 3, 1) := by decide +kernel
theorem dL_law_29 : decode cL_law 29 = .ok (.iaload, 1) := by decide +kernel
theorem dL_law_30 : decode cL_law 30 = .ok (.bipush 31, 2) := by decide +kernel
theorem dL_law_32 : decode cL_law 32 = .ok (.iand, 1) := by decide +kernel
theorem dL_law_33 : decode cL_law 33 = .ok (.tableswitch 885 0 19 #[95, 138, 211, 274, 347, 380, 413, 456, 479, 502, 535, 578, 611, 664, 697, 730, 753, 776, 799, 862], 95) := by decide +kernel
theorem dL_law_128 : decode cL_law 128 = .ok (.aload_n 1, 1) := by decide +kernel
theorem dL_law_129 : decode cL_law 129 = .ok (.aload_n 0, 1) := by decide +kernel
theorem dL_law_130 : decode cL_law 130 = .ok (.iload_n 3, 1) := by decide +kernel
theorem dL_law_131 : decode cL_law 131 = .ok (.iconst 1, 1) := by decide +kernel
theorem dL_law_132 : decode cL_law 132 = .ok (.iadd, 1) := by decide +kernel
theorem dL_law_133 : decode cL_law 133 = .ok (.iaload, 1) := by decide +kernel
theorem dL_law_134 : decode cL_law 134 = .ok (.aload_n 0, 1) := by decide +kernel
theorem dL_law_135 : decode cL_law 135 = .ok (.iload_n 3, 1) := by decide +kernel
theorem dL_law_136 : decode cL_law 136 = .ok (.iconst 2, 1) := by decide +kernel
theorem dL_law_137 : decode cL_law 137 = .ok (.iadd, 1) := by decide +kernel
theorem dL_law_138 : decode cL_law 138 = .ok (.iaload, 1) := by decide +kernel
theorem dL_law_139 : decode cL_law 139 = .ok (.aload_n 0, 1) := by decide +kernel
theorem dL_law_140 : decode cL_law 140 = .ok (.iload_n 3, 1) := by decide +kernel
theorem dL_law_141 : decode cL_law 141 = .ok (.iconst 3, 1) := by decide +kernel
theorem dL_law_142 : decode cL_law 142 = .ok (.iadd, 1) := by decide +kernel
theorem dL_law_143 : decode cL_law 143 = .ok (.iaload, 1) := by decide +kernel
theorem dL_law_144 : decode cL_law 144 = .ok (.invokevirtual 13, 3) := by decide +kernel
theorem dL_law_147 : decode cL_law 147 = .ok (.aload_n 2, 1) := by decide +kernel
theorem dL_law_148 : decode cL_law 148 = .ok (.aload_n 0, 1) := by decide +kernel
theorem dL_law_149 : decode cL_law 149 = .ok (.iload_n 3, 1) := by decide +kernel
theorem dL_law_150 : decode cL_law 150 = .ok (.iconst 1, 1) := by decide +kernel
theorem dL_law_151 : decode cL_law 151 = .ok (.iadd, 1) := by decide +kernel
theorem dL_law_152 : decode cL_law 152 = .ok (.iaload, 1) := by decide +kernel
theorem dL_law_153 : decode cL_law 153 = .ok (.aload_n 0, 1) := by decide +kernel
theorem dL_law_154 : decode cL_law 154 = .ok (.iload_n 3, 1) := by decide +kernel
theorem dL_law_155 : decode cL_law 155 = .ok (.iconst 2, 1) := by decide +kernel
theorem dL_law_156 : decode cL_law 156 = .ok (.iadd, 1) := by decide +kernel
theorem dL_law_157 : decode cL_law 157 = .ok (.iaload, 1) := by decide +kernel
theorem dL_law_158 : decode cL_law 158 = .ok (.aload_n 0, 1) := by decide +kernel
theorem dL_law_159 : decode cL_law 159 = .ok (.iload_n 3, 1) := by decide +kernel
theorem dL_law_160 : decode cL_law 160 = .ok (.iconst 3, 1) := by decide +kernel
theorem dL_law_161 : decode cL_law 161 = .ok (.iadd, 1) := by decide +kernel
theorem dL_law_162 : decode cL_law 162 = .ok (.iaload, 1) := by decide +kernel
theorem dL_law_163 : decode cL_law 163 = .ok (.invokevirtual 17, 3) := by decide +kernel
theorem dL_law_166 : decode cL_law 166 = .ok (.if_icmp .eq 752, 3) := by decide +kernel
theorem dL_law_169 : decode cL_law 169 = .ok (.iconst 0, 1) := by decide +kernel
theorem dL_law_170 : decode cL_law 170 = .ok (.ireturn, 1) := by decide +kernel
theorem dL_law_171 : decode cL_law 171 = .ok (.aload_n 1, 1) := by decide +kernel
theorem dL_law_172 : decode cL_law 172 = .ok (.aload_n 0, 1) := by decide +kernel
theorem dL_law_173 : decode cL_law 173 = .ok (.iload_n 3, 1) := by decide +kernel
theorem dL_law_174 : decode cL_law 174 = .ok (.iconst 1, 1) := by decide +kernel
theorem dL_law_175 : decode cL_law 175 = .ok (.iadd, 1) := by decide +kernel
theorem dL_law_176 : decode cL_law 176 = .ok (.iaload, 1) := by decide +kernel
theorem dL_law_177 : decode cL_law 177 = .ok (.aload_n 0, 1) := by decide +kernel
theorem dL_law_178 : decode cL_law 178 = .ok (.iload_n 3, 1) := by decide +kernel
theorem dL_law_179 : decode cL_law 179 = .ok (.iconst 2, 1) := by decide +kernel
theorem dL_law_180 : decode cL_law 180 = .ok (.iadd, 1) := by decide +kernel
theorem dL_law_181 : decode cL_law 181 = .ok (.iaload, 1) := by decide +kernel
theorem dL_law_182 : decode cL_law 182 = .ok (.aload_n 0, 1) := by decide +kernel
theorem dL_law_183 : decode cL_law 183 = .ok (.iload_n 3, 1) := by decide +kernel
theorem dL_law_184 : decode cL_law 184 = .ok (.iconst 3, 1) := by decide +kernel
theorem dL_law_185 : decode cL_law 185 = .ok (.iadd, 1) := by decide +kernel
theorem dL_law_186 : decode cL_law 186 = .ok (.iaload, 1) := by decide +kernel
theorem dL_law_187 : decode cL_law 187 = .ok (.i2l, 1) := by decide +kernel
theorem dL_law_188 : decode cL_law 188 = .ok (.bipush 32, 2) := by decide +kernel
theorem dL_law_190 : decode cL_law 190 = .ok (.lshl, 1) := by decide +kernel
theorem dL_law_191 : decode cL_law 191 = .ok (.aload_n 0, 1) := by decide +kernel
theorem dL_law_192 : decode cL_law 192 = .ok (.iload_n 3, 1) := by decide +kernel
theorem dL_law_193 : decode cL_law 193 = .ok (.iconst 4, 1) := by decide +kernel
theorem dL_law_194 : decode cL_law 194 = .ok (.iadd, 1) := by decide +kernel
theorem dL_law_195 : decode cL_law 195 = .ok (.iaload, 1) := by decide +kernel
theorem dL_law_196 : decode cL_law 196 = .ok (.i2l, 1) := by decide +kernel
theorem dL_law_197 : decode cL_law 197 = .ok (.ldc2_w 18, 3) := by decide +kernel
theorem dL_law_200 : decode cL_law 200 = .ok (.land, 1) := by decide +kernel
theorem dL_law_201 : decode cL_law 201 = .ok (.lor, 1) := by decide +kernel
theorem dL_law_202 : decode cL_law 202 = .ok (.invokevirtual 20, 3) := by decide +kernel
theorem dL_law_205 : decode cL_law 205 = .ok (.aload_n 2, 1) := by decide +kernel
theorem dL_law_206 : decode cL_law 206 = .ok (.aload_n 0, 1) := by decide +kernel
theorem dL_law_207 : decode cL_law 207 = .ok (.iload_n 3, 1) := by decide +kernel
theorem dL_law_208 : decode cL_law 208 = .ok (.iconst 1, 1) := by decide +kernel
theorem dL_law_209 : decode cL_law 209 = .ok (.iadd, 1) := by decide +kernel
theorem dL_law_210 : decode cL_law 210 = .ok (.iaload, 1) := by decide +kernel
theorem dL_law_211 : decode cL_law 211 = .ok (.aload_n 0, 1) := by decide +kernel
theorem dL_law_212 : decode cL_law 212 = .ok (.iload_n 3, 1) := by decide +kernel
theorem dL_law_213 : decode cL_law 213 = .ok (.iconst 2, 1) := by decide +kernel
theorem dL_law_214 : decode cL_law 214 = .ok (.iadd, 1) := by decide +kernel
theorem dL_law_215 : decode cL_law 215 = .ok (.iaload, 1) := by decide +kernel
theorem dL_law_216 : decode cL_law 216 = .ok (.aload_n 0, 1) := by decide +kernel
theorem dL_law_217 : decode cL_law 217 = .ok (.iload_n 3, 1) := by decide +kernel
theorem dL_law_218 : decode cL_law 218 = .ok (.iconst 3, 1) := by decide +kernel
theorem dL_law_219 : decode cL_law 219 = .ok (.iadd, 1) := by decide +kernel
theorem dL_law_220 : decode cL_law 220 = .ok (.iaload, 1) := by decide +kernel
theorem dL_law_221 : decode cL_law 221 = .ok (.i2l, 1) := by decide +kernel
theorem dL_law_222 : decode cL_law 222 = .ok (.bipush 32, 2) := by decide +kernel
theorem dL_law_224 : decode cL_law 224 = .ok (.lshl, 1) := by decide +kernel
theorem dL_law_225 : decode cL_law 225 = .ok (.aload_n 0, 1) := by decide +kernel
theorem dL_law_226 : decode cL_law 226 = .ok (.iload_n 3, 1) := by decide +kernel
theorem dL_law_227 : decode cL_law 227 = .ok (.iconst 4, 1) := by decide +kernel
theorem dL_law_228 : decode cL_law 228 = .ok (.iadd, 1) := by decide +kernel
theorem dL_law_229 : decode cL_law 229 = .ok (.iaload, 1) := by decide +kernel
theorem dL_law_230 : decode cL_law 230 = .ok (.i2l, 1) := by decide +kernel
theorem dL_law_231 : decode cL_law 231 = .ok (.ldc2_w 18, 3) := by decide +kernel
theorem dL_law_234 : decode cL_law 234 = .ok (.land, 1) := by decide +kernel
theorem dL_law_235 : decode cL_law 235 = .ok (.lor, 1) := by decide +kernel
theorem dL_law_236 : decode cL_law 236 = .ok (.invokevirtual 24, 3) := by decide +kernel
theorem dL_law_239 : decode cL_law 239 = .ok (.if_icmp .eq 679, 3) := by decide +kernel
theorem dL_law_242 : decode cL_law 242 = .ok (.iconst 0, 1) := by decide +kernel
theorem dL_law_243 : decode cL_law 243 = .ok (.ireturn, 1) := by decide +kernel
theorem dL_law_244 : decode cL_law 244 = .ok (.aload_n 1, 1) := by decide +kernel
theorem dL_law_245 : decode cL_law 245 = .ok (.aload_n 0, 1) := by decide +kernel
theorem dL_law_246 : decode cL_law 246 = .ok (.iload_n 3, 1) := by decide +kernel
theorem dL_law_247 : decode cL_law 247 = .ok (.iconst 1, 1) := by decide +kernel
theorem dL_law_248 : decode cL_law 248 = .ok (.iadd, 1) := by decide +kernel
theorem dL_law_249 : decode cL_law 249 = .ok (.iaload, 1) := by decide +kernel
theorem dL_law_250 : decode cL_law 250 = .ok (.aload_n 0, 1) := by decide +kernel
theorem dL_law_251 : decode cL_law 251 = .ok (.iload_n 3, 1) := by decide +kernel
theorem dL_law_252 : decode cL_law 252 = .ok (.iconst 2, 1) := by decide +kernel
theorem dL_law_253 : decode cL_law 253 = .ok (.iadd, 1) := by decide +kernel
theorem dL_law_254 : decode cL_law 254 = .ok (.iaload, 1) := by decide +kernel
theorem dL_law_255 : decode cL_law 255 = .ok (.aload_n 0, 1) := by decide +kernel
theorem dL_law_256 : decode cL_law 256 = .ok (.iload_n 3, 1) := by decide +kernel
theorem dL_law_257 : decode cL_law 257 = .ok (.iconst 3, 1) := by decide +kernel
theorem dL_law_258 : decode cL_law 258 = .ok (.iadd, 1) := by decide +kernel
theorem dL_law_259 : decode cL_law 259 = .ok (.iaload, 1) := by decide +kernel
theorem dL_law_260 : decode cL_law 260 = .ok (.aload_n 0, 1) := by decide +kernel
theorem dL_law_261 : decode cL_law 261 = .ok (.iload_n 3, 1) := by decide +kernel
theorem dL_law_262 : decode cL_law 262 = .ok (.iconst 4, 1) := by decide +kernel
theorem dL_law_263 : decode cL_law 263 = .ok (.iadd, 1) := by decide +kernel
theorem dL_law_264 : decode cL_law 264 = .ok (.iaload, 1) := by decide +kernel
theorem dL_law_265 : decode cL_law 265 = .ok (.aload_n 0, 1) := by decide +kernel
theorem dL_law_266 : decode cL_law 266 = .ok (.iload_n 3, 1) := by decide +kernel
theorem dL_law_267 : decode cL_law 267 = .ok (.iconst 5, 1) := by decide +kernel
theorem dL_law_268 : decode cL_law 268 = .ok (.iadd, 1) := by decide +kernel
theorem dL_law_269 : decode cL_law 269 = .ok (.iaload, 1) := by decide +kernel
theorem dL_law_270 : decode cL_law 270 = .ok (.invokevirtual 25, 3) := by decide +kernel
theorem dL_law_273 : decode cL_law 273 = .ok (.aload_n 2, 1) := by decide +kernel
theorem dL_law_274 : decode cL_law 274 = .ok (.aload_n 0, 1) := by decide +kernel
theorem dL_law_275 : decode cL_law 275 = .ok (.iload_n 3, 1) := by decide +kernel
theorem dL_law_276 : decode cL_law 276 = .ok (.iconst 1, 1) := by decide +kernel
theorem dL_law_277 : decode cL_law 277 = .ok (.iadd, 1) := by decide +kernel
theorem dL_law_278 : decode cL_law 278 = .ok (.iaload, 1) := by decide +kernel
theorem dL_law_279 : decode cL_law 279 = .ok (.aload_n 0, 1) := by decide +kernel
theorem dL_law_280 : decode cL_law 280 = .ok (.iload_n 3, 1) := by decide +kernel
theorem dL_law_281 : decode cL_law 281 = .ok (.iconst 2, 1) := by decide +kernel
theorem dL_law_282 : decode cL_law 282 = .ok (.iadd, 1) := by decide +kernel
theorem dL_law_283 : decode cL_law 283 = .ok (.iaload, 1) := by decide +kernel
theorem dL_law_284 : decode cL_law 284 = .ok (.aload_n 0, 1) := by decide +kernel
theorem dL_law_285 : decode cL_law 285 = .ok (.iload_n 3, 1) := by decide +kernel
theorem dL_law_286 : decode cL_law 286 = .ok (.iconst 3, 1) := by decide +kernel
theorem dL_law_287 : decode cL_law 287 = .ok (.iadd, 1) := by decide +kernel
theorem dL_law_288 : decode cL_law 288 = .ok (.iaload, 1) := by decide +kernel
theorem dL_law_289 : decode cL_law 289 = .ok (.aload_n 0, 1) := by decide +kernel
theorem dL_law_290 : decode cL_law 290 = .ok (.iload_n 3, 1) := by decide +kernel
theorem dL_law_291 : decode cL_law 291 = .ok (.iconst 4, 1) := by decide +kernel
theorem dL_law_292 : decode cL_law 292 = .ok (.iadd, 1) := by decide +kernel
theorem dL_law_293 : decode cL_law 293 = .ok (.iaload, 1) := by decide +kernel
theorem dL_law_294 : decode cL_law 294 = .ok (.aload_n 0, 1) := by decide +kernel
theorem dL_law_295 : decode cL_law 295 = .ok (.iload_n 3, 1) := by decide +kernel
theorem dL_law_296 : decode cL_law 296 = .ok (.iconst 5, 1) := by decide +kernel
theorem dL_law_297 : decode cL_law 297 = .ok (.iadd, 1) := by decide +kernel
theorem dL_law_298 : decode cL_law 298 = .ok (.iaload, 1) := by decide +kernel
theorem dL_law_299 : decode cL_law 299 = .ok (.invokevirtual 29, 3) := by decide +kernel
theorem dL_law_302 : decode cL_law 302 = .ok (.if_icmp .eq 616, 3) := by decide +kernel
theorem dL_law_305 : decode cL_law 305 = .ok (.iconst 0, 1) := by decide +kernel
theorem dL_law_306 : decode cL_law 306 = .ok (.ireturn, 1) := by decide +kernel
theorem dL_law_307 : decode cL_law 307 = .ok (.aload_n 1, 1) := by decide +kernel
theorem dL_law_308 : decode cL_law 308 = .ok (.aload_n 0, 1) := by decide +kernel
theorem dL_law_309 : decode cL_law 309 = .ok (.iload_n 3, 1) := by decide +kernel
theorem dL_law_310 : decode cL_law 310 = .ok (.iconst 1, 1) := by decide +kernel
theorem dL_law_311 : decode cL_law 311 = .ok (.iadd, 1) := by decide +kernel
theorem dL_law_312 : decode cL_law 312 = .ok (.iaload, 1) := by decide +kernel
theorem dL_law_313 : decode cL_law 313 = .ok (.aload_n 0, 1) := by decide +kernel
theorem dL_law_314 : decode cL_law 314 = .ok (.iload_n 3, 1) := by decide +kernel
theorem dL_law_315 : decode cL_law 315 = .ok (.iconst 2, 1) := by decide +kernel
theorem dL_law_316 : decode cL_law 316 = .ok (.iadd, 1) := by decide +kernel
theorem dL_law_317 : decode cL_law 317 = .ok (.iaload, 1) := by decide +kernel
theorem dL_law_318 : decode cL_law 318 = .ok (.aload_n 0, 1) := by decide +kernel
theorem dL_law_319 : decode cL_law 319 = .ok (.iload_n 3, 1) := by decide +kernel
theorem dL_law_320 : decode cL_law 320 = .ok (.iconst 3, 1) := by decide +kernel
theorem dL_law_321 : decode cL_law 321 = .ok (.iadd, 1) := by decide +kernel
theorem dL_law_322 : decode cL_law 322 = .ok (.iaload, 1) := by decide +kernel
theorem dL_law_323 : decode cL_law 323 = .ok (.i2l, 1) := by decide +kernel
theorem dL_law_324 : decode cL_law 324 = .ok (.bipush 32, 2) := by decide +kernel
theorem dL_law_326 : decode cL_law 326 = .ok (.lshl, 1) := by decide +kernel
theorem dL_law_327 : decode cL_law 327 = .ok (.aload_n 0, 1) := by decide +kernel
theorem dL_law_328 : decode cL_law 328 = .ok (.iload_n 3, 1) := by decide +kernel
theorem dL_law_329 : decode cL_law 329 = .ok (.iconst 4, 1) := by decide +kernel
theorem dL_law_330 : decode cL_law 330 = .ok (.iadd, 1) := by decide +kernel
theorem dL_law_331 : decode cL_law 331 = .ok (.iaload, 1) := by decide +kernel
theorem dL_law_332 : decode cL_law 332 = .ok (.i2l, 1) := by decide +kernel
theorem dL_law_333 : decode cL_law 333 = .ok (.ldc2_w 18, 3) := by decide +kernel
theorem dL_law_336 : decode cL_law 336 = .ok (.land, 1) := by decide +kernel
theorem dL_law_337 : decode cL_law 337 = .ok (.lor, 1) := by decide +kernel
theorem dL_law_338 : decode cL_law 338 = .ok (.invokevirtual 30, 3) := by decide +kernel
theorem dL_law_341 : decode cL_law 341 = .ok (.aload_n 2, 1) := by decide +kernel
theorem dL_law_342 : decode cL_law 342 = .ok (.aload_n 0, 1) := by decide +kernel
theorem dL_law_343 : decode cL_law 343 = .ok (.iload_n 3, 1) := by decide +kernel
theorem dL_law_344 : decode cL_law 344 = .ok (.iconst 1, 1) := by decide +kernel
theorem dL_law_345 : decode cL_law 345 = .ok (.iadd, 1) := by decide +kernel
theorem dL_law_346 : decode cL_law 346 = .ok (.iaload, 1) := by decide +kernel
theorem dL_law_347 : decode cL_law 347 = .ok (.aload_n 0, 1) := by decide +kernel
theorem dL_law_348 : decode cL_law 348 = .ok (.iload_n 3, 1) := by decide +kernel
theorem dL_law_349 : decode cL_law 349 = .ok (.iconst 2, 1) := by decide +kernel
theorem dL_law_350 : decode cL_law 350 = .ok (.iadd, 1) := by decide +kernel
theorem dL_law_351 : decode cL_law 351 = .ok (.iaload, 1) := by decide +kernel
theorem dL_law_352 : decode cL_law 352 = .ok (.aload_n 0, 1) := by decide +kernel
theorem dL_law_353 : decode cL_law 353 = .ok (.iload_n 3, 1) := by decide +kernel
theorem dL_law_354 : decode cL_law 354 = .ok (.iconst 3, 1) := by decide +kernel
theorem dL_law_355 : decode cL_law 355 = .ok (.iadd, 1) := by decide +kernel
theorem dL_law_356 : decode cL_law 356 = .ok (.iaload, 1) := by decide +kernel
theorem dL_law_357 : decode cL_law 357 = .ok (.i2l, 1) := by decide +kernel
theorem dL_law_358 : decode cL_law 358 = .ok (.bipush 32, 2) := by decide +kernel
theorem dL_law_360 : decode cL_law 360 = .ok (.lshl, 1) := by decide +kernel
theorem dL_law_361 : decode cL_law 361 = .ok (.aload_n 0, 1) := by decide +kernel
theorem dL_law_362 : decode cL_law 362 = .ok (.iload_n 3, 1) := by decide +kernel
theorem dL_law_363 : decode cL_law 363 = .ok (.iconst 4, 1) := by decide +kernel
theorem dL_law_364 : decode cL_law 364 = .ok (.iadd, 1) := by decide +kernel
theorem dL_law_365 : decode cL_law 365 = .ok (.iaload, 1) := by decide +kernel
theorem dL_law_366 : decode cL_law 366 = .ok (.i2l, 1) := by decide +kernel
theorem dL_law_367 : decode cL_law 367 = .ok (.ldc2_w 18, 3) := by decide +kernel
theorem dL_law_370 : decode cL_law 370 = .ok (.land, 1) := by decide +kernel
theorem dL_law_371 : decode cL_law 371 = .ok (.lor, 1) := by decide +kernel
theorem dL_law_372 : decode cL_law 372 = .ok (.invokevirtual 33, 3) := by decide +kernel
theorem dL_law_375 : decode cL_law 375 = .ok (.if_icmp .eq 543, 3) := by decide +kernel
theorem dL_law_378 : decode cL_law 378 = .ok (.iconst 0, 1) := by decide +kernel
theorem dL_law_379 : decode cL_law 379 = .ok (.ireturn, 1) := by decide +kernel
theorem dL_law_380 : decode cL_law 380 = .ok (.aload_n 1, 1) := by decide +kernel
theorem dL_law_381 : decode cL_law 381 = .ok (.aload_n 0, 1) := by decide +kernel
theorem dL_law_382 : decode cL_law 382 = .ok (.iload_n 3, 1) := by decide +kernel
theorem dL_law_383 : decode cL_law 383 = .ok (.iconst 1, 1) := by decide +kernel
theorem dL_law_384 : decode cL_law 384 = .ok (.iadd, 1) := by decide +kernel
theorem dL_law_385 : decode cL_law 385 = .ok (.iaload, 1) := by decide +kernel
theorem dL_law_386 : decode cL_law 386 = .ok (.aload_n 0, 1) := by decide +kernel
theorem dL_law_387 : decode cL_law 387 = .ok (.iload_n 3, 1) := by decide +kernel
theorem dL_law_388 : decode cL_law 388 = .ok (.iconst 2, 1) := by decide +kernel
theorem dL_law_389 : decode cL_law 389 = .ok (.iadd, 1) := by decide +kernel
theorem dL_law_390 : decode cL_law 390 = .ok (.iaload, 1) := by decide +kernel
theorem dL_law_391 : decode cL_law 391 = .ok (.invokevirtual 34, 3) := by decide +kernel
theorem dL_law_394 : decode cL_law 394 = .ok (.aload_n 2, 1) := by decide +kernel
theorem dL_law_395 : decode cL_law 395 = .ok (.aload_n 0, 1) := by decide +kernel
theorem dL_law_396 : decode cL_law 396 = .ok (.iload_n 3, 1) := by decide +kernel
theorem dL_law_397 : decode cL_law 397 = .ok (.iconst 1, 1) := by decide +kernel
theorem dL_law_398 : decode cL_law 398 = .ok (.iadd, 1) := by decide +kernel
theorem dL_law_399 : decode cL_law 399 = .ok (.iaload, 1) := by decide +kernel
theorem dL_law_400 : decode cL_law 400 = .ok (.aload_n 0, 1) := by decide +kernel
theorem dL_law_401 : decode cL_law 401 = .ok (.iload_n 3, 1) := by decide +kernel
theorem dL_law_402 : decode cL_law 402 = .ok (.iconst 2, 1) := by decide +kernel
theorem dL_law_403 : decode cL_law 403 = .ok (.iadd, 1) := by decide +kernel
theorem dL_law_404 : decode cL_law 404 = .ok (.iaload, 1) := by decide +kernel
theorem dL_law_405 : decode cL_law 405 = .ok (.invokevirtual 38, 3) := by decide +kernel
theorem dL_law_408 : decode cL_law 408 = .ok (.if_icmp .eq 510, 3) := by decide +kernel
theorem dL_law_411 : decode cL_law 411 = .ok (.iconst 0, 1) := by decide +kernel
theorem dL_law_412 : decode cL_law 412 = .ok (.ireturn, 1) := by decide +kernel
theorem dL_law_413 : decode cL_law 413 = .ok (.aload_n 1, 1) := by decide +kernel
theorem dL_law_414 : decode cL_law 414 = .ok (.aload_n 0, 1) := by decide +kernel
theorem dL_law_415 : decode cL_law 415 = .ok (.iload_n 3, 1) := by decide +kernel
theorem dL_law_416 : decode cL_law 416 = .ok (.iconst 1, 1) := by decide +kernel
theorem dL_law_417 : decode cL_law 417 = .ok (.iadd, 1) := by decide +kernel
theorem dL_law_418 : decode cL_law 418 = .ok (.iaload, 1) := by decide +kernel
theorem dL_law_419 : decode cL_law 419 = .ok (.aload_n 0, 1) := by decide +kernel
theorem dL_law_420 : decode cL_law 420 = .ok (.iload_n 3, 1) := by decide +kernel
theorem dL_law_421 : decode cL_law 421 = .ok (.iconst 2, 1) := by decide +kernel
theorem dL_law_422 : decode cL_law 422 = .ok (.iadd, 1) := by decide +kernel
theorem dL_law_423 : decode cL_law 423 = .ok (.iaload, 1) := by decide +kernel
theorem dL_law_424 : decode cL_law 424 = .ok (.invokevirtual 39, 3) := by decide +kernel
theorem dL_law_427 : decode cL_law 427 = .ok (.aload_n 2, 1) := by decide +kernel
theorem dL_law_428 : decode cL_law 428 = .ok (.aload_n 0, 1) := by decide +kernel
theorem dL_law_429 : decode cL_law 429 = .ok (.iload_n 3, 1) := by decide +kernel
theorem dL_law_430 : decode cL_law 430 = .ok (.iconst 1, 1) := by decide +kernel
theorem dL_law_431 : decode cL_law 431 = .ok (.iadd, 1) := by decide +kernel
theorem dL_law_432 : decode cL_law 432 = .ok (.iaload, 1) := by decide +kernel
theorem dL_law_433 : decode cL_law 433 = .ok (.aload_n 0, 1) := by decide +kernel
theorem dL_law_434 : decode cL_law 434 = .ok (.iload_n 3, 1) := by decide +kernel
theorem dL_law_435 : decode cL_law 435 = .ok (.iconst 2, 1) := by decide +kernel
theorem dL_law_436 : decode cL_law 436 = .ok (.iadd, 1) := by decide +kernel
theorem dL_law_437 : decode cL_law 437 = .ok (.iaload, 1) := by decide +kernel
theorem dL_law_438 : decode cL_law 438 = .ok (.invokevirtual 42, 3) := by decide +kernel
theorem dL_law_441 : decode cL_law 441 = .ok (.if_icmp .eq 477, 3) := by decide +kernel
theorem dL_law_444 : decode cL_law 444 = .ok (.iconst 0, 1) := by decide +kernel
theorem dL_law_445 : decode cL_law 445 = .ok (.ireturn, 1) := by decide +kernel
theorem dL_law_446 : decode cL_law 446 = .ok (.aload_n 1, 1) := by decide +kernel
theorem dL_law_447 : decode cL_law 447 = .ok (.aload_n 0, 1) := by decide +kernel
theorem dL_law_448 : decode cL_law 448 = .ok (.iload_n 3, 1) := by decide +kernel
theorem dL_law_449 : decode cL_law 449 = .ok (.iconst 1, 1) := by decide +kernel
theorem dL_law_450 : decode cL_law 450 = .ok (.iadd, 1) := by decide +kernel
theorem dL_law_451 : decode cL_law 451 = .ok (.iaload, 1) := by decide +kernel
theorem dL_law_452 : decode cL_law 452 = .ok (.aload_n 0, 1) := by decide +kernel
theorem dL_law_453 : decode cL_law 453 = .ok (.iload_n 3, 1) := by decide +kernel
theorem dL_law_454 : decode cL_law 454 = .ok (.iconst 2, 1) := by decide +kernel
theorem dL_law_455 : decode cL_law 455 = .ok (.iadd, 1) := by decide +kernel
theorem dL_law_456 : decode cL_law 456 = .ok (.iaload, 1) := by decide +kernel
theorem dL_law_457 : decode cL_law 457 = .ok (.aload_n 0, 1) := by decide +kernel
theorem dL_law_458 : decode cL_law 458 = .ok (.iload_n 3, 1) := by decide +kernel
theorem dL_law_459 : decode cL_law 459 = .ok (.iconst 3, 1) := by decide +kernel
theorem dL_law_460 : decode cL_law 460 = .ok (.iadd, 1) := by decide +kernel
theorem dL_law_461 : decode cL_law 461 = .ok (.iaload, 1) := by decide +kernel
theorem dL_law_462 : decode cL_law 462 = .ok (.invokevirtual 43, 3) := by decide +kernel
theorem dL_law_465 : decode cL_law 465 = .ok (.aload_n 2, 1) := by decide +kernel
theorem dL_law_466 : decode cL_law 466 = .ok (.aload_n 0, 1) := by decide +kernel
theorem dL_law_467 : decode cL_law 467 = .ok (.iload_n 3, 1) := by decide +kernel
theorem dL_law_468 : decode cL_law 468 = .ok (.iconst 1, 1) := by decide +kernel
theorem dL_law_469 : decode cL_law 469 = .ok (.iadd, 1) := by decide +kernel
theorem dL_law_470 : decode cL_law 470 = .ok (.iaload, 1) := by decide +kernel
theorem dL_law_471 : decode cL_law 471 = .ok (.aload_n 0, 1) := by decide +kernel
theorem dL_law_472 : decode cL_law 472 = .ok (.iload_n 3, 1) := by decide +kernel
theorem dL_law_473 : decode cL_law 473 = .ok (.iconst 2, 1) := by decide +kernel
theorem dL_law_474 : decode cL_law 474 = .ok (.iadd, 1) := by decide +kernel
theorem dL_law_475 : decode cL_law 475 = .ok (.iaload, 1) := by decide +kernel
theorem dL_law_476 : decode cL_law 476 = .ok (.aload_n 0, 1) := by decide +kernel
theorem dL_law_477 : decode cL_law 477 = .ok (.iload_n 3, 1) := by decide +kernel
theorem dL_law_478 : decode cL_law 478 = .ok (.iconst 3, 1) := by decide +kernel
theorem dL_law_479 : decode cL_law 479 = .ok (.iadd, 1) := by decide +kernel
theorem dL_law_480 : decode cL_law 480 = .ok (.iaload, 1) := by decide +kernel
theorem dL_law_481 : decode cL_law 481 = .ok (.invokevirtual 46, 3) := by decide +kernel
theorem dL_law_484 : decode cL_law 484 = .ok (.if_icmp .eq 434, 3) := by decide +kernel
theorem dL_law_487 : decode cL_law 487 = .ok (.iconst 0, 1) := by decide +kernel
theorem dL_law_488 : decode cL_law 488 = .ok (.ireturn, 1) := by decide +kernel
theorem dL_law_489 : decode cL_law 489 = .ok (.aload_n 1, 1) := by decide +kernel
theorem dL_law_490 : decode cL_law 490 = .ok (.aload_n 0, 1) := by decide +kernel
theorem dL_law_491 : decode cL_law 491 = .ok (.iload_n 3, 1) := by decide +kernel
theorem dL_law_492 : decode cL_law 492 = .ok (.iconst 1, 1) := by decide +kernel
theorem dL_law_493 : decode cL_law 493 = .ok (.iadd, 1) := by decide +kernel
theorem dL_law_494 : decode cL_law 494 = .ok (.iaload, 1) := by decide +kernel
theorem dL_law_495 : decode cL_law 495 = .ok (.invokevirtual 47, 3) := by decide +kernel
theorem dL_law_498 : decode cL_law 498 = .ok (.aload_n 2, 1) := by decide +kernel
theorem dL_law_499 : decode cL_law 499 = .ok (.aload_n 0, 1) := by decide +kernel
theorem dL_law_500 : decode cL_law 500 = .ok (.iload_n 3, 1) := by decide +kernel
theorem dL_law_501 : decode cL_law 501 = .ok (.iconst 1, 1) := by decide +kernel
theorem dL_law_502 : decode cL_law 502 = .ok (.iadd, 1) := by decide +kernel
theorem dL_law_503 : decode cL_law 503 = .ok (.iaload, 1) := by decide +kernel
theorem dL_law_504 : decode cL_law 504 = .ok (.invokevirtual 51, 3) := by decide +kernel
theorem dL_law_507 : decode cL_law 507 = .ok (.if_icmp .eq 411, 3) := by decide +kernel
theorem dL_law_510 : decode cL_law 510 = .ok (.iconst 0, 1) := by decide +kernel
theorem dL_law_511 : decode cL_law 511 = .ok (.ireturn, 1) := by decide +kernel
theorem dL_law_512 : decode cL_law 512 = .ok (.aload_n 1, 1) := by decide +kernel
theorem dL_law_513 : decode cL_law 513 = .ok (.aload_n 0, 1) := by decide +kernel
theorem dL_law_514 : decode cL_law 514 = .ok (.iload_n 3, 1) := by decide +kernel
theorem dL_law_515 : decode cL_law 515 = .ok (.iconst 1, 1) := by decide +kernel
theorem dL_law_516 : decode cL_law 516 = .ok (.iadd, 1) := by decide +kernel
theorem dL_law_517 : decode cL_law 517 = .ok (.iaload, 1) := by decide +kernel
theorem dL_law_518 : decode cL_law 518 = .ok (.invokevirtual 52, 3) := by decide +kernel
theorem dL_law_521 : decode cL_law 521 = .ok (.aload_n 2, 1) := by decide +kernel
theorem dL_law_522 : decode cL_law 522 = .ok (.aload_n 0, 1) := by decide +kernel
theorem dL_law_523 : decode cL_law 523 = .ok (.iload_n 3, 1) := by decide +kernel
theorem dL_law_524 : decode cL_law 524 = .ok (.iconst 1, 1) := by decide +kernel
theorem dL_law_525 : decode cL_law 525 = .ok (.iadd, 1) := by decide +kernel
theorem dL_law_526 : decode cL_law 526 = .ok (.iaload, 1) := by decide +kernel
theorem dL_law_527 : decode cL_law 527 = .ok (.invokevirtual 55, 3) := by decide +kernel
theorem dL_law_530 : decode cL_law 530 = .ok (.if_icmp .eq 388, 3) := by decide +kernel
theorem dL_law_533 : decode cL_law 533 = .ok (.iconst 0, 1) := by decide +kernel
theorem dL_law_534 : decode cL_law 534 = .ok (.ireturn, 1) := by decide +kernel
theorem dL_law_535 : decode cL_law 535 = .ok (.aload_n 1, 1) := by decide +kernel
theorem dL_law_536 : decode cL_law 536 = .ok (.aload_n 0, 1) := by decide +kernel
theorem dL_law_537 : decode cL_law 537 = .ok (.iload_n 3, 1) := by decide +kernel
theorem dL_law_538 : decode cL_law 538 = .ok (.iconst 1, 1) := by decide +kernel
theorem dL_law_539 : decode cL_law 539 = .ok (.iadd, 1) := by decide +kernel
theorem dL_law_540 : decode cL_law 540 = .ok (.iaload, 1) := by decide +kernel
theorem dL_law_541 : decode cL_law 541 = .ok (.aload_n 0, 1) := by decide +kernel
theorem dL_law_542 : decode cL_law 542 = .ok (.iload_n 3, 1) := by decide +kernel
theorem dL_law_543 : decode cL_law 543 = .ok (.iconst 2, 1) := by decide +kernel
theorem dL_law_544 : decode cL_law 544 = .ok (.iadd, 1) := by decide +kernel
theorem dL_law_545 : decode cL_law 545 = .ok (.iaload, 1) := by decide +kernel
theorem dL_law_546 : decode cL_law 546 = .ok (.invokevirtual 56, 3) := by decide +kernel
theorem dL_law_549 : decode cL_law 549 = .ok (.aload_n 2, 1) := by decide +kernel
theorem dL_law_550 : decode cL_law 550 = .ok (.aload_n 0, 1) := by decide +kernel
theorem dL_law_551 : decode cL_law 551 = .ok (.iload_n 3, 1) := by decide +kernel
theorem dL_law_552 : decode cL_law 552 = .ok (.iconst 1, 1) := by decide +kernel
theorem dL_law_553 : decode cL_law 553 = .ok (.iadd, 1) := by decide +kernel
theorem dL_law_554 : decode cL_law 554 = .ok (.iaload, 1) := by decide +kernel
theorem dL_law_555 : decode cL_law 555 = .ok (.aload_n 0, 1) := by decide +kernel
theorem dL_law_556 : decode cL_law 556 = .ok (.iload_n 3, 1) := by decide +kernel
theorem dL_law_557 : decode cL_law 557 = .ok (.iconst 2, 1) := by decide +kernel
theorem dL_law_558 : decode cL_law 558 = .ok (.iadd, 1) := by decide +kernel
theorem dL_law_559 : decode cL_law 559 = .ok (.iaload, 1) := by decide +kernel
theorem dL_law_560 : decode cL_law 560 = .ok (.invokevirtual 59, 3) := by decide +kernel
theorem dL_law_563 : decode cL_law 563 = .ok (.if_icmp .eq 355, 3) := by decide +kernel
theorem dL_law_566 : decode cL_law 566 = .ok (.iconst 0, 1) := by decide +kernel
theorem dL_law_567 : decode cL_law 567 = .ok (.ireturn, 1) := by decide +kernel
theorem dL_law_568 : decode cL_law 568 = .ok (.aload_n 1, 1) := by decide +kernel
theorem dL_law_569 : decode cL_law 569 = .ok (.aload_n 0, 1) := by decide +kernel
theorem dL_law_570 : decode cL_law 570 = .ok (.iload_n 3, 1) := by decide +kernel
theorem dL_law_571 : decode cL_law 571 = .ok (.iconst 1, 1) := by decide +kernel
theorem dL_law_572 : decode cL_law 572 = .ok (.iadd, 1) := by decide +kernel
theorem dL_law_573 : decode cL_law 573 = .ok (.iaload, 1) := by decide +kernel
theorem dL_law_574 : decode cL_law 574 = .ok (.aload_n 0, 1) := by decide +kernel
theorem dL_law_575 : decode cL_law 575 = .ok (.iload_n 3, 1) := by decide +kernel
theorem dL_law_576 : decode cL_law 576 = .ok (.iconst 2, 1) := by decide +kernel
theorem dL_law_577 : decode cL_law 577 = .ok (.iadd, 1) := by decide +kernel
theorem dL_law_578 : decode cL_law 578 = .ok (.iaload, 1) := by decide +kernel
theorem dL_law_579 : decode cL_law 579 = .ok (.aload_n 0, 1) := by decide +kernel
theorem dL_law_580 : decode cL_law 580 = .ok (.iload_n 3, 1) := by decide +kernel
theorem dL_law_581 : decode cL_law 581 = .ok (.iconst 3, 1) := by decide +kernel
theorem dL_law_582 : decode cL_law 582 = .ok (.iadd, 1) := by decide +kernel
theorem dL_law_583 : decode cL_law 583 = .ok (.iaload, 1) := by decide +kernel
theorem dL_law_584 : decode cL_law 584 = .ok (.invokevirtual 60, 3) := by decide +kernel
theorem dL_law_587 : decode cL_law 587 = .ok (.aload_n 2, 1) := by decide +kernel
theorem dL_law_588 : decode cL_law 588 = .ok (.aload_n 0, 1) := by decide +kernel
theorem dL_law_589 : decode cL_law 589 = .ok (.iload_n 3, 1) := by decide +kernel
theorem dL_law_590 : decode cL_law 590 = .ok (.iconst 1, 1) := by decide +kernel
theorem dL_law_591 : decode cL_law 591 = .ok (.iadd, 1) := by decide +kernel
theorem dL_law_592 : decode cL_law 592 = .ok (.iaload, 1) := by decide +kernel
theorem dL_law_593 : decode cL_law 593 = .ok (.aload_n 0, 1) := by decide +kernel
theorem dL_law_594 : decode cL_law 594 = .ok (.iload_n 3, 1) := by decide +kernel
theorem dL_law_595 : decode cL_law 595 = .ok (.iconst 2, 1) := by decide +kernel
theorem dL_law_596 : decode cL_law 596 = .ok (.iadd, 1) := by decide +kernel
theorem dL_law_597 : decode cL_law 597 = .ok (.iaload, 1) := by decide +kernel
theorem dL_law_598 : decode cL_law 598 = .ok (.aload_n 0, 1) := by decide +kernel
theorem dL_law_599 : decode cL_law 599 = .ok (.iload_n 3, 1) := by decide +kernel
theorem dL_law_600 : decode cL_law 600 = .ok (.iconst 3, 1) := by decide +kernel
theorem dL_law_601 : decode cL_law 601 = .ok (.iadd, 1) := by decide +kernel
theorem dL_law_602 : decode cL_law 602 = .ok (.iaload, 1) := by decide +kernel
theorem dL_law_603 : decode cL_law 603 = .ok (.invokevirtual 63, 3) := by decide +kernel
theorem dL_law_606 : decode cL_law 606 = .ok (.if_icmp .eq 312, 3) := by decide +kernel
theorem dL_law_609 : decode cL_law 609 = .ok (.iconst 0, 1) := by decide +kernel
theorem dL_law_610 : decode cL_law 610 = .ok (.ireturn, 1) := by decide +kernel
theorem dL_law_611 : decode cL_law 611 = .ok (.aload_n 1, 1) := by decide +kernel
theorem dL_law_612 : decode cL_law 612 = .ok (.aload_n 0, 1) := by decide +kernel
theorem dL_law_613 : decode cL_law 613 = .ok (.iload_n 3, 1) := by decide +kernel
theorem dL_law_614 : decode cL_law 614 = .ok (.iconst 1, 1) := by decide +kernel
theorem dL_law_615 : decode cL_law 615 = .ok (.iadd, 1) := by decide +kernel
theorem dL_law_616 : decode cL_law 616 = .ok (.iaload, 1) := by decide +kernel
theorem dL_law_617 : decode cL_law 617 = .ok (.aload_n 0, 1) := by decide +kernel
theorem dL_law_618 : decode cL_law 618 = .ok (.iload_n 3, 1) := by decide +kernel
theorem dL_law_619 : decode cL_law 619 = .ok (.iconst 2, 1) := by decide +kernel
theorem dL_law_620 : decode cL_law 620 = .ok (.iadd, 1) := by decide +kernel
theorem dL_law_621 : decode cL_law 621 = .ok (.iaload, 1) := by decide +kernel
theorem dL_law_622 : decode cL_law 622 = .ok (.invokevirtual 64, 3) := by decide +kernel
theorem dL_law_625 : decode cL_law 625 = .ok (.aload_n 2, 1) := by decide +kernel
theorem dL_law_626 : decode cL_law 626 = .ok (.aload_n 0, 1) := by decide +kernel
theorem dL_law_627 : decode cL_law 627 = .ok (.iload_n 3, 1) := by decide +kernel
theorem dL_law_628 : decode cL_law 628 = .ok (.iconst 1, 1) := by decide +kernel
theorem dL_law_629 : decode cL_law 629 = .ok (.iadd, 1) := by decide +kernel
theorem dL_law_630 : decode cL_law 630 = .ok (.iaload, 1) := by decide +kernel
theorem dL_law_631 : decode cL_law 631 = .ok (.aload_n 0, 1) := by decide +kernel
theorem dL_law_632 : decode cL_law 632 = .ok (.iload_n 3, 1) := by decide +kernel
theorem dL_law_633 : decode cL_law 633 = .ok (.iconst 2, 1) := by decide +kernel
theorem dL_law_634 : decode cL_law 634 = .ok (.iadd, 1) := by decide +kernel
theorem dL_law_635 : decode cL_law 635 = .ok (.iaload, 1) := by decide +kernel
theorem dL_law_636 : decode cL_law 636 = .ok (.invokevirtual 67, 3) := by decide +kernel
theorem dL_law_639 : decode cL_law 639 = .ok (.if_icmp .eq 279, 3) := by decide +kernel
theorem dL_law_642 : decode cL_law 642 = .ok (.iconst 0, 1) := by decide +kernel
theorem dL_law_643 : decode cL_law 643 = .ok (.ireturn, 1) := by decide +kernel
theorem dL_law_644 : decode cL_law 644 = .ok (.aload_n 1, 1) := by decide +kernel
theorem dL_law_645 : decode cL_law 645 = .ok (.aload_n 0, 1) := by decide +kernel
theorem dL_law_646 : decode cL_law 646 = .ok (.iload_n 3, 1) := by decide +kernel
theorem dL_law_647 : decode cL_law 647 = .ok (.iconst 1, 1) := by decide +kernel
theorem dL_law_648 : decode cL_law 648 = .ok (.iadd, 1) := by decide +kernel
theorem dL_law_649 : decode cL_law 649 = .ok (.iaload, 1) := by decide +kernel
theorem dL_law_650 : decode cL_law 650 = .ok (.aload_n 0, 1) := by decide +kernel
theorem dL_law_651 : decode cL_law 651 = .ok (.iload_n 3, 1) := by decide +kernel
theorem dL_law_652 : decode cL_law 652 = .ok (.iconst 2, 1) := by decide +kernel
theorem dL_law_653 : decode cL_law 653 = .ok (.iadd, 1) := by decide +kernel
theorem dL_law_654 : decode cL_law 654 = .ok (.iaload, 1) := by decide +kernel
theorem dL_law_655 : decode cL_law 655 = .ok (.aload_n 0, 1) := by decide +kernel
theorem dL_law_656 : decode cL_law 656 = .ok (.iload_n 3, 1) := by decide +kernel
theorem dL_law_657 : decode cL_law 657 = .ok (.iconst 3, 1) := by decide +kernel
theorem dL_law_658 : decode cL_law 658 = .ok (.iadd, 1) := by decide +kernel
theorem dL_law_659 : decode cL_law 659 = .ok (.iaload, 1) := by decide +kernel
theorem dL_law_660 : decode cL_law 660 = .ok (.aload_n 0, 1) := by decide +kernel
theorem dL_law_661 : decode cL_law 661 = .ok (.iload_n 3, 1) := by decide +kernel
theorem dL_law_662 : decode cL_law 662 = .ok (.iconst 4, 1) := by decide +kernel
theorem dL_law_663 : decode cL_law 663 = .ok (.iadd, 1) := by decide +kernel
theorem dL_law_664 : decode cL_law 664 = .ok (.iaload, 1) := by decide +kernel
theorem dL_law_665 : decode cL_law 665 = .ok (.invokevirtual 68, 3) := by decide +kernel
theorem dL_law_668 : decode cL_law 668 = .ok (.aload_n 2, 1) := by decide +kernel
theorem dL_law_669 : decode cL_law 669 = .ok (.aload_n 0, 1) := by decide +kernel
theorem dL_law_670 : decode cL_law 670 = .ok (.iload_n 3, 1) := by decide +kernel
theorem dL_law_671 : decode cL_law 671 = .ok (.iconst 1, 1) := by decide +kernel
theorem dL_law_672 : decode cL_law 672 = .ok (.iadd, 1) := by decide +kernel
theorem dL_law_673 : decode cL_law 673 = .ok (.iaload, 1) := by decide +kernel
theorem dL_law_674 : decode cL_law 674 = .ok (.aload_n 0, 1) := by decide +kernel
theorem dL_law_675 : decode cL_law 675 = .ok (.iload_n 3, 1) := by decide +kernel
theorem dL_law_676 : decode cL_law 676 = .ok (.iconst 2, 1) := by decide +kernel
theorem dL_law_677 : decode cL_law 677 = .ok (.iadd, 1) := by decide +kernel
theorem dL_law_678 : decode cL_law 678 = .ok (.iaload, 1) := by decide +kernel
theorem dL_law_679 : decode cL_law 679 = .ok (.aload_n 0, 1) := by decide +kernel
theorem dL_law_680 : decode cL_law 680 = .ok (.iload_n 3, 1) := by decide +kernel
theorem dL_law_681 : decode cL_law 681 = .ok (.iconst 3, 1) := by decide +kernel
theorem dL_law_682 : decode cL_law 682 = .ok (.iadd, 1) := by decide +kernel
theorem dL_law_683 : decode cL_law 683 = .ok (.iaload, 1) := by decide +kernel
theorem dL_law_684 : decode cL_law 684 = .ok (.aload_n 0, 1) := by decide +kernel
theorem dL_law_685 : decode cL_law 685 = .ok (.iload_n 3, 1) := by decide +kernel
theorem dL_law_686 : decode cL_law 686 = .ok (.iconst 4, 1) := by decide +kernel
theorem dL_law_687 : decode cL_law 687 = .ok (.iadd, 1) := by decide +kernel
theorem dL_law_688 : decode cL_law 688 = .ok (.iaload, 1) := by decide +kernel
theorem dL_law_689 : decode cL_law 689 = .ok (.invokevirtual 72, 3) := by decide +kernel
theorem dL_law_692 : decode cL_law 692 = .ok (.if_icmp .eq 226, 3) := by decide +kernel
theorem dL_law_695 : decode cL_law 695 = .ok (.iconst 0, 1) := by decide +kernel
theorem dL_law_696 : decode cL_law 696 = .ok (.ireturn, 1) := by decide +kernel
theorem dL_law_697 : decode cL_law 697 = .ok (.aload_n 1, 1) := by decide +kernel
theorem dL_law_698 : decode cL_law 698 = .ok (.aload_n 0, 1) := by decide +kernel
theorem dL_law_699 : decode cL_law 699 = .ok (.iload_n 3, 1) := by decide +kernel
theorem dL_law_700 : decode cL_law 700 = .ok (.iconst 1, 1) := by decide +kernel
theorem dL_law_701 : decode cL_law 701 = .ok (.iadd, 1) := by decide +kernel
theorem dL_law_702 : decode cL_law 702 = .ok (.iaload, 1) := by decide +kernel
theorem dL_law_703 : decode cL_law 703 = .ok (.aload_n 0, 1) := by decide +kernel
theorem dL_law_704 : decode cL_law 704 = .ok (.iload_n 3, 1) := by decide +kernel
theorem dL_law_705 : decode cL_law 705 = .ok (.iconst 2, 1) := by decide +kernel
theorem dL_law_706 : decode cL_law 706 = .ok (.iadd, 1) := by decide +kernel
theorem dL_law_707 : decode cL_law 707 = .ok (.iaload, 1) := by decide +kernel
theorem dL_law_708 : decode cL_law 708 = .ok (.invokevirtual 73, 3) := by decide +kernel
theorem dL_law_711 : decode cL_law 711 = .ok (.aload_n 2, 1) := by decide +kernel
theorem dL_law_712 : decode cL_law 712 = .ok (.aload_n 0, 1) := by decide +kernel
theorem dL_law_713 : decode cL_law 713 = .ok (.iload_n 3, 1) := by decide +kernel
theorem dL_law_714 : decode cL_law 714 = .ok (.iconst 1, 1) := by decide +kernel
theorem dL_law_715 : decode cL_law 715 = .ok (.iadd, 1) := by decide +kernel
theorem dL_law_716 : decode cL_law 716 = .ok (.iaload, 1) := by decide +kernel
theorem dL_law_717 : decode cL_law 717 = .ok (.aload_n 0, 1) := by decide +kernel
theorem dL_law_718 : decode cL_law 718 = .ok (.iload_n 3, 1) := by decide +kernel
theorem dL_law_719 : decode cL_law 719 = .ok (.iconst 2, 1) := by decide +kernel
theorem dL_law_720 : decode cL_law 720 = .ok (.iadd, 1) := by decide +kernel
theorem dL_law_721 : decode cL_law 721 = .ok (.iaload, 1) := by decide +kernel
theorem dL_law_722 : decode cL_law 722 = .ok (.invokevirtual 76, 3) := by decide +kernel
theorem dL_law_725 : decode cL_law 725 = .ok (.if_icmp .eq 193, 3) := by decide +kernel
theorem dL_law_728 : decode cL_law 728 = .ok (.iconst 0, 1) := by decide +kernel
theorem dL_law_729 : decode cL_law 729 = .ok (.ireturn, 1) := by decide +kernel
theorem dL_law_730 : decode cL_law 730 = .ok (.aload_n 1, 1) := by decide +kernel
theorem dL_law_731 : decode cL_law 731 = .ok (.aload_n 0, 1) := by decide +kernel
theorem dL_law_732 : decode cL_law 732 = .ok (.iload_n 3, 1) := by decide +kernel
theorem dL_law_733 : decode cL_law 733 = .ok (.iconst 1, 1) := by decide +kernel
theorem dL_law_734 : decode cL_law 734 = .ok (.iadd, 1) := by decide +kernel
theorem dL_law_735 : decode cL_law 735 = .ok (.iaload, 1) := by decide +kernel
theorem dL_law_736 : decode cL_law 736 = .ok (.aload_n 0, 1) := by decide +kernel
theorem dL_law_737 : decode cL_law 737 = .ok (.iload_n 3, 1) := by decide +kernel
theorem dL_law_738 : decode cL_law 738 = .ok (.iconst 2, 1) := by decide +kernel
theorem dL_law_739 : decode cL_law 739 = .ok (.iadd, 1) := by decide +kernel
theorem dL_law_740 : decode cL_law 740 = .ok (.iaload, 1) := by decide +kernel
theorem dL_law_741 : decode cL_law 741 = .ok (.invokevirtual 77, 3) := by decide +kernel
theorem dL_law_744 : decode cL_law 744 = .ok (.aload_n 2, 1) := by decide +kernel
theorem dL_law_745 : decode cL_law 745 = .ok (.aload_n 0, 1) := by decide +kernel
theorem dL_law_746 : decode cL_law 746 = .ok (.iload_n 3, 1) := by decide +kernel
theorem dL_law_747 : decode cL_law 747 = .ok (.iconst 1, 1) := by decide +kernel
theorem dL_law_748 : decode cL_law 748 = .ok (.iadd, 1) := by decide +kernel
theorem dL_law_749 : decode cL_law 749 = .ok (.iaload, 1) := by decide +kernel
theorem dL_law_750 : decode cL_law 750 = .ok (.aload_n 0, 1) := by decide +kernel
theorem dL_law_751 : decode cL_law 751 = .ok (.iload_n 3, 1) := by decide +kernel
theorem dL_law_752 : decode cL_law 752 = .ok (.iconst 2, 1) := by decide +kernel
theorem dL_law_753 : decode cL_law 753 = .ok (.iadd, 1) := by decide +kernel
theorem dL_law_754 : decode cL_law 754 = .ok (.iaload, 1) := by decide +kernel
theorem dL_law_755 : decode cL_law 755 = .ok (.invokevirtual 80, 3) := by decide +kernel
theorem dL_law_758 : decode cL_law 758 = .ok (.if_icmp .eq 160, 3) := by decide +kernel
theorem dL_law_761 : decode cL_law 761 = .ok (.iconst 0, 1) := by decide +kernel
theorem dL_law_762 : decode cL_law 762 = .ok (.ireturn, 1) := by decide +kernel
theorem dL_law_763 : decode cL_law 763 = .ok (.aload_n 1, 1) := by decide +kernel
theorem dL_law_764 : decode cL_law 764 = .ok (.aload_n 0, 1) := by decide +kernel
theorem dL_law_765 : decode cL_law 765 = .ok (.iload_n 3, 1) := by decide +kernel
theorem dL_law_766 : decode cL_law 766 = .ok (.iconst 1, 1) := by decide +kernel
theorem dL_law_767 : decode cL_law 767 = .ok (.iadd, 1) := by decide +kernel
theorem dL_law_768 : decode cL_law 768 = .ok (.iaload, 1) := by decide +kernel
theorem dL_law_769 : decode cL_law 769 = .ok (.invokevirtual 81, 3) := by decide +kernel
theorem dL_law_772 : decode cL_law 772 = .ok (.aload_n 2, 1) := by decide +kernel
theorem dL_law_773 : decode cL_law 773 = .ok (.aload_n 0, 1) := by decide +kernel
theorem dL_law_774 : decode cL_law 774 = .ok (.iload_n 3, 1) := by decide +kernel
theorem dL_law_775 : decode cL_law 775 = .ok (.iconst 1, 1) := by decide +kernel
theorem dL_law_776 : decode cL_law 776 = .ok (.iadd, 1) := by decide +kernel
theorem dL_law_777 : decode cL_law 777 = .ok (.iaload, 1) := by decide +kernel
theorem dL_law_778 : decode cL_law 778 = .ok (.invokevirtual 84, 3) := by decide +kernel
theorem dL_law_781 : decode cL_law 781 = .ok (.if_icmp .eq 137, 3) := by decide +kernel
theorem dL_law_784 : decode cL_law 784 = .ok (.iconst 0, 1) := by decide +kernel
theorem dL_law_785 : decode cL_law 785 = .ok (.ireturn, 1) := by decide +kernel
theorem dL_law_786 : decode cL_law 786 = .ok (.aload_n 1, 1) := by decide +kernel
theorem dL_law_787 : decode cL_law 787 = .ok (.aload_n 0, 1) := by decide +kernel
theorem dL_law_788 : decode cL_law 788 = .ok (.iload_n 3, 1) := by decide +kernel
theorem dL_law_789 : decode cL_law 789 = .ok (.iconst 1, 1) := by decide +kernel
theorem dL_law_790 : decode cL_law 790 = .ok (.iadd, 1) := by decide +kernel
theorem dL_law_791 : decode cL_law 791 = .ok (.iaload, 1) := by decide +kernel
theorem dL_law_792 : decode cL_law 792 = .ok (.invokevirtual 85, 3) := by decide +kernel
theorem dL_law_795 : decode cL_law 795 = .ok (.aload_n 2, 1) := by decide +kernel
theorem dL_law_796 : decode cL_law 796 = .ok (.aload_n 0, 1) := by decide +kernel
theorem dL_law_797 : decode cL_law 797 = .ok (.iload_n 3, 1) := by decide +kernel
theorem dL_law_798 : decode cL_law 798 = .ok (.iconst 1, 1) := by decide +kernel
theorem dL_law_799 : decode cL_law 799 = .ok (.iadd, 1) := by decide +kernel
theorem dL_law_800 : decode cL_law 800 = .ok (.iaload, 1) := by decide +kernel
theorem dL_law_801 : decode cL_law 801 = .ok (.invokevirtual 88, 3) := by decide +kernel
theorem dL_law_804 : decode cL_law 804 = .ok (.if_icmp .eq 114, 3) := by decide +kernel
theorem dL_law_807 : decode cL_law 807 = .ok (.iconst 0, 1) := by decide +kernel
theorem dL_law_808 : decode cL_law 808 = .ok (.ireturn, 1) := by decide +kernel
theorem dL_law_809 : decode cL_law 809 = .ok (.aload_n 1, 1) := by decide +kernel
theorem dL_law_810 : decode cL_law 810 = .ok (.aload_n 0, 1) := by decide +kernel
theorem dL_law_811 : decode cL_law 811 = .ok (.iload_n 3, 1) := by decide +kernel
theorem dL_law_812 : decode cL_law 812 = .ok (.iconst 1, 1) := by decide +kernel
theorem dL_law_813 : decode cL_law 813 = .ok (.iadd, 1) := by decide +kernel
theorem dL_law_814 : decode cL_law 814 = .ok (.iaload, 1) := by decide +kernel
theorem dL_law_815 : decode cL_law 815 = .ok (.invokevirtual 89, 3) := by decide +kernel
theorem dL_law_818 : decode cL_law 818 = .ok (.aload_n 2, 1) := by decide +kernel
theorem dL_law_819 : decode cL_law 819 = .ok (.aload_n 0, 1) := by decide +kernel
theorem dL_law_820 : decode cL_law 820 = .ok (.iload_n 3, 1) := by decide +kernel
theorem dL_law_821 : decode cL_law 821 = .ok (.iconst 1, 1) := by decide +kernel
theorem dL_law_822 : decode cL_law 822 = .ok (.iadd, 1) := by decide +kernel
theorem dL_law_823 : decode cL_law 823 = .ok (.iaload, 1) := by decide +kernel
theorem dL_law_824 : decode cL_law 824 = .ok (.invokevirtual 92, 3) := by decide +kernel
theorem dL_law_827 : decode cL_law 827 = .ok (.if_icmp .eq 91, 3) := by decide +kernel
theorem dL_law_830 : decode cL_law 830 = .ok (.iconst 0, 1) := by decide +kernel
theorem dL_law_831 : decode cL_law 831 = .ok (.ireturn, 1) := by decide +kernel
theorem dL_law_832 : decode cL_law 832 = .ok (.aload_n 1, 1) := by decide +kernel
theorem dL_law_833 : decode cL_law 833 = .ok (.aload_n 0, 1) := by decide +kernel
theorem dL_law_834 : decode cL_law 834 = .ok (.iload_n 3, 1) := by decide +kernel
theorem dL_law_835 : decode cL_law 835 = .ok (.iconst 1, 1) := by decide +kernel
theorem dL_law_836 : decode cL_law 836 = .ok (.iadd, 1) := by decide +kernel
theorem dL_law_837 : decode cL_law 837 = .ok (.iaload, 1) := by decide +kernel
theorem dL_law_838 : decode cL_law 838 = .ok (.aload_n 0, 1) := by decide +kernel
theorem dL_law_839 : decode cL_law 839 = .ok (.iload_n 3, 1) := by decide +kernel
theorem dL_law_840 : decode cL_law 840 = .ok (.iconst 2, 1) := by decide +kernel
theorem dL_law_841 : decode cL_law 841 = .ok (.iadd, 1) := by decide +kernel
theorem dL_law_842 : decode cL_law 842 = .ok (.iaload, 1) := by decide +kernel
theorem dL_law_843 : decode cL_law 843 = .ok (.aload_n 0, 1) := by decide +kernel
theorem dL_law_844 : decode cL_law 844 = .ok (.iload_n 3, 1) := by decide +kernel
theorem dL_law_845 : decode cL_law 845 = .ok (.iconst 3, 1) := by decide +kernel
theorem dL_law_846 : decode cL_law 846 = .ok (.iadd, 1) := by decide +kernel
theorem dL_law_847 : decode cL_law 847 = .ok (.iaload, 1) := by decide +kernel
theorem dL_law_848 : decode cL_law 848 = .ok (.aload_n 0, 1) := by decide +kernel
theorem dL_law_849 : decode cL_law 849 = .ok (.iload_n 3, 1) := by decide +kernel
theorem dL_law_850 : decode cL_law 850 = .ok (.iconst 4, 1) := by decide +kernel
theorem dL_law_851 : decode cL_law 851 = .ok (.iadd, 1) := by decide +kernel
theorem dL_law_852 : decode cL_law 852 = .ok (.iaload, 1) := by decide +kernel
theorem dL_law_853 : decode cL_law 853 = .ok (.aload_n 0, 1) := by decide +kernel
theorem dL_law_854 : decode cL_law 854 = .ok (.iload_n 3, 1) := by decide +kernel
theorem dL_law_855 : decode cL_law 855 = .ok (.iconst 5, 1) := by decide +kernel
theorem dL_law_856 : decode cL_law 856 = .ok (.iadd, 1) := by decide +kernel
theorem dL_law_857 : decode cL_law 857 = .ok (.iaload, 1) := by decide +kernel
theorem dL_law_858 : decode cL_law 858 = .ok (.invokevirtual 93, 3) := by decide +kernel
theorem dL_law_861 : decode cL_law 861 = .ok (.aload_n 2, 1) := by decide +kernel
theorem dL_law_862 : decode cL_law 862 = .ok (.aload_n 0, 1) := by decide +kernel
theorem dL_law_863 : decode cL_law 863 = .ok (.iload_n 3, 1) := by decide +kernel
theorem dL_law_864 : decode cL_law 864 = .ok (.iconst 1, 1) := by decide +kernel
theorem dL_law_865 : decode cL_law 865 = .ok (.iadd, 1) := by decide +kernel
theorem dL_law_866 : decode cL_law 866 = .ok (.iaload, 1) := by decide +kernel
theorem dL_law_867 : decode cL_law 867 = .ok (.aload_n 0, 1) := by decide +kernel
theorem dL_law_868 : decode cL_law 868 = .ok (.iload_n 3, 1) := by decide +kernel
theorem dL_law_869 : decode cL_law 869 = .ok (.iconst 2, 1) := by decide +kernel
theorem dL_law_870 : decode cL_law 870 = .ok (.iadd, 1) := by decide +kernel
theorem dL_law_871 : decode cL_law 871 = .ok (.iaload, 1) := by decide +kernel
theorem dL_law_872 : decode cL_law 872 = .ok (.aload_n 0, 1) := by decide +kernel
theorem dL_law_873 : decode cL_law 873 = .ok (.iload_n 3, 1) := by decide +kernel
theorem dL_law_874 : decode cL_law 874 = .ok (.iconst 3, 1) := by decide +kernel
theorem dL_law_875 : decode cL_law 875 = .ok (.iadd, 1) := by decide +kernel
theorem dL_law_876 : decode cL_law 876 = .ok (.iaload, 1) := by decide +kernel
theorem dL_law_877 : decode cL_law 877 = .ok (.aload_n 0, 1) := by decide +kernel
theorem dL_law_878 : decode cL_law 878 = .ok (.iload_n 3, 1) := by decide +kernel
theorem dL_law_879 : decode cL_law 879 = .ok (.iconst 4, 1) := by decide +kernel
theorem dL_law_880 : decode cL_law 880 = .ok (.iadd, 1) := by decide +kernel
theorem dL_law_881 : decode cL_law 881 = .ok (.iaload, 1) := by decide +kernel
theorem dL_law_882 : decode cL_law 882 = .ok (.aload_n 0, 1) := by decide +kernel
theorem dL_law_883 : decode cL_law 883 = .ok (.iload_n 3, 1) := by decide +kernel
theorem dL_law_884 : decode cL_law 884 = .ok (.iconst 5, 1) := by decide +kernel
theorem dL_law_885 : decode cL_law 885 = .ok (.iadd, 1) := by decide +kernel
theorem dL_law_886 : decode cL_law 886 = .ok (.iaload, 1) := by decide +kernel
theorem dL_law_887 : decode cL_law 887 = .ok (.invokevirtual 96, 3) := by decide +kernel
theorem dL_law_890 : decode cL_law 890 = .ok (.if_icmp .eq 28, 3) := by decide +kernel
theorem dL_law_893 : decode cL_law 893 = .ok (.iconst 0, 1) := by decide +kernel
theorem dL_law_894 : decode cL_law 894 = .ok (.ireturn, 1) := by decide +kernel
theorem dL_law_895 : decode cL_law 895 = .ok (.aload_n 1, 1) := by decide +kernel
theorem dL_law_896 : decode cL_law 896 = .ok (.aload_n 0, 1) := by decide +kernel
theorem dL_law_897 : decode cL_law 897 = .ok (.iload_n 3, 1) := by decide +kernel
theorem dL_law_898 : decode cL_law 898 = .ok (.iconst 1, 1) := by decide +kernel
theorem dL_law_899 : decode cL_law 899 = .ok (.iadd, 1) := by decide +kernel
theorem dL_law_900 : decode cL_law 900 = .ok (.iaload, 1) := by decide +kernel
theorem dL_law_901 : decode cL_law 901 = .ok (.invokevirtual 97, 3) := by decide +kernel
theorem dL_law_904 : decode cL_law 904 = .ok (.aload_n 2, 1) := by decide +kernel
theorem dL_law_905 : decode cL_law 905 = .ok (.aload_n 0, 1) := by decide +kernel
theorem dL_law_906 : decode cL_law 906 = .ok (.iload_n 3, 1) := by decide +kernel
theorem dL_law_907 : decode cL_law 907 = .ok (.iconst 1, 1) := by decide +kernel
theorem dL_law_908 : decode cL_law 908 = .ok (.iadd, 1) := by decide +kernel
theorem dL_law_909 : decode cL_law 909 = .ok (.iaload, 1) := by decide +kernel
theorem dL_law_910 : decode cL_law 910 = .ok (.invokevirtual 100, 3) := by decide +kernel
theorem dL_law_913 : decode cL_law 913 = .ok (.if_icmp .eq 5, 3) := by decide +kernel
theorem dL_law_916 : decode cL_law 916 = .ok (.iconst 0, 1) := by decide +kernel
theorem dL_law_917 : decode cL_law 917 = .ok (.ireturn, 1) := by decide +kernel
theorem dL_law_918 : decode cL_law 918 = .ok (.iinc 3 6, 3) := by decide +kernel
theorem dL_law_921 : decode cL_law 921 = .ok (.goto (-903), 3) := by decide +kernel
theorem dL_law_924 : decode cL_law 924 = .ok (.iconst 1, 1) := by decide +kernel
theorem dL_law_925 : decode cL_law 925 = .ok (.ireturn, 1) := by decide +kernel
end
section
theorem dX7_init_0 : decode cX7_init 0 = .ok (.aload_n 0, 1) := by decide +kernel
theorem dX7_init_1 : decode cX7_init 1 = .ok (.invokespecial 1, 3) := by decide +kernel
theorem dX7_init_4 : decode cX7_init 4 = .ok (.aload_n 0, 1) := by decide +kernel
theorem dX7_init_5 : decode cX7_init 5 = .ok (.bipush 6, 2) := by decide +kernel
theorem dX7_init_7 : decode cX7_init 7 = .ok (.newarray .int, 2) := by decide +kernel
theorem dX7_init_9 : decode cX7_init 9 = .ok (.putfield 7, 3) := by decide +kernel
theorem dX7_init_12 : decode cX7_init 12 = .ok (.aload_n 0, 1) := by decide +kernel
theorem dX7_init_13 : decode cX7_init 13 = .ok (.bipush 6, 2) := by decide +kernel
theorem dX7_init_15 : decode cX7_init 15 = .ok (.newarray .int, 2) := by decide +kernel
theorem dX7_init_17 : decode cX7_init 17 = .ok (.putfield 13, 3) := by decide +kernel
theorem dX7_init_20 : decode cX7_init 20 = .ok (.aload_n 0, 1) := by decide +kernel
theorem dX7_init_21 : decode cX7_init 21 = .ok (.sipush 144, 3) := by decide +kernel
theorem dX7_init_24 : decode cX7_init 24 = .ok (.newarray .long, 2) := by decide +kernel
theorem dX7_init_26 : decode cX7_init 26 = .ok (.putfield 16, 3) := by decide +kernel
theorem dX7_init_29 : decode cX7_init 29 = .ok (.aload_n 0, 1) := by decide +kernel
theorem dX7_init_30 : decode cX7_init 30 = .ok (.bipush 60, 2) := by decide +kernel
theorem dX7_init_32 : decode cX7_init 32 = .ok (.newarray .int, 2) := by decide +kernel
theorem dX7_init_34 : decode cX7_init 34 = .ok (.putfield 20, 3) := by decide +kernel
theorem dX7_init_37 : decode cX7_init 37 = .ok (.aload_n 0, 1) := by decide +kernel
theorem dX7_init_38 : decode cX7_init 38 = .ok (.sipush 720, 3) := by decide +kernel
theorem dX7_init_41 : decode cX7_init 41 = .ok (.newarray .int, 2) := by decide +kernel
theorem dX7_init_43 : decode cX7_init 43 = .ok (.putfield 23, 3) := by decide +kernel
theorem dX7_init_46 : decode cX7_init 46 = .ok (.aload_n 0, 1) := by decide +kernel
theorem dX7_init_47 : decode cX7_init 47 = .ok (.bipush 12, 2) := by decide +kernel
theorem dX7_init_49 : decode cX7_init 49 = .ok (.newarray .long, 2) := by decide +kernel
theorem dX7_init_51 : decode cX7_init 51 = .ok (.putfield 26, 3) := by decide +kernel
theorem dX7_init_54 : decode cX7_init 54 = .ok (.aload_n 0, 1) := by decide +kernel
theorem dX7_init_55 : decode cX7_init 55 = .ok (.sipush 1000, 3) := by decide +kernel
theorem dX7_init_58 : decode cX7_init 58 = .ok (.newarray .int, 2) := by decide +kernel
theorem dX7_init_60 : decode cX7_init 60 = .ok (.putfield 29, 3) := by decide +kernel
theorem dX7_init_63 : decode cX7_init 63 = .ok (.aload_n 0, 1) := by decide +kernel
theorem dX7_init_64 : decode cX7_init 64 = .ok (.bipush (-3), 2) := by decide +kernel
theorem dX7_init_66 : decode cX7_init 66 = .ok (.putfield 32, 3) := by decide +kernel
theorem dX7_init_69 : decode cX7_init 69 = .ok (.aload_n 0, 1) := by decide +kernel
theorem dX7_init_70 : decode cX7_init 70 = .ok (.sipush 720, 3) := by decide +kernel
theorem dX7_init_73 : decode cX7_init 73 = .ok (.newarray .int, 2) := by decide +kernel
theorem dX7_init_75 : decode cX7_init 75 = .ok (.putfield 36, 3) := by decide +kernel
theorem dX7_init_78 : decode cX7_init 78 = .ok (.aload_n 0, 1) := by decide +kernel
theorem dX7_init_79 : decode cX7_init 79 = .ok (.bipush 24, 2) := by decide +kernel
theorem dX7_init_81 : decode cX7_init 81 = .ok (.newarray .long, 2) := by decide +kernel
theorem dX7_init_83 : decode cX7_init 83 = .ok (.putfield 39, 3) := by decide +kernel
theorem dX7_init_86 : decode cX7_init 86 = .ok (.aload_n 0, 1) := by decide +kernel
theorem dX7_init_87 : decode cX7_init 87 = .ok (.iconst 4, 1) := by decide +kernel
theorem dX7_init_88 : decode cX7_init 88 = .ok (.newarray .long, 2) := by decide +kernel
theorem dX7_init_90 : decode cX7_init 90 = .ok (.putfield 42, 3) := by decide +kernel
theorem dX7_init_93 : decode cX7_init 93 = .ok (.aload_n 0, 1) := by decide +kernel
theorem dX7_init_94 : decode cX7_init 94 = .ok (.sipush 24000, 3) := by decide +kernel
theorem dX7_init_97 : decode cX7_init 97 = .ok (.newarray .long, 2) := by decide +kernel
theorem dX7_init_99 : decode cX7_init 99 = .ok (.putfield 45, 3) := by decide +kernel
theorem dX7_init_102 : decode cX7_init 102 = .ok (.aload_n 0, 1) := by decide +kernel
theorem dX7_init_103 : decode cX7_init 103 = .ok (.sipush 2000, 3) := by decide +kernel
theorem dX7_init_106 : decode cX7_init 106 = .ok (.newarray .int, 2) := by decide +kernel
theorem dX7_init_108 : decode cX7_init 108 = .ok (.putfield 48, 3) := by decide +kernel
theorem dX7_init_111 : decode cX7_init 111 = .ok (.aload_n 0, 1) := by decide +kernel
theorem dX7_init_112 : decode cX7_init 112 = .ok (.sipush 732, 3) := by decide +kernel
theorem dX7_init_115 : decode cX7_init 115 = .ok (.newarray .long, 2) := by decide +kernel
theorem dX7_init_117 : decode cX7_init 117 = .ok (.putfield 51, 3) := by decide +kernel
theorem dX7_init_120 : decode cX7_init 120 = .ok (.aload_n 0, 1) := by decide +kernel
theorem dX7_init_121 : decode cX7_init 121 = .ok (.sipush 10368, 3) := by decide +kernel
theorem dX7_init_124 : decode cX7_init 124 = .ok (.newarray .int, 2) := by decide +kernel
theorem dX7_init_126 : decode cX7_init 126 = .ok (.putfield 54, 3) := by decide +kernel
theorem dX7_init_129 : decode cX7_init 129 = .ok (.aload_n 0, 1) := by decide +kernel
theorem dX7_init_130 : decode cX7_init 130 = .ok (.ldc 57, 2) := by decide +kernel
theorem dX7_init_132 : decode cX7_init 132 = .ok (.newarray .int, 2) := by decide +kernel
theorem dX7_init_134 : decode cX7_init 134 = .ok (.putfield 58, 3) := by decide +kernel
theorem dX7_init_137 : decode cX7_init 137 = .ok (.iconst 0, 1) := by decide +kernel
theorem dX7_init_138 : decode cX7_init 138 = .ok (.istore_n 1, 1) := by decide +kernel
theorem dX7_init_139 : decode cX7_init 139 = .ok (.iload_n 1, 1) := by decide +kernel
theorem dX7_init_140 : decode cX7_init 140 = .ok (.bipush 6, 2) := by decide +kernel
theorem dX7_init_142 : decode cX7_init 142 = .ok (.if_icmp .ge 16, 3) := by decide +kernel
theorem dX7_init_145 : decode cX7_init 145 = .ok (.aload_n 0, 1) := by decide +kernel
theorem dX7_init_146 : decode cX7_init 146 = .ok (.getfield 7, 3) := by decide +kernel
theorem dX7_init_149 : decode cX7_init 149 = .ok (.iload_n 1, 1) := by decide +kernel
theorem dX7_init_150 : decode cX7_init 150 = .ok (.iconst (-1), 1) := by decide +kernel
theorem dX7_init_151 : decode cX7_init 151 = .ok (.iastore, 1) := by decide +kernel
theorem dX7_init_152 : decode cX7_init 152 = .ok (.iinc 1 1, 3) := by decide +kernel
theorem dX7_init_155 : decode cX7_init 155 = .ok (.goto (-16), 3) := by decide +kernel
theorem dX7_init_158 : decode cX7_init 158 = .ok (.return_, 1) := by decide +kernel
theorem dX7_in_0 : decode cX7_in 0 = .ok (.lload_n 0, 1) := by decide +kernel
theorem dX7_in_1 : decode cX7_in 1 = .ok (.lload_n 2, 1) := by decide +kernel
theorem dX7_in_2 : decode cX7_in 2 = .ok (.lcmp, 1) := by decide +kernel
theorem dX7_in_3 : decode cX7_in 3 = .ok (.ifCond .lt 14, 3) := by decide +kernel
theorem dX7_in_6 : decode cX7_in 6 = .ok (.lload_n 0, 1) := by decide +kernel
theorem dX7_in_7 : decode cX7_in 7 = .ok (.lload 4, 2) := by decide +kernel
theorem dX7_in_9 : decode cX7_in 9 = .ok (.lcmp, 1) := by decide +kernel
theorem dX7_in_10 : decode cX7_in 10 = .ok (.ifCond .gt 7, 3) := by decide +kernel
theorem dX7_in_13 : decode cX7_in 13 = .ok (.iconst 1, 1) := by decide +kernel
theorem dX7_in_14 : decode cX7_in 14 = .ok (.goto 4, 3) := by decide +kernel
theorem dX7_in_17 : decode cX7_in 17 = .ok (.iconst 0, 1) := by decide +kernel
theorem dX7_in_18 : decode cX7_in 18 = .ok (.ireturn, 1) := by decide +kernel
theorem dX7_isBag_0 : decode cX7_isBag 0 = .ok (.iload_n 0, 1) := by decide +kernel
theorem dX7_isBag_1 : decode cX7_isBag 1 = .ok (.i2l, 1) := by decide +kernel
theorem dX7_isBag_2 : decode cX7_isBag 2 = .ok (.lconst 0, 1) := by decide +kernel
theorem dX7_isBag_3 : decode cX7_isBag 3 = .ok (.ldc2_w 61, 3) := by decide +kernel
theorem dX7_isBag_6 : decode cX7_isBag 6 = .ok (.invokestatic 63, 3) := by decide +kernel
theorem dX7_isBag_9 : decode cX7_isBag 9 = .ok (.ireturn, 1) := by decide +kernel
theorem dX7_bag_0 : decode cX7_bag 0 = .ok (.iload_n 1, 1) := by decide +kernel
theorem dX7_bag_1 : decode cX7_bag 1 = .ok (.invokestatic 67, 3) := by decide +kernel
theorem dX7_bag_4 : decode cX7_bag 4 = .ok (.ifCond .eq 27, 3) := by decide +kernel
theorem dX7_bag_7 : decode cX7_bag 7 = .ok (.iload_n 2, 1) := by decide +kernel
theorem dX7_bag_8 : decode cX7_bag 8 = .ok (.i2l, 1) := by decide +kernel
theorem dX7_bag_9 : decode cX7_bag 9 = .ok (.ldc2_w 71, 3) := by decide +kernel
theorem dX7_bag_12 : decode cX7_bag 12 = .ok (.ldc2_w 73, 3) := by decide +kernel
theorem dX7_bag_15 : decode cX7_bag 15 = .ok (.invokestatic 63, 3) := by decide +kernel
theorem dX7_bag_18 : decode cX7_bag 18 = .ok (.ifCond .eq 13, 3) := by decide +kernel
theorem dX7_bag_21 : decode cX7_bag 21 = .ok (.iload_n 2, 1) := by decide +kernel
theorem dX7_bag_22 : decode cX7_bag 22 = .ok (.ifCond .lt 11, 3) := by decide +kernel
theorem dX7_bag_25 : decode cX7_bag 25 = .ok (.iload_n 3, 1) := by decide +kernel
theorem dX7_bag_26 : decode cX7_bag 26 = .ok (.bipush 24, 2) := by decide +kernel
theorem dX7_bag_28 : decode cX7_bag 28 = .ok (.if_icmp .le 5, 3) := by decide +kernel
theorem dX7_bag_31 : decode cX7_bag 31 = .ok (.iconst (-1), 1) := by decide +kernel
theorem dX7_bag_32 : decode cX7_bag 32 = .ok (.ireturn, 1) := by decide +kernel
theorem dX7_bag_33 : decode cX7_bag 33 = .ok (.iload_n 2, 1) := by decide +kernel
theorem dX7_bag_34 : decode cX7_bag 34 = .ok (.ifCond .lt 10, 3) := by decide +kernel
theorem dX7_bag_37 : decode cX7_bag 37 = .ok (.iload_n 3, 1) := by decide +kernel
theorem dX7_bag_38 : decode cX7_bag 38 = .ok (.ifCond .ge 6, 3) := by decide +kernel
theorem dX7_bag_41 : decode cX7_bag 41 = .ok (.bipush (-13), 2) := by decide +kernel
theorem dX7_bag_43 : decode cX7_bag 43 = .ok (.ireturn, 1) := by decide +kernel
theorem dX7_bag_44 : decode cX7_bag 44 = .ok (.aload_n 0, 1) := by decide +kernel
theorem dX7_bag_45 : decode cX7_bag 45 = .ok (.getfield 7, 3) := by decide +kernel
theorem dX7_bag_48 : decode cX7_bag 48 = .ok (.iload_n 1, 1) := by decide +kernel
theorem dX7_bag_49 : decode cX7_bag 49 = .ok (.iload_n 2, 1) := by decide +kernel
theorem dX7_bag_50 : decode cX7_bag 50 = .ok (.iastore, 1) := by decide +kernel
theorem dX7_bag_51 : decode cX7_bag 51 = .ok (.aload_n 0, 1) := by decide +kernel
theorem dX7_bag_52 : decode cX7_bag 52 = .ok (.getfield 13, 3) := by decide +kernel
theorem dX7_bag_55 : decode cX7_bag 55 = .ok (.iload_n 1, 1) := by decide +kernel
theorem dX7_bag_56 : decode cX7_bag 56 = .ok (.iload_n 2, 1) := by decide +kernel
theorem dX7_bag_57 : decode cX7_bag 57 = .ok (.ifCond .ge 7, 3) := by decide +kernel
theorem dX7_bag_60 : decode cX7_bag 60 = .ok (.iconst 0, 1) := by decide +kernel
theorem dX7_bag_61 : decode cX7_bag 61 = .ok (.goto 4, 3) := by decide +kernel
theorem dX7_bag_64 : decode cX7_bag 64 = .ok (.iload_n 3, 1) := by decide +kernel
theorem dX7_bag_65 : decode cX7_bag 65 = .ok (.iastore, 1) := by decide +kernel
theorem dX7_bag_66 : decode cX7_bag 66 = .ok (.iconst 0, 1) := by decide +kernel
theorem dX7_bag_67 : decode cX7_bag 67 = .ok (.istore 4, 2) := by decide +kernel
theorem dX7_bag_69 : decode cX7_bag 69 = .ok (.iload 4, 2) := by decide +kernel
theorem dX7_bag_71 : decode cX7_bag 71 = .ok (.bipush 24, 2) := by decide +kernel
theorem dX7_bag_73 : decode cX7_bag 73 = .ok (.if_icmp .ge 22, 3) := by decide +kernel
theorem dX7_bag_76 : decode cX7_bag 76 = .ok (.aload_n 0, 1) := by decide +kernel
theorem dX7_bag_77 : decode cX7_bag 77 = .ok (.getfield 16, 3) := by decide +kernel
theorem dX7_bag_80 : decode cX7_bag 80 = .ok (.bipush 24, 2) := by decide +kernel
theorem dX7_bag_82 : decode cX7_bag 82 = .ok (.iload_n 1, 1) := by decide +kernel
theorem dX7_bag_83 : decode cX7_bag 83 = .ok (.imul, 1) := by decide +kernel
theorem dX7_bag_84 : decode cX7_bag 84 = .ok (.iload 4, 2) := by decide +kernel
theorem dX7_bag_86 : decode cX7_bag 86 = .ok (.iadd, 1) := by decide +kernel
theorem dX7_bag_87 : decode cX7_bag 87 = .ok (.lconst 0, 1) := by decide +kernel
theorem dX7_bag_88 : decode cX7_bag 88 = .ok (.lastore, 1) := by decide +kernel
theorem dX7_bag_89 : decode cX7_bag 89 = .ok (.iinc 4 1, 3) := by decide +kernel
theorem dX7_bag_92 : decode cX7_bag 92 = .ok (.goto (-23), 3) := by decide +kernel
theorem dX7_bag_95 : decode cX7_bag 95 = .ok (.iconst 0, 1) := by decide +kernel
theorem dX7_bag_96 : decode cX7_bag 96 = .ok (.ireturn, 1) := by decide +kernel
theorem dX7_against_0 : decode cX7_against 0 = .ok (.iload_n 1, 1) := by decide +kernel
theorem dX7_against_1 : decode cX7_against 1 = .ok (.invokestatic 67, 3) := by decide +kernel
theorem dX7_against_4 : decode cX7_against 4 = .ok (.ifCond .ne 7, 3) := by decide +kernel
theorem dX7_against_7 : decode cX7_against 7 = .ok (.iconst (-1), 1) := by decide +kernel
theorem dX7_against_8 : decode cX7_against 8 = .ok (.goto 41, 3) := by decide +kernel
theorem dX7_against_11 : decode cX7_against 11 = .ok (.aload_n 0, 1) := by decide +kernel
theorem dX7_against_12 : decode cX7_against 12 = .ok (.getfield 7, 3) := by decide +kernel
theorem dX7_against_15 : decode cX7_against 15 = .ok (.iload_n 1, 1) := by decide +kernel
theorem dX7_against_16 : decode cX7_against 16 = .ok (.iaload, 1) := by decide +kernel
theorem dX7_against_17 : decode cX7_against 17 = .ok (.ifCond .ge 8, 3) := by decide +kernel
theorem dX7_against_20 : decode cX7_against 20 = .ok (.bipush (-11), 2) := by decide +kernel
theorem dX7_against_22 : decode cX7_against 22 = .ok (.goto 27, 3) := by decide +kernel
theorem dX7_against_25 : decode cX7_against 25 = .ok (.iload_n 2, 1) := by decide +kernel
theorem dX7_against_26 : decode cX7_against 26 = .ok (.i2l, 1) := by decide +kernel
theorem dX7_against_27 : decode cX7_against 27 = .ok (.lconst 0, 1) := by decide +kernel
theorem dX7_against_28 : decode cX7_against 28 = .ok (.aload_n 0, 1) := by decide +kernel
theorem dX7_against_29 : decode cX7_against 29 = .ok (.getfield 13, 3) := by decide +kernel
theorem dX7_against_32 : decode cX7_against 32 = .ok (.iload_n 1, 1) := by decide +kernel
theorem dX7_against_33 : decode cX7_against 33 = .ok (.iaload, 1) := by decide +kernel
theorem dX7_against_34 : decode cX7_against 34 = .ok (.iconst 1, 1) := by decide +kernel
theorem dX7_against_35 : decode cX7_against 35 = .ok (.isub, 1) := by decide +kernel
theorem dX7_against_36 : decode cX7_against 36 = .ok (.i2l, 1) := by decide +kernel
theorem dX7_against_37 : decode cX7_against 37 = .ok (.invokestatic 63, 3) := by decide +kernel
theorem dX7_against_40 : decode cX7_against 40 = .ok (.ifCond .ne 8, 3) := by decide +kernel
theorem dX7_against_43 : decode cX7_against 43 = .ok (.bipush (-12), 2) := by decide +kernel
theorem dX7_against_45 : decode cX7_against 45 = .ok (.goto 4, 3) := by decide +kernel
theorem dX7_against_48 : decode cX7_against 48 = .ok (.iconst 0, 1) := by decide +kernel
theorem dX7_against_49 : decode cX7_against 49 = .ok (.ireturn, 1) := by decide +kernel
theorem dX7_put_0 : decode cX7_put 0 = .ok (.aload_n 0, 1) := by decide +kernel
theorem dX7_put_1 : decode cX7_put 1 = .ok (.iload_n 1, 1) := by decide +kernel
theorem dX7_put_2 : decode cX7_put 2 = .ok (.iload_n 2, 1) := by decide +kernel
theorem dX7_put_3 : decode cX7_put 3 = .ok (.invokevirtual 75, 3) := by decide +kernel
theorem dX7_put_6 : decode cX7_put 6 = .ok (.istore 5, 2) := by decide +kernel
theorem dX7_put_8 : decode cX7_put 8 = .ok (.iload 5, 2) := by decide +kernel
theorem dX7_put_10 : decode cX7_put 10 = .ok (.ifCond .ne 47, 3) := by decide +kernel
theorem dX7_put_13 : decode cX7_put 13 = .ok (.aload_n 0, 1) := by decide +kernel
theorem dX7_put_14 : decode cX7_put 14 = .ok (.getfield 16, 3) := by decide +kernel
theorem dX7_put_17 : decode cX7_put 17 = .ok (.bipush 24, 2) := by decide +kernel
theorem dX7_put_19 : decode cX7_put 19 = .ok (.iload_n 1, 1) := by decide +kernel
theorem dX7_put_20 : decode cX7_put 20 = .ok (.imul, 1) := by decide +kernel
theorem dX7_put_21 : decode cX7_put 21 = .ok (.iload_n 2, 1) := by decide +kernel
theorem dX7_put_22 : decode cX7_put 22 = .ok (.iadd, 1) := by decide +kernel
theorem dX7_put_23 : decode cX7_put 23 = .ok (.aload_n 0, 1) := by decide +kernel
theorem dX7_put_24 : decode cX7_put 24 = .ok (.getfield 7, 3) := by decide +kernel
theorem dX7_put_27 : decode cX7_put 27 = .ok (.iload_n 1, 1) := by decide +kernel
theorem dX7_put_28 : decode cX7_put 28 = .ok (.iaload, 1) := by decide +kernel
theorem dX7_put_29 : decode cX7_put 29 = .ok (.ifCond .ne 10, 3) := by decide +kernel
theorem dX7_put_32 : decode cX7_put 32 = .ok (.lload_n 3, 1) := by decide +kernel
theorem dX7_put_33 : decode cX7_put 33 = .ok (.l2i, 1) := by decide +kernel
theorem dX7_put_34 : decode cX7_put 34 = .ok (.i2s, 1) := by decide +kernel
theorem dX7_put_35 : decode cX7_put 35 = .ok (.i2l, 1) := by decide +kernel
theorem dX7_put_36 : decode cX7_put 36 = .ok (.goto 20, 3) := by decide +kernel
theorem dX7_put_39 : decode cX7_put 39 = .ok (.aload_n 0, 1) := by decide +kernel
theorem dX7_put_40 : decode cX7_put 40 = .ok (.getfield 7, 3) := by decide +kernel
theorem dX7_put_43 : decode cX7_put 43 = .ok (.iload_n 1, 1) := by decide +kernel
theorem dX7_put_44 : decode cX7_put 44 = .ok (.iaload, 1) := by decide +kernel
theorem dX7_put_45 : decode cX7_put 45 = .ok (.iconst 1, 1) := by decide +kernel
theorem dX7_put_46 : decode cX7_put 46 = .ok (.if_icmp .ne 9, 3) := by decide +kernel
theorem dX7_put_49 : decode cX7_put 49 = .ok (.lload_n 3, 1) := by decide +kernel
theorem dX7_put_50 : decode cX7_put 50 = .ok (.l2i, 1) := by decide +kernel
theorem dX7_put_51 : decode cX7_put 51 = .ok (.i2l, 1) := by decide +kernel
theorem dX7_put_52 : decode cX7_put 52 = .ok (.goto 4, 3) := by decide +kernel
theorem dX7_put_55 : decode cX7_put 55 = .ok (.lload_n 3, 1) := by decide +kernel
theorem dX7_put_56 : decode cX7_put 56 = .ok (.lastore, 1) := by decide +kernel
theorem dX7_put_57 : decode cX7_put 57 = .ok (.iload 5, 2) := by decide +kernel
theorem dX7_put_59 : decode cX7_put 59 = .ok (.ireturn, 1) := by decide +kernel
theorem dX7_copy_0 : decode cX7_copy 0 = .ok (.iload_n 1, 1) := by decide +kernel
theorem dX7_copy_1 : decode cX7_copy 1 = .ok (.invokestatic 67, 3) := by decide +kernel
theorem dX7_copy_4 : decode cX7_copy 4 = .ok (.ifCond .eq 10, 3) := by decide +kernel
theorem dX7_copy_7 : decode cX7_copy 7 = .ok (.iload_n 3, 1) := by decide +kernel
theorem dX7_copy_8 : decode cX7_copy 8 = .ok (.invokestatic 67, 3) := by decide +kernel
theorem dX7_copy_11 : decode cX7_copy 11 = .ok (.ifCond .ne 5, 3) := by decide +kernel
theorem dX7_copy_14 : decode cX7_copy 14 = .ok (.iconst (-1), 1) := by decide +kernel
theorem dX7_copy_15 : decode cX7_copy 15 = .ok (.ireturn, 1) := by decide +kernel
theorem dX7_copy_16 : decode cX7_copy 16 = .ok (.aload_n 0, 1) := by decide +kernel
theorem dX7_copy_17 : decode cX7_copy 17 = .ok (.getfield 7, 3) := by decide +kernel
theorem dX7_copy_20 : decode cX7_copy 20 = .ok (.iload_n 1, 1) := by decide +kernel
theorem dX7_copy_21 : decode cX7_copy 21 = .ok (.iaload, 1) := by decide +kernel
theorem dX7_copy_22 : decode cX7_copy 22 = .ok (.ifCond .lt 12, 3) := by decide +kernel
theorem dX7_copy_25 : decode cX7_copy 25 = .ok (.aload_n 0, 1) := by decide +kernel
theorem dX7_copy_26 : decode cX7_copy 26 = .ok (.getfield 7, 3) := by decide +kernel
theorem dX7_copy_29 : decode cX7_copy 29 = .ok (.iload_n 3, 1) := by decide +kernel
theorem dX7_copy_30 : decode cX7_copy 30 = .ok (.iaload, 1) := by decide +kernel
theorem dX7_copy_31 : decode cX7_copy 31 = .ok (.ifCond .ge 6, 3) := by decide +kernel
theorem dX7_copy_34 : decode cX7_copy 34 = .ok (.bipush (-11), 2) := by decide +kernel
theorem dX7_copy_36 : decode cX7_copy 36 = .ok (.ireturn, 1) := by decide +kernel
theorem dX7_copy_37 : decode cX7_copy 37 = .ok (.aload_n 0, 1) := by decide +kernel
theorem dX7_copy_38 : decode cX7_copy 38 = .ok (.getfield 7, 3) := by decide +kernel
theorem dX7_copy_41 : decode cX7_copy 41 = .ok (.iload_n 1, 1) := by decide +kernel
theorem dX7_copy_42 : decode cX7_copy 42 = .ok (.iaload, 1) := by decide +kernel
theorem dX7_copy_43 : decode cX7_copy 43 = .ok (.aload_n 0, 1) := by decide +kernel
theorem dX7_copy_44 : decode cX7_copy 44 = .ok (.getfield 7, 3) := by decide +kernel
theorem dX7_copy_47 : decode cX7_copy 47 = .ok (.iload_n 3, 1) := by decide +kernel
theorem dX7_copy_48 : decode cX7_copy 48 = .ok (.iaload, 1) := by decide +kernel
theorem dX7_copy_49 : decode cX7_copy 49 = .ok (.if_icmp .eq 6, 3) := by decide +kernel
theorem dX7_copy_52 : decode cX7_copy 52 = .ok (.bipush (-14), 2) := by decide +kernel
theorem dX7_copy_54 : decode cX7_copy 54 = .ok (.ireturn, 1) := by decide +kernel
theorem dX7_copy_55 : decode cX7_copy 55 = .ok (.iload 5, 2) := by decide +kernel
theorem dX7_copy_57 : decode cX7_copy 57 = .ok (.ifCond .lt 47, 3) := by decide +kernel
theorem dX7_copy_60 : decode cX7_copy 60 = .ok (.iload_n 2, 1) := by decide +kernel
theorem dX7_copy_61 : decode cX7_copy 61 = .ok (.ifCond .lt 43, 3) := by decide +kernel
theorem dX7_copy_64 : decode cX7_copy 64 = .ok (.iload 4, 2) := by decide +kernel
theorem dX7_copy_66 : decode cX7_copy 66 = .ok (.ifCond .lt 38, 3) := by decide +kernel
theorem dX7_copy_69 : decode cX7_copy 69 = .ok (.iload_n 2, 1) := by decide +kernel
theorem dX7_copy_70 : decode cX7_copy 70 = .ok (.i2l, 1) := by decide +kernel
theorem dX7_copy_71 : decode cX7_copy 71 = .ok (.iload 5, 2) := by decide +kernel
theorem dX7_copy_73 : decode cX7_copy 73 = .ok (.i2l, 1) := by decide +kernel
theorem dX7_copy_74 : decode cX7_copy 74 = .ok (.ladd, 1) := by decide +kernel
theorem dX7_copy_75 : decode cX7_copy 75 = .ok (.aload_n 0, 1) := by decide +kernel
theorem dX7_copy_76 : decode cX7_copy 76 = .ok (.getfield 13, 3) := by decide +kernel
theorem dX7_copy_79 : decode cX7_copy 79 = .ok (.iload_n 1, 1) := by decide +kernel
theorem dX7_copy_80 : decode cX7_copy 80 = .ok (.iaload, 1) := by decide +kernel
theorem dX7_copy_81 : decode cX7_copy 81 = .ok (.i2l, 1) := by decide +kernel
theorem dX7_copy_82 : decode cX7_copy 82 = .ok (.lcmp, 1) := by decide +kernel
theorem dX7_copy_83 : decode cX7_copy 83 = .ok (.ifCond .gt 21, 3) := by decide +kernel
theorem dX7_copy_86 : decode cX7_copy 86 = .ok (.iload 4, 2) := by decide +kernel
theorem dX7_copy_88 : decode cX7_copy 88 = .ok (.i2l, 1) := by decide +kernel
theorem dX7_copy_89 : decode cX7_copy 89 = .ok (.iload 5, 2) := by decide +kernel
theorem dX7_copy_91 : decode cX7_copy 91 = .ok (.i2l, 1) := by decide +kernel
theorem dX7_copy_92 : decode cX7_copy 92 = .ok (.ladd, 1) := by decide +kernel
theorem dX7_copy_93 : decode cX7_copy 93 = .ok (.aload_n 0, 1) := by decide +kernel
theorem dX7_copy_94 : decode cX7_copy 94 = .ok (.getfield 13, 3) := by decide +kernel
theorem dX7_copy_97 : decode cX7_copy 97 = .ok (.iload_n 3, 1) := by decide +kernel
theorem dX7_copy_98 : decode cX7_copy 98 = .ok (.iaload, 1) := by decide +kernel
theorem dX7_copy_99 : decode cX7_copy 99 = .ok (.i2l, 1) := by decide +kernel
theorem dX7_copy_100 : decode cX7_copy 100 = .ok (.lcmp, 1) := by decide +kernel
theorem dX7_copy_101 : decode cX7_copy 101 = .ok (.ifCond .le 6, 3) := by decide +kernel
theorem dX7_copy_104 : decode cX7_copy 104 = .ok (.bipush (-12), 2) := by decide +kernel
theorem dX7_copy_106 : decode cX7_copy 106 = .ok (.ireturn, 1) := by decide +kernel
theorem dX7_copy_107 : decode cX7_copy 107 = .ok (.iconst 0, 1) := by decide +kernel
theorem dX7_copy_108 : decode cX7_copy 108 = .ok (.istore 6, 2) := by decide +kernel
theorem dX7_copy_110 : decode cX7_copy 110 = .ok (.iload 6, 2) := by decide +kernel
theorem dX7_copy_112 : decode cX7_copy 112 = .ok (.iload 5, 2) := by decide +kernel
theorem dX7_copy_114 : decode cX7_copy 114 = .ok (.if_icmp .ge 30, 3) := by decide +kernel
theorem dX7_copy_117 : decode cX7_copy 117 = .ok (.aload_n 0, 1) := by decide +kernel
theorem dX7_copy_118 : decode cX7_copy 118 = .ok (.getfield 39, 3) := by decide +kernel
theorem dX7_copy_121 : decode cX7_copy 121 = .ok (.iload 6, 2) := by decide +kernel
theorem dX7_copy_123 : decode cX7_copy 123 = .ok (.aload_n 0, 1) := by decide +kernel
theorem dX7_copy_124 : decode cX7_copy 124 = .ok (.getfield 16, 3) := by decide +kernel
theorem dX7_copy_127 : decode cX7_copy 127 = .ok (.bipush 24, 2) := by decide +kernel
theorem dX7_copy_129 : decode cX7_copy 129 = .ok (.iload_n 1, 1) := by decide +kernel
theorem dX7_copy_130 : decode cX7_copy 130 = .ok (.imul, 1) := by decide +kernel
theorem dX7_copy_131 : decode cX7_copy 131 = .ok (.iload_n 2, 1) := by decide +kernel
theorem dX7_copy_132 : decode cX7_copy 132 = .ok (.iadd, 1) := by decide +kernel
theorem dX7_copy_133 : decode cX7_copy 133 = .ok (.iload 6, 2) := by decide +kernel
theorem dX7_copy_135 : decode cX7_copy 135 = .ok (.iadd, 1) := by decide +kernel
theorem dX7_copy_136 : decode cX7_copy 136 = .ok (.laload, 1) := by decide +kernel
theorem dX7_copy_137 : decode cX7_copy 137 = .ok (.lastore, 1) := by decide +kernel
theorem dX7_copy_138 : decode cX7_copy 138 = .ok (.iinc 6 1, 3) := by decide +kernel
theorem dX7_copy_141 : decode cX7_copy 141 = .ok (.goto (-31), 3) := by decide +kernel
theorem dX7_copy_144 : decode cX7_copy 144 = .ok (.iconst 0, 1) := by decide +kernel
theorem dX7_copy_145 : decode cX7_copy 145 = .ok (.istore 6, 2) := by decide +kernel
theorem dX7_copy_147 : decode cX7_copy 147 = .ok (.iload 6, 2) := by decide +kernel
theorem dX7_copy_149 : decode cX7_copy 149 = .ok (.iload 5, 2) := by decide +kernel
theorem dX7_copy_151 : decode cX7_copy 151 = .ok (.if_icmp .ge 31, 3) := by decide +kernel
theorem dX7_copy_154 : decode cX7_copy 154 = .ok (.aload_n 0, 1) := by decide +kernel
theorem dX7_copy_155 : decode cX7_copy 155 = .ok (.getfield 16, 3) := by decide +kernel
theorem dX7_copy_158 : decode cX7_copy 158 = .ok (.bipush 24, 2) := by decide +kernel
theorem dX7_copy_160 : decode cX7_copy 160 = .ok (.iload_n 3, 1) := by decide +kernel
theorem dX7_copy_161 : decode cX7_copy 161 = .ok (.imul, 1) := by decide +kernel
theorem dX7_copy_162 : decode cX7_copy 162 = .ok (.iload 4, 2) := by decide +kernel
theorem dX7_copy_164 : decode cX7_copy 164 = .ok (.iadd, 1) := by decide +kernel
theorem dX7_copy_165 : decode cX7_copy 165 = .ok (.iload 6, 2) := by decide +kernel
theorem dX7_copy_167 : decode cX7_copy 167 = .ok (.iadd, 1) := by decide +kernel
theorem dX7_copy_168 : decode cX7_copy 168 = .ok (.aload_n 0, 1) := by decide +kernel
theorem dX7_copy_169 : decode cX7_copy 169 = .ok (.getfield 39, 3) := by decide +kernel
theorem dX7_copy_172 : decode cX7_copy 172 = .ok (.iload 6, 2) := by decide +kernel
theorem dX7_copy_174 : decode cX7_copy 174 = .ok (.laload, 1) := by decide +kernel
theorem dX7_copy_175 : decode cX7_copy 175 = .ok (.lastore, 1) := by decide +kernel
theorem dX7_copy_176 : decode cX7_copy 176 = .ok (.iinc 6 1, 3) := by decide +kernel
theorem dX7_copy_179 : decode cX7_copy 179 = .ok (.goto (-32), 3) := by decide +kernel
theorem dX7_copy_182 : decode cX7_copy 182 = .ok (.iconst 0, 1) := by decide +kernel
theorem dX7_copy_183 : decode cX7_copy 183 = .ok (.ireturn, 1) := by decide +kernel
theorem dX7_holds_0 : decode cX7_holds 0 = .ok (.aload_n 0, 1) := by decide +kernel
theorem dX7_holds_1 : decode cX7_holds 1 = .ok (.iload_n 1, 1) := by decide +kernel
theorem dX7_holds_2 : decode cX7_holds 2 = .ok (.iload_n 2, 1) := by decide +kernel
theorem dX7_holds_3 : decode cX7_holds 3 = .ok (.invokevirtual 75, 3) := by decide +kernel
theorem dX7_holds_6 : decode cX7_holds 6 = .ok (.istore 5, 2) := by decide +kernel
theorem dX7_holds_8 : decode cX7_holds 8 = .ok (.iload 5, 2) := by decide +kernel
theorem dX7_holds_10 : decode cX7_holds 10 = .ok (.ifCond .eq 8, 3) := by decide +kernel
theorem dX7_holds_13 : decode cX7_holds 13 = .ok (.iload 5, 2) := by decide +kernel
theorem dX7_holds_15 : decode cX7_holds 15 = .ok (.goto 24, 3) := by decide +kernel
theorem dX7_holds_18 : decode cX7_holds 18 = .ok (.aload_n 0, 1) := by decide +kernel
theorem dX7_holds_19 : decode cX7_holds 19 = .ok (.getfield 16, 3) := by decide +kernel
theorem dX7_holds_22 : decode cX7_holds 22 = .ok (.bipush 24, 2) := by decide +kernel
theorem dX7_holds_24 : decode cX7_holds 24 = .ok (.iload_n 1, 1) := by decide +kernel
theorem dX7_holds_25 : decode cX7_holds 25 = .ok (.imul, 1) := by decide +kernel
theorem dX7_holds_26 : decode cX7_holds 26 = .ok (.iload_n 2, 1) := by decide +kernel
theorem dX7_holds_27 : decode cX7_holds 27 = .ok (.iadd, 1) := by decide +kernel
theorem dX7_holds_28 : decode cX7_holds 28 = .ok (.laload, 1) := by decide +kernel
theorem dX7_holds_29 : decode cX7_holds 29 = .ok (.lload_n 3, 1) := by decide +kernel
theorem dX7_holds_30 : decode cX7_holds 30 = .ok (.lcmp, 1) := by decide +kernel
theorem dX7_holds_31 : decode cX7_holds 31 = .ok (.ifCond .ne 7, 3) := by decide +kernel
theorem dX7_holds_34 : decode cX7_holds 34 = .ok (.iconst 1, 1) := by decide +kernel
theorem dX7_holds_35 : decode cX7_holds 35 = .ok (.goto 4, 3) := by decide +kernel
theorem dX7_holds_38 : decode cX7_holds 38 = .ok (.iconst 0, 1) := by decide +kernel
theorem dX7_holds_39 : decode cX7_holds 39 = .ok (.ireturn, 1) := by decide +kernel
theorem dX7_isQuad_0 : decode cX7_isQuad 0 = .ok (.iload_n 1, 1) := by decide +kernel
theorem dX7_isQuad_1 : decode cX7_isQuad 1 = .ok (.i2l, 1) := by decide +kernel
theorem dX7_isQuad_2 : decode cX7_isQuad 2 = .ok (.lconst 0, 1) := by decide +kernel
theorem dX7_isQuad_3 : decode cX7_isQuad 3 = .ok (.aload_n 0, 1) := by decide +kernel
theorem dX7_isQuad_4 : decode cX7_isQuad 4 = .ok (.getfield 79, 3) := by decide +kernel
theorem dX7_isQuad_7 : decode cX7_isQuad 7 = .ok (.iconst 1, 1) := by decide +kernel
theorem dX7_isQuad_8 : decode cX7_isQuad 8 = .ok (.isub, 1) := by decide +kernel
theorem dX7_isQuad_9 : decode cX7_isQuad 9 = .ok (.i2l, 1) := by decide +kernel
theorem dX7_isQuad_10 : decode cX7_isQuad 10 = .ok (.invokestatic 63, 3) := by decide +kernel
theorem dX7_isQuad_13 : decode cX7_isQuad 13 = .ok (.ireturn, 1) := by decide +kernel
theorem dX7_isBend_0 : decode cX7_isBend 0 = .ok (.lload_n 0, 1) := by decide +kernel
theorem dX7_isBend_1 : decode cX7_isBend 1 = .ok (.lconst 0, 1) := by decide +kernel
theorem dX7_isBend_2 : decode cX7_isBend 2 = .ok (.lcmp, 1) := by decide +kernel
theorem dX7_isBend_3 : decode cX7_isBend 3 = .ok (.ifCond .eq 20, 3) := by decide +kernel
theorem dX7_isBend_6 : decode cX7_isBend 6 = .ok (.lload_n 0, 1) := by decide +kernel
theorem dX7_isBend_7 : decode cX7_isBend 7 = .ok (.ldc2_w 82, 3) := by decide +kernel
theorem dX7_isBend_10 : decode cX7_isBend 10 = .ok (.ldc2_w 84, 3) := by decide +kernel
theorem dX7_isBend_13 : decode cX7_isBend 13 = .ok (.invokestatic 63, 3) := by decide +kernel
theorem dX7_isBend_16 : decode cX7_isBend 16 = .ok (.ifCond .eq 7, 3) := by decide +kernel
theorem dX7_isBend_19 : decode cX7_isBend 19 = .ok (.iconst 1, 1) := by decide +kernel
theorem dX7_isBend_20 : decode cX7_isBend 20 = .ok (.goto 4, 3) := by decide +kernel
theorem dX7_isBend_23 : decode cX7_isBend 23 = .ok (.iconst 0, 1) := by decide +kernel
theorem dX7_isBend_24 : decode cX7_isBend 24 = .ok (.ireturn, 1) := by decide +kernel
theorem dX7_isPlace_0 : decode cX7_isPlace 0 = .ok (.lload_n 0, 1) := by decide +kernel
theorem dX7_isPlace_1 : decode cX7_isPlace 1 = .ok (.ldc2_w 86, 3) := by decide +kernel
theorem dX7_isPlace_4 : decode cX7_isPlace 4 = .ok (.ldc2_w 88, 3) := by decide +kernel
theorem dX7_isPlace_7 : decode cX7_isPlace 7 = .ok (.invokestatic 63, 3) := by decide +kernel
theorem dX7_isPlace_10 : decode cX7_isPlace 10 = .ok (.ireturn, 1) := by decide +kernel
theorem dX7_areTouching_0 : decode cX7_areTouching 0 = .ok (.lload 6, 2) := by decide +kernel
theorem dX7_areTouching_2 : decode cX7_areTouching 2 = .ok (.lload_n 2, 1) := by decide +kernel
theorem dX7_areTouching_3 : decode cX7_areTouching 3 = .ok (.lmul, 1) := by decide +kernel
theorem dX7_areTouching_4 : decode cX7_areTouching 4 = .ok (.lload_n 0, 1) := by decide +kernel
theorem dX7_areTouching_5 : decode cX7_areTouching 5 = .ok (.lload 8, 2) := by decide +kernel
theorem dX7_areTouching_7 : decode cX7_areTouching 7 = .ok (.lmul, 1) := by decide +kernel
theorem dX7_areTouching_8 : decode cX7_areTouching 8 = .ok (.lsub, 1) := by decide +kernel
theorem dX7_areTouching_9 : decode cX7_areTouching 9 = .ok (.lstore 12, 2) := by decide +kernel
theorem dX7_areTouching_11 : decode cX7_areTouching 11 = .ok (.lload 6, 2) := by decide +kernel
theorem dX7_areTouching_13 : decode cX7_areTouching 13 = .ok (.lload 4, 2) := by decide +kernel
theorem dX7_areTouching_15 : decode cX7_areTouching 15 = .ok (.lmul, 1) := by decide +kernel
theorem dX7_areTouching_16 : decode cX7_areTouching 16 = .ok (.lload_n 0, 1) := by decide +kernel
theorem dX7_areTouching_17 : decode cX7_areTouching 17 = .ok (.lload 10, 2) := by decide +kernel
theorem dX7_areTouching_19 : decode cX7_areTouching 19 = .ok (.lmul, 1) := by decide +kernel
theorem dX7_areTouching_20 : decode cX7_areTouching 20 = .ok (.lsub, 1) := by decide +kernel
theorem dX7_areTouching_21 : decode cX7_areTouching 21 = .ok (.lstore 14, 2) := by decide +kernel
theorem dX7_areTouching_23 : decode cX7_areTouching 23 = .ok (.lload 12, 2) := by decide +kernel
theorem dX7_areTouching_25 : decode cX7_areTouching 25 = .ok (.lload 12, 2) := by decide +kernel
theorem dX7_areTouching_27 : decode cX7_areTouching 27 = .ok (.lmul, 1) := by decide +kernel
theorem dX7_areTouching_28 : decode cX7_areTouching 28 = .ok (.lload 14, 2) := by decide +kernel
theorem dX7_areTouching_30 : decode cX7_areTouching 30 = .ok (.lload 14, 2) := by decide +kernel
theorem dX7_areTouching_32 : decode cX7_areTouching 32 = .ok (.lmul, 1) := by decide +kernel
theorem dX7_areTouching_33 : decode cX7_areTouching 33 = .ok (.ladd, 1) := by decide +kernel
theorem dX7_areTouching_34 : decode cX7_areTouching 34 = .ok (.lload_n 0, 1) := by decide +kernel
theorem dX7_areTouching_35 : decode cX7_areTouching 35 = .ok (.lload 6, 2) := by decide +kernel
theorem dX7_areTouching_37 : decode cX7_areTouching 37 = .ok (.ladd, 1) := by decide +kernel
theorem dX7_areTouching_38 : decode cX7_areTouching 38 = .ok (.lload_n 0, 1) := by decide +kernel
theorem dX7_areTouching_39 : decode cX7_areTouching 39 = .ok (.lload 6, 2) := by decide +kernel
theorem dX7_areTouching_41 : decode cX7_areTouching 41 = .ok (.ladd, 1) := by decide +kernel
theorem dX7_areTouching_42 : decode cX7_areTouching 42 = .ok (.lmul, 1) := by decide +kernel
theorem dX7_areTouching_43 : decode cX7_areTouching 43 = .ok (.lcmp, 1) := by decide +kernel
theorem dX7_areTouching_44 : decode cX7_areTouching 44 = .ok (.ifCond .ne 7, 3) := by decide +kernel
theorem dX7_areTouching_47 : decode cX7_areTouching 47 = .ok (.iconst 1, 1) := by decide +kernel
theorem dX7_areTouching_48 : decode cX7_areTouching 48 = .ok (.goto 4, 3) := by decide +kernel
theorem dX7_areTouching_51 : decode cX7_areTouching 51 = .ok (.iconst 0, 1) := by decide +kernel
theorem dX7_areTouching_52 : decode cX7_areTouching 52 = .ok (.ireturn, 1) := by decide +kernel
theorem dX7_common_0 : decode cX7_common 0 = .ok (.lload_n 0, 1) := by decide +kernel
theorem dX7_common_1 : decode cX7_common 1 = .ok (.lconst 0, 1) := by decide +kernel
theorem dX7_common_2 : decode cX7_common 2 = .ok (.lcmp, 1) := by decide +kernel
theorem dX7_common_3 : decode cX7_common 3 = .ok (.ifCond .ge 8, 3) := by decide +kernel
theorem dX7_common_6 : decode cX7_common 6 = .ok (.lload_n 0, 1) := by decide +kernel
theorem dX7_common_7 : decode cX7_common 7 = .ok (.lneg, 1) := by decide +kernel
theorem dX7_common_8 : decode cX7_common 8 = .ok (.goto 4, 3) := by decide +kernel
theorem dX7_common_11 : decode cX7_common 11 = .ok (.lload_n 0, 1) := by decide +kernel
theorem dX7_common_12 : decode cX7_common 12 = .ok (.lstore 4, 2) := by decide +kernel
theorem dX7_common_14 : decode cX7_common 14 = .ok (.lload_n 2, 1) := by decide +kernel
theorem dX7_common_15 : decode cX7_common 15 = .ok (.lconst 0, 1) := by decide +kernel
theorem dX7_common_16 : decode cX7_common 16 = .ok (.lcmp, 1) := by decide +kernel
theorem dX7_common_17 : decode cX7_common 17 = .ok (.ifCond .ge 8, 3) := by decide +kernel
theorem dX7_common_20 : decode cX7_common 20 = .ok (.lload_n 2, 1) := by decide +kernel
theorem dX7_common_21 : decode cX7_common 21 = .ok (.lneg, 1) := by decide +kernel
theorem dX7_common_22 : decode cX7_common 22 = .ok (.goto 4, 3) := by decide +kernel
theorem dX7_common_25 : decode cX7_common 25 = .ok (.lload_n 2, 1) := by decide +kernel
theorem dX7_common_26 : decode cX7_common 26 = .ok (.lstore 6, 2) := by decide +kernel
theorem dX7_common_28 : decode cX7_common 28 = .ok (.lload 6, 2) := by decide +kernel
theorem dX7_common_30 : decode cX7_common 30 = .ok (.lconst 0, 1) := by decide +kernel
theorem dX7_common_31 : decode cX7_common 31 = .ok (.lcmp, 1) := by decide +kernel
theorem dX7_common_32 : decode cX7_common 32 = .ok (.ifCond .eq 21, 3) := by decide +kernel
theorem dX7_common_35 : decode cX7_common 35 = .ok (.lload 4, 2) := by decide +kernel
theorem dX7_common_37 : decode cX7_common 37 = .ok (.lload 6, 2) := by decide +kernel
theorem dX7_common_39 : decode cX7_common 39 = .ok (.lrem, 1) := by decide +kernel
theorem dX7_common_40 : decode cX7_common 40 = .ok (.lstore 8, 2) := by decide +kernel
theorem dX7_common_42 : decode cX7_common 42 = .ok (.lload 6, 2) := by decide +kernel
theorem dX7_common_44 : decode cX7_common 44 = .ok (.lstore 4, 2) := by decide +kernel
theorem dX7_common_46 : decode cX7_common 46 = .ok (.lload 8, 2) := by decide +kernel
theorem dX7_common_48 : decode cX7_common 48 = .ok (.lstore 6, 2) := by decide +kernel
theorem dX7_common_50 : decode cX7_common 50 = .ok (.goto (-22), 3) := by decide +kernel
theorem dX7_common_53 : decode cX7_common 53 = .ok (.lload 4, 2) := by decide +kernel
theorem dX7_common_55 : decode cX7_common 55 = .ok (.lreturn, 1) := by decide +kernel
theorem dX7_againstFour_0 : decode cX7_againstFour 0 = .ok (.lconst 0, 1) := by decide +kernel
theorem dX7_againstFour_1 : decode cX7_againstFour 1 = .ok (.lstore_n 1, 1) := by decide +kernel
theorem dX7_againstFour_2 : decode cX7_againstFour 2 = .ok (.lconst 0, 1) := by decide +kernel
theorem dX7_againstFour_3 : decode cX7_againstFour 3 = .ok (.lstore_n 3, 1) := by decide +kernel
theorem dX7_againstFour_4 : decode cX7_againstFour 4 = .ok (.iconst 0, 1) := by decide +kernel
theorem dX7_againstFour_5 : decode cX7_againstFour 5 = .ok (.istore 5, 2) := by decide +kernel
theorem dX7_againstFour_7 : decode cX7_againstFour 7 = .ok (.iconst 0, 1) := by decide +kernel
theorem dX7_againstFour_8 : decode cX7_againstFour 8 = .ok (.istore 6, 2) := by decide +kernel
theorem dX7_againstFour_10 : decode cX7_againstFour 10 = .ok (.iload 6, 2) := by decide +kernel
theorem dX7_againstFour_12 : decode cX7_againstFour 12 = .ok (.iconst 4, 1) := by decide +kernel
theorem dX7_againstFour_13 : decode cX7_againstFour 13 = .ok (.if_icmp .ge 27, 3) := by decide +kernel
theorem dX7_againstFour_16 : decode cX7_againstFour 16 = .ok (.aload_n 0, 1) := by decide +kernel
theorem dX7_againstFour_17 : decode cX7_againstFour 17 = .ok (.getfield 26, 3) := by decide +kernel
theorem dX7_againstFour_20 : decode cX7_againstFour 20 = .ok (.iconst 3, 1) := by decide +kernel
theorem dX7_againstFour_21 : decode cX7_againstFour 21 = .ok (.iload 6, 2) := by decide +kernel
theorem dX7_againstFour_23 : decode cX7_againstFour 23 = .ok (.imul, 1) := by decide +kernel
theorem dX7_againstFour_24 : decode cX7_againstFour 24 = .ok (.laload, 1) := by decide +kernel
theorem dX7_againstFour_25 : decode cX7_againstFour 25 = .ok (.invokestatic 90, 3) := by decide +kernel
theorem dX7_againstFour_28 : decode cX7_againstFour 28 = .ok (.ifCond .ne 6, 3) := by decide +kernel
theorem dX7_againstFour_31 : decode cX7_againstFour 31 = .ok (.bipush (-15), 2) := by decide +kernel
theorem dX7_againstFour_33 : decode cX7_againstFour 33 = .ok (.ireturn, 1) := by decide +kernel
theorem dX7_againstFour_34 : decode cX7_againstFour 34 = .ok (.iinc 6 1, 3) := by decide +kernel
theorem dX7_againstFour_37 : decode cX7_againstFour 37 = .ok (.goto (-27), 3) := by decide +kernel
theorem dX7_againstFour_40 : decode cX7_againstFour 40 = .ok (.iconst 0, 1) := by decide +kernel
theorem dX7_againstFour_41 : decode cX7_againstFour 41 = .ok (.istore 6, 2) := by decide +kernel
theorem dX7_againstFour_43 : decode cX7_againstFour 43 = .ok (.iload 6, 2) := by decide +kernel
theorem dX7_againstFour_45 : decode cX7_againstFour 45 = .ok (.iconst 4, 1) := by decide +kernel
theorem dX7_againstFour_46 : decode cX7_againstFour 46 = .ok (.if_icmp .ge 104, 3) := by decide +kernel
theorem dX7_againstFour_49 : decode cX7_againstFour 49 = .ok (.aload_n 0, 1) := by decide +kernel
theorem dX7_againstFour_50 : decode cX7_againstFour 50 = .ok (.getfield 26, 3) := by decide +kernel
theorem dX7_againstFour_53 : decode cX7_againstFour 53 = .ok (.iconst 3, 1) := by decide +kernel
theorem dX7_againstFour_54 : decode cX7_againstFour 54 = .ok (.iload 6, 2) := by decide +kernel
theorem dX7_againstFour_56 : decode cX7_againstFour 56 = .ok (.imul, 1) := by decide +kernel
theorem dX7_againstFour_57 : decode cX7_againstFour 57 = .ok (.iconst 1, 1) := by decide +kernel
theorem dX7_againstFour_58 : decode cX7_againstFour 58 = .ok (.iadd, 1) := by decide +kernel
theorem dX7_againstFour_59 : decode cX7_againstFour 59 = .ok (.laload, 1) := by decide +kernel
theorem dX7_againstFour_60 : decode cX7_againstFour 60 = .ok (.invokestatic 94, 3) := by decide +kernel
theorem dX7_againstFour_63 : decode cX7_againstFour 63 = .ok (.ifCond .eq 20, 3) := by decide +kernel
theorem dX7_againstFour_66 : decode cX7_againstFour 66 = .ok (.aload_n 0, 1) := by decide +kernel
theorem dX7_againstFour_67 : decode cX7_againstFour 67 = .ok (.getfield 26, 3) := by decide +kernel
theorem dX7_againstFour_70 : decode cX7_againstFour 70 = .ok (.iconst 3, 1) := by decide +kernel
theorem dX7_againstFour_71 : decode cX7_againstFour 71 = .ok (.iload 6, 2) := by decide +kernel
theorem dX7_againstFour_73 : decode cX7_againstFour 73 = .ok (.imul, 1) := by decide +kernel
theorem dX7_againstFour_74 : decode cX7_againstFour 74 = .ok (.iconst 2, 1) := by decide +kernel
theorem dX7_againstFour_75 : decode cX7_againstFour 75 = .ok (.iadd, 1) := by decide +kernel
theorem dX7_againstFour_76 : decode cX7_againstFour 76 = .ok (.laload, 1) := by decide +kernel
theorem dX7_againstFour_77 : decode cX7_againstFour 77 = .ok (.invokestatic 94, 3) := by decide +kernel
theorem dX7_againstFour_80 : decode cX7_againstFour 80 = .ok (.ifCond .ne 6, 3) := by decide +kernel
theorem dX7_againstFour_83 : decode cX7_againstFour 83 = .ok (.bipush (-16), 2) := by decide +kernel
theorem dX7_againstFour_85 : decode cX7_againstFour 85 = .ok (.ireturn, 1) := by decide +kernel
theorem dX7_againstFour_86 : decode cX7_againstFour 86 = .ok (.lload_n 1, 1) := by decide +kernel
theorem dX7_againstFour_87 : decode cX7_againstFour 87 = .ok (.aload_n 0, 1) := by decide +kernel
theorem dX7_againstFour_88 : decode cX7_againstFour 88 = .ok (.getfield 26, 3) := by decide +kernel
theorem dX7_againstFour_91 : decode cX7_againstFour 91 = .ok (.iconst 3, 1) := by decide +kernel
theorem dX7_againstFour_92 : decode cX7_againstFour 92 = .ok (.iload 6, 2) := by decide +kernel
theorem dX7_againstFour_94 : decode cX7_againstFour 94 = .ok (.imul, 1) := by decide +kernel
theorem dX7_againstFour_95 : decode cX7_againstFour 95 = .ok (.laload, 1) := by decide +kernel
theorem dX7_againstFour_96 : decode cX7_againstFour 96 = .ok (.ladd, 1) := by decide +kernel
theorem dX7_againstFour_97 : decode cX7_againstFour 97 = .ok (.lstore_n 1, 1) := by decide +kernel
theorem dX7_againstFour_98 : decode cX7_againstFour 98 = .ok (.lload_n 3, 1) := by decide +kernel
theorem dX7_againstFour_99 : decode cX7_againstFour 99 = .ok (.aload_n 0, 1) := by decide +kernel
theorem dX7_againstFour_100 : decode cX7_againstFour 100 = .ok (.getfield 26, 3) := by decide +kernel
theorem dX7_againstFour_103 : decode cX7_againstFour 103 = .ok (.iconst 3, 1) := by decide +kernel
theorem dX7_againstFour_104 : decode cX7_againstFour 104 = .ok (.iload 6, 2) := by decide +kernel
theorem dX7_againstFour_106 : decode cX7_againstFour 106 = .ok (.imul, 1) := by decide +kernel
theorem dX7_againstFour_107 : decode cX7_againstFour 107 = .ok (.laload, 1) := by decide +kernel
theorem dX7_againstFour_108 : decode cX7_againstFour 108 = .ok (.aload_n 0, 1) := by decide +kernel
theorem dX7_againstFour_109 : decode cX7_againstFour 109 = .ok (.getfield 26, 3) := by decide +kernel
theorem dX7_againstFour_112 : decode cX7_againstFour 112 = .ok (.iconst 3, 1) := by decide +kernel
theorem dX7_againstFour_113 : decode cX7_againstFour 113 = .ok (.iload 6, 2) := by decide +kernel
theorem dX7_againstFour_115 : decode cX7_againstFour 115 = .ok (.imul, 1) := by decide +kernel
theorem dX7_againstFour_116 : decode cX7_againstFour 116 = .ok (.laload, 1) := by decide +kernel
theorem dX7_againstFour_117 : decode cX7_againstFour 117 = .ok (.lmul, 1) := by decide +kernel
theorem dX7_againstFour_118 : decode cX7_againstFour 118 = .ok (.ladd, 1) := by decide +kernel
theorem dX7_againstFour_119 : decode cX7_againstFour 119 = .ok (.lstore_n 3, 1) := by decide +kernel
theorem dX7_againstFour_120 : decode cX7_againstFour 120 = .ok (.iload 5, 2) := by decide +kernel
theorem dX7_againstFour_122 : decode cX7_againstFour 122 = .ok (.aload_n 0, 1) := by decide +kernel
theorem dX7_againstFour_123 : decode cX7_againstFour 123 = .ok (.getfield 26, 3) := by decide +kernel
theorem dX7_againstFour_126 : decode cX7_againstFour 126 = .ok (.iconst 3, 1) := by decide +kernel
theorem dX7_againstFour_127 : decode cX7_againstFour 127 = .ok (.iload 6, 2) := by decide +kernel
theorem dX7_againstFour_129 : decode cX7_againstFour 129 = .ok (.imul, 1) := by decide +kernel
theorem dX7_againstFour_130 : decode cX7_againstFour 130 = .ok (.laload, 1) := by decide +kernel
theorem dX7_againstFour_131 : decode cX7_againstFour 131 = .ok (.lconst 0, 1) := by decide +kernel
theorem dX7_againstFour_132 : decode cX7_againstFour 132 = .ok (.lcmp, 1) := by decide +kernel
theorem dX7_againstFour_133 : decode cX7_againstFour 133 = .ok (.ifCond .ge 7, 3) := by decide +kernel
theorem dX7_againstFour_136 : decode cX7_againstFour 136 = .ok (.iconst 1, 1) := by decide +kernel
theorem dX7_againstFour_137 : decode cX7_againstFour 137 = .ok (.goto 4, 3) := by decide +kernel
theorem dX7_againstFour_140 : decode cX7_againstFour 140 = .ok (.iconst 0, 1) := by decide +kernel
theorem dX7_againstFour_141 : decode cX7_againstFour 141 = .ok (.iadd, 1) := by decide +kernel
theorem dX7_againstFour_142 : decode cX7_againstFour 142 = .ok (.istore 5, 2) := by decide +kernel
theorem dX7_againstFour_144 : decode cX7_againstFour 144 = .ok (.iinc 6 1, 3) := by decide +kernel
theorem dX7_againstFour_147 : decode cX7_againstFour 147 = .ok (.goto (-104), 3) := by decide +kernel
theorem dX7_againstFour_150 : decode cX7_againstFour 150 = .ok (.ldc2_w 73, 3) := by decide +kernel
theorem dX7_againstFour_153 : decode cX7_againstFour 153 = .ok (.lload_n 3, 1) := by decide +kernel
theorem dX7_againstFour_154 : decode cX7_againstFour 154 = .ok (.lmul, 1) := by decide +kernel
theorem dX7_againstFour_155 : decode cX7_againstFour 155 = .ok (.lload_n 1, 1) := by decide +kernel
theorem dX7_againstFour_156 : decode cX7_againstFour 156 = .ok (.lload_n 1, 1) := by decide +kernel
theorem dX7_againstFour_157 : decode cX7_againstFour 157 = .ok (.lmul, 1) := by decide +kernel
theorem dX7_againstFour_158 : decode cX7_againstFour 158 = .ok (.lcmp, 1) := by decide +kernel
theorem dX7_againstFour_159 : decode cX7_againstFour 159 = .ok (.ifCond .ne 9, 3) := by decide +kernel
theorem dX7_againstFour_162 : decode cX7_againstFour 162 = .ok (.lload_n 1, 1) := by decide +kernel
theorem dX7_againstFour_163 : decode cX7_againstFour 163 = .ok (.lconst 0, 1) := by decide +kernel
theorem dX7_againstFour_164 : decode cX7_againstFour 164 = .ok (.lcmp, 1) := by decide +kernel
theorem dX7_againstFour_165 : decode cX7_againstFour 165 = .ok (.ifCond .gt 6, 3) := by decide +kernel
theorem dX7_againstFour_168 : decode cX7_againstFour 168 = .ok (.bipush (-17), 2) := by decide +kernel
theorem dX7_againstFour_170 : decode cX7_againstFour 170 = .ok (.ireturn, 1) := by decide +kernel
theorem dX7_againstFour_171 : decode cX7_againstFour 171 = .ok (.iload 5, 2) := by decide +kernel
theorem dX7_againstFour_173 : decode cX7_againstFour 173 = .ok (.iconst 1, 1) := by decide +kernel
theorem dX7_againstFour_174 : decode cX7_againstFour 174 = .ok (.if_icmp .le 6, 3) := by decide +kernel
theorem dX7_againstFour_177 : decode cX7_againstFour 177 = .ok (.bipush (-18), 2) := by decide +kernel
theorem dX7_againstFour_179 : decode cX7_againstFour 179 = .ok (.ireturn, 1) := by decide +kernel
theorem dX7_againstFour_180 : decode cX7_againstFour 180 = .ok (.aload_n 0, 1) := by decide +kernel
theorem dX7_againstFour_181 : decode cX7_againstFour 181 = .ok (.getfield 26, 3) := by decide +kernel
theorem dX7_againstFour_184 : decode cX7_againstFour 184 = .ok (.iconst 0, 1) := by decide +kernel
theorem dX7_againstFour_185 : decode cX7_againstFour 185 = .ok (.laload, 1) := by decide +kernel
theorem dX7_againstFour_186 : decode cX7_againstFour 186 = .ok (.aload_n 0, 1) := by decide +kernel
theorem dX7_againstFour_187 : decode cX7_againstFour 187 = .ok (.getfield 26, 3) := by decide +kernel
theorem dX7_againstFour_190 : decode cX7_againstFour 190 = .ok (.iconst 3, 1) := by decide +kernel
theorem dX7_againstFour_191 : decode cX7_againstFour 191 = .ok (.laload, 1) := by decide +kernel
theorem dX7_againstFour_192 : decode cX7_againstFour 192 = .ok (.invokestatic 97, 3) := by decide +kernel
theorem dX7_againstFour_195 : decode cX7_againstFour 195 = .ok (.aload_n 0, 1) := by decide +kernel
theorem dX7_againstFour_196 : decode cX7_againstFour 196 = .ok (.getfield 26, 3) := by decide +kernel
theorem dX7_againstFour_199 : decode cX7_againstFour 199 = .ok (.bipush 6, 2) := by decide +kernel
theorem dX7_againstFour_201 : decode cX7_againstFour 201 = .ok (.laload, 1) := by decide +kernel
theorem dX7_againstFour_202 : decode cX7_againstFour 202 = .ok (.aload_n 0, 1) := by decide +kernel
theorem dX7_againstFour_203 : decode cX7_againstFour 203 = .ok (.getfield 26, 3) := by decide +kernel
theorem dX7_againstFour_206 : decode cX7_againstFour 206 = .ok (.bipush 9, 2) := by decide +kernel
theorem dX7_againstFour_208 : decode cX7_againstFour 208 = .ok (.laload, 1) := by decide +kernel
theorem dX7_againstFour_209 : decode cX7_againstFour 209 = .ok (.invokestatic 97, 3) := by decide +kernel
theorem dX7_againstFour_212 : decode cX7_againstFour 212 = .ok (.invokestatic 97, 3) := by decide +kernel
theorem dX7_againstFour_215 : decode cX7_againstFour 215 = .ok (.lconst 1, 1) := by decide +kernel
theorem dX7_againstFour_216 : decode cX7_againstFour 216 = .ok (.lcmp, 1) := by decide +kernel
theorem dX7_againstFour_217 : decode cX7_againstFour 217 = .ok (.ifCond .le 6, 3) := by decide +kernel
theorem dX7_againstFour_220 : decode cX7_againstFour 220 = .ok (.bipush (-19), 2) := by decide +kernel
theorem dX7_againstFour_222 : decode cX7_againstFour 222 = .ok (.ireturn, 1) := by decide +kernel
theorem dX7_againstFour_223 : decode cX7_againstFour 223 = .ok (.iconst 0, 1) := by decide +kernel
theorem dX7_againstFour_224 : decode cX7_againstFour 224 = .ok (.istore 6, 2) := by decide +kernel
theorem dX7_againstFour_226 : decode cX7_againstFour 226 = .ok (.iload 6, 2) := by decide +kernel
theorem dX7_againstFour_228 : decode cX7_againstFour 228 = .ok (.iconst 4, 1) := by decide +kernel
theorem dX7_againstFour_229 : decode cX7_againstFour 229 = .ok (.if_icmp .ge 96, 3) := by decide +kernel
theorem dX7_againstFour_232 : decode cX7_againstFour 232 = .ok (.iconst 0, 1) := by decide +kernel
theorem dX7_againstFour_233 : decode cX7_againstFour 233 = .ok (.istore 7, 2) := by decide +kernel
theorem dX7_againstFour_235 : decode cX7_againstFour 235 = .ok (.iload 7, 2) := by decide +kernel
theorem dX7_againstFour_237 : decode cX7_againstFour 237 = .ok (.iload 6, 2) := by decide +kernel
theorem dX7_againstFour_239 : decode cX7_againstFour 239 = .ok (.if_icmp .ge 80, 3) := by decide +kernel
theorem dX7_againstFour_242 : decode cX7_againstFour 242 = .ok (.aload_n 0, 1) := by decide +kernel
theorem dX7_againstFour_243 : decode cX7_againstFour 243 = .ok (.getfield 26, 3) := by decide +kernel
theorem dX7_againstFour_246 : decode cX7_againstFour 246 = .ok (.iconst 3, 1) := by decide +kernel
theorem dX7_againstFour_247 : decode cX7_againstFour 247 = .ok (.iload 6, 2) := by decide +kernel
theorem dX7_againstFour_249 : decode cX7_againstFour 249 = .ok (.imul, 1) := by decide +kernel
theorem dX7_againstFour_250 : decode cX7_againstFour 250 = .ok (.laload, 1) := by decide +kernel
theorem dX7_againstFour_251 : decode cX7_againstFour 251 = .ok (.aload_n 0, 1) := by decide +kernel
theorem dX7_againstFour_252 : decode cX7_againstFour 252 = .ok (.getfield 26, 3) := by decide +kernel
theorem dX7_againstFour_255 : decode cX7_againstFour 255 = .ok (.iconst 3, 1) := by decide +kernel
theorem dX7_againstFour_256 : decode cX7_againstFour 256 = .ok (.iload 6, 2) := by decide +kernel
theorem dX7_againstFour_258 : decode cX7_againstFour 258 = .ok (.imul, 1) := by decide +kernel
theorem dX7_againstFour_259 : decode cX7_againstFour 259 = .ok (.iconst 1, 1) := by decide +kernel
theorem dX7_againstFour_260 : decode cX7_againstFour 260 = .ok (.iadd, 1) := by decide +kernel
theorem dX7_againstFour_261 : decode cX7_againstFour 261 = .ok (.laload, 1) := by decide +kernel
theorem dX7_againstFour_262 : decode cX7_againstFour 262 = .ok (.aload_n 0, 1) := by decide +kernel
theorem dX7_againstFour_263 : decode cX7_againstFour 263 = .ok (.getfield 26, 3) := by decide +kernel
theorem dX7_againstFour_266 : decode cX7_againstFour 266 = .ok (.iconst 3, 1) := by decide +kernel
theorem dX7_againstFour_267 : decode cX7_againstFour 267 = .ok (.iload 6, 2) := by decide +kernel
theorem dX7_againstFour_269 : decode cX7_againstFour 269 = .ok (.imul, 1) := by decide +kernel
theorem dX7_againstFour_270 : decode cX7_againstFour 270 = .ok (.iconst 2, 1) := by decide +kernel
theorem dX7_againstFour_271 : decode cX7_againstFour 271 = .ok (.iadd, 1) := by decide +kernel
theorem dX7_againstFour_272 : decode cX7_againstFour 272 = .ok (.laload, 1) := by decide +kernel
theorem dX7_againstFour_273 : decode cX7_againstFour 273 = .ok (.aload_n 0, 1) := by decide +kernel
theorem dX7_againstFour_274 : decode cX7_againstFour 274 = .ok (.getfield 26, 3) := by decide +kernel
theorem dX7_againstFour_277 : decode cX7_againstFour 277 = .ok (.iconst 3, 1) := by decide +kernel
theorem dX7_againstFour_278 : decode cX7_againstFour 278 = .ok (.iload 7, 2) := by decide +kernel
theorem dX7_againstFour_280 : decode cX7_againstFour 280 = .ok (.imul, 1) := by decide +kernel
theorem dX7_againstFour_281 : decode cX7_againstFour 281 = .ok (.laload, 1) := by decide +kernel
theorem dX7_againstFour_282 : decode cX7_againstFour 282 = .ok (.aload_n 0, 1) := by decide +kernel
theorem dX7_againstFour_283 : decode cX7_againstFour 283 = .ok (.getfield 26, 3) := by decide +kernel
theorem dX7_againstFour_286 : decode cX7_againstFour 286 = .ok (.iconst 3, 1) := by decide +kernel
theorem dX7_againstFour_287 : decode cX7_againstFour 287 = .ok (.iload 7, 2) := by decide +kernel
theorem dX7_againstFour_289 : decode cX7_againstFour 289 = .ok (.imul, 1) := by decide +kernel
theorem dX7_againstFour_290 : decode cX7_againstFour 290 = .ok (.iconst 1, 1) := by decide +kernel
theorem dX7_againstFour_291 : decode cX7_againstFour 291 = .ok (.iadd, 1) := by decide +kernel
theorem dX7_againstFour_292 : decode cX7_againstFour 292 = .ok (.laload, 1) := by decide +kernel
theorem dX7_againstFour_293 : decode cX7_againstFour 293 = .ok (.aload_n 0, 1) := by decide +kernel
theorem dX7_againstFour_294 : decode cX7_againstFour 294 = .ok (.getfield 26, 3) := by decide +kernel
theorem dX7_againstFour_297 : decode cX7_againstFour 297 = .ok (.iconst 3, 1) := by decide +kernel
theorem dX7_againstFour_298 : decode cX7_againstFour 298 = .ok (.iload 7, 2) := by decide +kernel
theorem dX7_againstFour_300 : decode cX7_againstFour 300 = .ok (.imul, 1) := by decide +kernel
theorem dX7_againstFour_301 : decode cX7_againstFour 301 = .ok (.iconst 2, 1) := by decide +kernel
theorem dX7_againstFour_302 : decode cX7_againstFour 302 = .ok (.iadd, 1) := by decide +kernel
theorem dX7_againstFour_303 : decode cX7_againstFour 303 = .ok (.laload, 1) := by decide +kernel
theorem dX7_againstFour_304 : decode cX7_againstFour 304 = .ok (.invokestatic 101, 3) := by decide +kernel
theorem dX7_againstFour_307 : decode cX7_againstFour 307 = .ok (.ifCond .ne 6, 3) := by decide +kernel
theorem dX7_againstFour_310 : decode cX7_againstFour 310 = .ok (.bipush (-20), 2) := by decide +kernel
theorem dX7_againstFour_312 : decode cX7_againstFour 312 = .ok (.ireturn, 1) := by decide +kernel
theorem dX7_againstFour_313 : decode cX7_againstFour 313 = .ok (.iinc 7 1, 3) := by decide +kernel
theorem dX7_againstFour_316 : decode cX7_againstFour 316 = .ok (.goto (-81), 3) := by decide +kernel
theorem dX7_againstFour_319 : decode cX7_againstFour 319 = .ok (.iinc 6 1, 3) := by decide +kernel
theorem dX7_againstFour_322 : decode cX7_againstFour 322 = .ok (.goto (-96), 3) := by decide +kernel
theorem dX7_againstFour_325 : decode cX7_againstFour 325 = .ok (.iconst 0, 1) := by decide +kernel
theorem dX7_againstFour_326 : decode cX7_againstFour 326 = .ok (.ireturn, 1) := by decide +kernel
theorem dX7_newQuad_0 : decode cX7_newQuad 0 = .ok (.iconst 0, 1) := by decide +kernel
theorem dX7_newQuad_1 : decode cX7_newQuad 1 = .ok (.istore_n 2, 1) := by decide +kernel
theorem dX7_newQuad_2 : decode cX7_newQuad 2 = .ok (.iload_n 2, 1) := by decide +kernel
theorem dX7_newQuad_3 : decode cX7_newQuad 3 = .ok (.bipush 12, 2) := by decide +kernel
theorem dX7_newQuad_5 : decode cX7_newQuad 5 = .ok (.if_icmp .ge 30, 3) := by decide +kernel
theorem dX7_newQuad_8 : decode cX7_newQuad 8 = .ok (.aload_n 0, 1) := by decide +kernel
theorem dX7_newQuad_9 : decode cX7_newQuad 9 = .ok (.getfield 23, 3) := by decide +kernel
theorem dX7_newQuad_12 : decode cX7_newQuad 12 = .ok (.bipush 12, 2) := by decide +kernel
theorem dX7_newQuad_14 : decode cX7_newQuad 14 = .ok (.aload_n 0, 1) := by decide +kernel
theorem dX7_newQuad_15 : decode cX7_newQuad 15 = .ok (.getfield 79, 3) := by decide +kernel
theorem dX7_newQuad_18 : decode cX7_newQuad 18 = .ok (.imul, 1) := by decide +kernel
theorem dX7_newQuad_19 : decode cX7_newQuad 19 = .ok (.iload_n 2, 1) := by decide +kernel
theorem dX7_newQuad_20 : decode cX7_newQuad 20 = .ok (.iadd, 1) := by decide +kernel
theorem dX7_newQuad_21 : decode cX7_newQuad 21 = .ok (.aload_n 0, 1) := by decide +kernel
theorem dX7_newQuad_22 : decode cX7_newQuad 22 = .ok (.getfield 26, 3) := by decide +kernel
theorem dX7_newQuad_25 : decode cX7_newQuad 25 = .ok (.iload_n 2, 1) := by decide +kernel
theorem dX7_newQuad_26 : decode cX7_newQuad 26 = .ok (.laload, 1) := by decide +kernel
theorem dX7_newQuad_27 : decode cX7_newQuad 27 = .ok (.l2i, 1) := by decide +kernel
theorem dX7_newQuad_28 : decode cX7_newQuad 28 = .ok (.iastore, 1) := by decide +kernel
theorem dX7_newQuad_29 : decode cX7_newQuad 29 = .ok (.iinc 2 1, 3) := by decide +kernel
theorem dX7_newQuad_32 : decode cX7_newQuad 32 = .ok (.goto (-30), 3) := by decide +kernel
theorem dX7_newQuad_35 : decode cX7_newQuad 35 = .ok (.aload_n 0, 1) := by decide +kernel
theorem dX7_newQuad_36 : decode cX7_newQuad 36 = .ok (.getfield 20, 3) := by decide +kernel
theorem dX7_newQuad_39 : decode cX7_newQuad 39 = .ok (.aload_n 0, 1) := by decide +kernel
theorem dX7_newQuad_40 : decode cX7_newQuad 40 = .ok (.getfield 79, 3) := by decide +kernel
theorem dX7_newQuad_43 : decode cX7_newQuad 43 = .ok (.iload_n 1, 1) := by decide +kernel
theorem dX7_newQuad_44 : decode cX7_newQuad 44 = .ok (.iastore, 1) := by decide +kernel
theorem dX7_newQuad_45 : decode cX7_newQuad 45 = .ok (.aload_n 0, 1) := by decide +kernel
theorem dX7_newQuad_46 : decode cX7_newQuad 46 = .ok (.dup, 1) := by decide +kernel
theorem dX7_newQuad_47 : decode cX7_newQuad 47 = .ok (.getfield 79, 3) := by decide +kernel
theorem dX7_newQuad_50 : decode cX7_newQuad 50 = .ok (.iconst 1, 1) := by decide +kernel
theorem dX7_newQuad_51 : decode cX7_newQuad 51 = .ok (.iadd, 1) := by decide +kernel
theorem dX7_newQuad_52 : decode cX7_newQuad 52 = .ok (.putfield 79, 3) := by decide +kernel
theorem dX7_newQuad_55 : decode cX7_newQuad 55 = .ok (.aload_n 0, 1) := by decide +kernel
theorem dX7_newQuad_56 : decode cX7_newQuad 56 = .ok (.getfield 79, 3) := by decide +kernel
theorem dX7_newQuad_59 : decode cX7_newQuad 59 = .ok (.iconst 1, 1) := by decide +kernel
theorem dX7_newQuad_60 : decode cX7_newQuad 60 = .ok (.isub, 1) := by decide +kernel
theorem dX7_newQuad_61 : decode cX7_newQuad 61 = .ok (.ireturn, 1) := by decide +kernel
theorem dX7_quad_0 : decode cX7_quad 0 = .ok (.iload_n 1, 1) := by decide +kernel
theorem dX7_quad_1 : decode cX7_quad 1 = .ok (.invokestatic 67, 3) := by decide +kernel
theorem dX7_quad_4 : decode cX7_quad 4 = .ok (.ifCond .ne 5, 3) := by decide +kernel
theorem dX7_quad_7 : decode cX7_quad 7 = .ok (.iconst (-1), 1) := by decide +kernel
theorem dX7_quad_8 : decode cX7_quad 8 = .ok (.ireturn, 1) := by decide +kernel
theorem dX7_quad_9 : decode cX7_quad 9 = .ok (.aload_n 0, 1) := by decide +kernel
theorem dX7_quad_10 : decode cX7_quad 10 = .ok (.getfield 7, 3) := by decide +kernel
theorem dX7_quad_13 : decode cX7_quad 13 = .ok (.iload_n 1, 1) := by decide +kernel
theorem dX7_quad_14 : decode cX7_quad 14 = .ok (.iaload, 1) := by decide +kernel
theorem dX7_quad_15 : decode cX7_quad 15 = .ok (.ifCond .ge 6, 3) := by decide +kernel
theorem dX7_quad_18 : decode cX7_quad 18 = .ok (.bipush (-11), 2) := by decide +kernel
theorem dX7_quad_20 : decode cX7_quad 20 = .ok (.ireturn, 1) := by decide +kernel
theorem dX7_quad_21 : decode cX7_quad 21 = .ok (.iload_n 2, 1) := by decide +kernel
theorem dX7_quad_22 : decode cX7_quad 22 = .ok (.ifCond .lt 20, 3) := by decide +kernel
theorem dX7_quad_25 : decode cX7_quad 25 = .ok (.iload_n 2, 1) := by decide +kernel
theorem dX7_quad_26 : decode cX7_quad 26 = .ok (.i2l, 1) := by decide +kernel
theorem dX7_quad_27 : decode cX7_quad 27 = .ok (.ldc2_w 105, 3) := by decide +kernel
theorem dX7_quad_30 : decode cX7_quad 30 = .ok (.ladd, 1) := by decide +kernel
theorem dX7_quad_31 : decode cX7_quad 31 = .ok (.aload_n 0, 1) := by decide +kernel
theorem dX7_quad_32 : decode cX7_quad 32 = .ok (.getfield 13, 3) := by decide +kernel
theorem dX7_quad_35 : decode cX7_quad 35 = .ok (.iload_n 1, 1) := by decide +kernel
theorem dX7_quad_36 : decode cX7_quad 36 = .ok (.iaload, 1) := by decide +kernel
theorem dX7_quad_37 : decode cX7_quad 37 = .ok (.i2l, 1) := by decide +kernel
theorem dX7_quad_38 : decode cX7_quad 38 = .ok (.lcmp, 1) := by decide +kernel
theorem dX7_quad_39 : decode cX7_quad 39 = .ok (.ifCond .le 6, 3) := by decide +kernel
theorem dX7_quad_42 : decode cX7_quad 42 = .ok (.bipush (-12), 2) := by decide +kernel
theorem dX7_quad_44 : decode cX7_quad 44 = .ok (.ireturn, 1) := by decide +kernel
theorem dX7_quad_45 : decode cX7_quad 45 = .ok (.iconst 0, 1) := by decide +kernel
theorem dX7_quad_46 : decode cX7_quad 46 = .ok (.istore_n 3, 1) := by decide +kernel
theorem dX7_quad_47 : decode cX7_quad 47 = .ok (.iload_n 3, 1) := by decide +kernel
theorem dX7_quad_48 : decode cX7_quad 48 = .ok (.iconst 4, 1) := by decide +kernel
theorem dX7_quad_49 : decode cX7_quad 49 = .ok (.if_icmp .ge 53, 3) := by decide +kernel
theorem dX7_quad_52 : decode cX7_quad 52 = .ok (.iconst 0, 1) := by decide +kernel
theorem dX7_quad_53 : decode cX7_quad 53 = .ok (.istore 4, 2) := by decide +kernel
theorem dX7_quad_55 : decode cX7_quad 55 = .ok (.iload 4, 2) := by decide +kernel
theorem dX7_quad_57 : decode cX7_quad 57 = .ok (.iconst 3, 1) := by decide +kernel
theorem dX7_quad_58 : decode cX7_quad 58 = .ok (.if_icmp .ge 38, 3) := by decide +kernel
theorem dX7_quad_61 : decode cX7_quad 61 = .ok (.aload_n 0, 1) := by decide +kernel
theorem dX7_quad_62 : decode cX7_quad 62 = .ok (.getfield 26, 3) := by decide +kernel
theorem dX7_quad_65 : decode cX7_quad 65 = .ok (.iconst 3, 1) := by decide +kernel
theorem dX7_quad_66 : decode cX7_quad 66 = .ok (.iload_n 3, 1) := by decide +kernel
theorem dX7_quad_67 : decode cX7_quad 67 = .ok (.imul, 1) := by decide +kernel
theorem dX7_quad_68 : decode cX7_quad 68 = .ok (.iload 4, 2) := by decide +kernel
theorem dX7_quad_70 : decode cX7_quad 70 = .ok (.iadd, 1) := by decide +kernel
theorem dX7_quad_71 : decode cX7_quad 71 = .ok (.aload_n 0, 1) := by decide +kernel
theorem dX7_quad_72 : decode cX7_quad 72 = .ok (.getfield 16, 3) := by decide +kernel
theorem dX7_quad_75 : decode cX7_quad 75 = .ok (.bipush 24, 2) := by decide +kernel
theorem dX7_quad_77 : decode cX7_quad 77 = .ok (.iload_n 1, 1) := by decide +kernel
theorem dX7_quad_78 : decode cX7_quad 78 = .ok (.imul, 1) := by decide +kernel
theorem dX7_quad_79 : decode cX7_quad 79 = .ok (.iload_n 2, 1) := by decide +kernel
theorem dX7_quad_80 : decode cX7_quad 80 = .ok (.iadd, 1) := by decide +kernel
theorem dX7_quad_81 : decode cX7_quad 81 = .ok (.iconst 4, 1) := by decide +kernel
theorem dX7_quad_82 : decode cX7_quad 82 = .ok (.iload 4, 2) := by decide +kernel
theorem dX7_quad_84 : decode cX7_quad 84 = .ok (.imul, 1) := by decide +kernel
theorem dX7_quad_85 : decode cX7_quad 85 = .ok (.iadd, 1) := by decide +kernel
theorem dX7_quad_86 : decode cX7_quad 86 = .ok (.iload_n 3, 1) := by decide +kernel
theorem dX7_quad_87 : decode cX7_quad 87 = .ok (.iadd, 1) := by decide +kernel
theorem dX7_quad_88 : decode cX7_quad 88 = .ok (.laload, 1) := by decide +kernel
theorem dX7_quad_89 : decode cX7_quad 89 = .ok (.lastore, 1) := by decide +kernel
theorem dX7_quad_90 : decode cX7_quad 90 = .ok (.iinc 4 1, 3) := by decide +kernel
theorem dX7_quad_93 : decode cX7_quad 93 = .ok (.goto (-38), 3) := by decide +kernel
theorem dX7_quad_96 : decode cX7_quad 96 = .ok (.iinc 3 1, 3) := by decide +kernel
theorem dX7_quad_99 : decode cX7_quad 99 = .ok (.goto (-52), 3) := by decide +kernel
theorem dX7_quad_102 : decode cX7_quad 102 = .ok (.aload_n 0, 1) := by decide +kernel
theorem dX7_quad_103 : decode cX7_quad 103 = .ok (.invokevirtual 107, 3) := by decide +kernel
theorem dX7_quad_106 : decode cX7_quad 106 = .ok (.istore_n 3, 1) := by decide +kernel
theorem dX7_quad_107 : decode cX7_quad 107 = .ok (.iload_n 3, 1) := by decide +kernel
theorem dX7_quad_108 : decode cX7_quad 108 = .ok (.ifCond .eq 7, 3) := by decide +kernel
theorem dX7_quad_111 : decode cX7_quad 111 = .ok (.iload_n 3, 1) := by decide +kernel
theorem dX7_quad_112 : decode cX7_quad 112 = .ok (.goto 23, 3) := by decide +kernel
theorem dX7_quad_115 : decode cX7_quad 115 = .ok (.aload_n 0, 1) := by decide +kernel
theorem dX7_quad_116 : decode cX7_quad 116 = .ok (.getfield 79, 3) := by decide +kernel
theorem dX7_quad_119 : decode cX7_quad 119 = .ok (.bipush 60, 2) := by decide +kernel
theorem dX7_quad_121 : decode cX7_quad 121 = .ok (.if_icmp .ne 8, 3) := by decide +kernel
theorem dX7_quad_124 : decode cX7_quad 124 = .ok (.bipush (-2), 2) := by decide +kernel
theorem dX7_quad_126 : decode cX7_quad 126 = .ok (.goto 9, 3) := by decide +kernel
theorem dX7_quad_129 : decode cX7_quad 129 = .ok (.aload_n 0, 1) := by decide +kernel
theorem dX7_quad_130 : decode cX7_quad 130 = .ok (.bipush (-3), 2) := by decide +kernel
theorem dX7_quad_132 : decode cX7_quad 132 = .ok (.invokevirtual 111, 3) := by decide +kernel
theorem dX7_quad_135 : decode cX7_quad 135 = .ok (.ireturn, 1) := by decide +kernel
theorem dX7_take_0 : decode cX7_take 0 = .ok (.iconst 0, 1) := by decide +kernel
theorem dX7_take_1 : decode cX7_take 1 = .ok (.istore_n 2, 1) := by decide +kernel
theorem dX7_take_2 : decode cX7_take 2 = .ok (.iload_n 2, 1) := by decide +kernel
theorem dX7_take_3 : decode cX7_take 3 = .ok (.bipush 12, 2) := by decide +kernel
theorem dX7_take_5 : decode cX7_take 5 = .ok (.if_icmp .ge 27, 3) := by decide +kernel
theorem dX7_take_8 : decode cX7_take 8 = .ok (.aload_n 0, 1) := by decide +kernel
theorem dX7_take_9 : decode cX7_take 9 = .ok (.getfield 26, 3) := by decide +kernel
theorem dX7_take_12 : decode cX7_take 12 = .ok (.iload_n 2, 1) := by decide +kernel
theorem dX7_take_13 : decode cX7_take 13 = .ok (.aload_n 0, 1) := by decide +kernel
theorem dX7_take_14 : decode cX7_take 14 = .ok (.getfield 23, 3) := by decide +kernel
theorem dX7_take_17 : decode cX7_take 17 = .ok (.bipush 12, 2) := by decide +kernel
theorem dX7_take_19 : decode cX7_take 19 = .ok (.iload_n 1, 1) := by decide +kernel
theorem dX7_take_20 : decode cX7_take 20 = .ok (.imul, 1) := by decide +kernel
theorem dX7_take_21 : decode cX7_take 21 = .ok (.iload_n 2, 1) := by decide +kernel
theorem dX7_take_22 : decode cX7_take 22 = .ok (.iadd, 1) := by decide +kernel
theorem dX7_take_23 : decode cX7_take 23 = .ok (.iaload, 1) := by decide +kernel
theorem dX7_take_24 : decode cX7_take 24 = .ok (.i2l, 1) := by decide +kernel
theorem dX7_take_25 : decode cX7_take 25 = .ok (.lastore, 1) := by decide +kernel
theorem dX7_take_26 : decode cX7_take 26 = .ok (.iinc 2 1, 3) := by decide +kernel
theorem dX7_take_29 : decode cX7_take 29 = .ok (.goto (-27), 3) := by decide +kernel
theorem dX7_take_32 : decode cX7_take 32 = .ok (.return_, 1) := by decide +kernel
theorem dX7_swapAt_0 : decode cX7_swapAt 0 = .ok (.iconst 0, 1) := by decide +kernel
theorem dX7_swapAt_1 : decode cX7_swapAt 1 = .ok (.istore_n 2, 1) := by decide +kernel
theorem dX7_swapAt_2 : decode cX7_swapAt 2 = .ok (.iload_n 2, 1) := by decide +kernel
theorem dX7_swapAt_3 : decode cX7_swapAt 3 = .ok (.iconst 3, 1) := by decide +kernel
theorem dX7_swapAt_4 : decode cX7_swapAt 4 = .ok (.if_icmp .ge 82, 3) := by decide +kernel
theorem dX7_swapAt_7 : decode cX7_swapAt 7 = .ok (.aload_n 0, 1) := by decide +kernel
theorem dX7_swapAt_8 : decode cX7_swapAt 8 = .ok (.getfield 26, 3) := by decide +kernel
theorem dX7_swapAt_11 : decode cX7_swapAt 11 = .ok (.iload_n 2, 1) := by decide +kernel
theorem dX7_swapAt_12 : decode cX7_swapAt 12 = .ok (.laload, 1) := by decide +kernel
theorem dX7_swapAt_13 : decode cX7_swapAt 13 = .ok (.aload_n 0, 1) := by decide +kernel
theorem dX7_swapAt_14 : decode cX7_swapAt 14 = .ok (.getfield 26, 3) := by decide +kernel
theorem dX7_swapAt_17 : decode cX7_swapAt 17 = .ok (.iconst 3, 1) := by decide +kernel
theorem dX7_swapAt_18 : decode cX7_swapAt 18 = .ok (.iload_n 2, 1) := by decide +kernel
theorem dX7_swapAt_19 : decode cX7_swapAt 19 = .ok (.iadd, 1) := by decide +kernel
theorem dX7_swapAt_20 : decode cX7_swapAt 20 = .ok (.laload, 1) := by decide +kernel
theorem dX7_swapAt_21 : decode cX7_swapAt 21 = .ok (.ladd, 1) := by decide +kernel
theorem dX7_swapAt_22 : decode cX7_swapAt 22 = .ok (.aload_n 0, 1) := by decide +kernel
theorem dX7_swapAt_23 : decode cX7_swapAt 23 = .ok (.getfield 26, 3) := by decide +kernel
theorem dX7_swapAt_26 : decode cX7_swapAt 26 = .ok (.bipush 6, 2) := by decide +kernel
theorem dX7_swapAt_28 : decode cX7_swapAt 28 = .ok (.iload_n 2, 1) := by decide +kernel
theorem dX7_swapAt_29 : decode cX7_swapAt 29 = .ok (.iadd, 1) := by decide +kernel
theorem dX7_swapAt_30 : decode cX7_swapAt 30 = .ok (.laload, 1) := by decide +kernel
theorem dX7_swapAt_31 : decode cX7_swapAt 31 = .ok (.ladd, 1) := by decide +kernel
theorem dX7_swapAt_32 : decode cX7_swapAt 32 = .ok (.aload_n 0, 1) := by decide +kernel
theorem dX7_swapAt_33 : decode cX7_swapAt 33 = .ok (.getfield 26, 3) := by decide +kernel
theorem dX7_swapAt_36 : decode cX7_swapAt 36 = .ok (.bipush 9, 2) := by decide +kernel
theorem dX7_swapAt_38 : decode cX7_swapAt 38 = .ok (.iload_n 2, 1) := by decide +kernel
theorem dX7_swapAt_39 : decode cX7_swapAt 39 = .ok (.iadd, 1) := by decide +kernel
theorem dX7_swapAt_40 : decode cX7_swapAt 40 = .ok (.laload, 1) := by decide +kernel
theorem dX7_swapAt_41 : decode cX7_swapAt 41 = .ok (.ladd, 1) := by decide +kernel
theorem dX7_swapAt_42 : decode cX7_swapAt 42 = .ok (.lstore_n 3, 1) := by decide +kernel
theorem dX7_swapAt_43 : decode cX7_swapAt 43 = .ok (.aload_n 0, 1) := by decide +kernel
theorem dX7_swapAt_44 : decode cX7_swapAt 44 = .ok (.getfield 26, 3) := by decide +kernel
theorem dX7_swapAt_47 : decode cX7_swapAt 47 = .ok (.iconst 3, 1) := by decide +kernel
theorem dX7_swapAt_48 : decode cX7_swapAt 48 = .ok (.iload_n 1, 1) := by decide +kernel
theorem dX7_swapAt_49 : decode cX7_swapAt 49 = .ok (.imul, 1) := by decide +kernel
theorem dX7_swapAt_50 : decode cX7_swapAt 50 = .ok (.iload_n 2, 1) := by decide +kernel
theorem dX7_swapAt_51 : decode cX7_swapAt 51 = .ok (.iadd, 1) := by decide +kernel
theorem dX7_swapAt_52 : decode cX7_swapAt 52 = .ok (.ldc2_w 73, 3) := by decide +kernel
theorem dX7_swapAt_55 : decode cX7_swapAt 55 = .ok (.lload_n 3, 1) := by decide +kernel
theorem dX7_swapAt_56 : decode cX7_swapAt 56 = .ok (.aload_n 0, 1) := by decide +kernel
theorem dX7_swapAt_57 : decode cX7_swapAt 57 = .ok (.getfield 26, 3) := by decide +kernel
theorem dX7_swapAt_60 : decode cX7_swapAt 60 = .ok (.iconst 3, 1) := by decide +kernel
theorem dX7_swapAt_61 : decode cX7_swapAt 61 = .ok (.iload_n 1, 1) := by decide +kernel
theorem dX7_swapAt_62 : decode cX7_swapAt 62 = .ok (.imul, 1) := by decide +kernel
theorem dX7_swapAt_63 : decode cX7_swapAt 63 = .ok (.iload_n 2, 1) := by decide +kernel
theorem dX7_swapAt_64 : decode cX7_swapAt 64 = .ok (.iadd, 1) := by decide +kernel
theorem dX7_swapAt_65 : decode cX7_swapAt 65 = .ok (.laload, 1) := by decide +kernel
theorem dX7_swapAt_66 : decode cX7_swapAt 66 = .ok (.lsub, 1) := by decide +kernel
theorem dX7_swapAt_67 : decode cX7_swapAt 67 = .ok (.lmul, 1) := by decide +kernel
theorem dX7_swapAt_68 : decode cX7_swapAt 68 = .ok (.aload_n 0, 1) := by decide +kernel
theorem dX7_swapAt_69 : decode cX7_swapAt 69 = .ok (.getfield 26, 3) := by decide +kernel
theorem dX7_swapAt_72 : decode cX7_swapAt 72 = .ok (.iconst 3, 1) := by decide +kernel
theorem dX7_swapAt_73 : decode cX7_swapAt 73 = .ok (.iload_n 1, 1) := by decide +kernel
theorem dX7_swapAt_74 : decode cX7_swapAt 74 = .ok (.imul, 1) := by decide +kernel
theorem dX7_swapAt_75 : decode cX7_swapAt 75 = .ok (.iload_n 2, 1) := by decide +kernel
theorem dX7_swapAt_76 : decode cX7_swapAt 76 = .ok (.iadd, 1) := by decide +kernel
theorem dX7_swapAt_77 : decode cX7_swapAt 77 = .ok (.laload, 1) := by decide +kernel
theorem dX7_swapAt_78 : decode cX7_swapAt 78 = .ok (.lsub, 1) := by decide +kernel
theorem dX7_swapAt_79 : decode cX7_swapAt 79 = .ok (.lastore, 1) := by decide +kernel
theorem dX7_swapAt_80 : decode cX7_swapAt 80 = .ok (.iinc 2 1, 3) := by decide +kernel
theorem dX7_swapAt_83 : decode cX7_swapAt 83 = .ok (.goto (-81), 3) := by decide +kernel
theorem dX7_swapAt_86 : decode cX7_swapAt 86 = .ok (.return_, 1) := by decide +kernel
theorem dX7_swap_0 : decode cX7_swap 0 = .ok (.aload_n 0, 1) := by decide +kernel
theorem dX7_swap_1 : decode cX7_swap 1 = .ok (.iload_n 1, 1) := by decide +kernel
theorem dX7_swap_2 : decode cX7_swap 2 = .ok (.invokevirtual 115, 3) := by decide +kernel
theorem dX7_swap_5 : decode cX7_swap 5 = .ok (.ifCond .eq 15, 3) := by decide +kernel
theorem dX7_swap_8 : decode cX7_swap 8 = .ok (.iload_n 2, 1) := by decide +kernel
theorem dX7_swap_9 : decode cX7_swap 9 = .ok (.i2l, 1) := by decide +kernel
theorem dX7_swap_10 : decode cX7_swap 10 = .ok (.lconst 0, 1) := by decide +kernel
theorem dX7_swap_11 : decode cX7_swap 11 = .ok (.ldc2_w 118, 3) := by decide +kernel
theorem dX7_swap_14 : decode cX7_swap 14 = .ok (.invokestatic 63, 3) := by decide +kernel
theorem dX7_swap_17 : decode cX7_swap 17 = .ok (.ifCond .ne 5, 3) := by decide +kernel
theorem dX7_swap_20 : decode cX7_swap 20 = .ok (.iconst (-1), 1) := by decide +kernel
theorem dX7_swap_21 : decode cX7_swap 21 = .ok (.ireturn, 1) := by decide +kernel
theorem dX7_swap_22 : decode cX7_swap 22 = .ok (.aload_n 0, 1) := by decide +kernel
theorem dX7_swap_23 : decode cX7_swap 23 = .ok (.iload_n 1, 1) := by decide +kernel
theorem dX7_swap_24 : decode cX7_swap 24 = .ok (.invokevirtual 120, 3) := by decide +kernel
theorem dX7_swap_27 : decode cX7_swap 27 = .ok (.aload_n 0, 1) := by decide +kernel
theorem dX7_swap_28 : decode cX7_swap 28 = .ok (.iload_n 2, 1) := by decide +kernel
theorem dX7_swap_29 : decode cX7_swap 29 = .ok (.invokevirtual 124, 3) := by decide +kernel
theorem dX7_swap_32 : decode cX7_swap 32 = .ok (.aload_n 0, 1) := by decide +kernel
theorem dX7_swap_33 : decode cX7_swap 33 = .ok (.getfield 26, 3) := by decide +kernel
theorem dX7_swap_36 : decode cX7_swap 36 = .ok (.iconst 3, 1) := by decide +kernel
theorem dX7_swap_37 : decode cX7_swap 37 = .ok (.iload_n 2, 1) := by decide +kernel
theorem dX7_swap_38 : decode cX7_swap 38 = .ok (.imul, 1) := by decide +kernel
theorem dX7_swap_39 : decode cX7_swap 39 = .ok (.laload, 1) := by decide +kernel
theorem dX7_swap_40 : decode cX7_swap 40 = .ok (.invokestatic 90, 3) := by decide +kernel
theorem dX7_swap_43 : decode cX7_swap 43 = .ok (.ifCond .ne 6, 3) := by decide +kernel
theorem dX7_swap_46 : decode cX7_swap 46 = .ok (.bipush (-15), 2) := by decide +kernel
theorem dX7_swap_48 : decode cX7_swap 48 = .ok (.ireturn, 1) := by decide +kernel
theorem dX7_swap_49 : decode cX7_swap 49 = .ok (.aload_n 0, 1) := by decide +kernel
theorem dX7_swap_50 : decode cX7_swap 50 = .ok (.getfield 26, 3) := by decide +kernel
theorem dX7_swap_53 : decode cX7_swap 53 = .ok (.iconst 3, 1) := by decide +kernel
theorem dX7_swap_54 : decode cX7_swap 54 = .ok (.iload_n 2, 1) := by decide +kernel
theorem dX7_swap_55 : decode cX7_swap 55 = .ok (.imul, 1) := by decide +kernel
theorem dX7_swap_56 : decode cX7_swap 56 = .ok (.iconst 1, 1) := by decide +kernel
theorem dX7_swap_57 : decode cX7_swap 57 = .ok (.iadd, 1) := by decide +kernel
theorem dX7_swap_58 : decode cX7_swap 58 = .ok (.laload, 1) := by decide +kernel
theorem dX7_swap_59 : decode cX7_swap 59 = .ok (.invokestatic 94, 3) := by decide +kernel
theorem dX7_swap_62 : decode cX7_swap 62 = .ok (.ifCond .eq 19, 3) := by decide +kernel
theorem dX7_swap_65 : decode cX7_swap 65 = .ok (.aload_n 0, 1) := by decide +kernel
theorem dX7_swap_66 : decode cX7_swap 66 = .ok (.getfield 26, 3) := by decide +kernel
theorem dX7_swap_69 : decode cX7_swap 69 = .ok (.iconst 3, 1) := by decide +kernel
theorem dX7_swap_70 : decode cX7_swap 70 = .ok (.iload_n 2, 1) := by decide +kernel
theorem dX7_swap_71 : decode cX7_swap 71 = .ok (.imul, 1) := by decide +kernel
theorem dX7_swap_72 : decode cX7_swap 72 = .ok (.iconst 2, 1) := by decide +kernel
theorem dX7_swap_73 : decode cX7_swap 73 = .ok (.iadd, 1) := by decide +kernel
theorem dX7_swap_74 : decode cX7_swap 74 = .ok (.laload, 1) := by decide +kernel
theorem dX7_swap_75 : decode cX7_swap 75 = .ok (.invokestatic 94, 3) := by decide +kernel
theorem dX7_swap_78 : decode cX7_swap 78 = .ok (.ifCond .ne 6, 3) := by decide +kernel
theorem dX7_swap_81 : decode cX7_swap 81 = .ok (.bipush (-16), 2) := by decide +kernel
theorem dX7_swap_83 : decode cX7_swap 83 = .ok (.ireturn, 1) := by decide +kernel
theorem dX7_swap_84 : decode cX7_swap 84 = .ok (.aload_n 0, 1) := by decide +kernel
theorem dX7_swap_85 : decode cX7_swap 85 = .ok (.getfield 79, 3) := by decide +kernel
theorem dX7_swap_88 : decode cX7_swap 88 = .ok (.bipush 60, 2) := by decide +kernel
theorem dX7_swap_90 : decode cX7_swap 90 = .ok (.if_icmp .ne 8, 3) := by decide +kernel
theorem dX7_swap_93 : decode cX7_swap 93 = .ok (.bipush (-2), 2) := by decide +kernel
theorem dX7_swap_95 : decode cX7_swap 95 = .ok (.goto 8, 3) := by decide +kernel
theorem dX7_swap_98 : decode cX7_swap 98 = .ok (.aload_n 0, 1) := by decide +kernel
theorem dX7_swap_99 : decode cX7_swap 99 = .ok (.iload_n 1, 1) := by decide +kernel
theorem dX7_swap_100 : decode cX7_swap 100 = .ok (.invokevirtual 111, 3) := by decide +kernel
theorem dX7_swap_103 : decode cX7_swap 103 = .ok (.ireturn, 1) := by decide +kernel
theorem dX7_isCoin_0 : decode cX7_isCoin 0 = .ok (.iload_n 0, 1) := by decide +kernel
theorem dX7_isCoin_1 : decode cX7_isCoin 1 = .ok (.i2l, 1) := by decide +kernel
theorem dX7_isCoin_2 : decode cX7_isCoin 2 = .ok (.lconst 0, 1) := by decide +kernel
theorem dX7_isCoin_3 : decode cX7_isCoin 3 = .ok (.ldc2_w 118, 3) := by decide +kernel
theorem dX7_isCoin_6 : decode cX7_isCoin 6 = .ok (.invokestatic 63, 3) := by decide +kernel
theorem dX7_isCoin_9 : decode cX7_isCoin 9 = .ok (.ifCond .eq 19, 3) := by decide +kernel
theorem dX7_isCoin_12 : decode cX7_isCoin 12 = .ok (.iload_n 1, 1) := by decide +kernel
theorem dX7_isCoin_13 : decode cX7_isCoin 13 = .ok (.i2l, 1) := by decide +kernel
theorem dX7_isCoin_14 : decode cX7_isCoin 14 = .ok (.lconst 0, 1) := by decide +kernel
theorem dX7_isCoin_15 : decode cX7_isCoin 15 = .ok (.ldc2_w 73, 3) := by decide +kernel
theorem dX7_isCoin_18 : decode cX7_isCoin 18 = .ok (.invokestatic 63, 3) := by decide +kernel
theorem dX7_isCoin_21 : decode cX7_isCoin 21 = .ok (.ifCond .eq 7, 3) := by decide +kernel
theorem dX7_isCoin_24 : decode cX7_isCoin 24 = .ok (.iconst 1, 1) := by decide +kernel
theorem dX7_isCoin_25 : decode cX7_isCoin 25 = .ok (.goto 4, 3) := by decide +kernel
theorem dX7_isCoin_28 : decode cX7_isCoin 28 = .ok (.iconst 0, 1) := by decide +kernel
theorem dX7_isCoin_29 : decode cX7_isCoin 29 = .ok (.ireturn, 1) := by decide +kernel
theorem dX7_coin_0 : decode cX7_coin 0 = .ok (.aload_n 0, 1) := by decide +kernel
theorem dX7_coin_1 : decode cX7_coin 1 = .ok (.iload_n 1, 1) := by decide +kernel
theorem dX7_coin_2 : decode cX7_coin 2 = .ok (.invokevirtual 115, 3) := by decide +kernel
theorem dX7_coin_5 : decode cX7_coin 5 = .ok (.ifCond .eq 29, 3) := by decide +kernel
theorem dX7_coin_8 : decode cX7_coin 8 = .ok (.iload_n 2, 1) := by decide +kernel
theorem dX7_coin_9 : decode cX7_coin 9 = .ok (.iload_n 3, 1) := by decide +kernel
theorem dX7_coin_10 : decode cX7_coin 10 = .ok (.invokestatic 127, 3) := by decide +kernel
theorem dX7_coin_13 : decode cX7_coin 13 = .ok (.ifCond .eq 21, 3) := by decide +kernel
theorem dX7_coin_16 : decode cX7_coin 16 = .ok (.aload_n 0, 1) := by decide +kernel
theorem dX7_coin_17 : decode cX7_coin 17 = .ok (.getfield 23, 3) := by decide +kernel
theorem dX7_coin_20 : decode cX7_coin 20 = .ok (.bipush 12, 2) := by decide +kernel
theorem dX7_coin_22 : decode cX7_coin 22 = .ok (.iload_n 1, 1) := by decide +kernel
theorem dX7_coin_23 : decode cX7_coin 23 = .ok (.imul, 1) := by decide +kernel
theorem dX7_coin_24 : decode cX7_coin 24 = .ok (.iconst 3, 1) := by decide +kernel
theorem dX7_coin_25 : decode cX7_coin 25 = .ok (.iload_n 2, 1) := by decide +kernel
theorem dX7_coin_26 : decode cX7_coin 26 = .ok (.imul, 1) := by decide +kernel
theorem dX7_coin_27 : decode cX7_coin 27 = .ok (.iadd, 1) := by decide +kernel
theorem dX7_coin_28 : decode cX7_coin 28 = .ok (.iload_n 3, 1) := by decide +kernel
theorem dX7_coin_29 : decode cX7_coin 29 = .ok (.iadd, 1) := by decide +kernel
theorem dX7_coin_30 : decode cX7_coin 30 = .ok (.iaload, 1) := by decide +kernel
theorem dX7_coin_31 : decode cX7_coin 31 = .ok (.goto 5, 3) := by decide +kernel
theorem dX7_coin_34 : decode cX7_coin 34 = .ok (.ldc 131, 2) := by decide +kernel
theorem dX7_coin_36 : decode cX7_coin 36 = .ok (.ireturn, 1) := by decide +kernel
theorem dX7_from_0 : decode cX7_from 0 = .ok (.aload_n 0, 1) := by decide +kernel
theorem dX7_from_1 : decode cX7_from 1 = .ok (.iload_n 1, 1) := by decide +kernel
theorem dX7_from_2 : decode cX7_from 2 = .ok (.invokevirtual 115, 3) := by decide +kernel
theorem dX7_from_5 : decode cX7_from 5 = .ok (.ifCond .eq 12, 3) := by decide +kernel
theorem dX7_from_8 : decode cX7_from 8 = .ok (.aload_n 0, 1) := by decide +kernel
theorem dX7_from_9 : decode cX7_from 9 = .ok (.getfield 20, 3) := by decide +kernel
theorem dX7_from_12 : decode cX7_from 12 = .ok (.iload_n 1, 1) := by decide +kernel
theorem dX7_from_13 : decode cX7_from 13 = .ok (.iaload, 1) := by decide +kernel
theorem dX7_from_14 : decode cX7_from 14 = .ok (.goto 4, 3) := by decide +kernel
theorem dX7_from_17 : decode cX7_from 17 = .ok (.iconst (-1), 1) := by decide +kernel
theorem dX7_from_18 : decode cX7_from 18 = .ok (.ireturn, 1) := by decide +kernel
theorem dX7_greatest_0 : decode cX7_greatest 0 = .ok (.iconst 0, 1) := by decide +kernel
theorem dX7_greatest_1 : decode cX7_greatest 1 = .ok (.istore_n 1, 1) := by decide +kernel
theorem dX7_greatest_2 : decode cX7_greatest 2 = .ok (.iconst 1, 1) := by decide +kernel
theorem dX7_greatest_3 : decode cX7_greatest 3 = .ok (.istore_n 2, 1) := by decide +kernel
theorem dX7_greatest_4 : decode cX7_greatest 4 = .ok (.iload_n 2, 1) := by decide +kernel
theorem dX7_greatest_5 : decode cX7_greatest 5 = .ok (.iconst 4, 1) := by decide +kernel
theorem dX7_greatest_6 : decode cX7_greatest 6 = .ok (.if_icmp .ge 35, 3) := by decide +kernel
theorem dX7_greatest_9 : decode cX7_greatest 9 = .ok (.aload_n 0, 1) := by decide +kernel
theorem dX7_greatest_10 : decode cX7_greatest 10 = .ok (.getfield 26, 3) := by decide +kernel
theorem dX7_greatest_13 : decode cX7_greatest 13 = .ok (.iconst 3, 1) := by decide +kernel
theorem dX7_greatest_14 : decode cX7_greatest 14 = .ok (.iload_n 2, 1) := by decide +kernel
theorem dX7_greatest_15 : decode cX7_greatest 15 = .ok (.imul, 1) := by decide +kernel
theorem dX7_greatest_16 : decode cX7_greatest 16 = .ok (.laload, 1) := by decide +kernel
theorem dX7_greatest_17 : decode cX7_greatest 17 = .ok (.aload_n 0, 1) := by decide +kernel
theorem dX7_greatest_18 : decode cX7_greatest 18 = .ok (.getfield 26, 3) := by decide +kernel
theorem dX7_greatest_21 : decode cX7_greatest 21 = .ok (.iconst 3, 1) := by decide +kernel
theorem dX7_greatest_22 : decode cX7_greatest 22 = .ok (.iload_n 1, 1) := by decide +kernel
theorem dX7_greatest_23 : decode cX7_greatest 23 = .ok (.imul, 1) := by decide +kernel
theorem dX7_greatest_24 : decode cX7_greatest 24 = .ok (.laload, 1) := by decide +kernel
theorem dX7_greatest_25 : decode cX7_greatest 25 = .ok (.lcmp, 1) := by decide +kernel
theorem dX7_greatest_26 : decode cX7_greatest 26 = .ok (.ifCond .le 7, 3) := by decide +kernel
theorem dX7_greatest_29 : decode cX7_greatest 29 = .ok (.iload_n 2, 1) := by decide +kernel
theorem dX7_greatest_30 : decode cX7_greatest 30 = .ok (.goto 4, 3) := by decide +kernel
theorem dX7_greatest_33 : decode cX7_greatest 33 = .ok (.iload_n 1, 1) := by decide +kernel
theorem dX7_greatest_34 : decode cX7_greatest 34 = .ok (.istore_n 1, 1) := by decide +kernel
theorem dX7_greatest_35 : decode cX7_greatest 35 = .ok (.iinc 2 1, 3) := by decide +kernel
theorem dX7_greatest_38 : decode cX7_greatest 38 = .ok (.goto (-34), 3) := by decide +kernel
theorem dX7_greatest_41 : decode cX7_greatest 41 = .ok (.iload_n 1, 1) := by decide +kernel
theorem dX7_greatest_42 : decode cX7_greatest 42 = .ok (.ireturn, 1) := by decide +kernel
theorem dX7_goDown_0 : decode cX7_goDown 0 = .ok (.aload_n 0, 1) := by decide +kernel
theorem dX7_goDown_1 : decode cX7_goDown 1 = .ok (.iload_n 1, 1) := by decide +kernel
theorem dX7_goDown_2 : decode cX7_goDown 2 = .ok (.invokevirtual 120, 3) := by decide +kernel
theorem dX7_goDown_5 : decode cX7_goDown 5 = .ok (.aload_n 0, 1) := by decide +kernel
theorem dX7_goDown_6 : decode cX7_goDown 6 = .ok (.iconst 0, 1) := by decide +kernel
theorem dX7_goDown_7 : decode cX7_goDown 7 = .ok (.putfield 132, 3) := by decide +kernel
theorem dX7_goDown_10 : decode cX7_goDown 10 = .ok (.iconst 1, 1) := by decide +kernel
theorem dX7_goDown_11 : decode cX7_goDown 11 = .ok (.istore_n 2, 1) := by decide +kernel
theorem dX7_goDown_12 : decode cX7_goDown 12 = .ok (.iload_n 2, 1) := by decide +kernel
theorem dX7_goDown_13 : decode cX7_goDown 13 = .ok (.ifCond .eq 88, 3) := by decide +kernel
theorem dX7_goDown_16 : decode cX7_goDown 16 = .ok (.aload_n 0, 1) := by decide +kernel
theorem dX7_goDown_17 : decode cX7_goDown 17 = .ok (.invokevirtual 135, 3) := by decide +kernel
theorem dX7_goDown_20 : decode cX7_goDown 20 = .ok (.istore_n 3, 1) := by decide +kernel
theorem dX7_goDown_21 : decode cX7_goDown 21 = .ok (.aload_n 0, 1) := by decide +kernel
theorem dX7_goDown_22 : decode cX7_goDown 22 = .ok (.getfield 26, 3) := by decide +kernel
theorem dX7_goDown_25 : decode cX7_goDown 25 = .ok (.iconst 3, 1) := by decide +kernel
theorem dX7_goDown_26 : decode cX7_goDown 26 = .ok (.iload_n 3, 1) := by decide +kernel
theorem dX7_goDown_27 : decode cX7_goDown 27 = .ok (.imul, 1) := by decide +kernel
theorem dX7_goDown_28 : decode cX7_goDown 28 = .ok (.laload, 1) := by decide +kernel
theorem dX7_goDown_29 : decode cX7_goDown 29 = .ok (.lstore 4, 2) := by decide +kernel
theorem dX7_goDown_31 : decode cX7_goDown 31 = .ok (.aload_n 0, 1) := by decide +kernel
theorem dX7_goDown_32 : decode cX7_goDown 32 = .ok (.iload_n 3, 1) := by decide +kernel
theorem dX7_goDown_33 : decode cX7_goDown 33 = .ok (.invokevirtual 124, 3) := by decide +kernel
theorem dX7_goDown_36 : decode cX7_goDown 36 = .ok (.aload_n 0, 1) := by decide +kernel
theorem dX7_goDown_37 : decode cX7_goDown 37 = .ok (.getfield 26, 3) := by decide +kernel
theorem dX7_goDown_40 : decode cX7_goDown 40 = .ok (.iconst 3, 1) := by decide +kernel
theorem dX7_goDown_41 : decode cX7_goDown 41 = .ok (.iload_n 3, 1) := by decide +kernel
theorem dX7_goDown_42 : decode cX7_goDown 42 = .ok (.imul, 1) := by decide +kernel
theorem dX7_goDown_43 : decode cX7_goDown 43 = .ok (.laload, 1) := by decide +kernel
theorem dX7_goDown_44 : decode cX7_goDown 44 = .ok (.lload 4, 2) := by decide +kernel
theorem dX7_goDown_46 : decode cX7_goDown 46 = .ok (.lcmp, 1) := by decide +kernel
theorem dX7_goDown_47 : decode cX7_goDown 47 = .ok (.ifCond .ge 7, 3) := by decide +kernel
theorem dX7_goDown_50 : decode cX7_goDown 50 = .ok (.iconst 1, 1) := by decide +kernel
theorem dX7_goDown_51 : decode cX7_goDown 51 = .ok (.goto 4, 3) := by decide +kernel
theorem dX7_goDown_54 : decode cX7_goDown 54 = .ok (.iconst 0, 1) := by decide +kernel
theorem dX7_goDown_55 : decode cX7_goDown 55 = .ok (.istore_n 2, 1) := by decide +kernel
theorem dX7_goDown_56 : decode cX7_goDown 56 = .ok (.iload_n 2, 1) := by decide +kernel
theorem dX7_goDown_57 : decode cX7_goDown 57 = .ok (.ifCond .eq 36, 3) := by decide +kernel
theorem dX7_goDown_60 : decode cX7_goDown 60 = .ok (.aload_n 0, 1) := by decide +kernel
theorem dX7_goDown_61 : decode cX7_goDown 61 = .ok (.getfield 132, 3) := by decide +kernel
theorem dX7_goDown_64 : decode cX7_goDown 64 = .ok (.sipush 1000, 3) := by decide +kernel
theorem dX7_goDown_67 : decode cX7_goDown 67 = .ok (.if_icmp .ge 13, 3) := by decide +kernel
theorem dX7_goDown_70 : decode cX7_goDown 70 = .ok (.aload_n 0, 1) := by decide +kernel
theorem dX7_goDown_71 : decode cX7_goDown 71 = .ok (.getfield 29, 3) := by decide +kernel
theorem dX7_goDown_74 : decode cX7_goDown 74 = .ok (.aload_n 0, 1) := by decide +kernel
theorem dX7_goDown_75 : decode cX7_goDown 75 = .ok (.getfield 132, 3) := by decide +kernel
theorem dX7_goDown_78 : decode cX7_goDown 78 = .ok (.iload_n 3, 1) := by decide +kernel
theorem dX7_goDown_79 : decode cX7_goDown 79 = .ok (.iastore, 1) := by decide +kernel
theorem dX7_goDown_80 : decode cX7_goDown 80 = .ok (.aload_n 0, 1) := by decide +kernel
theorem dX7_goDown_81 : decode cX7_goDown 81 = .ok (.dup, 1) := by decide +kernel
theorem dX7_goDown_82 : decode cX7_goDown 82 = .ok (.getfield 132, 3) := by decide +kernel
theorem dX7_goDown_85 : decode cX7_goDown 85 = .ok (.iconst 1, 1) := by decide +kernel
theorem dX7_goDown_86 : decode cX7_goDown 86 = .ok (.iadd, 1) := by decide +kernel
theorem dX7_goDown_87 : decode cX7_goDown 87 = .ok (.putfield 132, 3) := by decide +kernel
theorem dX7_goDown_90 : decode cX7_goDown 90 = .ok (.goto 8, 3) := by decide +kernel
theorem dX7_goDown_93 : decode cX7_goDown 93 = .ok (.aload_n 0, 1) := by decide +kernel
theorem dX7_goDown_94 : decode cX7_goDown 94 = .ok (.iload_n 3, 1) := by decide +kernel
theorem dX7_goDown_95 : decode cX7_goDown 95 = .ok (.invokevirtual 124, 3) := by decide +kernel
theorem dX7_goDown_98 : decode cX7_goDown 98 = .ok (.goto (-86), 3) := by decide +kernel
theorem dX7_goDown_101 : decode cX7_goDown 101 = .ok (.return_, 1) := by decide +kernel
theorem dX7_steps_0 : decode cX7_steps 0 = .ok (.aload_n 0, 1) := by decide +kernel
theorem dX7_steps_1 : decode cX7_steps 1 = .ok (.iload_n 1, 1) := by decide +kernel
theorem dX7_steps_2 : decode cX7_steps 2 = .ok (.invokevirtual 115, 3) := by decide +kernel
theorem dX7_steps_5 : decode cX7_steps 5 = .ok (.ifCond .ne 5, 3) := by decide +kernel
theorem dX7_steps_8 : decode cX7_steps 8 = .ok (.iconst (-1), 1) := by decide +kernel
theorem dX7_steps_9 : decode cX7_steps 9 = .ok (.ireturn, 1) := by decide +kernel
theorem dX7_steps_10 : decode cX7_steps 10 = .ok (.aload_n 0, 1) := by decide +kernel
theorem dX7_steps_11 : decode cX7_steps 11 = .ok (.iload_n 1, 1) := by decide +kernel
theorem dX7_steps_12 : decode cX7_steps 12 = .ok (.invokevirtual 138, 3) := by decide +kernel
theorem dX7_steps_15 : decode cX7_steps 15 = .ok (.aload_n 0, 1) := by decide +kernel
theorem dX7_steps_16 : decode cX7_steps 16 = .ok (.getfield 132, 3) := by decide +kernel
theorem dX7_steps_19 : decode cX7_steps 19 = .ok (.ireturn, 1) := by decide +kernel
theorem dX7_step_0 : decode cX7_step 0 = .ok (.aload_n 0, 1) := by decide +kernel
theorem dX7_step_1 : decode cX7_step 1 = .ok (.iload_n 1, 1) := by decide +kernel
theorem dX7_step_2 : decode cX7_step 2 = .ok (.invokevirtual 115, 3) := by decide +kernel
theorem dX7_step_5 : decode cX7_step 5 = .ok (.ifCond .eq 7, 3) := by decide +kernel
theorem dX7_step_8 : decode cX7_step 8 = .ok (.iload_n 2, 1) := by decide +kernel
theorem dX7_step_9 : decode cX7_step 9 = .ok (.ifCond .ge 5, 3) := by decide +kernel
theorem dX7_step_12 : decode cX7_step 12 = .ok (.iconst (-1), 1) := by decide +kernel
theorem dX7_step_13 : decode cX7_step 13 = .ok (.ireturn, 1) := by decide +kernel
theorem dX7_step_14 : decode cX7_step 14 = .ok (.aload_n 0, 1) := by decide +kernel
theorem dX7_step_15 : decode cX7_step 15 = .ok (.iload_n 1, 1) := by decide +kernel
theorem dX7_step_16 : decode cX7_step 16 = .ok (.invokevirtual 138, 3) := by decide +kernel
theorem dX7_step_19 : decode cX7_step 19 = .ok (.iload_n 2, 1) := by decide +kernel
theorem dX7_step_20 : decode cX7_step 20 = .ok (.aload_n 0, 1) := by decide +kernel
theorem dX7_step_21 : decode cX7_step 21 = .ok (.getfield 132, 3) := by decide +kernel
theorem dX7_step_24 : decode cX7_step 24 = .ok (.if_icmp .ge 12, 3) := by decide +kernel
theorem dX7_step_27 : decode cX7_step 27 = .ok (.aload_n 0, 1) := by decide +kernel
theorem dX7_step_28 : decode cX7_step 28 = .ok (.getfield 29, 3) := by decide +kernel
theorem dX7_step_31 : decode cX7_step 31 = .ok (.iload_n 2, 1) := by decide +kernel
theorem dX7_step_32 : decode cX7_step 32 = .ok (.iaload, 1) := by decide +kernel
theorem dX7_step_33 : decode cX7_step 33 = .ok (.goto 5, 3) := by decide +kernel
theorem dX7_step_36 : decode cX7_step 36 = .ok (.bipush (-3), 2) := by decide +kernel
theorem dX7_step_38 : decode cX7_step 38 = .ok (.ireturn, 1) := by decide +kernel
theorem dX7_root_0 : decode cX7_root 0 = .ok (.aload_n 0, 1) := by decide +kernel
theorem dX7_root_1 : decode cX7_root 1 = .ok (.iload_n 1, 1) := by decide +kernel
theorem dX7_root_2 : decode cX7_root 2 = .ok (.invokevirtual 115, 3) := by decide +kernel
theorem dX7_root_5 : decode cX7_root 5 = .ok (.ifCond .eq 11, 3) := by decide +kernel
theorem dX7_root_8 : decode cX7_root 8 = .ok (.iload_n 2, 1) := by decide +kernel
theorem dX7_root_9 : decode cX7_root 9 = .ok (.iload_n 3, 1) := by decide +kernel
theorem dX7_root_10 : decode cX7_root 10 = .ok (.invokestatic 127, 3) := by decide +kernel
theorem dX7_root_13 : decode cX7_root 13 = .ok (.ifCond .ne 6, 3) := by decide +kernel
theorem dX7_root_16 : decode cX7_root 16 = .ok (.ldc 131, 2) := by decide +kernel
theorem dX7_root_18 : decode cX7_root 18 = .ok (.ireturn, 1) := by decide +kernel
theorem dX7_root_19 : decode cX7_root 19 = .ok (.aload_n 0, 1) := by decide +kernel
theorem dX7_root_20 : decode cX7_root 20 = .ok (.iload_n 1, 1) := by decide +kernel
theorem dX7_root_21 : decode cX7_root 21 = .ok (.invokevirtual 138, 3) := by decide +kernel
theorem dX7_root_24 : decode cX7_root 24 = .ok (.aload_n 0, 1) := by decide +kernel
theorem dX7_root_25 : decode cX7_root 25 = .ok (.getfield 26, 3) := by decide +kernel
theorem dX7_root_28 : decode cX7_root 28 = .ok (.iconst 3, 1) := by decide +kernel
theorem dX7_root_29 : decode cX7_root 29 = .ok (.iload_n 2, 1) := by decide +kernel
theorem dX7_root_30 : decode cX7_root 30 = .ok (.imul, 1) := by decide +kernel
theorem dX7_root_31 : decode cX7_root 31 = .ok (.iload_n 3, 1) := by decide +kernel
theorem dX7_root_32 : decode cX7_root 32 = .ok (.iadd, 1) := by decide +kernel
theorem dX7_root_33 : decode cX7_root 33 = .ok (.laload, 1) := by decide +kernel
theorem dX7_root_34 : decode cX7_root 34 = .ok (.l2i, 1) := by decide +kernel
theorem dX7_root_35 : decode cX7_root 35 = .ok (.ireturn, 1) := by decide +kernel
theorem dX7_layBends_0 : decode cX7_layBends 0 = .ok (.iconst 0, 1) := by decide +kernel
theorem dX7_layBends_1 : decode cX7_layBends 1 = .ok (.istore_n 1, 1) := by decide +kernel
theorem dX7_layBends_2 : decode cX7_layBends 2 = .ok (.iload_n 1, 1) := by decide +kernel
theorem dX7_layBends_3 : decode cX7_layBends 3 = .ok (.iconst 4, 1) := by decide +kernel
theorem dX7_layBends_4 : decode cX7_layBends 4 = .ok (.if_icmp .ge 69, 3) := by decide +kernel
theorem dX7_layBends_7 : decode cX7_layBends 7 = .ok (.iload_n 1, 1) := by decide +kernel
theorem dX7_layBends_8 : decode cX7_layBends 8 = .ok (.istore_n 2, 1) := by decide +kernel
theorem dX7_layBends_9 : decode cX7_layBends 9 = .ok (.iload_n 2, 1) := by decide +kernel
theorem dX7_layBends_10 : decode cX7_layBends 10 = .ok (.ifCond .le 43, 3) := by decide +kernel
theorem dX7_layBends_13 : decode cX7_layBends 13 = .ok (.aload_n 0, 1) := by decide +kernel
theorem dX7_layBends_14 : decode cX7_layBends 14 = .ok (.getfield 42, 3) := by decide +kernel
theorem dX7_layBends_17 : decode cX7_layBends 17 = .ok (.iload_n 2, 1) := by decide +kernel
theorem dX7_layBends_18 : decode cX7_layBends 18 = .ok (.iconst 1, 1) := by decide +kernel
theorem dX7_layBends_19 : decode cX7_layBends 19 = .ok (.isub, 1) := by decide +kernel
theorem dX7_layBends_20 : decode cX7_layBends 20 = .ok (.laload, 1) := by decide +kernel
theorem dX7_layBends_21 : decode cX7_layBends 21 = .ok (.aload_n 0, 1) := by decide +kernel
theorem dX7_layBends_22 : decode cX7_layBends 22 = .ok (.getfield 26, 3) := by decide +kernel
theorem dX7_layBends_25 : decode cX7_layBends 25 = .ok (.iconst 3, 1) := by decide +kernel
theorem dX7_layBends_26 : decode cX7_layBends 26 = .ok (.iload_n 1, 1) := by decide +kernel
theorem dX7_layBends_27 : decode cX7_layBends 27 = .ok (.imul, 1) := by decide +kernel
theorem dX7_layBends_28 : decode cX7_layBends 28 = .ok (.laload, 1) := by decide +kernel
theorem dX7_layBends_29 : decode cX7_layBends 29 = .ok (.lcmp, 1) := by decide +kernel
theorem dX7_layBends_30 : decode cX7_layBends 30 = .ok (.ifCond .le 23, 3) := by decide +kernel
theorem dX7_layBends_33 : decode cX7_layBends 33 = .ok (.aload_n 0, 1) := by decide +kernel
theorem dX7_layBends_34 : decode cX7_layBends 34 = .ok (.getfield 42, 3) := by decide +kernel
theorem dX7_layBends_37 : decode cX7_layBends 37 = .ok (.iload_n 2, 1) := by decide +kernel
theorem dX7_layBends_38 : decode cX7_layBends 38 = .ok (.aload_n 0, 1) := by decide +kernel
theorem dX7_layBends_39 : decode cX7_layBends 39 = .ok (.getfield 42, 3) := by decide +kernel
theorem dX7_layBends_42 : decode cX7_layBends 42 = .ok (.iload_n 2, 1) := by decide +kernel
theorem dX7_layBends_43 : decode cX7_layBends 43 = .ok (.iconst 1, 1) := by decide +kernel
theorem dX7_layBends_44 : decode cX7_layBends 44 = .ok (.isub, 1) := by decide +kernel
theorem dX7_layBends_45 : decode cX7_layBends 45 = .ok (.laload, 1) := by decide +kernel
theorem dX7_layBends_46 : decode cX7_layBends 46 = .ok (.lastore, 1) := by decide +kernel
theorem dX7_layBends_47 : decode cX7_layBends 47 = .ok (.iinc 2 (-1), 3) := by decide +kernel
theorem dX7_layBends_50 : decode cX7_layBends 50 = .ok (.goto (-41), 3) := by decide +kernel
theorem dX7_layBends_53 : decode cX7_layBends 53 = .ok (.aload_n 0, 1) := by decide +kernel
theorem dX7_layBends_54 : decode cX7_layBends 54 = .ok (.getfield 42, 3) := by decide +kernel
theorem dX7_layBends_57 : decode cX7_layBends 57 = .ok (.iload_n 2, 1) := by decide +kernel
theorem dX7_layBends_58 : decode cX7_layBends 58 = .ok (.aload_n 0, 1) := by decide +kernel
theorem dX7_layBends_59 : decode cX7_layBends 59 = .ok (.getfield 26, 3) := by decide +kernel
theorem dX7_layBends_62 : decode cX7_layBends 62 = .ok (.iconst 3, 1) := by decide +kernel
theorem dX7_layBends_63 : decode cX7_layBends 63 = .ok (.iload_n 1, 1) := by decide +kernel
theorem dX7_layBends_64 : decode cX7_layBends 64 = .ok (.imul, 1) := by decide +kernel
theorem dX7_layBends_65 : decode cX7_layBends 65 = .ok (.laload, 1) := by decide +kernel
theorem dX7_layBends_66 : decode cX7_layBends 66 = .ok (.lastore, 1) := by decide +kernel
theorem dX7_layBends_67 : decode cX7_layBends 67 = .ok (.iinc 1 1, 3) := by decide +kernel
theorem dX7_layBends_70 : decode cX7_layBends 70 = .ok (.goto (-68), 3) := by decide +kernel
theorem dX7_layBends_73 : decode cX7_layBends 73 = .ok (.return_, 1) := by decide +kernel
theorem dX7_same_0 : decode cX7_same 0 = .ok (.aload_n 0, 1) := by decide +kernel
theorem dX7_same_1 : decode cX7_same 1 = .ok (.iload_n 1, 1) := by decide +kernel
theorem dX7_same_2 : decode cX7_same 2 = .ok (.invokevirtual 115, 3) := by decide +kernel
theorem dX7_same_5 : decode cX7_same 5 = .ok (.ifCond .eq 11, 3) := by decide +kernel
theorem dX7_same_8 : decode cX7_same 8 = .ok (.aload_n 0, 1) := by decide +kernel
theorem dX7_same_9 : decode cX7_same 9 = .ok (.iload_n 2, 1) := by decide +kernel
theorem dX7_same_10 : decode cX7_same 10 = .ok (.invokevirtual 115, 3) := by decide +kernel
theorem dX7_same_13 : decode cX7_same 13 = .ok (.ifCond .ne 5, 3) := by decide +kernel
theorem dX7_same_16 : decode cX7_same 16 = .ok (.iconst (-1), 1) := by decide +kernel
theorem dX7_same_17 : decode cX7_same 17 = .ok (.ireturn, 1) := by decide +kernel
theorem dX7_same_18 : decode cX7_same 18 = .ok (.aload_n 0, 1) := by decide +kernel
theorem dX7_same_19 : decode cX7_same 19 = .ok (.iload_n 1, 1) := by decide +kernel
theorem dX7_same_20 : decode cX7_same 20 = .ok (.invokevirtual 138, 3) := by decide +kernel
theorem dX7_same_23 : decode cX7_same 23 = .ok (.aload_n 0, 1) := by decide +kernel
theorem dX7_same_24 : decode cX7_same 24 = .ok (.invokevirtual 141, 3) := by decide +kernel
theorem dX7_same_27 : decode cX7_same 27 = .ok (.aload_n 0, 1) := by decide +kernel
theorem dX7_same_28 : decode cX7_same 28 = .ok (.getfield 42, 3) := by decide +kernel
theorem dX7_same_31 : decode cX7_same 31 = .ok (.iconst 0, 1) := by decide +kernel
theorem dX7_same_32 : decode cX7_same 32 = .ok (.laload, 1) := by decide +kernel
theorem dX7_same_33 : decode cX7_same 33 = .ok (.lstore_n 3, 1) := by decide +kernel
theorem dX7_same_34 : decode cX7_same 34 = .ok (.aload_n 0, 1) := by decide +kernel
theorem dX7_same_35 : decode cX7_same 35 = .ok (.getfield 42, 3) := by decide +kernel
theorem dX7_same_38 : decode cX7_same 38 = .ok (.iconst 1, 1) := by decide +kernel
theorem dX7_same_39 : decode cX7_same 39 = .ok (.laload, 1) := by decide +kernel
theorem dX7_same_40 : decode cX7_same 40 = .ok (.lstore 5, 2) := by decide +kernel
theorem dX7_same_42 : decode cX7_same 42 = .ok (.aload_n 0, 1) := by decide +kernel
theorem dX7_same_43 : decode cX7_same 43 = .ok (.getfield 42, 3) := by decide +kernel
theorem dX7_same_46 : decode cX7_same 46 = .ok (.iconst 2, 1) := by decide +kernel
theorem dX7_same_47 : decode cX7_same 47 = .ok (.laload, 1) := by decide +kernel
theorem dX7_same_48 : decode cX7_same 48 = .ok (.lstore 7, 2) := by decide +kernel
theorem dX7_same_50 : decode cX7_same 50 = .ok (.aload_n 0, 1) := by decide +kernel
theorem dX7_same_51 : decode cX7_same 51 = .ok (.getfield 42, 3) := by decide +kernel
theorem dX7_same_54 : decode cX7_same 54 = .ok (.iconst 3, 1) := by decide +kernel
theorem dX7_same_55 : decode cX7_same 55 = .ok (.laload, 1) := by decide +kernel
theorem dX7_same_56 : decode cX7_same 56 = .ok (.lstore 9, 2) := by decide +kernel
theorem dX7_same_58 : decode cX7_same 58 = .ok (.aload_n 0, 1) := by decide +kernel
theorem dX7_same_59 : decode cX7_same 59 = .ok (.iload_n 2, 1) := by decide +kernel
theorem dX7_same_60 : decode cX7_same 60 = .ok (.invokevirtual 138, 3) := by decide +kernel
theorem dX7_same_63 : decode cX7_same 63 = .ok (.aload_n 0, 1) := by decide +kernel
theorem dX7_same_64 : decode cX7_same 64 = .ok (.invokevirtual 141, 3) := by decide +kernel
theorem dX7_same_67 : decode cX7_same 67 = .ok (.lload_n 3, 1) := by decide +kernel
theorem dX7_same_68 : decode cX7_same 68 = .ok (.aload_n 0, 1) := by decide +kernel
theorem dX7_same_69 : decode cX7_same 69 = .ok (.getfield 42, 3) := by decide +kernel
theorem dX7_same_72 : decode cX7_same 72 = .ok (.iconst 0, 1) := by decide +kernel
theorem dX7_same_73 : decode cX7_same 73 = .ok (.laload, 1) := by decide +kernel
theorem dX7_same_74 : decode cX7_same 74 = .ok (.lcmp, 1) := by decide +kernel
theorem dX7_same_75 : decode cX7_same 75 = .ok (.ifCond .ne 43, 3) := by decide +kernel
theorem dX7_same_78 : decode cX7_same 78 = .ok (.lload 5, 2) := by decide +kernel
theorem dX7_same_80 : decode cX7_same 80 = .ok (.aload_n 0, 1) := by decide +kernel
theorem dX7_same_81 : decode cX7_same 81 = .ok (.getfield 42, 3) := by decide +kernel
theorem dX7_same_84 : decode cX7_same 84 = .ok (.iconst 1, 1) := by decide +kernel
theorem dX7_same_85 : decode cX7_same 85 = .ok (.laload, 1) := by decide +kernel
theorem dX7_same_86 : decode cX7_same 86 = .ok (.lcmp, 1) := by decide +kernel
theorem dX7_same_87 : decode cX7_same 87 = .ok (.ifCond .ne 31, 3) := by decide +kernel
theorem dX7_same_90 : decode cX7_same 90 = .ok (.lload 7, 2) := by decide +kernel
theorem dX7_same_92 : decode cX7_same 92 = .ok (.aload_n 0, 1) := by decide +kernel
theorem dX7_same_93 : decode cX7_same 93 = .ok (.getfield 42, 3) := by decide +kernel
theorem dX7_same_96 : decode cX7_same 96 = .ok (.iconst 2, 1) := by decide +kernel
theorem dX7_same_97 : decode cX7_same 97 = .ok (.laload, 1) := by decide +kernel
theorem dX7_same_98 : decode cX7_same 98 = .ok (.lcmp, 1) := by decide +kernel
theorem dX7_same_99 : decode cX7_same 99 = .ok (.ifCond .ne 19, 3) := by decide +kernel
theorem dX7_same_102 : decode cX7_same 102 = .ok (.lload 9, 2) := by decide +kernel
theorem dX7_same_104 : decode cX7_same 104 = .ok (.aload_n 0, 1) := by decide +kernel
theorem dX7_same_105 : decode cX7_same 105 = .ok (.getfield 42, 3) := by decide +kernel
theorem dX7_same_108 : decode cX7_same 108 = .ok (.iconst 3, 1) := by decide +kernel
theorem dX7_same_109 : decode cX7_same 109 = .ok (.laload, 1) := by decide +kernel
theorem dX7_same_110 : decode cX7_same 110 = .ok (.lcmp, 1) := by decide +kernel
theorem dX7_same_111 : decode cX7_same 111 = .ok (.ifCond .ne 7, 3) := by decide +kernel
theorem dX7_same_114 : decode cX7_same 114 = .ok (.iconst 1, 1) := by decide +kernel
theorem dX7_same_115 : decode cX7_same 115 = .ok (.goto 4, 3) := by decide +kernel
theorem dX7_same_118 : decode cX7_same 118 = .ok (.iconst 0, 1) := by decide +kernel
theorem dX7_same_119 : decode cX7_same 119 = .ok (.ireturn, 1) := by decide +kernel
theorem dX7_touch_0 : decode cX7_touch 0 = .ok (.aload_n 0, 1) := by decide +kernel
theorem dX7_touch_1 : decode cX7_touch 1 = .ok (.iload_n 1, 1) := by decide +kernel
theorem dX7_touch_2 : decode cX7_touch 2 = .ok (.invokevirtual 115, 3) := by decide +kernel
theorem dX7_touch_5 : decode cX7_touch 5 = .ok (.ifCond .eq 36, 3) := by decide +kernel
theorem dX7_touch_8 : decode cX7_touch 8 = .ok (.iload_n 2, 1) := by decide +kernel
theorem dX7_touch_9 : decode cX7_touch 9 = .ok (.i2l, 1) := by decide +kernel
theorem dX7_touch_10 : decode cX7_touch 10 = .ok (.lconst 0, 1) := by decide +kernel
theorem dX7_touch_11 : decode cX7_touch 11 = .ok (.ldc2_w 118, 3) := by decide +kernel
theorem dX7_touch_14 : decode cX7_touch 14 = .ok (.invokestatic 63, 3) := by decide +kernel
theorem dX7_touch_17 : decode cX7_touch 17 = .ok (.ifCond .eq 24, 3) := by decide +kernel
theorem dX7_touch_20 : decode cX7_touch 20 = .ok (.aload_n 0, 1) := by decide +kernel
theorem dX7_touch_21 : decode cX7_touch 21 = .ok (.iload_n 3, 1) := by decide +kernel
theorem dX7_touch_22 : decode cX7_touch 22 = .ok (.invokevirtual 115, 3) := by decide +kernel
theorem dX7_touch_25 : decode cX7_touch 25 = .ok (.ifCond .eq 16, 3) := by decide +kernel
theorem dX7_touch_28 : decode cX7_touch 28 = .ok (.iload 4, 2) := by decide +kernel
theorem dX7_touch_30 : decode cX7_touch 30 = .ok (.i2l, 1) := by decide +kernel
theorem dX7_touch_31 : decode cX7_touch 31 = .ok (.lconst 0, 1) := by decide +kernel
theorem dX7_touch_32 : decode cX7_touch 32 = .ok (.ldc2_w 118, 3) := by decide +kernel
theorem dX7_touch_35 : decode cX7_touch 35 = .ok (.invokestatic 63, 3) := by decide +kernel
theorem dX7_touch_38 : decode cX7_touch 38 = .ok (.ifCond .ne 5, 3) := by decide +kernel
theorem dX7_touch_41 : decode cX7_touch 41 = .ok (.iconst (-1), 1) := by decide +kernel
theorem dX7_touch_42 : decode cX7_touch 42 = .ok (.ireturn, 1) := by decide +kernel
theorem dX7_touch_43 : decode cX7_touch 43 = .ok (.bipush 12, 2) := by decide +kernel
theorem dX7_touch_45 : decode cX7_touch 45 = .ok (.iload_n 1, 1) := by decide +kernel
theorem dX7_touch_46 : decode cX7_touch 46 = .ok (.imul, 1) := by decide +kernel
theorem dX7_touch_47 : decode cX7_touch 47 = .ok (.iconst 3, 1) := by decide +kernel
theorem dX7_touch_48 : decode cX7_touch 48 = .ok (.iload_n 2, 1) := by decide +kernel
theorem dX7_touch_49 : decode cX7_touch 49 = .ok (.imul, 1) := by decide +kernel
theorem dX7_touch_50 : decode cX7_touch 50 = .ok (.iadd, 1) := by decide +kernel
theorem dX7_touch_51 : decode cX7_touch 51 = .ok (.istore 5, 2) := by decide +kernel
theorem dX7_touch_53 : decode cX7_touch 53 = .ok (.bipush 12, 2) := by decide +kernel
theorem dX7_touch_55 : decode cX7_touch 55 = .ok (.iload_n 3, 1) := by decide +kernel
theorem dX7_touch_56 : decode cX7_touch 56 = .ok (.imul, 1) := by decide +kernel
theorem dX7_touch_57 : decode cX7_touch 57 = .ok (.iconst 3, 1) := by decide +kernel
theorem dX7_touch_58 : decode cX7_touch 58 = .ok (.iload 4, 2) := by decide +kernel
theorem dX7_touch_60 : decode cX7_touch 60 = .ok (.imul, 1) := by decide +kernel
theorem dX7_touch_61 : decode cX7_touch 61 = .ok (.iadd, 1) := by decide +kernel
theorem dX7_touch_62 : decode cX7_touch 62 = .ok (.istore 6, 2) := by decide +kernel
theorem dX7_touch_64 : decode cX7_touch 64 = .ok (.aload_n 0, 1) := by decide +kernel
theorem dX7_touch_65 : decode cX7_touch 65 = .ok (.getfield 23, 3) := by decide +kernel
theorem dX7_touch_68 : decode cX7_touch 68 = .ok (.iload 5, 2) := by decide +kernel
theorem dX7_touch_70 : decode cX7_touch 70 = .ok (.iaload, 1) := by decide +kernel
theorem dX7_touch_71 : decode cX7_touch 71 = .ok (.i2l, 1) := by decide +kernel
theorem dX7_touch_72 : decode cX7_touch 72 = .ok (.aload_n 0, 1) := by decide +kernel
theorem dX7_touch_73 : decode cX7_touch 73 = .ok (.getfield 23, 3) := by decide +kernel
theorem dX7_touch_76 : decode cX7_touch 76 = .ok (.iload 5, 2) := by decide +kernel
theorem dX7_touch_78 : decode cX7_touch 78 = .ok (.iconst 1, 1) := by decide +kernel
theorem dX7_touch_79 : decode cX7_touch 79 = .ok (.iadd, 1) := by decide +kernel
theorem dX7_touch_80 : decode cX7_touch 80 = .ok (.iaload, 1) := by decide +kernel
theorem dX7_touch_81 : decode cX7_touch 81 = .ok (.i2l, 1) := by decide +kernel
theorem dX7_touch_82 : decode cX7_touch 82 = .ok (.aload_n 0, 1) := by decide +kernel
theorem dX7_touch_83 : decode cX7_touch 83 = .ok (.getfield 23, 3) := by decide +kernel
theorem dX7_touch_86 : decode cX7_touch 86 = .ok (.iload 5, 2) := by decide +kernel
theorem dX7_touch_88 : decode cX7_touch 88 = .ok (.iconst 2, 1) := by decide +kernel
theorem dX7_touch_89 : decode cX7_touch 89 = .ok (.iadd, 1) := by decide +kernel
theorem dX7_touch_90 : decode cX7_touch 90 = .ok (.iaload, 1) := by decide +kernel
theorem dX7_touch_91 : decode cX7_touch 91 = .ok (.i2l, 1) := by decide +kernel
theorem dX7_touch_92 : decode cX7_touch 92 = .ok (.aload_n 0, 1) := by decide +kernel
theorem dX7_touch_93 : decode cX7_touch 93 = .ok (.getfield 23, 3) := by decide +kernel
theorem dX7_touch_96 : decode cX7_touch 96 = .ok (.iload 6, 2) := by decide +kernel
theorem dX7_touch_98 : decode cX7_touch 98 = .ok (.iaload, 1) := by decide +kernel
theorem dX7_touch_99 : decode cX7_touch 99 = .ok (.i2l, 1) := by decide +kernel
theorem dX7_touch_100 : decode cX7_touch 100 = .ok (.aload_n 0, 1) := by decide +kernel
theorem dX7_touch_101 : decode cX7_touch 101 = .ok (.getfield 23, 3) := by decide +kernel
theorem dX7_touch_104 : decode cX7_touch 104 = .ok (.iload 6, 2) := by decide +kernel
theorem dX7_touch_106 : decode cX7_touch 106 = .ok (.iconst 1, 1) := by decide +kernel
theorem dX7_touch_107 : decode cX7_touch 107 = .ok (.iadd, 1) := by decide +kernel
theorem dX7_touch_108 : decode cX7_touch 108 = .ok (.iaload, 1) := by decide +kernel
theorem dX7_touch_109 : decode cX7_touch 109 = .ok (.i2l, 1) := by decide +kernel
theorem dX7_touch_110 : decode cX7_touch 110 = .ok (.aload_n 0, 1) := by decide +kernel
theorem dX7_touch_111 : decode cX7_touch 111 = .ok (.getfield 23, 3) := by decide +kernel
theorem dX7_touch_114 : decode cX7_touch 114 = .ok (.iload 6, 2) := by decide +kernel
theorem dX7_touch_116 : decode cX7_touch 116 = .ok (.iconst 2, 1) := by decide +kernel
theorem dX7_touch_117 : decode cX7_touch 117 = .ok (.iadd, 1) := by decide +kernel
theorem dX7_touch_118 : decode cX7_touch 118 = .ok (.iaload, 1) := by decide +kernel
theorem dX7_touch_119 : decode cX7_touch 119 = .ok (.i2l, 1) := by decide +kernel
theorem dX7_touch_120 : decode cX7_touch 120 = .ok (.invokestatic 101, 3) := by decide +kernel
theorem dX7_touch_123 : decode cX7_touch 123 = .ok (.ifCond .eq 7, 3) := by decide +kernel
theorem dX7_touch_126 : decode cX7_touch 126 = .ok (.iconst 1, 1) := by decide +kernel
theorem dX7_touch_127 : decode cX7_touch 127 = .ok (.goto 4, 3) := by decide +kernel
theorem dX7_touch_130 : decode cX7_touch 130 = .ok (.iconst 0, 1) := by decide +kernel
theorem dX7_touch_131 : decode cX7_touch 131 = .ok (.ireturn, 1) := by decide +kernel
theorem dX7_lists_0 : decode cX7_lists 0 = .ok (.aload_n 0, 1) := by decide +kernel
theorem dX7_lists_1 : decode cX7_lists 1 = .ok (.getfield 26, 3) := by decide +kernel
theorem dX7_lists_4 : decode cX7_lists 4 = .ok (.iconst 3, 1) := by decide +kernel
theorem dX7_lists_5 : decode cX7_lists 5 = .ok (.iload_n 1, 1) := by decide +kernel
theorem dX7_lists_6 : decode cX7_lists 6 = .ok (.imul, 1) := by decide +kernel
theorem dX7_lists_7 : decode cX7_lists 7 = .ok (.laload, 1) := by decide +kernel
theorem dX7_lists_8 : decode cX7_lists 8 = .ok (.lstore_n 2, 1) := by decide +kernel
theorem dX7_lists_9 : decode cX7_lists 9 = .ok (.aload_n 0, 1) := by decide +kernel
theorem dX7_lists_10 : decode cX7_lists 10 = .ok (.getfield 26, 3) := by decide +kernel
theorem dX7_lists_13 : decode cX7_lists 13 = .ok (.iconst 3, 1) := by decide +kernel
theorem dX7_lists_14 : decode cX7_lists 14 = .ok (.iload_n 1, 1) := by decide +kernel
theorem dX7_lists_15 : decode cX7_lists 15 = .ok (.imul, 1) := by decide +kernel
theorem dX7_lists_16 : decode cX7_lists 16 = .ok (.iconst 1, 1) := by decide +kernel
theorem dX7_lists_17 : decode cX7_lists 17 = .ok (.iadd, 1) := by decide +kernel
theorem dX7_lists_18 : decode cX7_lists 18 = .ok (.laload, 1) := by decide +kernel
theorem dX7_lists_19 : decode cX7_lists 19 = .ok (.lstore 4, 2) := by decide +kernel
theorem dX7_lists_21 : decode cX7_lists 21 = .ok (.aload_n 0, 1) := by decide +kernel
theorem dX7_lists_22 : decode cX7_lists 22 = .ok (.getfield 26, 3) := by decide +kernel
theorem dX7_lists_25 : decode cX7_lists 25 = .ok (.iconst 3, 1) := by decide +kernel
theorem dX7_lists_26 : decode cX7_lists 26 = .ok (.iload_n 1, 1) := by decide +kernel
theorem dX7_lists_27 : decode cX7_lists 27 = .ok (.imul, 1) := by decide +kernel
theorem dX7_lists_28 : decode cX7_lists 28 = .ok (.iconst 2, 1) := by decide +kernel
theorem dX7_lists_29 : decode cX7_lists 29 = .ok (.iadd, 1) := by decide +kernel
theorem dX7_lists_30 : decode cX7_lists 30 = .ok (.laload, 1) := by decide +kernel
theorem dX7_lists_31 : decode cX7_lists 31 = .ok (.lstore 6, 2) := by decide +kernel
theorem dX7_lists_33 : decode cX7_lists 33 = .ok (.lload_n 2, 1) := by decide +kernel
theorem dX7_lists_34 : decode cX7_lists 34 = .ok (.invokestatic 90, 3) := by decide +kernel
theorem dX7_lists_37 : decode cX7_lists 37 = .ok (.ifCond .eq 19, 3) := by decide +kernel
theorem dX7_lists_40 : decode cX7_lists 40 = .ok (.lload 4, 2) := by decide +kernel
theorem dX7_lists_42 : decode cX7_lists 42 = .ok (.invokestatic 94, 3) := by decide +kernel
theorem dX7_lists_45 : decode cX7_lists 45 = .ok (.ifCond .eq 11, 3) := by decide +kernel
theorem dX7_lists_48 : decode cX7_lists 48 = .ok (.lload 6, 2) := by decide +kernel
theorem dX7_lists_50 : decode cX7_lists 50 = .ok (.invokestatic 94, 3) := by decide +kernel
theorem dX7_lists_53 : decode cX7_lists 53 = .ok (.ifCond .ne 5, 3) := by decide +kernel
theorem dX7_lists_56 : decode cX7_lists 56 = .ok (.iconst 0, 1) := by decide +kernel
theorem dX7_lists_57 : decode cX7_lists 57 = .ok (.ireturn, 1) := by decide +kernel
theorem dX7_lists_58 : decode cX7_lists 58 = .ok (.aload_n 0, 1) := by decide +kernel
theorem dX7_lists_59 : decode cX7_lists 59 = .ok (.getfield 144, 3) := by decide +kernel
theorem dX7_lists_62 : decode cX7_lists 62 = .ok (.istore 8, 2) := by decide +kernel
theorem dX7_lists_64 : decode cX7_lists 64 = .ok (.iload 8, 2) := by decide +kernel
theorem dX7_lists_66 : decode cX7_lists 66 = .ok (.ifCond .le 25, 3) := by decide +kernel
theorem dX7_lists_69 : decode cX7_lists 69 = .ok (.aload_n 0, 1) := by decide +kernel
theorem dX7_lists_70 : decode cX7_lists 70 = .ok (.iload 8, 2) := by decide +kernel
theorem dX7_lists_72 : decode cX7_lists 72 = .ok (.iconst 1, 1) := by decide +kernel
theorem dX7_lists_73 : decode cX7_lists 73 = .ok (.isub, 1) := by decide +kernel
theorem dX7_lists_74 : decode cX7_lists 74 = .ok (.lload_n 2, 1) := by decide +kernel
theorem dX7_lists_75 : decode cX7_lists 75 = .ok (.lload 4, 2) := by decide +kernel
theorem dX7_lists_77 : decode cX7_lists 77 = .ok (.lload 6, 2) := by decide +kernel
theorem dX7_lists_79 : decode cX7_lists 79 = .ok (.invokevirtual 147, 3) := by decide +kernel
theorem dX7_lists_82 : decode cX7_lists 82 = .ok (.ifCond .eq 9, 3) := by decide +kernel
theorem dX7_lists_85 : decode cX7_lists 85 = .ok (.iinc 8 (-1), 3) := by decide +kernel
theorem dX7_lists_88 : decode cX7_lists 88 = .ok (.goto (-24), 3) := by decide +kernel
theorem dX7_lists_91 : decode cX7_lists 91 = .ok (.iload 8, 2) := by decide +kernel
theorem dX7_lists_93 : decode cX7_lists 93 = .ok (.ifCond .le 55, 3) := by decide +kernel
theorem dX7_lists_96 : decode cX7_lists 96 = .ok (.aload_n 0, 1) := by decide +kernel
theorem dX7_lists_97 : decode cX7_lists 97 = .ok (.getfield 51, 3) := by decide +kernel
theorem dX7_lists_100 : decode cX7_lists 100 = .ok (.iconst 3, 1) := by decide +kernel
theorem dX7_lists_101 : decode cX7_lists 101 = .ok (.iload 8, 2) := by decide +kernel
theorem dX7_lists_103 : decode cX7_lists 103 = .ok (.imul, 1) := by decide +kernel
theorem dX7_lists_104 : decode cX7_lists 104 = .ok (.iconst 3, 1) := by decide +kernel
theorem dX7_lists_105 : decode cX7_lists 105 = .ok (.isub, 1) := by decide +kernel
theorem dX7_lists_106 : decode cX7_lists 106 = .ok (.laload, 1) := by decide +kernel
theorem dX7_lists_107 : decode cX7_lists 107 = .ok (.lload_n 2, 1) := by decide +kernel
theorem dX7_lists_108 : decode cX7_lists 108 = .ok (.lcmp, 1) := by decide +kernel
theorem dX7_lists_109 : decode cX7_lists 109 = .ok (.ifCond .ne 39, 3) := by decide +kernel
theorem dX7_lists_112 : decode cX7_lists 112 = .ok (.aload_n 0, 1) := by decide +kernel
theorem dX7_lists_113 : decode cX7_lists 113 = .ok (.getfield 51, 3) := by decide +kernel
theorem dX7_lists_116 : decode cX7_lists 116 = .ok (.iconst 3, 1) := by decide +kernel
theorem dX7_lists_117 : decode cX7_lists 117 = .ok (.iload 8, 2) := by decide +kernel
theorem dX7_lists_119 : decode cX7_lists 119 = .ok (.imul, 1) := by decide +kernel
theorem dX7_lists_120 : decode cX7_lists 120 = .ok (.iconst 2, 1) := by decide +kernel
theorem dX7_lists_121 : decode cX7_lists 121 = .ok (.isub, 1) := by decide +kernel
theorem dX7_lists_122 : decode cX7_lists 122 = .ok (.laload, 1) := by decide +kernel
theorem dX7_lists_123 : decode cX7_lists 123 = .ok (.lload 4, 2) := by decide +kernel
theorem dX7_lists_125 : decode cX7_lists 125 = .ok (.lcmp, 1) := by decide +kernel
theorem dX7_lists_126 : decode cX7_lists 126 = .ok (.ifCond .ne 22, 3) := by decide +kernel
theorem dX7_lists_129 : decode cX7_lists 129 = .ok (.aload_n 0, 1) := by decide +kernel
theorem dX7_lists_130 : decode cX7_lists 130 = .ok (.getfield 51, 3) := by decide +kernel
theorem dX7_lists_133 : decode cX7_lists 133 = .ok (.iconst 3, 1) := by decide +kernel
theorem dX7_lists_134 : decode cX7_lists 134 = .ok (.iload 8, 2) := by decide +kernel
theorem dX7_lists_136 : decode cX7_lists 136 = .ok (.imul, 1) := by decide +kernel
theorem dX7_lists_137 : decode cX7_lists 137 = .ok (.iconst 1, 1) := by decide +kernel
theorem dX7_lists_138 : decode cX7_lists 138 = .ok (.isub, 1) := by decide +kernel
theorem dX7_lists_139 : decode cX7_lists 139 = .ok (.laload, 1) := by decide +kernel
theorem dX7_lists_140 : decode cX7_lists 140 = .ok (.lload 6, 2) := by decide +kernel
theorem dX7_lists_142 : decode cX7_lists 142 = .ok (.lcmp, 1) := by decide +kernel
theorem dX7_lists_143 : decode cX7_lists 143 = .ok (.ifCond .ne 5, 3) := by decide +kernel
theorem dX7_lists_146 : decode cX7_lists 146 = .ok (.iconst 1, 1) := by decide +kernel
theorem dX7_lists_147 : decode cX7_lists 147 = .ok (.ireturn, 1) := by decide +kernel
theorem dX7_lists_148 : decode cX7_lists 148 = .ok (.aload_n 0, 1) := by decide +kernel
theorem dX7_lists_149 : decode cX7_lists 149 = .ok (.getfield 144, 3) := by decide +kernel
theorem dX7_lists_152 : decode cX7_lists 152 = .ok (.sipush 240, 3) := by decide +kernel
theorem dX7_lists_155 : decode cX7_lists 155 = .ok (.if_icmp .ne 5, 3) := by decide +kernel
theorem dX7_lists_158 : decode cX7_lists 158 = .ok (.iconst 0, 1) := by decide +kernel
theorem dX7_lists_159 : decode cX7_lists 159 = .ok (.ireturn, 1) := by decide +kernel
theorem dX7_lists_160 : decode cX7_lists 160 = .ok (.iconst 3, 1) := by decide +kernel
theorem dX7_lists_161 : decode cX7_lists 161 = .ok (.aload_n 0, 1) := by decide +kernel
theorem dX7_lists_162 : decode cX7_lists 162 = .ok (.getfield 144, 3) := by decide +kernel
theorem dX7_lists_165 : decode cX7_lists 165 = .ok (.imul, 1) := by decide +kernel
theorem dX7_lists_166 : decode cX7_lists 166 = .ok (.iconst 1, 1) := by decide +kernel
theorem dX7_lists_167 : decode cX7_lists 167 = .ok (.isub, 1) := by decide +kernel
theorem dX7_lists_168 : decode cX7_lists 168 = .ok (.istore 9, 2) := by decide +kernel
theorem dX7_lists_170 : decode cX7_lists 170 = .ok (.iload 9, 2) := by decide +kernel
theorem dX7_lists_172 : decode cX7_lists 172 = .ok (.iconst 3, 1) := by decide +kernel
theorem dX7_lists_173 : decode cX7_lists 173 = .ok (.iload 8, 2) := by decide +kernel
theorem dX7_lists_175 : decode cX7_lists 175 = .ok (.imul, 1) := by decide +kernel
theorem dX7_lists_176 : decode cX7_lists 176 = .ok (.if_icmp .lt 25, 3) := by decide +kernel
theorem dX7_lists_179 : decode cX7_lists 179 = .ok (.aload_n 0, 1) := by decide +kernel
theorem dX7_lists_180 : decode cX7_lists 180 = .ok (.getfield 51, 3) := by decide +kernel
theorem dX7_lists_183 : decode cX7_lists 183 = .ok (.iload 9, 2) := by decide +kernel
theorem dX7_lists_185 : decode cX7_lists 185 = .ok (.iconst 3, 1) := by decide +kernel
theorem dX7_lists_186 : decode cX7_lists 186 = .ok (.iadd, 1) := by decide +kernel
theorem dX7_lists_187 : decode cX7_lists 187 = .ok (.aload_n 0, 1) := by decide +kernel
theorem dX7_lists_188 : decode cX7_lists 188 = .ok (.getfield 51, 3) := by decide +kernel
theorem dX7_lists_191 : decode cX7_lists 191 = .ok (.iload 9, 2) := by decide +kernel
theorem dX7_lists_193 : decode cX7_lists 193 = .ok (.laload, 1) := by decide +kernel
theorem dX7_lists_194 : decode cX7_lists 194 = .ok (.lastore, 1) := by decide +kernel
theorem dX7_lists_195 : decode cX7_lists 195 = .ok (.iinc 9 (-1), 3) := by decide +kernel
theorem dX7_lists_198 : decode cX7_lists 198 = .ok (.goto (-28), 3) := by decide +kernel
theorem dX7_lists_201 : decode cX7_lists 201 = .ok (.aload_n 0, 1) := by decide +kernel
theorem dX7_lists_202 : decode cX7_lists 202 = .ok (.getfield 51, 3) := by decide +kernel
theorem dX7_lists_205 : decode cX7_lists 205 = .ok (.iconst 3, 1) := by decide +kernel
theorem dX7_lists_206 : decode cX7_lists 206 = .ok (.iload 8, 2) := by decide +kernel
theorem dX7_lists_208 : decode cX7_lists 208 = .ok (.imul, 1) := by decide +kernel
theorem dX7_lists_209 : decode cX7_lists 209 = .ok (.lload_n 2, 1) := by decide +kernel
theorem dX7_lists_210 : decode cX7_lists 210 = .ok (.lastore, 1) := by decide +kernel
theorem dX7_lists_211 : decode cX7_lists 211 = .ok (.aload_n 0, 1) := by decide +kernel
theorem dX7_lists_212 : decode cX7_lists 212 = .ok (.getfield 51, 3) := by decide +kernel
theorem dX7_lists_215 : decode cX7_lists 215 = .ok (.iconst 3, 1) := by decide +kernel
theorem dX7_lists_216 : decode cX7_lists 216 = .ok (.iload 8, 2) := by decide +kernel
theorem dX7_lists_218 : decode cX7_lists 218 = .ok (.imul, 1) := by decide +kernel
theorem dX7_lists_219 : decode cX7_lists 219 = .ok (.iconst 1, 1) := by decide +kernel
theorem dX7_lists_220 : decode cX7_lists 220 = .ok (.iadd, 1) := by decide +kernel
theorem dX7_lists_221 : decode cX7_lists 221 = .ok (.lload 4, 2) := by decide +kernel
theorem dX7_lists_223 : decode cX7_lists 223 = .ok (.lastore, 1) := by decide +kernel
theorem dX7_lists_224 : decode cX7_lists 224 = .ok (.aload_n 0, 1) := by decide +kernel
theorem dX7_lists_225 : decode cX7_lists 225 = .ok (.getfield 51, 3) := by decide +kernel
theorem dX7_lists_228 : decode cX7_lists 228 = .ok (.iconst 3, 1) := by decide +kernel
theorem dX7_lists_229 : decode cX7_lists 229 = .ok (.iload 8, 2) := by decide +kernel
theorem dX7_lists_231 : decode cX7_lists 231 = .ok (.imul, 1) := by decide +kernel
theorem dX7_lists_232 : decode cX7_lists 232 = .ok (.iconst 2, 1) := by decide +kernel
theorem dX7_lists_233 : decode cX7_lists 233 = .ok (.iadd, 1) := by decide +kernel
theorem dX7_lists_234 : decode cX7_lists 234 = .ok (.lload 6, 2) := by decide +kernel
theorem dX7_lists_236 : decode cX7_lists 236 = .ok (.lastore, 1) := by decide +kernel
theorem dX7_lists_237 : decode cX7_lists 237 = .ok (.aload_n 0, 1) := by decide +kernel
theorem dX7_lists_238 : decode cX7_lists 238 = .ok (.dup, 1) := by decide +kernel
theorem dX7_lists_239 : decode cX7_lists 239 = .ok (.getfield 144, 3) := by decide +kernel
theorem dX7_lists_242 : decode cX7_lists 242 = .ok (.iconst 1, 1) := by decide +kernel
theorem dX7_lists_243 : decode cX7_lists 243 = .ok (.iadd, 1) := by decide +kernel
theorem dX7_lists_244 : decode cX7_lists 244 = .ok (.putfield 144, 3) := by decide +kernel
theorem dX7_lists_247 : decode cX7_lists 247 = .ok (.iconst 1, 1) := by decide +kernel
theorem dX7_lists_248 : decode cX7_lists 248 = .ok (.ireturn, 1) := by decide +kernel
theorem dX7_isBehind_0 : decode cX7_isBehind 0 = .ok (.aload_n 0, 1) := by decide +kernel
theorem dX7_isBehind_1 : decode cX7_isBehind 1 = .ok (.getfield 51, 3) := by decide +kernel
theorem dX7_isBehind_4 : decode cX7_isBehind 4 = .ok (.iconst 3, 1) := by decide +kernel
theorem dX7_isBehind_5 : decode cX7_isBehind 5 = .ok (.iload_n 1, 1) := by decide +kernel
theorem dX7_isBehind_6 : decode cX7_isBehind 6 = .ok (.imul, 1) := by decide +kernel
theorem dX7_isBehind_7 : decode cX7_isBehind 7 = .ok (.laload, 1) := by decide +kernel
theorem dX7_isBehind_8 : decode cX7_isBehind 8 = .ok (.lstore 8, 2) := by decide +kernel
theorem dX7_isBehind_10 : decode cX7_isBehind 10 = .ok (.aload_n 0, 1) := by decide +kernel
theorem dX7_isBehind_11 : decode cX7_isBehind 11 = .ok (.getfield 51, 3) := by decide +kernel
theorem dX7_isBehind_14 : decode cX7_isBehind 14 = .ok (.iconst 3, 1) := by decide +kernel
theorem dX7_isBehind_15 : decode cX7_isBehind 15 = .ok (.iload_n 1, 1) := by decide +kernel
theorem dX7_isBehind_16 : decode cX7_isBehind 16 = .ok (.imul, 1) := by decide +kernel
theorem dX7_isBehind_17 : decode cX7_isBehind 17 = .ok (.iconst 1, 1) := by decide +kernel
theorem dX7_isBehind_18 : decode cX7_isBehind 18 = .ok (.iadd, 1) := by decide +kernel
theorem dX7_isBehind_19 : decode cX7_isBehind 19 = .ok (.laload, 1) := by decide +kernel
theorem dX7_isBehind_20 : decode cX7_isBehind 20 = .ok (.lstore 10, 2) := by decide +kernel
theorem dX7_isBehind_22 : decode cX7_isBehind 22 = .ok (.lload 8, 2) := by decide +kernel
theorem dX7_isBehind_24 : decode cX7_isBehind 24 = .ok (.lload_n 2, 1) := by decide +kernel
theorem dX7_isBehind_25 : decode cX7_isBehind 25 = .ok (.lcmp, 1) := by decide +kernel
theorem dX7_isBehind_26 : decode cX7_isBehind 26 = .ok (.ifCond .gt 42, 3) := by decide +kernel
theorem dX7_isBehind_29 : decode cX7_isBehind 29 = .ok (.lload 8, 2) := by decide +kernel
theorem dX7_isBehind_31 : decode cX7_isBehind 31 = .ok (.lload_n 2, 1) := by decide +kernel
theorem dX7_isBehind_32 : decode cX7_isBehind 32 = .ok (.lcmp, 1) := by decide +kernel
theorem dX7_isBehind_33 : decode cX7_isBehind 33 = .ok (.ifCond .ne 39, 3) := by decide +kernel
theorem dX7_isBehind_36 : decode cX7_isBehind 36 = .ok (.lload 10, 2) := by decide +kernel
theorem dX7_isBehind_38 : decode cX7_isBehind 38 = .ok (.lload 4, 2) := by decide +kernel
theorem dX7_isBehind_40 : decode cX7_isBehind 40 = .ok (.lcmp, 1) := by decide +kernel
theorem dX7_isBehind_41 : decode cX7_isBehind 41 = .ok (.ifCond .gt 27, 3) := by decide +kernel
theorem dX7_isBehind_44 : decode cX7_isBehind 44 = .ok (.lload 10, 2) := by decide +kernel
theorem dX7_isBehind_46 : decode cX7_isBehind 46 = .ok (.lload 4, 2) := by decide +kernel
theorem dX7_isBehind_48 : decode cX7_isBehind 48 = .ok (.lcmp, 1) := by decide +kernel
theorem dX7_isBehind_49 : decode cX7_isBehind 49 = .ok (.ifCond .ne 23, 3) := by decide +kernel
theorem dX7_isBehind_52 : decode cX7_isBehind 52 = .ok (.aload_n 0, 1) := by decide +kernel
theorem dX7_isBehind_53 : decode cX7_isBehind 53 = .ok (.getfield 51, 3) := by decide +kernel
theorem dX7_isBehind_56 : decode cX7_isBehind 56 = .ok (.iconst 3, 1) := by decide +kernel
theorem dX7_isBehind_57 : decode cX7_isBehind 57 = .ok (.iload_n 1, 1) := by decide +kernel
theorem dX7_isBehind_58 : decode cX7_isBehind 58 = .ok (.imul, 1) := by decide +kernel
theorem dX7_isBehind_59 : decode cX7_isBehind 59 = .ok (.iconst 2, 1) := by decide +kernel
theorem dX7_isBehind_60 : decode cX7_isBehind 60 = .ok (.iadd, 1) := by decide +kernel
theorem dX7_isBehind_61 : decode cX7_isBehind 61 = .ok (.laload, 1) := by decide +kernel
theorem dX7_isBehind_62 : decode cX7_isBehind 62 = .ok (.lload 6, 2) := by decide +kernel
theorem dX7_isBehind_64 : decode cX7_isBehind 64 = .ok (.lcmp, 1) := by decide +kernel
theorem dX7_isBehind_65 : decode cX7_isBehind 65 = .ok (.ifCond .le 7, 3) := by decide +kernel
theorem dX7_isBehind_68 : decode cX7_isBehind 68 = .ok (.iconst 1, 1) := by decide +kernel
theorem dX7_isBehind_69 : decode cX7_isBehind 69 = .ok (.goto 4, 3) := by decide +kernel
theorem dX7_isBehind_72 : decode cX7_isBehind 72 = .ok (.iconst 0, 1) := by decide +kernel
theorem dX7_isBehind_73 : decode cX7_isBehind 73 = .ok (.ireturn, 1) := by decide +kernel
theorem dX7_push_0 : decode cX7_push 0 = .ok (.aload_n 0, 1) := by decide +kernel
theorem dX7_push_1 : decode cX7_push 1 = .ok (.getfield 151, 3) := by decide +kernel
theorem dX7_push_4 : decode cX7_push 4 = .ok (.sipush 2000, 3) := by decide +kernel
theorem dX7_push_7 : decode cX7_push 7 = .ok (.if_icmp .ne 5, 3) := by decide +kernel
theorem dX7_push_10 : decode cX7_push 10 = .ok (.iconst 0, 1) := by decide +kernel
theorem dX7_push_11 : decode cX7_push 11 = .ok (.ireturn, 1) := by decide +kernel
theorem dX7_push_12 : decode cX7_push 12 = .ok (.iconst 0, 1) := by decide +kernel
theorem dX7_push_13 : decode cX7_push 13 = .ok (.istore_n 2, 1) := by decide +kernel
theorem dX7_push_14 : decode cX7_push 14 = .ok (.iload_n 2, 1) := by decide +kernel
theorem dX7_push_15 : decode cX7_push 15 = .ok (.bipush 12, 2) := by decide +kernel
theorem dX7_push_17 : decode cX7_push 17 = .ok (.if_icmp .ge 29, 3) := by decide +kernel
theorem dX7_push_20 : decode cX7_push 20 = .ok (.aload_n 0, 1) := by decide +kernel
theorem dX7_push_21 : decode cX7_push 21 = .ok (.getfield 45, 3) := by decide +kernel
theorem dX7_push_24 : decode cX7_push 24 = .ok (.bipush 12, 2) := by decide +kernel
theorem dX7_push_26 : decode cX7_push 26 = .ok (.aload_n 0, 1) := by decide +kernel
theorem dX7_push_27 : decode cX7_push 27 = .ok (.getfield 151, 3) := by decide +kernel
theorem dX7_push_30 : decode cX7_push 30 = .ok (.imul, 1) := by decide +kernel
theorem dX7_push_31 : decode cX7_push 31 = .ok (.iload_n 2, 1) := by decide +kernel
theorem dX7_push_32 : decode cX7_push 32 = .ok (.iadd, 1) := by decide +kernel
theorem dX7_push_33 : decode cX7_push 33 = .ok (.aload_n 0, 1) := by decide +kernel
theorem dX7_push_34 : decode cX7_push 34 = .ok (.getfield 26, 3) := by decide +kernel
theorem dX7_push_37 : decode cX7_push 37 = .ok (.iload_n 2, 1) := by decide +kernel
theorem dX7_push_38 : decode cX7_push 38 = .ok (.laload, 1) := by decide +kernel
theorem dX7_push_39 : decode cX7_push 39 = .ok (.lastore, 1) := by decide +kernel
theorem dX7_push_40 : decode cX7_push 40 = .ok (.iinc 2 1, 3) := by decide +kernel
theorem dX7_push_43 : decode cX7_push 43 = .ok (.goto (-29), 3) := by decide +kernel
theorem dX7_push_46 : decode cX7_push 46 = .ok (.aload_n 0, 1) := by decide +kernel
theorem dX7_push_47 : decode cX7_push 47 = .ok (.getfield 48, 3) := by decide +kernel
theorem dX7_push_50 : decode cX7_push 50 = .ok (.aload_n 0, 1) := by decide +kernel
theorem dX7_push_51 : decode cX7_push 51 = .ok (.getfield 151, 3) := by decide +kernel
theorem dX7_push_54 : decode cX7_push 54 = .ok (.iload_n 1, 1) := by decide +kernel
theorem dX7_push_55 : decode cX7_push 55 = .ok (.iastore, 1) := by decide +kernel
theorem dX7_push_56 : decode cX7_push 56 = .ok (.aload_n 0, 1) := by decide +kernel
theorem dX7_push_57 : decode cX7_push 57 = .ok (.dup, 1) := by decide +kernel
theorem dX7_push_58 : decode cX7_push 58 = .ok (.getfield 151, 3) := by decide +kernel
theorem dX7_push_61 : decode cX7_push 61 = .ok (.iconst 1, 1) := by decide +kernel
theorem dX7_push_62 : decode cX7_push 62 = .ok (.iadd, 1) := by decide +kernel
theorem dX7_push_63 : decode cX7_push 63 = .ok (.putfield 151, 3) := by decide +kernel
theorem dX7_push_66 : decode cX7_push 66 = .ok (.iconst 1, 1) := by decide +kernel
theorem dX7_push_67 : decode cX7_push 67 = .ok (.ireturn, 1) := by decide +kernel
theorem dX7_pop_0 : decode cX7_pop 0 = .ok (.aload_n 0, 1) := by decide +kernel
theorem dX7_pop_1 : decode cX7_pop 1 = .ok (.dup, 1) := by decide +kernel
theorem dX7_pop_2 : decode cX7_pop 2 = .ok (.getfield 151, 3) := by decide +kernel
theorem dX7_pop_5 : decode cX7_pop 5 = .ok (.iconst 1, 1) := by decide +kernel
theorem dX7_pop_6 : decode cX7_pop 6 = .ok (.isub, 1) := by decide +kernel
theorem dX7_pop_7 : decode cX7_pop 7 = .ok (.putfield 151, 3) := by decide +kernel
theorem dX7_pop_10 : decode cX7_pop 10 = .ok (.iconst 0, 1) := by decide +kernel
theorem dX7_pop_11 : decode cX7_pop 11 = .ok (.istore_n 1, 1) := by decide +kernel
theorem dX7_pop_12 : decode cX7_pop 12 = .ok (.iload_n 1, 1) := by decide +kernel
theorem dX7_pop_13 : decode cX7_pop 13 = .ok (.bipush 12, 2) := by decide +kernel
theorem dX7_pop_15 : decode cX7_pop 15 = .ok (.if_icmp .ge 29, 3) := by decide +kernel
theorem dX7_pop_18 : decode cX7_pop 18 = .ok (.aload_n 0, 1) := by decide +kernel
theorem dX7_pop_19 : decode cX7_pop 19 = .ok (.getfield 26, 3) := by decide +kernel
theorem dX7_pop_22 : decode cX7_pop 22 = .ok (.iload_n 1, 1) := by decide +kernel
theorem dX7_pop_23 : decode cX7_pop 23 = .ok (.aload_n 0, 1) := by decide +kernel
theorem dX7_pop_24 : decode cX7_pop 24 = .ok (.getfield 45, 3) := by decide +kernel
theorem dX7_pop_27 : decode cX7_pop 27 = .ok (.bipush 12, 2) := by decide +kernel
theorem dX7_pop_29 : decode cX7_pop 29 = .ok (.aload_n 0, 1) := by decide +kernel
theorem dX7_pop_30 : decode cX7_pop 30 = .ok (.getfield 151, 3) := by decide +kernel
theorem dX7_pop_33 : decode cX7_pop 33 = .ok (.imul, 1) := by decide +kernel
theorem dX7_pop_34 : decode cX7_pop 34 = .ok (.iload_n 1, 1) := by decide +kernel
theorem dX7_pop_35 : decode cX7_pop 35 = .ok (.iadd, 1) := by decide +kernel
theorem dX7_pop_36 : decode cX7_pop 36 = .ok (.laload, 1) := by decide +kernel
theorem dX7_pop_37 : decode cX7_pop 37 = .ok (.lastore, 1) := by decide +kernel
theorem dX7_pop_38 : decode cX7_pop 38 = .ok (.iinc 1 1, 3) := by decide +kernel
theorem dX7_pop_41 : decode cX7_pop 41 = .ok (.goto (-29), 3) := by decide +kernel
theorem dX7_pop_44 : decode cX7_pop 44 = .ok (.aload_n 0, 1) := by decide +kernel
theorem dX7_pop_45 : decode cX7_pop 45 = .ok (.getfield 48, 3) := by decide +kernel
theorem dX7_pop_48 : decode cX7_pop 48 = .ok (.aload_n 0, 1) := by decide +kernel
theorem dX7_pop_49 : decode cX7_pop 49 = .ok (.getfield 151, 3) := by decide +kernel
theorem dX7_pop_52 : decode cX7_pop 52 = .ok (.iaload, 1) := by decide +kernel
theorem dX7_pop_53 : decode cX7_pop 53 = .ok (.ireturn, 1) := by decide +kernel
theorem dX7_areUpTo_0 : decode cX7_areUpTo 0 = .ok (.aload_n 0, 1) := by decide +kernel
theorem dX7_areUpTo_1 : decode cX7_areUpTo 1 = .ok (.getfield 26, 3) := by decide +kernel
theorem dX7_areUpTo_4 : decode cX7_areUpTo 4 = .ok (.iconst 0, 1) := by decide +kernel
theorem dX7_areUpTo_5 : decode cX7_areUpTo 5 = .ok (.laload, 1) := by decide +kernel
theorem dX7_areUpTo_6 : decode cX7_areUpTo 6 = .ok (.iload_n 1, 1) := by decide +kernel
theorem dX7_areUpTo_7 : decode cX7_areUpTo 7 = .ok (.i2l, 1) := by decide +kernel
theorem dX7_areUpTo_8 : decode cX7_areUpTo 8 = .ok (.lcmp, 1) := by decide +kernel
theorem dX7_areUpTo_9 : decode cX7_areUpTo 9 = .ok (.ifCond .gt 45, 3) := by decide +kernel
theorem dX7_areUpTo_12 : decode cX7_areUpTo 12 = .ok (.aload_n 0, 1) := by decide +kernel
theorem dX7_areUpTo_13 : decode cX7_areUpTo 13 = .ok (.getfield 26, 3) := by decide +kernel
theorem dX7_areUpTo_16 : decode cX7_areUpTo 16 = .ok (.iconst 3, 1) := by decide +kernel
theorem dX7_areUpTo_17 : decode cX7_areUpTo 17 = .ok (.laload, 1) := by decide +kernel
theorem dX7_areUpTo_18 : decode cX7_areUpTo 18 = .ok (.iload_n 1, 1) := by decide +kernel
theorem dX7_areUpTo_19 : decode cX7_areUpTo 19 = .ok (.i2l, 1) := by decide +kernel
theorem dX7_areUpTo_20 : decode cX7_areUpTo 20 = .ok (.lcmp, 1) := by decide +kernel
theorem dX7_areUpTo_21 : decode cX7_areUpTo 21 = .ok (.ifCond .gt 33, 3) := by decide +kernel
theorem dX7_areUpTo_24 : decode cX7_areUpTo 24 = .ok (.aload_n 0, 1) := by decide +kernel
theorem dX7_areUpTo_25 : decode cX7_areUpTo 25 = .ok (.getfield 26, 3) := by decide +kernel
theorem dX7_areUpTo_28 : decode cX7_areUpTo 28 = .ok (.bipush 6, 2) := by decide +kernel
theorem dX7_areUpTo_30 : decode cX7_areUpTo 30 = .ok (.laload, 1) := by decide +kernel
theorem dX7_areUpTo_31 : decode cX7_areUpTo 31 = .ok (.iload_n 1, 1) := by decide +kernel
theorem dX7_areUpTo_32 : decode cX7_areUpTo 32 = .ok (.i2l, 1) := by decide +kernel
theorem dX7_areUpTo_33 : decode cX7_areUpTo 33 = .ok (.lcmp, 1) := by decide +kernel
theorem dX7_areUpTo_34 : decode cX7_areUpTo 34 = .ok (.ifCond .gt 20, 3) := by decide +kernel
theorem dX7_areUpTo_37 : decode cX7_areUpTo 37 = .ok (.aload_n 0, 1) := by decide +kernel
theorem dX7_areUpTo_38 : decode cX7_areUpTo 38 = .ok (.getfield 26, 3) := by decide +kernel
theorem dX7_areUpTo_41 : decode cX7_areUpTo 41 = .ok (.bipush 9, 2) := by decide +kernel
theorem dX7_areUpTo_43 : decode cX7_areUpTo 43 = .ok (.laload, 1) := by decide +kernel
theorem dX7_areUpTo_44 : decode cX7_areUpTo 44 = .ok (.iload_n 1, 1) := by decide +kernel
theorem dX7_areUpTo_45 : decode cX7_areUpTo 45 = .ok (.i2l, 1) := by decide +kernel
theorem dX7_areUpTo_46 : decode cX7_areUpTo 46 = .ok (.lcmp, 1) := by decide +kernel
theorem dX7_areUpTo_47 : decode cX7_areUpTo 47 = .ok (.ifCond .gt 7, 3) := by decide +kernel
theorem dX7_areUpTo_50 : decode cX7_areUpTo 50 = .ok (.iconst 1, 1) := by decide +kernel
theorem dX7_areUpTo_51 : decode cX7_areUpTo 51 = .ok (.goto 4, 3) := by decide +kernel
theorem dX7_areUpTo_54 : decode cX7_areUpTo 54 = .ok (.iconst 0, 1) := by decide +kernel
theorem dX7_areUpTo_55 : decode cX7_areUpTo 55 = .ok (.ireturn, 1) := by decide +kernel
theorem dX7_gathers_0 : decode cX7_gathers 0 = .ok (.aload_n 0, 1) := by decide +kernel
theorem dX7_gathers_1 : decode cX7_gathers 1 = .ok (.iconst 0, 1) := by decide +kernel
theorem dX7_gathers_2 : decode cX7_gathers 2 = .ok (.putfield 144, 3) := by decide +kernel
theorem dX7_gathers_5 : decode cX7_gathers 5 = .ok (.aload_n 0, 1) := by decide +kernel
theorem dX7_gathers_6 : decode cX7_gathers 6 = .ok (.iconst 0, 1) := by decide +kernel
theorem dX7_gathers_7 : decode cX7_gathers 7 = .ok (.putfield 151, 3) := by decide +kernel
theorem dX7_gathers_10 : decode cX7_gathers 10 = .ok (.iconst 0, 1) := by decide +kernel
theorem dX7_gathers_11 : decode cX7_gathers 11 = .ok (.istore_n 2, 1) := by decide +kernel
theorem dX7_gathers_12 : decode cX7_gathers 12 = .ok (.iload_n 2, 1) := by decide +kernel
theorem dX7_gathers_13 : decode cX7_gathers 13 = .ok (.iconst 4, 1) := by decide +kernel
theorem dX7_gathers_14 : decode cX7_gathers 14 = .ok (.if_icmp .ge 33, 3) := by decide +kernel
theorem dX7_gathers_17 : decode cX7_gathers 17 = .ok (.aload_n 0, 1) := by decide +kernel
theorem dX7_gathers_18 : decode cX7_gathers 18 = .ok (.getfield 26, 3) := by decide +kernel
theorem dX7_gathers_21 : decode cX7_gathers 21 = .ok (.iconst 3, 1) := by decide +kernel
theorem dX7_gathers_22 : decode cX7_gathers 22 = .ok (.iload_n 2, 1) := by decide +kernel
theorem dX7_gathers_23 : decode cX7_gathers 23 = .ok (.imul, 1) := by decide +kernel
theorem dX7_gathers_24 : decode cX7_gathers 24 = .ok (.laload, 1) := by decide +kernel
theorem dX7_gathers_25 : decode cX7_gathers 25 = .ok (.iload_n 1, 1) := by decide +kernel
theorem dX7_gathers_26 : decode cX7_gathers 26 = .ok (.i2l, 1) := by decide +kernel
theorem dX7_gathers_27 : decode cX7_gathers 27 = .ok (.lcmp, 1) := by decide +kernel
theorem dX7_gathers_28 : decode cX7_gathers 28 = .ok (.ifCond .gt 13, 3) := by decide +kernel
theorem dX7_gathers_31 : decode cX7_gathers 31 = .ok (.aload_n 0, 1) := by decide +kernel
theorem dX7_gathers_32 : decode cX7_gathers 32 = .ok (.iload_n 2, 1) := by decide +kernel
theorem dX7_gathers_33 : decode cX7_gathers 33 = .ok (.invokevirtual 154, 3) := by decide +kernel
theorem dX7_gathers_36 : decode cX7_gathers 36 = .ok (.ifCond .ne 5, 3) := by decide +kernel
theorem dX7_gathers_39 : decode cX7_gathers 39 = .ok (.iconst 0, 1) := by decide +kernel
theorem dX7_gathers_40 : decode cX7_gathers 40 = .ok (.ireturn, 1) := by decide +kernel
theorem dX7_gathers_41 : decode cX7_gathers 41 = .ok (.iinc 2 1, 3) := by decide +kernel
theorem dX7_gathers_44 : decode cX7_gathers 44 = .ok (.goto (-32), 3) := by decide +kernel
theorem dX7_gathers_47 : decode cX7_gathers 47 = .ok (.aload_n 0, 1) := by decide +kernel
theorem dX7_gathers_48 : decode cX7_gathers 48 = .ok (.bipush (-3), 2) := by decide +kernel
theorem dX7_gathers_50 : decode cX7_gathers 50 = .ok (.invokevirtual 157, 3) := by decide +kernel
theorem dX7_gathers_53 : decode cX7_gathers 53 = .ok (.istore_n 2, 1) := by decide +kernel
theorem dX7_gathers_54 : decode cX7_gathers 54 = .ok (.aload_n 0, 1) := by decide +kernel
theorem dX7_gathers_55 : decode cX7_gathers 55 = .ok (.getfield 151, 3) := by decide +kernel
theorem dX7_gathers_58 : decode cX7_gathers 58 = .ok (.ifCond .le 87, 3) := by decide +kernel
theorem dX7_gathers_61 : decode cX7_gathers 61 = .ok (.aload_n 0, 1) := by decide +kernel
theorem dX7_gathers_62 : decode cX7_gathers 62 = .ok (.invokevirtual 160, 3) := by decide +kernel
theorem dX7_gathers_65 : decode cX7_gathers 65 = .ok (.istore_n 3, 1) := by decide +kernel
theorem dX7_gathers_66 : decode cX7_gathers 66 = .ok (.aload_n 0, 1) := by decide +kernel
theorem dX7_gathers_67 : decode cX7_gathers 67 = .ok (.iload_n 1, 1) := by decide +kernel
theorem dX7_gathers_68 : decode cX7_gathers 68 = .ok (.invokevirtual 163, 3) := by decide +kernel
theorem dX7_gathers_71 : decode cX7_gathers 71 = .ok (.ifCond .eq 71, 3) := by decide +kernel
theorem dX7_gathers_74 : decode cX7_gathers 74 = .ok (.iconst 0, 1) := by decide +kernel
theorem dX7_gathers_75 : decode cX7_gathers 75 = .ok (.istore 4, 2) := by decide +kernel
theorem dX7_gathers_77 : decode cX7_gathers 77 = .ok (.iload 4, 2) := by decide +kernel
theorem dX7_gathers_79 : decode cX7_gathers 79 = .ok (.iconst 4, 1) := by decide +kernel
theorem dX7_gathers_80 : decode cX7_gathers 80 = .ok (.if_icmp .ge 62, 3) := by decide +kernel
theorem dX7_gathers_83 : decode cX7_gathers 83 = .ok (.iload 4, 2) := by decide +kernel
theorem dX7_gathers_85 : decode cX7_gathers 85 = .ok (.iload_n 3, 1) := by decide +kernel
theorem dX7_gathers_86 : decode cX7_gathers 86 = .ok (.if_icmp .eq 50, 3) := by decide +kernel
theorem dX7_gathers_89 : decode cX7_gathers 89 = .ok (.aload_n 0, 1) := by decide +kernel
theorem dX7_gathers_90 : decode cX7_gathers 90 = .ok (.iload 4, 2) := by decide +kernel
theorem dX7_gathers_92 : decode cX7_gathers 92 = .ok (.invokevirtual 124, 3) := by decide +kernel
theorem dX7_gathers_95 : decode cX7_gathers 95 = .ok (.aload_n 0, 1) := by decide +kernel
theorem dX7_gathers_96 : decode cX7_gathers 96 = .ok (.getfield 26, 3) := by decide +kernel
theorem dX7_gathers_99 : decode cX7_gathers 99 = .ok (.iconst 3, 1) := by decide +kernel
theorem dX7_gathers_100 : decode cX7_gathers 100 = .ok (.iload 4, 2) := by decide +kernel
theorem dX7_gathers_102 : decode cX7_gathers 102 = .ok (.imul, 1) := by decide +kernel
theorem dX7_gathers_103 : decode cX7_gathers 103 = .ok (.laload, 1) := by decide +kernel
theorem dX7_gathers_104 : decode cX7_gathers 104 = .ok (.iload_n 1, 1) := by decide +kernel
theorem dX7_gathers_105 : decode cX7_gathers 105 = .ok (.i2l, 1) := by decide +kernel
theorem dX7_gathers_106 : decode cX7_gathers 106 = .ok (.lcmp, 1) := by decide +kernel
theorem dX7_gathers_107 : decode cX7_gathers 107 = .ok (.ifCond .gt 23, 3) := by decide +kernel
theorem dX7_gathers_110 : decode cX7_gathers 110 = .ok (.aload_n 0, 1) := by decide +kernel
theorem dX7_gathers_111 : decode cX7_gathers 111 = .ok (.iload 4, 2) := by decide +kernel
theorem dX7_gathers_113 : decode cX7_gathers 113 = .ok (.invokevirtual 154, 3) := by decide +kernel
theorem dX7_gathers_116 : decode cX7_gathers 116 = .ok (.ifCond .eq 12, 3) := by decide +kernel
theorem dX7_gathers_119 : decode cX7_gathers 119 = .ok (.aload_n 0, 1) := by decide +kernel
theorem dX7_gathers_120 : decode cX7_gathers 120 = .ok (.iload 4, 2) := by decide +kernel
theorem dX7_gathers_122 : decode cX7_gathers 122 = .ok (.invokevirtual 157, 3) := by decide +kernel
theorem dX7_gathers_125 : decode cX7_gathers 125 = .ok (.ifCond .ne 5, 3) := by decide +kernel
theorem dX7_gathers_128 : decode cX7_gathers 128 = .ok (.iconst 0, 1) := by decide +kernel
theorem dX7_gathers_129 : decode cX7_gathers 129 = .ok (.ireturn, 1) := by decide +kernel
theorem dX7_gathers_130 : decode cX7_gathers 130 = .ok (.aload_n 0, 1) := by decide +kernel
theorem dX7_gathers_131 : decode cX7_gathers 131 = .ok (.iload 4, 2) := by decide +kernel
theorem dX7_gathers_133 : decode cX7_gathers 133 = .ok (.invokevirtual 124, 3) := by decide +kernel
theorem dX7_gathers_136 : decode cX7_gathers 136 = .ok (.iinc 4 1, 3) := by decide +kernel
theorem dX7_gathers_139 : decode cX7_gathers 139 = .ok (.goto (-62), 3) := by decide +kernel
theorem dX7_gathers_142 : decode cX7_gathers 142 = .ok (.goto (-88), 3) := by decide +kernel
theorem dX7_gathers_145 : decode cX7_gathers 145 = .ok (.iload_n 2, 1) := by decide +kernel
theorem dX7_gathers_146 : decode cX7_gathers 146 = .ok (.ireturn, 1) := by decide +kernel
theorem dX7_list_0 : decode cX7_list 0 = .ok (.aload_n 0, 1) := by decide +kernel
theorem dX7_list_1 : decode cX7_list 1 = .ok (.iload_n 1, 1) := by decide +kernel
theorem dX7_list_2 : decode cX7_list 2 = .ok (.invokevirtual 115, 3) := by decide +kernel
theorem dX7_list_5 : decode cX7_list 5 = .ok (.ifCond .eq 15, 3) := by decide +kernel
theorem dX7_list_8 : decode cX7_list 8 = .ok (.iload_n 2, 1) := by decide +kernel
theorem dX7_list_9 : decode cX7_list 9 = .ok (.i2l, 1) := by decide +kernel
theorem dX7_list_10 : decode cX7_list 10 = .ok (.lconst 1, 1) := by decide +kernel
theorem dX7_list_11 : decode cX7_list 11 = .ok (.ldc2_w 166, 3) := by decide +kernel
theorem dX7_list_14 : decode cX7_list 14 = .ok (.invokestatic 63, 3) := by decide +kernel
theorem dX7_list_17 : decode cX7_list 17 = .ok (.ifCond .ne 5, 3) := by decide +kernel
theorem dX7_list_20 : decode cX7_list 20 = .ok (.iconst (-1), 1) := by decide +kernel
theorem dX7_list_21 : decode cX7_list 21 = .ok (.ireturn, 1) := by decide +kernel
theorem dX7_list_22 : decode cX7_list 22 = .ok (.aload_n 0, 1) := by decide +kernel
theorem dX7_list_23 : decode cX7_list 23 = .ok (.iload_n 1, 1) := by decide +kernel
theorem dX7_list_24 : decode cX7_list 24 = .ok (.invokevirtual 138, 3) := by decide +kernel
theorem dX7_list_27 : decode cX7_list 27 = .ok (.aload_n 0, 1) := by decide +kernel
theorem dX7_list_28 : decode cX7_list 28 = .ok (.iload_n 2, 1) := by decide +kernel
theorem dX7_list_29 : decode cX7_list 29 = .ok (.invokevirtual 168, 3) := by decide +kernel
theorem dX7_list_32 : decode cX7_list 32 = .ok (.ifCond .ne 6, 3) := by decide +kernel
theorem dX7_list_35 : decode cX7_list 35 = .ok (.bipush (-4), 2) := by decide +kernel
theorem dX7_list_37 : decode cX7_list 37 = .ok (.ireturn, 1) := by decide +kernel
theorem dX7_list_38 : decode cX7_list 38 = .ok (.iconst 0, 1) := by decide +kernel
theorem dX7_list_39 : decode cX7_list 39 = .ok (.istore_n 3, 1) := by decide +kernel
theorem dX7_list_40 : decode cX7_list 40 = .ok (.iload_n 3, 1) := by decide +kernel
theorem dX7_list_41 : decode cX7_list 41 = .ok (.iconst 3, 1) := by decide +kernel
theorem dX7_list_42 : decode cX7_list 42 = .ok (.aload_n 0, 1) := by decide +kernel
theorem dX7_list_43 : decode cX7_list 43 = .ok (.getfield 144, 3) := by decide +kernel
theorem dX7_list_46 : decode cX7_list 46 = .ok (.imul, 1) := by decide +kernel
theorem dX7_list_47 : decode cX7_list 47 = .ok (.if_icmp .ge 22, 3) := by decide +kernel
theorem dX7_list_50 : decode cX7_list 50 = .ok (.aload_n 0, 1) := by decide +kernel
theorem dX7_list_51 : decode cX7_list 51 = .ok (.getfield 36, 3) := by decide +kernel
theorem dX7_list_54 : decode cX7_list 54 = .ok (.iload_n 3, 1) := by decide +kernel
theorem dX7_list_55 : decode cX7_list 55 = .ok (.aload_n 0, 1) := by decide +kernel
theorem dX7_list_56 : decode cX7_list 56 = .ok (.getfield 51, 3) := by decide +kernel
theorem dX7_list_59 : decode cX7_list 59 = .ok (.iload_n 3, 1) := by decide +kernel
theorem dX7_list_60 : decode cX7_list 60 = .ok (.laload, 1) := by decide +kernel
theorem dX7_list_61 : decode cX7_list 61 = .ok (.l2i, 1) := by decide +kernel
theorem dX7_list_62 : decode cX7_list 62 = .ok (.iastore, 1) := by decide +kernel
theorem dX7_list_63 : decode cX7_list 63 = .ok (.iinc 3 1, 3) := by decide +kernel
theorem dX7_list_66 : decode cX7_list 66 = .ok (.goto (-26), 3) := by decide +kernel
theorem dX7_list_69 : decode cX7_list 69 = .ok (.aload_n 0, 1) := by decide +kernel
theorem dX7_list_70 : decode cX7_list 70 = .ok (.aload_n 0, 1) := by decide +kernel
theorem dX7_list_71 : decode cX7_list 71 = .ok (.getfield 144, 3) := by decide +kernel
theorem dX7_list_74 : decode cX7_list 74 = .ok (.putfield 171, 3) := by decide +kernel
theorem dX7_list_77 : decode cX7_list 77 = .ok (.aload_n 0, 1) := by decide +kernel
theorem dX7_list_78 : decode cX7_list 78 = .ok (.iload_n 2, 1) := by decide +kernel
theorem dX7_list_79 : decode cX7_list 79 = .ok (.putfield 174, 3) := by decide +kernel
theorem dX7_list_82 : decode cX7_list 82 = .ok (.aload_n 0, 1) := by decide +kernel
theorem dX7_list_83 : decode cX7_list 83 = .ok (.iload_n 1, 1) := by decide +kernel
theorem dX7_list_84 : decode cX7_list 84 = .ok (.putfield 32, 3) := by decide +kernel
theorem dX7_list_87 : decode cX7_list 87 = .ok (.aload_n 0, 1) := by decide +kernel
theorem dX7_list_88 : decode cX7_list 88 = .ok (.getfield 171, 3) := by decide +kernel
theorem dX7_list_91 : decode cX7_list 91 = .ok (.ireturn, 1) := by decide +kernel
theorem dX7_listed_0 : decode cX7_listed 0 = .ok (.iload_n 2, 1) := by decide +kernel
theorem dX7_listed_1 : decode cX7_listed 1 = .ok (.i2l, 1) := by decide +kernel
theorem dX7_listed_2 : decode cX7_listed 2 = .ok (.lconst 0, 1) := by decide +kernel
theorem dX7_listed_3 : decode cX7_listed 3 = .ok (.ldc2_w 73, 3) := by decide +kernel
theorem dX7_listed_6 : decode cX7_listed 6 = .ok (.invokestatic 63, 3) := by decide +kernel
theorem dX7_listed_9 : decode cX7_listed 9 = .ok (.ifCond .ne 6, 3) := by decide +kernel
theorem dX7_listed_12 : decode cX7_listed 12 = .ok (.ldc 131, 2) := by decide +kernel
theorem dX7_listed_14 : decode cX7_listed 14 = .ok (.ireturn, 1) := by decide +kernel
theorem dX7_listed_15 : decode cX7_listed 15 = .ok (.iload_n 1, 1) := by decide +kernel
theorem dX7_listed_16 : decode cX7_listed 16 = .ok (.i2l, 1) := by decide +kernel
theorem dX7_listed_17 : decode cX7_listed 17 = .ok (.lconst 0, 1) := by decide +kernel
theorem dX7_listed_18 : decode cX7_listed 18 = .ok (.aload_n 0, 1) := by decide +kernel
theorem dX7_listed_19 : decode cX7_listed 19 = .ok (.getfield 171, 3) := by decide +kernel
theorem dX7_listed_22 : decode cX7_listed 22 = .ok (.iconst 1, 1) := by decide +kernel
theorem dX7_listed_23 : decode cX7_listed 23 = .ok (.isub, 1) := by decide +kernel
theorem dX7_listed_24 : decode cX7_listed 24 = .ok (.i2l, 1) := by decide +kernel
theorem dX7_listed_25 : decode cX7_listed 25 = .ok (.invokestatic 63, 3) := by decide +kernel
theorem dX7_listed_28 : decode cX7_listed 28 = .ok (.ifCond .eq 16, 3) := by decide +kernel
theorem dX7_listed_31 : decode cX7_listed 31 = .ok (.aload_n 0, 1) := by decide +kernel
theorem dX7_listed_32 : decode cX7_listed 32 = .ok (.getfield 36, 3) := by decide +kernel
theorem dX7_listed_35 : decode cX7_listed 35 = .ok (.iconst 3, 1) := by decide +kernel
theorem dX7_listed_36 : decode cX7_listed 36 = .ok (.iload_n 1, 1) := by decide +kernel
theorem dX7_listed_37 : decode cX7_listed 37 = .ok (.imul, 1) := by decide +kernel
theorem dX7_listed_38 : decode cX7_listed 38 = .ok (.iload_n 2, 1) := by decide +kernel
theorem dX7_listed_39 : decode cX7_listed 39 = .ok (.iadd, 1) := by decide +kernel
theorem dX7_listed_40 : decode cX7_listed 40 = .ok (.iaload, 1) := by decide +kernel
theorem dX7_listed_41 : decode cX7_listed 41 = .ok (.goto 5, 3) := by decide +kernel
theorem dX7_listed_44 : decode cX7_listed 44 = .ok (.ldc 177, 2) := by decide +kernel
theorem dX7_listed_46 : decode cX7_listed 46 = .ok (.ireturn, 1) := by decide +kernel
theorem dX7_find_0 : decode cX7_find 0 = .ok (.iconst 0, 1) := by decide +kernel
theorem dX7_find_1 : decode cX7_find 1 = .ok (.istore_n 2, 1) := by decide +kernel
theorem dX7_find_2 : decode cX7_find 2 = .ok (.iconst 0, 1) := by decide +kernel
theorem dX7_find_3 : decode cX7_find 3 = .ok (.istore_n 3, 1) := by decide +kernel
theorem dX7_find_4 : decode cX7_find 4 = .ok (.iload_n 3, 1) := by decide +kernel
theorem dX7_find_5 : decode cX7_find 5 = .ok (.aload_n 0, 1) := by decide +kernel
theorem dX7_find_6 : decode cX7_find 6 = .ok (.getfield 171, 3) := by decide +kernel
theorem dX7_find_9 : decode cX7_find 9 = .ok (.if_icmp .ge 29, 3) := by decide +kernel
theorem dX7_find_12 : decode cX7_find 12 = .ok (.iload_n 2, 1) := by decide +kernel
theorem dX7_find_13 : decode cX7_find 13 = .ok (.aload_n 0, 1) := by decide +kernel
theorem dX7_find_14 : decode cX7_find 14 = .ok (.getfield 36, 3) := by decide +kernel
theorem dX7_find_17 : decode cX7_find 17 = .ok (.iconst 3, 1) := by decide +kernel
theorem dX7_find_18 : decode cX7_find 18 = .ok (.iload_n 3, 1) := by decide +kernel
theorem dX7_find_19 : decode cX7_find 19 = .ok (.imul, 1) := by decide +kernel
theorem dX7_find_20 : decode cX7_find 20 = .ok (.iaload, 1) := by decide +kernel
theorem dX7_find_21 : decode cX7_find 21 = .ok (.iload_n 1, 1) := by decide +kernel
theorem dX7_find_22 : decode cX7_find 22 = .ok (.if_icmp .ne 7, 3) := by decide +kernel
theorem dX7_find_25 : decode cX7_find 25 = .ok (.iconst 1, 1) := by decide +kernel
theorem dX7_find_26 : decode cX7_find 26 = .ok (.goto 4, 3) := by decide +kernel
theorem dX7_find_29 : decode cX7_find 29 = .ok (.iconst 0, 1) := by decide +kernel
theorem dX7_find_30 : decode cX7_find 30 = .ok (.iadd, 1) := by decide +kernel
theorem dX7_find_31 : decode cX7_find 31 = .ok (.istore_n 2, 1) := by decide +kernel
theorem dX7_find_32 : decode cX7_find 32 = .ok (.iinc 3 1, 3) := by decide +kernel
theorem dX7_find_35 : decode cX7_find 35 = .ok (.goto (-31), 3) := by decide +kernel
theorem dX7_find_38 : decode cX7_find 38 = .ok (.iload_n 2, 1) := by decide +kernel
theorem dX7_find_39 : decode cX7_find 39 = .ok (.ireturn, 1) := by decide +kernel
theorem dX7_left_0 : decode cX7_left 0 = .ok (.iload_n 1, 1) := by decide +kernel
theorem dX7_left_1 : decode cX7_left 1 = .ok (.ifCond .ge 5, 3) := by decide +kernel
theorem dX7_left_4 : decode cX7_left 4 = .ok (.iconst (-1), 1) := by decide +kernel
theorem dX7_left_5 : decode cX7_left 5 = .ok (.ireturn, 1) := by decide +kernel
theorem dX7_left_6 : decode cX7_left 6 = .ok (.aload_n 0, 1) := by decide +kernel
theorem dX7_left_7 : decode cX7_left 7 = .ok (.getfield 32, 3) := by decide +kernel
theorem dX7_left_10 : decode cX7_left 10 = .ok (.bipush (-3), 2) := by decide +kernel
theorem dX7_left_12 : decode cX7_left 12 = .ok (.if_icmp .ne 6, 3) := by decide +kernel
theorem dX7_left_15 : decode cX7_left 15 = .ok (.bipush (-3), 2) := by decide +kernel
theorem dX7_left_17 : decode cX7_left 17 = .ok (.ireturn, 1) := by decide +kernel
theorem dX7_left_18 : decode cX7_left 18 = .ok (.aload_n 0, 1) := by decide +kernel
theorem dX7_left_19 : decode cX7_left 19 = .ok (.aload_n 0, 1) := by decide +kernel
theorem dX7_left_20 : decode cX7_left 20 = .ok (.getfield 32, 3) := by decide +kernel
theorem dX7_left_23 : decode cX7_left 23 = .ok (.invokevirtual 178, 3) := by decide +kernel
theorem dX7_left_26 : decode cX7_left 26 = .ok (.istore_n 2, 1) := by decide +kernel
theorem dX7_left_27 : decode cX7_left 27 = .ok (.iload_n 1, 1) := by decide +kernel
theorem dX7_left_28 : decode cX7_left 28 = .ok (.istore_n 3, 1) := by decide +kernel
theorem dX7_left_29 : decode cX7_left 29 = .ok (.iconst 1, 1) := by decide +kernel
theorem dX7_left_30 : decode cX7_left 30 = .ok (.istore 4, 2) := by decide +kernel
theorem dX7_left_32 : decode cX7_left 32 = .ok (.iload 4, 2) := by decide +kernel
theorem dX7_left_34 : decode cX7_left 34 = .ok (.aload_n 0, 1) := by decide +kernel
theorem dX7_left_35 : decode cX7_left 35 = .ok (.getfield 174, 3) := by decide +kernel
theorem dX7_left_38 : decode cX7_left 38 = .ok (.if_icmp .gt 41, 3) := by decide +kernel
theorem dX7_left_41 : decode cX7_left 41 = .ok (.iload_n 2, 1) := by decide +kernel
theorem dX7_left_42 : decode cX7_left 42 = .ok (.iload 4, 2) := by decide +kernel
theorem dX7_left_44 : decode cX7_left 44 = .ok (.bipush 24, 2) := by decide +kernel
theorem dX7_left_46 : decode cX7_left 46 = .ok (.irem, 1) := by decide +kernel
theorem dX7_left_47 : decode cX7_left 47 = .ok (.ishr, 1) := by decide +kernel
theorem dX7_left_48 : decode cX7_left 48 = .ok (.iconst 1, 1) := by decide +kernel
theorem dX7_left_49 : decode cX7_left 49 = .ok (.iand, 1) := by decide +kernel
theorem dX7_left_50 : decode cX7_left 50 = .ok (.iconst 1, 1) := by decide +kernel
theorem dX7_left_51 : decode cX7_left 51 = .ok (.if_icmp .ne 22, 3) := by decide +kernel
theorem dX7_left_54 : decode cX7_left 54 = .ok (.aload_n 0, 1) := by decide +kernel
theorem dX7_left_55 : decode cX7_left 55 = .ok (.iload 4, 2) := by decide +kernel
theorem dX7_left_57 : decode cX7_left 57 = .ok (.invokevirtual 181, 3) := by decide +kernel
theorem dX7_left_60 : decode cX7_left 60 = .ok (.ifCond .ne 13, 3) := by decide +kernel
theorem dX7_left_63 : decode cX7_left 63 = .ok (.iload_n 3, 1) := by decide +kernel
theorem dX7_left_64 : decode cX7_left 64 = .ok (.ifCond .ne 6, 3) := by decide +kernel
theorem dX7_left_67 : decode cX7_left 67 = .ok (.iload 4, 2) := by decide +kernel
theorem dX7_left_69 : decode cX7_left 69 = .ok (.ireturn, 1) := by decide +kernel
theorem dX7_left_70 : decode cX7_left 70 = .ok (.iinc 3 (-1), 3) := by decide +kernel
theorem dX7_left_73 : decode cX7_left 73 = .ok (.iinc 4 1, 3) := by decide +kernel
theorem dX7_left_76 : decode cX7_left 76 = .ok (.goto (-44), 3) := by decide +kernel
theorem dX7_left_79 : decode cX7_left 79 = .ok (.bipush (-3), 2) := by decide +kernel
theorem dX7_left_81 : decode cX7_left 81 = .ok (.ireturn, 1) := by decide +kernel
theorem dX7_restOf_0 : decode cX7_restOf 0 = .ok (.iload_n 0, 1) := by decide +kernel
theorem dX7_restOf_1 : decode cX7_restOf 1 = .ok (.bipush 24, 2) := by decide +kernel
theorem dX7_restOf_3 : decode cX7_restOf 3 = .ok (.irem, 1) := by decide +kernel
theorem dX7_restOf_4 : decode cX7_restOf 4 = .ok (.istore_n 1, 1) := by decide +kernel
theorem dX7_restOf_5 : decode cX7_restOf 5 = .ok (.iload_n 1, 1) := by decide +kernel
theorem dX7_restOf_6 : decode cX7_restOf 6 = .ok (.ifCond .ge 10, 3) := by decide +kernel
theorem dX7_restOf_9 : decode cX7_restOf 9 = .ok (.iload_n 1, 1) := by decide +kernel
theorem dX7_restOf_10 : decode cX7_restOf 10 = .ok (.bipush 24, 2) := by decide +kernel
theorem dX7_restOf_12 : decode cX7_restOf 12 = .ok (.iadd, 1) := by decide +kernel
theorem dX7_restOf_13 : decode cX7_restOf 13 = .ok (.goto 4, 3) := by decide +kernel
theorem dX7_restOf_16 : decode cX7_restOf 16 = .ok (.iload_n 1, 1) := by decide +kernel
theorem dX7_restOf_17 : decode cX7_restOf 17 = .ok (.ireturn, 1) := by decide +kernel
theorem dX7_see_0 : decode cX7_see 0 = .ok (.aload_n 0, 1) := by decide +kernel
theorem dX7_see_1 : decode cX7_see 1 = .ok (.getfield 54, 3) := by decide +kernel
theorem dX7_see_4 : decode cX7_see 4 = .ok (.iload_n 1, 1) := by decide +kernel
theorem dX7_see_5 : decode cX7_see 5 = .ok (.iconst 5, 1) := by decide +kernel
theorem dX7_see_6 : decode cX7_see 6 = .ok (.ishr, 1) := by decide +kernel
theorem dX7_see_7 : decode cX7_see 7 = .ok (.iaload, 1) := by decide +kernel
theorem dX7_see_8 : decode cX7_see 8 = .ok (.iload_n 1, 1) := by decide +kernel
theorem dX7_see_9 : decode cX7_see 9 = .ok (.bipush 31, 2) := by decide +kernel
theorem dX7_see_11 : decode cX7_see 11 = .ok (.iand, 1) := by decide +kernel
theorem dX7_see_12 : decode cX7_see 12 = .ok (.ishr, 1) := by decide +kernel
theorem dX7_see_13 : decode cX7_see 13 = .ok (.iconst 1, 1) := by decide +kernel
theorem dX7_see_14 : decode cX7_see 14 = .ok (.iand, 1) := by decide +kernel
theorem dX7_see_15 : decode cX7_see 15 = .ok (.iconst 1, 1) := by decide +kernel
theorem dX7_see_16 : decode cX7_see 16 = .ok (.if_icmp .ne 7, 3) := by decide +kernel
theorem dX7_see_19 : decode cX7_see 19 = .ok (.iconst 1, 1) := by decide +kernel
theorem dX7_see_20 : decode cX7_see 20 = .ok (.goto 4, 3) := by decide +kernel
theorem dX7_see_23 : decode cX7_see 23 = .ok (.iconst 0, 1) := by decide +kernel
theorem dX7_see_24 : decode cX7_see 24 = .ok (.istore_n 2, 1) := by decide +kernel
theorem dX7_see_25 : decode cX7_see 25 = .ok (.aload_n 0, 1) := by decide +kernel
theorem dX7_see_26 : decode cX7_see 26 = .ok (.getfield 54, 3) := by decide +kernel
theorem dX7_see_29 : decode cX7_see 29 = .ok (.iload_n 1, 1) := by decide +kernel
theorem dX7_see_30 : decode cX7_see 30 = .ok (.iconst 5, 1) := by decide +kernel
theorem dX7_see_31 : decode cX7_see 31 = .ok (.ishr, 1) := by decide +kernel
theorem dX7_see_32 : decode cX7_see 32 = .ok (.dup2, 1) := by decide +kernel
theorem dX7_see_33 : decode cX7_see 33 = .ok (.iaload, 1) := by decide +kernel
theorem dX7_see_34 : decode cX7_see 34 = .ok (.iconst 1, 1) := by decide +kernel
theorem dX7_see_35 : decode cX7_see 35 = .ok (.iload_n 1, 1) := by decide +kernel
theorem dX7_see_36 : decode cX7_see 36 = .ok (.bipush 31, 2) := by decide +kernel
theorem dX7_see_38 : decode cX7_see 38 = .ok (.iand, 1) := by decide +kernel
theorem dX7_see_39 : decode cX7_see 39 = .ok (.ishl, 1) := by decide +kernel
theorem dX7_see_40 : decode cX7_see 40 = .ok (.ior, 1) := by decide +kernel
theorem dX7_see_41 : decode cX7_see 41 = .ok (.iastore, 1) := by decide +kernel
theorem dX7_see_42 : decode cX7_see 42 = .ok (.iload_n 2, 1) := by decide +kernel
theorem dX7_see_43 : decode cX7_see 43 = .ok (.ifCond .ne 7, 3) := by decide +kernel
theorem dX7_see_46 : decode cX7_see 46 = .ok (.iconst 1, 1) := by decide +kernel
theorem dX7_see_47 : decode cX7_see 47 = .ok (.goto 4, 3) := by decide +kernel
theorem dX7_see_50 : decode cX7_see 50 = .ok (.iconst 0, 1) := by decide +kernel
theorem dX7_see_51 : decode cX7_see 51 = .ok (.ireturn, 1) := by decide +kernel
theorem dX7_seen_0 : decode cX7_seen 0 = .ok (.aload_n 0, 1) := by decide +kernel
theorem dX7_seen_1 : decode cX7_seen 1 = .ok (.iload_n 1, 1) := by decide +kernel
theorem dX7_seen_2 : decode cX7_seen 2 = .ok (.invokevirtual 115, 3) := by decide +kernel
theorem dX7_seen_5 : decode cX7_seen 5 = .ok (.ifCond .ne 5, 3) := by decide +kernel
theorem dX7_seen_8 : decode cX7_seen 8 = .ok (.iconst (-1), 1) := by decide +kernel
theorem dX7_seen_9 : decode cX7_seen 9 = .ok (.ireturn, 1) := by decide +kernel
theorem dX7_seen_10 : decode cX7_seen 10 = .ok (.iconst 0, 1) := by decide +kernel
theorem dX7_seen_11 : decode cX7_seen 11 = .ok (.istore_n 2, 1) := by decide +kernel
theorem dX7_seen_12 : decode cX7_seen 12 = .ok (.iload_n 2, 1) := by decide +kernel
theorem dX7_seen_13 : decode cX7_seen 13 = .ok (.sipush 10368, 3) := by decide +kernel
theorem dX7_seen_16 : decode cX7_seen 16 = .ok (.if_icmp .ge 16, 3) := by decide +kernel
theorem dX7_seen_19 : decode cX7_seen 19 = .ok (.aload_n 0, 1) := by decide +kernel
theorem dX7_seen_20 : decode cX7_seen 20 = .ok (.getfield 54, 3) := by decide +kernel
theorem dX7_seen_23 : decode cX7_seen 23 = .ok (.iload_n 2, 1) := by decide +kernel
theorem dX7_seen_24 : decode cX7_seen 24 = .ok (.iconst 0, 1) := by decide +kernel
theorem dX7_seen_25 : decode cX7_seen 25 = .ok (.iastore, 1) := by decide +kernel
theorem dX7_seen_26 : decode cX7_seen 26 = .ok (.iinc 2 1, 3) := by decide +kernel
theorem dX7_seen_29 : decode cX7_seen 29 = .ok (.goto (-17), 3) := by decide +kernel
theorem dX7_seen_32 : decode cX7_seen 32 = .ok (.iconst 0, 1) := by decide +kernel
theorem dX7_seen_33 : decode cX7_seen 33 = .ok (.istore_n 2, 1) := by decide +kernel
theorem dX7_seen_34 : decode cX7_seen 34 = .ok (.iconst 0, 1) := by decide +kernel
theorem dX7_seen_35 : decode cX7_seen 35 = .ok (.istore_n 3, 1) := by decide +kernel
theorem dX7_seen_36 : decode cX7_seen 36 = .ok (.iload_n 3, 1) := by decide +kernel
theorem dX7_seen_37 : decode cX7_seen 37 = .ok (.iconst 4, 1) := by decide +kernel
theorem dX7_seen_38 : decode cX7_seen 38 = .ok (.if_icmp .ge 31, 3) := by decide +kernel
theorem dX7_seen_41 : decode cX7_seen 41 = .ok (.bipush 24, 2) := by decide +kernel
theorem dX7_seen_43 : decode cX7_seen 43 = .ok (.iload_n 2, 1) := by decide +kernel
theorem dX7_seen_44 : decode cX7_seen 44 = .ok (.imul, 1) := by decide +kernel
theorem dX7_seen_45 : decode cX7_seen 45 = .ok (.aload_n 0, 1) := by decide +kernel
theorem dX7_seen_46 : decode cX7_seen 46 = .ok (.getfield 23, 3) := by decide +kernel
theorem dX7_seen_49 : decode cX7_seen 49 = .ok (.bipush 12, 2) := by decide +kernel
theorem dX7_seen_51 : decode cX7_seen 51 = .ok (.iload_n 1, 1) := by decide +kernel
theorem dX7_seen_52 : decode cX7_seen 52 = .ok (.imul, 1) := by decide +kernel
theorem dX7_seen_53 : decode cX7_seen 53 = .ok (.iconst 3, 1) := by decide +kernel
theorem dX7_seen_54 : decode cX7_seen 54 = .ok (.iload_n 3, 1) := by decide +kernel
theorem dX7_seen_55 : decode cX7_seen 55 = .ok (.imul, 1) := by decide +kernel
theorem dX7_seen_56 : decode cX7_seen 56 = .ok (.iadd, 1) := by decide +kernel
theorem dX7_seen_57 : decode cX7_seen 57 = .ok (.iaload, 1) := by decide +kernel
theorem dX7_seen_58 : decode cX7_seen 58 = .ok (.invokestatic 184, 3) := by decide +kernel
theorem dX7_seen_61 : decode cX7_seen 61 = .ok (.iadd, 1) := by decide +kernel
theorem dX7_seen_62 : decode cX7_seen 62 = .ok (.istore_n 2, 1) := by decide +kernel
theorem dX7_seen_63 : decode cX7_seen 63 = .ok (.iinc 3 1, 3) := by decide +kernel
theorem dX7_seen_66 : decode cX7_seen 66 = .ok (.goto (-30), 3) := by decide +kernel
theorem dX7_seen_69 : decode cX7_seen 69 = .ok (.iconst 1, 1) := by decide +kernel
theorem dX7_seen_70 : decode cX7_seen 70 = .ok (.istore_n 3, 1) := by decide +kernel
theorem dX7_seen_71 : decode cX7_seen 71 = .ok (.aload_n 0, 1) := by decide +kernel
theorem dX7_seen_72 : decode cX7_seen 72 = .ok (.getfield 58, 3) := by decide +kernel
theorem dX7_seen_75 : decode cX7_seen 75 = .ok (.iconst 0, 1) := by decide +kernel
theorem dX7_seen_76 : decode cX7_seen 76 = .ok (.iload_n 2, 1) := by decide +kernel
theorem dX7_seen_77 : decode cX7_seen 77 = .ok (.iastore, 1) := by decide +kernel
theorem dX7_seen_78 : decode cX7_seen 78 = .ok (.aload_n 0, 1) := by decide +kernel
theorem dX7_seen_79 : decode cX7_seen 79 = .ok (.iload_n 2, 1) := by decide +kernel
theorem dX7_seen_80 : decode cX7_seen 80 = .ok (.invokevirtual 187, 3) := by decide +kernel
theorem dX7_seen_83 : decode cX7_seen 83 = .ok (.istore 4, 2) := by decide +kernel
theorem dX7_seen_85 : decode cX7_seen 85 = .ok (.iconst 0, 1) := by decide +kernel
theorem dX7_seen_86 : decode cX7_seen 86 = .ok (.istore 5, 2) := by decide +kernel
theorem dX7_seen_88 : decode cX7_seen 88 = .ok (.iload_n 3, 1) := by decide +kernel
theorem dX7_seen_89 : decode cX7_seen 89 = .ok (.ifCond .le 222, 3) := by decide +kernel
theorem dX7_seen_92 : decode cX7_seen 92 = .ok (.iinc 3 (-1), 3) := by decide +kernel
theorem dX7_seen_95 : decode cX7_seen 95 = .ok (.aload_n 0, 1) := by decide +kernel
theorem dX7_seen_96 : decode cX7_seen 96 = .ok (.getfield 58, 3) := by decide +kernel
theorem dX7_seen_99 : decode cX7_seen 99 = .ok (.iload_n 3, 1) := by decide +kernel
theorem dX7_seen_100 : decode cX7_seen 100 = .ok (.iaload, 1) := by decide +kernel
theorem dX7_seen_101 : decode cX7_seen 101 = .ok (.istore 6, 2) := by decide +kernel
theorem dX7_seen_103 : decode cX7_seen 103 = .ok (.iload 6, 2) := by decide +kernel
theorem dX7_seen_105 : decode cX7_seen 105 = .ok (.sipush 13824, 3) := by decide +kernel
theorem dX7_seen_108 : decode cX7_seen 108 = .ok (.idiv, 1) := by decide +kernel
theorem dX7_seen_109 : decode cX7_seen 109 = .ok (.istore 7, 2) := by decide +kernel
theorem dX7_seen_111 : decode cX7_seen 111 = .ok (.iload 6, 2) := by decide +kernel
theorem dX7_seen_113 : decode cX7_seen 113 = .ok (.sipush 576, 3) := by decide +kernel
theorem dX7_seen_116 : decode cX7_seen 116 = .ok (.idiv, 1) := by decide +kernel
theorem dX7_seen_117 : decode cX7_seen 117 = .ok (.bipush 24, 2) := by decide +kernel
theorem dX7_seen_119 : decode cX7_seen 119 = .ok (.irem, 1) := by decide +kernel
theorem dX7_seen_120 : decode cX7_seen 120 = .ok (.istore 8, 2) := by decide +kernel
theorem dX7_seen_122 : decode cX7_seen 122 = .ok (.iload 6, 2) := by decide +kernel
theorem dX7_seen_124 : decode cX7_seen 124 = .ok (.bipush 24, 2) := by decide +kernel
theorem dX7_seen_126 : decode cX7_seen 126 = .ok (.idiv, 1) := by decide +kernel
theorem dX7_seen_127 : decode cX7_seen 127 = .ok (.bipush 24, 2) := by decide +kernel
theorem dX7_seen_129 : decode cX7_seen 129 = .ok (.irem, 1) := by decide +kernel
theorem dX7_seen_130 : decode cX7_seen 130 = .ok (.istore 9, 2) := by decide +kernel
theorem dX7_seen_132 : decode cX7_seen 132 = .ok (.iload 6, 2) := by decide +kernel
theorem dX7_seen_134 : decode cX7_seen 134 = .ok (.bipush 24, 2) := by decide +kernel
theorem dX7_seen_136 : decode cX7_seen 136 = .ok (.irem, 1) := by decide +kernel
theorem dX7_seen_137 : decode cX7_seen 137 = .ok (.istore 10, 2) := by decide +kernel
theorem dX7_seen_139 : decode cX7_seen 139 = .ok (.iload 5, 2) := by decide +kernel
theorem dX7_seen_141 : decode cX7_seen 141 = .ok (.iconst 1, 1) := by decide +kernel
theorem dX7_seen_142 : decode cX7_seen 142 = .ok (.iload 7, 2) := by decide +kernel
theorem dX7_seen_144 : decode cX7_seen 144 = .ok (.ishl, 1) := by decide +kernel
theorem dX7_seen_145 : decode cX7_seen 145 = .ok (.iconst 1, 1) := by decide +kernel
theorem dX7_seen_146 : decode cX7_seen 146 = .ok (.iload 8, 2) := by decide +kernel
theorem dX7_seen_148 : decode cX7_seen 148 = .ok (.ishl, 1) := by decide +kernel
theorem dX7_seen_149 : decode cX7_seen 149 = .ok (.ior, 1) := by decide +kernel
theorem dX7_seen_150 : decode cX7_seen 150 = .ok (.iconst 1, 1) := by decide +kernel
theorem dX7_seen_151 : decode cX7_seen 151 = .ok (.iload 9, 2) := by decide +kernel
theorem dX7_seen_153 : decode cX7_seen 153 = .ok (.ishl, 1) := by decide +kernel
theorem dX7_seen_154 : decode cX7_seen 154 = .ok (.ior, 1) := by decide +kernel
theorem dX7_seen_155 : decode cX7_seen 155 = .ok (.iconst 1, 1) := by decide +kernel
theorem dX7_seen_156 : decode cX7_seen 156 = .ok (.iload 10, 2) := by decide +kernel
theorem dX7_seen_158 : decode cX7_seen 158 = .ok (.ishl, 1) := by decide +kernel
theorem dX7_seen_159 : decode cX7_seen 159 = .ok (.ior, 1) := by decide +kernel
theorem dX7_seen_160 : decode cX7_seen 160 = .ok (.ior, 1) := by decide +kernel
theorem dX7_seen_161 : decode cX7_seen 161 = .ok (.istore 5, 2) := by decide +kernel
theorem dX7_seen_163 : decode cX7_seen 163 = .ok (.iconst 0, 1) := by decide +kernel
theorem dX7_seen_164 : decode cX7_seen 164 = .ok (.istore 11, 2) := by decide +kernel
theorem dX7_seen_166 : decode cX7_seen 166 = .ok (.iload 11, 2) := by decide +kernel
theorem dX7_seen_168 : decode cX7_seen 168 = .ok (.iconst 4, 1) := by decide +kernel
theorem dX7_seen_169 : decode cX7_seen 169 = .ok (.if_icmp .ge 139, 3) := by decide +kernel
theorem dX7_seen_172 : decode cX7_seen 172 = .ok (.iload 11, 2) := by decide +kernel
theorem dX7_seen_174 : decode cX7_seen 174 = .ok (.ifCond .ne 9, 3) := by decide +kernel
theorem dX7_seen_177 : decode cX7_seen 177 = .ok (.sipush 13824, 3) := by decide +kernel
theorem dX7_seen_180 : decode cX7_seen 180 = .ok (.goto 27, 3) := by decide +kernel
theorem dX7_seen_183 : decode cX7_seen 183 = .ok (.iload 11, 2) := by decide +kernel
theorem dX7_seen_185 : decode cX7_seen 185 = .ok (.iconst 1, 1) := by decide +kernel
theorem dX7_seen_186 : decode cX7_seen 186 = .ok (.if_icmp .ne 9, 3) := by decide +kernel
theorem dX7_seen_189 : decode cX7_seen 189 = .ok (.sipush 576, 3) := by decide +kernel
theorem dX7_seen_192 : decode cX7_seen 192 = .ok (.goto 15, 3) := by decide +kernel
theorem dX7_seen_195 : decode cX7_seen 195 = .ok (.iload 11, 2) := by decide +kernel
theorem dX7_seen_197 : decode cX7_seen 197 = .ok (.iconst 2, 1) := by decide +kernel
theorem dX7_seen_198 : decode cX7_seen 198 = .ok (.if_icmp .ne 8, 3) := by decide +kernel
theorem dX7_seen_201 : decode cX7_seen 201 = .ok (.bipush 24, 2) := by decide +kernel
theorem dX7_seen_203 : decode cX7_seen 203 = .ok (.goto 4, 3) := by decide +kernel
theorem dX7_seen_206 : decode cX7_seen 206 = .ok (.iconst 1, 1) := by decide +kernel
theorem dX7_seen_207 : decode cX7_seen 207 = .ok (.istore 12, 2) := by decide +kernel
theorem dX7_seen_209 : decode cX7_seen 209 = .ok (.iload 11, 2) := by decide +kernel
theorem dX7_seen_211 : decode cX7_seen 211 = .ok (.ifCond .ne 8, 3) := by decide +kernel
theorem dX7_seen_214 : decode cX7_seen 214 = .ok (.iload 7, 2) := by decide +kernel
theorem dX7_seen_216 : decode cX7_seen 216 = .ok (.goto 27, 3) := by decide +kernel
theorem dX7_seen_219 : decode cX7_seen 219 = .ok (.iload 11, 2) := by decide +kernel
theorem dX7_seen_221 : decode cX7_seen 221 = .ok (.iconst 1, 1) := by decide +kernel
theorem dX7_seen_222 : decode cX7_seen 222 = .ok (.if_icmp .ne 8, 3) := by decide +kernel
theorem dX7_seen_225 : decode cX7_seen 225 = .ok (.iload 8, 2) := by decide +kernel
theorem dX7_seen_227 : decode cX7_seen 227 = .ok (.goto 16, 3) := by decide +kernel
theorem dX7_seen_230 : decode cX7_seen 230 = .ok (.iload 11, 2) := by decide +kernel
theorem dX7_seen_232 : decode cX7_seen 232 = .ok (.iconst 2, 1) := by decide +kernel
theorem dX7_seen_233 : decode cX7_seen 233 = .ok (.if_icmp .ne 8, 3) := by decide +kernel
theorem dX7_seen_236 : decode cX7_seen 236 = .ok (.iload 9, 2) := by decide +kernel
theorem dX7_seen_238 : decode cX7_seen 238 = .ok (.goto 5, 3) := by decide +kernel
theorem dX7_seen_241 : decode cX7_seen 241 = .ok (.iload 10, 2) := by decide +kernel
theorem dX7_seen_243 : decode cX7_seen 243 = .ok (.istore 13, 2) := by decide +kernel
theorem dX7_seen_245 : decode cX7_seen 245 = .ok (.iconst 2, 1) := by decide +kernel
theorem dX7_seen_246 : decode cX7_seen 246 = .ok (.iload 7, 2) := by decide +kernel
theorem dX7_seen_248 : decode cX7_seen 248 = .ok (.iload 8, 2) := by decide +kernel
theorem dX7_seen_250 : decode cX7_seen 250 = .ok (.iadd, 1) := by decide +kernel
theorem dX7_seen_251 : decode cX7_seen 251 = .ok (.iload 9, 2) := by decide +kernel
theorem dX7_seen_253 : decode cX7_seen 253 = .ok (.iadd, 1) := by decide +kernel
theorem dX7_seen_254 : decode cX7_seen 254 = .ok (.iload 10, 2) := by decide +kernel
theorem dX7_seen_256 : decode cX7_seen 256 = .ok (.iadd, 1) := by decide +kernel
theorem dX7_seen_257 : decode cX7_seen 257 = .ok (.iload 13, 2) := by decide +kernel
theorem dX7_seen_259 : decode cX7_seen 259 = .ok (.isub, 1) := by decide +kernel
theorem dX7_seen_260 : decode cX7_seen 260 = .ok (.imul, 1) := by decide +kernel
theorem dX7_seen_261 : decode cX7_seen 261 = .ok (.iload 13, 2) := by decide +kernel
theorem dX7_seen_263 : decode cX7_seen 263 = .ok (.isub, 1) := by decide +kernel
theorem dX7_seen_264 : decode cX7_seen 264 = .ok (.invokestatic 184, 3) := by decide +kernel
theorem dX7_seen_267 : decode cX7_seen 267 = .ok (.istore 14, 2) := by decide +kernel
theorem dX7_seen_269 : decode cX7_seen 269 = .ok (.iload 6, 2) := by decide +kernel
theorem dX7_seen_271 : decode cX7_seen 271 = .ok (.iload 12, 2) := by decide +kernel
theorem dX7_seen_273 : decode cX7_seen 273 = .ok (.iload 14, 2) := by decide +kernel
theorem dX7_seen_275 : decode cX7_seen 275 = .ok (.iload 13, 2) := by decide +kernel
theorem dX7_seen_277 : decode cX7_seen 277 = .ok (.isub, 1) := by decide +kernel
theorem dX7_seen_278 : decode cX7_seen 278 = .ok (.imul, 1) := by decide +kernel
theorem dX7_seen_279 : decode cX7_seen 279 = .ok (.iadd, 1) := by decide +kernel
theorem dX7_seen_280 : decode cX7_seen 280 = .ok (.istore 15, 2) := by decide +kernel
theorem dX7_seen_282 : decode cX7_seen 282 = .ok (.aload_n 0, 1) := by decide +kernel
theorem dX7_seen_283 : decode cX7_seen 283 = .ok (.iload 15, 2) := by decide +kernel
theorem dX7_seen_285 : decode cX7_seen 285 = .ok (.invokevirtual 187, 3) := by decide +kernel
theorem dX7_seen_288 : decode cX7_seen 288 = .ok (.ifCond .eq 14, 3) := by decide +kernel
theorem dX7_seen_291 : decode cX7_seen 291 = .ok (.aload_n 0, 1) := by decide +kernel
theorem dX7_seen_292 : decode cX7_seen 292 = .ok (.getfield 58, 3) := by decide +kernel
theorem dX7_seen_295 : decode cX7_seen 295 = .ok (.iload_n 3, 1) := by decide +kernel
theorem dX7_seen_296 : decode cX7_seen 296 = .ok (.iload 15, 2) := by decide +kernel
theorem dX7_seen_298 : decode cX7_seen 298 = .ok (.iastore, 1) := by decide +kernel
theorem dX7_seen_299 : decode cX7_seen 299 = .ok (.iinc 3 1, 3) := by decide +kernel
theorem dX7_seen_302 : decode cX7_seen 302 = .ok (.iinc 11 1, 3) := by decide +kernel
theorem dX7_seen_305 : decode cX7_seen 305 = .ok (.goto (-139), 3) := by decide +kernel
theorem dX7_seen_308 : decode cX7_seen 308 = .ok (.goto (-220), 3) := by decide +kernel
theorem dX7_seen_311 : decode cX7_seen 311 = .ok (.iload 5, 2) := by decide +kernel
theorem dX7_seen_313 : decode cX7_seen 313 = .ok (.ireturn, 1) := by decide +kernel
theorem dX7_chain_0 : decode cX7_chain 0 = .ok (.aload_n 0, 1) := by decide +kernel
theorem dX7_chain_1 : decode cX7_chain 1 = .ok (.iload_n 1, 1) := by decide +kernel
theorem dX7_chain_2 : decode cX7_chain 2 = .ok (.invokevirtual 115, 3) := by decide +kernel
theorem dX7_chain_5 : decode cX7_chain 5 = .ok (.ifCond .eq 44, 3) := by decide +kernel
theorem dX7_chain_8 : decode cX7_chain 8 = .ok (.iload_n 2, 1) := by decide +kernel
theorem dX7_chain_9 : decode cX7_chain 9 = .ok (.i2l, 1) := by decide +kernel
theorem dX7_chain_10 : decode cX7_chain 10 = .ok (.lconst 0, 1) := by decide +kernel
theorem dX7_chain_11 : decode cX7_chain 11 = .ok (.ldc2_w 118, 3) := by decide +kernel
theorem dX7_chain_14 : decode cX7_chain 14 = .ok (.invokestatic 63, 3) := by decide +kernel
theorem dX7_chain_17 : decode cX7_chain 17 = .ok (.ifCond .eq 32, 3) := by decide +kernel
theorem dX7_chain_20 : decode cX7_chain 20 = .ok (.iload_n 3, 1) := by decide +kernel
theorem dX7_chain_21 : decode cX7_chain 21 = .ok (.iload 5, 2) := by decide +kernel
theorem dX7_chain_23 : decode cX7_chain 23 = .ok (.invokestatic 127, 3) := by decide +kernel
theorem dX7_chain_26 : decode cX7_chain 26 = .ok (.ifCond .eq 23, 3) := by decide +kernel
theorem dX7_chain_29 : decode cX7_chain 29 = .ok (.iload_n 2, 1) := by decide +kernel
theorem dX7_chain_30 : decode cX7_chain 30 = .ok (.iload_n 3, 1) := by decide +kernel
theorem dX7_chain_31 : decode cX7_chain 31 = .ok (.if_icmp .eq 18, 3) := by decide +kernel
theorem dX7_chain_34 : decode cX7_chain 34 = .ok (.iload 4, 2) := by decide +kernel
theorem dX7_chain_36 : decode cX7_chain 36 = .ok (.i2l, 1) := by decide +kernel
theorem dX7_chain_37 : decode cX7_chain 37 = .ok (.ldc2_w 190, 3) := by decide +kernel
theorem dX7_chain_40 : decode cX7_chain 40 = .ok (.ldc2_w 192, 3) := by decide +kernel
theorem dX7_chain_43 : decode cX7_chain 43 = .ok (.invokestatic 63, 3) := by decide +kernel
theorem dX7_chain_46 : decode cX7_chain 46 = .ok (.ifCond .ne 6, 3) := by decide +kernel
theorem dX7_chain_49 : decode cX7_chain 49 = .ok (.ldc 131, 2) := by decide +kernel
theorem dX7_chain_51 : decode cX7_chain 51 = .ok (.ireturn, 1) := by decide +kernel
theorem dX7_chain_52 : decode cX7_chain 52 = .ok (.iconst 0, 1) := by decide +kernel
theorem dX7_chain_53 : decode cX7_chain 53 = .ok (.istore 6, 2) := by decide +kernel
theorem dX7_chain_55 : decode cX7_chain 55 = .ok (.iload 6, 2) := by decide +kernel
theorem dX7_chain_57 : decode cX7_chain 57 = .ok (.iload_n 2, 1) := by decide +kernel
theorem dX7_chain_58 : decode cX7_chain 58 = .ok (.if_icmp .eq 9, 3) := by decide +kernel
theorem dX7_chain_61 : decode cX7_chain 61 = .ok (.iload 6, 2) := by decide +kernel
theorem dX7_chain_63 : decode cX7_chain 63 = .ok (.iload_n 3, 1) := by decide +kernel
theorem dX7_chain_64 : decode cX7_chain 64 = .ok (.if_icmp .ne 9, 3) := by decide +kernel
theorem dX7_chain_67 : decode cX7_chain 67 = .ok (.iinc 6 1, 3) := by decide +kernel
theorem dX7_chain_70 : decode cX7_chain 70 = .ok (.goto (-15), 3) := by decide +kernel
theorem dX7_chain_73 : decode cX7_chain 73 = .ok (.bipush 6, 2) := by decide +kernel
theorem dX7_chain_75 : decode cX7_chain 75 = .ok (.iload_n 2, 1) := by decide +kernel
theorem dX7_chain_76 : decode cX7_chain 76 = .ok (.isub, 1) := by decide +kernel
theorem dX7_chain_77 : decode cX7_chain 77 = .ok (.iload_n 3, 1) := by decide +kernel
theorem dX7_chain_78 : decode cX7_chain 78 = .ok (.isub, 1) := by decide +kernel
theorem dX7_chain_79 : decode cX7_chain 79 = .ok (.iload 6, 2) := by decide +kernel
theorem dX7_chain_81 : decode cX7_chain 81 = .ok (.isub, 1) := by decide +kernel
theorem dX7_chain_82 : decode cX7_chain 82 = .ok (.istore 7, 2) := by decide +kernel
theorem dX7_chain_84 : decode cX7_chain 84 = .ok (.aload_n 0, 1) := by decide +kernel
theorem dX7_chain_85 : decode cX7_chain 85 = .ok (.iload_n 1, 1) := by decide +kernel
theorem dX7_chain_86 : decode cX7_chain 86 = .ok (.invokevirtual 120, 3) := by decide +kernel
theorem dX7_chain_89 : decode cX7_chain 89 = .ok (.iload 4, 2) := by decide +kernel
theorem dX7_chain_91 : decode cX7_chain 91 = .ok (.ifCond .le 8, 3) := by decide +kernel
theorem dX7_chain_94 : decode cX7_chain 94 = .ok (.iload 7, 2) := by decide +kernel
theorem dX7_chain_96 : decode cX7_chain 96 = .ok (.goto 5, 3) := by decide +kernel
theorem dX7_chain_99 : decode cX7_chain 99 = .ok (.iload 6, 2) := by decide +kernel
theorem dX7_chain_101 : decode cX7_chain 101 = .ok (.istore 8, 2) := by decide +kernel
theorem dX7_chain_103 : decode cX7_chain 103 = .ok (.iload 4, 2) := by decide +kernel
theorem dX7_chain_105 : decode cX7_chain 105 = .ok (.ifCond .le 8, 3) := by decide +kernel
theorem dX7_chain_108 : decode cX7_chain 108 = .ok (.iload 6, 2) := by decide +kernel
theorem dX7_chain_110 : decode cX7_chain 110 = .ok (.goto 5, 3) := by decide +kernel
theorem dX7_chain_113 : decode cX7_chain 113 = .ok (.iload 7, 2) := by decide +kernel
theorem dX7_chain_115 : decode cX7_chain 115 = .ok (.istore 9, 2) := by decide +kernel
theorem dX7_chain_117 : decode cX7_chain 117 = .ok (.iload 4, 2) := by decide +kernel
theorem dX7_chain_119 : decode cX7_chain 119 = .ok (.ifCond .le 10, 3) := by decide +kernel
theorem dX7_chain_122 : decode cX7_chain 122 = .ok (.iload 4, 2) := by decide +kernel
theorem dX7_chain_124 : decode cX7_chain 124 = .ok (.iconst 1, 1) := by decide +kernel
theorem dX7_chain_125 : decode cX7_chain 125 = .ok (.isub, 1) := by decide +kernel
theorem dX7_chain_126 : decode cX7_chain 126 = .ok (.goto 6, 3) := by decide +kernel
theorem dX7_chain_129 : decode cX7_chain 129 = .ok (.iload 4, 2) := by decide +kernel
theorem dX7_chain_131 : decode cX7_chain 131 = .ok (.ineg, 1) := by decide +kernel
theorem dX7_chain_132 : decode cX7_chain 132 = .ok (.istore 10, 2) := by decide +kernel
theorem dX7_chain_134 : decode cX7_chain 134 = .ok (.iconst 0, 1) := by decide +kernel
theorem dX7_chain_135 : decode cX7_chain 135 = .ok (.istore 11, 2) := by decide +kernel
theorem dX7_chain_137 : decode cX7_chain 137 = .ok (.iload 11, 2) := by decide +kernel
theorem dX7_chain_139 : decode cX7_chain 139 = .ok (.iload 10, 2) := by decide +kernel
theorem dX7_chain_141 : decode cX7_chain 141 = .ok (.if_icmp .ge 79, 3) := by decide +kernel
theorem dX7_chain_144 : decode cX7_chain 144 = .ok (.aload_n 0, 1) := by decide +kernel
theorem dX7_chain_145 : decode cX7_chain 145 = .ok (.iload 9, 2) := by decide +kernel
theorem dX7_chain_147 : decode cX7_chain 147 = .ok (.invokevirtual 124, 3) := by decide +kernel
theorem dX7_chain_150 : decode cX7_chain 150 = .ok (.iconst 3, 1) := by decide +kernel
theorem dX7_chain_151 : decode cX7_chain 151 = .ok (.iload 9, 2) := by decide +kernel
theorem dX7_chain_153 : decode cX7_chain 153 = .ok (.imul, 1) := by decide +kernel
theorem dX7_chain_154 : decode cX7_chain 154 = .ok (.istore 12, 2) := by decide +kernel
theorem dX7_chain_156 : decode cX7_chain 156 = .ok (.aload_n 0, 1) := by decide +kernel
theorem dX7_chain_157 : decode cX7_chain 157 = .ok (.getfield 26, 3) := by decide +kernel
theorem dX7_chain_160 : decode cX7_chain 160 = .ok (.iload 12, 2) := by decide +kernel
theorem dX7_chain_162 : decode cX7_chain 162 = .ok (.laload, 1) := by decide +kernel
theorem dX7_chain_163 : decode cX7_chain 163 = .ok (.invokestatic 90, 3) := by decide +kernel
theorem dX7_chain_166 : decode cX7_chain 166 = .ok (.ifCond .eq 33, 3) := by decide +kernel
theorem dX7_chain_169 : decode cX7_chain 169 = .ok (.aload_n 0, 1) := by decide +kernel
theorem dX7_chain_170 : decode cX7_chain 170 = .ok (.getfield 26, 3) := by decide +kernel
theorem dX7_chain_173 : decode cX7_chain 173 = .ok (.iload 12, 2) := by decide +kernel
theorem dX7_chain_175 : decode cX7_chain 175 = .ok (.iconst 1, 1) := by decide +kernel
theorem dX7_chain_176 : decode cX7_chain 176 = .ok (.iadd, 1) := by decide +kernel
theorem dX7_chain_177 : decode cX7_chain 177 = .ok (.laload, 1) := by decide +kernel
theorem dX7_chain_178 : decode cX7_chain 178 = .ok (.invokestatic 94, 3) := by decide +kernel
theorem dX7_chain_181 : decode cX7_chain 181 = .ok (.ifCond .eq 18, 3) := by decide +kernel
theorem dX7_chain_184 : decode cX7_chain 184 = .ok (.aload_n 0, 1) := by decide +kernel
theorem dX7_chain_185 : decode cX7_chain 185 = .ok (.getfield 26, 3) := by decide +kernel
theorem dX7_chain_188 : decode cX7_chain 188 = .ok (.iload 12, 2) := by decide +kernel
theorem dX7_chain_190 : decode cX7_chain 190 = .ok (.iconst 2, 1) := by decide +kernel
theorem dX7_chain_191 : decode cX7_chain 191 = .ok (.iadd, 1) := by decide +kernel
theorem dX7_chain_192 : decode cX7_chain 192 = .ok (.laload, 1) := by decide +kernel
theorem dX7_chain_193 : decode cX7_chain 193 = .ok (.invokestatic 94, 3) := by decide +kernel
theorem dX7_chain_196 : decode cX7_chain 196 = .ok (.ifCond .ne 6, 3) := by decide +kernel
theorem dX7_chain_199 : decode cX7_chain 199 = .ok (.ldc 194, 2) := by decide +kernel
theorem dX7_chain_201 : decode cX7_chain 201 = .ok (.ireturn, 1) := by decide +kernel
theorem dX7_chain_202 : decode cX7_chain 202 = .ok (.iload 8, 2) := by decide +kernel
theorem dX7_chain_204 : decode cX7_chain 204 = .ok (.istore 13, 2) := by decide +kernel
theorem dX7_chain_206 : decode cX7_chain 206 = .ok (.iload 9, 2) := by decide +kernel
theorem dX7_chain_208 : decode cX7_chain 208 = .ok (.istore 8, 2) := by decide +kernel
theorem dX7_chain_210 : decode cX7_chain 210 = .ok (.iload 13, 2) := by decide +kernel
theorem dX7_chain_212 : decode cX7_chain 212 = .ok (.istore 9, 2) := by decide +kernel
theorem dX7_chain_214 : decode cX7_chain 214 = .ok (.iinc 11 1, 3) := by decide +kernel
theorem dX7_chain_217 : decode cX7_chain 217 = .ok (.goto (-80), 3) := by decide +kernel
theorem dX7_chain_220 : decode cX7_chain 220 = .ok (.aload_n 0, 1) := by decide +kernel
theorem dX7_chain_221 : decode cX7_chain 221 = .ok (.getfield 26, 3) := by decide +kernel
theorem dX7_chain_224 : decode cX7_chain 224 = .ok (.iconst 3, 1) := by decide +kernel
theorem dX7_chain_225 : decode cX7_chain 225 = .ok (.iload 8, 2) := by decide +kernel
theorem dX7_chain_227 : decode cX7_chain 227 = .ok (.imul, 1) := by decide +kernel
theorem dX7_chain_228 : decode cX7_chain 228 = .ok (.iload 5, 2) := by decide +kernel
theorem dX7_chain_230 : decode cX7_chain 230 = .ok (.iadd, 1) := by decide +kernel
theorem dX7_chain_231 : decode cX7_chain 231 = .ok (.laload, 1) := by decide +kernel
theorem dX7_chain_232 : decode cX7_chain 232 = .ok (.l2i, 1) := by decide +kernel
theorem dX7_chain_233 : decode cX7_chain 233 = .ok (.ireturn, 1) := by decide +kernel
theorem dX7_count_0 : decode cX7_count 0 = .ok (.iload_n 1, 1) := by decide +kernel
theorem dX7_count_1 : decode cX7_count 1 = .ok (.ifCond .ne 10, 3) := by decide +kernel
theorem dX7_count_4 : decode cX7_count 4 = .ok (.aload_n 0, 1) := by decide +kernel
theorem dX7_count_5 : decode cX7_count 5 = .ok (.getfield 79, 3) := by decide +kernel
theorem dX7_count_8 : decode cX7_count 8 = .ok (.goto 28, 3) := by decide +kernel
theorem dX7_count_11 : decode cX7_count 11 = .ok (.iload_n 1, 1) := by decide +kernel
theorem dX7_count_12 : decode cX7_count 12 = .ok (.iconst 1, 1) := by decide +kernel
theorem dX7_count_13 : decode cX7_count 13 = .ok (.if_icmp .ne 10, 3) := by decide +kernel
theorem dX7_count_16 : decode cX7_count 16 = .ok (.aload_n 0, 1) := by decide +kernel
theorem dX7_count_17 : decode cX7_count 17 = .ok (.getfield 171, 3) := by decide +kernel
theorem dX7_count_20 : decode cX7_count 20 = .ok (.goto 16, 3) := by decide +kernel
theorem dX7_count_23 : decode cX7_count 23 = .ok (.iload_n 1, 1) := by decide +kernel
theorem dX7_count_24 : decode cX7_count 24 = .ok (.iconst 2, 1) := by decide +kernel
theorem dX7_count_25 : decode cX7_count 25 = .ok (.if_icmp .ne 10, 3) := by decide +kernel
theorem dX7_count_28 : decode cX7_count 28 = .ok (.aload_n 0, 1) := by decide +kernel
theorem dX7_count_29 : decode cX7_count 29 = .ok (.getfield 174, 3) := by decide +kernel
theorem dX7_count_32 : decode cX7_count 32 = .ok (.goto 4, 3) := by decide +kernel
theorem dX7_count_35 : decode cX7_count 35 = .ok (.iconst (-1), 1) := by decide +kernel
theorem dX7_count_36 : decode cX7_count 36 = .ok (.ireturn, 1) := by decide +kernel
end
section
/-! V: the machine over a total map M of the cells made since the start; locals as a list by places -/
abbrev Mem : Type := Nat → Option va_E
abbrev GP : Type := Launch × va_G × (Nat → ClassId) × Nat × Nat
abbrev CX : Type := Program × Env × Room × State × MethodId × Array Value × List Frame × Method × Code
abbrev gl (G : GP) : Launch := G.1
abbrev gD (G : GP) : va_G := G.2.1
abbrev gT (G : GP) : Nat → ClassId := G.2.2.1
abbrev gB (G : GP) : Nat := G.2.2.2.1
abbrev gw (G : GP) : Nat := G.2.2.2.2
abbrev xp (X : CX) : Program := X.1
abbrev xe (X : CX) : Env := X.2.1
abbrev xR (X : CX) : Room := X.2.2.1
abbrev xs (X : CX) : State := X.2.2.2.1
abbrev xm (X : CX) : MethodId := X.2.2.2.2.1
abbrev xa (X : CX) : Array Value := X.2.2.2.2.2.1
abbrev xb (X : CX) : List Frame := X.2.2.2.2.2.2.1
abbrev xmeth (X : CX) : Method := X.2.2.2.2.2.2.2.1
abbrev xc (X : CX) : Code := X.2.2.2.2.2.2.2.2
def mset (M : Mem) (a : Nat) (e : va_E) : Mem := fun b => if b = a then some e else M b
theorem mset_eq (M : Mem) (a : Nat) (e : va_E) : mset M a e a = some e := by simp [mset]
theorem mset_ne (M : Mem) {a b : Nat} (e : va_E) (h : b ≠ a) : mset M a e b = M b := by simp [mset, h]
abbrev eI (T : Nat → ClassId) (n : Nat) (f : Nat → Int32) : va_E := .inl (T 0, n, .inl f)
abbrev eJ (T : Nat → ClassId) (n : Nat) (f : Nat → Int64) : va_E := .inl (T 1, n, .inr (.inl f))
abbrev eQ (T : Nat → ClassId) (k n : Nat) (f : Nat → Option Nat) : va_E := .inl (T k, n, .inr (.inr (.inr (.inr f))))
abbrev eO (ci : Nat) (fs : List Value) : va_E := .inr (ci, fs)
def tysOf (T : Nat → ClassId) : List (ClassId × FieldType) := [(T 0, .int), (T 1, .long), (T 2, .object "TouchingCoins$Bag"), (T 3, .object "TouchingCoins$Quad"), (T 4, .object "TouchingCoins$Four"), (T 5, .array .long)]
def wt (j : Nat) : Int32 := if j = 0 then 1 else if j = 1 then 24 else if j = 2 then 576 else 13824
def mem (G : GP) (M : Mem) (n : Option Nat) (H : Heap) : Prop := (∀ k, n = some k → H.size = k) ∧ ∀ a e, M a = some e → gB G ≤ a ∧ va_at (gD G) vwCl (a, e) H
def isNest : Cond → Bool
  | .methodLinkNest .. => true
  | _ => false
def gtbl : List Cond := lw_tbl.filter goodWord
def nlist : List Cond := lw_tbl.filter isNest
theorem gt {w : Cond} (h : w ∈ lw_tbl) (hg : goodWord w = true) : w ∈ gtbl := List.mem_filter.mpr ⟨h, hg⟩
theorem nt {w : Cond} (h : w ∈ lw_tbl) (hg : isNest w = true) : w ∈ nlist := List.mem_filter.mpr ⟨h, hg⟩
def va_AL (U : State) : Prop := (Cond.arrayOver (.array .long)).before #[] U = true
theorem va_AL.use {A : Array Value} {U : State} (h : va_AL U) : (Cond.arrayOver (.array .long)).before A U = true := h
theorem va_AL.moved {u U : State} (hvm : u.vm.Alike U.vm) (h : va_AL u) : va_AL U := by
  have h0 := h
  obtain ⟨comp, c, k, h1, h3, h4, h5⟩ := Cond.arrayOver_specA h
  unfold va_AL Cond.before at h0
  simp only [Cond.holds, Cond.value, beq_iff_eq] at h0
  simp only [h1, Option.bind_some, Option.bind_eq_some_iff, Option.map_eq_some_iff] at h0
  obtain ⟨c', hi', k2, hk2, hb⟩ := h0
  have hcc : c' = c := by
    cases hkd : k2.kind with
    | array c2 ty =>
      rw [hkd] at hb
      simp at hb
      have := hb.2
      rw [h5] at this
      exact (Option.some.inj this).symm
    | _ => rw [hkd] at hb; simp at hb
  subst hcc
  have h2 : (u.vm.classes.findIdx? fun (x : Class) => match x.kind with | .array component _ => component == comp | _ => false) = some c' := hi'
  obtain ⟨k', hk', he⟩ := hvm.2.2 _ _ h3
  have hi : (U.vm.classes.findIdx? fun (x : Class) => match x.kind with | .array component _ => component == comp | _ => false) = some c' := by
    refine (va_idx_bare U.vm comp).symm.trans ?_
    first | rw [hvm.bare_eq] | rw [← hvm.bare_eq]
    exact (va_idx_bare u.vm comp).trans h2
  have hkind : k'.kind = .array comp (.array .long) := by rw [he]; exact h4
  have f1 : U.vm.findClass (FieldType.array .long).toString = some comp := by rw [hvm.findClass]; exact h1
  have f2 : U.vm.findClass ("[" ++ (FieldType.array .long).toString) = some c' := by rw [hvm.findClass]; exact h5
  unfold va_AL Cond.before Cond.holds
  simp only [Cond.value]
  rw [f1, Option.bind_some]
  refine (congrArg (fun o : Option Nat => (o.bind (fun c => (U.vm.classes[c]?).map fun (k : Class) => match k.kind with | .array _ ty => decide (ty = FieldType.array .long) && decide (U.vm.findClass ("[" ++ (FieldType.array .long).toString) = some c) | _ => false) == some true)) hi).trans ?_
  simp [hk', hkind, f2]
def nst (U : State) : Prop := (∀ w ∈ nlist, va_Nw w U) ∧ va_AO "TouchingCoins$Bag" U ∧ va_AO "TouchingCoins$Quad" U ∧ va_AO "TouchingCoins$Four" U ∧ va_AL U
theorem nst.same {u U : State} (hv : u.vm = U.vm) (h : nst u) : nst U := ⟨fun w hw => va_Nw.same (by
    have := (List.mem_filter.mp hw).2
    cases w <;> first | rfl | simp [isNest] at this) hv (h.1 w hw), va_AO.moved (by rw [hv]; exact Vm.Alike.refl _) h.2.1, va_AO.moved (by rw [hv]; exact Vm.Alike.refl _) h.2.2.1, va_AO.moved (by rw [hv]; exact Vm.Alike.refl _) h.2.2.2.1, va_AL.moved (by rw [hv]; exact Vm.Alike.refl _) h.2.2.2.2⟩
theorem nst.warm {s U : State} (hW : s.WarmedH U.vm) (h : nst s) : nst U := ⟨fun w hw => by
    have := (List.mem_filter.mp hw).2
    have h1 := h.1 w hw
    cases w <;> first | exact va_Nw.warmM hW h1 | simp [isNest] at this, va_AO.moved hW.alike h.2.1, va_AO.moved hW.alike h.2.2.1, va_AO.moved hW.alike h.2.2.2.1, va_AL.moved hW.alike h.2.2.2.2⟩
def stat (G : GP) (U : State) (H : Heap) : Prop := va_Z "TouchingCoins$Remainders" "WEIGHT" "[I" (.ref (gw G)) (fun q => gB G ≤ q) U H ∧ va_T .int (gw G) 4 (fun j => .int (wt j)) (fun q => gB G ≤ q) U H
theorem stat.moved {G : GP} {u U : State} {H : Heap} (hv : u.vm.Alike U.vm) (h : stat G u H) : stat G U H := ⟨va_Z.moved hv h.1, va_T.moved hv h.2⟩
theorem stat.kept {G : GP} {U : State} {H H1 : Heap} (h : stat G U H) (hq : ∀ a : Nat, a < H.size → ¬ (fun q => gB G ≤ q) a → H1[a]? = H[a]?) : stat G U H1 := ⟨va_Z.kept h.1 hq, va_T.kept h.2 hq⟩
def ln : List (Option Value) → Nat → Option Value
  | [], _ => none
  | v :: _, 0 => v
  | _ :: l, n + 1 => ln l n
def lset : List (Option Value) → Nat → Option Value → List (Option Value)
  | [], _, _ => []
  | _ :: l, 0, v => v :: l
  | w :: l, n + 1, v => w :: lset l n v
def lclr1 (L : List (Option Value)) (j : Nat) : List (Option Value) := match ln L j with
  | some (.long _) => lset L j none
  | some (.double _) => lset L j none
  | _ => L
def lclr (L : List (Option Value)) : Nat → List (Option Value)
  | 0 => L
  | j + 1 => lclr1 L j
def st1 (L : List (Option Value)) (i : Nat) (v : Value) : List (Option Value) := lset (lclr L i) i (some v)
def st2 (L : List (Option Value)) (i : Nat) (v : Value) : List (Option Value) := lset (lset (lclr L i) i (some v)) (i + 1) none
theorem lset_len (L : List (Option Value)) (i : Nat) (v : Option Value) : (lset L i v).length = L.length := by
  induction L generalizing i with
  | nil => rfl
  | cons w l ih => cases i with
    | zero => rfl
    | succ i => simp [lset, ih]
theorem lset_ln (L : List (Option Value)) (i j : Nat) (v : Option Value) (w : Value) (h : ln (lset L i v) j = some w) : (j = i ∧ v = some w) ∨ (j ≠ i ∧ ln L j = some w) := by
  induction L generalizing i j with
  | nil => simp [lset, ln] at h
  | cons x l ih => cases i with
    | zero => cases j with
      | zero => exact Or.inl ⟨rfl, h⟩
      | succ j => exact Or.inr ⟨by simp, h⟩
    | succ i => cases j with
      | zero => exact Or.inr ⟨by simp, h⟩
      | succ j =>
        rcases ih i j h with ⟨a, b⟩ | ⟨a, b⟩
        · exact Or.inl ⟨by rw [a], b⟩
        · exact Or.inr ⟨by omega, b⟩
theorem lclr_len (L : List (Option Value)) (i : Nat) : (lclr L i).length = L.length := by
  cases i with
  | zero => rfl
  | succ j =>
    show (lclr1 L j).length = _
    unfold lclr1
    split <;> first | rfl | exact lset_len _ _ _
theorem lclr_ln (L : List (Option Value)) (i j : Nat) (w : Value) (h : ln (lclr L i) j = some w) : ln L j = some w ∧ ¬ (j + 1 = i ∧ w.category = 2) := by
  cases i with
  | zero => exact ⟨h, fun q => by have := q.1; omega⟩
  | succ k =>
    have h : ln (lclr1 L k) j = some w := h
    unfold lclr1 at h
    split at h
    · rcases lset_ln _ _ _ _ _ h with ⟨a, b⟩ | ⟨a, b⟩
      · cases b
      · exact ⟨b, fun q => a (by have := q.1; omega)⟩
    · rcases lset_ln _ _ _ _ _ h with ⟨a, b⟩ | ⟨a, b⟩
      · cases b
      · exact ⟨b, fun q => a (by have := q.1; omega)⟩
    · rename_i h1 h2
      refine ⟨h, fun q => ?_⟩
      have e : j = k := by have := q.1; omega
      subst e
      have q2 := q.2
      have h : ln L j = some w := by first | exact h | assumption
      cases w with
      | long x => exact h1 x h
      | double x => exact h2 x h
      | _ => simp [Value.category] at q2
theorem st1_len (L : List (Option Value)) (i : Nat) (v : Value) : (st1 L i v).length = L.length := by unfold st1; rw [lset_len, lclr_len]
theorem st2_len (L : List (Option Value)) (i : Nat) (v : Value) : (st2 L i v).length = L.length := by unfold st2; rw [lset_len, lset_len, lclr_len]
def asl (L : List (Option Value)) : List (Nat × Value) := (List.range L.length).filterMap fun i => (ln L i).map fun v => (i, v)
theorem ln_lt {L : List (Option Value)} {i : Nat} {v : Value} (h : ln L i = some v) : i < L.length := by
  induction L generalizing i with
  | nil => simp [ln] at h
  | cons w l ih => cases i with
    | zero => simp
    | succ i => have := ih h; simp; omega
theorem mem_asl {L : List (Option Value)} {i : Nat} {v : Value} : (i, v) ∈ asl L ↔ ln L i = some v := by
  unfold asl
  rw [List.mem_filterMap]
  constructor
  · rintro ⟨j, hj, he⟩
    cases hl : ln L j with
    | none => rw [hl] at he; cases he
    | some w => rw [hl] at he; cases he; exact hl
  · intro h
    exact ⟨i, List.mem_range.mpr (ln_lt h), by rw [h]; rfl⟩
def hasL (ls : Array Slot) (L : List (Option Value)) : Prop := lv_has ls L.length (asl L)
theorem hasL.get {ls : Array Slot} {L : List (Option Value)} (h : hasL ls L) {i : Nat} {v : Value} (hl : ln L i = some v) : ls[i]? = some (.val v) := h.2.2 (i, v) (mem_asl.mpr hl)
theorem hasL.s1 {ls : Array Slot} {L : List (Option Value)} {i : Nat} {v : Value} (h : lv_has ls L.length ((i, v) :: (asl L).filter (fun q => !(q.1 == i) && !(q.1 + 1 == i && q.2.category == 2)))) : hasL ls (st1 L i v) := by
  refine ⟨by rw [st1_len]; exact h.1, h.2.1, fun q hq => ?_⟩
  obtain ⟨j, w⟩ := q
  have hq := mem_asl.mp hq
  refine h.2.2 _ ?_
  rcases lset_ln _ _ _ _ _ hq with ⟨a, b⟩ | ⟨a, b⟩
  · cases b; subst a; exact List.mem_cons_self
  · obtain ⟨c, d⟩ := lclr_ln _ _ _ _ b
    refine List.mem_cons_of_mem _ (List.mem_filter.mpr ⟨mem_asl.mpr c, ?_⟩)
    by_cases h1 : j + 1 = i
    · have h2 : ¬ w.category = 2 := fun z => d ⟨h1, z⟩
      simp [a, h2]
    · simp [a, h1]
theorem hasL.s2 {ls : Array Slot} {L : List (Option Value)} {i : Nat} {v : Value} (h : lv_has ls L.length ((i, v) :: (asl L).filter (fun q => !(q.1 == i) && (!(q.1 == i + 1) && !(q.1 + 1 == i && q.2.category == 2))))) : hasL ls (st2 L i v) := by
  refine ⟨by rw [st2_len]; exact h.1, h.2.1, fun q hq => ?_⟩
  obtain ⟨j, w⟩ := q
  have hq := mem_asl.mp hq
  refine h.2.2 _ ?_
  rcases lset_ln _ _ _ _ _ hq with ⟨a, b⟩ | ⟨a0, b⟩
  · cases b
  · rcases lset_ln _ _ _ _ _ b with ⟨a, b⟩ | ⟨a, b⟩
    · cases b; subst a; exact List.mem_cons_self
    · obtain ⟨c, d⟩ := lclr_ln _ _ _ _ b
      refine List.mem_cons_of_mem _ (List.mem_filter.mpr ⟨mem_asl.mpr c, ?_⟩)
      by_cases h1 : j + 1 = i
      · have h2 : ¬ w.category = 2 := fun z => d ⟨h1, z⟩
        simp [a, a0, h2]
      · simp [a, a0, h1]
def V (G : GP) (X : CX) (cells slots : Nat) (Q : State → Prop) (M : Mem) (n : Option Nat) (pc : Nat) (L : List (Option Value)) (st : List Value) : Prop :=
  ∀ (H : Heap) (locs : List Loc) (ls : Array Slot), mem G M n H → va_S (fun q => gB G ≤ q) (xs X).heap H locs → hasL ls L → L.length = (xc X).maxLocals →
    W (xp X) (gl G) (xe X) (xR X) (xs X) (xm X) (xa X) (xb X) (xmeth X) (xc X) H locs cells slots Q (F0 (xm X) pc ls st)
def FX (G : GP) (X : CX) (own : String) (cc : ByteArray) (ret : Option FieldType) (d rc rs : Nat) : Prop :=
  (xp X).tables.exec = Jvm.exec ∧ (xc X).code = cc ∧ (xmeth X).sig.returnType = ret ∧ (xmeth X).locks = false ∧ (xs X).vm.findClass own = some (xm X).cls ∧ (∀ w ∈ gtbl, w.before (xa X) (xs X) = true) ∧ va_K (gD G) vwCl (tysOf (gT G)) (xs X) ∧ stat G (xs X) (xs X).heap ∧ nst (xs X) ∧ gB G ≤ (xs X).heap.size ∧ d ≤ (xR X).frames ∧ 36 * d ≤ (xR X).locals ∧ rc ≤ (xR X).cells ∧ rs ≤ (xR X).slots
abbrev FX.x {G : GP} {X : CX} {own : String} {cc : ByteArray} {ret : Option FieldType} {d rc rs : Nat} (F : FX G X own cc ret d rc rs) := F.1
abbrev FX.b {G : GP} {X : CX} {own : String} {cc : ByteArray} {ret : Option FieldType} {d rc rs : Nat} (F : FX G X own cc ret d rc rs) := F.2.1
abbrev FX.r {G : GP} {X : CX} {own : String} {cc : ByteArray} {ret : Option FieldType} {d rc rs : Nat} (F : FX G X own cc ret d rc rs) := F.2.2.1
abbrev FX.k {G : GP} {X : CX} {own : String} {cc : ByteArray} {ret : Option FieldType} {d rc rs : Nat} (F : FX G X own cc ret d rc rs) := F.2.2.2.1
abbrev FX.o {G : GP} {X : CX} {own : String} {cc : ByteArray} {ret : Option FieldType} {d rc rs : Nat} (F : FX G X own cc ret d rc rs) := F.2.2.2.2.1
abbrev FX.t {G : GP} {X : CX} {own : String} {cc : ByteArray} {ret : Option FieldType} {d rc rs : Nat} (F : FX G X own cc ret d rc rs) := F.2.2.2.2.2.1
abbrev FX.K {G : GP} {X : CX} {own : String} {cc : ByteArray} {ret : Option FieldType} {d rc rs : Nat} (F : FX G X own cc ret d rc rs) := F.2.2.2.2.2.2.1
abbrev FX.s {G : GP} {X : CX} {own : String} {cc : ByteArray} {ret : Option FieldType} {d rc rs : Nat} (F : FX G X own cc ret d rc rs) := F.2.2.2.2.2.2.2.1
abbrev FX.n {G : GP} {X : CX} {own : String} {cc : ByteArray} {ret : Option FieldType} {d rc rs : Nat} (F : FX G X own cc ret d rc rs) := F.2.2.2.2.2.2.2.2.1
abbrev FX.B {G : GP} {X : CX} {own : String} {cc : ByteArray} {ret : Option FieldType} {d rc rs : Nat} (F : FX G X own cc ret d rc rs) := F.2.2.2.2.2.2.2.2.2.1
abbrev FX.d {G : GP} {X : CX} {own : String} {cc : ByteArray} {ret : Option FieldType} {d rc rs : Nat} (F : FX G X own cc ret d rc rs) := F.2.2.2.2.2.2.2.2.2.2
def Pre (G : GP) (M : Mem) (n : Option Nat) (U : State) : Prop := mem G M n U.heap ∧ va_K (gD G) vwCl (tysOf (gT G)) U ∧ stat G U U.heap ∧ nst U ∧ gB G ≤ U.heap.size
def QQ (G : GP) (post : Option Value → Mem → Option Nat → Prop) : Array Value → State → Outcome → State → Prop := fun _ st oc t => ∃ (v : Option Value) (M' : Mem) (n' : Option Nat), oc = .returned v ∧ post v M' n' ∧ mem G M' n' t.heap ∧ va_F (fun q => gB G ≤ q) st t
def Con (G : GP) (y : MethodName) (cd : ByteArray) (mL : Nat) (rt : Option FieldType) (d mc ms : Nat) (av : List Value) (M : Mem) (n : Option Nat) (post : Option Value → Mem → Option Nat → Prop) : Prop :=
  Met (gl G) y (Cond.code y cd mL rt :: gtbl) { frames := d, cells := mc, slots := ms, locals := 36 * d } (va_Pc av (Pre G M n)) (QQ G post) mc ms (fun q => gB G ≤ q)
def BQ (G : GP) (X : CX) (post : Option Value → Mem → Option Nat → Prop) (mc ms : Nat) : State → Prop := MQ (xb X) (QQ G post) (xa X) (xs X) mc ms (fun q => gB G ≤ q)
def R1 (v : Option Value) (M : Mem) (n : Option Nat) : Option Value → Mem → Option Nat → Prop := fun v' M' n' => v' = v ∧ M' = M ∧ n' = n
def entL : List Value → Nat → List (Option Value)
  | [], k => List.replicate k none
  | .long x :: vs, k => some (.long x) :: none :: entL vs (k - 2)
  | .double x :: vs, k => some (.double x) :: none :: entL vs (k - 2)
  | v :: vs, k => some v :: entL vs (k - 1)
theorem ln_none (k i : Nat) : ln (List.replicate k none) i = none := by
  induction k generalizing i with
  | zero => rfl
  | succ k ih => cases i with
    | zero => rfl
    | succ i => exact ih i
theorem entL_ln (vs : List Value) : ∀ (k b i : Nat) (w : Value), ln (entL vs k) i = some w → (b + i, w) ∈ lv_args b vs := by
  induction vs with
  | nil => intro k b i w h; rw [entL, ln_none] at h; cases h
  | cons v vs ih =>
    intro k b i w h
    have one : ∀ k', ln (some v :: entL vs k') i = some w → v.category ≠ 2 → (b + i, w) ∈ lv_args b (v :: vs) := by
      intro k' h hc
      unfold lv_args
      rw [if_neg hc]
      cases i with
      | zero => cases h; exact List.mem_cons_self
      | succ i => have := ih k' (b + 1) i w h; rw [show b + 1 + i = b + (i + 1) by omega] at this; exact List.mem_cons_of_mem _ this
    have two : ∀ k', ln (some v :: none :: entL vs k') i = some w → v.category = 2 → (b + i, w) ∈ lv_args b (v :: vs) := by
      intro k' h hc
      unfold lv_args
      rw [if_pos hc]
      cases i with
      | zero => cases h; exact List.mem_cons_self
      | succ i => cases i with
        | zero => cases h
        | succ i => have := ih k' (b + 2) i w h; rw [show b + 2 + i = b + (i + 1 + 1) by omega] at this; exact List.mem_cons_of_mem _ this
    cases v <;> first | exact two _ h rfl | exact one _ h (by decide) | exact one _ h (by simp [Value.category])
theorem entL_len (vs : List Value) : ∀ k, (lg_sl vs).length ≤ k → (entL vs k).length = k := by
  induction vs with
  | nil => intro k _; simp [entL]
  | cons v vs ih =>
    intro k h
    have e : lg_sl (v :: vs) = (if v.category = 2 then [.val v, .second] else [.val v]) ++ lg_sl vs := rfl
    rw [e, List.length_append] at h
    cases v <;> simp [Value.category] at h <;> simp only [entL, List.length_cons] <;> rw [ih _ (by omega)] <;> omega
theorem tbl_good : ∀ w ∈ gtbl, (w.onTables && w.keeps) = true ∨ ∃ ty, w = .arrayClass ty := fun w h => good_of_word (List.mem_filter.mp h).2
theorem tbl_in {ws : List Cond} (h : ∀ w ∈ ws, w ∈ gtbl) : GoodIn gtbl ws := fun w hw => ⟨h w hw, tbl_good w (h w hw)⟩
theorem Pre.blind {G : GP} {M : Mem} {n : Option Nat} {av : List Value} : FrameBlind (va_Pc av (Pre G M n)) := fun a U g mk q => by
  obtain ⟨q0, q1, q2, q3, q5, q4⟩ := q
  exact ⟨q0, q1, va_K.moved (u := U) (U := U.calling g mk a) (Vm.Alike.refl U.vm) q2, stat.moved (u := U) (U := U.calling g mk a) (Vm.Alike.refl U.vm) q3, nst.same (u := U) (U := U.calling g mk a) rfl q5, q4⟩
theorem Con.of {G : GP} {y : MethodName} {cd : ByteArray} {mL : Nat} {rt : Option FieldType} {d mc ms : Nat} {av : List Value} {M : Mem} {n : Option Nat} {post : Option Value → Mem → Option Nat → Prop} (hp : plainName y.cls = true) (hlen : (lg_sl av).length ≤ mL)
    (k : ∀ X : CX, FX G X y.cls cd rt d mc ms → (xmeth X).name = y.name → V G X 0 0 (BQ G X post mc ms) M n 0 (entL av mL) []) : Con G y cd mL rt d mc ms av M n post := by
  refine Met.ofW (cc := cd) (maxL := mL) (ret := rt) hp rfl ?_
  intro p e s m args below meth c s₁ B hml hv
  obtain ⟨rfl, hm, hK, hst, hns, hB⟩ := hv
  have hts := atoms_spec (ws := Cond.code y cd mL rt :: gtbl) B.pre
  have hown : s.vm.findClass y.cls = some m.cls := findClass_of_methodNamed B.named
  have hk := k (p, e, { frames := d, cells := mc, slots := ms, locals := 36 * d }, s, m, av.toArray, below, meth, c) ⟨B.exec, B.bytes, B.returns, B.notSynchronized, hown, fun w hw => hts w (List.mem_cons_of_mem _ hw), hK, hst, hns, hB, Nat.le_refl _, Nat.le_refl _, Nat.le_refl _, Nat.le_refl _⟩ (name_of_methodNamed B.named B.method).1
  rw [lg_entry_eq]
  have hl := lv_entry av (n := mL) hlen
  refine hk s.heap [] _ hm va_S.rf ?_ (by rw [entL_len _ _ hlen]; exact hml.symm)
  refine ⟨by rw [entL_len _ _ hlen]; exact hl.1, hl.2.1, fun q hq => ?_⟩
  obtain ⟨i, w⟩ := q
  have := entL_ln av mL 0 i w (mem_asl.mp hq)
  rw [Nat.zero_add] at this
  exact hl.2.2 _ this
theorem Con.imp {G : GP} {y : MethodName} {cd : ByteArray} {mL : Nat} {rt : Option FieldType} {d mc ms : Nat} {av : List Value} {M : Mem} {n : Option Nat} {post post' : Option Value → Mem → Option Nat → Prop} (h : Con G y cd mL rt d mc ms av M n post) (hi : ∀ v M' n', post v M' n' → post' v M' n') : Con G y cd mL rt d mc ms av M n post' := by
  unfold Con Met MetFree at *
  intro p e ha hc hk s m args below hf happ hP hK
  obtain ⟨k, oc, h1, h2, h3, ⟨⟨v, M', n', e1, e2, e3, e4⟩, h5⟩⟩ := h p e ha hc hk s m args below hf happ hP hK
  exact ⟨k, oc, h1, h2, h3, ⟨v, M', n', e1, hi _ _ _ e2, e3, e4⟩, h5⟩
def FL (own : String) (idx ci k : Nat) (C : String) (T : u_T) (N : Nat) (ty : FieldType) (fin : Bool) : Prop := vwCl[ci]? = some (C, T, N) ∧ k < N ∧ Cond.fieldLink own idx (T k).1 (T k).2.1 (T k).2.2.1 ∈ gtbl ∧ parseFieldDescriptor (T k).2.2.1 = some ty ∧ (T k).2.2.2 = fin
def IV (own : String) (idx : Nat) (y : MethodName) (cd : ByteArray) (mL : Nat) (rt : Option FieldType) (na : Nat) : Prop := Cond.methodLink own idx y ∈ gtbl ∧ Cond.instanceMethod y ∈ gtbl ∧ Cond.selects y.cls y y ∈ gtbl ∧ Cond.initialized y.cls ∈ gtbl ∧ Cond.code y cd mL rt ∈ gtbl ∧ (y.cls ≠ "java/lang/invoke/MethodHandle" ∧ y.cls ≠ "java/lang/invoke/VarHandle" ∧ (parseMethodDescriptor y.desc).map (fun d => d.parameters.length) = some na)
def IS (own : String) (idx : Nat) (y : MethodName) (cd : ByteArray) (mL : Nat) (rt : Option FieldType) (na : Nat) : Prop := Cond.methodLink own idx y ∈ gtbl ∧ Cond.static y ∈ gtbl ∧ Cond.initialized y.cls ∈ gtbl ∧ Cond.code y cd mL rt ∈ gtbl ∧ (y.cls ≠ "java/lang/invoke/MethodHandle" ∧ y.cls ≠ "java/lang/invoke/VarHandle" ∧ (parseMethodDescriptor y.desc).map (fun d => d.parameters.length) = some na)
def IC (own : String) (idx : Nat) (y : MethodName) (cd : ByteArray) (mL : Nat) (na : Nat) : Prop := Cond.methodLink own idx y ∈ gtbl ∧ Cond.instanceMethod y ∈ gtbl ∧ Cond.initialized y.cls ∈ gtbl ∧ Cond.code y cd mL none ∈ gtbl ∧ (y.name = "<init>" ∧ y.cls ≠ "java/lang/invoke/MethodHandle" ∧ y.cls ≠ "java/lang/invoke/VarHandle" ∧ (parseMethodDescriptor y.desc).map (fun d => d.parameters.length) = some na)
def IK (own : String) (idx : Nat) (y : MethodName) (host : String) (cd : ByteArray) (mL : Nat) (na : Nat) : Prop := Cond.methodLinkNest own idx y host ∈ nlist ∧ Cond.instanceMethod y ∈ gtbl ∧ Cond.initialized y.cls ∈ gtbl ∧ Cond.code y cd mL none ∈ gtbl ∧ (y.name = "<init>" ∧ y.cls ≠ "java/lang/invoke/MethodHandle" ∧ y.cls ≠ "java/lang/invoke/VarHandle" ∧ (parseMethodDescriptor y.desc).map (fun d => d.parameters.length) = some na)
def clsOk (q : vw_C) : Prop := (∀ w ∈ u_ws q.1 q.2.1 q.2.2, w ∈ gtbl) ∧ (∃ ty : Nat → FieldType, ∀ k, k < q.2.2 → parseFieldDescriptor (q.2.1 k).2.2.1 = some (ty k)) ∧ ∀ a, a < q.2.2 → ∀ b, b < q.2.2 → a ≠ b → (q.2.1 a).2.1 ≠ (q.2.1 b).2.1
theorem clsOk0 : clsOk (RX0, TX0, 3) := ⟨by decide +kernel, ⟨tyX0, tyX0_ok⟩, nmX0⟩
theorem clsOk1 : clsOk (RX1, TX1, 1) := ⟨by decide +kernel, ⟨tyX1, tyX1_ok⟩, nmX1⟩
theorem clsOk2 : clsOk (RX2, TX2, 4) := ⟨by decide +kernel, ⟨tyX2, tyX2_ok⟩, nmX2⟩
theorem clsOk3 : clsOk (RX3, TX3, 4) := ⟨by decide +kernel, ⟨tyX3, tyX3_ok⟩, nmX3⟩
theorem clsOk4 : clsOk (RX4, TX4, 5) := ⟨by decide +kernel, ⟨tyX4, tyX4_ok⟩, nmX4⟩
theorem clsOk5 : clsOk (RX5, TX5, 2) := ⟨by decide +kernel, ⟨tyX5, tyX5_ok⟩, nmX5⟩
theorem clsOk6 : clsOk (RX6, TX6, 8) := ⟨by decide +kernel, ⟨tyX6, tyX6_ok⟩, nmX6⟩
theorem clsOk7 : clsOk (RX7, TX7, 22) := ⟨by decide +kernel, ⟨tyX7, tyX7_ok⟩, nmX7⟩
theorem cls_ok : ∀ (ci : Nat) (q : vw_C), vwCl[ci]? = some q → clsOk q := by
  intro ci q h
  match ci, h with
  | 0, h => cases h; exact clsOk0
  | 1, h => cases h; exact clsOk1
  | 2, h => cases h; exact clsOk2
  | 3, h => cases h; exact clsOk3
  | 4, h => cases h; exact clsOk4
  | 5, h => cases h; exact clsOk5
  | 6, h => cases h; exact clsOk6
  | 7, h => cases h; exact clsOk7
  | k + 8, h => simp [vwCl] at h
section VV
variable {G : GP} {X : CX} {cells slots : Nat} {Q : State → Prop} {M : Mem} {n : Option Nat} {pc : Nat} {L : List (Option Value)} {st : List Value} {own : String} {cc : ByteArray} {ret : Option FieldType} {d rc rs : Nat}
theorem V_iconst (F : FX G X own cc ret d rc rs) {i : Int} {v : Int32} (hdg : decode cc pc = .ok (.iconst i, 1)) (hv : Int32.ofInt i = v) (k : V G X cells slots Q M n (pc + 1) L (.int v :: st)) : V G X cells slots Q M n pc L st := fun H locs ls hm hS hL hz => lv_iconst F.x F.b hdg hv (k H locs ls hm hS hL hz)
theorem V_bipush (F : FX G X own cc ret d rc rs) {i : Int} {v : Int32} (hdg : decode cc pc = .ok (.bipush i, 2)) (hv : (Int8.ofInt i).toInt32 = v) (k : V G X cells slots Q M n (pc + 2) L (.int v :: st)) : V G X cells slots Q M n pc L st := fun H locs ls hm hS hL hz => lv_bipush F.x F.b hdg hv (k H locs ls hm hS hL hz)
theorem V_sipush (F : FX G X own cc ret d rc rs) {i : Int} {v : Int32} (hdg : decode cc pc = .ok (.sipush i, 3)) (hv : (Int16.ofInt i).toInt32 = v) (k : V G X cells slots Q M n (pc + 3) L (.int v :: st)) : V G X cells slots Q M n pc L st := fun H locs ls hm hS hL hz => lv_sipush F.x F.b hdg hv (k H locs ls hm hS hL hz)
theorem V_lconst (F : FX G X own cc ret d rc rs) {i : Fin 2} {v : Int64} (hdg : decode cc pc = .ok (.lconst i, 1)) (hv : Int64.ofNat (i : Nat) = v) (k : V G X cells slots Q M n (pc + 1) L (.long v :: st)) : V G X cells slots Q M n pc L st := fun H locs ls hm hS hL hz => lv_lconst F.x F.b hdg hv (k H locs ls hm hS hL hz)
theorem V_ldc (F : FX G X own cc ret d rc rs) {i : Nat} {v : Int32} (hdg : decode cc pc = .ok (.ldc i, 2)) (hw : Cond.constant own i v ∈ gtbl) (k : V G X cells slots Q M n (pc + 2) L (.int v :: st)) : V G X cells slots Q M n pc L st := fun H locs ls hm hS hL hz => lv_ldc F.x F.b F.o (F.t _ hw) hdg (k H locs ls hm hS hL hz)
theorem V_ldc2 (F : FX G X own cc ret d rc rs) {i : Nat} {v : Int64} (hdg : decode cc pc = .ok (.ldc2_w i, 3)) (hw : Cond.constantLong own i v ∈ gtbl) (k : V G X cells slots Q M n (pc + 3) L (.long v :: st)) : V G X cells slots Q M n pc L st := fun H locs ls hm hS hL hz => lv_ldc2 F.x F.b F.o (F.t _ hw) hdg (k H locs ls hm hS hL hz)
theorem V_iload_n (F : FX G X own cc ret d rc rs) {j : Fin 4} {x : Int32} (hdg : decode cc pc = .ok (.iload_n j, 1)) (hl : ln L (j : Nat) = some (.int x)) (k : V G X cells slots Q M n (pc + 1) L (.int x :: st)) : V G X cells slots Q M n pc L st := fun H locs ls hm hS hL hz => lv_iload_n F.x F.b hdg rfl (hL.get hl) (k H locs ls hm hS hL hz)
theorem V_iload (F : FX G X own cc ret d rc rs) {j : Nat} {x : Int32} (hdg : decode cc pc = .ok (.iload j, 2)) (hl : ln L j = some (.int x)) (k : V G X cells slots Q M n (pc + 2) L (.int x :: st)) : V G X cells slots Q M n pc L st := fun H locs ls hm hS hL hz => lv_iload F.x F.b hdg (hL.get hl) (k H locs ls hm hS hL hz)
theorem V_istore_n (F : FX G X own cc ret d rc rs) {j : Fin 4} {x : Int32} (hdg : decode cc pc = .ok (.istore_n j, 1)) (hn : (j : Nat) < L.length) (k : V G X cells slots Q M n (pc + 1) (st1 L (j : Nat) (.int x)) st) : V G X cells slots Q M n pc L (.int x :: st) := fun H locs ls hm hS hL hz => lv_istore_n F.x F.b hdg rfl hL hn rfl (fun ls2 h2 => k H locs ls2 hm hS (hasL.s1 h2) (by rw [st1_len]; exact hz))
theorem V_istore (F : FX G X own cc ret d rc rs) {j : Nat} {x : Int32} (hdg : decode cc pc = .ok (.istore j, 2)) (hn : j < L.length) (k : V G X cells slots Q M n (pc + 2) (st1 L j (.int x)) st) : V G X cells slots Q M n pc L (.int x :: st) := fun H locs ls hm hS hL hz => lv_istore F.x F.b hdg hL hn rfl (fun ls2 h2 => k H locs ls2 hm hS (hasL.s1 h2) (by rw [st1_len]; exact hz))
theorem V_lload_n (F : FX G X own cc ret d rc rs) {j : Fin 4} {x : Int64} (hdg : decode cc pc = .ok (.lload_n j, 1)) (hl : ln L (j : Nat) = some (.long x)) (k : V G X cells slots Q M n (pc + 1) L (.long x :: st)) : V G X cells slots Q M n pc L st := fun H locs ls hm hS hL hz => lv_lload_n F.x F.b hdg rfl (hL.get hl) (k H locs ls hm hS hL hz)
theorem V_lload (F : FX G X own cc ret d rc rs) {j : Nat} {x : Int64} (hdg : decode cc pc = .ok (.lload j, 2)) (hl : ln L j = some (.long x)) (k : V G X cells slots Q M n (pc + 2) L (.long x :: st)) : V G X cells slots Q M n pc L st := fun H locs ls hm hS hL hz => lv_lload F.x F.b hdg (hL.get hl) (k H locs ls hm hS hL hz)
theorem V_lstore_n (F : FX G X own cc ret d rc rs) {j : Fin 4} {x : Int64} (hdg : decode cc pc = .ok (.lstore_n j, 1)) (hn : (j : Nat) + 1 < L.length) (k : V G X cells slots Q M n (pc + 1) (st2 L (j : Nat) (.long x)) st) : V G X cells slots Q M n pc L (.long x :: st) := fun H locs ls hm hS hL hz => lv_lstore_n F.x F.b hdg rfl hL hn rfl (fun ls2 h2 => k H locs ls2 hm hS (hasL.s2 h2) (by rw [st2_len]; exact hz))
theorem V_lstore (F : FX G X own cc ret d rc rs) {j : Nat} {x : Int64} (hdg : decode cc pc = .ok (.lstore j, 2)) (hn : j + 1 < L.length) (k : V G X cells slots Q M n (pc + 2) (st2 L j (.long x)) st) : V G X cells slots Q M n pc L (.long x :: st) := fun H locs ls hm hS hL hz => lv_lstore F.x F.b hdg hL hn rfl (fun ls2 h2 => k H locs ls2 hm hS (hasL.s2 h2) (by rw [st2_len]; exact hz))
theorem V_aload_n (F : FX G X own cc ret d rc rs) {j : Fin 4} {x : Nat} (hdg : decode cc pc = .ok (.aload_n j, 1)) (hl : ln L (j : Nat) = some (.ref x)) (k : V G X cells slots Q M n (pc + 1) L (.ref x :: st)) : V G X cells slots Q M n pc L st := fun H locs ls hm hS hL hz => lv_aload_n F.x F.b hdg rfl (hL.get hl) (k H locs ls hm hS hL hz)
theorem V_aload (F : FX G X own cc ret d rc rs) {j : Nat} {x : Nat} (hdg : decode cc pc = .ok (.aload j, 2)) (hl : ln L j = some (.ref x)) (k : V G X cells slots Q M n (pc + 2) L (.ref x :: st)) : V G X cells slots Q M n pc L st := fun H locs ls hm hS hL hz => lv_aload F.x F.b hdg (hL.get hl) (k H locs ls hm hS hL hz)
theorem V_astore_n (F : FX G X own cc ret d rc rs) {j : Fin 4} {x : Nat} (hdg : decode cc pc = .ok (.astore_n j, 1)) (hn : (j : Nat) < L.length) (k : V G X cells slots Q M n (pc + 1) (st1 L (j : Nat) (.ref x)) st) : V G X cells slots Q M n pc L (.ref x :: st) := fun H locs ls hm hS hL hz => lv_astore_n F.x F.b hdg rfl hL hn rfl (fun ls2 h2 => k H locs ls2 hm hS (hasL.s1 h2) (by rw [st1_len]; exact hz))
theorem V_astore (F : FX G X own cc ret d rc rs) {j : Nat} {x : Nat} (hdg : decode cc pc = .ok (.astore j, 2)) (hn : j < L.length) (k : V G X cells slots Q M n (pc + 2) (st1 L j (.ref x)) st) : V G X cells slots Q M n pc L (.ref x :: st) := fun H locs ls hm hS hL hz => lv_astore F.x F.b hdg hL hn rfl (fun ls2 h2 => k H locs ls2 hm hS (hasL.s1 h2) (by rw [st1_len]; exact hz))
theorem V_iinc (F : FX G X own cc ret d rc rs) {j : Nat} {i : Int} {x : Int32} (hdg : decode cc pc = .ok (.iinc j i, 3)) (hl : ln L j = some (.int x)) (k : V G X cells slots Q M n (pc + 3) (st1 L j (.int (x + Int32.ofInt i))) st) : V G X cells slots Q M n pc L st := fun H locs ls hm hS hL hz => by
  obtain ⟨q, hq⟩ := List.getElem?_of_mem (mem_asl.mpr hl)
  exact lv_iinc F.x F.b hdg hL hq rfl (ln_lt hl) rfl (fun ls2 h2 => k H locs ls2 hm hS (hasL.s1 h2) (by rw [st1_len]; exact hz))
theorem V_iadd (F : FX G X own cc ret d rc rs) {x y : Int32} (hdg : decode cc pc = .ok (.iadd, 1)) (k : V G X cells slots Q M n (pc + 1) L (.int (x + y) :: st)) : V G X cells slots Q M n pc L (.int y :: .int x :: st) := fun H locs ls hm hS hL hz => lv_iadd F.x F.b hdg (k H locs ls hm hS hL hz)
theorem V_isub (F : FX G X own cc ret d rc rs) {x y : Int32} (hdg : decode cc pc = .ok (.isub, 1)) (k : V G X cells slots Q M n (pc + 1) L (.int (x - y) :: st)) : V G X cells slots Q M n pc L (.int y :: .int x :: st) := fun H locs ls hm hS hL hz => lv_isub F.x F.b hdg (k H locs ls hm hS hL hz)
theorem V_imul (F : FX G X own cc ret d rc rs) {x y : Int32} (hdg : decode cc pc = .ok (.imul, 1)) (k : V G X cells slots Q M n (pc + 1) L (.int (x * y) :: st)) : V G X cells slots Q M n pc L (.int y :: .int x :: st) := fun H locs ls hm hS hL hz => lv_imul F.x F.b hdg (k H locs ls hm hS hL hz)
theorem V_iand (F : FX G X own cc ret d rc rs) {x y : Int32} (hdg : decode cc pc = .ok (.iand, 1)) (k : V G X cells slots Q M n (pc + 1) L (.int (x &&& y) :: st)) : V G X cells slots Q M n pc L (.int y :: .int x :: st) := fun H locs ls hm hS hL hz => lv_iand F.x F.b hdg (k H locs ls hm hS hL hz)
theorem V_ior (F : FX G X own cc ret d rc rs) {x y : Int32} (hdg : decode cc pc = .ok (.ior, 1)) (k : V G X cells slots Q M n (pc + 1) L (.int (x ||| y) :: st)) : V G X cells slots Q M n pc L (.int y :: .int x :: st) := fun H locs ls hm hS hL hz => lv_ior F.x F.b hdg (k H locs ls hm hS hL hz)
theorem V_ixor (F : FX G X own cc ret d rc rs) {x y : Int32} (hdg : decode cc pc = .ok (.ixor, 1)) (k : V G X cells slots Q M n (pc + 1) L (.int (x ^^^ y) :: st)) : V G X cells slots Q M n pc L (.int y :: .int x :: st) := fun H locs ls hm hS hL hz => lv_ixor F.x F.b hdg (k H locs ls hm hS hL hz)
theorem V_ishl (F : FX G X own cc ret d rc rs) {x y : Int32} (hdg : decode cc pc = .ok (.ishl, 1)) (k : V G X cells slots Q M n (pc + 1) L (.int (x <<< (y &&& 31)) :: st)) : V G X cells slots Q M n pc L (.int y :: .int x :: st) := fun H locs ls hm hS hL hz => lv_ishl F.x F.b hdg (k H locs ls hm hS hL hz)
theorem V_ishr (F : FX G X own cc ret d rc rs) {x y : Int32} (hdg : decode cc pc = .ok (.ishr, 1)) (k : V G X cells slots Q M n (pc + 1) L (.int (x >>> (y &&& 31)) :: st)) : V G X cells slots Q M n pc L (.int y :: .int x :: st) := fun H locs ls hm hS hL hz => lv_ishr F.x F.b hdg (k H locs ls hm hS hL hz)
theorem V_idiv (F : FX G X own cc ret d rc rs) {x y : Int32} (hdg : decode cc pc = .ok (.idiv, 1)) (hne : ¬ y = 0) (k : V G X cells slots Q M n (pc + 1) L (.int (x / y) :: st)) : V G X cells slots Q M n pc L (.int y :: .int x :: st) := fun H locs ls hm hS hL hz => lv_idiv F.x F.b hdg hne (k H locs ls hm hS hL hz)
theorem V_irem (F : FX G X own cc ret d rc rs) {x y : Int32} (hdg : decode cc pc = .ok (.irem, 1)) (hne : ¬ y = 0) (k : V G X cells slots Q M n (pc + 1) L (.int (x - x / y * y) :: st)) : V G X cells slots Q M n pc L (.int y :: .int x :: st) := fun H locs ls hm hS hL hz => lv_irem F.x F.b hdg hne (k H locs ls hm hS hL hz)
theorem V_ineg (F : FX G X own cc ret d rc rs) {x : Int32} (hdg : decode cc pc = .ok (.ineg, 1)) (k : V G X cells slots Q M n (pc + 1) L (.int (-x) :: st)) : V G X cells slots Q M n pc L (.int x :: st) := fun H locs ls hm hS hL hz => lv_ineg F.x F.b hdg (k H locs ls hm hS hL hz)
theorem V_ladd (F : FX G X own cc ret d rc rs) {x y : Int64} (hdg : decode cc pc = .ok (.ladd, 1)) (k : V G X cells slots Q M n (pc + 1) L (.long (x + y) :: st)) : V G X cells slots Q M n pc L (.long y :: .long x :: st) := fun H locs ls hm hS hL hz => lv_ladd F.x F.b hdg (k H locs ls hm hS hL hz)
theorem V_lsub (F : FX G X own cc ret d rc rs) {x y : Int64} (hdg : decode cc pc = .ok (.lsub, 1)) (k : V G X cells slots Q M n (pc + 1) L (.long (x - y) :: st)) : V G X cells slots Q M n pc L (.long y :: .long x :: st) := fun H locs ls hm hS hL hz => lv_lsub F.x F.b hdg (k H locs ls hm hS hL hz)
theorem V_lmul (F : FX G X own cc ret d rc rs) {x y : Int64} (hdg : decode cc pc = .ok (.lmul, 1)) (k : V G X cells slots Q M n (pc + 1) L (.long (x * y) :: st)) : V G X cells slots Q M n pc L (.long y :: .long x :: st) := fun H locs ls hm hS hL hz => lv_lmul F.x F.b hdg (k H locs ls hm hS hL hz)
theorem V_land (F : FX G X own cc ret d rc rs) {x y : Int64} (hdg : decode cc pc = .ok (.land, 1)) (k : V G X cells slots Q M n (pc + 1) L (.long (x &&& y) :: st)) : V G X cells slots Q M n pc L (.long y :: .long x :: st) := fun H locs ls hm hS hL hz => lv_land F.x F.b hdg (k H locs ls hm hS hL hz)
theorem V_lor (F : FX G X own cc ret d rc rs) {x y : Int64} (hdg : decode cc pc = .ok (.lor, 1)) (k : V G X cells slots Q M n (pc + 1) L (.long (x ||| y) :: st)) : V G X cells slots Q M n pc L (.long y :: .long x :: st) := fun H locs ls hm hS hL hz => lv_lor F.x F.b hdg (k H locs ls hm hS hL hz)
theorem V_lxor (F : FX G X own cc ret d rc rs) {x y : Int64} (hdg : decode cc pc = .ok (.lxor, 1)) (k : V G X cells slots Q M n (pc + 1) L (.long (x ^^^ y) :: st)) : V G X cells slots Q M n pc L (.long y :: .long x :: st) := fun H locs ls hm hS hL hz => lv_lxor F.x F.b hdg (k H locs ls hm hS hL hz)
theorem V_lrem (F : FX G X own cc ret d rc rs) {x y : Int64} (hdg : decode cc pc = .ok (.lrem, 1)) (hne : ¬ y = 0) (k : V G X cells slots Q M n (pc + 1) L (.long (x - x / y * y) :: st)) : V G X cells slots Q M n pc L (.long y :: .long x :: st) := fun H locs ls hm hS hL hz => lv_lrem F.x F.b hdg hne (k H locs ls hm hS hL hz)
theorem V_lneg (F : FX G X own cc ret d rc rs) {x : Int64} (hdg : decode cc pc = .ok (.lneg, 1)) (k : V G X cells slots Q M n (pc + 1) L (.long (-x) :: st)) : V G X cells slots Q M n pc L (.long x :: st) := fun H locs ls hm hS hL hz => lv_lneg F.x F.b hdg (k H locs ls hm hS hL hz)
theorem V_lshl (F : FX G X own cc ret d rc rs) {x : Int64} {y : Int32} (hdg : decode cc pc = .ok (.lshl, 1)) (k : V G X cells slots Q M n (pc + 1) L (.long (x <<< (y.toInt64 &&& 63)) :: st)) : V G X cells slots Q M n pc L (.int y :: .long x :: st) := fun H locs ls hm hS hL hz => lv_lshl F.x F.b hdg rfl (k H locs ls hm hS hL hz)
theorem V_i2l (F : FX G X own cc ret d rc rs) {x : Int32} (hdg : decode cc pc = .ok (.i2l, 1)) (k : V G X cells slots Q M n (pc + 1) L (.long x.toInt64 :: st)) : V G X cells slots Q M n pc L (.int x :: st) := fun H locs ls hm hS hL hz => t_i2l F.x F.b hdg rfl (k H locs ls hm hS hL hz)
theorem V_l2i (F : FX G X own cc ret d rc rs) {x : Int64} (hdg : decode cc pc = .ok (.l2i, 1)) (k : V G X cells slots Q M n (pc + 1) L (.int x.toInt32 :: st)) : V G X cells slots Q M n pc L (.long x :: st) := fun H locs ls hm hS hL hz => t_l2i F.x F.b hdg rfl (k H locs ls hm hS hL hz)
theorem V_i2s (F : FX G X own cc ret d rc rs) {x : Int32} (hdg : decode cc pc = .ok (.i2s, 1)) (k : V G X cells slots Q M n (pc + 1) L (.int x.toInt16.toInt32 :: st)) : V G X cells slots Q M n pc L (.int x :: st) := fun H locs ls hm hS hL hz => lv_i2s F.x F.b hdg rfl (k H locs ls hm hS hL hz)
theorem V_lcmp (F : FX G X own cc ret d rc rs) {x y : Int64} (hdg : decode cc pc = .ok (.lcmp, 1)) (k : V G X cells slots Q M n (pc + 1) L (.int (lg_cmp x y) :: st)) : V G X cells slots Q M n pc L (.long y :: .long x :: st) := fun H locs ls hm hS hL hz => W.lcmp F.x F.b hdg (k H locs ls hm hS hL hz)
theorem V_dup (F : FX G X own cc ret d rc rs) {v : Value} (hdg : decode cc pc = .ok (.dup, 1)) (hc : v.category = 1) (k : V G X cells slots Q M n (pc + 1) L (v :: v :: st)) : V G X cells slots Q M n pc L (v :: st) := fun H locs ls hm hS hL hz => lv_dup F.x F.b hdg hc (k H locs ls hm hS hL hz)
theorem V_dup2 (F : FX G X own cc ret d rc rs) {v w : Value} (hdg : decode cc pc = .ok (.dup2, 1)) (hc : v.category = 1) (hc2 : w.category = 1) (k : V G X cells slots Q M n (pc + 1) L (v :: w :: v :: w :: st)) : V G X cells slots Q M n pc L (v :: w :: st) := fun H locs ls hm hS hL hz => lv_dup2_11 F.x F.b hdg hc hc2 (k H locs ls hm hS hL hz)
theorem V_pop (F : FX G X own cc ret d rc rs) {v : Value} (hdg : decode cc pc = .ok (.pop, 1)) (hc : v.category = 1) (k : V G X cells slots Q M n (pc + 1) L st) : V G X cells slots Q M n pc L (v :: st) := fun H locs ls hm hS hL hz => lv_pop F.x F.b hdg hc (k H locs ls hm hS hL hz)
theorem V_if_eq (F : FX G X own cc ret d rc rs) {x : Int32} {off : Int} (tgt : Nat) (hdg : decode cc pc = .ok (.ifCond .eq off, 3)) (ht : (pc : Int) + off = (tgt : Int)) (kt : x = 0 → V G X cells slots Q M n tgt L st) (kf : ¬ x = 0 → V G X cells slots Q M n (pc + 3) L st) : V G X cells slots Q M n pc L (.int x :: st) := fun H locs ls hm hS hL hz => lv_if_eq F.x F.b hdg ht (fun q => kt q H locs ls hm hS hL hz) (fun q => kf q H locs ls hm hS hL hz)
theorem V_if_ne (F : FX G X own cc ret d rc rs) {x : Int32} {off : Int} (tgt : Nat) (hdg : decode cc pc = .ok (.ifCond .ne off, 3)) (ht : (pc : Int) + off = (tgt : Int)) (kt : ¬ x = 0 → V G X cells slots Q M n tgt L st) (kf : x = 0 → V G X cells slots Q M n (pc + 3) L st) : V G X cells slots Q M n pc L (.int x :: st) := fun H locs ls hm hS hL hz => lv_if_ne F.x F.b hdg ht (fun q => kt q H locs ls hm hS hL hz) (fun q => kf q H locs ls hm hS hL hz)
theorem V_if_lt (F : FX G X own cc ret d rc rs) {x : Int32} {off : Int} (tgt : Nat) (hdg : decode cc pc = .ok (.ifCond .lt off, 3)) (ht : (pc : Int) + off = (tgt : Int)) (kt : x < 0 → V G X cells slots Q M n tgt L st) (kf : ¬ x < 0 → V G X cells slots Q M n (pc + 3) L st) : V G X cells slots Q M n pc L (.int x :: st) := fun H locs ls hm hS hL hz => lv_if_lt F.x F.b hdg ht (fun q => kt q H locs ls hm hS hL hz) (fun q => kf q H locs ls hm hS hL hz)
theorem V_if_ge (F : FX G X own cc ret d rc rs) {x : Int32} {off : Int} (tgt : Nat) (hdg : decode cc pc = .ok (.ifCond .ge off, 3)) (ht : (pc : Int) + off = (tgt : Int)) (kt : 0 ≤ x → V G X cells slots Q M n tgt L st) (kf : ¬ 0 ≤ x → V G X cells slots Q M n (pc + 3) L st) : V G X cells slots Q M n pc L (.int x :: st) := fun H locs ls hm hS hL hz => lv_if_ge F.x F.b hdg ht (fun q => kt q H locs ls hm hS hL hz) (fun q => kf q H locs ls hm hS hL hz)
theorem V_if_gt (F : FX G X own cc ret d rc rs) {x : Int32} {off : Int} (tgt : Nat) (hdg : decode cc pc = .ok (.ifCond .gt off, 3)) (ht : (pc : Int) + off = (tgt : Int)) (kt : 0 < x → V G X cells slots Q M n tgt L st) (kf : ¬ 0 < x → V G X cells slots Q M n (pc + 3) L st) : V G X cells slots Q M n pc L (.int x :: st) := fun H locs ls hm hS hL hz => lv_if_gt F.x F.b hdg ht (fun q => kt q H locs ls hm hS hL hz) (fun q => kf q H locs ls hm hS hL hz)
theorem V_if_le (F : FX G X own cc ret d rc rs) {x : Int32} {off : Int} (tgt : Nat) (hdg : decode cc pc = .ok (.ifCond .le off, 3)) (ht : (pc : Int) + off = (tgt : Int)) (kt : x ≤ 0 → V G X cells slots Q M n tgt L st) (kf : ¬ x ≤ 0 → V G X cells slots Q M n (pc + 3) L st) : V G X cells slots Q M n pc L (.int x :: st) := fun H locs ls hm hS hL hz => lv_if_le F.x F.b hdg ht (fun q => kt q H locs ls hm hS hL hz) (fun q => kf q H locs ls hm hS hL hz)
theorem V_icmp_eq (F : FX G X own cc ret d rc rs) {x y : Int32} {off : Int} (tgt : Nat) (hdg : decode cc pc = .ok (.if_icmp .eq off, 3)) (ht : (pc : Int) + off = (tgt : Int)) (kt : x = y → V G X cells slots Q M n tgt L st) (kf : ¬ x = y → V G X cells slots Q M n (pc + 3) L st) : V G X cells slots Q M n pc L (.int y :: .int x :: st) := fun H locs ls hm hS hL hz => lv_icmp_eq F.x F.b hdg ht (fun q => kt q H locs ls hm hS hL hz) (fun q => kf q H locs ls hm hS hL hz)
theorem V_icmp_ne (F : FX G X own cc ret d rc rs) {x y : Int32} {off : Int} (tgt : Nat) (hdg : decode cc pc = .ok (.if_icmp .ne off, 3)) (ht : (pc : Int) + off = (tgt : Int)) (kt : ¬ x = y → V G X cells slots Q M n tgt L st) (kf : x = y → V G X cells slots Q M n (pc + 3) L st) : V G X cells slots Q M n pc L (.int y :: .int x :: st) := fun H locs ls hm hS hL hz => lv_icmp_ne F.x F.b hdg ht (fun q => kt q H locs ls hm hS hL hz) (fun q => kf q H locs ls hm hS hL hz)
theorem V_icmp_lt (F : FX G X own cc ret d rc rs) {x y : Int32} {off : Int} (tgt : Nat) (hdg : decode cc pc = .ok (.if_icmp .lt off, 3)) (ht : (pc : Int) + off = (tgt : Int)) (kt : x < y → V G X cells slots Q M n tgt L st) (kf : ¬ x < y → V G X cells slots Q M n (pc + 3) L st) : V G X cells slots Q M n pc L (.int y :: .int x :: st) := fun H locs ls hm hS hL hz => lv_icmp_lt F.x F.b hdg ht (fun q => kt q H locs ls hm hS hL hz) (fun q => kf q H locs ls hm hS hL hz)
theorem V_icmp_ge (F : FX G X own cc ret d rc rs) {x y : Int32} {off : Int} (tgt : Nat) (hdg : decode cc pc = .ok (.if_icmp .ge off, 3)) (ht : (pc : Int) + off = (tgt : Int)) (kt : y ≤ x → V G X cells slots Q M n tgt L st) (kf : ¬ y ≤ x → V G X cells slots Q M n (pc + 3) L st) : V G X cells slots Q M n pc L (.int y :: .int x :: st) := fun H locs ls hm hS hL hz => lv_icmp_ge F.x F.b hdg ht (fun q => kt q H locs ls hm hS hL hz) (fun q => kf q H locs ls hm hS hL hz)
theorem V_icmp_gt (F : FX G X own cc ret d rc rs) {x y : Int32} {off : Int} (tgt : Nat) (hdg : decode cc pc = .ok (.if_icmp .gt off, 3)) (ht : (pc : Int) + off = (tgt : Int)) (kt : y < x → V G X cells slots Q M n tgt L st) (kf : ¬ y < x → V G X cells slots Q M n (pc + 3) L st) : V G X cells slots Q M n pc L (.int y :: .int x :: st) := fun H locs ls hm hS hL hz => lv_icmp_gt F.x F.b hdg ht (fun q => kt q H locs ls hm hS hL hz) (fun q => kf q H locs ls hm hS hL hz)
theorem V_icmp_le (F : FX G X own cc ret d rc rs) {x y : Int32} {off : Int} (tgt : Nat) (hdg : decode cc pc = .ok (.if_icmp .le off, 3)) (ht : (pc : Int) + off = (tgt : Int)) (kt : x ≤ y → V G X cells slots Q M n tgt L st) (kf : ¬ x ≤ y → V G X cells slots Q M n (pc + 3) L st) : V G X cells slots Q M n pc L (.int y :: .int x :: st) := fun H locs ls hm hS hL hz => lv_icmp_le F.x F.b hdg ht (fun q => kt q H locs ls hm hS hL hz) (fun q => kf q H locs ls hm hS hL hz)
theorem V_goto (F : FX G X own cc ret d rc rs) {off : Int} (tgt : Nat) (hdg : decode cc pc = .ok (.goto off, 3)) (ht : (pc : Int) + off = (tgt : Int)) (k : V G X cells slots Q M n tgt L st) : V G X cells slots Q M n pc L st := fun H locs ls hm hS hL hz => lv_goto F.x F.b hdg ht (k H locs ls hm hS hL hz)
theorem V_tableOut (F : FX G X own cc ret d rc rs) {df lo hi : Int} {offs : Array Int} {len : Nat} {x : Int32} (tgt : Nat) (hdg : decode cc pc = .ok (.tableswitch df lo hi offs, len)) (h : x.toInt < lo ∨ hi < x.toInt) (ht : (pc : Int) + df = (tgt : Int)) (k : V G X cells slots Q M n tgt L st) : V G X cells slots Q M n pc L (.int x :: st) := fun H locs ls hm hS hL hz => lv_tableOut F.x F.b hdg h ht (k H locs ls hm hS hL hz)
theorem V_tableIn (F : FX G X own cc ret d rc rs) {df lo hi off : Int} {offs : Array Int} {len : Nat} {x : Int32} (tgt : Nat) (hdg : decode cc pc = .ok (.tableswitch df lo hi offs, len)) (h1 : ¬ x.toInt < lo) (h2 : ¬ hi < x.toInt) (ho : offs[(x.toInt - lo).toNat]? = some off) (ht : (pc : Int) + off = (tgt : Int)) (k : V G X cells slots Q M n tgt L st) : V G X cells slots Q M n pc L (.int x :: st) := fun H locs ls hm hS hL hz => lv_tableIn F.x F.b hdg h1 h2 ho ht (k H locs ls hm hS hL hz)
theorem mem.P {G : GP} {M : Mem} {n : Option Nat} {H : Heap} {a : Nat} {e : va_E} (h : mem G M n H) (ha : M a = some e) : va_P (gD G) vwCl [(a, e)] H := fun k q hk => by
  match k, hk with
  | 0, hk => cases hk; exact (h.2 a e ha).2
  | k + 1, hk => simp at hk
theorem mem.put {G : GP} {M : Mem} {n : Option Nat} {H H1 : Heap} {a : Nat} {e0 e : va_E} (h : mem G M n H) (ha : M a = some e0) (he : va_at (gD G) vwCl (a, e) H1) (hz : H1.size = H.size) (hq : ∀ q : Nat, q ≠ a → H1[q]? = H[q]?) : mem G (mset M a e) n H1 := by
  refine ⟨fun k hk => hz.trans (h.1 k hk), fun b e2 hb => ?_⟩
  by_cases hba : b = a
  · subst hba
    rw [mset_eq] at hb
    cases hb
    exact ⟨(h.2 _ _ ha).1, he⟩
  · rw [mset_ne _ _ hba] at hb
    exact ⟨(h.2 _ _ hb).1, (h.2 _ _ hb).2.kept (hq b hba)⟩
theorem V_get (F : FX G X own cc ret d rc rs) {i ci j N a : Nat} {C : String} {T : u_T} {ty : FieldType} {fin : Bool} {fs : List Value} {v : Value} (w : FL own i ci j C T N ty fin) (hdg : decode cc pc = .ok (.getfield i, 3)) (hM : M a = some (eO ci fs)) (hv : fs[j]? = some v) (k : V G X cells slots Q M n (pc + 3) L (v :: st)) : V G X cells slots Q M n pc L (.ref a :: st) := fun H locs ls hm hS hL hz =>
  va_get (D := gD G) F.x F.b F.t (cls_ok ci _ w.1).1 F.o F.K (mem.P hm hM) 0 rfl w.1 j w.2.1 (F.t _ w.2.2.1) (fun _ h9 => h9) hv hdg (k H locs ls hm hS hL hz)
theorem V_put (F : FX G X own cc ret d rc rs) {i ci j N a : Nat} {C : String} {T : u_T} {ty : FieldType} {fs : List Value} {v : Value} (w : FL own i ci j C T N ty false) (hdg : decode cc pc = .ok (.putfield i, 3)) (hM : M a = some (eO ci fs)) (hn : narrow ty v = v) (hfit : fits ty v = true) (hl : j < fs.length) (k : V G X cells slots Q (mset M a (eO ci (fs.set j v))) n (pc + 3) L st) : V G X cells slots Q M n pc L (v :: .ref a :: st) := fun H locs ls hm hS hL hz => by
  obtain ⟨hin, ⟨ty0, hty⟩, hnm⟩ := cls_ok ci _ w.1
  have hap := va_apart (own := own) F.t hin ty0 hty hnm F.K w.1
  obtain ⟨r, h1, cell, q1, q2, q3, q4⟩ := (hm.2 _ _ hM).2
  have hr : r = (C, T, N) := Option.some.inj (h1.symm.trans w.1)
  subst hr
  obtain ⟨hSl, hfc, kC, hkC, hkind⟩ := F.K.1 ci _ w.1
  obtain ⟨cf, kf, fi, f, hi, hsl⟩ := hSl j w.2.1
  have hlay := F.t _ (hin _ (u_in_lay w.2.1))
  unfold u_lay at hlay
  rw [if_neg (by rw [w.2.2.2.2]; decide)] at hlay
  have hst := (u_facts hfc hkC (u_lays F.t hin w.2.1) hi).1
  have h6 := u_store hfc hkC hkind hlay hi w.2.2.2.1 hn hfit
  refine W.putK F.x F.b (f := f) ⟨F.o, F.t _ w.2.2.1, ⟨_, _, _, hi⟩, hst⟩ (by rw [q2]; exact h6) q1 q3 (by rw [hsl]; exact k2_hasslot (q4 j w.2.1)) rfl rfl hdg fun H' e1 e2 e3 => ?_
  rw [hsl] at e1 ⊢
  exact k H' _ ls (mem.put hm hM ⟨_, w.1, t_OB.to (V := updV (vp_V fs) j v) ⟨_, e1, q2, q3, t_set q4 hap w.2.1 v⟩ (fun z _ => vp_updV_set hl v z)⟩ e2 e3) (hS.put e2 e3 (hm.2 _ _ hM).1) hL hz
theorem V_putF (F : FX G X own cc ret d rc rs) (hnm0 : (xmeth X).name = "<init>") {i ci j N a : Nat} {C : String} {T : u_T} {ty : FieldType} {fs : List Value} {v : Value} (w : FL own i ci j C T N ty true) (hdecl : (T j).1 = own) (hdg : decode cc pc = .ok (.putfield i, 3)) (hM : M a = some (eO ci fs)) (hn : narrow ty v = v) (hfit : fits ty v = true) (hl : j < fs.length) (k : V G X cells slots Q (mset M a (eO ci (fs.set j v))) n (pc + 3) L st) : V G X cells slots Q M n pc L (v :: .ref a :: st) := fun H locs ls hm hS hL hz => by
  obtain ⟨hin, ⟨ty0, hty⟩, hnm⟩ := cls_ok ci _ w.1
  have hap := va_apart (own := own) F.t hin ty0 hty hnm F.K w.1
  obtain ⟨r, h1, cell, q1, q2, q3, q4⟩ := (hm.2 _ _ hM).2
  have hr : r = (C, T, N) := Option.some.inj (h1.symm.trans w.1)
  subst hr
  obtain ⟨hSl, hfc, kC, hkC, hkind⟩ := F.K.1 ci _ w.1
  obtain ⟨cf, kf, fi, f, hi, hsl⟩ := hSl j w.2.1
  have hlay := F.t _ (hin _ (u_in_lay w.2.1))
  unfold u_lay at hlay
  rw [if_pos w.2.2.2.2] at hlay
  have hst := (u_facts hfc hkC (u_lays F.t hin w.2.1) hi).1
  have hcf : (xm X).cls = cf := by
    obtain ⟨_, _, c', _, _, _, -, -, hf', -, -, -, hown2, -⟩ := Cond.laysFinal_spec hlay
    have e1 : c' = cf := by have := hi.symm.trans hf'; simp at this; exact this.1.symm
    rw [hdecl] at hown2
    rw [← e1]; exact Option.some.inj (F.o.symm.trans hown2)
  have h6 := u_fits hfc hkC hkind (Or.inr hlay) hi w.2.2.2.1 hn hfit
  refine W.putFinK F.x F.b F.o (F.t _ w.2.2.1) hi hst hcf hnm0 (by rw [q2]; exact h6) q1 q3 (by rw [hsl]; exact k2_hasslot (q4 j w.2.1)) rfl rfl hdg fun H' e1 e2 e3 => ?_
  rw [hsl] at e1 ⊢
  exact k H' _ ls (mem.put hm hM ⟨_, w.1, t_OB.to (V := updV (vp_V fs) j v) ⟨_, e1, q2, q3, t_set q4 hap w.2.1 v⟩ (fun z _ => vp_updV_set hl v z)⟩ e2 e3) (hS.put e2 e3 (hm.2 _ _ hM).1) hL hz
theorem V_iald (F : FX G X own cc ret d rc rs) {a N : Nat} {f : Nat → Int32} {i : Int32} (hdg : decode cc pc = .ok (.iaload, 1)) (hM : M a = some (eI (gT G) N f)) (hin : vp_in i N) (k : V G X cells slots Q M n (pc + 1) L (.int (f i.toNatClampNeg) :: st)) : V G X cells slots Q M n pc L (.int i :: .ref a :: st) := fun H locs ls hm hS hL hz => va_iald F.x F.b F.K (mem.P hm hM) 0 0 rfl rfl hin hdg (k H locs ls hm hS hL hz)
theorem V_lald (F : FX G X own cc ret d rc rs) {a N : Nat} {f : Nat → Int64} {i : Int32} (hdg : decode cc pc = .ok (.laload, 1)) (hM : M a = some (eJ (gT G) N f)) (hin : vp_in i N) (k : V G X cells slots Q M n (pc + 1) L (.long (f i.toNatClampNeg) :: st)) : V G X cells slots Q M n pc L (.int i :: .ref a :: st) := fun H locs ls hm hS hL hz => va_lald F.x F.b F.K (mem.P hm hM) 0 1 rfl rfl hin hdg (k H locs ls hm hS hL hz)
theorem V_aald (F : FX G X own cc ret d rc rs) {a N x : Nat} (j : Nat) {ty : FieldType} {f : Nat → Option Nat} {i : Int32} (hdg : decode cc pc = .ok (.aaload, 1)) (hM : M a = some (eQ (gT G) j N f)) (hj : (tysOf (gT G))[j]? = some (gT G j, ty)) (hty : ty.isReference = true) (hin : vp_in i N) (hx : f i.toNatClampNeg = some x) (k : V G X cells slots Q M n (pc + 1) L (.ref x :: st)) : V G X cells slots Q M n pc L (.int i :: .ref a :: st) := fun H locs ls hm hS hL hz => by
  have hlt : i.toNatClampNeg < N := Nat.not_le.mp fun q => hin (Or.inr q)
  refine W.aald (v := .ref x) (ty := ty) F.x F.b ((hm.2 _ _ hM).2) ((F.K.2 j _ hj).1 N (fun z => va_rf (f z))) hty (fun q => by cases q) (by show ¬ (i < 0 ∨ (arrV _ _ _).slots.size ≤ _); rw [arrV_size]; exact hin) ?_ rfl rfl hdg (k H locs ls hm hS hL hz)
  show (arrV _ _ _).slots[_]? = _
  rw [arrV_read _ _ hlt, hx]
  rfl
theorem V_iast (F : FX G X own cc ret d rc rs) {a N : Nat} {f : Nat → Int32} {i x : Int32} (hdg : decode cc pc = .ok (.iastore, 1)) (hM : M a = some (eI (gT G) N f)) (hin : vp_in i N) (k : V G X cells slots Q (mset M a (eI (gT G) N (va_up f i.toNatClampNeg x))) n (pc + 1) L st) : V G X cells slots Q M n pc L (.int x :: .int i :: .ref a :: st) := fun H locs ls hm hS hL hz => by
  refine W.iast F.x F.b (hm.2 _ _ hM).2 ((F.K.2 0 _ rfl).1 N (fun j => .int (f j))) (fun q => by cases q) (by show ¬ (i < 0 ∨ (arrV _ _ _).slots.size ≤ _); rw [arrV_size]; exact hin) rfl rfl hdg fun H1 e z oq => ?_
  refine k H1 _ ls (mem.put hm hM ?_ z oq) (hS.put z oq (hm.2 _ _ hM).1) hL hz
  show H1[a]? = some (vp_cell _ _)
  rw [e, vp_cell_i, vp_cell_i, arrV_store]
  congr 2
  funext q
  by_cases hq : q = i.toNatClampNeg
  · subst hq
    simp [updV, va_up]
  · simp [updV, va_up, hq]
theorem V_last (F : FX G X own cc ret d rc rs) {a N : Nat} {f : Nat → Int64} {i : Int32} {x : Int64} (hdg : decode cc pc = .ok (.lastore, 1)) (hM : M a = some (eJ (gT G) N f)) (hin : vp_in i N) (k : V G X cells slots Q (mset M a (eJ (gT G) N (va_up f i.toNatClampNeg x))) n (pc + 1) L st) : V G X cells slots Q M n pc L (.long x :: .int i :: .ref a :: st) := fun H locs ls hm hS hL hz => by
  refine W.last F.x F.b (hm.2 _ _ hM).2 ((F.K.2 1 _ rfl).1 N (fun j => .long (f j))) (fun q => by cases q) (by show ¬ (i < 0 ∨ (arrV _ _ _).slots.size ≤ _); rw [arrV_size]; exact hin) rfl rfl hdg fun H1 e z oq => ?_
  refine k H1 _ ls (mem.put hm hM ?_ z oq) (hS.put z oq (hm.2 _ _ hM).1) hL hz
  show H1[a]? = some (vp_cell _ _)
  rw [e, vp_cell_l, vp_cell_l, arrV_store]
  congr 2
  funext q
  by_cases hq : q = i.toNatClampNeg
  · subst hq
    simp [updV, va_up]
  · simp [updV, va_up, hq]
theorem V_aast (F : FX G X own cc ret d rc rs) {a N x ci : Nat} (j : Nat) {r : vw_C} {fs : List Value} {f : Nat → Option Nat} {i : Int32} (hdg : decode cc pc = .ok (.aastore, 1)) (hM : M a = some (eQ (gT G) j N f)) (hj : (tysOf (gT G))[j]? = some (gT G j, .object r.1)) (hx : M x = some (eO ci fs)) (hr : vwCl[ci]? = some r) (hin : vp_in i N) (k : V G X cells slots Q (mset M a (eQ (gT G) j N (va_up f i.toNatClampNeg (some x)))) n (pc + 1) L st) : V G X cells slots Q M n pc L (.ref x :: .int i :: .ref a :: st) := fun H locs ls hm hS hL hz => by
  have hlt : i.toNatClampNeg < N := Nat.not_le.mp fun q => hin (Or.inr q)
  have h0 : ¬ i < 0 := fun q => hin (Or.inl q)
  obtain ⟨r', hr', cellV, g1, g2, g3, -⟩ := (hm.2 _ _ hx).2
  have hcls := (F.K.1 ci r hr).2
  obtain ⟨kA, comp, k1, k2, k3, -⟩ := (F.K.2 j _ hj).2
  have hcomp : comp = (gD G).1 ci := Option.some.inj (k3.symm.trans hcls.1)
  subst hcomp
  obtain ⟨kC, hkC, -⟩ := hcls.2
  refine W.aast F.x F.b (hm.2 _ _ hM).2 (fun q h => by cases h) (fun h => by cases h) k1 k2 rfl hkC ⟨h0, by show _ < (arrV _ _ _).slots.size; rw [arrV_size]; exact hlt⟩ g1 (fun q h => by rw [g3] at h; cases h) (by rw [g2]; exact hkC) (by rw [g2]; exact va_assign hcls) rfl rfl hdg fun H1 e z oq => ?_
  refine k H1 _ ls (mem.put hm hM ?_ z oq) (hS.put z oq (hm.2 _ _ hM).1) hL hz
  show H1[a]? = some (vp_cell _ _)
  rw [e, vp_cell_q, vp_cell_q, arrV_store]
  congr 2
  funext q
  by_cases hq : q = i.toNatClampNeg
  · subst hq
    simp [updV, va_up, va_rf]
  · simp [updV, va_up, hq]
theorem V_alen (F : FX G X own cc ret d rc rs) {a : Nat} (j : Nat) {x : vp_A} {ty : FieldType} {c : Int32} (hdg : decode cc pc = .ok (.arraylength, 1)) (hM : M a = some (.inl (gT G j, x))) (hj : (tysOf (gT G))[j]? = some (gT G j, ty)) (hv : Int32.ofNat x.1 = c) (k : V G X cells slots Q M n (pc + 1) L (.int c :: st)) : V G X cells slots Q M n pc L (.ref a :: st) := fun H locs ls hm hS hL hz => va_alen F.x F.b F.K (mem.P hm hM) 0 j rfl hj hv hdg (k H locs ls hm hS hL hz)
theorem V_gets (F : FX G X own cc ret d rc rs) {i : Nat} (hdg : decode cc pc = .ok (.getstatic i, 3)) (hw : Cond.fieldLink own i "TouchingCoins$Remainders" "WEIGHT" "[I" ∈ gtbl) (k : V G X cells slots Q M n (pc + 3) L (.ref (gw G) :: st)) : V G X cells slots Q M n pc L st := fun H locs ls hm hS hL hz => va_gets F.x F.b F.s.1 hS F.o (F.t _ hw) (fun _ h => h) hdg (k H locs ls hm hS hL hz)
theorem V_tald (F : FX G X own cc ret d rc rs) {i : Int32} (hdg : decode cc pc = .ok (.iaload, 1)) (hin : vp_in i 4) (k : V G X cells slots Q M n (pc + 1) L (.int (wt i.toNatClampNeg) :: st)) : V G X cells slots Q M n pc L (.int i :: .ref (gw G) :: st) := fun H locs ls hm hS hL hz => va_ti F.x F.b F.s.2 hS hin rfl hdg (k H locs ls hm hS hL hz)
theorem V_iret (F : FX G X own cc ret d rc rs) {v : Int32} {ty : FieldType} {post : Option Value → Mem → Option Nat → Prop} (hr : ret = some ty) (hdg : decode cc pc = .ok (.ireturn, 1)) (hn : narrow ty (.int v) = .int v) (hp : post (some (.int v)) M n) : V G X cells slots (BQ G X post cells slots) M n pc L [.int v] := fun H locs ls hm hS hL hz => W.zret F.x F.b (F.r.trans hr) hn (fun t ht hW => ⟨_, M, n, rfl, hp, by rw [ht]; exact hm, hS.F ht⟩) hS.2.2 hdg F.k
theorem V_lret (F : FX G X own cc ret d rc rs) {v : Int64} {post : Option Value → Mem → Option Nat → Prop} (hr : ret = some .long) (hdg : decode cc pc = .ok (.lreturn, 1)) (hp : post (some (.long v)) M n) : V G X cells slots (BQ G X post cells slots) M n pc L [.long v] := fun H locs ls hm hS hL hz => W.lret F.x F.b (F.r.trans hr) (fun t ht hW => ⟨_, M, n, rfl, hp, by rw [ht]; exact hm, hS.F ht⟩) hS.2.2 hdg F.k
theorem V_vret (F : FX G X own cc ret d rc rs) {post : Option Value → Mem → Option Nat → Prop} (hr : ret = none) (hdg : decode cc pc = .ok (.return_, 1)) (hp : post none M n) : V G X cells slots (BQ G X post cells slots) M n pc L [] := fun H locs ls hm hS hL hz => W.vret F.x F.b (F.r.trans hr) (fun t ht hW => ⟨_, M, n, rfl, hp, by rw [ht]; exact hm, hS.F ht⟩) hS.2.2 hdg F.k
theorem V_widen {k1 k2 : Nat} (h1 : cells ≤ k1) (h2 : slots ≤ k2) (k : V G X k1 k2 Q M n pc L st) : V G X cells slots Q M n pc L st := fun H locs ls hm hS hL hz => W.widen h1 h2 (k H locs ls hm hS hL hz)
theorem V_oi (F : FX G X own cc ret d rc rs) {i a : Nat} (hw : Cond.methodLink own i objectInit ∈ gtbl) (hw2 : Cond.instanceMethod objectInit ∈ gtbl) (hw3 : Cond.code objectInit ⟨#[0xb1]⟩ 1 none ∈ gtbl) (hdg : decode cc pc = .ok (.invokespecial i, 3)) (hd : 1 ≤ d) (hW : (st.map fun v => v.category).sum ≤ 8) (k : V G X cells slots Q M n (pc + 3) L st) : V G X cells slots Q M n pc L (.ref a :: st) := fun H locs ls hm hS hL hz => by
  have h1 := F.d.1
  have h2 := F.d.2.1
  refine W.objInit F.x F.b F.o (F.t _ hw) (F.t _ hw2) (F.t _ hw3) rfl (hL.1.trans hz) rfl hdg (by omega) ?_ (k H locs ls hm hS hL hz)
  show 2 * 0 + _ + 12 ≤ _
  omega
theorem V_new (F : FX G X own cc ret d rc rs) {i ci N h : Nat} {C : String} {T : u_T} {ty : Nat → FieldType} {fs : List Value} (hci : vwCl[ci]? = some (C, T, N)) (hty : ∀ k, k < N → parseFieldDescriptor (T k).2.2.1 = some (ty k)) (hcl : Cond.classLink own i C ∈ gtbl) (hins : Cond.instantiable C N ∈ gtbl) (hini : Cond.initialized C ∈ gtbl) (hfs : ∀ j, j < N → defaultValue (ty j) = vp_V fs j) (hdg : decode cc pc = .ok (.new i, 3)) (hc1 : cells + 1 ≤ rc) (hc2 : slots + N ≤ rs) (hMh : M h = none)
    (k : V G X (cells + 1) (slots + N) Q (mset M h (eO ci fs)) (some (h + 1)) (pc + 3) L (.ref h :: st)) : V G X cells slots Q M (some h) pc L st := fun H locs ls hm hS hL hz => by
  have hKn := F.K.1 ci _ hci
  have hsz : H.size = h := hm.1 h rfl
  refine W.newcK F.x F.b F.o (F.t _ hcl) (F.t _ hins) (F.t _ hini) rfl hdg (Nat.le_trans hc1 F.d.2.2.1) (Nat.le_trans hc2 F.d.2.2.2) hKn.2.1 hsz fun H1 kC hkC e1 z1 o1 => ?_
  have hk : ∀ q, q < H.size → H1[q]? = H[q]? := fun q hq => o1 q (by omega)
  refine k H1 locs ls ⟨fun q hq => by cases hq; exact z1, fun b e2 hb => ?_⟩ ⟨by have := hS.1; omega, fun x q1 q2 => (hk x (Nat.lt_of_lt_of_le q1 hS.1)).trans (hS.2.1 x q1 q2), hS.2.2⟩ hL hz
  by_cases hba : b = h
  · subst hba
    rw [mset_eq] at hb
    cases hb
    refine ⟨?_, _, hci, (u_born ty F.t (cls_ok ci _ hci).1 hKn hkC e1 hty).to hfs⟩
    have := F.B
    have := hS.1
    omega
  · rw [mset_ne _ _ hba] at hb
    exact ⟨(hm.2 _ _ hb).1, (hm.2 _ _ hb).2.kept (hk b ((hm.2 _ _ hb).2.lt))⟩
theorem V_newA (F : FX G X own cc ret d rc rs) {at_ : ArrayType} {ty : FieldType} {c : Int32} {N h : Nat} {a0 : vp_A} (j : Nat) (hw : Cond.arrayClass (newarray.typeOf at_) ∈ gtbl) (hty : newarray.typeOf at_ = ty) (hj : (tysOf (gT G))[j]? = some (gT G j, ty)) (hra : ∀ (U : State) (cA : ClassId), va_RA U cA ty → U.vm.findClass ("[" ++ ty.toString) = some cA) (ha : ∀ cA : ClassId, vp_cell cA a0 = arrV cA N (fun _ => defaultValue ty)) (hdg : decode cc pc = .ok (.newarray at_, 2)) (hn : ¬ c < 0) (hN : c.toNatClampNeg = N) (hb : N * componentBytes ty ≤ 536870912) (hc1 : cells + 1 ≤ rc) (hc2 : slots + N ≤ rs)
    (k : V G X (cells + 1) (slots + N) Q (mset M h (.inl (gT G j, a0))) (some (h + 1)) (pc + 2) L (.ref h :: st)) : V G X cells slots Q M (some h) pc L (.int c :: st) := fun H locs ls hm hS hL hz => by
  have hsz : H.size = h := hm.1 h rfl
  subst hty
  refine va_newaK F.x F.b (F.t _ hw) rfl hdg rfl hn hN hb (Nat.le_trans hc1 F.d.2.2.1) (Nat.le_trans hc2 F.d.2.2.2) hsz fun H1 cA e1 z1 o1 hAr hNm => ?_
  have hcA : cA = gT G j := Option.some.inj (hNm.symm.trans (hra _ _ (F.K.2 j _ hj).2))
  subst hcA
  have hk : ∀ q, q < H.size → H1[q]? = H[q]? := fun q hq => o1 q (by omega)
  refine k H1 locs ls ⟨fun q hq => by cases hq; exact z1, fun b e2 hb => ?_⟩ ⟨by have := hS.1; omega, fun x q1 q2 => (hk x (Nat.lt_of_lt_of_le q1 hS.1)).trans (hS.2.1 x q1 q2), hS.2.2⟩ hL hz
  by_cases hba : b = h
  · subst hba
    rw [mset_eq] at hb
    cases hb
    refine ⟨by have := F.B; have := hS.1; omega, ?_⟩
    show H1[b]? = some (vp_cell _ _)
    rw [ha]
    exact e1
  · rw [mset_ne _ _ hba] at hb
    exact ⟨(hm.2 _ _ hb).1, (hm.2 _ _ hb).2.kept (hk b ((hm.2 _ _ hb).2.lt))⟩
theorem V_newQ (F : FX G X own cc ret d rc rs) {i N h : Nat} {C : String} {c : Int32} (j : Nat) (hw : Cond.classLink own i C ∈ gtbl) (hw2 : va_AO C (xs X)) (hj : (tysOf (gT G))[j]? = some (gT G j, .object C)) (hdg : decode cc pc = .ok (.anewarray i, 3)) (hn : ¬ c < 0) (hN : c.toNatClampNeg = N) (hb : N * 4 ≤ 536870912) (hc1 : cells + 1 ≤ rc) (hc2 : slots + N ≤ rs)
    (k : V G X (cells + 1) (slots + N) Q (mset M h (eQ (gT G) j N (fun _ => none))) (some (h + 1)) (pc + 3) L (.ref h :: st)) : V G X cells slots Q M (some h) pc L (.int c :: st) := fun H locs ls hm hS hL hz => by
  have hsz : H.size = h := hm.1 h rfl
  subst hsz
  subst hN
  refine W.anew F.x F.b F.o (F.t _ hw) (va_AO.use hw2) rfl hdg rfl hn hb (Nat.le_trans hc1 F.d.2.2.1) (Nat.le_trans hc2 F.d.2.2.2) fun cA kA comp f1 f2 f3 f4 => ?_
  obtain ⟨kA2, comp2, g1, g2, g3, g4⟩ := (F.K.2 j _ hj).2
  have hcA : cA = gT G j := Option.some.inj (f1.symm.trans g4)
  subst hcA
  generalize hH1 : H.push ({ cls := gT G j, slots := Array.replicate c.toNatClampNeg .null, vm := .none } : Cell) = H1
  have z1 : H1.size = H.size + 1 := by rw [← hH1, Array.size_push]
  have e1 : H1[H.size]? = some (arrV (gT G j) c.toNatClampNeg (fun _ => .null)) := by rw [← hH1, Array.getElem?_push_size, ← arrV_new]
  have hk : ∀ q : Nat, q < H.size → H1[q]? = H[q]? := fun q hq => by rw [← hH1, Array.getElem?_push, if_neg (Nat.ne_of_lt hq)]
  refine k H1 locs ls ⟨fun q hq => by cases hq; exact z1, fun b e2 hb => ?_⟩ ⟨by have := hS.1; omega, fun x q1 q2 => (hk x (Nat.lt_of_lt_of_le q1 hS.1)).trans (hS.2.1 x q1 q2), hS.2.2⟩ hL hz
  by_cases hba : b = H.size
  · subst hba
    rw [mset_eq] at hb
    cases hb
    refine ⟨by have := F.B; have := hS.1; omega, ?_⟩
    show H1[H.size]? = some (vp_cell _ _)
    rw [vp_cell_q]
    exact e1
  · rw [mset_ne _ _ hba] at hb
    exact ⟨(hm.2 _ _ hb).1, (hm.2 _ _ hb).2.kept (hk b ((hm.2 _ _ hb).2.lt))⟩
theorem V_back {g : JFrame} {v0 : Nat} {mc ms : Nat} {st0 : List Value} {a : Array Value} {post : Option Value → Mem → Option Nat → Prop} {H : Heap} {locs : List Loc} {ls : Array Slot} (hS : va_S (fun q => gB G ≤ q) (xs X).heap H locs) (hL : hasL ls L) (hz : L.length = (xc X).maxLocals)
    (hr : va_Run (xp X) (gl G) (xe X) (xR X) (xs X) (xm X) (xa X) (xb X) (xmeth X) (xc X) H locs cells slots mc ms (F0 (xm X) pc ls st0) st (QQ G post a) (fun q => gB G ≤ q))
    (kk : ∀ v M' n', post v M' n' → V G X (cells + mc) (slots + ms) Q M' n' (pc + 3) L (v.toList ++ st)) : W (xp X) (gl G) (xe X) (xR X) (xs X) (xm X) (xa X) (xb X) (xmeth X) (xc X) H locs cells slots Q (F0 (xm X) pc ls st0) := by
  intro T hT Xs
  obtain ⟨v, st₀, t, T', Lc, h0, X', hLc, e1, e2, ⟨v', M', n', hv, hp, hm', hz', hk'⟩, stp⟩ := hr T hT Xs
  cases hv
  rw [h0] at hz' hk'
  obtain ⟨t2, a1, b1⟩ := kk v M' n' hp T'.heap (locs ++ Lc) ls (by rw [e1]; exact hm') ⟨Nat.le_trans hS.1 (by rw [e1]; exact hz'), fun q q1 q2 => by rw [e1, hk' q (Nat.lt_of_lt_of_le q1 hS.1) q2]; exact hS.2.1 q q1 q2, fun q hq => by
      rcases List.mem_append.mp hq with h | h
      · exact hS.2.2 q h
      · exact hLc q h⟩ hL hz T' rfl X'
  exact ⟨t2, stp t2 a1, b1⟩
theorem V_pre (F : FX G X own cc ret d rc rs) {H : Heap} {locs : List Loc} {av : List Value} (hm : mem G M n H) (hS : va_S (fun q => gB G ≤ q) (xs X).heap H locs) : ∀ U : State, U.heap = H → (xs X).WarmedH U.vm → va_Pc av (Pre G M n) av.toArray U := fun U hU hW => ⟨rfl, by rw [hU]; exact hm, va_K.moved hW.alike F.K, stat.moved hW.alike (stat.kept F.s (fun a q1 q2 => by rw [hU]; exact hS.2.1 a q1 q2)), nst.warm hW F.n, by rw [hU]; exact Nat.le_trans F.B hS.1⟩
theorem V_iv (F : FX G X own cc ret d rc rs) {i mL na dc mc ms a ci N : Nat} {y : MethodName} {cd : ByteArray} {rt : Option FieldType} {T : u_T} {fs As st0 : List Value} {post : Option Value → Mem → Option Nat → Prop} (w : IV own i y cd mL rt na) (hdg : decode cc pc = .ok (.invokevirtual i, 3)) (hc : Con G y cd mL rt dc mc ms (.ref a :: As) M n post) (hM : M a = some (eO ci fs)) (hci : vwCl[ci]? = some (y.cls, T, N)) (hst : st0 = As.reverse ++ .ref a :: st) (hn : As.length = na) (hd : dc + 1 ≤ d) (hmL : mL ≤ 17) (hc1 : cells + mc ≤ rc) (hc2 : slots + ms ≤ rs) (hW : (st.map fun v => v.category).sum ≤ 8)
    (kk : ∀ v M' n', post v M' n' → V G X (cells + mc) (slots + ms) Q M' n' (pc + 3) L (v.toList ++ st)) : V G X cells slots Q M n pc L st0 := fun H locs ls hm hS hL hz => by
  have h1 := F.d.1
  have h2 := F.d.2.1
  refine V_back (v0 := 0) (g := F0 (xm X) pc ls st0) hS hL hz (va_runV (As := As) (rest := st) (nL := L.length) ⟨F.x, F.b, hz.symm, F.o, F.t⟩ hc (cwV (C := y.cls) na F.t (tbl_in ?_) rfl rfl rfl ⟨rfl, w.2.2.2.2.2⟩ ⟨Nat.le_trans hd h1, ?_⟩) ⟨Pre.blind, ?_, V_pre F hm hS⟩ rfl hn hL.1 hst ?_ hdg ⟨Nat.le_trans hc1 F.d.2.2.1, Nat.le_trans hc2 F.d.2.2.2⟩) kk
  · intro q hq
    unfold wsV at hq
    simp only [List.cons_append, List.nil_append, List.mem_cons] at hq
    rcases hq with rfl | rfl | rfl | rfl | rfl | hq
    · exact w.1
    · exact w.2.1
    · exact w.2.2.1
    · exact w.2.2.2.1
    · exact w.2.2.2.2.1
    · exact hq
  · show 8 + (mL + 11) + 36 * dc ≤ _
    omega
  · exact va_recv F.K (mem.P hm hM) hci (ci := ci) (q0 := 0) rfl
  · show 2 * 0 + _ ≤ 8
    omega
theorem V_is (F : FX G X own cc ret d rc rs) {i mL na dc mc ms : Nat} {y : MethodName} {cd : ByteArray} {rt : Option FieldType} {As st0 : List Value} {post : Option Value → Mem → Option Nat → Prop} (w : IS own i y cd mL rt na) (hdg : decode cc pc = .ok (.invokestatic i, 3)) (hc : Con G y cd mL rt dc mc ms As M n post) (hst : st0 = As.reverse ++ st) (hn : As.length = na) (hd : dc + 1 ≤ d) (hmL : mL ≤ 17) (hc1 : cells + mc ≤ rc) (hc2 : slots + ms ≤ rs) (hW : (st.map fun v => v.category).sum ≤ 8)
    (kk : ∀ v M' n', post v M' n' → V G X (cells + mc) (slots + ms) Q M' n' (pc + 3) L (v.toList ++ st)) : V G X cells slots Q M n pc L st0 := fun H locs ls hm hS hL hz => by
  have h1 := F.d.1
  have h2 := F.d.2.1
  refine V_back (v0 := 0) (g := F0 (xm X) pc ls st0) hS hL hz (va_runS (As := As) (rest := st) (nL := L.length) ⟨F.x, F.b, hz.symm, F.o, F.t⟩ hc (va_cwS na F.t (tbl_in ?_) rfl rfl rfl w.2.2.2.2 ⟨Nat.le_trans hd h1, ?_⟩) ⟨Pre.blind, V_pre F hm hS⟩ rfl hn hL.1 hst ?_ hdg ⟨Nat.le_trans hc1 F.d.2.2.1, Nat.le_trans hc2 F.d.2.2.2⟩) kk
  · intro q hq
    unfold va_wsS at hq
    simp only [List.cons_append, List.nil_append, List.mem_cons] at hq
    rcases hq with rfl | rfl | rfl | rfl | hq
    · exact w.1
    · exact w.2.1
    · exact w.2.2.1
    · exact w.2.2.2.1
    · exact hq
  · show 8 + (mL + 11) + 36 * dc ≤ _
    omega
  · show 2 * 0 + _ ≤ 8
    omega
theorem V_ic (F : FX G X own cc ret d rc rs) {i mL na dc mc ms a : Nat} {y : MethodName} {cd : ByteArray} {As st0 : List Value} {post : Option Value → Mem → Option Nat → Prop} (w : IC own i y cd mL na) (hdg : decode cc pc = .ok (.invokespecial i, 3)) (hc : Con G y cd mL none dc mc ms (.ref a :: As) M n post) (hst : st0 = As.reverse ++ .ref a :: st) (hn : As.length = na) (hd : dc + 1 ≤ d) (hmL : mL ≤ 17) (hc1 : cells + mc ≤ rc) (hc2 : slots + ms ≤ rs) (hW : (st.map fun v => v.category).sum ≤ 8)
    (kk : ∀ v M' n', post v M' n' → V G X (cells + mc) (slots + ms) Q M' n' (pc + 3) L (v.toList ++ st)) : V G X cells slots Q M n pc L st0 := fun H locs ls hm hS hL hz => by
  have h1 := F.d.1
  have h2 := F.d.2.1
  refine V_back (v0 := 0) (g := F0 (xm X) pc ls st0) hS hL hz (va_runI (As := As) (rest := st) (nL := L.length) ⟨F.x, F.b, hz.symm, F.o, F.t⟩ hc (cwI na F.t (tbl_in ?_) rfl rfl rfl (F.t _ w.2.2.1) (F.t _ w.1) (F.t _ w.2.1) w.2.2.2.2.1 w.2.2.2.2.2 ⟨Nat.le_trans hd h1, ?_⟩) ⟨Pre.blind, V_pre F hm hS⟩ rfl hn hL.1 hst ?_ hdg ⟨Nat.le_trans hc1 F.d.2.2.1, Nat.le_trans hc2 F.d.2.2.2⟩) kk
  · intro q hq
    rcases List.mem_cons.mp hq with rfl | hq
    · exact w.2.2.2.1
    · exact hq
  · show 8 + (mL + 11) + 36 * dc ≤ _
    omega
  · show 2 * 0 + _ ≤ 8
    omega
theorem V_ik (F : FX G X own cc ret d rc rs) {i mL na dc mc ms a : Nat} {y : MethodName} {host : String} {cd : ByteArray} {As st0 : List Value} {post : Option Value → Mem → Option Nat → Prop} (w : IK own i y host cd mL na) (hdg : decode cc pc = .ok (.invokespecial i, 3)) (hc : Con G y cd mL none dc mc ms (.ref a :: As) M n post) (hst : st0 = As.reverse ++ .ref a :: st) (hn : As.length = na) (hd : dc + 1 ≤ d) (hmL : mL ≤ 17) (hc1 : cells + mc ≤ rc) (hc2 : slots + ms ≤ rs) (hW : (st.map fun v => v.category).sum ≤ 8)
    (kk : ∀ v M' n', post v M' n' → V G X (cells + mc) (slots + ms) Q M' n' (pc + 3) L (v.toList ++ st)) : V G X cells slots Q M n pc L st0 := fun H locs ls hm hS hL hz => by
  have h1 := F.d.1
  have h2 := F.d.2.1
  refine V_back (v0 := 0) (g := F0 (xm X) pc ls st0) hS hL hz (va_runIN (As := As) (rest := st) (nL := L.length) ⟨F.x, F.b, hz.symm, F.o, F.t⟩ hc ⟨va_cnB na F.t (tbl_in ?_) rfl rfl rfl (F.n.1 _ w.1) (F.t _ w.2.2.1) w.2.2.2.2.2 ⟨Nat.le_trans hd h1, ?_⟩, w.2.2.2.2.1, F.t _ w.2.1⟩ ⟨Pre.blind, V_pre F hm hS⟩ rfl hn hL.1 hst ?_ hdg ⟨Nat.le_trans hc1 F.d.2.2.1, Nat.le_trans hc2 F.d.2.2.2⟩) kk
  · intro q hq
    rcases List.mem_cons.mp hq with rfl | hq
    · exact w.2.2.2.1
    · exact hq
  · show 8 + (mL + 11) + 36 * dc ≤ _
    omega
  · show 2 * 0 + _ ≤ 8
    omega
end VV
end
section
theorem ic_L_9 : IC RL 9 yX6_init cX6_init 2 0 := ⟨gt (List.mem_of_getElem? (i := 34) (by decide +kernel)) rfl, gt (List.mem_of_getElem? (i := 35) (by decide +kernel)) rfl, gt (List.mem_of_getElem? (i := 20) (by decide +kernel)) rfl, gt (List.mem_of_getElem? (i := 36) (by decide +kernel)) rfl, by decide +kernel⟩
theorem oi_X6_1 : Cond.methodLink RX6 1 objectInit ∈ gtbl := gt (List.mem_of_getElem? (i := 37) (by decide +kernel)) rfl
theorem oi_X1_3 : Cond.methodLink RX1 3 objectInit ∈ gtbl := gt (List.mem_of_getElem? (i := 49) (by decide +kernel)) rfl
theorem oi_X5_3 : Cond.methodLink RX5 3 objectInit ∈ gtbl := gt (List.mem_of_getElem? (i := 61) (by decide +kernel)) rfl
theorem ic_X6_41 : IC RX6 41 yX3_init cX3_init 2 0 := ⟨gt (List.mem_of_getElem? (i := 72) (by decide +kernel)) rfl, gt (List.mem_of_getElem? (i := 73) (by decide +kernel)) rfl, gt (List.mem_of_getElem? (i := 23) (by decide +kernel)) rfl, gt (List.mem_of_getElem? (i := 74) (by decide +kernel)) rfl, by decide +kernel⟩
theorem oi_X3_3 : Cond.methodLink RX3 3 objectInit ∈ gtbl := gt (List.mem_of_getElem? (i := 75) (by decide +kernel)) rfl
theorem oi_X2_3 : Cond.methodLink RX2 3 objectInit ∈ gtbl := gt (List.mem_of_getElem? (i := 97) (by decide +kernel)) rfl
theorem oi_X0_3 : Cond.methodLink RX0 3 objectInit ∈ gtbl := gt (List.mem_of_getElem? (i := 121) (by decide +kernel)) rfl
theorem oi_X4_3 : Cond.methodLink RX4 3 objectInit ∈ gtbl := gt (List.mem_of_getElem? (i := 138) (by decide +kernel)) rfl
theorem iv_L_13 : IV RL 13 yX6_bag cX6_bag 4 (some .int) 3 := ⟨gt (List.mem_of_getElem? (i := 187) (by decide +kernel)) rfl, gt (List.mem_of_getElem? (i := 188) (by decide +kernel)) rfl, gt (List.mem_of_getElem? (i := 189) (by decide +kernel)) rfl, gt (List.mem_of_getElem? (i := 20) (by decide +kernel)) rfl, gt (List.mem_of_getElem? (i := 190) (by decide +kernel)) rfl, by decide +kernel⟩
theorem is_X6_58 : IS RX6 58 yX6_isBag cX6_isBag 1 (some .boolean) 1 := ⟨gt (List.mem_of_getElem? (i := 191) (by decide +kernel)) rfl, gt (List.mem_of_getElem? (i := 192) (by decide +kernel)) rfl, gt (List.mem_of_getElem? (i := 20) (by decide +kernel)) rfl, gt (List.mem_of_getElem? (i := 193) (by decide +kernel)) rfl, by decide +kernel⟩
theorem iv_X6_62 : IV RX6 62 yX0_become cX0_become 3 none 2 := ⟨gt (List.mem_of_getElem? (i := 194) (by decide +kernel)) rfl, gt (List.mem_of_getElem? (i := 195) (by decide +kernel)) rfl, gt (List.mem_of_getElem? (i := 196) (by decide +kernel)) rfl, gt (List.mem_of_getElem? (i := 25) (by decide +kernel)) rfl, gt (List.mem_of_getElem? (i := 197) (by decide +kernel)) rfl, by decide +kernel⟩
theorem is_X0_22 : IS RX0 22 yJ7_fill_d0a16 cJ7_fill_d0a16 5 none 2 := ⟨gt (List.mem_of_getElem? (i := 198) (by decide +kernel)) rfl, gt (List.mem_of_getElem? (i := 199) (by decide +kernel)) rfl, gt (List.mem_of_getElem? (i := 28) (by decide +kernel)) rfl, gt (List.mem_of_getElem? (i := 200) (by decide +kernel)) rfl, by decide +kernel⟩
theorem iv_L_20 : IV RL 20 yX6_put cX6_put 6 (some .int) 3 := ⟨gt (List.mem_of_getElem? (i := 201) (by decide +kernel)) rfl, gt (List.mem_of_getElem? (i := 202) (by decide +kernel)) rfl, gt (List.mem_of_getElem? (i := 203) (by decide +kernel)) rfl, gt (List.mem_of_getElem? (i := 20) (by decide +kernel)) rfl, gt (List.mem_of_getElem? (i := 204) (by decide +kernel)) rfl, by decide +kernel⟩
theorem iv_X6_66 : IV RX6 66 yX6_refusalOfPlaces cX6_refusalOfPlaces 4 (some .int) 3 := ⟨gt (List.mem_of_getElem? (i := 205) (by decide +kernel)) rfl, gt (List.mem_of_getElem? (i := 207) (by decide +kernel)) rfl, gt (List.mem_of_getElem? (i := 0) (by decide +kernel)) rfl, gt (List.mem_of_getElem? (i := 20) (by decide +kernel)) rfl, gt (List.mem_of_getElem? (i := 208) (by decide +kernel)) rfl, by decide +kernel⟩
theorem iv_X6_77 : IV RX6 77 yX0_hasPlaces cX0_hasPlaces 3 (some .boolean) 2 := ⟨gt (List.mem_of_getElem? (i := 209) (by decide +kernel)) rfl, gt (List.mem_of_getElem? (i := 210) (by decide +kernel)) rfl, gt (List.mem_of_getElem? (i := 211) (by decide +kernel)) rfl, gt (List.mem_of_getElem? (i := 25) (by decide +kernel)) rfl, gt (List.mem_of_getElem? (i := 212) (by decide +kernel)) rfl, by decide +kernel⟩
theorem iv_X6_70 : IV RX6 70 yX0_keep cX0_keep 4 none 2 := ⟨gt (List.mem_of_getElem? (i := 213) (by decide +kernel)) rfl, gt (List.mem_of_getElem? (i := 214) (by decide +kernel)) rfl, gt (List.mem_of_getElem? (i := 215) (by decide +kernel)) rfl, gt (List.mem_of_getElem? (i := 25) (by decide +kernel)) rfl, gt (List.mem_of_getElem? (i := 216) (by decide +kernel)) rfl, by decide +kernel⟩
theorem iv_L_25 : IV RL 25 yX6_copy cX6_copy 8 (some .int) 5 := ⟨gt (List.mem_of_getElem? (i := 217) (by decide +kernel)) rfl, gt (List.mem_of_getElem? (i := 218) (by decide +kernel)) rfl, gt (List.mem_of_getElem? (i := 219) (by decide +kernel)) rfl, gt (List.mem_of_getElem? (i := 20) (by decide +kernel)) rfl, gt (List.mem_of_getElem? (i := 220) (by decide +kernel)) rfl, by decide +kernel⟩
theorem ac_X6_85 : Cond.methodLink RX6 85 arraycopyName ∈ gtbl := gt (List.mem_of_getElem? (i := 221) (by decide +kernel)) rfl
theorem iv_L_30 : IV RL 30 yX6_holds cX6_holds 6 (some .int) 3 := ⟨gt (List.mem_of_getElem? (i := 224) (by decide +kernel)) rfl, gt (List.mem_of_getElem? (i := 225) (by decide +kernel)) rfl, gt (List.mem_of_getElem? (i := 226) (by decide +kernel)) rfl, gt (List.mem_of_getElem? (i := 20) (by decide +kernel)) rfl, gt (List.mem_of_getElem? (i := 227) (by decide +kernel)) rfl, by decide +kernel⟩
theorem iv_L_34 : IV RL 34 yX6_quad cX6_quad 4 (some .int) 2 := ⟨gt (List.mem_of_getElem? (i := 228) (by decide +kernel)) rfl, gt (List.mem_of_getElem? (i := 229) (by decide +kernel)) rfl, gt (List.mem_of_getElem? (i := 230) (by decide +kernel)) rfl, gt (List.mem_of_getElem? (i := 20) (by decide +kernel)) rfl, gt (List.mem_of_getElem? (i := 231) (by decide +kernel)) rfl, by decide +kernel⟩
theorem iv_X6_94 : IV RX6 94 yX1_refusal cX1_refusal 2 (some .int) 0 := ⟨gt (List.mem_of_getElem? (i := 232) (by decide +kernel)) rfl, gt (List.mem_of_getElem? (i := 233) (by decide +kernel)) rfl, gt (List.mem_of_getElem? (i := 234) (by decide +kernel)) rfl, gt (List.mem_of_getElem? (i := 21) (by decide +kernel)) rfl, gt (List.mem_of_getElem? (i := 235) (by decide +kernel)) rfl, by decide +kernel⟩
theorem iv_X1_59 : IV RX1 59 yX1_isBendRefused cX1_isBendRefused 2 (some .boolean) 1 := ⟨gt (List.mem_of_getElem? (i := 236) (by decide +kernel)) rfl, gt (List.mem_of_getElem? (i := 237) (by decide +kernel)) rfl, gt (List.mem_of_getElem? (i := 238) (by decide +kernel)) rfl, gt (List.mem_of_getElem? (i := 21) (by decide +kernel)) rfl, gt (List.mem_of_getElem? (i := 239) (by decide +kernel)) rfl, by decide +kernel⟩
theorem iv_X1_36 : IV RX1 36 yX1_bend cX1_bend 2 (some .long) 1 := ⟨gt (List.mem_of_getElem? (i := 240) (by decide +kernel)) rfl, gt (List.mem_of_getElem? (i := 241) (by decide +kernel)) rfl, gt (List.mem_of_getElem? (i := 242) (by decide +kernel)) rfl, gt (List.mem_of_getElem? (i := 21) (by decide +kernel)) rfl, gt (List.mem_of_getElem? (i := 243) (by decide +kernel)) rfl, by decide +kernel⟩
theorem iv_X1_62 : IV RX1 62 yX1_isPlaceRefused cX1_isPlaceRefused 2 (some .boolean) 1 := ⟨gt (List.mem_of_getElem? (i := 246) (by decide +kernel)) rfl, gt (List.mem_of_getElem? (i := 247) (by decide +kernel)) rfl, gt (List.mem_of_getElem? (i := 248) (by decide +kernel)) rfl, gt (List.mem_of_getElem? (i := 21) (by decide +kernel)) rfl, gt (List.mem_of_getElem? (i := 249) (by decide +kernel)) rfl, by decide +kernel⟩
theorem iv_X1_21 : IV RX1 21 yX1_told cX1_told 3 (some .long) 2 := ⟨gt (List.mem_of_getElem? (i := 250) (by decide +kernel)) rfl, gt (List.mem_of_getElem? (i := 251) (by decide +kernel)) rfl, gt (List.mem_of_getElem? (i := 252) (by decide +kernel)) rfl, gt (List.mem_of_getElem? (i := 21) (by decide +kernel)) rfl, gt (List.mem_of_getElem? (i := 253) (by decide +kernel)) rfl, by decide +kernel⟩
theorem is_X1_69 : IS RX1 69 yX1_isBeyond cX1_isBeyond 2 (some .boolean) 1 := ⟨gt (List.mem_of_getElem? (i := 254) (by decide +kernel)) rfl, gt (List.mem_of_getElem? (i := 255) (by decide +kernel)) rfl, gt (List.mem_of_getElem? (i := 21) (by decide +kernel)) rfl, gt (List.mem_of_getElem? (i := 256) (by decide +kernel)) rfl, by decide +kernel⟩
theorem iv_X1_77 : IV RX1 77 yX1_doBendsStand cX1_doBendsStand 5 (some .boolean) 0 := ⟨gt (List.mem_of_getElem? (i := 259) (by decide +kernel)) rfl, gt (List.mem_of_getElem? (i := 260) (by decide +kernel)) rfl, gt (List.mem_of_getElem? (i := 261) (by decide +kernel)) rfl, gt (List.mem_of_getElem? (i := 21) (by decide +kernel)) rfl, gt (List.mem_of_getElem? (i := 262) (by decide +kernel)) rfl, by decide +kernel⟩
theorem iv_X1_27 : IV RX1 27 yX1_sum cX1_sum 2 (some .long) 1 := ⟨gt (List.mem_of_getElem? (i := 263) (by decide +kernel)) rfl, gt (List.mem_of_getElem? (i := 264) (by decide +kernel)) rfl, gt (List.mem_of_getElem? (i := 265) (by decide +kernel)) rfl, gt (List.mem_of_getElem? (i := 21) (by decide +kernel)) rfl, gt (List.mem_of_getElem? (i := 266) (by decide +kernel)) rfl, by decide +kernel⟩
theorem iv_X1_81 : IV RX1 81 yX1_bendsBelowZero cX1_bendsBelowZero 3 (some .int) 0 := ⟨gt (List.mem_of_getElem? (i := 268) (by decide +kernel)) rfl, gt (List.mem_of_getElem? (i := 269) (by decide +kernel)) rfl, gt (List.mem_of_getElem? (i := 270) (by decide +kernel)) rfl, gt (List.mem_of_getElem? (i := 21) (by decide +kernel)) rfl, gt (List.mem_of_getElem? (i := 271) (by decide +kernel)) rfl, by decide +kernel⟩
theorem iv_X1_84 : IV RX1 84 yX1_divisorOfBends cX1_divisorOfBends 9 (some .long) 0 := ⟨gt (List.mem_of_getElem? (i := 272) (by decide +kernel)) rfl, gt (List.mem_of_getElem? (i := 273) (by decide +kernel)) rfl, gt (List.mem_of_getElem? (i := 274) (by decide +kernel)) rfl, gt (List.mem_of_getElem? (i := 21) (by decide +kernel)) rfl, gt (List.mem_of_getElem? (i := 275) (by decide +kernel)) rfl, by decide +kernel⟩
theorem is_X1_91 : IS RX1 91 yJ9_abs_067f4 cJ9_abs_067f4 2 (some .long) 1 := ⟨gt (List.mem_of_getElem? (i := 276) (by decide +kernel)) rfl, gt (List.mem_of_getElem? (i := 277) (by decide +kernel)) rfl, gt (List.mem_of_getElem? (i := 30) (by decide +kernel)) rfl, gt (List.mem_of_getElem? (i := 278) (by decide +kernel)) rfl, by decide +kernel⟩
theorem iv_X1_88 : IV RX1 88 yX1_doAllTouch cX1_doAllTouch 3 (some .boolean) 0 := ⟨gt (List.mem_of_getElem? (i := 279) (by decide +kernel)) rfl, gt (List.mem_of_getElem? (i := 280) (by decide +kernel)) rfl, gt (List.mem_of_getElem? (i := 281) (by decide +kernel)) rfl, gt (List.mem_of_getElem? (i := 21) (by decide +kernel)) rfl, gt (List.mem_of_getElem? (i := 282) (by decide +kernel)) rfl, by decide +kernel⟩
theorem iv_X1_97 : IV RX1 97 yX1_touches cX1_touches 12 (some .boolean) 3 := ⟨gt (List.mem_of_getElem? (i := 283) (by decide +kernel)) rfl, gt (List.mem_of_getElem? (i := 284) (by decide +kernel)) rfl, gt (List.mem_of_getElem? (i := 285) (by decide +kernel)) rfl, gt (List.mem_of_getElem? (i := 21) (by decide +kernel)) rfl, gt (List.mem_of_getElem? (i := 286) (by decide +kernel)) rfl, by decide +kernel⟩
theorem iv_X6_98 : IV RX6 98 yX5_gather cX5_gather 6 (some .int) 1 := ⟨gt (List.mem_of_getElem? (i := 287) (by decide +kernel)) rfl, gt (List.mem_of_getElem? (i := 288) (by decide +kernel)) rfl, gt (List.mem_of_getElem? (i := 289) (by decide +kernel)) rfl, gt (List.mem_of_getElem? (i := 22) (by decide +kernel)) rfl, gt (List.mem_of_getElem? (i := 290) (by decide +kernel)) rfl, by decide +kernel⟩
theorem iv_X5_24 : IV RX5 24 yX1_bend cX1_bend 2 (some .long) 1 := ⟨gt (List.mem_of_getElem? (i := 293) (by decide +kernel)) rfl, gt (List.mem_of_getElem? (i := 241) (by decide +kernel)) rfl, gt (List.mem_of_getElem? (i := 242) (by decide +kernel)) rfl, gt (List.mem_of_getElem? (i := 21) (by decide +kernel)) rfl, gt (List.mem_of_getElem? (i := 243) (by decide +kernel)) rfl, by decide +kernel⟩
theorem is_X5_30 : IS RX5 30 yJ9_floorMod_f86c9 cJ9_floorMod_f86c9 6 (some .long) 2 := ⟨gt (List.mem_of_getElem? (i := 295) (by decide +kernel)) rfl, gt (List.mem_of_getElem? (i := 296) (by decide +kernel)) rfl, gt (List.mem_of_getElem? (i := 30) (by decide +kernel)) rfl, gt (List.mem_of_getElem? (i := 297) (by decide +kernel)) rfl, by decide +kernel⟩
theorem iv_X5_36 : IV RX5 36 yX5_enter cX5_enter 3 none 1 := ⟨gt (List.mem_of_getElem? (i := 298) (by decide +kernel)) rfl, gt (List.mem_of_getElem? (i := 299) (by decide +kernel)) rfl, gt (List.mem_of_getElem? (i := 300) (by decide +kernel)) rfl, gt (List.mem_of_getElem? (i := 22) (by decide +kernel)) rfl, gt (List.mem_of_getElem? (i := 301) (by decide +kernel)) rfl, by decide +kernel⟩
theorem is_X5_40 : IS RX5 40 yX5_digit cX5_digit 2 (some .int) 2 := ⟨gt (List.mem_of_getElem? (i := 302) (by decide +kernel)) rfl, gt (List.mem_of_getElem? (i := 303) (by decide +kernel)) rfl, gt (List.mem_of_getElem? (i := 22) (by decide +kernel)) rfl, gt (List.mem_of_getElem? (i := 304) (by decide +kernel)) rfl, by decide +kernel⟩
theorem is_X5_44 : IS RX5 44 yX5_swapped cX5_swapped 4 (some .int) 2 := ⟨gt (List.mem_of_getElem? (i := 305) (by decide +kernel)) rfl, gt (List.mem_of_getElem? (i := 306) (by decide +kernel)) rfl, gt (List.mem_of_getElem? (i := 22) (by decide +kernel)) rfl, gt (List.mem_of_getElem? (i := 307) (by decide +kernel)) rfl, by decide +kernel⟩
theorem is_X5_47 : IS RX5 47 yJ9_floorMod_7cf53 cJ9_floorMod_7cf53 3 (some .int) 2 := ⟨gt (List.mem_of_getElem? (i := 308) (by decide +kernel)) rfl, gt (List.mem_of_getElem? (i := 309) (by decide +kernel)) rfl, gt (List.mem_of_getElem? (i := 30) (by decide +kernel)) rfl, gt (List.mem_of_getElem? (i := 310) (by decide +kernel)) rfl, by decide +kernel⟩
theorem iv_X6_102 : IV RX6 102 yX6_keepDesk cX6_keepDesk 3 (some .int) 2 := ⟨gt (List.mem_of_getElem? (i := 311) (by decide +kernel)) rfl, gt (List.mem_of_getElem? (i := 313) (by decide +kernel)) rfl, gt (List.mem_of_getElem? (i := 1) (by decide +kernel)) rfl, gt (List.mem_of_getElem? (i := 20) (by decide +kernel)) rfl, gt (List.mem_of_getElem? (i := 314) (by decide +kernel)) rfl, by decide +kernel⟩
theorem iv_X6_189 : IV RX6 189 yX4_become cX4_become 4 none 3 := ⟨gt (List.mem_of_getElem? (i := 315) (by decide +kernel)) rfl, gt (List.mem_of_getElem? (i := 316) (by decide +kernel)) rfl, gt (List.mem_of_getElem? (i := 317) (by decide +kernel)) rfl, gt (List.mem_of_getElem? (i := 26) (by decide +kernel)) rfl, gt (List.mem_of_getElem? (i := 318) (by decide +kernel)) rfl, by decide +kernel⟩
theorem iv_X4_31 : IV RX4 31 yX1_take cX1_take 2 none 1 := ⟨gt (List.mem_of_getElem? (i := 319) (by decide +kernel)) rfl, gt (List.mem_of_getElem? (i := 320) (by decide +kernel)) rfl, gt (List.mem_of_getElem? (i := 321) (by decide +kernel)) rfl, gt (List.mem_of_getElem? (i := 21) (by decide +kernel)) rfl, gt (List.mem_of_getElem? (i := 322) (by decide +kernel)) rfl, by decide +kernel⟩
theorem ac_X1_15 : Cond.methodLink RX1 15 arraycopyName ∈ gtbl := gt (List.mem_of_getElem? (i := 323) (by decide +kernel)) rfl
theorem iv_X4_36 : IV RX4 36 yX1_goDown cX1_goDown 4 (some .int) 1 := ⟨gt (List.mem_of_getElem? (i := 325) (by decide +kernel)) rfl, gt (List.mem_of_getElem? (i := 326) (by decide +kernel)) rfl, gt (List.mem_of_getElem? (i := 327) (by decide +kernel)) rfl, gt (List.mem_of_getElem? (i := 21) (by decide +kernel)) rfl, gt (List.mem_of_getElem? (i := 328) (by decide +kernel)) rfl, by decide +kernel⟩
theorem iv_X1_39 : IV RX1 39 yX1_greatest cX1_greatest 3 (some .int) 0 := ⟨gt (List.mem_of_getElem? (i := 329) (by decide +kernel)) rfl, gt (List.mem_of_getElem? (i := 330) (by decide +kernel)) rfl, gt (List.mem_of_getElem? (i := 331) (by decide +kernel)) rfl, gt (List.mem_of_getElem? (i := 21) (by decide +kernel)) rfl, gt (List.mem_of_getElem? (i := 332) (by decide +kernel)) rfl, by decide +kernel⟩
theorem iv_X1_33 : IV RX1 33 yX1_turned cX1_turned 3 (some .long) 2 := ⟨gt (List.mem_of_getElem? (i := 333) (by decide +kernel)) rfl, gt (List.mem_of_getElem? (i := 334) (by decide +kernel)) rfl, gt (List.mem_of_getElem? (i := 335) (by decide +kernel)) rfl, gt (List.mem_of_getElem? (i := 21) (by decide +kernel)) rfl, gt (List.mem_of_getElem? (i := 336) (by decide +kernel)) rfl, by decide +kernel⟩
theorem iv_X1_43 : IV RX1 43 yX1_turn cX1_turn 3 none 1 := ⟨gt (List.mem_of_getElem? (i := 338) (by decide +kernel)) rfl, gt (List.mem_of_getElem? (i := 339) (by decide +kernel)) rfl, gt (List.mem_of_getElem? (i := 340) (by decide +kernel)) rfl, gt (List.mem_of_getElem? (i := 21) (by decide +kernel)) rfl, gt (List.mem_of_getElem? (i := 341) (by decide +kernel)) rfl, by decide +kernel⟩
theorem iv_L_39 : IV RL 39 yX6_swap cX6_swap 4 (some .int) 2 := ⟨gt (List.mem_of_getElem? (i := 342) (by decide +kernel)) rfl, gt (List.mem_of_getElem? (i := 343) (by decide +kernel)) rfl, gt (List.mem_of_getElem? (i := 344) (by decide +kernel)) rfl, gt (List.mem_of_getElem? (i := 20) (by decide +kernel)) rfl, gt (List.mem_of_getElem? (i := 345) (by decide +kernel)) rfl, by decide +kernel⟩
theorem iv_X6_106 : IV RX6 106 yX6_isQuad cX6_isQuad 2 (some .boolean) 1 := ⟨gt (List.mem_of_getElem? (i := 346) (by decide +kernel)) rfl, gt (List.mem_of_getElem? (i := 348) (by decide +kernel)) rfl, gt (List.mem_of_getElem? (i := 2) (by decide +kernel)) rfl, gt (List.mem_of_getElem? (i := 20) (by decide +kernel)) rfl, gt (List.mem_of_getElem? (i := 349) (by decide +kernel)) rfl, by decide +kernel⟩
theorem is_X6_109 : IS RX6 109 yX6_isCoin cX6_isCoin 1 (some .boolean) 1 := ⟨gt (List.mem_of_getElem? (i := 350) (by decide +kernel)) rfl, gt (List.mem_of_getElem? (i := 351) (by decide +kernel)) rfl, gt (List.mem_of_getElem? (i := 20) (by decide +kernel)) rfl, gt (List.mem_of_getElem? (i := 352) (by decide +kernel)) rfl, by decide +kernel⟩
theorem iv_X6_115 : IV RX6 115 yX1_take cX1_take 2 none 1 := ⟨gt (List.mem_of_getElem? (i := 353) (by decide +kernel)) rfl, gt (List.mem_of_getElem? (i := 320) (by decide +kernel)) rfl, gt (List.mem_of_getElem? (i := 321) (by decide +kernel)) rfl, gt (List.mem_of_getElem? (i := 21) (by decide +kernel)) rfl, gt (List.mem_of_getElem? (i := 322) (by decide +kernel)) rfl, by decide +kernel⟩
theorem iv_X6_119 : IV RX6 119 yX1_turn cX1_turn 3 none 1 := ⟨gt (List.mem_of_getElem? (i := 354) (by decide +kernel)) rfl, gt (List.mem_of_getElem? (i := 339) (by decide +kernel)) rfl, gt (List.mem_of_getElem? (i := 340) (by decide +kernel)) rfl, gt (List.mem_of_getElem? (i := 21) (by decide +kernel)) rfl, gt (List.mem_of_getElem? (i := 341) (by decide +kernel)) rfl, by decide +kernel⟩
theorem iv_X6_123 : IV RX6 123 yX1_refusalOfCoin cX1_refusalOfCoin 2 (some .int) 1 := ⟨gt (List.mem_of_getElem? (i := 355) (by decide +kernel)) rfl, gt (List.mem_of_getElem? (i := 356) (by decide +kernel)) rfl, gt (List.mem_of_getElem? (i := 357) (by decide +kernel)) rfl, gt (List.mem_of_getElem? (i := 21) (by decide +kernel)) rfl, gt (List.mem_of_getElem? (i := 358) (by decide +kernel)) rfl, by decide +kernel⟩
theorem iv_L_43 : IV RL 43 yX6_coin cX6_coin 4 (some .int) 3 := ⟨gt (List.mem_of_getElem? (i := 359) (by decide +kernel)) rfl, gt (List.mem_of_getElem? (i := 360) (by decide +kernel)) rfl, gt (List.mem_of_getElem? (i := 361) (by decide +kernel)) rfl, gt (List.mem_of_getElem? (i := 20) (by decide +kernel)) rfl, gt (List.mem_of_getElem? (i := 362) (by decide +kernel)) rfl, by decide +kernel⟩
theorem is_X6_130 : IS RX6 130 yX6_isWhat cX6_isWhat 1 (some .boolean) 1 := ⟨gt (List.mem_of_getElem? (i := 363) (by decide +kernel)) rfl, gt (List.mem_of_getElem? (i := 364) (by decide +kernel)) rfl, gt (List.mem_of_getElem? (i := 20) (by decide +kernel)) rfl, gt (List.mem_of_getElem? (i := 365) (by decide +kernel)) rfl, by decide +kernel⟩
theorem iv_X6_134 : IV RX6 134 yX1_told cX1_told 3 (some .long) 2 := ⟨gt (List.mem_of_getElem? (i := 367) (by decide +kernel)) rfl, gt (List.mem_of_getElem? (i := 251) (by decide +kernel)) rfl, gt (List.mem_of_getElem? (i := 252) (by decide +kernel)) rfl, gt (List.mem_of_getElem? (i := 21) (by decide +kernel)) rfl, gt (List.mem_of_getElem? (i := 253) (by decide +kernel)) rfl, by decide +kernel⟩
theorem iv_L_47 : IV RL 47 yX6_from cX6_from 2 (some .int) 1 := ⟨gt (List.mem_of_getElem? (i := 368) (by decide +kernel)) rfl, gt (List.mem_of_getElem? (i := 369) (by decide +kernel)) rfl, gt (List.mem_of_getElem? (i := 370) (by decide +kernel)) rfl, gt (List.mem_of_getElem? (i := 20) (by decide +kernel)) rfl, gt (List.mem_of_getElem? (i := 371) (by decide +kernel)) rfl, by decide +kernel⟩
theorem iv_L_52 : IV RL 52 yX6_steps cX6_steps 2 (some .int) 1 := ⟨gt (List.mem_of_getElem? (i := 372) (by decide +kernel)) rfl, gt (List.mem_of_getElem? (i := 373) (by decide +kernel)) rfl, gt (List.mem_of_getElem? (i := 374) (by decide +kernel)) rfl, gt (List.mem_of_getElem? (i := 20) (by decide +kernel)) rfl, gt (List.mem_of_getElem? (i := 375) (by decide +kernel)) rfl, by decide +kernel⟩
theorem iv_L_56 : IV RL 56 yX6_step cX6_step 3 (some .int) 2 := ⟨gt (List.mem_of_getElem? (i := 376) (by decide +kernel)) rfl, gt (List.mem_of_getElem? (i := 377) (by decide +kernel)) rfl, gt (List.mem_of_getElem? (i := 378) (by decide +kernel)) rfl, gt (List.mem_of_getElem? (i := 20) (by decide +kernel)) rfl, gt (List.mem_of_getElem? (i := 379) (by decide +kernel)) rfl, by decide +kernel⟩
theorem iv_X6_144 : IV RX6 144 yX1_goDown cX1_goDown 4 (some .int) 1 := ⟨gt (List.mem_of_getElem? (i := 380) (by decide +kernel)) rfl, gt (List.mem_of_getElem? (i := 326) (by decide +kernel)) rfl, gt (List.mem_of_getElem? (i := 327) (by decide +kernel)) rfl, gt (List.mem_of_getElem? (i := 21) (by decide +kernel)) rfl, gt (List.mem_of_getElem? (i := 328) (by decide +kernel)) rfl, by decide +kernel⟩
theorem iv_X6_147 : IV RX6 147 yX1_greatest cX1_greatest 3 (some .int) 0 := ⟨gt (List.mem_of_getElem? (i := 381) (by decide +kernel)) rfl, gt (List.mem_of_getElem? (i := 330) (by decide +kernel)) rfl, gt (List.mem_of_getElem? (i := 331) (by decide +kernel)) rfl, gt (List.mem_of_getElem? (i := 21) (by decide +kernel)) rfl, gt (List.mem_of_getElem? (i := 332) (by decide +kernel)) rfl, by decide +kernel⟩
theorem iv_L_60 : IV RL 60 yX6_root cX6_root 4 (some .int) 3 := ⟨gt (List.mem_of_getElem? (i := 382) (by decide +kernel)) rfl, gt (List.mem_of_getElem? (i := 383) (by decide +kernel)) rfl, gt (List.mem_of_getElem? (i := 384) (by decide +kernel)) rfl, gt (List.mem_of_getElem? (i := 20) (by decide +kernel)) rfl, gt (List.mem_of_getElem? (i := 385) (by decide +kernel)) rfl, by decide +kernel⟩
theorem iv_L_64 : IV RL 64 yX6_same cX6_same 3 (some .int) 2 := ⟨gt (List.mem_of_getElem? (i := 386) (by decide +kernel)) rfl, gt (List.mem_of_getElem? (i := 387) (by decide +kernel)) rfl, gt (List.mem_of_getElem? (i := 388) (by decide +kernel)) rfl, gt (List.mem_of_getElem? (i := 20) (by decide +kernel)) rfl, gt (List.mem_of_getElem? (i := 389) (by decide +kernel)) rfl, by decide +kernel⟩
theorem iv_X6_153 : IV RX6 153 yX1_hasBendsOf cX1_hasBendsOf 3 (some .boolean) 1 := ⟨gt (List.mem_of_getElem? (i := 390) (by decide +kernel)) rfl, gt (List.mem_of_getElem? (i := 391) (by decide +kernel)) rfl, gt (List.mem_of_getElem? (i := 392) (by decide +kernel)) rfl, gt (List.mem_of_getElem? (i := 21) (by decide +kernel)) rfl, gt (List.mem_of_getElem? (i := 393) (by decide +kernel)) rfl, by decide +kernel⟩
theorem iv_X1_55 : IV RX1 55 yX1_timesOf cX1_timesOf 5 (some .int) 1 := ⟨gt (List.mem_of_getElem? (i := 394) (by decide +kernel)) rfl, gt (List.mem_of_getElem? (i := 395) (by decide +kernel)) rfl, gt (List.mem_of_getElem? (i := 396) (by decide +kernel)) rfl, gt (List.mem_of_getElem? (i := 21) (by decide +kernel)) rfl, gt (List.mem_of_getElem? (i := 397) (by decide +kernel)) rfl, by decide +kernel⟩
theorem iv_L_68 : IV RL 68 yX6_touch cX6_touch 5 (some .int) 4 := ⟨gt (List.mem_of_getElem? (i := 398) (by decide +kernel)) rfl, gt (List.mem_of_getElem? (i := 399) (by decide +kernel)) rfl, gt (List.mem_of_getElem? (i := 400) (by decide +kernel)) rfl, gt (List.mem_of_getElem? (i := 20) (by decide +kernel)) rfl, gt (List.mem_of_getElem? (i := 401) (by decide +kernel)) rfl, by decide +kernel⟩
theorem iv_X6_157 : IV RX6 157 yX1_touches cX1_touches 12 (some .boolean) 3 := ⟨gt (List.mem_of_getElem? (i := 402) (by decide +kernel)) rfl, gt (List.mem_of_getElem? (i := 284) (by decide +kernel)) rfl, gt (List.mem_of_getElem? (i := 285) (by decide +kernel)) rfl, gt (List.mem_of_getElem? (i := 21) (by decide +kernel)) rfl, gt (List.mem_of_getElem? (i := 286) (by decide +kernel)) rfl, by decide +kernel⟩
theorem iv_L_73 : IV RL 73 yX6_list cX6_list 4 (some .int) 2 := ⟨gt (List.mem_of_getElem? (i := 403) (by decide +kernel)) rfl, gt (List.mem_of_getElem? (i := 404) (by decide +kernel)) rfl, gt (List.mem_of_getElem? (i := 405) (by decide +kernel)) rfl, gt (List.mem_of_getElem? (i := 20) (by decide +kernel)) rfl, gt (List.mem_of_getElem? (i := 406) (by decide +kernel)) rfl, by decide +kernel⟩
theorem iv_X6_161 : IV RX6 161 yX2_begin cX2_begin 3 none 2 := ⟨gt (List.mem_of_getElem? (i := 407) (by decide +kernel)) rfl, gt (List.mem_of_getElem? (i := 408) (by decide +kernel)) rfl, gt (List.mem_of_getElem? (i := 409) (by decide +kernel)) rfl, gt (List.mem_of_getElem? (i := 24) (by decide +kernel)) rfl, gt (List.mem_of_getElem? (i := 410) (by decide +kernel)) rfl, by decide +kernel⟩
theorem iv_X6_164 : IV RX6 164 yX3_gather cX3_gather 4 (some .boolean) 2 := ⟨gt (List.mem_of_getElem? (i := 411) (by decide +kernel)) rfl, gt (List.mem_of_getElem? (i := 412) (by decide +kernel)) rfl, gt (List.mem_of_getElem? (i := 413) (by decide +kernel)) rfl, gt (List.mem_of_getElem? (i := 23) (by decide +kernel)) rfl, gt (List.mem_of_getElem? (i := 414) (by decide +kernel)) rfl, by decide +kernel⟩
theorem iv_X3_30 : IV RX3 30 yX1_bend cX1_bend 2 (some .long) 1 := ⟨gt (List.mem_of_getElem? (i := 415) (by decide +kernel)) rfl, gt (List.mem_of_getElem? (i := 241) (by decide +kernel)) rfl, gt (List.mem_of_getElem? (i := 242) (by decide +kernel)) rfl, gt (List.mem_of_getElem? (i := 21) (by decide +kernel)) rfl, gt (List.mem_of_getElem? (i := 243) (by decide +kernel)) rfl, by decide +kernel⟩
theorem iv_X3_39 : IV RX3 39 yX2_enter cX2_enter 5 (some .boolean) 2 := ⟨gt (List.mem_of_getElem? (i := 416) (by decide +kernel)) rfl, gt (List.mem_of_getElem? (i := 417) (by decide +kernel)) rfl, gt (List.mem_of_getElem? (i := 418) (by decide +kernel)) rfl, gt (List.mem_of_getElem? (i := 24) (by decide +kernel)) rfl, gt (List.mem_of_getElem? (i := 419) (by decide +kernel)) rfl, by decide +kernel⟩
theorem iv_X2_26 : IV RX2 26 yX1_refusalOfCoin cX1_refusalOfCoin 2 (some .int) 1 := ⟨gt (List.mem_of_getElem? (i := 420) (by decide +kernel)) rfl, gt (List.mem_of_getElem? (i := 356) (by decide +kernel)) rfl, gt (List.mem_of_getElem? (i := 357) (by decide +kernel)) rfl, gt (List.mem_of_getElem? (i := 21) (by decide +kernel)) rfl, gt (List.mem_of_getElem? (i := 358) (by decide +kernel)) rfl, by decide +kernel⟩
theorem iv_X2_32 : IV RX2 32 yX2_order cX2_order 6 (some .int) 3 := ⟨gt (List.mem_of_getElem? (i := 421) (by decide +kernel)) rfl, gt (List.mem_of_getElem? (i := 422) (by decide +kernel)) rfl, gt (List.mem_of_getElem? (i := 423) (by decide +kernel)) rfl, gt (List.mem_of_getElem? (i := 24) (by decide +kernel)) rfl, gt (List.mem_of_getElem? (i := 424) (by decide +kernel)) rfl, by decide +kernel⟩
theorem iv_X2_42 : IV RX2 42 yX1_told cX1_told 3 (some .long) 2 := ⟨gt (List.mem_of_getElem? (i := 425) (by decide +kernel)) rfl, gt (List.mem_of_getElem? (i := 251) (by decide +kernel)) rfl, gt (List.mem_of_getElem? (i := 252) (by decide +kernel)) rfl, gt (List.mem_of_getElem? (i := 21) (by decide +kernel)) rfl, gt (List.mem_of_getElem? (i := 253) (by decide +kernel)) rfl, by decide +kernel⟩
theorem is_X2_46 : IS RX2 46 yJ13_compare_74951 cJ13_compare_74951 4 (some .int) 2 := ⟨gt (List.mem_of_getElem? (i := 426) (by decide +kernel)) rfl, gt (List.mem_of_getElem? (i := 427) (by decide +kernel)) rfl, gt (List.mem_of_getElem? (i := 31) (by decide +kernel)) rfl, gt (List.mem_of_getElem? (i := 428) (by decide +kernel)) rfl, by decide +kernel⟩
theorem ac_X2_36 : Cond.methodLink RX2 36 arraycopyName ∈ gtbl := gt (List.mem_of_getElem? (i := 429) (by decide +kernel)) rfl
theorem iv_X3_43 : IV RX3 43 yX1_greatest cX1_greatest 3 (some .int) 0 := ⟨gt (List.mem_of_getElem? (i := 430) (by decide +kernel)) rfl, gt (List.mem_of_getElem? (i := 330) (by decide +kernel)) rfl, gt (List.mem_of_getElem? (i := 331) (by decide +kernel)) rfl, gt (List.mem_of_getElem? (i := 21) (by decide +kernel)) rfl, gt (List.mem_of_getElem? (i := 332) (by decide +kernel)) rfl, by decide +kernel⟩
theorem iv_X3_47 : IV RX3 47 yX3_addWaiting cX3_addWaiting 3 (some .boolean) 2 := ⟨gt (List.mem_of_getElem? (i := 431) (by decide +kernel)) rfl, gt (List.mem_of_getElem? (i := 432) (by decide +kernel)) rfl, gt (List.mem_of_getElem? (i := 433) (by decide +kernel)) rfl, gt (List.mem_of_getElem? (i := 23) (by decide +kernel)) rfl, gt (List.mem_of_getElem? (i := 434) (by decide +kernel)) rfl, by decide +kernel⟩
theorem iv_X3_58 : IV RX3 58 yX1_take cX1_take 2 none 1 := ⟨gt (List.mem_of_getElem? (i := 435) (by decide +kernel)) rfl, gt (List.mem_of_getElem? (i := 320) (by decide +kernel)) rfl, gt (List.mem_of_getElem? (i := 321) (by decide +kernel)) rfl, gt (List.mem_of_getElem? (i := 21) (by decide +kernel)) rfl, gt (List.mem_of_getElem? (i := 322) (by decide +kernel)) rfl, by decide +kernel⟩
theorem iv_X3_50 : IV RX3 50 yX3_swapEachWay cX3_swapEachWay 4 (some .boolean) 2 := ⟨gt (List.mem_of_getElem? (i := 436) (by decide +kernel)) rfl, gt (List.mem_of_getElem? (i := 437) (by decide +kernel)) rfl, gt (List.mem_of_getElem? (i := 438) (by decide +kernel)) rfl, gt (List.mem_of_getElem? (i := 23) (by decide +kernel)) rfl, gt (List.mem_of_getElem? (i := 439) (by decide +kernel)) rfl, by decide +kernel⟩
theorem iv_X3_54 : IV RX3 54 yX1_turned cX1_turned 3 (some .long) 2 := ⟨gt (List.mem_of_getElem? (i := 440) (by decide +kernel)) rfl, gt (List.mem_of_getElem? (i := 334) (by decide +kernel)) rfl, gt (List.mem_of_getElem? (i := 335) (by decide +kernel)) rfl, gt (List.mem_of_getElem? (i := 21) (by decide +kernel)) rfl, gt (List.mem_of_getElem? (i := 336) (by decide +kernel)) rfl, by decide +kernel⟩
theorem iv_X3_62 : IV RX3 62 yX1_turn cX1_turn 3 none 1 := ⟨gt (List.mem_of_getElem? (i := 441) (by decide +kernel)) rfl, gt (List.mem_of_getElem? (i := 339) (by decide +kernel)) rfl, gt (List.mem_of_getElem? (i := 340) (by decide +kernel)) rfl, gt (List.mem_of_getElem? (i := 21) (by decide +kernel)) rfl, gt (List.mem_of_getElem? (i := 341) (by decide +kernel)) rfl, by decide +kernel⟩
theorem iv_L_77 : IV RL 77 yX6_listed cX6_listed 3 (some .int) 2 := ⟨gt (List.mem_of_getElem? (i := 442) (by decide +kernel)) rfl, gt (List.mem_of_getElem? (i := 443) (by decide +kernel)) rfl, gt (List.mem_of_getElem? (i := 444) (by decide +kernel)) rfl, gt (List.mem_of_getElem? (i := 20) (by decide +kernel)) rfl, gt (List.mem_of_getElem? (i := 445) (by decide +kernel)) rfl, by decide +kernel⟩
theorem iv_L_81 : IV RL 81 yX6_find cX6_find 4 (some .int) 1 := ⟨gt (List.mem_of_getElem? (i := 447) (by decide +kernel)) rfl, gt (List.mem_of_getElem? (i := 448) (by decide +kernel)) rfl, gt (List.mem_of_getElem? (i := 449) (by decide +kernel)) rfl, gt (List.mem_of_getElem? (i := 20) (by decide +kernel)) rfl, gt (List.mem_of_getElem? (i := 450) (by decide +kernel)) rfl, by decide +kernel⟩
theorem iv_L_85 : IV RL 85 yX6_left cX6_left 2 (some .int) 1 := ⟨gt (List.mem_of_getElem? (i := 451) (by decide +kernel)) rfl, gt (List.mem_of_getElem? (i := 452) (by decide +kernel)) rfl, gt (List.mem_of_getElem? (i := 453) (by decide +kernel)) rfl, gt (List.mem_of_getElem? (i := 20) (by decide +kernel)) rfl, gt (List.mem_of_getElem? (i := 454) (by decide +kernel)) rfl, by decide +kernel⟩
theorem iv_X6_175 : IV RX6 175 yX2_bendLeft cX2_bendLeft 6 (some .int) 1 := ⟨gt (List.mem_of_getElem? (i := 455) (by decide +kernel)) rfl, gt (List.mem_of_getElem? (i := 456) (by decide +kernel)) rfl, gt (List.mem_of_getElem? (i := 457) (by decide +kernel)) rfl, gt (List.mem_of_getElem? (i := 24) (by decide +kernel)) rfl, gt (List.mem_of_getElem? (i := 458) (by decide +kernel)) rfl, by decide +kernel⟩
theorem iv_L_89 : IV RL 89 yX6_seen cX6_seen 2 (some .int) 1 := ⟨gt (List.mem_of_getElem? (i := 459) (by decide +kernel)) rfl, gt (List.mem_of_getElem? (i := 460) (by decide +kernel)) rfl, gt (List.mem_of_getElem? (i := 461) (by decide +kernel)) rfl, gt (List.mem_of_getElem? (i := 20) (by decide +kernel)) rfl, gt (List.mem_of_getElem? (i := 462) (by decide +kernel)) rfl, by decide +kernel⟩
theorem iv_L_93 : IV RL 93 yX6_chain cX6_chain 8 (some .int) 5 := ⟨gt (List.mem_of_getElem? (i := 463) (by decide +kernel)) rfl, gt (List.mem_of_getElem? (i := 464) (by decide +kernel)) rfl, gt (List.mem_of_getElem? (i := 465) (by decide +kernel)) rfl, gt (List.mem_of_getElem? (i := 20) (by decide +kernel)) rfl, gt (List.mem_of_getElem? (i := 466) (by decide +kernel)) rfl, by decide +kernel⟩
theorem is_X6_178 : IS RX6 178 yX6_firstBut cX6_firstBut 3 (some .int) 2 := ⟨gt (List.mem_of_getElem? (i := 467) (by decide +kernel)) rfl, gt (List.mem_of_getElem? (i := 468) (by decide +kernel)) rfl, gt (List.mem_of_getElem? (i := 20) (by decide +kernel)) rfl, gt (List.mem_of_getElem? (i := 469) (by decide +kernel)) rfl, by decide +kernel⟩
theorem iv_X6_181 : IV RX6 181 yX1_goAlong cX1_goAlong 5 (some .boolean) 3 := ⟨gt (List.mem_of_getElem? (i := 470) (by decide +kernel)) rfl, gt (List.mem_of_getElem? (i := 471) (by decide +kernel)) rfl, gt (List.mem_of_getElem? (i := 472) (by decide +kernel)) rfl, gt (List.mem_of_getElem? (i := 21) (by decide +kernel)) rfl, gt (List.mem_of_getElem? (i := 473) (by decide +kernel)) rfl, by decide +kernel⟩
theorem iv_X1_47 : IV RX1 47 yX1_turnWithin cX1_turnWithin 2 (some .boolean) 1 := ⟨gt (List.mem_of_getElem? (i := 474) (by decide +kernel)) rfl, gt (List.mem_of_getElem? (i := 475) (by decide +kernel)) rfl, gt (List.mem_of_getElem? (i := 476) (by decide +kernel)) rfl, gt (List.mem_of_getElem? (i := 21) (by decide +kernel)) rfl, gt (List.mem_of_getElem? (i := 477) (by decide +kernel)) rfl, by decide +kernel⟩
theorem iv_X1_51 : IV RX1 51 yX1_refusalOfCoin cX1_refusalOfCoin 2 (some .int) 1 := ⟨gt (List.mem_of_getElem? (i := 478) (by decide +kernel)) rfl, gt (List.mem_of_getElem? (i := 356) (by decide +kernel)) rfl, gt (List.mem_of_getElem? (i := 357) (by decide +kernel)) rfl, gt (List.mem_of_getElem? (i := 21) (by decide +kernel)) rfl, gt (List.mem_of_getElem? (i := 358) (by decide +kernel)) rfl, by decide +kernel⟩
theorem iv_L_97 : IV RL 97 yX6_count cX6_count 2 (some .int) 1 := ⟨gt (List.mem_of_getElem? (i := 480) (by decide +kernel)) rfl, gt (List.mem_of_getElem? (i := 481) (by decide +kernel)) rfl, gt (List.mem_of_getElem? (i := 482) (by decide +kernel)) rfl, gt (List.mem_of_getElem? (i := 20) (by decide +kernel)) rfl, gt (List.mem_of_getElem? (i := 483) (by decide +kernel)) rfl, by decide +kernel⟩
theorem ic_L_12 : IC RL 12 yX7_init cX7_init 2 0 := ⟨gt (List.mem_of_getElem? (i := 486) (by decide +kernel)) rfl, gt (List.mem_of_getElem? (i := 487) (by decide +kernel)) rfl, gt (List.mem_of_getElem? (i := 27) (by decide +kernel)) rfl, gt (List.mem_of_getElem? (i := 488) (by decide +kernel)) rfl, by decide +kernel⟩
theorem oi_X7_1 : Cond.methodLink RX7 1 objectInit ∈ gtbl := gt (List.mem_of_getElem? (i := 489) (by decide +kernel)) rfl
theorem iv_L_17 : IV RL 17 yX7_bag cX7_bag 5 (some .int) 3 := ⟨gt (List.mem_of_getElem? (i := 558) (by decide +kernel)) rfl, gt (List.mem_of_getElem? (i := 559) (by decide +kernel)) rfl, gt (List.mem_of_getElem? (i := 560) (by decide +kernel)) rfl, gt (List.mem_of_getElem? (i := 27) (by decide +kernel)) rfl, gt (List.mem_of_getElem? (i := 561) (by decide +kernel)) rfl, by decide +kernel⟩
theorem is_X7_67 : IS RX7 67 yX7_isBag cX7_isBag 1 (some .boolean) 1 := ⟨gt (List.mem_of_getElem? (i := 562) (by decide +kernel)) rfl, gt (List.mem_of_getElem? (i := 563) (by decide +kernel)) rfl, gt (List.mem_of_getElem? (i := 27) (by decide +kernel)) rfl, gt (List.mem_of_getElem? (i := 564) (by decide +kernel)) rfl, by decide +kernel⟩
theorem is_X7_63 : IS RX7 63 yX7_in cX7_in 6 (some .boolean) 3 := ⟨gt (List.mem_of_getElem? (i := 566) (by decide +kernel)) rfl, gt (List.mem_of_getElem? (i := 567) (by decide +kernel)) rfl, gt (List.mem_of_getElem? (i := 27) (by decide +kernel)) rfl, gt (List.mem_of_getElem? (i := 568) (by decide +kernel)) rfl, by decide +kernel⟩
theorem iv_L_24 : IV RL 24 yX7_put cX7_put 6 (some .int) 3 := ⟨gt (List.mem_of_getElem? (i := 571) (by decide +kernel)) rfl, gt (List.mem_of_getElem? (i := 572) (by decide +kernel)) rfl, gt (List.mem_of_getElem? (i := 573) (by decide +kernel)) rfl, gt (List.mem_of_getElem? (i := 27) (by decide +kernel)) rfl, gt (List.mem_of_getElem? (i := 574) (by decide +kernel)) rfl, by decide +kernel⟩
theorem iv_X7_75 : IV RX7 75 yX7_against cX7_against 3 (some .int) 2 := ⟨gt (List.mem_of_getElem? (i := 575) (by decide +kernel)) rfl, gt (List.mem_of_getElem? (i := 577) (by decide +kernel)) rfl, gt (List.mem_of_getElem? (i := 3) (by decide +kernel)) rfl, gt (List.mem_of_getElem? (i := 27) (by decide +kernel)) rfl, gt (List.mem_of_getElem? (i := 578) (by decide +kernel)) rfl, by decide +kernel⟩
theorem iv_L_29 : IV RL 29 yX7_copy cX7_copy 7 (some .int) 5 := ⟨gt (List.mem_of_getElem? (i := 579) (by decide +kernel)) rfl, gt (List.mem_of_getElem? (i := 580) (by decide +kernel)) rfl, gt (List.mem_of_getElem? (i := 581) (by decide +kernel)) rfl, gt (List.mem_of_getElem? (i := 27) (by decide +kernel)) rfl, gt (List.mem_of_getElem? (i := 582) (by decide +kernel)) rfl, by decide +kernel⟩
theorem iv_L_33 : IV RL 33 yX7_holds cX7_holds 6 (some .int) 3 := ⟨gt (List.mem_of_getElem? (i := 583) (by decide +kernel)) rfl, gt (List.mem_of_getElem? (i := 584) (by decide +kernel)) rfl, gt (List.mem_of_getElem? (i := 585) (by decide +kernel)) rfl, gt (List.mem_of_getElem? (i := 27) (by decide +kernel)) rfl, gt (List.mem_of_getElem? (i := 586) (by decide +kernel)) rfl, by decide +kernel⟩
theorem iv_L_38 : IV RL 38 yX7_quad cX7_quad 5 (some .int) 2 := ⟨gt (List.mem_of_getElem? (i := 587) (by decide +kernel)) rfl, gt (List.mem_of_getElem? (i := 588) (by decide +kernel)) rfl, gt (List.mem_of_getElem? (i := 589) (by decide +kernel)) rfl, gt (List.mem_of_getElem? (i := 27) (by decide +kernel)) rfl, gt (List.mem_of_getElem? (i := 590) (by decide +kernel)) rfl, by decide +kernel⟩
theorem iv_X7_107 : IV RX7 107 yX7_againstFour cX7_againstFour 8 (some .int) 0 := ⟨gt (List.mem_of_getElem? (i := 592) (by decide +kernel)) rfl, gt (List.mem_of_getElem? (i := 594) (by decide +kernel)) rfl, gt (List.mem_of_getElem? (i := 4) (by decide +kernel)) rfl, gt (List.mem_of_getElem? (i := 27) (by decide +kernel)) rfl, gt (List.mem_of_getElem? (i := 595) (by decide +kernel)) rfl, by decide +kernel⟩
theorem is_X7_90 : IS RX7 90 yX7_isBend cX7_isBend 2 (some .boolean) 1 := ⟨gt (List.mem_of_getElem? (i := 596) (by decide +kernel)) rfl, gt (List.mem_of_getElem? (i := 597) (by decide +kernel)) rfl, gt (List.mem_of_getElem? (i := 27) (by decide +kernel)) rfl, gt (List.mem_of_getElem? (i := 598) (by decide +kernel)) rfl, by decide +kernel⟩
theorem is_X7_94 : IS RX7 94 yX7_isPlace cX7_isPlace 2 (some .boolean) 1 := ⟨gt (List.mem_of_getElem? (i := 601) (by decide +kernel)) rfl, gt (List.mem_of_getElem? (i := 602) (by decide +kernel)) rfl, gt (List.mem_of_getElem? (i := 27) (by decide +kernel)) rfl, gt (List.mem_of_getElem? (i := 603) (by decide +kernel)) rfl, by decide +kernel⟩
theorem is_X7_97 : IS RX7 97 yX7_common cX7_common 10 (some .long) 2 := ⟨gt (List.mem_of_getElem? (i := 606) (by decide +kernel)) rfl, gt (List.mem_of_getElem? (i := 607) (by decide +kernel)) rfl, gt (List.mem_of_getElem? (i := 27) (by decide +kernel)) rfl, gt (List.mem_of_getElem? (i := 608) (by decide +kernel)) rfl, by decide +kernel⟩
theorem is_X7_101 : IS RX7 101 yX7_areTouching cX7_areTouching 16 (some .boolean) 6 := ⟨gt (List.mem_of_getElem? (i := 609) (by decide +kernel)) rfl, gt (List.mem_of_getElem? (i := 610) (by decide +kernel)) rfl, gt (List.mem_of_getElem? (i := 27) (by decide +kernel)) rfl, gt (List.mem_of_getElem? (i := 611) (by decide +kernel)) rfl, by decide +kernel⟩
theorem iv_X7_111 : IV RX7 111 yX7_newQuad cX7_newQuad 3 (some .int) 1 := ⟨gt (List.mem_of_getElem? (i := 612) (by decide +kernel)) rfl, gt (List.mem_of_getElem? (i := 614) (by decide +kernel)) rfl, gt (List.mem_of_getElem? (i := 5) (by decide +kernel)) rfl, gt (List.mem_of_getElem? (i := 27) (by decide +kernel)) rfl, gt (List.mem_of_getElem? (i := 615) (by decide +kernel)) rfl, by decide +kernel⟩
theorem iv_L_42 : IV RL 42 yX7_swap cX7_swap 3 (some .int) 2 := ⟨gt (List.mem_of_getElem? (i := 616) (by decide +kernel)) rfl, gt (List.mem_of_getElem? (i := 617) (by decide +kernel)) rfl, gt (List.mem_of_getElem? (i := 618) (by decide +kernel)) rfl, gt (List.mem_of_getElem? (i := 27) (by decide +kernel)) rfl, gt (List.mem_of_getElem? (i := 619) (by decide +kernel)) rfl, by decide +kernel⟩
theorem iv_X7_115 : IV RX7 115 yX7_isQuad cX7_isQuad 2 (some .boolean) 1 := ⟨gt (List.mem_of_getElem? (i := 620) (by decide +kernel)) rfl, gt (List.mem_of_getElem? (i := 622) (by decide +kernel)) rfl, gt (List.mem_of_getElem? (i := 6) (by decide +kernel)) rfl, gt (List.mem_of_getElem? (i := 27) (by decide +kernel)) rfl, gt (List.mem_of_getElem? (i := 623) (by decide +kernel)) rfl, by decide +kernel⟩
theorem iv_X7_120 : IV RX7 120 yX7_take cX7_take 3 none 1 := ⟨gt (List.mem_of_getElem? (i := 625) (by decide +kernel)) rfl, gt (List.mem_of_getElem? (i := 627) (by decide +kernel)) rfl, gt (List.mem_of_getElem? (i := 7) (by decide +kernel)) rfl, gt (List.mem_of_getElem? (i := 27) (by decide +kernel)) rfl, gt (List.mem_of_getElem? (i := 628) (by decide +kernel)) rfl, by decide +kernel⟩
theorem iv_X7_124 : IV RX7 124 yX7_swapAt cX7_swapAt 5 none 1 := ⟨gt (List.mem_of_getElem? (i := 629) (by decide +kernel)) rfl, gt (List.mem_of_getElem? (i := 631) (by decide +kernel)) rfl, gt (List.mem_of_getElem? (i := 8) (by decide +kernel)) rfl, gt (List.mem_of_getElem? (i := 27) (by decide +kernel)) rfl, gt (List.mem_of_getElem? (i := 632) (by decide +kernel)) rfl, by decide +kernel⟩
theorem iv_L_46 : IV RL 46 yX7_coin cX7_coin 4 (some .int) 3 := ⟨gt (List.mem_of_getElem? (i := 633) (by decide +kernel)) rfl, gt (List.mem_of_getElem? (i := 634) (by decide +kernel)) rfl, gt (List.mem_of_getElem? (i := 635) (by decide +kernel)) rfl, gt (List.mem_of_getElem? (i := 27) (by decide +kernel)) rfl, gt (List.mem_of_getElem? (i := 636) (by decide +kernel)) rfl, by decide +kernel⟩
theorem is_X7_127 : IS RX7 127 yX7_isCoin cX7_isCoin 2 (some .boolean) 2 := ⟨gt (List.mem_of_getElem? (i := 637) (by decide +kernel)) rfl, gt (List.mem_of_getElem? (i := 638) (by decide +kernel)) rfl, gt (List.mem_of_getElem? (i := 27) (by decide +kernel)) rfl, gt (List.mem_of_getElem? (i := 639) (by decide +kernel)) rfl, by decide +kernel⟩
theorem iv_L_51 : IV RL 51 yX7_from cX7_from 2 (some .int) 1 := ⟨gt (List.mem_of_getElem? (i := 641) (by decide +kernel)) rfl, gt (List.mem_of_getElem? (i := 642) (by decide +kernel)) rfl, gt (List.mem_of_getElem? (i := 643) (by decide +kernel)) rfl, gt (List.mem_of_getElem? (i := 27) (by decide +kernel)) rfl, gt (List.mem_of_getElem? (i := 644) (by decide +kernel)) rfl, by decide +kernel⟩
theorem iv_L_55 : IV RL 55 yX7_steps cX7_steps 2 (some .int) 1 := ⟨gt (List.mem_of_getElem? (i := 645) (by decide +kernel)) rfl, gt (List.mem_of_getElem? (i := 646) (by decide +kernel)) rfl, gt (List.mem_of_getElem? (i := 647) (by decide +kernel)) rfl, gt (List.mem_of_getElem? (i := 27) (by decide +kernel)) rfl, gt (List.mem_of_getElem? (i := 648) (by decide +kernel)) rfl, by decide +kernel⟩
theorem iv_X7_138 : IV RX7 138 yX7_goDown cX7_goDown 6 none 1 := ⟨gt (List.mem_of_getElem? (i := 649) (by decide +kernel)) rfl, gt (List.mem_of_getElem? (i := 651) (by decide +kernel)) rfl, gt (List.mem_of_getElem? (i := 9) (by decide +kernel)) rfl, gt (List.mem_of_getElem? (i := 27) (by decide +kernel)) rfl, gt (List.mem_of_getElem? (i := 652) (by decide +kernel)) rfl, by decide +kernel⟩
theorem iv_X7_135 : IV RX7 135 yX7_greatest cX7_greatest 3 (some .int) 0 := ⟨gt (List.mem_of_getElem? (i := 653) (by decide +kernel)) rfl, gt (List.mem_of_getElem? (i := 655) (by decide +kernel)) rfl, gt (List.mem_of_getElem? (i := 10) (by decide +kernel)) rfl, gt (List.mem_of_getElem? (i := 27) (by decide +kernel)) rfl, gt (List.mem_of_getElem? (i := 656) (by decide +kernel)) rfl, by decide +kernel⟩
theorem iv_L_59 : IV RL 59 yX7_step cX7_step 3 (some .int) 2 := ⟨gt (List.mem_of_getElem? (i := 657) (by decide +kernel)) rfl, gt (List.mem_of_getElem? (i := 658) (by decide +kernel)) rfl, gt (List.mem_of_getElem? (i := 659) (by decide +kernel)) rfl, gt (List.mem_of_getElem? (i := 27) (by decide +kernel)) rfl, gt (List.mem_of_getElem? (i := 660) (by decide +kernel)) rfl, by decide +kernel⟩
theorem iv_L_63 : IV RL 63 yX7_root cX7_root 4 (some .int) 3 := ⟨gt (List.mem_of_getElem? (i := 661) (by decide +kernel)) rfl, gt (List.mem_of_getElem? (i := 662) (by decide +kernel)) rfl, gt (List.mem_of_getElem? (i := 663) (by decide +kernel)) rfl, gt (List.mem_of_getElem? (i := 27) (by decide +kernel)) rfl, gt (List.mem_of_getElem? (i := 664) (by decide +kernel)) rfl, by decide +kernel⟩
theorem iv_L_67 : IV RL 67 yX7_same cX7_same 11 (some .int) 2 := ⟨gt (List.mem_of_getElem? (i := 665) (by decide +kernel)) rfl, gt (List.mem_of_getElem? (i := 666) (by decide +kernel)) rfl, gt (List.mem_of_getElem? (i := 667) (by decide +kernel)) rfl, gt (List.mem_of_getElem? (i := 27) (by decide +kernel)) rfl, gt (List.mem_of_getElem? (i := 668) (by decide +kernel)) rfl, by decide +kernel⟩
theorem iv_X7_141 : IV RX7 141 yX7_layBends cX7_layBends 3 none 0 := ⟨gt (List.mem_of_getElem? (i := 669) (by decide +kernel)) rfl, gt (List.mem_of_getElem? (i := 671) (by decide +kernel)) rfl, gt (List.mem_of_getElem? (i := 11) (by decide +kernel)) rfl, gt (List.mem_of_getElem? (i := 27) (by decide +kernel)) rfl, gt (List.mem_of_getElem? (i := 672) (by decide +kernel)) rfl, by decide +kernel⟩
theorem iv_L_72 : IV RL 72 yX7_touch cX7_touch 7 (some .int) 4 := ⟨gt (List.mem_of_getElem? (i := 673) (by decide +kernel)) rfl, gt (List.mem_of_getElem? (i := 674) (by decide +kernel)) rfl, gt (List.mem_of_getElem? (i := 675) (by decide +kernel)) rfl, gt (List.mem_of_getElem? (i := 27) (by decide +kernel)) rfl, gt (List.mem_of_getElem? (i := 676) (by decide +kernel)) rfl, by decide +kernel⟩
theorem iv_L_76 : IV RL 76 yX7_list cX7_list 4 (some .int) 2 := ⟨gt (List.mem_of_getElem? (i := 677) (by decide +kernel)) rfl, gt (List.mem_of_getElem? (i := 678) (by decide +kernel)) rfl, gt (List.mem_of_getElem? (i := 679) (by decide +kernel)) rfl, gt (List.mem_of_getElem? (i := 27) (by decide +kernel)) rfl, gt (List.mem_of_getElem? (i := 680) (by decide +kernel)) rfl, by decide +kernel⟩
theorem iv_X7_168 : IV RX7 168 yX7_gathers cX7_gathers 5 (some .boolean) 1 := ⟨gt (List.mem_of_getElem? (i := 682) (by decide +kernel)) rfl, gt (List.mem_of_getElem? (i := 684) (by decide +kernel)) rfl, gt (List.mem_of_getElem? (i := 12) (by decide +kernel)) rfl, gt (List.mem_of_getElem? (i := 27) (by decide +kernel)) rfl, gt (List.mem_of_getElem? (i := 685) (by decide +kernel)) rfl, by decide +kernel⟩
theorem iv_X7_154 : IV RX7 154 yX7_lists cX7_lists 10 (some .boolean) 1 := ⟨gt (List.mem_of_getElem? (i := 686) (by decide +kernel)) rfl, gt (List.mem_of_getElem? (i := 688) (by decide +kernel)) rfl, gt (List.mem_of_getElem? (i := 13) (by decide +kernel)) rfl, gt (List.mem_of_getElem? (i := 27) (by decide +kernel)) rfl, gt (List.mem_of_getElem? (i := 689) (by decide +kernel)) rfl, by decide +kernel⟩
theorem iv_X7_147 : IV RX7 147 yX7_isBehind cX7_isBehind 12 (some .boolean) 4 := ⟨gt (List.mem_of_getElem? (i := 690) (by decide +kernel)) rfl, gt (List.mem_of_getElem? (i := 692) (by decide +kernel)) rfl, gt (List.mem_of_getElem? (i := 14) (by decide +kernel)) rfl, gt (List.mem_of_getElem? (i := 27) (by decide +kernel)) rfl, gt (List.mem_of_getElem? (i := 693) (by decide +kernel)) rfl, by decide +kernel⟩
theorem iv_X7_157 : IV RX7 157 yX7_push cX7_push 3 (some .boolean) 1 := ⟨gt (List.mem_of_getElem? (i := 694) (by decide +kernel)) rfl, gt (List.mem_of_getElem? (i := 696) (by decide +kernel)) rfl, gt (List.mem_of_getElem? (i := 15) (by decide +kernel)) rfl, gt (List.mem_of_getElem? (i := 27) (by decide +kernel)) rfl, gt (List.mem_of_getElem? (i := 697) (by decide +kernel)) rfl, by decide +kernel⟩
theorem iv_X7_160 : IV RX7 160 yX7_pop cX7_pop 2 (some .int) 0 := ⟨gt (List.mem_of_getElem? (i := 698) (by decide +kernel)) rfl, gt (List.mem_of_getElem? (i := 700) (by decide +kernel)) rfl, gt (List.mem_of_getElem? (i := 16) (by decide +kernel)) rfl, gt (List.mem_of_getElem? (i := 27) (by decide +kernel)) rfl, gt (List.mem_of_getElem? (i := 701) (by decide +kernel)) rfl, by decide +kernel⟩
theorem iv_X7_163 : IV RX7 163 yX7_areUpTo cX7_areUpTo 2 (some .boolean) 1 := ⟨gt (List.mem_of_getElem? (i := 702) (by decide +kernel)) rfl, gt (List.mem_of_getElem? (i := 704) (by decide +kernel)) rfl, gt (List.mem_of_getElem? (i := 17) (by decide +kernel)) rfl, gt (List.mem_of_getElem? (i := 27) (by decide +kernel)) rfl, gt (List.mem_of_getElem? (i := 705) (by decide +kernel)) rfl, by decide +kernel⟩
theorem iv_L_80 : IV RL 80 yX7_listed cX7_listed 3 (some .int) 2 := ⟨gt (List.mem_of_getElem? (i := 706) (by decide +kernel)) rfl, gt (List.mem_of_getElem? (i := 707) (by decide +kernel)) rfl, gt (List.mem_of_getElem? (i := 708) (by decide +kernel)) rfl, gt (List.mem_of_getElem? (i := 27) (by decide +kernel)) rfl, gt (List.mem_of_getElem? (i := 709) (by decide +kernel)) rfl, by decide +kernel⟩
theorem iv_L_84 : IV RL 84 yX7_find cX7_find 4 (some .int) 1 := ⟨gt (List.mem_of_getElem? (i := 711) (by decide +kernel)) rfl, gt (List.mem_of_getElem? (i := 712) (by decide +kernel)) rfl, gt (List.mem_of_getElem? (i := 713) (by decide +kernel)) rfl, gt (List.mem_of_getElem? (i := 27) (by decide +kernel)) rfl, gt (List.mem_of_getElem? (i := 714) (by decide +kernel)) rfl, by decide +kernel⟩
theorem iv_L_88 : IV RL 88 yX7_left cX7_left 5 (some .int) 1 := ⟨gt (List.mem_of_getElem? (i := 715) (by decide +kernel)) rfl, gt (List.mem_of_getElem? (i := 716) (by decide +kernel)) rfl, gt (List.mem_of_getElem? (i := 717) (by decide +kernel)) rfl, gt (List.mem_of_getElem? (i := 27) (by decide +kernel)) rfl, gt (List.mem_of_getElem? (i := 718) (by decide +kernel)) rfl, by decide +kernel⟩
theorem iv_X7_178 : IV RX7 178 yX7_seen cX7_seen 16 (some .int) 1 := ⟨gt (List.mem_of_getElem? (i := 719) (by decide +kernel)) rfl, gt (List.mem_of_getElem? (i := 720) (by decide +kernel)) rfl, gt (List.mem_of_getElem? (i := 721) (by decide +kernel)) rfl, gt (List.mem_of_getElem? (i := 27) (by decide +kernel)) rfl, gt (List.mem_of_getElem? (i := 722) (by decide +kernel)) rfl, by decide +kernel⟩
theorem is_X7_184 : IS RX7 184 yX7_restOf cX7_restOf 2 (some .int) 1 := ⟨gt (List.mem_of_getElem? (i := 723) (by decide +kernel)) rfl, gt (List.mem_of_getElem? (i := 724) (by decide +kernel)) rfl, gt (List.mem_of_getElem? (i := 27) (by decide +kernel)) rfl, gt (List.mem_of_getElem? (i := 725) (by decide +kernel)) rfl, by decide +kernel⟩
theorem iv_X7_187 : IV RX7 187 yX7_see cX7_see 3 (some .boolean) 1 := ⟨gt (List.mem_of_getElem? (i := 726) (by decide +kernel)) rfl, gt (List.mem_of_getElem? (i := 728) (by decide +kernel)) rfl, gt (List.mem_of_getElem? (i := 18) (by decide +kernel)) rfl, gt (List.mem_of_getElem? (i := 27) (by decide +kernel)) rfl, gt (List.mem_of_getElem? (i := 729) (by decide +kernel)) rfl, by decide +kernel⟩
theorem iv_X7_181 : IV RX7 181 yX7_find cX7_find 4 (some .int) 1 := ⟨gt (List.mem_of_getElem? (i := 730) (by decide +kernel)) rfl, gt (List.mem_of_getElem? (i := 712) (by decide +kernel)) rfl, gt (List.mem_of_getElem? (i := 713) (by decide +kernel)) rfl, gt (List.mem_of_getElem? (i := 27) (by decide +kernel)) rfl, gt (List.mem_of_getElem? (i := 714) (by decide +kernel)) rfl, by decide +kernel⟩
theorem iv_L_92 : IV RL 92 yX7_seen cX7_seen 16 (some .int) 1 := ⟨gt (List.mem_of_getElem? (i := 731) (by decide +kernel)) rfl, gt (List.mem_of_getElem? (i := 720) (by decide +kernel)) rfl, gt (List.mem_of_getElem? (i := 721) (by decide +kernel)) rfl, gt (List.mem_of_getElem? (i := 27) (by decide +kernel)) rfl, gt (List.mem_of_getElem? (i := 722) (by decide +kernel)) rfl, by decide +kernel⟩
theorem iv_L_96 : IV RL 96 yX7_chain cX7_chain 14 (some .int) 5 := ⟨gt (List.mem_of_getElem? (i := 732) (by decide +kernel)) rfl, gt (List.mem_of_getElem? (i := 733) (by decide +kernel)) rfl, gt (List.mem_of_getElem? (i := 734) (by decide +kernel)) rfl, gt (List.mem_of_getElem? (i := 27) (by decide +kernel)) rfl, gt (List.mem_of_getElem? (i := 735) (by decide +kernel)) rfl, by decide +kernel⟩
theorem iv_L_100 : IV RL 100 yX7_count cX7_count 2 (some .int) 1 := ⟨gt (List.mem_of_getElem? (i := 739) (by decide +kernel)) rfl, gt (List.mem_of_getElem? (i := 740) (by decide +kernel)) rfl, gt (List.mem_of_getElem? (i := 741) (by decide +kernel)) rfl, gt (List.mem_of_getElem? (i := 27) (by decide +kernel)) rfl, gt (List.mem_of_getElem? (i := 742) (by decide +kernel)) rfl, by decide +kernel⟩
theorem ik_X6_27 : IK RX6 27 yX1_init "TouchingCoins" cX1_init 1 0 := ⟨nt (List.mem_of_getElem? (i := 46) (by decide +kernel)) rfl, gt (List.mem_of_getElem? (i := 47) (by decide +kernel)) rfl, gt (List.mem_of_getElem? (i := 21) (by decide +kernel)) rfl, gt (List.mem_of_getElem? (i := 48) (by decide +kernel)) rfl, by decide +kernel⟩
theorem ik_X6_34 : IK RX6 34 yX5_init "TouchingCoins" cX5_init 1 0 := ⟨nt (List.mem_of_getElem? (i := 58) (by decide +kernel)) rfl, gt (List.mem_of_getElem? (i := 59) (by decide +kernel)) rfl, gt (List.mem_of_getElem? (i := 22) (by decide +kernel)) rfl, gt (List.mem_of_getElem? (i := 60) (by decide +kernel)) rfl, by decide +kernel⟩
theorem ik_X3_21 : IK RX3 21 yX1_init "TouchingCoins" cX1_init 1 0 := ⟨nt (List.mem_of_getElem? (i := 78) (by decide +kernel)) rfl, gt (List.mem_of_getElem? (i := 47) (by decide +kernel)) rfl, gt (List.mem_of_getElem? (i := 21) (by decide +kernel)) rfl, gt (List.mem_of_getElem? (i := 48) (by decide +kernel)) rfl, by decide +kernel⟩
theorem ik_X6_48 : IK RX6 48 yX2_init "TouchingCoins" cX2_init 1 0 := ⟨nt (List.mem_of_getElem? (i := 94) (by decide +kernel)) rfl, gt (List.mem_of_getElem? (i := 95) (by decide +kernel)) rfl, gt (List.mem_of_getElem? (i := 24) (by decide +kernel)) rfl, gt (List.mem_of_getElem? (i := 96) (by decide +kernel)) rfl, by decide +kernel⟩
theorem ik_X6_56 : IK RX6 56 yX0_init "TouchingCoins" cX0_init 1 0 := ⟨nt (List.mem_of_getElem? (i := 118) (by decide +kernel)) rfl, gt (List.mem_of_getElem? (i := 119) (by decide +kernel)) rfl, gt (List.mem_of_getElem? (i := 25) (by decide +kernel)) rfl, gt (List.mem_of_getElem? (i := 120) (by decide +kernel)) rfl, by decide +kernel⟩
theorem ik_X6_57 : IK RX6 57 yX4_init "TouchingCoins" cX4_init 1 0 := ⟨nt (List.mem_of_getElem? (i := 135) (by decide +kernel)) rfl, gt (List.mem_of_getElem? (i := 136) (by decide +kernel)) rfl, gt (List.mem_of_getElem? (i := 26) (by decide +kernel)) rfl, gt (List.mem_of_getElem? (i := 137) (by decide +kernel)) rfl, by decide +kernel⟩
theorem ik_X4_11 : IK RX4 11 yX1_init "TouchingCoins" cX1_init 1 0 := ⟨nt (List.mem_of_getElem? (i := 140) (by decide +kernel)) rfl, gt (List.mem_of_getElem? (i := 47) (by decide +kernel)) rfl, gt (List.mem_of_getElem? (i := 21) (by decide +kernel)) rfl, gt (List.mem_of_getElem? (i := 48) (by decide +kernel)) rfl, by decide +kernel⟩
theorem fl_X1_11 : FL RX1 11 1 0 RX1 TX1 1 (.array .long) true := ⟨rfl, by decide, gt (List.mem_of_getElem? (i := 50) (by decide +kernel)) rfl, by decide +kernel, rfl⟩
theorem fl_X6_91 : FL RX6 91 1 0 RX1 TX1 1 (.array .long) true := ⟨rfl, by decide, gt (List.mem_of_getElem? (i := 51) (by decide +kernel)) rfl, by decide +kernel, rfl⟩
theorem fl_X5_9 : FL RX5 9 5 0 RX5 TX5 2 (.array .int) true := ⟨rfl, by decide, gt (List.mem_of_getElem? (i := 62) (by decide +kernel)) rfl, by decide +kernel, rfl⟩
theorem fl_X5_15 : FL RX5 15 5 1 RX5 TX5 2 .int false := ⟨rfl, by decide, gt (List.mem_of_getElem? (i := 63) (by decide +kernel)) rfl, by decide +kernel, rfl⟩
theorem fl_X3_13 : FL RX3 13 3 0 RX3 TX3 4 (.array (.object "TouchingCoins$Four")) true := ⟨rfl, by decide, gt (List.mem_of_getElem? (i := 79) (by decide +kernel)) rfl, by decide +kernel, rfl⟩
theorem fl_X3_17 : FL RX3 17 3 1 RX3 TX3 4 (.array .int) true := ⟨rfl, by decide, gt (List.mem_of_getElem? (i := 80) (by decide +kernel)) rfl, by decide +kernel, rfl⟩
theorem fl_X3_22 : FL RX3 22 3 2 RX3 TX3 4 (.object "TouchingCoins$Four") true := ⟨rfl, by decide, gt (List.mem_of_getElem? (i := 81) (by decide +kernel)) rfl, by decide +kernel, rfl⟩
theorem fl_X3_26 : FL RX3 26 3 3 RX3 TX3 4 .int false := ⟨rfl, by decide, gt (List.mem_of_getElem? (i := 82) (by decide +kernel)) rfl, by decide +kernel, rfl⟩
theorem fl_X2_11 : FL RX2 11 2 0 RX2 TX2 4 (.array (.array .long)) true := ⟨rfl, by decide, gt (List.mem_of_getElem? (i := 100) (by decide +kernel)) rfl, by decide +kernel, rfl⟩
theorem fl_X6_171 : FL RX6 171 2 0 RX2 TX2 4 (.array (.array .long)) true := ⟨rfl, by decide, gt (List.mem_of_getElem? (i := 101) (by decide +kernel)) rfl, by decide +kernel, rfl⟩
theorem fl_X2_16 : FL RX2 16 2 1 RX2 TX2 4 .int false := ⟨rfl, by decide, gt (List.mem_of_getElem? (i := 102) (by decide +kernel)) rfl, by decide +kernel, rfl⟩
theorem fl_X6_167 : FL RX6 167 2 1 RX2 TX2 4 .int false := ⟨rfl, by decide, gt (List.mem_of_getElem? (i := 103) (by decide +kernel)) rfl, by decide +kernel, rfl⟩
theorem fl_X2_20 : FL RX2 20 2 2 RX2 TX2 4 .int false := ⟨rfl, by decide, gt (List.mem_of_getElem? (i := 104) (by decide +kernel)) rfl, by decide +kernel, rfl⟩
theorem fl_X3_34 : FL RX3 34 2 2 RX2 TX2 4 .int false := ⟨rfl, by decide, gt (List.mem_of_getElem? (i := 105) (by decide +kernel)) rfl, by decide +kernel, rfl⟩
theorem fl_X6_186 : FL RX6 186 2 2 RX2 TX2 4 .int false := ⟨rfl, by decide, gt (List.mem_of_getElem? (i := 106) (by decide +kernel)) rfl, by decide +kernel, rfl⟩
theorem fl_X2_23 : FL RX2 23 2 3 RX2 TX2 4 .int false := ⟨rfl, by decide, gt (List.mem_of_getElem? (i := 107) (by decide +kernel)) rfl, by decide +kernel, rfl⟩
theorem fl_X0_9 : FL RX0 9 0 0 RX0 TX0 3 (.array .long) true := ⟨rfl, by decide, gt (List.mem_of_getElem? (i := 122) (by decide +kernel)) rfl, by decide +kernel, rfl⟩
theorem fl_X6_81 : FL RX6 81 0 0 RX0 TX0 3 (.array .long) true := ⟨rfl, by decide, gt (List.mem_of_getElem? (i := 123) (by decide +kernel)) rfl, by decide +kernel, rfl⟩
theorem fl_X0_15 : FL RX0 15 0 1 RX0 TX0 3 .int false := ⟨rfl, by decide, gt (List.mem_of_getElem? (i := 124) (by decide +kernel)) rfl, by decide +kernel, rfl⟩
theorem fl_X6_74 : FL RX6 74 0 1 RX0 TX0 3 .int false := ⟨rfl, by decide, gt (List.mem_of_getElem? (i := 125) (by decide +kernel)) rfl, by decide +kernel, rfl⟩
theorem fl_X0_19 : FL RX0 19 0 2 RX0 TX0 3 .int false := ⟨rfl, by decide, gt (List.mem_of_getElem? (i := 126) (by decide +kernel)) rfl, by decide +kernel, rfl⟩
theorem fl_X4_12 : FL RX4 12 4 0 RX4 TX4 5 (.object "TouchingCoins$Four") true := ⟨rfl, by decide, gt (List.mem_of_getElem? (i := 141) (by decide +kernel)) rfl, by decide +kernel, rfl⟩
theorem fl_X6_112 : FL RX6 112 4 0 RX4 TX4 5 (.object "TouchingCoins$Four") true := ⟨rfl, by decide, gt (List.mem_of_getElem? (i := 142) (by decide +kernel)) rfl, by decide +kernel, rfl⟩
theorem fl_X4_18 : FL RX4 18 4 1 RX4 TX4 5 (.object "TouchingCoins$Four") true := ⟨rfl, by decide, gt (List.mem_of_getElem? (i := 143) (by decide +kernel)) rfl, by decide +kernel, rfl⟩
theorem fl_X6_150 : FL RX6 150 4 1 RX4 TX4 5 (.object "TouchingCoins$Four") true := ⟨rfl, by decide, gt (List.mem_of_getElem? (i := 144) (by decide +kernel)) rfl, by decide +kernel, rfl⟩
theorem fl_X4_21 : FL RX4 21 4 2 RX4 TX4 5 .int false := ⟨rfl, by decide, gt (List.mem_of_getElem? (i := 145) (by decide +kernel)) rfl, by decide +kernel, rfl⟩
theorem fl_X6_138 : FL RX6 138 4 2 RX4 TX4 5 .int false := ⟨rfl, by decide, gt (List.mem_of_getElem? (i := 146) (by decide +kernel)) rfl, by decide +kernel, rfl⟩
theorem fl_X4_25 : FL RX4 25 4 3 RX4 TX4 5 .int false := ⟨rfl, by decide, gt (List.mem_of_getElem? (i := 147) (by decide +kernel)) rfl, by decide +kernel, rfl⟩
theorem fl_X6_141 : FL RX6 141 4 3 RX4 TX4 5 .int false := ⟨rfl, by decide, gt (List.mem_of_getElem? (i := 148) (by decide +kernel)) rfl, by decide +kernel, rfl⟩
theorem fl_X4_28 : FL RX4 28 4 4 RX4 TX4 5 .int false := ⟨rfl, by decide, gt (List.mem_of_getElem? (i := 149) (by decide +kernel)) rfl, by decide +kernel, rfl⟩
theorem fl_X6_127 : FL RX6 127 4 4 RX4 TX4 5 .int false := ⟨rfl, by decide, gt (List.mem_of_getElem? (i := 150) (by decide +kernel)) rfl, by decide +kernel, rfl⟩
theorem fl_X6_11 : FL RX6 11 6 0 RX6 TX6 8 (.array (.object "TouchingCoins$Bag")) true := ⟨rfl, by decide, gt (List.mem_of_getElem? (i := 162) (by decide +kernel)) rfl, by decide +kernel, rfl⟩
theorem fl_X6_17 : FL RX6 17 6 1 RX6 TX6 8 (.array (.object "TouchingCoins$Quad")) true := ⟨rfl, by decide, gt (List.mem_of_getElem? (i := 163) (by decide +kernel)) rfl, by decide +kernel, rfl⟩
theorem fl_X6_21 : FL RX6 21 6 2 RX6 TX6 8 .int false := ⟨rfl, by decide, gt (List.mem_of_getElem? (i := 164) (by decide +kernel)) rfl, by decide +kernel, rfl⟩
theorem fl_X6_28 : FL RX6 28 6 3 RX6 TX6 8 (.object "TouchingCoins$Four") true := ⟨rfl, by decide, gt (List.mem_of_getElem? (i := 165) (by decide +kernel)) rfl, by decide +kernel, rfl⟩
theorem fl_X6_35 : FL RX6 35 6 4 RX6 TX6 8 (.object "TouchingCoins$Remainders") true := ⟨rfl, by decide, gt (List.mem_of_getElem? (i := 166) (by decide +kernel)) rfl, by decide +kernel, rfl⟩
theorem fl_X6_42 : FL RX6 42 6 5 RX6 TX6 8 (.object "TouchingCoins$NestSearch") true := ⟨rfl, by decide, gt (List.mem_of_getElem? (i := 167) (by decide +kernel)) rfl, by decide +kernel, rfl⟩
theorem fl_X6_49 : FL RX6 49 6 6 RX6 TX6 8 (.object "TouchingCoins$Listing") false := ⟨rfl, by decide, gt (List.mem_of_getElem? (i := 168) (by decide +kernel)) rfl, by decide +kernel, rfl⟩
theorem fl_X6_53 : FL RX6 53 6 7 RX6 TX6 8 (.object "TouchingCoins$Listing") false := ⟨rfl, by decide, gt (List.mem_of_getElem? (i := 169) (by decide +kernel)) rfl, by decide +kernel, rfl⟩
theorem fs_X5_21 : Cond.fieldLink RX5 21 "TouchingCoins$Remainders" "WEIGHT" "[I" ∈ gtbl := gt (List.mem_of_getElem? (i := 291) (by decide +kernel)) rfl
theorem fl_X7_7 : FL RX7 7 7 0 RX7 TX7 22 (.array .int) true := ⟨rfl, by decide, gt (List.mem_of_getElem? (i := 491) (by decide +kernel)) rfl, by decide +kernel, rfl⟩
theorem fl_X7_13 : FL RX7 13 7 1 RX7 TX7 22 (.array .int) true := ⟨rfl, by decide, gt (List.mem_of_getElem? (i := 492) (by decide +kernel)) rfl, by decide +kernel, rfl⟩
theorem fl_X7_16 : FL RX7 16 7 2 RX7 TX7 22 (.array .long) true := ⟨rfl, by decide, gt (List.mem_of_getElem? (i := 493) (by decide +kernel)) rfl, by decide +kernel, rfl⟩
theorem fl_X7_79 : FL RX7 79 7 3 RX7 TX7 22 .int false := ⟨rfl, by decide, gt (List.mem_of_getElem? (i := 494) (by decide +kernel)) rfl, by decide +kernel, rfl⟩
theorem fl_X7_20 : FL RX7 20 7 4 RX7 TX7 22 (.array .int) true := ⟨rfl, by decide, gt (List.mem_of_getElem? (i := 495) (by decide +kernel)) rfl, by decide +kernel, rfl⟩
theorem fl_X7_23 : FL RX7 23 7 5 RX7 TX7 22 (.array .int) true := ⟨rfl, by decide, gt (List.mem_of_getElem? (i := 496) (by decide +kernel)) rfl, by decide +kernel, rfl⟩
theorem fl_X7_26 : FL RX7 26 7 6 RX7 TX7 22 (.array .long) true := ⟨rfl, by decide, gt (List.mem_of_getElem? (i := 497) (by decide +kernel)) rfl, by decide +kernel, rfl⟩
theorem fl_X7_132 : FL RX7 132 7 7 RX7 TX7 22 .int false := ⟨rfl, by decide, gt (List.mem_of_getElem? (i := 498) (by decide +kernel)) rfl, by decide +kernel, rfl⟩
theorem fl_X7_29 : FL RX7 29 7 8 RX7 TX7 22 (.array .int) true := ⟨rfl, by decide, gt (List.mem_of_getElem? (i := 499) (by decide +kernel)) rfl, by decide +kernel, rfl⟩
theorem fl_X7_171 : FL RX7 171 7 9 RX7 TX7 22 .int false := ⟨rfl, by decide, gt (List.mem_of_getElem? (i := 500) (by decide +kernel)) rfl, by decide +kernel, rfl⟩
theorem fl_X7_174 : FL RX7 174 7 10 RX7 TX7 22 .int false := ⟨rfl, by decide, gt (List.mem_of_getElem? (i := 501) (by decide +kernel)) rfl, by decide +kernel, rfl⟩
theorem fl_X7_32 : FL RX7 32 7 11 RX7 TX7 22 .int false := ⟨rfl, by decide, gt (List.mem_of_getElem? (i := 502) (by decide +kernel)) rfl, by decide +kernel, rfl⟩
theorem fl_X7_36 : FL RX7 36 7 12 RX7 TX7 22 (.array .int) true := ⟨rfl, by decide, gt (List.mem_of_getElem? (i := 503) (by decide +kernel)) rfl, by decide +kernel, rfl⟩
theorem fl_X7_39 : FL RX7 39 7 13 RX7 TX7 22 (.array .long) true := ⟨rfl, by decide, gt (List.mem_of_getElem? (i := 504) (by decide +kernel)) rfl, by decide +kernel, rfl⟩
theorem fl_X7_42 : FL RX7 42 7 14 RX7 TX7 22 (.array .long) true := ⟨rfl, by decide, gt (List.mem_of_getElem? (i := 505) (by decide +kernel)) rfl, by decide +kernel, rfl⟩
theorem fl_X7_151 : FL RX7 151 7 15 RX7 TX7 22 .int false := ⟨rfl, by decide, gt (List.mem_of_getElem? (i := 506) (by decide +kernel)) rfl, by decide +kernel, rfl⟩
theorem fl_X7_45 : FL RX7 45 7 16 RX7 TX7 22 (.array .long) true := ⟨rfl, by decide, gt (List.mem_of_getElem? (i := 507) (by decide +kernel)) rfl, by decide +kernel, rfl⟩
theorem fl_X7_48 : FL RX7 48 7 17 RX7 TX7 22 (.array .int) true := ⟨rfl, by decide, gt (List.mem_of_getElem? (i := 508) (by decide +kernel)) rfl, by decide +kernel, rfl⟩
theorem fl_X7_144 : FL RX7 144 7 18 RX7 TX7 22 .int false := ⟨rfl, by decide, gt (List.mem_of_getElem? (i := 509) (by decide +kernel)) rfl, by decide +kernel, rfl⟩
theorem fl_X7_51 : FL RX7 51 7 19 RX7 TX7 22 (.array .long) true := ⟨rfl, by decide, gt (List.mem_of_getElem? (i := 510) (by decide +kernel)) rfl, by decide +kernel, rfl⟩
theorem fl_X7_54 : FL RX7 54 7 20 RX7 TX7 22 (.array .int) true := ⟨rfl, by decide, gt (List.mem_of_getElem? (i := 511) (by decide +kernel)) rfl, by decide +kernel, rfl⟩
theorem fl_X7_58 : FL RX7 58 7 21 RX7 TX7 22 (.array .int) true := ⟨rfl, by decide, gt (List.mem_of_getElem? (i := 512) (by decide +kernel)) rfl, by decide +kernel, rfl⟩
theorem kc_X4_35 : Cond.constant RX4 35 (100000) ∈ gtbl := gt (List.mem_of_getElem? (i := 324) (by decide +kernel)) rfl
theorem kc_X6_133 : Cond.constant RX6 133 (-20000000) ∈ gtbl := gt (List.mem_of_getElem? (i := 366) (by decide +kernel)) rfl
theorem kc_X6_170 : Cond.constant RX6 170 (-20000001) ∈ gtbl := gt (List.mem_of_getElem? (i := 446) (by decide +kernel)) rfl
theorem kc_X6_185 : Cond.constant RX6 185 (-20000002) ∈ gtbl := gt (List.mem_of_getElem? (i := 479) (by decide +kernel)) rfl
theorem kc_X7_57 : Cond.constant RX7 57 (331776) ∈ gtbl := gt (List.mem_of_getElem? (i := 490) (by decide +kernel)) rfl
theorem kc_X7_131 : Cond.constant RX7 131 (-20000000) ∈ gtbl := gt (List.mem_of_getElem? (i := 640) (by decide +kernel)) rfl
theorem kc_X7_177 : Cond.constant RX7 177 (-20000001) ∈ gtbl := gt (List.mem_of_getElem? (i := 710) (by decide +kernel)) rfl
theorem kc_X7_194 : Cond.constant RX7 194 (-20000002) ∈ gtbl := gt (List.mem_of_getElem? (i := 738) (by decide +kernel)) rfl
theorem kl_X1_65 : Cond.constantLong RX1 65 (-20000) ∈ gtbl := gt (List.mem_of_getElem? (i := 244) (by decide +kernel)) rfl
theorem kl_X1_67 : Cond.constantLong RX1 67 (20000) ∈ gtbl := gt (List.mem_of_getElem? (i := 245) (by decide +kernel)) rfl
theorem kl_X1_73 : Cond.constantLong RX1 73 (-50000) ∈ gtbl := gt (List.mem_of_getElem? (i := 257) (by decide +kernel)) rfl
theorem kl_X1_75 : Cond.constantLong RX1 75 (50000) ∈ gtbl := gt (List.mem_of_getElem? (i := 258) (by decide +kernel)) rfl
theorem kl_X1_25 : Cond.constantLong RX1 25 (2) ∈ gtbl := gt (List.mem_of_getElem? (i := 267) (by decide +kernel)) rfl
theorem kl_X5_28 : Cond.constantLong RX5 28 (24) ∈ gtbl := gt (List.mem_of_getElem? (i := 294) (by decide +kernel)) rfl
theorem kl_X1_31 : Cond.constantLong RX1 31 (3) ∈ gtbl := gt (List.mem_of_getElem? (i := 337) (by decide +kernel)) rfl
theorem kl_X7_61 : Cond.constantLong RX7 61 (5) ∈ gtbl := gt (List.mem_of_getElem? (i := 565) (by decide +kernel)) rfl
theorem kl_X7_71 : Cond.constantLong RX7 71 (-1) ∈ gtbl := gt (List.mem_of_getElem? (i := 569) (by decide +kernel)) rfl
theorem kl_X7_73 : Cond.constantLong RX7 73 (2) ∈ gtbl := gt (List.mem_of_getElem? (i := 570) (by decide +kernel)) rfl
theorem kl_X7_105 : Cond.constantLong RX7 105 (12) ∈ gtbl := gt (List.mem_of_getElem? (i := 591) (by decide +kernel)) rfl
theorem kl_X7_82 : Cond.constantLong RX7 82 (-20000) ∈ gtbl := gt (List.mem_of_getElem? (i := 599) (by decide +kernel)) rfl
theorem kl_X7_84 : Cond.constantLong RX7 84 (20000) ∈ gtbl := gt (List.mem_of_getElem? (i := 600) (by decide +kernel)) rfl
theorem kl_X7_86 : Cond.constantLong RX7 86 (-50000) ∈ gtbl := gt (List.mem_of_getElem? (i := 604) (by decide +kernel)) rfl
theorem kl_X7_88 : Cond.constantLong RX7 88 (50000) ∈ gtbl := gt (List.mem_of_getElem? (i := 605) (by decide +kernel)) rfl
theorem kl_X7_118 : Cond.constantLong RX7 118 (3) ∈ gtbl := gt (List.mem_of_getElem? (i := 624) (by decide +kernel)) rfl
theorem kl_X7_166 : Cond.constantLong RX7 166 (2000) ∈ gtbl := gt (List.mem_of_getElem? (i := 681) (by decide +kernel)) rfl
theorem kl_X7_190 : Cond.constantLong RX7 190 (-100) ∈ gtbl := gt (List.mem_of_getElem? (i := 736) (by decide +kernel)) rfl
theorem kl_X7_192 : Cond.constantLong RX7 192 (100) ∈ gtbl := gt (List.mem_of_getElem? (i := 737) (by decide +kernel)) rfl
theorem kl_L_18 : Cond.constantLong RL 18 (4294967295) ∈ gtbl := gt (List.mem_of_getElem? (i := 743) (by decide +kernel)) rfl
theorem cl_L_7 : Cond.classLink RL 7 "TouchingCoins" ∈ gtbl := gt (List.mem_of_getElem? (i := 32) (by decide +kernel)) rfl
theorem cl_X6_9 : Cond.classLink RX6 9 "TouchingCoins$Bag" ∈ gtbl := gt (List.mem_of_getElem? (i := 40) (by decide +kernel)) rfl
theorem cl_X6_15 : Cond.classLink RX6 15 "TouchingCoins$Quad" ∈ gtbl := gt (List.mem_of_getElem? (i := 42) (by decide +kernel)) rfl
theorem cl_X6_25 : Cond.classLink RX6 25 "TouchingCoins$Four" ∈ gtbl := gt (List.mem_of_getElem? (i := 44) (by decide +kernel)) rfl
theorem cl_X6_32 : Cond.classLink RX6 32 "TouchingCoins$Remainders" ∈ gtbl := gt (List.mem_of_getElem? (i := 56) (by decide +kernel)) rfl
theorem cl_X6_39 : Cond.classLink RX6 39 "TouchingCoins$NestSearch" ∈ gtbl := gt (List.mem_of_getElem? (i := 70) (by decide +kernel)) rfl
theorem cl_X3_11 : Cond.classLink RX3 11 "TouchingCoins$Four" ∈ gtbl := gt (List.mem_of_getElem? (i := 76) (by decide +kernel)) rfl
theorem cl_X6_46 : Cond.classLink RX6 46 "TouchingCoins$Listing" ∈ gtbl := gt (List.mem_of_getElem? (i := 92) (by decide +kernel)) rfl
theorem cl_X2_9 : Cond.classLink RX2 9 "[[J" ∈ gtbl := gt (List.mem_of_getElem? (i := 98) (by decide +kernel)) rfl
theorem cl_X4_9 : Cond.classLink RX4 9 "TouchingCoins$Four" ∈ gtbl := gt (List.mem_of_getElem? (i := 139) (by decide +kernel)) rfl
theorem cl_L_10 : Cond.classLink RL 10 "TouchingCoinsModel" ∈ gtbl := gt (List.mem_of_getElem? (i := 484) (by decide +kernel)) rfl
theorem it_X6 : Cond.instantiable RX6 8 ∈ gtbl := gt (List.mem_of_getElem? (i := 33) (by decide +kernel)) rfl
theorem ii_X6 : Cond.initialized RX6 ∈ gtbl := gt (List.mem_of_getElem? (i := 20) (by decide +kernel)) rfl
theorem it_X1 : Cond.instantiable RX1 1 ∈ gtbl := gt (List.mem_of_getElem? (i := 45) (by decide +kernel)) rfl
theorem ii_X1 : Cond.initialized RX1 ∈ gtbl := gt (List.mem_of_getElem? (i := 21) (by decide +kernel)) rfl
theorem it_X5 : Cond.instantiable RX5 2 ∈ gtbl := gt (List.mem_of_getElem? (i := 57) (by decide +kernel)) rfl
theorem ii_X5 : Cond.initialized RX5 ∈ gtbl := gt (List.mem_of_getElem? (i := 22) (by decide +kernel)) rfl
theorem it_X3 : Cond.instantiable RX3 4 ∈ gtbl := gt (List.mem_of_getElem? (i := 71) (by decide +kernel)) rfl
theorem ii_X3 : Cond.initialized RX3 ∈ gtbl := gt (List.mem_of_getElem? (i := 23) (by decide +kernel)) rfl
theorem it_X2 : Cond.instantiable RX2 4 ∈ gtbl := gt (List.mem_of_getElem? (i := 93) (by decide +kernel)) rfl
theorem ii_X2 : Cond.initialized RX2 ∈ gtbl := gt (List.mem_of_getElem? (i := 24) (by decide +kernel)) rfl
theorem it_X0 : Cond.instantiable RX0 3 ∈ gtbl := gt (List.mem_of_getElem? (i := 117) (by decide +kernel)) rfl
theorem ii_X0 : Cond.initialized RX0 ∈ gtbl := gt (List.mem_of_getElem? (i := 25) (by decide +kernel)) rfl
theorem it_X4 : Cond.instantiable RX4 5 ∈ gtbl := gt (List.mem_of_getElem? (i := 134) (by decide +kernel)) rfl
theorem ii_X4 : Cond.initialized RX4 ∈ gtbl := gt (List.mem_of_getElem? (i := 26) (by decide +kernel)) rfl
theorem it_X7 : Cond.instantiable RX7 22 ∈ gtbl := gt (List.mem_of_getElem? (i := 485) (by decide +kernel)) rfl
theorem ii_X7 : Cond.initialized RX7 ∈ gtbl := gt (List.mem_of_getElem? (i := 27) (by decide +kernel)) rfl
theorem w_oiI : Cond.instanceMethod objectInit ∈ gtbl := gt (List.mem_of_getElem? (i := 38) (by decide +kernel)) rfl
theorem w_oiC : Cond.code objectInit ⟨#[0xb1]⟩ 1 none ∈ gtbl := gt (List.mem_of_getElem? (i := 39) (by decide +kernel)) rfl
theorem w_acN : Cond.native arraycopyName ∈ gtbl := gt (List.mem_of_getElem? (i := 223) (by decide +kernel)) rfl
theorem w_acS : Cond.static arraycopyName ∈ gtbl := gt (List.mem_of_getElem? (i := 222) (by decide +kernel)) rfl
theorem w_acI : Cond.initialized "java/lang/System" ∈ gtbl := gt (List.mem_of_getElem? (i := 29) (by decide +kernel)) rfl
theorem w_aI : Cond.arrayClass .int ∈ gtbl := gt (List.mem_of_getElem? (i := 69) (by decide +kernel)) rfl
theorem w_aJ : Cond.arrayClass .long ∈ gtbl := gt (List.mem_of_getElem? (i := 55) (by decide +kernel)) rfl
end
section
theorem Met.ofWF {l : Launch} {y : MethodName} {ws ws' : List Cond} {rm : Room} {Pc : Array Value → State → Prop} {Qc : Array Value → State → Outcome → State → Prop} {mc ms : Nat} {free : Addr → Prop} {cc : ByteArray} {maxL : Nat} {ret : Option FieldType}
    (hy : plainFor y = true) (hw : ws = Cond.code y cc maxL ret :: ws')
    (body : ∀ p e s m args below meth c s₁, BodyLoose p l y (headSpec ws rm) cc maxL ret e s m args below meth c s₁ → c.maxLocals = maxL → Pc args s →
      W p l e (headSpec ws rm).room s m args below meth c s.heap [] 0 0 (MQ below Qc args s mc ms free) (entryFrame m args maxL)) : Met l y ws rm Pc Qc mc ms free := by
  refine MetFree.of_bodySF (code := cc) (maxLocals := maxL) (ret := ret) hy ?_ ?_
  · intro args s m h hn
    obtain ⟨meth, c, h1, h2, h3, h4, h5, h6, -, -⟩ := Cond.code_spec hn (atoms_spec (ws := ws) h _ (by rw [hw]; exact List.mem_cons_self))
    exact ⟨meth, c, h1, h2, h3, h4, h5, h6⟩
  · intro p e s m args below meth c s₁ B hml hP _
    have hh0 : s₁.heap = s.heap := by rw [B.state]; rfl
    obtain ⟨t, a1, o, b1, b2, b3⟩ := body p e s m args below meth c s₁ B hml hP s₁ hh0 (Stand.of_body B)
    exact ⟨t, o, a1, b1, b2, ⟨b3.1, b3.2⟩⟩
theorem Con.ofF {G : GP} {y : MethodName} {cd : ByteArray} {mL : Nat} {rt : Option FieldType} {d mc ms : Nat} {av : List Value} {M : Mem} {n : Option Nat} {post : Option Value → Mem → Option Nat → Prop} (hp : plainFor y = true) (hlen : (lg_sl av).length ≤ mL)
    (k : ∀ X : CX, FX G X y.cls cd rt d mc ms → (xmeth X).name = y.name → V G X 0 0 (BQ G X post mc ms) M n 0 (entL av mL) []) : Con G y cd mL rt d mc ms av M n post := by
  refine Met.ofWF (cc := cd) (maxL := mL) (ret := rt) hp rfl ?_
  intro p e s m args below meth c s₁ B hml hv
  obtain ⟨rfl, hm, hK, hst, hns, hB⟩ := hv
  have hts := atoms_spec (ws := Cond.code y cd mL rt :: gtbl) B.pre
  have hown : s.vm.findClass y.cls = some m.cls := findClass_of_methodNamed B.named
  have hk := k (p, e, { frames := d, cells := mc, slots := ms, locals := 36 * d }, s, m, av.toArray, below, meth, c) ⟨B.exec, B.bytes, B.returns, B.notSynchronized, hown, fun w hw => hts w (List.mem_cons_of_mem _ hw), hK, hst, hns, hB, Nat.le_refl _, Nat.le_refl _, Nat.le_refl _, Nat.le_refl _⟩ (name_of_methodNamed B.named B.method).1
  rw [lg_entry_eq]
  have hl := lv_entry av (n := mL) hlen
  refine hk s.heap [] _ hm va_S.rf ?_ (by rw [entL_len _ _ hlen]; exact hml.symm)
  refine ⟨by rw [entL_len _ _ hlen]; exact hl.1, hl.2.1, fun q hq => ?_⟩
  obtain ⟨i, w⟩ := q
  have := entL_ln av mL 0 i w (mem_asl.mp hq)
  rw [Nat.zero_add] at this
  exact hl.2.2 _ this
def wl (M : Mem) (z : Nat) : va_W := (List.range z).filterMap fun b => (M b).map fun e => (b, e)
theorem wl_mem {M : Mem} {z b : Nat} {e : va_E} : (b, e) ∈ wl M z ↔ b < z ∧ M b = some e := by
  unfold wl
  rw [List.mem_filterMap]
  constructor
  · rintro ⟨c, hc, he⟩
    cases hm : M c with
    | none => rw [hm] at he; cases he
    | some w => rw [hm] at he; cases he; exact ⟨List.mem_range.mp hc, hm⟩
  · intro ⟨h1, h2⟩
    exact ⟨b, List.mem_range.mpr h1, by rw [h2]; rfl⟩
theorem wl_pw (M : Mem) (z : Nat) : (wl M z).Pairwise (fun p q => p.1 < q.1) := by
  unfold wl
  rw [List.pairwise_filterMap]
  refine List.Pairwise.imp ?_ List.pairwise_lt_range
  intro a b hab x hx y hy
  cases hm : M a with
  | none => rw [hm] at hx; cases hx
  | some w =>
    cases hn : M b with
    | none => rw [hn] at hy; cases hy
    | some w2 =>
      rw [hm] at hx
      rw [hn] at hy
      cases hx
      cases hy
      exact hab
theorem wl_D {G : GP} {M : Mem} {n : Option Nat} {H : Heap} (h : mem G M n H) : va_D (fun q => gB G ≤ q) (wl M H.size) := by
  have hp := wl_pw M H.size
  rw [List.pairwise_iff_getElem] at hp
  refine ⟨fun i j p q hi hj hpq => ?_, fun k q hk => ?_⟩
  · obtain ⟨li, ei⟩ := List.getElem?_eq_some_iff.mp hi
    obtain ⟨lj, ej⟩ := List.getElem?_eq_some_iff.mp hj
    rcases Nat.lt_trichotomy i j with q1 | q1 | q1
    · have := hp i j li lj q1
      rw [ei, ej] at this
      omega
    · exact q1
    · have := hp j i lj li q1
      rw [ei, ej] at this
      omega
  · obtain ⟨b, e⟩ := q
    exact (h.2 b e (wl_mem.mp (List.mem_of_getElem? hk)).2).1
theorem wl_P {G : GP} {M : Mem} {n : Option Nat} {H : Heap} (h : mem G M n H) : va_P (gD G) vwCl (wl M H.size) H := fun k q hk => by
  obtain ⟨b, e⟩ := q
  exact (h.2 b e (wl_mem.mp (List.mem_of_getElem? hk)).2).2
theorem wl_back {G : GP} {M : Mem} {n : Option Nat} {H H1 : Heap} {a q1 : Nat} {e0 e : va_E} (h : mem G M n H) (ha : M a = some e0) (hq : (wl M H.size)[q1]? = some (a, e0)) (hP : va_P (gD G) vwCl ((wl M H.size).set q1 (a, e)) H1) : mem G (mset M a e) none H1 := by
  refine ⟨fun k hk => (by cases hk), fun b e2 hb => ?_⟩
  have hl := (List.getElem?_eq_some_iff.mp hq).1
  by_cases hba : b = a
  · subst hba
    rw [mset_eq] at hb
    cases hb
    exact ⟨(h.2 _ _ ha).1, hP q1 _ (List.getElem?_set_self hl)⟩
  · rw [mset_ne _ _ hba] at hb
    obtain ⟨k, hk⟩ := List.getElem?_of_mem (wl_mem.mpr ⟨(h.2 _ _ hb).2.lt, hb⟩)
    refine ⟨(h.2 _ _ hb).1, hP k _ ?_⟩
    rw [List.getElem?_set_ne]
    · exact hk
    · intro e
      subst e
      rw [hq] at hk
      cases hk
      exact hba rfl
theorem nI_inc (a : Nat) : nI a + Int32.ofInt 1 = nI (a + 1) := by rw [show Int32.ofInt 1 = 1 by decide]; exact nI_1 a
theorem nI_dec (a : Nat) : nI (a + 1) + Int32.ofInt (-1) = nI a := by rw [show Int32.ofInt (-1) = -1 by decide]; exact pk_m1 a
section VV2
variable {G : GP} {X : CX} {cells slots : Nat} {Q : State → Prop} {M : Mem} {n : Option Nat} {pc : Nat} {L : List (Option Value)} {st : List Value} {own : String} {cc : ByteArray} {ret : Option FieldType} {d rc rs : Nat}
theorem V_acopy (F : FX G X own cc ret d rc rs) {i a0 a n0 n1 : Nat} {f g : Nat → Int64} {s1 s2 s3 : Int32} (hw : Cond.methodLink own i arraycopyName ∈ gtbl) (hdg : decode cc pc = .ok (.invokestatic i, 3)) (h0 : M a0 = some (eJ (gT G) n0 f)) (h1 : M a = some (eJ (gT G) n1 g)) (sp dp m : Nat) (e1 : s1 = nI sp) (e2 : s2 = nI dp) (e3 : s3 = nI m) (h4 : sp + m ≤ n0) (h5 : dp + m ≤ n1) (h6 : n0 < 2 ^ 31) (h7 : n1 < 2 ^ 31) (hd : 1 ≤ d) (hW : (st.map fun v => v.category).sum ≤ 8)
    (k : V G X cells slots Q (mset M a (eJ (gT G) n1 (va_cpy f g sp dp m))) none (pc + 3) L st) : V G X cells slots Q M none pc L (.int s3 :: .int s2 :: .ref a :: .int s1 :: .ref a0 :: st) := fun H locs ls hm hS hL hz => by
  subst e1 e2 e3
  have f1 := F.d.1
  have f2 := F.d.2.1
  obtain ⟨q0, hq0⟩ := List.getElem?_of_mem (wl_mem.mpr ⟨(hm.2 _ _ h0).2.lt, h0⟩)
  obtain ⟨q1, hq1⟩ := List.getElem?_of_mem (wl_mem.mpr ⟨(hm.2 _ _ h1).2.lt, h1⟩)
  have c1 : (nI sp).toNatClampNeg = sp := nI_clamp (by omega)
  have c2 : (nI dp).toNatClampNeg = dp := nI_clamp (by omega)
  have c3 : (nI m).toNatClampNeg = m := nI_clamp (by omega)
  refine va_copyl F.x F.b (hz.symm.trans hL.1.symm) F.o (F.t _ hw) (F.t _ w_acN) (F.t _ w_acS) (F.t _ w_acI) F.K (wl_P hm) (wl_D hm) hS q0 q1 1 1 (ty := .long) hq0 hq1 rfl rfl rfl (nI_pos (by omega)) (nI_pos (by omega)) (nI_pos (by omega)) (by rw [c1, c3]; exact h4) (by rw [c2, c3]; exact h5) (fun _ _ => rfl) (by omega) ?_ hdg fun H1 locs1 hP1 _ hS1 => ?_
  · have : nativeFrameWords "java/lang/System" "arraycopy" 5 + 11 ≤ 28 := by decide +kernel
    omega
  · rw [c1, c2, c3] at hP1
    exact k H1 locs1 ls (wl_back hm h1 hq1 hP1) hS1 hL hz
def mrow (M : Mem) (h N : Nat) (eo z : va_E) : Mem := fun b => if b = h then some eo else if h + 1 ≤ b ∧ b < h + 1 + N then some z else M b
theorem vr_outer (c : ClassId) (N h0 : Nat) : ∀ i : Nat, Jvm.Free.Multi.outerC c N h0 i = arrV c N (fun j => va_rf (if j < i then some (h0 + 1 + j) else none))
  | 0 => by
    show ({ cls := c, slots := Array.replicate N .null, vm := .none } : Cell) = _
    rw [arrV_new]
    refine congrArg (arrV c N) (funext fun j => ?_)
    simp [va_rf]
  | i + 1 => by
    show (Jvm.Free.Multi.outerC c N h0 i).setSlot i (.ref (h0 + 1 + i)) = _
    rw [vr_outer c N h0 i, arrV_store]
    refine congrArg (arrV c N) (funext fun j => ?_)
    by_cases e : j = i
    · subst e
      simp [updV, va_rf]
    · by_cases h : j < i
      · simp [updV, e, h, Nat.lt_succ_of_lt h]
      · simp [updV, e, h, show ¬ j < i + 1 by omega]
theorem V_mna (F : FX G X own cc ret d rc rs) {i h N K : Nat} {s1 s2 : Int32} (hw : Cond.classLink own i ("[" ++ (FieldType.array .long).toString) ∈ gtbl) (hdg : decode cc pc = .ok (.multianewarray i 2, 4)) (e1 : s1 = nI N) (e2 : s2 = nI K) (hN : N < 100000) (hK : K < 100000) (hc1 : cells + (1 + N) ≤ rc) (hc2 : slots + (N + N * K) ≤ rs)
    (k : V G X (cells + 1 + N) (slots + N + N * K) Q (mrow M h N (eQ (gT G) 5 N (fun j => if j < N then some (h + 1 + j) else none)) (eJ (gT G) K (fun _ => 0))) (some (h + 1 + N)) (pc + 4) L (.ref h :: st)) : V G X cells slots Q M (some h) pc L (.int s2 :: .int s1 :: st) := fun H locs ls hm hS hL hz => by
  subst e1 e2
  have hsz : H.size = h := hm.1 h rfl
  have cN : (nI N).toNatClampNeg = N := nI_clamp (by omega)
  have cK : (nI K).toNatClampNeg = K := nI_clamp (by omega)
  intro T hT Xs
  obtain ⟨vm₁, cA, comp, -, fA, fC, hO, -, X', step⟩ := Xs.multianewarray2F F.x F.o (F.t _ hw) (va_AL.use F.n.2.2.2.2) (F.t _ w_aJ) (g := F0 (xm X) pc ls (.int (nI K) :: .int (nI N) :: st)) rfl (by rw [F.b]; exact hdg) rfl (nI_pos (by omega)) (nI_pos (by omega)) (by rw [cN]; omega) (by rw [cK]; show K * 8 ≤ _; omega) (by rw [cK]; omega) rfl rfl (by rw [cN]; exact Nat.le_trans hc1 F.d.2.2.1) (by rw [cN, cK]; exact Nat.le_trans hc2 F.d.2.2.2)
  rw [cN, cK] at X' step
  have eJc : gT G 1 = comp := Option.some.inj (((F.K.2 1 _ rfl).2 : (xs X).vm.findClass ("[" ++ FieldType.long.toString) = some (gT G 1)).symm.trans fC)
  have eAc : gT G 5 = cA := Option.some.inj (((F.K.2 5 _ rfl).2 : (xs X).vm.findClass ("[" ++ (FieldType.array .long).toString) = some (gT G 5)).symm.trans fA)
  subst eJc eAc
  generalize hF : Jvm.Free.Multi.fill (T.setVm vm₁) (gT G 5) (gT G 1) N K (defaultValue .long) N = FS at X' step
  have hTh : (T.setVm vm₁).heap = H := hT
  obtain ⟨f1, f2, -, -⟩ := Jvm.Free.Multi.fill_facts (T.setVm vm₁) (gT G 5) (gT G 1) N K (defaultValue .long) N
  rw [hF, hTh] at f1 f2
  have hold : ∀ x : Nat, x < H.size → FS.heap[x]? = H[x]? := fun x hx => by
    have := Jvm.Free.Multi.fill_old (T.setVm vm₁) (gT G 5) (gT G 1) N K (defaultValue .long) (a := x) (by rw [hTh]; exact hx) N
    rw [hF, hTh] at this
    exact this
  have hz0 : Jvm.Free.Multi.innerC (gT G 1) K (defaultValue .long) = vp_cell (gT G 1) (K, .inr (.inl (fun _ => 0))) := by
    rw [vp_cell_l]
    exact arrV_new _ _ _
  have hrow : ∀ j : Nat, j < N → FS.heap[H.size + 1 + j]? = some (vp_cell (gT G 1) (K, .inr (.inl (fun _ => 0)))) := fun j hj => by
    have := Jvm.Free.Multi.fill_inner (T.setVm vm₁) (gT G 5) (gT G 1) N K (defaultValue .long) N j hj
    rw [hF, hTh, hz0] at this
    exact this
  have hout : Jvm.Free.Multi.outerC (gT G 5) N H.size N = vp_cell (gT G 5) (N, .inr (.inr (.inr (.inr (fun i => if i < N then some (H.size + 1 + i) else none))))) := by
    rw [vp_cell_q]
    exact vr_outer (gT G 5) N H.size N
  rw [hout] at f2
  have hB := F.B
  have hS1 := hS.1
  obtain ⟨t, a1, b1⟩ := k FS.heap locs ls ⟨fun q hq => (by cases hq; rw [f1, hsz] <;> omega), fun b e2 hb => by
    unfold mrow at hb
    by_cases q1 : b = h
    · rw [if_pos q1] at hb
      cases hb
      refine ⟨by omega, ?_⟩
      show FS.heap[b]? = some _
      rw [q1, ← hsz]
      exact f2
    · rw [if_neg q1] at hb
      by_cases q2 : h + 1 ≤ b ∧ b < h + 1 + N
      · rw [if_pos q2] at hb
        cases hb
        refine ⟨by omega, ?_⟩
        show FS.heap[b]? = some _
        have := hrow (b - (h + 1)) (by omega)
        rw [show H.size + 1 + (b - (h + 1)) = b by omega] at this
        exact this
      · rw [if_neg q2] at hb
        exact ⟨(hm.2 _ _ hb).1, (hm.2 _ _ hb).2.kept (hold b (hm.2 _ _ hb).2.lt)⟩⟩ ⟨by rw [f1]; omega, fun x q1 q2 => (hold x (Nat.lt_of_lt_of_le q1 hS.1)).trans (hS.2.1 x q1 q2), hS.2.2⟩ hL hz FS rfl X'
  refine ⟨t, step t ?_, b1⟩
  have e : T.heap.size = h := by rw [hT]; exact hsz
  rw [e]
  exact a1
theorem V_ialdN (F : FX G X own cc ret d rc rs) {a N : Nat} {f : Nat → Int32} {i : Int32} (hdg : decode cc pc = .ok (.iaload, 1)) (hM : M a = some (eI (gT G) N f)) (j : Nat) (hi : i = nI j) (hj : j < N) (hN : N < 2 ^ 31) (k : V G X cells slots Q M n (pc + 1) L (.int (f j) :: st)) : V G X cells slots Q M n pc L (.int i :: .ref a :: st) := by
  subst hi
  refine V_iald F hdg hM (vp_in_nI hj hN) ?_
  rw [nI_clamp (by omega)]
  exact k
theorem V_laldN (F : FX G X own cc ret d rc rs) {a N : Nat} {f : Nat → Int64} {i : Int32} (hdg : decode cc pc = .ok (.laload, 1)) (hM : M a = some (eJ (gT G) N f)) (j : Nat) (hi : i = nI j) (hj : j < N) (hN : N < 2 ^ 31) (k : V G X cells slots Q M n (pc + 1) L (.long (f j) :: st)) : V G X cells slots Q M n pc L (.int i :: .ref a :: st) := by
  subst hi
  refine V_lald F hdg hM (vp_in_nI hj hN) ?_
  rw [nI_clamp (by omega)]
  exact k
theorem V_aaldN (F : FX G X own cc ret d rc rs) {a N x : Nat} (t : Nat) {ty : FieldType} {f : Nat → Option Nat} {i : Int32} (hdg : decode cc pc = .ok (.aaload, 1)) (hM : M a = some (eQ (gT G) t N f)) (ht : (tysOf (gT G))[t]? = some (gT G t, ty)) (hty : ty.isReference = true) (j : Nat) (hi : i = nI j) (hj : j < N) (hN : N < 2 ^ 31) (hx : f j = some x) (k : V G X cells slots Q M n (pc + 1) L (.ref x :: st)) : V G X cells slots Q M n pc L (.int i :: .ref a :: st) := by
  subst hi
  exact V_aald F t hdg hM ht hty (vp_in_nI hj hN) (by rw [nI_clamp (by omega)]; exact hx) k
theorem V_iastN (F : FX G X own cc ret d rc rs) {a N : Nat} {f : Nat → Int32} {i x : Int32} (hdg : decode cc pc = .ok (.iastore, 1)) (hM : M a = some (eI (gT G) N f)) (j : Nat) (hi : i = nI j) (hj : j < N) (hN : N < 2 ^ 31) (k : V G X cells slots Q (mset M a (eI (gT G) N (va_up f j x))) n (pc + 1) L st) : V G X cells slots Q M n pc L (.int x :: .int i :: .ref a :: st) := by
  subst hi
  refine V_iast F hdg hM (vp_in_nI hj hN) ?_
  rw [nI_clamp (by omega)]
  exact k
theorem V_lastN (F : FX G X own cc ret d rc rs) {a N : Nat} {f : Nat → Int64} {i : Int32} {x : Int64} (hdg : decode cc pc = .ok (.lastore, 1)) (hM : M a = some (eJ (gT G) N f)) (j : Nat) (hi : i = nI j) (hj : j < N) (hN : N < 2 ^ 31) (k : V G X cells slots Q (mset M a (eJ (gT G) N (va_up f j x))) n (pc + 1) L st) : V G X cells slots Q M n pc L (.long x :: .int i :: .ref a :: st) := by
  subst hi
  refine V_last F hdg hM (vp_in_nI hj hN) ?_
  rw [nI_clamp (by omega)]
  exact k
theorem V_aastN (F : FX G X own cc ret d rc rs) {a N x ci : Nat} (t : Nat) {r : vw_C} {fs : List Value} {f : Nat → Option Nat} {i : Int32} (hdg : decode cc pc = .ok (.aastore, 1)) (hM : M a = some (eQ (gT G) t N f)) (ht : (tysOf (gT G))[t]? = some (gT G t, .object r.1)) (hx : M x = some (eO ci fs)) (hr : vwCl[ci]? = some r) (j : Nat) (hi : i = nI j) (hj : j < N) (hN : N < 2 ^ 31) (k : V G X cells slots Q (mset M a (eQ (gT G) t N (va_up f j (some x)))) n (pc + 1) L st) : V G X cells slots Q M n pc L (.ref x :: .int i :: .ref a :: st) := by
  subst hi
  refine V_aast F t hdg hM ht hx hr (vp_in_nI hj hN) ?_
  rw [nI_clamp (by omega)]
  exact k
theorem V_taldN (F : FX G X own cc ret d rc rs) {i : Int32} (hdg : decode cc pc = .ok (.iaload, 1)) (j : Nat) (hi : i = nI j) (hj : j < 4) (k : V G X cells slots Q M n (pc + 1) L (.int (wt j) :: st)) : V G X cells slots Q M n pc L (.int i :: .ref (gw G) :: st) := by
  subst hi
  refine V_tald F hdg (vp_in_nI hj (by omega)) ?_
  rw [nI_clamp (by omega)]
  exact k
theorem V_ivR (F : FX G X own cc ret d rc rs) {i mL na dc a ci N : Nat} {y : MethodName} {cd : ByteArray} {rt : Option FieldType} {T : u_T} {fs As st0 : List Value} {v : Option Value} {M' : Mem} {n' : Option Nat} (w : IV own i y cd mL rt na) (hdg : decode cc pc = .ok (.invokevirtual i, 3)) (hc : Con G y cd mL rt dc 0 0 (.ref a :: As) M n (R1 v M' n')) (hM : M a = some (eO ci fs)) (hci : vwCl[ci]? = some (y.cls, T, N)) (hst : st0 = As.reverse ++ .ref a :: st) (hn : As.length = na) (hk : ((dc + 1).ble d && mL.ble 17 && cells.ble rc && slots.ble rs && ((st.map Value.category).sum).ble 8) = true)
    (kk : V G X cells slots Q M' n' (pc + 3) L (v.toList ++ st)) : V G X cells slots Q M n pc L st0 := by
  simp only [Bool.and_eq_true] at hk
  obtain ⟨⟨⟨⟨k1, k2⟩, k3⟩, k4⟩, k5⟩ := hk
  exact V_iv F w hdg hc hM hci hst hn (Nat.le_of_ble_eq_true k1) (Nat.le_of_ble_eq_true k2) (Nat.le_of_ble_eq_true k3) (Nat.le_of_ble_eq_true k4) (Nat.le_of_ble_eq_true k5) (fun v2 M2 n2 h => by obtain ⟨rfl, rfl, rfl⟩ := h; exact kk)
theorem V_isR (F : FX G X own cc ret d rc rs) {i mL na dc : Nat} {y : MethodName} {cd : ByteArray} {rt : Option FieldType} {As st0 : List Value} {v : Option Value} {M' : Mem} {n' : Option Nat} (w : IS own i y cd mL rt na) (hdg : decode cc pc = .ok (.invokestatic i, 3)) (hc : Con G y cd mL rt dc 0 0 As M n (R1 v M' n')) (hst : st0 = As.reverse ++ st) (hn : As.length = na) (hk : ((dc + 1).ble d && mL.ble 17 && cells.ble rc && slots.ble rs && ((st.map Value.category).sum).ble 8) = true)
    (kk : V G X cells slots Q M' n' (pc + 3) L (v.toList ++ st)) : V G X cells slots Q M n pc L st0 := by
  simp only [Bool.and_eq_true] at hk
  obtain ⟨⟨⟨⟨k1, k2⟩, k3⟩, k4⟩, k5⟩ := hk
  exact V_is F w hdg hc hst hn (Nat.le_of_ble_eq_true k1) (Nat.le_of_ble_eq_true k2) (Nat.le_of_ble_eq_true k3) (Nat.le_of_ble_eq_true k4) (Nat.le_of_ble_eq_true k5) (fun v2 M2 n2 h => by obtain ⟨rfl, rfl, rfl⟩ := h; exact kk)
theorem V_ivP (F : FX G X own cc ret d rc rs) {i mL na dc a ci N : Nat} {y : MethodName} {cd : ByteArray} {rt : Option FieldType} {T : u_T} {fs As st0 : List Value} {post : Option Value → Mem → Option Nat → Prop} (w : IV own i y cd mL rt na) (hdg : decode cc pc = .ok (.invokevirtual i, 3)) (hc : Con G y cd mL rt dc 0 0 (.ref a :: As) M n post) (hM : M a = some (eO ci fs)) (hci : vwCl[ci]? = some (y.cls, T, N)) (hst : st0 = As.reverse ++ .ref a :: st) (hn : As.length = na) (hk : ((dc + 1).ble d && mL.ble 17 && cells.ble rc && slots.ble rs && ((st.map Value.category).sum).ble 8) = true)
    (kk : ∀ v M' n', post v M' n' → V G X cells slots Q M' n' (pc + 3) L (v.toList ++ st)) : V G X cells slots Q M n pc L st0 := by
  simp only [Bool.and_eq_true] at hk
  obtain ⟨⟨⟨⟨k1, k2⟩, k3⟩, k4⟩, k5⟩ := hk
  exact V_iv F w hdg hc hM hci hst hn (Nat.le_of_ble_eq_true k1) (Nat.le_of_ble_eq_true k2) (Nat.le_of_ble_eq_true k3) (Nat.le_of_ble_eq_true k4) (Nat.le_of_ble_eq_true k5) kk
theorem V_iinc1 (F : FX G X own cc ret d rc rs) {j k : Nat} (hdg : decode cc pc = .ok (.iinc j 1, 3)) (hl : ln L j = some (.int (nI k))) (kk : V G X cells slots Q M n (pc + 3) (st1 L j (.int (nI (k + 1)))) st) : V G X cells slots Q M n pc L st := V_iinc F hdg hl (by rw [nI_inc]; exact kk)
theorem V_iincm (F : FX G X own cc ret d rc rs) {j k : Nat} (hdg : decode cc pc = .ok (.iinc j (-1), 3)) (hl : ln L j = some (.int (nI (k + 1)))) (kk : V G X cells slots Q M n (pc + 3) (st1 L j (.int (nI k))) st) : V G X cells slots Q M n pc L st := V_iinc F hdg hl (by rw [nI_dec]; exact kk)
theorem V_drop (i : Nat) (kk : V G X cells slots Q M n pc (lset L i none) st) : V G X cells slots Q M n pc L st := fun H locs ls hm hS hL hz => kk H locs ls hm hS (by
  refine ⟨by rw [lset_len]; exact hL.1, hL.2.1, fun q hq => ?_⟩
  obtain ⟨j, w⟩ := q
  rcases lset_ln _ _ _ _ _ (mem_asl.mp hq) with ⟨_, b⟩ | ⟨_, b⟩
  · cases b
  · exact hL.get b) (by rw [lset_len]; exact hz)
/-- two maps that the machine can't tell apart -/
theorem V_mem {M1 : Mem} (h : ∀ (H : Heap), mem G M n H → mem G M1 n H) (k : V G X cells slots Q M1 n pc L st) : V G X cells slots Q M n pc L st := fun H locs ls hm hS hL hz => k H locs ls (h H hm) hS hL hz
end VV2
theorem mset_mset (M : Mem) (a : Nat) (e e2 : va_E) : mset (mset M a e) a e2 = mset M a e2 := by
  funext b
  by_cases h : b = a <;> simp [mset, h]
theorem mset_self {M : Mem} {a : Nat} {e : va_E} (h : M a = some e) : mset M a e = M := by
  funext b
  by_cases hb : b = a
  · subst hb; rw [mset_eq]; exact h.symm
  · rw [mset_ne _ _ hb]
theorem mset_comm (M : Mem) {a b : Nat} (e e2 : va_E) (h : a ≠ b) : mset (mset M a e) b e2 = mset (mset M b e2) a e := by
  funext c
  by_cases h1 : c = a
  · subst h1; rw [mset_ne _ _ h, mset_eq, mset_eq]
  · by_cases h2 : c = b
    · subst h2; rw [mset_eq, mset_ne _ _ h1, mset_eq]
    · rw [mset_ne _ _ h2, mset_ne _ _ h1, mset_ne _ _ h1, mset_ne _ _ h2]
theorem ne_oj {M : Mem} {a r ci : Nat} {fs : List Value} {x : ClassId × vp_A} (h : M a = some (eO ci fs)) (h1 : M r = some (.inl x)) : a ≠ r := fun e => by
  subst e
  rw [h] at h1
  cases h1
theorem arrV_congr {α : Type} (cA : ClassId) (N : Nat) (mk : α → Value) {f g : Nat → α} (h : ∀ k, k < N → f k = g k) : arrV cA N (fun j => mk (f j)) = arrV cA N (fun j => mk (g j)) := by
  have : (Array.ofFn (n := N) fun j => mk (f j.val)) = (Array.ofFn (n := N) fun j => mk (g j.val)) := by
    congr 1
    funext j
    rw [h j.val j.isLt]
  show ({ cls := cA, slots := Array.ofFn (n := N) fun j => mk (f j.val), vm := .none } : Cell) = _
  rw [this]
  rfl
theorem mem_cell {G : GP} {M : Mem} {n : Option Nat} {H : Heap} {a : Nat} {x y : ClassId × vp_A} (h : mem G (mset M a (.inl x)) n H) (e : vp_cell x.1 x.2 = vp_cell y.1 y.2) : mem G (mset M a (.inl y)) n H := by
  refine ⟨h.1, fun b e2 hb => ?_⟩
  by_cases hba : b = a
  · subst hba
    rw [mset_eq] at hb
    cases hb
    have := h.2 b _ (mset_eq M b _)
    refine ⟨this.1, ?_⟩
    have h2 : H[b]? = some (vp_cell x.1 x.2) := this.2
    show H[b]? = some (vp_cell y.1 y.2)
    rw [h2, e]
  · rw [mset_ne _ _ hba] at hb
    exact h.2 b e2 (by rw [mset_ne _ _ hba]; exact hb)
theorem mem_J {G : GP} {M : Mem} {n : Option Nat} {H : Heap} {a N : Nat} {f g : Nat → Int64} (e : ∀ k, k < N → f k = g k) (h : mem G (mset M a (eJ (gT G) N f)) n H) : mem G (mset M a (eJ (gT G) N g)) n H := mem_cell h (by rw [vp_cell_l, vp_cell_l]; exact arrV_congr _ _ _ e)
theorem mem_I {G : GP} {M : Mem} {n : Option Nat} {H : Heap} {a N : Nat} {f g : Nat → Int32} (e : ∀ k, k < N → f k = g k) (h : mem G (mset M a (eI (gT G) N f)) n H) : mem G (mset M a (eI (gT G) N g)) n H := mem_cell h (by rw [vp_cell_i, vp_cell_i]; exact arrV_congr _ _ _ e)
theorem mem_Q {G : GP} {M : Mem} {n : Option Nat} {H : Heap} {a N t : Nat} {f g : Nat → Option Nat} (e : ∀ k, k < N → f k = g k) (h : mem G (mset M a (eQ (gT G) t N f)) n H) : mem G (mset M a (eQ (gT G) t N g)) n H := mem_cell h (by rw [vp_cell_q, vp_cell_q]; exact arrV_congr _ _ _ e)
def bI (b : Bool) : Int32 := if b then 1 else 0
theorem bI_0 {b : Bool} : bI b = 0 ↔ b = false := by cases b <;> decide
theorem bI_n {b : Bool} : ¬ bI b = 0 ↔ b = true := by cases b <;> decide
theorem rt {b : Bool} (h : b = true) : some (Value.int (nI 1)) = some (.int (bI b)) := by subst h; rfl
theorem rf {b : Bool} (h : b = false) : some (Value.int (nI 0)) = some (.int (bI b)) := by subst h; rfl
theorem bI_z (b : Bool) : narrow .boolean (.int (bI b)) = .int (bI b) := by cases b <;> rfl
theorem ki_m1 : Int32.ofInt (-1) = (-1) := by decide +kernel
theorem ki_0 : Int32.ofInt (0) = nI 0 := by decide +kernel
theorem ki_1 : Int32.ofInt (1) = nI 1 := by decide +kernel
theorem ki_2 : Int32.ofInt (2) = nI 2 := by decide +kernel
theorem ki_3 : Int32.ofInt (3) = nI 3 := by decide +kernel
theorem ki_4 : Int32.ofInt (4) = nI 4 := by decide +kernel
theorem ki_5 : Int32.ofInt (5) = nI 5 := by decide +kernel
theorem kb_m100 : (Int8.ofInt (-100)).toInt32 = (-100) := by decide +kernel
theorem kb_m20 : (Int8.ofInt (-20)).toInt32 = (-20) := by decide +kernel
theorem kb_m19 : (Int8.ofInt (-19)).toInt32 = (-19) := by decide +kernel
theorem kb_m18 : (Int8.ofInt (-18)).toInt32 = (-18) := by decide +kernel
theorem kb_m17 : (Int8.ofInt (-17)).toInt32 = (-17) := by decide +kernel
theorem kb_m16 : (Int8.ofInt (-16)).toInt32 = (-16) := by decide +kernel
theorem kb_m15 : (Int8.ofInt (-15)).toInt32 = (-15) := by decide +kernel
theorem kb_m14 : (Int8.ofInt (-14)).toInt32 = (-14) := by decide +kernel
theorem kb_m13 : (Int8.ofInt (-13)).toInt32 = (-13) := by decide +kernel
theorem kb_m12 : (Int8.ofInt (-12)).toInt32 = (-12) := by decide +kernel
theorem kb_m11 : (Int8.ofInt (-11)).toInt32 = (-11) := by decide +kernel
theorem kb_m4 : (Int8.ofInt (-4)).toInt32 = (-4) := by decide +kernel
theorem kb_m3 : (Int8.ofInt (-3)).toInt32 = (-3) := by decide +kernel
theorem kb_m2 : (Int8.ofInt (-2)).toInt32 = (-2) := by decide +kernel
theorem kb_6 : (Int8.ofInt (6)).toInt32 = nI 6 := by decide +kernel
theorem kb_9 : (Int8.ofInt (9)).toInt32 = nI 9 := by decide +kernel
theorem kb_12 : (Int8.ofInt (12)).toInt32 = nI 12 := by decide +kernel
theorem kb_24 : (Int8.ofInt (24)).toInt32 = nI 24 := by decide +kernel
theorem kb_31 : (Int8.ofInt (31)).toInt32 = nI 31 := by decide +kernel
theorem kb_32 : (Int8.ofInt (32)).toInt32 = nI 32 := by decide +kernel
theorem kb_60 : (Int8.ofInt (60)).toInt32 = nI 60 := by decide +kernel
theorem kb_100 : (Int8.ofInt (100)).toInt32 = nI 100 := by decide +kernel
theorem ks_144 : (Int16.ofInt (144)).toInt32 = nI 144 := by decide +kernel
theorem ks_240 : (Int16.ofInt (240)).toInt32 = nI 240 := by decide +kernel
theorem ks_241 : (Int16.ofInt (241)).toInt32 = nI 241 := by decide +kernel
theorem ks_576 : (Int16.ofInt (576)).toInt32 = nI 576 := by decide +kernel
theorem ks_720 : (Int16.ofInt (720)).toInt32 = nI 720 := by decide +kernel
theorem ks_732 : (Int16.ofInt (732)).toInt32 = nI 732 := by decide +kernel
theorem ks_1000 : (Int16.ofInt (1000)).toInt32 = nI 1000 := by decide +kernel
theorem ks_2000 : (Int16.ofInt (2000)).toInt32 = nI 2000 := by decide +kernel
theorem ks_3840 : (Int16.ofInt (3840)).toInt32 = nI 3840 := by decide +kernel
theorem ks_10368 : (Int16.ofInt (10368)).toInt32 = nI 10368 := by decide +kernel
theorem ks_13824 : (Int16.ofInt (13824)).toInt32 = nI 13824 := by decide +kernel
theorem ks_24000 : (Int16.ofInt (24000)).toInt32 = nI 24000 := by decide +kernel
theorem lcmp_gt (x y : Int64) : 0 < lg_cmp x y ↔ y < x := by
  unfold lg_cmp
  by_cases h : x > y
  · simp [h]
  · by_cases h2 : x = y
    · simp [h2]
    · simp [h, h2]
theorem lcmp_eq (x y : Int64) : lg_cmp x y = 0 ↔ x = y := by
  unfold lg_cmp
  by_cases h : x > y
  · rw [if_pos h]
    refine ⟨fun q => absurd q (by decide), fun q => ?_⟩
    subst q
    exact absurd h (by simp)
  · rw [if_neg h]
    by_cases h2 : x = y
    · simp [h2]
    · simp [h2]
theorem lcmp_lt (x y : Int64) : lg_cmp x y < 0 ↔ x < y := by
  unfold lg_cmp
  by_cases h : x > y
  · rw [if_pos h]
    refine ⟨fun q => absurd q (by decide), fun q => ?_⟩
    simp only [gt_iff_lt, Int64.lt_iff_toInt_lt] at h q
    omega
  · rw [if_neg h]
    by_cases h2 : x = y
    · simp [h2]
    · rw [if_neg h2]
      refine ⟨fun _ => ?_, fun _ => by decide⟩
      have h3 : ¬ x.toInt = y.toInt := fun q => h2 (Int64.toInt_inj.mp q)
      simp only [gt_iff_lt, Int64.lt_iff_toInt_lt] at h ⊢
      omega
theorem lcmp_le (x y : Int64) : lg_cmp x y ≤ 0 ↔ x ≤ y := by
  have h := lcmp_gt x y
  rw [Int64.le_iff_toInt_le]
  rw [Int64.lt_iff_toInt_lt] at h
  rw [Int32.le_iff_toInt_le]
  rw [Int32.lt_iff_toInt_lt] at h
  omega
theorem lcmp_ge (x y : Int64) : 0 ≤ lg_cmp x y ↔ y ≤ x := lg_cmp_ge x y
end
section
abbrev Qd : Type := Nat → Nat → Int64
def fc (c : Qd) : Nat → Int64 := fun k => c (k % 4) (k / 4)
def upc (c : Qd) (i w : Nat) (x : Int64) : Qd := fun j v => if j = i ∧ v = w then x else c j v
theorem fc_at {c : Qd} {i w : Nat} (hi : i < 4) : fc c (4 * w + i) = c i w := by
  unfold fc
  rw [show (4 * w + i) % 4 = i by omega, show (4 * w + i) / 4 = w by omega]
theorem fc_at0 {c : Qd} {i : Nat} (hi : i < 4) : fc c i = c i 0 := by
  have := fc_at (c := c) (w := 0) hi
  rwa [Nat.mul_zero, Nat.zero_add] at this
theorem fc_up {c : Qd} {i w : Nat} {x : Int64} (hi : i < 4) : va_up (fc c) (4 * w + i) x = fc (upc c i w x) := by
  funext k
  unfold va_up fc upc
  by_cases h : k = 4 * w + i
  · rw [if_pos h, if_pos ⟨by omega, by omega⟩]
  · rw [if_neg h, if_neg (fun q => h (by omega))]
def tsum (c : Qd) (w : Nat) : Int64 := c 0 w + c 1 w + c 2 w + c 3 w
def trn (c : Qd) (i w : Nat) : Int64 := 2 * tsum c w - 3 * c i w
def turnc (c : Qd) (i : Nat) : Qd := fun j w => if j = i ∧ w < 3 then trn c i w else c j w
theorem trn_up {c : Qd} {i v w : Nat} {x : Int64} (h : v ≠ w) : trn (upc c i v x) i w = trn c i w := by
  unfold trn tsum upc
  simp only [show ¬ w = v from fun q => h q.symm, and_false, if_false]
theorem turnc_eq (c : Qd) (i : Nat) : upc (upc (upc c i 0 (trn c i 0)) i 1 (trn c i 1)) i 2 (trn c i 2) = turnc c i := by
  funext j w
  unfold upc turnc
  by_cases hj : j = i
  · subst hj
    match w with
    | 0 => simp
    | 1 => simp
    | 2 => simp
    | w + 3 => simp; intro h; omega
  · simp [hj]
def gstep (c : Qd) (b k : Nat) : Nat := if c b 0 < c k 0 then k else b
def grt (c : Qd) : Nat := gstep c (gstep c (gstep c 0 1) 2) 3
theorem gstep_lt {c : Qd} {b k : Nat} (hb : b < 4) (hk : k < 4) : gstep c b k < 4 := by unfold gstep; split <;> assumption
theorem grt_lt (c : Qd) : grt c < 4 := gstep_lt (gstep_lt (gstep_lt (by omega) (by omega)) (by omega)) (by omega)
section FOUR
variable {G : GP} {M : Mem} {n : Option Nat} {a r : Nat} {c : Qd}
set_option maxRecDepth 20000 in
theorem c_X1_told (h0 : M a = some (eO 1 [.ref r])) (h1 : M r = some (eJ (gT G) 12 (fc c))) {i w : Nat} (hi : i < 4) (hw : w < 3) : Con G yX1_told cX1_told 3 (some .long) 0 0 0 [.ref a, .int (nI i), .int (nI w)] M n (R1 (some (.long (c i w))) M n) := by
  refine Con.of (by decide +kernel) (Nat.le_of_ble_eq_true rfl) (fun X F hnm => ?_)
  show V G X 0 0 _ M _ 0 [some (.ref a), some (.int (nI i)), some (.int (nI w))] []
  refine V_aload_n F dX1_told_0 rfl ?_
  refine V_get F fl_X1_11 dX1_told_1 (by assumption) rfl ?_
  refine V_iconst F dX1_told_4 ki_4 ?_
  refine V_iload_n F dX1_told_5 rfl ?_
  refine V_imul F dX1_told_6 ?_
  refine V_iload_n F dX1_told_7 rfl ?_
  refine V_iadd F dX1_told_8 ?_
  refine V_laldN F dX1_told_9 (by assumption) (4 * w + i) (by first | rfl | simp only [pk_mul, nI_add, nI_1, nI_inc]) (by omega) (by omega) ?_
  exact V_lret F rfl dX1_told_10 ⟨by rw [fc_at hi], rfl, rfl⟩
theorem c_X1_bend (h0 : M a = some (eO 1 [.ref r])) (h1 : M r = some (eJ (gT G) 12 (fc c))) {i : Nat} (hi : i < 4) : Con G yX1_bend cX1_bend 2 (some .long) 0 0 0 [.ref a, .int (nI i)] M n (R1 (some (.long (c i 0))) M n) := by
  refine Con.of (by decide +kernel) (Nat.le_of_ble_eq_true rfl) (fun X F hnm => ?_)
  show V G X 0 0 _ M _ 0 [some (.ref a), some (.int (nI i))] []
  refine V_aload_n F dX1_bend_0 rfl ?_
  refine V_get F fl_X1_11 dX1_bend_1 (by assumption) rfl ?_
  refine V_iload_n F dX1_bend_4 rfl ?_
  refine V_laldN F dX1_bend_5 (by assumption) _ (by first | rfl | simp only [pk_mul, nI_add, nI_1, nI_inc]) (by omega) (by omega) ?_
  exact V_lret F rfl dX1_bend_6 ⟨by rw [fc_at0 hi], rfl, rfl⟩
theorem c_X1_sum (h0 : M a = some (eO 1 [.ref r])) (h1 : M r = some (eJ (gT G) 12 (fc c))) {w : Nat} (hw : w < 3) : Con G yX1_sum cX1_sum 2 (some .long) 1 0 0 [.ref a, .int (nI w)] M n (R1 (some (.long (tsum c w))) M n) := by
  refine Con.of (by decide +kernel) (Nat.le_of_ble_eq_true rfl) (fun X F hnm => ?_)
  show V G X 0 0 _ M _ 0 [some (.ref a), some (.int (nI w))] []
  refine V_aload_n F dX1_sum_0 rfl ?_
  refine V_iconst F dX1_sum_1 ki_0 ?_
  refine V_iload_n F dX1_sum_2 rfl ?_
  refine V_ivR F iv_X1_21 dX1_sum_3 (As := [_, _]) (c_X1_told h0 h1 (i := 0) (by omega) hw) (by assumption) rfl rfl rfl rfl ?_
  refine V_aload_n F dX1_sum_6 rfl ?_
  refine V_iconst F dX1_sum_7 ki_1 ?_
  refine V_iload_n F dX1_sum_8 rfl ?_
  refine V_ivR F iv_X1_21 dX1_sum_9 (As := [_, _]) (c_X1_told h0 h1 (i := 1) (by omega) hw) (by assumption) rfl rfl rfl rfl ?_
  refine V_ladd F dX1_sum_12 ?_
  refine V_aload_n F dX1_sum_13 rfl ?_
  refine V_iconst F dX1_sum_14 ki_2 ?_
  refine V_iload_n F dX1_sum_15 rfl ?_
  refine V_ivR F iv_X1_21 dX1_sum_16 (As := [_, _]) (c_X1_told h0 h1 (i := 2) (by omega) hw) (by assumption) rfl rfl rfl rfl ?_
  refine V_ladd F dX1_sum_19 ?_
  refine V_aload_n F dX1_sum_20 rfl ?_
  refine V_iconst F dX1_sum_21 ki_3 ?_
  refine V_iload_n F dX1_sum_22 rfl ?_
  refine V_ivR F iv_X1_21 dX1_sum_23 (As := [_, _]) (c_X1_told h0 h1 (i := 3) (by omega) hw) (by assumption) rfl rfl rfl rfl ?_
  refine V_ladd F dX1_sum_26 ?_
  exact V_lret F rfl dX1_sum_27 ⟨rfl, rfl, rfl⟩
theorem c_X1_turned (h0 : M a = some (eO 1 [.ref r])) (h1 : M r = some (eJ (gT G) 12 (fc c))) {i w : Nat} (hi : i < 4) (hw : w < 3) : Con G yX1_turned cX1_turned 3 (some .long) 2 0 0 [.ref a, .int (nI i), .int (nI w)] M n (R1 (some (.long (trn c i w))) M n) := by
  refine Con.of (by decide +kernel) (Nat.le_of_ble_eq_true rfl) (fun X F hnm => ?_)
  show V G X 0 0 _ M _ 0 [some (.ref a), some (.int (nI i)), some (.int (nI w))] []
  refine V_ldc2 F dX1_turned_0 kl_X1_25 ?_
  refine V_aload_n F dX1_turned_3 rfl ?_
  refine V_iload_n F dX1_turned_4 rfl ?_
  refine V_ivR F iv_X1_27 dX1_turned_5 (As := [_]) (c_X1_sum h0 h1 hw) (by assumption) rfl rfl rfl rfl ?_
  refine V_lmul F dX1_turned_8 ?_
  refine V_ldc2 F dX1_turned_9 kl_X1_31 ?_
  refine V_aload_n F dX1_turned_12 rfl ?_
  refine V_iload_n F dX1_turned_13 rfl ?_
  refine V_iload_n F dX1_turned_14 rfl ?_
  refine V_ivR F iv_X1_21 dX1_turned_15 (As := [_, _]) (c_X1_told h0 h1 hi hw) (by assumption) rfl rfl rfl rfl ?_
  refine V_lmul F dX1_turned_18 ?_
  refine V_lsub F dX1_turned_19 ?_
  exact V_lret F rfl dX1_turned_20 ⟨rfl, rfl, rfl⟩
theorem c_X1_turn (h0 : M a = some (eO 1 [.ref r])) (h1 : M r = some (eJ (gT G) 12 (fc c))) {i : Nat} (hi : i < 4) : Con G yX1_turn cX1_turn 3 none 3 0 0 [.ref a, .int (nI i)] M n (R1 none (mset M r (eJ (gT G) 12 (fc (turnc c i)))) n) := by
  refine Con.of (by decide +kernel) (Nat.le_of_ble_eq_true rfl) (fun X F hnm => ?_)
  show V G X 0 0 _ M _ 0 [some (.ref a), some (.int (nI i)), none] []
  have har := ne_oj h0 h1
  have k1 : ∀ e, mset M r e a = some (eO 1 [.ref r]) := fun e => (mset_ne _ _ har).trans h0
  refine V_iconst F dX1_turn_0 ki_0 ?_
  refine V_istore_n F dX1_turn_1 (Nat.le_of_ble_eq_true rfl) ?_
  show V _ _ _ _ _ _ _ _ [_, _, _] _
  refine V_iload_n F dX1_turn_2 rfl ?_
  refine V_iconst F dX1_turn_3 ki_2 ?_
  refine V_icmp_gt F 29 dX1_turn_4 (by decide) (fun c4 => absurd c4 (by decide)) (fun c4 => ?_)
  refine V_aload_n F dX1_turn_7 rfl ?_
  refine V_get F fl_X1_11 dX1_turn_8 (by assumption) rfl ?_
  refine V_iconst F dX1_turn_11 ki_4 ?_
  refine V_iload_n F dX1_turn_12 rfl ?_
  refine V_imul F dX1_turn_13 ?_
  refine V_iload_n F dX1_turn_14 rfl ?_
  refine V_iadd F dX1_turn_15 ?_
  refine V_aload_n F dX1_turn_16 rfl ?_
  refine V_iload_n F dX1_turn_17 rfl ?_
  refine V_iload_n F dX1_turn_18 rfl ?_
  refine V_ivR F iv_X1_33 dX1_turn_19 (As := [_, _]) (c_X1_turned h0 h1 hi (w := 0) (by omega)) (by assumption) rfl rfl rfl rfl ?_
  refine V_lastN F dX1_turn_22 (by assumption) (4 * 0 + i) (by first | rfl | simp only [pk_mul, nI_add, nI_1, nI_inc]) (by omega) (by omega) ?_
  refine V_iinc1 F dX1_turn_23 rfl ?_
  show V _ _ _ _ _ _ _ _ [_, _, _] _
  rw [fc_up hi]
  refine V_goto F 2 dX1_turn_26 (by decide) ?_
  refine V_iload_n F dX1_turn_2 rfl ?_
  refine V_iconst F dX1_turn_3 ki_2 ?_
  refine V_icmp_gt F 29 dX1_turn_4 (by decide) (fun c4 => absurd c4 (by decide)) (fun c4 => ?_)
  refine V_aload_n F dX1_turn_7 rfl ?_
  refine V_get F fl_X1_11 dX1_turn_8 (k1 _) rfl ?_
  refine V_iconst F dX1_turn_11 ki_4 ?_
  refine V_iload_n F dX1_turn_12 rfl ?_
  refine V_imul F dX1_turn_13 ?_
  refine V_iload_n F dX1_turn_14 rfl ?_
  refine V_iadd F dX1_turn_15 ?_
  refine V_aload_n F dX1_turn_16 rfl ?_
  refine V_iload_n F dX1_turn_17 rfl ?_
  refine V_iload_n F dX1_turn_18 rfl ?_
  refine V_ivR F iv_X1_33 dX1_turn_19 (As := [_, _]) (c_X1_turned (k1 _) (mset_eq _ _ _) hi (w := 1) (by omega)) (k1 _) rfl rfl rfl rfl ?_
  refine V_lastN F dX1_turn_22 (mset_eq _ _ _) (4 * 1 + i) (by first | rfl | simp only [pk_mul, nI_add, nI_1, nI_inc]) (by omega) (by omega) ?_
  refine V_iinc1 F dX1_turn_23 rfl ?_
  show V _ _ _ _ _ _ _ _ [_, _, _] _
  rw [fc_up hi, mset_mset, trn_up (by decide)]
  refine V_goto F 2 dX1_turn_26 (by decide) ?_
  refine V_iload_n F dX1_turn_2 rfl ?_
  refine V_iconst F dX1_turn_3 ki_2 ?_
  refine V_icmp_gt F 29 dX1_turn_4 (by decide) (fun c4 => absurd c4 (by decide)) (fun c4 => ?_)
  refine V_aload_n F dX1_turn_7 rfl ?_
  refine V_get F fl_X1_11 dX1_turn_8 (k1 _) rfl ?_
  refine V_iconst F dX1_turn_11 ki_4 ?_
  refine V_iload_n F dX1_turn_12 rfl ?_
  refine V_imul F dX1_turn_13 ?_
  refine V_iload_n F dX1_turn_14 rfl ?_
  refine V_iadd F dX1_turn_15 ?_
  refine V_aload_n F dX1_turn_16 rfl ?_
  refine V_iload_n F dX1_turn_17 rfl ?_
  refine V_iload_n F dX1_turn_18 rfl ?_
  refine V_ivR F iv_X1_33 dX1_turn_19 (As := [_, _]) (c_X1_turned (k1 _) (mset_eq _ _ _) hi (w := 2) (by omega)) (k1 _) rfl rfl rfl rfl ?_
  refine V_lastN F dX1_turn_22 (mset_eq _ _ _) (4 * 2 + i) (by first | rfl | simp only [pk_mul, nI_add, nI_1, nI_inc]) (by omega) (by omega) ?_
  refine V_iinc1 F dX1_turn_23 rfl ?_
  show V _ _ _ _ _ _ _ _ [_, _, _] _
  rw [fc_up hi, mset_mset, trn_up (by decide), trn_up (by decide), turnc_eq]
  refine V_goto F 2 dX1_turn_26 (by decide) ?_
  refine V_iload_n F dX1_turn_2 rfl ?_
  refine V_iconst F dX1_turn_3 ki_2 ?_
  refine V_icmp_gt F 29 dX1_turn_4 (by decide) (fun c4 => ?_) (fun c4 => absurd (by decide) c4)
  exact V_vret F rfl dX1_turn_29 ⟨rfl, rfl, rfl⟩
theorem c_X1_greatest (h0 : M a = some (eO 1 [.ref r])) (h1 : M r = some (eJ (gT G) 12 (fc c))) : Con G yX1_greatest cX1_greatest 3 (some .int) 1 0 0 [.ref a] M n (R1 (some (.int (nI (grt c)))) M n) := by
  refine Con.of (by decide +kernel) (Nat.le_of_ble_eq_true rfl) (fun X F hnm => ?_)
  show V G X 0 0 _ M _ 0 [some (.ref a), none, none] []
  have step : ∀ k b : Nat, k < 4 → b < 4 → V G X 0 0 (BQ G X (R1 (some (.int (nI (grt c)))) M n) 0 0) M n 4 [some (.ref a), some (.int (nI (gstep c b k))), some (.int (nI (k + 1)))] [] → V G X 0 0 (BQ G X (R1 (some (.int (nI (grt c)))) M n) 0 0) M n 4 [some (.ref a), some (.int (nI b)), some (.int (nI k))] [] := by
    intro k b hk hb kk
    refine V_iload_n F dX1_greatest_4 rfl ?_
    refine V_iconst F dX1_greatest_5 ki_4 ?_
    refine V_icmp_ge F 31 dX1_greatest_6 (by decide) (fun c6 => absurd c6 (nI_ge hk (by omega))) (fun c6 => ?_)
    refine V_aload_n F dX1_greatest_9 rfl ?_
    refine V_iload_n F dX1_greatest_10 rfl ?_
    refine V_ivR F iv_X1_36 dX1_greatest_11 (As := [_]) (c_X1_bend h0 h1 hk) (by assumption) rfl rfl rfl rfl ?_
    refine V_aload_n F dX1_greatest_14 rfl ?_
    refine V_iload_n F dX1_greatest_15 rfl ?_
    refine V_ivR F iv_X1_36 dX1_greatest_16 (As := [_]) (c_X1_bend h0 h1 hb) (by assumption) rfl rfl rfl rfl ?_
    refine V_lcmp F dX1_greatest_19 ?_
    refine V_if_le F 25 dX1_greatest_20 (by decide) (fun c20 => ?_) (fun c20 => ?_)
    · rw [lcmp_le] at c20
      rw [show gstep c b k = b by unfold gstep; rw [if_neg (by rw [Int64.not_lt]; exact c20)]] at kk
      refine V_iinc1 F dX1_greatest_25 rfl ?_
      show V _ _ _ _ _ _ _ _ [_, _, _] _
      refine V_goto F 4 dX1_greatest_28 (by decide) ?_
      exact kk
    · rw [lcmp_le] at c20
      rw [show gstep c b k = k by unfold gstep; rw [if_pos (Int64.not_le.mp c20)]] at kk
      refine V_iload_n F dX1_greatest_23 rfl ?_
      refine V_istore_n F dX1_greatest_24 (Nat.le_of_ble_eq_true rfl) ?_
      show V _ _ _ _ _ _ _ _ [_, _, _] _
      refine V_iinc1 F dX1_greatest_25 rfl ?_
      show V _ _ _ _ _ _ _ _ [_, _, _] _
      refine V_goto F 4 dX1_greatest_28 (by decide) ?_
      exact kk
  refine V_iconst F dX1_greatest_0 ki_0 ?_
  refine V_istore_n F dX1_greatest_1 (Nat.le_of_ble_eq_true rfl) ?_
  show V _ _ _ _ _ _ _ _ [_, _, _] _
  refine V_iconst F dX1_greatest_2 ki_1 ?_
  refine V_istore_n F dX1_greatest_3 (Nat.le_of_ble_eq_true rfl) ?_
  show V _ _ _ _ _ _ _ _ [_, _, _] _
  refine step 1 0 (by omega) (by omega) (step 2 _ (by omega) (gstep_lt (by omega) (by omega)) (step 3 _ (by omega) (gstep_lt (gstep_lt (by omega) (by omega)) (by omega)) ?_))
  refine V_iload_n F dX1_greatest_4 rfl ?_
  refine V_iconst F dX1_greatest_5 ki_4 ?_
  refine V_icmp_ge F 31 dX1_greatest_6 (by decide) (fun c6 => ?_) (fun c6 => absurd (by decide) c6)
  refine V_iload_n F dX1_greatest_31 rfl ?_
  exact V_iret F rfl dX1_greatest_32 rfl ⟨rfl, rfl, rfl⟩
end FOUR
end
section
def abs64 (x : Int64) : Int64 := if x < 0 then -x else x
def fmI (x y : Int32) : Int32 := if (x ^^^ y) < 0 ∧ ¬ x - x / y * y = 0 then x - x / y * y + y else x - x / y * y
def fmL (x y : Int64) : Int64 := if (x ^^^ y) < 0 ∧ ¬ x - x / y * y = 0 then x - x / y * y + y else x - x / y * y
def cmp64 (x y : Int64) : Int32 := if x < y then -1 else if x = y then nI 0 else nI 1
section JDK
variable {G : GP} {M : Mem} {n : Option Nat}
theorem c_J9_abs_067f4 (x : Int64) : Con G yJ9_abs_067f4 cJ9_abs_067f4 2 (some .long) 0 0 0 [.long x] M n (R1 (some (.long (abs64 x))) M n) := by
  refine Con.ofF (by decide +kernel) (Nat.le_of_ble_eq_true rfl) (fun X F hnm => ?_)
  show V G X 0 0 _ M _ 0 [some (.long x), none] []
  refine V_lload_n F dJ9_abs_067f4_0 rfl ?_
  refine V_lconst F dJ9_abs_067f4_1 (v := 0) (by decide) ?_
  refine V_lcmp F dJ9_abs_067f4_2 ?_
  refine V_if_ge F 11 dJ9_abs_067f4_3 (by decide) (fun c3 => ?_) (fun c3 => ?_)
  · rw [lcmp_ge] at c3
    refine V_lload_n F dJ9_abs_067f4_11 rfl ?_
    exact V_lret F rfl dJ9_abs_067f4_12 ⟨by unfold abs64; rw [if_neg (by rw [Int64.not_lt]; exact c3)], rfl, rfl⟩
  · rw [lcmp_ge] at c3
    refine V_lload_n F dJ9_abs_067f4_6 rfl ?_
    refine V_lneg F dJ9_abs_067f4_7 ?_
    refine V_goto F 12 dJ9_abs_067f4_8 (by decide) ?_
    exact V_lret F rfl dJ9_abs_067f4_12 ⟨by unfold abs64; rw [if_pos (Int64.not_le.mp c3)], rfl, rfl⟩
theorem c_J9_floorMod_7cf53 (x y : Int32) (hy : ¬ y = 0) : Con G yJ9_floorMod_7cf53 cJ9_floorMod_7cf53 3 (some .int) 0 0 0 [.int x, .int y] M n (R1 (some (.int (fmI x y))) M n) := by
  refine Con.ofF (by decide +kernel) (Nat.le_of_ble_eq_true rfl) (fun X F hnm => ?_)
  show V G X 0 0 _ M _ 0 [some (.int x), some (.int y), none] []
  refine V_iload_n F dJ9_floorMod_7cf53_0 rfl ?_
  refine V_iload_n F dJ9_floorMod_7cf53_1 rfl ?_
  refine V_irem F dJ9_floorMod_7cf53_2 hy ?_
  refine V_istore_n F dJ9_floorMod_7cf53_3 (Nat.le_of_ble_eq_true rfl) ?_
  show V _ _ _ _ _ _ _ _ [_, _, _] _
  refine V_iload_n F dJ9_floorMod_7cf53_4 rfl ?_
  refine V_iload_n F dJ9_floorMod_7cf53_5 rfl ?_
  refine V_ixor F dJ9_floorMod_7cf53_6 ?_
  refine V_if_ge F 18 dJ9_floorMod_7cf53_7 (by decide) (fun c7 => ?_) (fun c7 => ?_)
  · refine V_iload_n F dJ9_floorMod_7cf53_18 rfl ?_
    exact V_iret F rfl dJ9_floorMod_7cf53_19 rfl ⟨by unfold fmI; rw [if_neg (fun q => absurd q.1 (by rw [Int32.not_lt]; exact c7))], rfl, rfl⟩
  · refine V_iload_n F dJ9_floorMod_7cf53_10 rfl ?_
    refine V_if_eq F 18 dJ9_floorMod_7cf53_11 (by decide) (fun c11 => ?_) (fun c11 => ?_)
    · refine V_iload_n F dJ9_floorMod_7cf53_18 rfl ?_
      exact V_iret F rfl dJ9_floorMod_7cf53_19 rfl ⟨by unfold fmI; rw [if_neg (fun q => q.2 c11)], rfl, rfl⟩
    · refine V_iload_n F dJ9_floorMod_7cf53_14 rfl ?_
      refine V_iload_n F dJ9_floorMod_7cf53_15 rfl ?_
      refine V_iadd F dJ9_floorMod_7cf53_16 ?_
      exact V_iret F rfl dJ9_floorMod_7cf53_17 rfl ⟨by unfold fmI; rw [if_pos ⟨Int32.not_le.mp c7, c11⟩], rfl, rfl⟩
theorem c_J9_floorMod_f86c9 (x y : Int64) (hy : ¬ y = 0) : Con G yJ9_floorMod_f86c9 cJ9_floorMod_f86c9 6 (some .long) 0 0 0 [.long x, .long y] M n (R1 (some (.long (fmL x y))) M n) := by
  refine Con.ofF (by decide +kernel) (Nat.le_of_ble_eq_true rfl) (fun X F hnm => ?_)
  show V G X 0 0 _ M _ 0 [some (.long x), none, some (.long y), none, none, none] []
  refine V_lload_n F dJ9_floorMod_f86c9_0 rfl ?_
  refine V_lload_n F dJ9_floorMod_f86c9_1 rfl ?_
  refine V_lrem F dJ9_floorMod_f86c9_2 hy ?_
  refine V_lstore F dJ9_floorMod_f86c9_3 (Nat.le_of_ble_eq_true rfl) ?_
  show V _ _ _ _ _ _ _ _ [_, _, _, _, _, _] _
  refine V_lload_n F dJ9_floorMod_f86c9_5 rfl ?_
  refine V_lload_n F dJ9_floorMod_f86c9_6 rfl ?_
  refine V_lxor F dJ9_floorMod_f86c9_7 ?_
  refine V_lconst F dJ9_floorMod_f86c9_8 (v := 0) (by decide) ?_
  refine V_lcmp F dJ9_floorMod_f86c9_9 ?_
  refine V_if_ge F 25 dJ9_floorMod_f86c9_10 (by decide) (fun c10 => ?_) (fun c10 => ?_)
  · rw [lcmp_ge] at c10
    refine V_lload F dJ9_floorMod_f86c9_25 rfl ?_
    exact V_lret F rfl dJ9_floorMod_f86c9_27 ⟨by unfold fmL; rw [if_neg (fun q => absurd q.1 (by rw [Int64.not_lt]; exact c10))], rfl, rfl⟩
  · rw [lcmp_ge] at c10
    refine V_lload F dJ9_floorMod_f86c9_13 rfl ?_
    refine V_lconst F dJ9_floorMod_f86c9_15 (v := 0) (by decide) ?_
    refine V_lcmp F dJ9_floorMod_f86c9_16 ?_
    refine V_if_eq F 25 dJ9_floorMod_f86c9_17 (by decide) (fun c17 => ?_) (fun c17 => ?_)
    · rw [lcmp_eq] at c17
      refine V_lload F dJ9_floorMod_f86c9_25 rfl ?_
      exact V_lret F rfl dJ9_floorMod_f86c9_27 ⟨by unfold fmL; rw [if_neg (fun q => q.2 c17)], rfl, rfl⟩
    · rw [lcmp_eq] at c17
      refine V_lload F dJ9_floorMod_f86c9_20 rfl ?_
      refine V_lload_n F dJ9_floorMod_f86c9_22 rfl ?_
      refine V_ladd F dJ9_floorMod_f86c9_23 ?_
      exact V_lret F rfl dJ9_floorMod_f86c9_24 ⟨by unfold fmL; rw [if_pos ⟨Int64.not_le.mp c10, c17⟩], rfl, rfl⟩
theorem c_J13_compare_74951 (x y : Int64) : Con G yJ13_compare_74951 cJ13_compare_74951 4 (some .int) 0 0 0 [.long x, .long y] M n (R1 (some (.int (cmp64 x y))) M n) := by
  refine Con.ofF (by decide +kernel) (Nat.le_of_ble_eq_true rfl) (fun X F hnm => ?_)
  show V G X 0 0 _ M _ 0 [some (.long x), none, some (.long y), none] []
  refine V_lload_n F dJ13_compare_74951_0 rfl ?_
  refine V_lload_n F dJ13_compare_74951_1 rfl ?_
  refine V_lcmp F dJ13_compare_74951_2 ?_
  refine V_if_ge F 10 dJ13_compare_74951_3 (by decide) (fun c3 => ?_) (fun c3 => ?_)
  · rw [lcmp_ge] at c3
    refine V_lload_n F dJ13_compare_74951_10 rfl ?_
    refine V_lload_n F dJ13_compare_74951_11 rfl ?_
    refine V_lcmp F dJ13_compare_74951_12 ?_
    refine V_if_ne F 20 dJ13_compare_74951_13 (by decide) (fun c13 => ?_) (fun c13 => ?_)
    · rw [lcmp_eq] at c13
      refine V_iconst F dJ13_compare_74951_20 ki_1 ?_
      exact V_iret F rfl dJ13_compare_74951_21 rfl ⟨by unfold cmp64; rw [if_neg (by rw [Int64.not_lt]; exact c3), if_neg c13], rfl, rfl⟩
    · rw [lcmp_eq] at c13
      refine V_iconst F dJ13_compare_74951_16 ki_0 ?_
      refine V_goto F 21 dJ13_compare_74951_17 (by decide) ?_
      exact V_iret F rfl dJ13_compare_74951_21 rfl ⟨by unfold cmp64; rw [if_neg (by rw [Int64.not_lt]; exact c3), if_pos c13], rfl, rfl⟩
  · rw [lcmp_ge] at c3
    refine V_iconst F dJ13_compare_74951_6 ki_m1 ?_
    refine V_goto F 21 dJ13_compare_74951_7 (by decide) ?_
    exact V_iret F rfl dJ13_compare_74951_21 rfl ⟨by unfold cmp64; rw [if_pos (Int64.not_le.mp c3)], rfl, rfl⟩
def filled (N : Nat) (v : Int64) (f : Nat → Int64) (k : Nat) : Nat → Int64 := fun j => if j < k then v else f j
theorem filled_up {N k : Nat} {v : Int64} {f : Nat → Int64} : va_up (filled N v f k) k v = filled N v f (k + 1) := by
  funext j
  unfold va_up filled
  by_cases h : j = k
  · subst h; simp
  · by_cases h2 : j < k
    · simp [h, h2, Nat.lt_succ_of_lt h2]
    · simp [h, h2, show ¬ j < k + 1 by omega]
theorem c_J7_fill_d0a16 {r N : Nat} {f : Nat → Int64} (h1 : M r = some (eJ (gT G) N f)) (hN : N < 100000) (v : Int64) : Con G yJ7_fill_d0a16 cJ7_fill_d0a16 5 none 0 0 0 [.ref r, .long v] M n (R1 none (mset M r (eJ (gT G) N (filled N v f N))) n) := by
  refine Con.ofF (by decide +kernel) (Nat.le_of_ble_eq_true rfl) (fun X F hnm => ?_)
  show V G X 0 0 _ M _ 0 [some (.ref r), some (.long v), none, none, none] []
  have loop : ∀ m k : Nat, m + k = N → V G X 0 0 (BQ G X (R1 none (mset M r (eJ (gT G) N (filled N v f N))) n) 0 0) (mset M r (eJ (gT G) N (filled N v f k))) n 6 [some (.ref r), some (.long v), none, some (.int (nI k)), some (.int (nI N))] [] := by
    intro m
    induction m with
    | zero =>
      intro k hk
      have hk : k = N := by omega
      subst hk
      refine V_iload_n F dJ7_fill_d0a16_6 rfl ?_
      refine V_iload F dJ7_fill_d0a16_7 rfl ?_
      refine V_icmp_ge F 22 dJ7_fill_d0a16_9 (by decide) (fun c9 => ?_) (fun c9 => absurd (nI_le (by omega) (by omega)) c9)
      exact V_vret F rfl dJ7_fill_d0a16_22 ⟨rfl, rfl, rfl⟩
    | succ m ih =>
      intro k hk
      refine V_iload_n F dJ7_fill_d0a16_6 rfl ?_
      refine V_iload F dJ7_fill_d0a16_7 rfl ?_
      refine V_icmp_ge F 22 dJ7_fill_d0a16_9 (by decide) (fun c9 => absurd c9 (nI_ge (by omega) (by omega))) (fun c9 => ?_)
      refine V_aload_n F dJ7_fill_d0a16_12 rfl ?_
      refine V_iload_n F dJ7_fill_d0a16_13 rfl ?_
      refine V_lload_n F dJ7_fill_d0a16_14 rfl ?_
      refine V_lastN F dJ7_fill_d0a16_15 (mset_eq _ _ _) _ (by first | rfl | simp only [pk_mul, nI_add, nI_1, nI_inc]) (by omega) (by omega) ?_
      rw [mset_mset, filled_up]
      refine V_iinc1 F dJ7_fill_d0a16_16 rfl ?_
      show V _ _ _ _ _ _ _ _ [_, _, _, _, _] _
      refine V_goto F 6 dJ7_fill_d0a16_19 (by decide) ?_
      exact ih (k + 1) (by omega)
  refine V_iconst F dJ7_fill_d0a16_0 ki_0 ?_
  refine V_istore_n F dJ7_fill_d0a16_1 (Nat.le_of_ble_eq_true rfl) ?_
  show V _ _ _ _ _ _ _ _ [_, _, _, _, _] _
  refine V_aload_n F dJ7_fill_d0a16_2 rfl ?_
  refine V_alen F 1 dJ7_fill_d0a16_3 (by assumption) rfl rfl ?_
  refine V_istore F dJ7_fill_d0a16_4 (Nat.le_of_ble_eq_true rfl) ?_
  show V _ _ _ _ _ _ _ _ [_, _, _, _, _] _
  have := loop N 0 (by omega)
  rw [show filled N v f 0 = f from funext fun j => by simp [filled], mset_self h1] at this
  exact this
end JDK
end
section
def bRef (x : Int64) : Bool := x == 0 || (decide (x < -20000) || decide (20000 < x))
def pRef (x : Int64) : Bool := decide (x < -50000) || decide (50000 < x)
def plR (c : Qd) (i : Nat) : Bool := pRef (c i 1) || pRef (c i 2)
def cRef (c : Qd) (i : Nat) : Int32 := if bRef (c i 0) then -15 else if plR c i then -16 else nI 0
def tchf (a x y b u v : Int64) : Bool := (b * x - a * u) * (b * x - a * u) + (b * y - a * v) * (b * y - a * v) == (a + b) * (a + b)
def tch (c : Qd) (i : Nat) (c2 : Qd) (j : Nat) : Bool := tchf (c i 0) (c i 1) (c i 2) (c2 j 0) (c2 j 1) (c2 j 2)
def tms (c : Qd) (x : Int64) : Nat → Nat
  | 0 => 0
  | k + 1 => tms c x k + if c k 0 = x then 1 else 0
theorem tms_le (c : Qd) (x : Int64) : ∀ k, tms c x k ≤ k
  | 0 => Nat.le_refl _
  | k + 1 => by unfold tms; have := tms_le c x k; split <;> omega
def hbo (c c2 : Qd) : Nat → Bool
  | 0 => true
  | k + 1 => hbo c c2 k && tms c (c k 0) 4 == tms c2 (c k 0) 4
def gd : Nat → Qd → Nat × Qd
  | 0, c => (0, c)
  | m + 1, c => if trn c (grt c) 0 < c (grt c) 0 then ((gd m (turnc c (grt c))).1 + 1, (gd m (turnc c (grt c))).2) else (0, c)
def sqs (c : Qd) : Nat → Int64
  | 0 => 0
  | k + 1 => sqs c k + c k 0 * c k 0
def bst (c : Qd) : Bool := decide (0 < tsum c 0) && 2 * sqs c 4 == tsum c 0 * tsum c 0
def nng (c : Qd) : Nat → Nat
  | 0 => 0
  | k + 1 => nng c k + if c k 0 < 0 then 1 else 0
theorem nng_le (c : Qd) : ∀ k, nng c k ≤ k
  | 0 => Nat.le_refl _
  | k + 1 => by unfold nng; have := nng_le c k; split <;> omega
def euc : Nat → Int64 → Int64 → Int64
  | 0, d, _ => d
  | m + 1, d, r => if r = 0 then d else euc m r (d - d / r * r)
def dvs (c : Qd) : Nat → Int64
  | 0 => 0
  | k + 1 => euc 100 (dvs c k) (abs64 (c k 0))
section FOUR2
variable {G : GP} {M : Mem} {n : Option Nat} {a r : Nat} {c : Qd}
theorem c_X1_isBeyond (x : Int64) : Con G yX1_isBeyond cX1_isBeyond 2 (some .boolean) 0 0 0 [.long x] M n (R1 (some (.int (bI (pRef x)))) M n) := by
  refine Con.of (by decide +kernel) (Nat.le_of_ble_eq_true rfl) (fun X F hnm => ?_)
  show V G X 0 0 _ M _ 0 [some (.long x), none] []
  refine V_lload_n F dX1_isBeyond_0 rfl ?_
  refine V_ldc2 F dX1_isBeyond_1 kl_X1_73 ?_
  refine V_lcmp F dX1_isBeyond_4 ?_
  refine V_if_lt F 16 dX1_isBeyond_5 (by decide) (fun c5 => ?_) (fun c5 => ?_)
  · rw [lcmp_lt] at c5
    refine V_iconst F dX1_isBeyond_16 ki_1 ?_
    refine V_goto F 21 dX1_isBeyond_17 (by decide) ?_
    exact V_iret F rfl dX1_isBeyond_21 rfl ⟨rt (by simp [pRef, c5]), rfl, rfl⟩
  · rw [lcmp_lt] at c5
    refine V_lload_n F dX1_isBeyond_8 rfl ?_
    refine V_ldc2 F dX1_isBeyond_9 kl_X1_75 ?_
    refine V_lcmp F dX1_isBeyond_12 ?_
    refine V_if_le F 20 dX1_isBeyond_13 (by decide) (fun c13 => ?_) (fun c13 => ?_)
    · rw [lcmp_le] at c13
      refine V_iconst F dX1_isBeyond_20 ki_0 ?_
      exact V_iret F rfl dX1_isBeyond_21 rfl ⟨rf (by simp only [pRef, decide_eq_false c5, Bool.false_or, decide_eq_false_iff_not, Int64.not_lt]; exact c13), rfl, rfl⟩
    · rw [lcmp_le] at c13
      refine V_iconst F dX1_isBeyond_16 ki_1 ?_
      refine V_goto F 21 dX1_isBeyond_17 (by decide) ?_
      exact V_iret F rfl dX1_isBeyond_21 rfl ⟨rt (by simp [pRef, Int64.not_le.mp c13]), rfl, rfl⟩
theorem c_X1_isBendRefused (h0 : M a = some (eO 1 [.ref r])) (h1 : M r = some (eJ (gT G) 12 (fc c))) {i : Nat} (hi : i < 4) : Con G yX1_isBendRefused cX1_isBendRefused 2 (some .boolean) 1 0 0 [.ref a, .int (nI i)] M n (R1 (some (.int (bI (bRef (c i 0))))) M n) := by
  refine Con.of (by decide +kernel) (Nat.le_of_ble_eq_true rfl) (fun X F hnm => ?_)
  show V G X 0 0 _ M _ 0 [some (.ref a), some (.int (nI i))] []
  refine V_aload_n F dX1_isBendRefused_0 rfl ?_
  refine V_iload_n F dX1_isBendRefused_1 rfl ?_
  refine V_ivR F iv_X1_36 dX1_isBendRefused_2 (As := [_]) (c_X1_bend h0 h1 hi) (by assumption) rfl rfl rfl rfl ?_
  refine V_lconst F dX1_isBendRefused_5 (v := 0) (by decide) ?_
  refine V_lcmp F dX1_isBendRefused_6 ?_
  refine V_if_eq F 34 dX1_isBendRefused_7 (by decide) (fun c7 => ?_) (fun c7 => ?_)
  · rw [lcmp_eq] at c7
    refine V_iconst F dX1_isBendRefused_34 ki_1 ?_
    refine V_goto F 39 dX1_isBendRefused_35 (by decide) ?_
    exact V_iret F rfl dX1_isBendRefused_39 rfl ⟨rt (by simp [bRef, c7]), rfl, rfl⟩
  · rw [lcmp_eq] at c7
    have c7' : (c i 0 == 0) = false := by simpa using c7
    refine V_aload_n F dX1_isBendRefused_10 rfl ?_
    refine V_iload_n F dX1_isBendRefused_11 rfl ?_
    refine V_ivR F iv_X1_36 dX1_isBendRefused_12 (As := [_]) (c_X1_bend h0 h1 hi) (by assumption) rfl rfl rfl rfl ?_
    refine V_ldc2 F dX1_isBendRefused_15 kl_X1_65 ?_
    refine V_lcmp F dX1_isBendRefused_18 ?_
    refine V_if_lt F 34 dX1_isBendRefused_19 (by decide) (fun c19 => ?_) (fun c19 => ?_)
    · rw [lcmp_lt] at c19
      refine V_iconst F dX1_isBendRefused_34 ki_1 ?_
      refine V_goto F 39 dX1_isBendRefused_35 (by decide) ?_
      exact V_iret F rfl dX1_isBendRefused_39 rfl ⟨rt (by simp [bRef, c19]), rfl, rfl⟩
    · rw [lcmp_lt] at c19
      refine V_aload_n F dX1_isBendRefused_22 rfl ?_
      refine V_iload_n F dX1_isBendRefused_23 rfl ?_
      refine V_ivR F iv_X1_36 dX1_isBendRefused_24 (As := [_]) (c_X1_bend h0 h1 hi) (by assumption) rfl rfl rfl rfl ?_
      refine V_ldc2 F dX1_isBendRefused_27 kl_X1_67 ?_
      refine V_lcmp F dX1_isBendRefused_30 ?_
      refine V_if_le F 38 dX1_isBendRefused_31 (by decide) (fun c31 => ?_) (fun c31 => ?_)
      · rw [lcmp_le] at c31
        refine V_iconst F dX1_isBendRefused_38 ki_0 ?_
        exact V_iret F rfl dX1_isBendRefused_39 rfl ⟨rf (by simp only [bRef, c7', decide_eq_false c19, Bool.false_or, decide_eq_false_iff_not, Int64.not_lt]; exact c31), rfl, rfl⟩
      · rw [lcmp_le] at c31
        refine V_iconst F dX1_isBendRefused_34 ki_1 ?_
        refine V_goto F 39 dX1_isBendRefused_35 (by decide) ?_
        exact V_iret F rfl dX1_isBendRefused_39 rfl ⟨rt (by simp [bRef, Int64.not_le.mp c31]), rfl, rfl⟩
theorem c_X1_isPlaceRefused (h0 : M a = some (eO 1 [.ref r])) (h1 : M r = some (eJ (gT G) 12 (fc c))) {i : Nat} (hi : i < 4) : Con G yX1_isPlaceRefused cX1_isPlaceRefused 2 (some .boolean) 1 0 0 [.ref a, .int (nI i)] M n (R1 (some (.int (bI (plR c i)))) M n) := by
  refine Con.of (by decide +kernel) (Nat.le_of_ble_eq_true rfl) (fun X F hnm => ?_)
  show V G X 0 0 _ M _ 0 [some (.ref a), some (.int (nI i))] []
  refine V_aload_n F dX1_isPlaceRefused_0 rfl ?_
  refine V_iload_n F dX1_isPlaceRefused_1 rfl ?_
  refine V_iconst F dX1_isPlaceRefused_2 ki_1 ?_
  refine V_ivR F iv_X1_21 dX1_isPlaceRefused_3 (As := [_, _]) (c_X1_told h0 h1 hi (w := 1) (by omega)) (by assumption) rfl rfl rfl rfl ?_
  refine V_isR F is_X1_69 dX1_isPlaceRefused_6 (As := [_]) (c_X1_isBeyond _) rfl rfl rfl ?_
  refine V_if_ne F 24 dX1_isPlaceRefused_9 (by decide) (fun c9 => ?_) (fun c9 => ?_)
  · rw [bI_n] at c9
    refine V_iconst F dX1_isPlaceRefused_24 ki_1 ?_
    refine V_goto F 29 dX1_isPlaceRefused_25 (by decide) ?_
    exact V_iret F rfl dX1_isPlaceRefused_29 rfl ⟨rt (by simp [plR, c9]), rfl, rfl⟩
  · have c9 := bI_0.mp c9
    refine V_aload_n F dX1_isPlaceRefused_12 rfl ?_
    refine V_iload_n F dX1_isPlaceRefused_13 rfl ?_
    refine V_iconst F dX1_isPlaceRefused_14 ki_2 ?_
    refine V_ivR F iv_X1_21 dX1_isPlaceRefused_15 (As := [_, _]) (c_X1_told h0 h1 hi (w := 2) (by omega)) (by assumption) rfl rfl rfl rfl ?_
    refine V_isR F is_X1_69 dX1_isPlaceRefused_18 (As := [_]) (c_X1_isBeyond _) rfl rfl rfl ?_
    refine V_if_eq F 28 dX1_isPlaceRefused_21 (by decide) (fun c21 => ?_) (fun c21 => ?_)
    · rw [bI_0] at c21
      refine V_iconst F dX1_isPlaceRefused_28 ki_0 ?_
      exact V_iret F rfl dX1_isPlaceRefused_29 rfl ⟨rf (by simp [plR, c9, c21]), rfl, rfl⟩
    · rw [bI_n] at c21
      refine V_iconst F dX1_isPlaceRefused_24 ki_1 ?_
      refine V_goto F 29 dX1_isPlaceRefused_25 (by decide) ?_
      exact V_iret F rfl dX1_isPlaceRefused_29 rfl ⟨rt (by simp [plR, c21]), rfl, rfl⟩
theorem c_X1_refusalOfCoin (h0 : M a = some (eO 1 [.ref r])) (h1 : M r = some (eJ (gT G) 12 (fc c))) {i : Nat} (hi : i < 4) : Con G yX1_refusalOfCoin cX1_refusalOfCoin 2 (some .int) 2 0 0 [.ref a, .int (nI i)] M n (R1 (some (.int (cRef c i))) M n) := by
  refine Con.of (by decide +kernel) (Nat.le_of_ble_eq_true rfl) (fun X F hnm => ?_)
  show V G X 0 0 _ M _ 0 [some (.ref a), some (.int (nI i))] []
  refine V_aload_n F dX1_refusalOfCoin_0 rfl ?_
  refine V_iload_n F dX1_refusalOfCoin_1 rfl ?_
  refine V_ivR F iv_X1_59 dX1_refusalOfCoin_2 (As := [_]) (c_X1_isBendRefused h0 h1 hi) (by assumption) rfl rfl rfl rfl ?_
  refine V_if_eq F 11 dX1_refusalOfCoin_5 (by decide) (fun c5 => ?_) (fun c5 => ?_)
  · rw [bI_0] at c5
    refine V_aload_n F dX1_refusalOfCoin_11 rfl ?_
    refine V_iload_n F dX1_refusalOfCoin_12 rfl ?_
    refine V_ivR F iv_X1_62 dX1_refusalOfCoin_13 (As := [_]) (c_X1_isPlaceRefused h0 h1 hi) (by assumption) rfl rfl rfl rfl ?_
    refine V_if_eq F 24 dX1_refusalOfCoin_16 (by decide) (fun c16 => ?_) (fun c16 => ?_)
    · rw [bI_0] at c16
      refine V_iconst F dX1_refusalOfCoin_24 ki_0 ?_
      exact V_iret F rfl dX1_refusalOfCoin_25 rfl ⟨by simp [cRef, c5, c16], rfl, rfl⟩
    · rw [bI_n] at c16
      refine V_bipush F dX1_refusalOfCoin_19 kb_m16 ?_
      refine V_goto F 25 dX1_refusalOfCoin_21 (by decide) ?_
      exact V_iret F rfl dX1_refusalOfCoin_25 rfl ⟨by simp [cRef, c5, c16], rfl, rfl⟩
  · rw [bI_n] at c5
    refine V_bipush F dX1_refusalOfCoin_8 kb_m15 ?_
    exact V_iret F rfl dX1_refusalOfCoin_10 rfl ⟨by simp [cRef, c5], rfl, rfl⟩
theorem c_X1_turnWithin (h0 : M a = some (eO 1 [.ref r])) (h1 : M r = some (eJ (gT G) 12 (fc c))) {i : Nat} (hi : i < 4) : Con G yX1_turnWithin cX1_turnWithin 2 (some .boolean) 4 0 0 [.ref a, .int (nI i)] M n (R1 (some (.int (bI (cRef (turnc c i) i == 0)))) (mset M r (eJ (gT G) 12 (fc (turnc c i)))) n) := by
  refine Con.of (by decide +kernel) (Nat.le_of_ble_eq_true rfl) (fun X F hnm => ?_)
  show V G X 0 0 _ M _ 0 [some (.ref a), some (.int (nI i))] []
  have har := ne_oj h0 h1
  refine V_aload_n F dX1_turnWithin_0 rfl ?_
  refine V_iload_n F dX1_turnWithin_1 rfl ?_
  refine V_ivR F iv_X1_43 dX1_turnWithin_2 (As := [_]) (c_X1_turn h0 h1 hi) (by assumption) rfl rfl rfl rfl ?_
  refine V_aload_n F dX1_turnWithin_5 rfl ?_
  refine V_iload_n F dX1_turnWithin_6 rfl ?_
  refine V_ivR F iv_X1_51 dX1_turnWithin_7 (As := [_]) (c_X1_refusalOfCoin ((mset_ne _ _ har).trans h0) (mset_eq _ _ _) hi) ((mset_ne _ _ har).trans h0) rfl rfl rfl rfl ?_
  refine V_if_ne F 17 dX1_turnWithin_10 (by decide) (fun c10 => ?_) (fun c10 => ?_)
  · refine V_iconst F dX1_turnWithin_17 ki_0 ?_
    exact V_iret F rfl dX1_turnWithin_18 rfl ⟨rf (by simpa using c10), rfl, rfl⟩
  · refine V_iconst F dX1_turnWithin_13 ki_1 ?_
    refine V_goto F 18 dX1_turnWithin_14 (by decide) ?_
    exact V_iret F rfl dX1_turnWithin_18 rfl ⟨rt (by simpa using c10), rfl, rfl⟩
theorem c_X1_touches {b q : Nat} {c2 : Qd} (h0 : M a = some (eO 1 [.ref r])) (h1 : M r = some (eJ (gT G) 12 (fc c))) (g0 : M b = some (eO 1 [.ref q])) (g1 : M q = some (eJ (gT G) 12 (fc c2))) {i j : Nat} (hi : i < 4) (hj : j < 4) : Con G yX1_touches cX1_touches 12 (some .boolean) 1 0 0 [.ref a, .int (nI i), .ref b, .int (nI j)] M n (R1 (some (.int (bI (tch c i c2 j)))) M n) := by
  refine Con.of (by decide +kernel) (Nat.le_of_ble_eq_true rfl) (fun X F hnm => ?_)
  show V G X 0 0 _ M _ 0 [some (.ref a), some (.int (nI i)), some (.ref b), some (.int (nI j)), none, none, none, none, none, none, none, none] []
  refine V_aload_n F dX1_touches_0 rfl ?_
  refine V_iload_n F dX1_touches_1 rfl ?_
  refine V_ivR F iv_X1_36 dX1_touches_2 (As := [_]) (c_X1_bend h0 h1 hi) (by assumption) rfl rfl rfl rfl ?_
  refine V_lstore F dX1_touches_5 (Nat.le_of_ble_eq_true rfl) ?_
  show V _ _ _ _ _ _ _ _ [_, _, _, _, _, _, _, _, _, _, _, _] _
  refine V_aload_n F dX1_touches_7 rfl ?_
  refine V_iload_n F dX1_touches_8 rfl ?_
  refine V_ivR F iv_X1_36 dX1_touches_9 (As := [_]) (c_X1_bend g0 g1 hj) (by assumption) rfl rfl rfl rfl ?_
  refine V_lstore F dX1_touches_12 (Nat.le_of_ble_eq_true rfl) ?_
  show V _ _ _ _ _ _ _ _ [_, _, _, _, _, _, _, _, _, _, _, _] _
  refine V_lload F dX1_touches_14 rfl ?_
  refine V_aload_n F dX1_touches_16 rfl ?_
  refine V_iload_n F dX1_touches_17 rfl ?_
  refine V_iconst F dX1_touches_18 ki_1 ?_
  refine V_ivR F iv_X1_21 dX1_touches_19 (As := [_, _]) (c_X1_told h0 h1 hi (w := 1) (by omega)) (by assumption) rfl rfl rfl rfl ?_
  refine V_lmul F dX1_touches_22 ?_
  refine V_lload F dX1_touches_23 rfl ?_
  refine V_aload_n F dX1_touches_25 rfl ?_
  refine V_iload_n F dX1_touches_26 rfl ?_
  refine V_iconst F dX1_touches_27 ki_1 ?_
  refine V_ivR F iv_X1_21 dX1_touches_28 (As := [_, _]) (c_X1_told g0 g1 hj (w := 1) (by omega)) (by assumption) rfl rfl rfl rfl ?_
  refine V_lmul F dX1_touches_31 ?_
  refine V_lsub F dX1_touches_32 ?_
  refine V_lstore F dX1_touches_33 (Nat.le_of_ble_eq_true rfl) ?_
  show V _ _ _ _ _ _ _ _ [_, _, _, _, _, _, _, _, _, _, _, _] _
  refine V_lload F dX1_touches_35 rfl ?_
  refine V_aload_n F dX1_touches_37 rfl ?_
  refine V_iload_n F dX1_touches_38 rfl ?_
  refine V_iconst F dX1_touches_39 ki_2 ?_
  refine V_ivR F iv_X1_21 dX1_touches_40 (As := [_, _]) (c_X1_told h0 h1 hi (w := 2) (by omega)) (by assumption) rfl rfl rfl rfl ?_
  refine V_lmul F dX1_touches_43 ?_
  refine V_lload F dX1_touches_44 rfl ?_
  refine V_aload_n F dX1_touches_46 rfl ?_
  refine V_iload_n F dX1_touches_47 rfl ?_
  refine V_iconst F dX1_touches_48 ki_2 ?_
  refine V_ivR F iv_X1_21 dX1_touches_49 (As := [_, _]) (c_X1_told g0 g1 hj (w := 2) (by omega)) (by assumption) rfl rfl rfl rfl ?_
  refine V_lmul F dX1_touches_52 ?_
  refine V_lsub F dX1_touches_53 ?_
  refine V_lstore F dX1_touches_54 (Nat.le_of_ble_eq_true rfl) ?_
  show V _ _ _ _ _ _ _ _ [_, _, _, _, _, _, _, _, _, _, _, _] _
  refine V_lload F dX1_touches_56 rfl ?_
  refine V_lload F dX1_touches_58 rfl ?_
  refine V_lmul F dX1_touches_60 ?_
  refine V_lload F dX1_touches_61 rfl ?_
  refine V_lload F dX1_touches_63 rfl ?_
  refine V_lmul F dX1_touches_65 ?_
  refine V_ladd F dX1_touches_66 ?_
  refine V_lload F dX1_touches_67 rfl ?_
  refine V_lload F dX1_touches_69 rfl ?_
  refine V_ladd F dX1_touches_71 ?_
  refine V_lload F dX1_touches_72 rfl ?_
  refine V_lload F dX1_touches_74 rfl ?_
  refine V_ladd F dX1_touches_76 ?_
  refine V_lmul F dX1_touches_77 ?_
  refine V_lcmp F dX1_touches_78 ?_
  refine V_if_ne F 86 dX1_touches_79 (by decide) (fun c79 => ?_) (fun c79 => ?_)
  · rw [lcmp_eq] at c79
    refine V_iconst F dX1_touches_86 ki_0 ?_
    exact V_iret F rfl dX1_touches_87 rfl ⟨rf (by simpa [tch, tchf] using c79), rfl, rfl⟩
  · rw [lcmp_eq] at c79
    refine V_iconst F dX1_touches_82 ki_1 ?_
    refine V_goto F 87 dX1_touches_83 (by decide) ?_
    exact V_iret F rfl dX1_touches_87 rfl ⟨rt (by simpa [tch, tchf] using c79), rfl, rfl⟩
theorem c_X1_timesOf (h0 : M a = some (eO 1 [.ref r])) (h1 : M r = some (eJ (gT G) 12 (fc c))) (x : Int64) : Con G yX1_timesOf cX1_timesOf 5 (some .int) 1 0 0 [.ref a, .long x] M n (R1 (some (.int (nI (tms c x 4)))) M n) := by
  refine Con.of (by decide +kernel) (Nat.le_of_ble_eq_true rfl) (fun X F hnm => ?_)
  show V G X 0 0 _ M _ 0 [some (.ref a), some (.long x), none, none, none] []
  have step : ∀ k : Nat, k < 4 → V G X 0 0 (BQ G X (R1 (some (.int (nI (tms c x 4)))) M n) 0 0) M n 5 [some (.ref a), some (.long x), none, some (.int (nI (tms c x (k + 1)))), some (.int (nI (k + 1)))] [] → V G X 0 0 (BQ G X (R1 (some (.int (nI (tms c x 4)))) M n) 0 0) M n 5 [some (.ref a), some (.long x), none, some (.int (nI (tms c x k))), some (.int (nI k))] [] := by
    intro k hk kk
    rw [show tms c x (k + 1) = tms c x k + (if c k 0 = x then 1 else 0) from rfl] at kk
    refine V_iload F dX1_timesOf_5 rfl ?_
    refine V_iconst F dX1_timesOf_7 ki_4 ?_
    refine V_icmp_ge F 31 dX1_timesOf_8 (by decide) (fun c8 => absurd c8 (nI_ge hk (by omega))) (fun c8 => ?_)
    refine V_aload_n F dX1_timesOf_11 rfl ?_
    refine V_iload F dX1_timesOf_12 rfl ?_
    refine V_ivR F iv_X1_36 dX1_timesOf_14 (As := [_]) (c_X1_bend h0 h1 hk) (by assumption) rfl rfl rfl rfl ?_
    refine V_lload_n F dX1_timesOf_17 rfl ?_
    refine V_lcmp F dX1_timesOf_18 ?_
    refine V_if_ne F 25 dX1_timesOf_19 (by decide) (fun c19 => ?_) (fun c19 => ?_)
    · rw [lcmp_eq] at c19
      rw [if_neg c19] at kk
      refine V_iinc1 F dX1_timesOf_25 rfl ?_
      show V _ _ _ _ _ _ _ _ [_, _, _, _, _] _
      refine V_goto F 5 dX1_timesOf_28 (by decide) ?_
      exact kk
    · rw [lcmp_eq] at c19
      rw [if_pos c19] at kk
      refine V_iinc1 F dX1_timesOf_22 rfl ?_
      show V _ _ _ _ _ _ _ _ [_, _, _, _, _] _
      refine V_iinc1 F dX1_timesOf_25 rfl ?_
      show V _ _ _ _ _ _ _ _ [_, _, _, _, _] _
      refine V_goto F 5 dX1_timesOf_28 (by decide) ?_
      exact kk
  refine V_iconst F dX1_timesOf_0 ki_0 ?_
  refine V_istore_n F dX1_timesOf_1 (Nat.le_of_ble_eq_true rfl) ?_
  show V _ _ _ _ _ _ _ _ [_, _, _, _, _] _
  refine V_iconst F dX1_timesOf_2 ki_0 ?_
  refine V_istore F dX1_timesOf_3 (Nat.le_of_ble_eq_true rfl) ?_
  show V _ _ _ _ _ _ _ _ [_, _, _, _, _] _
  refine step 0 (by omega) (step 1 (by omega) (step 2 (by omega) (step 3 (by omega) ?_)))
  refine V_iload F dX1_timesOf_5 rfl ?_
  refine V_iconst F dX1_timesOf_7 ki_4 ?_
  refine V_icmp_ge F 31 dX1_timesOf_8 (by decide) (fun c8 => ?_) (fun c8 => absurd (by decide) c8)
  refine V_iload_n F dX1_timesOf_31 rfl ?_
  exact V_iret F rfl dX1_timesOf_32 rfl ⟨rfl, rfl, rfl⟩
theorem c_X1_hasBendsOf {b q : Nat} {c2 : Qd} (h0 : M a = some (eO 1 [.ref r])) (h1 : M r = some (eJ (gT G) 12 (fc c))) (g0 : M b = some (eO 1 [.ref q])) (g1 : M q = some (eJ (gT G) 12 (fc c2))) : Con G yX1_hasBendsOf cX1_hasBendsOf 3 (some .boolean) 2 0 0 [.ref a, .ref b] M n (R1 (some (.int (bI (hbo c c2 4)))) M n) := by
  refine Con.of (by decide +kernel) (Nat.le_of_ble_eq_true rfl) (fun X F hnm => ?_)
  show V G X 0 0 _ M _ 0 [some (.ref a), some (.ref b), none] []
  have step : ∀ k : Nat, k < 4 → hbo c c2 k = true → (∀ j, j ≤ 4 → hbo c c2 j = false → hbo c c2 4 = false) → (hbo c c2 (k + 1) = true → V G X 0 0 (BQ G X (R1 (some (.int (bI (hbo c c2 4)))) M n) 0 0) M n 2 [some (.ref a), some (.ref b), some (.int (nI (k + 1)))] []) → V G X 0 0 (BQ G X (R1 (some (.int (bI (hbo c c2 4)))) M n) 0 0) M n 2 [some (.ref a), some (.ref b), some (.int (nI k))] [] := by
    intro k hk hb hmo kk
    have t1 := tms_le c (c k 0) 4
    have t2 := tms_le c2 (c k 0) 4
    refine V_iload_n F dX1_hasBendsOf_2 rfl ?_
    refine V_iconst F dX1_hasBendsOf_3 ki_4 ?_
    refine V_icmp_ge F 36 dX1_hasBendsOf_4 (by decide) (fun c4 => absurd c4 (nI_ge hk (by omega))) (fun c4 => ?_)
    refine V_aload_n F dX1_hasBendsOf_7 rfl ?_
    refine V_aload_n F dX1_hasBendsOf_8 rfl ?_
    refine V_iload_n F dX1_hasBendsOf_9 rfl ?_
    refine V_ivR F iv_X1_36 dX1_hasBendsOf_10 (As := [_]) (c_X1_bend h0 h1 hk) (by assumption) rfl rfl rfl rfl ?_
    refine V_ivR F iv_X1_55 dX1_hasBendsOf_13 (As := [_]) (c_X1_timesOf h0 h1 _) (by assumption) rfl rfl rfl rfl ?_
    refine V_aload_n F dX1_hasBendsOf_16 rfl ?_
    refine V_aload_n F dX1_hasBendsOf_17 rfl ?_
    refine V_iload_n F dX1_hasBendsOf_18 rfl ?_
    refine V_ivR F iv_X1_36 dX1_hasBendsOf_19 (As := [_]) (c_X1_bend h0 h1 hk) (by assumption) rfl rfl rfl rfl ?_
    refine V_ivR F iv_X1_55 dX1_hasBendsOf_22 (As := [_]) (c_X1_timesOf g0 g1 _) (by assumption) rfl rfl rfl rfl ?_
    refine V_icmp_eq F 30 dX1_hasBendsOf_25 (by decide) (fun c25 => ?_) (fun c25 => ?_)
    · rw [nI_eq (by omega) (by omega)] at c25
      refine V_iinc1 F dX1_hasBendsOf_30 rfl ?_
      show V _ _ _ _ _ _ _ _ [_, _, _] _
      refine V_goto F 2 dX1_hasBendsOf_33 (by decide) ?_
      exact kk (by unfold hbo; rw [hb, c25]; simp)
    · rw [nI_eq (by omega) (by omega)] at c25
      refine V_iconst F dX1_hasBendsOf_28 ki_0 ?_
      exact V_iret F rfl dX1_hasBendsOf_29 rfl ⟨rf (hmo (k + 1) (by omega) (by unfold hbo; simp [c25])), rfl, rfl⟩
  have hmo : ∀ j, j ≤ 4 → hbo c c2 j = false → hbo c c2 4 = false := by
    intro j hj h
    match j, hj with
    | 0, _ => cases h
    | 1, _ => simp [hbo] at h ⊢; intro z; exact absurd z h
    | 2, _ => simp only [hbo] at h ⊢; rw [h]; rfl
    | 3, _ => simp only [hbo] at h ⊢; rw [h]; rfl
    | 4, _ => exact h
  refine V_iconst F dX1_hasBendsOf_0 ki_0 ?_
  refine V_istore_n F dX1_hasBendsOf_1 (Nat.le_of_ble_eq_true rfl) ?_
  show V _ _ _ _ _ _ _ _ [_, _, _] _
  refine step 0 (by omega) rfl hmo (fun q1 => step 1 (by omega) q1 hmo (fun q2 => step 2 (by omega) q2 hmo (fun q3 => step 3 (by omega) q3 hmo (fun q4 => ?_))))
  refine V_iload_n F dX1_hasBendsOf_2 rfl ?_
  refine V_iconst F dX1_hasBendsOf_3 ki_4 ?_
  refine V_icmp_ge F 36 dX1_hasBendsOf_4 (by decide) (fun c4 => ?_) (fun c4 => absurd (by decide) c4)
  refine V_iconst F dX1_hasBendsOf_36 ki_1 ?_
  exact V_iret F rfl dX1_hasBendsOf_37 rfl ⟨rt q4, rfl, rfl⟩
theorem c_X1_goDown : ∀ (m : Nat) (hm : m < 2 ^ 31) (M : Mem) (c : Qd) (h0 : M a = some (eO 1 [.ref r])) (h1 : M r = some (eJ (gT G) 12 (fc c))), Con G yX1_goDown cX1_goDown 4 (some .int) 4 0 0 [.ref a, .int (nI m)] M n (R1 (some (.int (nI (gd m c).1))) (mset M r (eJ (gT G) 12 (fc (gd m c).2))) n) := by
  intro m hm M c h0 h1
  refine Con.of (by decide +kernel) (Nat.le_of_ble_eq_true rfl) (fun X F hnm => ?_)
  show V G X 0 0 _ M _ 0 [some (.ref a), some (.int (nI m)), none, none] []
  have loop : ∀ (q k : Nat) (M' : Mem) (c' : Qd), q + k = m → M' a = some (eO 1 [.ref r]) → M' r = some (eJ (gT G) 12 (fc c')) → V G X 0 0 (BQ G X (R1 (some (.int (nI (k + (gd q c').1)))) (mset M' r (eJ (gT G) 12 (fc (gd q c').2))) n) 0 0) M' n 2 [some (.ref a), some (.int (nI m)), some (.int (nI k)), none] [] := by
    intro q
    induction q with
    | zero =>
      intro k M' c' hk h0 h1
      have hk : k = m := by omega
      subst hk
      refine V_iload_n F dX1_goDown_2 rfl ?_
      refine V_iload_n F dX1_goDown_3 rfl ?_
      refine V_icmp_ge F 40 dX1_goDown_4 (by decide) (fun c4 => ?_) (fun c4 => absurd (nI_le (by omega) (by omega)) c4)
      refine V_iload_n F dX1_goDown_40 rfl ?_
      exact V_iret F rfl dX1_goDown_41 rfl ⟨rfl, (mset_self h1).symm, rfl⟩
    | succ q ih =>
      intro k M' c' hk h0 h1
      have hg := grt_lt c'
      have har := ne_oj h0 h1
      unfold gd
      refine V_iload_n F dX1_goDown_2 rfl ?_
      refine V_iload_n F dX1_goDown_3 rfl ?_
      refine V_icmp_ge F 40 dX1_goDown_4 (by decide) (fun c4 => absurd c4 (nI_ge (by omega) (by omega))) (fun c4 => ?_)
      refine V_aload_n F dX1_goDown_7 rfl ?_
      refine V_ivR F iv_X1_39 dX1_goDown_8 (As := []) (c_X1_greatest h0 h1) (by assumption) rfl rfl rfl rfl ?_
      refine V_istore_n F dX1_goDown_11 (Nat.le_of_ble_eq_true rfl) ?_
      show V _ _ _ _ _ _ _ _ [_, _, _, _] _
      refine V_aload_n F dX1_goDown_12 rfl ?_
      refine V_iload_n F dX1_goDown_13 rfl ?_
      refine V_iconst F dX1_goDown_14 ki_0 ?_
      refine V_ivR F iv_X1_33 dX1_goDown_15 (As := [_, _]) (c_X1_turned h0 h1 hg (w := 0) (by omega)) (by assumption) rfl rfl rfl rfl ?_
      refine V_aload_n F dX1_goDown_18 rfl ?_
      refine V_iload_n F dX1_goDown_19 rfl ?_
      refine V_ivR F iv_X1_36 dX1_goDown_20 (As := [_]) (c_X1_bend h0 h1 hg) (by assumption) rfl rfl rfl rfl ?_
      refine V_lcmp F dX1_goDown_23 ?_
      refine V_if_lt F 29 dX1_goDown_24 (by decide) (fun c24 => ?_) (fun c24 => ?_)
      · rw [lcmp_lt] at c24
        rw [if_pos c24]
        refine V_aload_n F dX1_goDown_29 rfl ?_
        refine V_iload_n F dX1_goDown_30 rfl ?_
        refine V_ivR F iv_X1_43 dX1_goDown_31 (As := [_]) (c_X1_turn h0 h1 hg) (by assumption) rfl rfl rfl rfl ?_
        refine V_iinc1 F dX1_goDown_34 rfl ?_
        show V _ _ _ _ _ _ _ _ [_, _, _, _] _
        refine V_goto F 2 dX1_goDown_37 (by decide) ?_
        refine V_drop 3 ?_
        have := ih (k + 1) (mset M' r (eJ (gT G) 12 (fc (turnc c' (grt c'))))) (turnc c' (grt c')) (by omega) ((mset_ne _ _ har).trans h0) (mset_eq _ _ _)
        rw [mset_mset, show k + 1 + (gd q (turnc c' (grt c'))).1 = k + ((gd q (turnc c' (grt c'))).1 + 1) by omega] at this
        exact this
      · rw [lcmp_lt] at c24
        rw [if_neg c24]
        refine V_iload_n F dX1_goDown_27 rfl ?_
        exact V_iret F rfl dX1_goDown_28 rfl ⟨rfl, (mset_self h1).symm, rfl⟩
  refine V_iconst F dX1_goDown_0 ki_0 ?_
  refine V_istore_n F dX1_goDown_1 (Nat.le_of_ble_eq_true rfl) ?_
  show V _ _ _ _ _ _ _ _ [_, _, _, _] _
  have := loop m 0 M c (by omega) h0 h1
  rw [Nat.zero_add] at this
  exact this
theorem c_X1_doBendsStand (h0 : M a = some (eO 1 [.ref r])) (h1 : M r = some (eJ (gT G) 12 (fc c))) : Con G yX1_doBendsStand cX1_doBendsStand 5 (some .boolean) 2 0 0 [.ref a] M n (R1 (some (.int (bI (bst c)))) M n) := by
  refine Con.of (by decide +kernel) (Nat.le_of_ble_eq_true rfl) (fun X F hnm => ?_)
  show V G X 0 0 _ M _ 0 [some (.ref a), none, none, none, none] []
  have step : ∀ k : Nat, k < 4 → V G X 0 0 (BQ G X (R1 (some (.int (bI (bst c)))) M n) 0 0) M n 4 [some (.ref a), some (.long (sqs c (k + 1))), none, some (.int (nI (k + 1))), none] [] → V G X 0 0 (BQ G X (R1 (some (.int (bI (bst c)))) M n) 0 0) M n 4 [some (.ref a), some (.long (sqs c k)), none, some (.int (nI k)), none] [] := by
    intro k hk kk
    refine V_iload_n F dX1_doBendsStand_4 rfl ?_
    refine V_iconst F dX1_doBendsStand_5 ki_4 ?_
    refine V_icmp_ge F 29 dX1_doBendsStand_6 (by decide) (fun c6 => absurd c6 (nI_ge hk (by omega))) (fun c6 => ?_)
    refine V_lload_n F dX1_doBendsStand_9 rfl ?_
    refine V_aload_n F dX1_doBendsStand_10 rfl ?_
    refine V_iload_n F dX1_doBendsStand_11 rfl ?_
    refine V_ivR F iv_X1_36 dX1_doBendsStand_12 (As := [_]) (c_X1_bend h0 h1 hk) (by assumption) rfl rfl rfl rfl ?_
    refine V_aload_n F dX1_doBendsStand_15 rfl ?_
    refine V_iload_n F dX1_doBendsStand_16 rfl ?_
    refine V_ivR F iv_X1_36 dX1_doBendsStand_17 (As := [_]) (c_X1_bend h0 h1 hk) (by assumption) rfl rfl rfl rfl ?_
    refine V_lmul F dX1_doBendsStand_20 ?_
    refine V_ladd F dX1_doBendsStand_21 ?_
    refine V_lstore_n F dX1_doBendsStand_22 (Nat.le_of_ble_eq_true rfl) ?_
    show V _ _ _ _ _ _ _ _ [_, _, _, _, _] _
    refine V_iinc1 F dX1_doBendsStand_23 rfl ?_
    show V _ _ _ _ _ _ _ _ [_, _, _, _, _] _
    refine V_goto F 4 dX1_doBendsStand_26 (by decide) ?_
    exact kk
  refine V_lconst F dX1_doBendsStand_0 (v := 0) (by decide) ?_
  refine V_lstore_n F dX1_doBendsStand_1 (Nat.le_of_ble_eq_true rfl) ?_
  show V _ _ _ _ _ _ _ _ [_, _, _, _, _] _
  refine V_iconst F dX1_doBendsStand_2 ki_0 ?_
  refine V_istore_n F dX1_doBendsStand_3 (Nat.le_of_ble_eq_true rfl) ?_
  show V _ _ _ _ _ _ _ _ [_, _, _, _, _] _
  refine step 0 (by omega) (step 1 (by omega) (step 2 (by omega) (step 3 (by omega) ?_)))
  refine V_iload_n F dX1_doBendsStand_4 rfl ?_
  refine V_iconst F dX1_doBendsStand_5 ki_4 ?_
  refine V_icmp_ge F 29 dX1_doBendsStand_6 (by decide) (fun c6 => ?_) (fun c6 => absurd (by decide) c6)
  refine V_aload_n F dX1_doBendsStand_29 rfl ?_
  refine V_iconst F dX1_doBendsStand_30 ki_0 ?_
  refine V_ivR F iv_X1_27 dX1_doBendsStand_31 (As := [_]) (c_X1_sum h0 h1 (w := 0) (by omega)) (by assumption) rfl rfl rfl rfl ?_
  refine V_lstore_n F dX1_doBendsStand_34 (Nat.le_of_ble_eq_true rfl) ?_
  show V _ _ _ _ _ _ _ _ [_, _, _, _, _] _
  refine V_lload_n F dX1_doBendsStand_35 rfl ?_
  refine V_lconst F dX1_doBendsStand_36 (v := 0) (by decide) ?_
  refine V_lcmp F dX1_doBendsStand_37 ?_
  refine V_if_le F 57 dX1_doBendsStand_38 (by decide) (fun c38 => ?_) (fun c38 => ?_)
  · rw [lcmp_le] at c38
    refine V_iconst F dX1_doBendsStand_57 ki_0 ?_
    exact V_iret F rfl dX1_doBendsStand_58 rfl ⟨rf (by simp only [bst, Bool.and_eq_false_iff]; exact Or.inl (decide_eq_false (by rw [Int64.not_lt]; exact c38))), rfl, rfl⟩
  · rw [lcmp_le] at c38
    refine V_ldc2 F dX1_doBendsStand_41 kl_X1_25 ?_
    refine V_lload_n F dX1_doBendsStand_44 rfl ?_
    refine V_lmul F dX1_doBendsStand_45 ?_
    refine V_lload_n F dX1_doBendsStand_46 rfl ?_
    refine V_lload_n F dX1_doBendsStand_47 rfl ?_
    refine V_lmul F dX1_doBendsStand_48 ?_
    refine V_lcmp F dX1_doBendsStand_49 ?_
    refine V_if_ne F 57 dX1_doBendsStand_50 (by decide) (fun c50 => ?_) (fun c50 => ?_)
    · rw [lcmp_eq] at c50
      refine V_iconst F dX1_doBendsStand_57 ki_0 ?_
      exact V_iret F rfl dX1_doBendsStand_58 rfl ⟨rf (by simp only [bst, Bool.and_eq_false_iff]; exact Or.inr (by simpa using c50)), rfl, rfl⟩
    · rw [lcmp_eq] at c50
      refine V_iconst F dX1_doBendsStand_53 ki_1 ?_
      refine V_goto F 58 dX1_doBendsStand_54 (by decide) ?_
      exact V_iret F rfl dX1_doBendsStand_58 rfl ⟨rt (by simp only [bst, Bool.and_eq_true]; exact ⟨decide_eq_true (Int64.not_le.mp c38), by simpa using c50⟩), rfl, rfl⟩
theorem c_X1_bendsBelowZero (h0 : M a = some (eO 1 [.ref r])) (h1 : M r = some (eJ (gT G) 12 (fc c))) : Con G yX1_bendsBelowZero cX1_bendsBelowZero 3 (some .int) 1 0 0 [.ref a] M n (R1 (some (.int (nI (nng c 4)))) M n) := by
  refine Con.of (by decide +kernel) (Nat.le_of_ble_eq_true rfl) (fun X F hnm => ?_)
  show V G X 0 0 _ M _ 0 [some (.ref a), none, none] []
  have step : ∀ k : Nat, k < 4 → V G X 0 0 (BQ G X (R1 (some (.int (nI (nng c 4)))) M n) 0 0) M n 4 [some (.ref a), some (.int (nI (nng c (k + 1)))), some (.int (nI (k + 1)))] [] → V G X 0 0 (BQ G X (R1 (some (.int (nI (nng c 4)))) M n) 0 0) M n 4 [some (.ref a), some (.int (nI (nng c k))), some (.int (nI k))] [] := by
    intro k hk kk
    rw [show nng c (k + 1) = nng c k + (if c k 0 < 0 then 1 else 0) from rfl] at kk
    refine V_iload_n F dX1_bendsBelowZero_4 rfl ?_
    refine V_iconst F dX1_bendsBelowZero_5 ki_4 ?_
    refine V_icmp_ge F 28 dX1_bendsBelowZero_6 (by decide) (fun c6 => absurd c6 (nI_ge hk (by omega))) (fun c6 => ?_)
    refine V_aload_n F dX1_bendsBelowZero_9 rfl ?_
    refine V_iload_n F dX1_bendsBelowZero_10 rfl ?_
    refine V_ivR F iv_X1_36 dX1_bendsBelowZero_11 (As := [_]) (c_X1_bend h0 h1 hk) (by assumption) rfl rfl rfl rfl ?_
    refine V_lconst F dX1_bendsBelowZero_14 (v := 0) (by decide) ?_
    refine V_lcmp F dX1_bendsBelowZero_15 ?_
    refine V_if_ge F 22 dX1_bendsBelowZero_16 (by decide) (fun c16 => ?_) (fun c16 => ?_)
    · rw [lcmp_ge] at c16
      rw [if_neg (by rw [Int64.not_lt]; exact c16)] at kk
      refine V_iinc1 F dX1_bendsBelowZero_22 rfl ?_
      show V _ _ _ _ _ _ _ _ [_, _, _] _
      refine V_goto F 4 dX1_bendsBelowZero_25 (by decide) ?_
      exact kk
    · rw [lcmp_ge] at c16
      rw [if_pos (Int64.not_le.mp c16)] at kk
      refine V_iinc1 F dX1_bendsBelowZero_19 rfl ?_
      show V _ _ _ _ _ _ _ _ [_, _, _] _
      refine V_iinc1 F dX1_bendsBelowZero_22 rfl ?_
      show V _ _ _ _ _ _ _ _ [_, _, _] _
      refine V_goto F 4 dX1_bendsBelowZero_25 (by decide) ?_
      exact kk
  refine V_iconst F dX1_bendsBelowZero_0 ki_0 ?_
  refine V_istore_n F dX1_bendsBelowZero_1 (Nat.le_of_ble_eq_true rfl) ?_
  show V _ _ _ _ _ _ _ _ [_, _, _] _
  refine V_iconst F dX1_bendsBelowZero_2 ki_0 ?_
  refine V_istore_n F dX1_bendsBelowZero_3 (Nat.le_of_ble_eq_true rfl) ?_
  show V _ _ _ _ _ _ _ _ [_, _, _] _
  refine step 0 (by omega) (step 1 (by omega) (step 2 (by omega) (step 3 (by omega) ?_)))
  refine V_iload_n F dX1_bendsBelowZero_4 rfl ?_
  refine V_iconst F dX1_bendsBelowZero_5 ki_4 ?_
  refine V_icmp_ge F 28 dX1_bendsBelowZero_6 (by decide) (fun c6 => ?_) (fun c6 => absurd (by decide) c6)
  refine V_iload_n F dX1_bendsBelowZero_28 rfl ?_
  exact V_iret F rfl dX1_bendsBelowZero_29 rfl ⟨rfl, rfl, rfl⟩
theorem c_X1_divisorOfBends (h0 : M a = some (eO 1 [.ref r])) (h1 : M r = some (eJ (gT G) 12 (fc c))) : Con G yX1_divisorOfBends cX1_divisorOfBends 9 (some .long) 1 0 0 [.ref a] M n (R1 (some (.long (dvs c 4))) M n) := by
  refine Con.of (by decide +kernel) (Nat.le_of_ble_eq_true rfl) (fun X F hnm => ?_)
  show V G X 0 0 _ M _ 0 [some (.ref a), none, none, none, none, none, none, none, none] []
  have inner : ∀ (m k i : Nat) (dd rr : Int64), m + k = 100 → V G X 0 0 (BQ G X (R1 (some (.long (dvs c 4))) M n) 0 0) M n 55 [some (.ref a), some (.long (euc m dd rr)), none, some (.int (nI i)), none, none, none, none, none] [] → V G X 0 0 (BQ G X (R1 (some (.long (dvs c 4))) M n) 0 0) M n 22 [some (.ref a), some (.long dd), none, some (.int (nI i)), some (.long rr), none, some (.int (nI k)), none, none] [] := by
    intro m
    induction m with
    | zero =>
      intro k i dd rr hk kk
      have hk : k = 100 := by omega
      subst hk
      refine V_iload F dX1_divisorOfBends_22 rfl ?_
      refine V_bipush F dX1_divisorOfBends_24 kb_100 ?_
      refine V_icmp_ge F 55 dX1_divisorOfBends_26 (by decide) (fun c26 => ?_) (fun c26 => absurd (by decide) c26)
      exact V_drop 4 (V_drop 6 kk)
    | succ m ih =>
      intro k i dd rr hk kk
      unfold euc at kk
      refine V_iload F dX1_divisorOfBends_22 rfl ?_
      refine V_bipush F dX1_divisorOfBends_24 kb_100 ?_
      refine V_icmp_ge F 55 dX1_divisorOfBends_26 (by decide) (fun c26 => absurd c26 (nI_ge (by omega) (by omega))) (fun c26 => ?_)
      refine V_lload F dX1_divisorOfBends_29 rfl ?_
      refine V_lconst F dX1_divisorOfBends_31 (v := 0) (by decide) ?_
      refine V_lcmp F dX1_divisorOfBends_32 ?_
      refine V_if_eq F 55 dX1_divisorOfBends_33 (by decide) (fun c33 => ?_) (fun c33 => ?_)
      · rw [lcmp_eq] at c33
        rw [if_pos c33] at kk
        exact V_drop 4 (V_drop 6 kk)
      · rw [lcmp_eq] at c33
        rw [if_neg c33] at kk
        refine V_lload_n F dX1_divisorOfBends_36 rfl ?_
        refine V_lload F dX1_divisorOfBends_37 rfl ?_
        refine V_lrem F dX1_divisorOfBends_39 c33 ?_
        refine V_lstore F dX1_divisorOfBends_40 (Nat.le_of_ble_eq_true rfl) ?_
        show V _ _ _ _ _ _ _ _ [_, _, _, _, _, _, _, _, _] _
        refine V_lload F dX1_divisorOfBends_42 rfl ?_
        refine V_lstore_n F dX1_divisorOfBends_44 (Nat.le_of_ble_eq_true rfl) ?_
        show V _ _ _ _ _ _ _ _ [_, _, _, _, _, _, _, _, _] _
        refine V_lload F dX1_divisorOfBends_45 rfl ?_
        refine V_lstore F dX1_divisorOfBends_47 (Nat.le_of_ble_eq_true rfl) ?_
        show V _ _ _ _ _ _ _ _ [_, _, _, _, _, _, _, _, _] _
        refine V_iinc1 F dX1_divisorOfBends_49 rfl ?_
        show V _ _ _ _ _ _ _ _ [_, _, _, _, _, _, _, _, _] _
        refine V_goto F 22 dX1_divisorOfBends_52 (by decide) ?_
        exact V_drop 7 (ih (k + 1) i rr (dd - dd / rr * rr) (by omega) kk)
  have step : ∀ k : Nat, k < 4 → V G X 0 0 (BQ G X (R1 (some (.long (dvs c 4))) M n) 0 0) M n 4 [some (.ref a), some (.long (dvs c (k + 1))), none, some (.int (nI (k + 1))), none, none, none, none, none] [] → V G X 0 0 (BQ G X (R1 (some (.long (dvs c 4))) M n) 0 0) M n 4 [some (.ref a), some (.long (dvs c k)), none, some (.int (nI k)), none, none, none, none, none] [] := by
    intro k hk kk
    refine V_iload_n F dX1_divisorOfBends_4 rfl ?_
    refine V_iconst F dX1_divisorOfBends_5 ki_4 ?_
    refine V_icmp_ge F 61 dX1_divisorOfBends_6 (by decide) (fun c6 => absurd c6 (nI_ge hk (by omega))) (fun c6 => ?_)
    refine V_aload_n F dX1_divisorOfBends_9 rfl ?_
    refine V_iload_n F dX1_divisorOfBends_10 rfl ?_
    refine V_ivR F iv_X1_36 dX1_divisorOfBends_11 (As := [_]) (c_X1_bend h0 h1 hk) (by assumption) rfl rfl rfl rfl ?_
    refine V_isR F is_X1_91 dX1_divisorOfBends_14 (As := [_]) (c_J9_abs_067f4 _) rfl rfl rfl ?_
    refine V_lstore F dX1_divisorOfBends_17 (Nat.le_of_ble_eq_true rfl) ?_
    show V _ _ _ _ _ _ _ _ [_, _, _, _, _, _, _, _, _] _
    refine V_iconst F dX1_divisorOfBends_19 ki_0 ?_
    refine V_istore F dX1_divisorOfBends_20 (Nat.le_of_ble_eq_true rfl) ?_
    show V _ _ _ _ _ _ _ _ [_, _, _, _, _, _, _, _, _] _
    refine inner 100 0 k _ _ rfl ?_
    refine V_iinc1 F dX1_divisorOfBends_55 rfl ?_
    show V _ _ _ _ _ _ _ _ [_, _, _, _, _, _, _, _, _] _
    refine V_goto F 4 dX1_divisorOfBends_58 (by decide) ?_
    exact kk
  refine V_lconst F dX1_divisorOfBends_0 (v := 0) (by decide) ?_
  refine V_lstore_n F dX1_divisorOfBends_1 (Nat.le_of_ble_eq_true rfl) ?_
  show V _ _ _ _ _ _ _ _ [_, _, _, _, _, _, _, _, _] _
  refine V_iconst F dX1_divisorOfBends_2 ki_0 ?_
  refine V_istore_n F dX1_divisorOfBends_3 (Nat.le_of_ble_eq_true rfl) ?_
  show V _ _ _ _ _ _ _ _ [_, _, _, _, _, _, _, _, _] _
  refine step 0 (by omega) (step 1 (by omega) (step 2 (by omega) (step 3 (by omega) ?_)))
  refine V_iload_n F dX1_divisorOfBends_4 rfl ?_
  refine V_iconst F dX1_divisorOfBends_5 ki_4 ?_
  refine V_icmp_ge F 61 dX1_divisorOfBends_6 (by decide) (fun c6 => ?_) (fun c6 => absurd (by decide) c6)
  refine V_lload_n F dX1_divisorOfBends_61 rfl ?_
  exact V_lret F rfl dX1_divisorOfBends_62 ⟨rfl, rfl, rfl⟩
def tall (c : Qd) : Bool := tch c 0 c 1 && (tch c 0 c 2 && (tch c 0 c 3 && (tch c 1 c 2 && (tch c 1 c 3 && tch c 2 c 3))))
theorem c_X1_doAllTouch (h0 : M a = some (eO 1 [.ref r])) (h1 : M r = some (eJ (gT G) 12 (fc c))) : Con G yX1_doAllTouch cX1_doAllTouch 3 (some .boolean) 2 0 0 [.ref a] M n (R1 (some (.int (bI (tall c)))) M n) := by
  refine Con.of (by decide +kernel) (Nat.le_of_ble_eq_true rfl) (fun X F hnm => ?_)
  show V G X 0 0 _ M _ 0 [some (.ref a), none, none] []
  have inner : ∀ i j : Nat, i < 4 → j < 4 → (tch c i c j = true → V G X 0 0 (BQ G X (R1 (some (.int (bI (tall c)))) M n) 0 0) M n 11 [some (.ref a), some (.int (nI i)), some (.int (nI (j + 1)))] []) → (tch c i c j = false → tall c = false) → V G X 0 0 (BQ G X (R1 (some (.int (bI (tall c)))) M n) 0 0) M n 11 [some (.ref a), some (.int (nI i)), some (.int (nI j))] [] := by
    intro i j hi hj kk kf
    refine V_iload_n F dX1_doAllTouch_11 rfl ?_
    refine V_iconst F dX1_doAllTouch_12 ki_4 ?_
    refine V_icmp_ge F 34 dX1_doAllTouch_13 (by decide) (fun c13 => absurd c13 (nI_ge hj (by omega))) (fun c13 => ?_)
    refine V_aload_n F dX1_doAllTouch_16 rfl ?_
    refine V_iload_n F dX1_doAllTouch_17 rfl ?_
    refine V_aload_n F dX1_doAllTouch_18 rfl ?_
    refine V_iload_n F dX1_doAllTouch_19 rfl ?_
    refine V_ivR F iv_X1_97 dX1_doAllTouch_20 (As := [_, _, _]) (c_X1_touches h0 h1 h0 h1 hi hj) (by assumption) rfl rfl rfl rfl ?_
    refine V_if_ne F 28 dX1_doAllTouch_23 (by decide) (fun c23 => ?_) (fun c23 => ?_)
    · rw [bI_n] at c23
      refine V_iinc1 F dX1_doAllTouch_28 rfl ?_
      show V _ _ _ _ _ _ _ _ [_, _, _] _
      refine V_goto F 11 dX1_doAllTouch_31 (by decide) ?_
      exact kk c23
    · rw [bI_0] at c23
      refine V_iconst F dX1_doAllTouch_26 ki_0 ?_
      exact V_iret F rfl dX1_doAllTouch_27 rfl ⟨rf (kf c23), rfl, rfl⟩
  have outer : ∀ i : Nat, i < 4 → V G X 0 0 (BQ G X (R1 (some (.int (bI (tall c)))) M n) 0 0) M n 11 [some (.ref a), some (.int (nI i)), some (.int (nI (i + 1)))] [] → V G X 0 0 (BQ G X (R1 (some (.int (bI (tall c)))) M n) 0 0) M n 2 [some (.ref a), some (.int (nI i)), none] [] := by
    intro i hi kk
    refine V_iload_n F dX1_doAllTouch_2 rfl ?_
    refine V_iconst F dX1_doAllTouch_3 ki_4 ?_
    refine V_icmp_ge F 40 dX1_doAllTouch_4 (by decide) (fun c4 => absurd c4 (nI_ge hi (by omega))) (fun c4 => ?_)
    refine V_iload_n F dX1_doAllTouch_7 rfl ?_
    refine V_iconst F dX1_doAllTouch_8 ki_1 ?_
    refine V_iadd F dX1_doAllTouch_9 ?_
    rw [nI_add]
    refine V_istore_n F dX1_doAllTouch_10 (Nat.le_of_ble_eq_true rfl) ?_
    show V _ _ _ _ _ _ _ _ [_, _, _] _
    exact kk
  have back : ∀ i : Nat, i < 4 → V G X 0 0 (BQ G X (R1 (some (.int (bI (tall c)))) M n) 0 0) M n 2 [some (.ref a), some (.int (nI (i + 1))), none] [] → V G X 0 0 (BQ G X (R1 (some (.int (bI (tall c)))) M n) 0 0) M n 11 [some (.ref a), some (.int (nI i)), some (.int (nI 4))] [] := by
    intro i hi kk
    refine V_iload_n F dX1_doAllTouch_11 rfl ?_
    refine V_iconst F dX1_doAllTouch_12 ki_4 ?_
    refine V_icmp_ge F 34 dX1_doAllTouch_13 (by decide) (fun c13 => ?_) (fun c13 => absurd (by decide) c13)
    refine V_iinc1 F dX1_doAllTouch_34 rfl ?_
    show V _ _ _ _ _ _ _ _ [_, _, _] _
    refine V_goto F 2 dX1_doAllTouch_37 (by decide) ?_
    exact V_drop 2 kk
  refine V_iconst F dX1_doAllTouch_0 ki_0 ?_
  refine V_istore_n F dX1_doAllTouch_1 (Nat.le_of_ble_eq_true rfl) ?_
  show V _ _ _ _ _ _ _ _ [_, _, _] _
  refine outer 0 (by omega) (inner 0 1 (by omega) (by omega) (fun q1 => inner 0 2 (by omega) (by omega) (fun q2 => inner 0 3 (by omega) (by omega) (fun q3 => back 0 (by omega) (outer 1 (by omega) (inner 1 2 (by omega) (by omega) (fun q4 => inner 1 3 (by omega) (by omega) (fun q5 => back 1 (by omega) (outer 2 (by omega) (inner 2 3 (by omega) (by omega) (fun q6 => back 2 (by omega) (outer 3 (by omega) (back 3 (by omega) ?_))) ?_))) ?_) ?_))) ?_) ?_) ?_)
  · refine V_iload_n F dX1_doAllTouch_2 rfl ?_
    refine V_iconst F dX1_doAllTouch_3 ki_4 ?_
    refine V_icmp_ge F 40 dX1_doAllTouch_4 (by decide) (fun c4 => ?_) (fun c4 => absurd (by decide) c4)
    refine V_iconst F dX1_doAllTouch_40 ki_1 ?_
    exact V_iret F rfl dX1_doAllTouch_41 rfl ⟨rt (by simp [tall, q1, q2, q3, q4, q5, q6]), rfl, rfl⟩
  · intro q; simp [tall, q]
  · intro q; simp [tall, q]
  · intro q; simp [tall, q]
  · intro q; simp [tall, q]
  · intro q; simp [tall, q]
  · intro q; simp [tall, q]
def bRefs (c : Qd) : Bool := bRef (c 0 0) || (bRef (c 1 0) || (bRef (c 2 0) || bRef (c 3 0)))
def plRs (c : Qd) : Bool := plR c 0 || (plR c 1 || (plR c 2 || plR c 3))
def rfs (c : Qd) : Int32 := if bRefs c then -15 else if plRs c then -16 else if bst c = false then -17 else if 1 < nng c 4 then -18 else if 1 < dvs c 4 then -19 else if tall c = false then -20 else nI 0
theorem c_X1_refusal (h0 : M a = some (eO 1 [.ref r])) (h1 : M r = some (eJ (gT G) 12 (fc c))) : Con G yX1_refusal cX1_refusal 2 (some .int) 3 0 0 [.ref a] M n (R1 (some (.int (rfs c))) M n) := by
  refine Con.of (by decide +kernel) (Nat.le_of_ble_eq_true rfl) (fun X F hnm => ?_)
  show V G X 0 0 _ M _ 0 [some (.ref a), none] []
  have s1 : ∀ i : Nat, i < 4 → (bRef (c i 0) = true → bRefs c = true) → (bRef (c i 0) = false → V G X 0 0 (BQ G X (R1 (some (.int (rfs c))) M n) 0 0) M n 2 [some (.ref a), some (.int (nI (i + 1)))] []) → V G X 0 0 (BQ G X (R1 (some (.int (rfs c))) M n) 0 0) M n 2 [some (.ref a), some (.int (nI i))] [] := by
    intro i hi kf kk
    refine V_iload_n F dX1_refusal_2 rfl ?_
    refine V_iconst F dX1_refusal_3 ki_4 ?_
    refine V_icmp_ge F 24 dX1_refusal_4 (by decide) (fun c4 => absurd c4 (nI_ge hi (by omega))) (fun c4 => ?_)
    refine V_aload_n F dX1_refusal_7 rfl ?_
    refine V_iload_n F dX1_refusal_8 rfl ?_
    refine V_ivR F iv_X1_59 dX1_refusal_9 (As := [_]) (c_X1_isBendRefused h0 h1 hi) (by assumption) rfl rfl rfl rfl ?_
    refine V_if_eq F 18 dX1_refusal_12 (by decide) (fun c12 => ?_) (fun c12 => ?_)
    · rw [bI_0] at c12
      refine V_iinc1 F dX1_refusal_18 rfl ?_
      show V _ _ _ _ _ _ _ _ [_, _] _
      refine V_goto F 2 dX1_refusal_21 (by decide) ?_
      exact kk c12
    · rw [bI_n] at c12
      refine V_bipush F dX1_refusal_15 kb_m15 ?_
      exact V_iret F rfl dX1_refusal_17 rfl ⟨by simp [rfs, kf c12], rfl, rfl⟩
  have s2 : ∀ i : Nat, i < 4 → bRefs c = false → (plR c i = true → plRs c = true) → (plR c i = false → V G X 0 0 (BQ G X (R1 (some (.int (rfs c))) M n) 0 0) M n 26 [some (.ref a), some (.int (nI (i + 1)))] []) → V G X 0 0 (BQ G X (R1 (some (.int (rfs c))) M n) 0 0) M n 26 [some (.ref a), some (.int (nI i))] [] := by
    intro i hi hb kf kk
    refine V_iload_n F dX1_refusal_26 rfl ?_
    refine V_iconst F dX1_refusal_27 ki_4 ?_
    refine V_icmp_ge F 48 dX1_refusal_28 (by decide) (fun c28 => absurd c28 (nI_ge hi (by omega))) (fun c28 => ?_)
    refine V_aload_n F dX1_refusal_31 rfl ?_
    refine V_iload_n F dX1_refusal_32 rfl ?_
    refine V_ivR F iv_X1_62 dX1_refusal_33 (As := [_]) (c_X1_isPlaceRefused h0 h1 hi) (by assumption) rfl rfl rfl rfl ?_
    refine V_if_eq F 42 dX1_refusal_36 (by decide) (fun c36 => ?_) (fun c36 => ?_)
    · rw [bI_0] at c36
      refine V_iinc1 F dX1_refusal_42 rfl ?_
      show V _ _ _ _ _ _ _ _ [_, _] _
      refine V_goto F 26 dX1_refusal_45 (by decide) ?_
      exact kk c36
    · rw [bI_n] at c36
      refine V_bipush F dX1_refusal_39 kb_m16 ?_
      exact V_iret F rfl dX1_refusal_41 rfl ⟨by simp [rfs, hb, kf c36], rfl, rfl⟩
  refine V_iconst F dX1_refusal_0 ki_0 ?_
  refine V_istore_n F dX1_refusal_1 (Nat.le_of_ble_eq_true rfl) ?_
  show V _ _ _ _ _ _ _ _ [_, _] _
  refine s1 0 (by omega) (fun q => by simp [bRefs, q]) (fun q0 => s1 1 (by omega) (fun q => by simp [bRefs, q]) (fun q1 => s1 2 (by omega) (fun q => by simp [bRefs, q]) (fun q2 => s1 3 (by omega) (fun q => by simp [bRefs, q]) (fun q3 => ?_))))
  have hb : bRefs c = false := by simp [bRefs, q0, q1, q2, q3]
  refine V_iload_n F dX1_refusal_2 rfl ?_
  refine V_iconst F dX1_refusal_3 ki_4 ?_
  refine V_icmp_ge F 24 dX1_refusal_4 (by decide) (fun c4 => ?_) (fun c4 => absurd (by decide) c4)
  refine V_iconst F dX1_refusal_24 ki_0 ?_
  refine V_istore_n F dX1_refusal_25 (Nat.le_of_ble_eq_true rfl) ?_
  show V _ _ _ _ _ _ _ _ [_, _] _
  refine s2 0 (by omega) hb (fun q => by simp [plRs, q]) (fun p0 => s2 1 (by omega) hb (fun q => by simp [plRs, q]) (fun p1 => s2 2 (by omega) hb (fun q => by simp [plRs, q]) (fun p2 => s2 3 (by omega) hb (fun q => by simp [plRs, q]) (fun p3 => ?_))))
  have hp : plRs c = false := by simp [plRs, p0, p1, p2, p3]
  have t1 := nng_le c 4
  refine V_iload_n F dX1_refusal_26 rfl ?_
  refine V_iconst F dX1_refusal_27 ki_4 ?_
  refine V_icmp_ge F 48 dX1_refusal_28 (by decide) (fun c28 => ?_) (fun c28 => absurd (by decide) c28)
  refine V_aload_n F dX1_refusal_48 rfl ?_
  refine V_ivR F iv_X1_77 dX1_refusal_49 (As := []) (c_X1_doBendsStand h0 h1) (by assumption) rfl rfl rfl rfl ?_
  refine V_if_ne F 58 dX1_refusal_52 (by decide) (fun c52 => ?_) (fun c52 => ?_)
  · rw [bI_n] at c52
    refine V_aload_n F dX1_refusal_58 rfl ?_
    refine V_ivR F iv_X1_81 dX1_refusal_59 (As := []) (c_X1_bendsBelowZero h0 h1) (by assumption) rfl rfl rfl rfl ?_
    refine V_iconst F dX1_refusal_62 ki_1 ?_
    refine V_icmp_le F 69 dX1_refusal_63 (by decide) (fun c63 => ?_) (fun c63 => ?_)
    · rw [nI_leI (by omega) (by omega)] at c63
      refine V_aload_n F dX1_refusal_69 rfl ?_
      refine V_ivR F iv_X1_84 dX1_refusal_70 (As := []) (c_X1_divisorOfBends h0 h1) (by assumption) rfl rfl rfl rfl ?_
      refine V_lconst F dX1_refusal_73 (v := 1) (by decide) ?_
      refine V_lcmp F dX1_refusal_74 ?_
      refine V_if_le F 81 dX1_refusal_75 (by decide) (fun c75 => ?_) (fun c75 => ?_)
      · rw [lcmp_le] at c75
        have c75' : ¬ 1 < dvs c 4 := by rw [Int64.not_lt]; exact c75
        refine V_aload_n F dX1_refusal_81 rfl ?_
        refine V_ivR F iv_X1_88 dX1_refusal_82 (As := []) (c_X1_doAllTouch h0 h1) (by assumption) rfl rfl rfl rfl ?_
        refine V_if_eq F 92 dX1_refusal_85 (by decide) (fun c85 => ?_) (fun c85 => ?_)
        · rw [bI_0] at c85
          refine V_bipush F dX1_refusal_92 kb_m20 ?_
          exact V_iret F rfl dX1_refusal_94 rfl ⟨by simp [rfs, hb, hp, c52, show ¬ 1 < nng c 4 by omega, c75', c85], rfl, rfl⟩
        · rw [bI_n] at c85
          refine V_iconst F dX1_refusal_88 ki_0 ?_
          refine V_goto F 94 dX1_refusal_89 (by decide) ?_
          exact V_iret F rfl dX1_refusal_94 rfl ⟨by simp [rfs, hb, hp, c52, show ¬ 1 < nng c 4 by omega, c75', c85], rfl, rfl⟩
      · rw [lcmp_le] at c75
        have c75' : 1 < dvs c 4 := Int64.not_le.mp c75
        refine V_bipush F dX1_refusal_78 kb_m19 ?_
        exact V_iret F rfl dX1_refusal_80 rfl ⟨by simp [rfs, hb, hp, c52, show ¬ 1 < nng c 4 by omega, c75'], rfl, rfl⟩
    · rw [nI_leI (by omega) (by omega)] at c63
      refine V_bipush F dX1_refusal_66 kb_m18 ?_
      exact V_iret F rfl dX1_refusal_68 rfl ⟨by simp [rfs, hb, hp, c52, show 1 < nng c 4 by omega], rfl, rfl⟩
  · rw [bI_0] at c52
    refine V_bipush F dX1_refusal_55 kb_m17 ?_
    exact V_iret F rfl dX1_refusal_57 rfl ⟨by simp [rfs, hb, hp, c52], rfl, rfl⟩
end FOUR2
end
section
def ga : Nat → Nat → Nat → Qd → Bool × Qd
  | 0, _, _, c => (true, c)
  | m + 1, x, y, c => if cRef (turnc c x) x = 0 then ga m y x (turnc c x) else (false, turnc c x)
theorem neg_and : ∀ j, j < 128 → (-nI j) &&& nI 1 = nI (j % 2) := by decide +kernel
theorem neg_step : ∀ j, j < 128 → -nI j + Int32.ofInt (-1) = -nI (j + 1) := by decide +kernel
theorem pos_and (j : Nat) (h : j < 128) : nI j &&& nI 1 = nI (j % 2) := pk_andN (by omega) 1 (by decide)
def sel (e o j : Nat) : Nat := if j % 2 = 0 then e else o
theorem sel_lt {e o j : Nat} (he : e < 4) (ho : o < 4) : sel e o j < 4 := by unfold sel; split <;> assumption
section FOUR3
variable {G : GP} {M : Mem} {n : Option Nat} {a r : Nat} {c : Qd}
theorem c_X1_take {b q : Nat} {c2 : Qd} (h0 : M a = some (eO 1 [.ref r])) (h1 : M r = some (eJ (gT G) 12 (fc c))) (g0 : M b = some (eO 1 [.ref q])) (g1 : M q = some (eJ (gT G) 12 (fc c2))) : Con G yX1_take cX1_take 2 none 1 0 0 [.ref a, .ref b] M none (R1 none (mset M r (eJ (gT G) 12 (fc c2))) none) := by
  refine Con.of (by decide +kernel) (Nat.le_of_ble_eq_true rfl) (fun X F hnm => ?_)
  show V G X 0 0 _ M _ 0 [some (.ref a), some (.ref b)] []
  refine V_aload_n F dX1_take_0 rfl ?_
  refine V_get F fl_X1_11 dX1_take_1 (by assumption) rfl ?_
  refine V_iconst F dX1_take_4 ki_0 ?_
  refine V_aload_n F dX1_take_5 rfl ?_
  refine V_get F fl_X1_11 dX1_take_6 (by assumption) rfl ?_
  refine V_iconst F dX1_take_9 ki_0 ?_
  refine V_bipush F dX1_take_10 kb_12 ?_
  refine V_acopy F ac_X1_15 dX1_take_12 g1 h1 0 0 12 rfl rfl rfl (by omega) (by omega) (by omega) (by omega) (by decide) (Nat.le_of_ble_eq_true rfl) ?_
  refine V_mem (fun H hm => mem_J (g := fc c2) ?_ hm) ?_
  · intro k hk
    unfold va_cpy
    rw [if_pos ⟨by omega, by omega⟩, Nat.sub_zero, Nat.zero_add]
  exact V_vret F rfl dX1_take_15 ⟨rfl, rfl, rfl⟩
theorem c_X1_goAlong (h0 : M a = some (eO 1 [.ref r])) (h1 : M r = some (eJ (gT G) 12 (fc c))) {e o K : Nat} (he : e < 4) (ho : o < 4) (hK : K ≤ 100) : Con G yX1_goAlong cX1_goAlong 5 (some .boolean) 5 0 0 [.ref a, .int (nI e), .int (nI o), .int (nI K)] M n (R1 (some (.int (bI (ga (K - 1) e o c).1))) (mset M r (eJ (gT G) 12 (fc (ga (K - 1) e o c).2))) n) := by
  refine Con.of (by decide +kernel) (Nat.le_of_ble_eq_true rfl) (fun X F hnm => ?_)
  show V G X 0 0 _ M _ 0 [some (.ref a), some (.int (nI e)), some (.int (nI o)), some (.int (nI K)), none] []
  have har := ne_oj h0 h1
  have loop : ∀ (q j : Nat) (M' : Mem) (c' : Qd), q = K + 1 - j → 2 ≤ j → j ≤ 101 → M' a = some (eO 1 [.ref r]) → M' r = some (eJ (gT G) 12 (fc c')) → V G X 0 0 (BQ G X (R1 (some (.int (bI (ga q (sel e o j) (sel e o (j + 1)) c').1))) (mset M' r (eJ (gT G) 12 (fc (ga q (sel e o j) (sel e o (j + 1)) c').2))) n) 0 0) M' n 3 [some (.ref a), some (.int (nI e)), some (.int (nI o)), some (.int (nI K)), some (.int (nI j))] [] := by
    intro q
    induction q with
    | zero =>
      intro j M' c' hq hj hj2 h0 h1
      refine V_iload F dX1_goAlong_3 rfl ?_
      refine V_iload_n F dX1_goAlong_5 rfl ?_
      refine V_icmp_gt F 36 dX1_goAlong_6 (by decide) (fun c6 => ?_) (fun c6 => absurd (nI_lt (by omega) (by omega)) c6)
      refine V_iconst F dX1_goAlong_36 ki_m1 ?_
      refine V_istore F dX1_goAlong_37 (Nat.le_of_ble_eq_true rfl) ?_
      show V _ _ _ _ _ _ _ _ [_, _, _, _, _] _
      refine V_iload F dX1_goAlong_39 rfl ?_
      refine V_iload_n F dX1_goAlong_41 rfl ?_
      refine V_icmp_lt F 72 dX1_goAlong_42 (by decide) (fun c42 => ?_) (fun c42 => absurd (by rw [Int32.lt_iff_toInt_lt, nI_toInt (by omega)]; show (-1 : Int) < _; omega) c42)
      refine V_iconst F dX1_goAlong_72 ki_1 ?_
      exact V_iret F rfl dX1_goAlong_73 rfl ⟨rfl, (mset_self h1).symm, rfl⟩
    | succ q ih =>
      intro j M' c' hq hj hj2 h0 h1
      have hs := sel_lt (j := j) he ho
      have rest : V G X 0 0 (BQ G X (R1 (some (.int (bI (ga (q + 1) (sel e o j) (sel e o (j + 1)) c').1))) (mset M' r (eJ (gT G) 12 (fc (ga (q + 1) (sel e o j) (sel e o (j + 1)) c').2))) n) 0 0) M' n 22 [some (.ref a), some (.int (nI e)), some (.int (nI o)), some (.int (nI K)), some (.int (nI j))] [.int (nI (sel e o j)), .ref a] := by
        unfold ga
        refine V_ivR F iv_X1_47 dX1_goAlong_22 (As := [_]) (c_X1_turnWithin h0 h1 hs) (by assumption) rfl rfl rfl rfl ?_
        refine V_if_ne F 30 dX1_goAlong_25 (by decide) (fun c25 => ?_) (fun c25 => ?_)
        · rw [bI_n] at c25
          have c25 : cRef (turnc c' (sel e o j)) (sel e o j) = 0 := by simpa using c25
          rw [if_pos c25]
          refine V_iinc1 F dX1_goAlong_30 rfl ?_
          show V _ _ _ _ _ _ _ _ [_, _, _, _, _] _
          refine V_goto F 3 dX1_goAlong_33 (by decide) ?_
          have := ih (j + 1) (mset M' r (eJ (gT G) 12 (fc (turnc c' (sel e o j))))) (turnc c' (sel e o j)) (by omega) (by omega) (by omega) ((mset_ne _ _ har).trans h0) (mset_eq _ _ _)
          rw [mset_mset, show sel e o (j + 1 + 1) = sel e o j by unfold sel; rw [show (j + 1 + 1) % 2 = j % 2 by omega]] at this
          exact this
        · rw [bI_0] at c25
          have c25 : ¬ cRef (turnc c' (sel e o j)) (sel e o j) = 0 := by simpa using c25
          rw [if_neg c25]
          refine V_iconst F dX1_goAlong_28 ki_0 ?_
          exact V_iret F rfl dX1_goAlong_29 rfl ⟨rfl, rfl, rfl⟩
      refine V_iload F dX1_goAlong_3 rfl ?_
      refine V_iload_n F dX1_goAlong_5 rfl ?_
      refine V_icmp_gt F 36 dX1_goAlong_6 (by decide) (fun c6 => absurd c6 (nI_nlt (by omega) (by omega))) (fun c6 => ?_)
      refine V_aload_n F dX1_goAlong_9 rfl ?_
      refine V_iload F dX1_goAlong_10 rfl ?_
      refine V_iconst F dX1_goAlong_12 ki_1 ?_
      refine V_iand F dX1_goAlong_13 ?_
      rw [pos_and j (by omega)]
      refine V_if_ne F 21 dX1_goAlong_14 (by decide) (fun c14 => ?_) (fun c14 => ?_)
      · have rest2 := rest
        rw [show sel e o j = o by unfold sel; rw [if_neg (fun z => c14 (by rw [z]; rfl))]] at rest2
        rw [show sel e o j = o by unfold sel; rw [if_neg (fun z => c14 (by rw [z]; rfl))]]
        refine V_iload_n F dX1_goAlong_21 rfl ?_
        exact rest2
      · have rest2 := rest
        have hz : j % 2 = 0 := (nI_eq (b := 0) (by omega) (by omega)).mp c14
        rw [show sel e o j = e by unfold sel; rw [if_pos hz]] at rest2
        rw [show sel e o j = e by unfold sel; rw [if_pos hz]]
        refine V_iload_n F dX1_goAlong_17 rfl ?_
        refine V_goto F 22 dX1_goAlong_18 (by decide) ?_
        exact rest2
  refine V_iconst F dX1_goAlong_0 ki_2 ?_
  refine V_istore F dX1_goAlong_1 (Nat.le_of_ble_eq_true rfl) ?_
  show V _ _ _ _ _ _ _ _ [_, _, _, _, _] _
  have := loop (K + 1 - 2) 2 M c rfl (by omega) (by omega) h0 h1
  rw [show K + 1 - 2 = K - 1 by omega] at this
  exact this
theorem c_X1_goAlongN (h0 : M a = some (eO 1 [.ref r])) (h1 : M r = some (eJ (gT G) 12 (fc c))) {e o K : Nat} (he : e < 4) (ho : o < 4) (hK : K ≤ 100) (hK1 : 1 ≤ K) : Con G yX1_goAlong cX1_goAlong 5 (some .boolean) 5 0 0 [.ref a, .int (nI e), .int (nI o), .int (-nI K)] M n (R1 (some (.int (bI (ga K o e c).1))) (mset M r (eJ (gT G) 12 (fc (ga K o e c).2))) n) := by
  refine Con.of (by decide +kernel) (Nat.le_of_ble_eq_true rfl) (fun X F hnm => ?_)
  show V G X 0 0 _ M _ 0 [some (.ref a), some (.int (nI e)), some (.int (nI o)), some (.int (-nI K)), none] []
  have har := ne_oj h0 h1
  have loop : ∀ (q j : Nat) (M' : Mem) (c' : Qd), q = K + 1 - j → 1 ≤ j → j ≤ 101 → M' a = some (eO 1 [.ref r]) → M' r = some (eJ (gT G) 12 (fc c')) → V G X 0 0 (BQ G X (R1 (some (.int (bI (ga q (sel e o j) (sel e o (j + 1)) c').1))) (mset M' r (eJ (gT G) 12 (fc (ga q (sel e o j) (sel e o (j + 1)) c').2))) n) 0 0) M' n 39 [some (.ref a), some (.int (nI e)), some (.int (nI o)), some (.int (-nI K)), some (.int (-nI j))] [] := by
    intro q
    induction q with
    | zero =>
      intro j M' c' hq hj hj2 h0 h1
      refine V_iload F dX1_goAlong_39 rfl ?_
      refine V_iload_n F dX1_goAlong_41 rfl ?_
      refine V_icmp_lt F 72 dX1_goAlong_42 (by decide) (fun c42 => ?_) (fun c42 => absurd ((sb_nlt (by omega) (by omega)).mpr (by omega)) c42)
      refine V_iconst F dX1_goAlong_72 ki_1 ?_
      exact V_iret F rfl dX1_goAlong_73 rfl ⟨rfl, (mset_self h1).symm, rfl⟩
    | succ q ih =>
      intro j M' c' hq hj hj2 h0 h1
      have hs := sel_lt (j := j) he ho
      have rest : V G X 0 0 (BQ G X (R1 (some (.int (bI (ga (q + 1) (sel e o j) (sel e o (j + 1)) c').1))) (mset M' r (eJ (gT G) 12 (fc (ga (q + 1) (sel e o j) (sel e o (j + 1)) c').2))) n) 0 0) M' n 58 [some (.ref a), some (.int (nI e)), some (.int (nI o)), some (.int (-nI K)), some (.int (-nI j))] [.int (nI (sel e o j)), .ref a] := by
        unfold ga
        refine V_ivR F iv_X1_47 dX1_goAlong_58 (As := [_]) (c_X1_turnWithin h0 h1 hs) (by assumption) rfl rfl rfl rfl ?_
        refine V_if_ne F 66 dX1_goAlong_61 (by decide) (fun c61 => ?_) (fun c61 => ?_)
        · rw [bI_n] at c61
          have c61 : cRef (turnc c' (sel e o j)) (sel e o j) = 0 := by simpa using c61
          rw [if_pos c61]
          refine V_iinc F dX1_goAlong_66 rfl ?_
          show V _ _ _ _ _ _ _ _ [_, _, _, _, _] _
          rw [neg_step j (by omega)]
          refine V_goto F 39 dX1_goAlong_69 (by decide) ?_
          have := ih (j + 1) (mset M' r (eJ (gT G) 12 (fc (turnc c' (sel e o j))))) (turnc c' (sel e o j)) (by omega) (by omega) (by omega) ((mset_ne _ _ har).trans h0) (mset_eq _ _ _)
          rw [mset_mset, show sel e o (j + 1 + 1) = sel e o j by unfold sel; rw [show (j + 1 + 1) % 2 = j % 2 by omega]] at this
          exact this
        · rw [bI_0] at c61
          have c61 : ¬ cRef (turnc c' (sel e o j)) (sel e o j) = 0 := by simpa using c61
          rw [if_neg c61]
          refine V_iconst F dX1_goAlong_64 ki_0 ?_
          exact V_iret F rfl dX1_goAlong_65 rfl ⟨rfl, rfl, rfl⟩
      refine V_iload F dX1_goAlong_39 rfl ?_
      refine V_iload_n F dX1_goAlong_41 rfl ?_
      refine V_icmp_lt F 72 dX1_goAlong_42 (by decide) (fun c42 => absurd c42 (fun z => by have := (sb_nlt (by omega) (by omega)).mp z; omega)) (fun c42 => ?_)
      refine V_aload_n F dX1_goAlong_45 rfl ?_
      refine V_iload F dX1_goAlong_46 rfl ?_
      refine V_iconst F dX1_goAlong_48 ki_1 ?_
      refine V_iand F dX1_goAlong_49 ?_
      rw [neg_and j (by omega)]
      refine V_if_ne F 57 dX1_goAlong_50 (by decide) (fun c50 => ?_) (fun c50 => ?_)
      · have rest2 := rest
        rw [show sel e o j = o by unfold sel; rw [if_neg (fun z => c50 (by rw [z]; rfl))]] at rest2
        rw [show sel e o j = o by unfold sel; rw [if_neg (fun z => c50 (by rw [z]; rfl))]]
        refine V_iload_n F dX1_goAlong_57 rfl ?_
        exact rest2
      · have rest2 := rest
        have hz : j % 2 = 0 := (nI_eq (b := 0) (by omega) (by omega)).mp c50
        rw [show sel e o j = e by unfold sel; rw [if_pos hz]] at rest2
        rw [show sel e o j = e by unfold sel; rw [if_pos hz]]
        refine V_iload_n F dX1_goAlong_53 rfl ?_
        refine V_goto F 58 dX1_goAlong_54 (by decide) ?_
        exact rest2
  refine V_iconst F dX1_goAlong_0 ki_2 ?_
  refine V_istore F dX1_goAlong_1 (Nat.le_of_ble_eq_true rfl) ?_
  show V _ _ _ _ _ _ _ _ [_, _, _, _, _] _
  refine V_iload F dX1_goAlong_3 rfl ?_
  refine V_iload_n F dX1_goAlong_5 rfl ?_
  refine V_icmp_gt F 36 dX1_goAlong_6 (by decide) (fun c6 => ?_) (fun c6 => absurd (by rw [Int32.lt_iff_toInt_lt, sb_negT (by omega)]; show _ < (2 : Int); omega) c6)
  refine V_iconst F dX1_goAlong_36 ki_m1 ?_
  refine V_istore F dX1_goAlong_37 (Nat.le_of_ble_eq_true rfl) ?_
  show V _ _ _ _ _ _ _ _ [_, _, _, _, _] _
  have := loop K 1 M c (by omega) (by omega) (by omega) h0 h1
  exact this
end FOUR3
end
section
def hasP (i m len : Int32) : Bool := decide (0 ≤ i) && (decide (0 ≤ m) && decide (i.toInt64 + m.toInt64 ≤ len.toInt64))
def cutv (k : Int32) (v : Int64) : Int64 := if k = 0 then v.toInt32.toInt16.toInt32.toInt64 else if k = nI 1 then v.toInt32.toInt64 else v
section BAG
variable {G : GP} {M : Mem} {n : Option Nat} {a p : Nat} {f : Nat → Int64} {kd len : Int32}
theorem c_X0_become (h0 : M a = some (eO 0 [.ref p, .int kd, .int len])) (h1 : M p = some (eJ (gT G) 24 f)) (k m : Int32) : Con G yX0_become cX0_become 3 none 1 0 0 [.ref a, .int k, .int m] M n (R1 none (mset (mset M a (eO 0 [.ref p, .int k, .int m])) p (eJ (gT G) 24 (fun _ => 0))) n) := by
  refine Con.of (by decide +kernel) (Nat.le_of_ble_eq_true rfl) (fun X F hnm => ?_)
  show V G X 0 0 _ M _ 0 [some (.ref a), some (.int k), some (.int m)] []
  have hap := ne_oj h0 h1
  refine V_aload_n F dX0_become_0 rfl ?_
  refine V_iload_n F dX0_become_1 rfl ?_
  refine V_put F fl_X0_15 dX0_become_2 (by assumption) rfl rfl (Nat.le_of_ble_eq_true rfl) ?_
  refine V_aload_n F dX0_become_5 rfl ?_
  refine V_iload_n F dX0_become_6 rfl ?_
  refine V_put F fl_X0_19 dX0_become_7 (mset_eq _ _ _) rfl rfl (Nat.le_of_ble_eq_true rfl) ?_
  refine V_aload_n F dX0_become_10 rfl ?_
  refine V_get F fl_X0_9 dX0_become_11 (mset_eq _ _ _) rfl ?_
  refine V_lconst F dX0_become_14 (v := 0) (by decide) ?_
  rw [mset_mset]
  refine V_isR F is_X0_22 dX0_become_15 (As := [_, _]) (c_J7_fill_d0a16 ((mset_ne _ _ hap.symm).trans h1) (by omega) 0) rfl rfl rfl ?_
  refine V_mem (fun H hm => mem_J (g := fun _ => 0) ?_ hm) ?_
  · intro k hk
    simp [filled, hk]
  exact V_vret F rfl dX0_become_18 ⟨rfl, rfl, rfl⟩
theorem c_X0_hasPlaces (h0 : M a = some (eO 0 [.ref p, .int kd, .int len])) (i m : Int32) : Con G yX0_hasPlaces cX0_hasPlaces 3 (some .boolean) 0 0 0 [.ref a, .int i, .int m] M n (R1 (some (.int (bI (hasP i m len)))) M n) := by
  refine Con.of (by decide +kernel) (Nat.le_of_ble_eq_true rfl) (fun X F hnm => ?_)
  show V G X 0 0 _ M _ 0 [some (.ref a), some (.int i), some (.int m)] []
  refine V_iload_n F dX0_hasPlaces_0 rfl ?_
  refine V_if_lt F 26 dX0_hasPlaces_1 (by decide) (fun c1 => ?_) (fun c1 => ?_)
  · refine V_iconst F dX0_hasPlaces_26 ki_0 ?_
    exact V_iret F rfl dX0_hasPlaces_27 rfl ⟨rf (by simp only [hasP, Bool.and_eq_false_iff]; exact Or.inl (decide_eq_false (Int32.not_le.mpr c1))), rfl, rfl⟩
  · refine V_iload_n F dX0_hasPlaces_4 rfl ?_
    refine V_if_lt F 26 dX0_hasPlaces_5 (by decide) (fun c5 => ?_) (fun c5 => ?_)
    · refine V_iconst F dX0_hasPlaces_26 ki_0 ?_
      exact V_iret F rfl dX0_hasPlaces_27 rfl ⟨rf (by simp only [hasP, Bool.and_eq_false_iff]; exact Or.inr (Or.inl (decide_eq_false (Int32.not_le.mpr c5)))), rfl, rfl⟩
    · refine V_iload_n F dX0_hasPlaces_8 rfl ?_
      refine V_i2l F dX0_hasPlaces_9 ?_
      refine V_iload_n F dX0_hasPlaces_10 rfl ?_
      refine V_i2l F dX0_hasPlaces_11 ?_
      refine V_ladd F dX0_hasPlaces_12 ?_
      refine V_aload_n F dX0_hasPlaces_13 rfl ?_
      refine V_get F fl_X0_19 dX0_hasPlaces_14 (by assumption) rfl ?_
      refine V_i2l F dX0_hasPlaces_17 ?_
      refine V_lcmp F dX0_hasPlaces_18 ?_
      refine V_if_gt F 26 dX0_hasPlaces_19 (by decide) (fun c19 => ?_) (fun c19 => ?_)
      · rw [lcmp_gt] at c19
        refine V_iconst F dX0_hasPlaces_26 ki_0 ?_
        exact V_iret F rfl dX0_hasPlaces_27 rfl ⟨rf (by simp only [hasP, Bool.and_eq_false_iff]; exact Or.inr (Or.inr (decide_eq_false (Int64.not_le.mpr c19)))), rfl, rfl⟩
      · rw [lcmp_gt] at c19
        refine V_iconst F dX0_hasPlaces_22 ki_1 ?_
        refine V_goto F 27 dX0_hasPlaces_23 (by decide) ?_
        exact V_iret F rfl dX0_hasPlaces_27 rfl ⟨rt (by simp only [hasP, Bool.and_eq_true]; exact ⟨decide_eq_true (Int32.not_lt.mp c1), decide_eq_true (Int32.not_lt.mp c5), decide_eq_true (Int64.not_lt.mp c19)⟩), rfl, rfl⟩
theorem c_X0_keep (h0 : M a = some (eO 0 [.ref p, .int kd, .int len])) (h1 : M p = some (eJ (gT G) 24 f)) {j : Nat} (hj : j < 24) (v : Int64) : Con G yX0_keep cX0_keep 4 none 0 0 0 [.ref a, .int (nI j), .long v] M n (R1 none (mset M p (eJ (gT G) 24 (va_up f j (cutv kd v)))) n) := by
  refine Con.of (by decide +kernel) (Nat.le_of_ble_eq_true rfl) (fun X F hnm => ?_)
  show V G X 0 0 _ M _ 0 [some (.ref a), some (.int (nI j)), some (.long v), none] []
  refine V_aload_n F dX0_keep_0 rfl ?_
  refine V_get F fl_X0_15 dX0_keep_1 (by assumption) rfl ?_
  refine V_if_ne F 20 dX0_keep_4 (by decide) (fun c4 => ?_) (fun c4 => ?_)
  · refine V_aload_n F dX0_keep_20 rfl ?_
    refine V_get F fl_X0_15 dX0_keep_21 (by assumption) rfl ?_
    refine V_iconst F dX0_keep_24 ki_1 ?_
    refine V_icmp_ne F 40 dX0_keep_25 (by decide) (fun c25 => ?_) (fun c25 => ?_)
    · refine V_aload_n F dX0_keep_40 rfl ?_
      refine V_get F fl_X0_9 dX0_keep_41 (by assumption) rfl ?_
      refine V_iload_n F dX0_keep_44 rfl ?_
      refine V_lload_n F dX0_keep_45 rfl ?_
      refine V_lastN F dX0_keep_46 (by assumption) _ (by first | rfl | simp only [pk_mul, nI_add, nI_1, nI_inc]) (by omega) (by omega) ?_
      exact V_vret F rfl dX0_keep_47 ⟨rfl, by unfold cutv; rw [if_neg c4, if_neg c25], rfl⟩
    · refine V_aload_n F dX0_keep_28 rfl ?_
      refine V_get F fl_X0_9 dX0_keep_29 (by assumption) rfl ?_
      refine V_iload_n F dX0_keep_32 rfl ?_
      refine V_lload_n F dX0_keep_33 rfl ?_
      refine V_l2i F dX0_keep_34 ?_
      refine V_i2l F dX0_keep_35 ?_
      refine V_lastN F dX0_keep_36 (by assumption) _ (by first | rfl | simp only [pk_mul, nI_add, nI_1, nI_inc]) (by omega) (by omega) ?_
      refine V_goto F 47 dX0_keep_37 (by decide) ?_
      exact V_vret F rfl dX0_keep_47 ⟨rfl, by unfold cutv; rw [if_neg c4, if_pos c25], rfl⟩
  · refine V_aload_n F dX0_keep_7 rfl ?_
    refine V_get F fl_X0_9 dX0_keep_8 (by assumption) rfl ?_
    refine V_iload_n F dX0_keep_11 rfl ?_
    refine V_lload_n F dX0_keep_12 rfl ?_
    refine V_l2i F dX0_keep_13 ?_
    refine V_i2s F dX0_keep_14 ?_
    refine V_i2l F dX0_keep_15 ?_
    refine V_lastN F dX0_keep_16 (by assumption) _ (by first | rfl | simp only [pk_mul, nI_add, nI_1, nI_inc]) (by omega) (by omega) ?_
    refine V_goto F 47 dX0_keep_17 (by decide) ?_
    exact V_vret F rfl dX0_keep_47 ⟨rfl, by simp [cutv, c4], rfl⟩
end BAG
def ordv (p q : Nat → Int64) : Int32 := if p 0 ≠ q 0 then cmp64 (p 0) (q 0) else if p 1 ≠ q 1 then cmp64 (p 1) (q 1) else cmp64 (p 2) (q 2)
theorem cmp64_0 (x y : Int64) : cmp64 x y = 0 ↔ x = y := by
  unfold cmp64
  by_cases h : x < y
  · rw [if_pos h]
    refine ⟨fun q => absurd q (by decide), fun q => ?_⟩
    subst q
    exact absurd h (by simp)
  · rw [if_neg h]
    by_cases h2 : x = y
    · simp [h2, nI_0]
    · simp [h2]
      decide
def isLst (G : GP) (M : Mem) (a ro : Nat) (r : Nat → Nat) (lst : Nat → Nat → Int64) (S : Nat) (mo se : Int32) : Prop :=
  M a = some (eO 2 [.ref ro, .int (nI S), .int mo, .int se]) ∧ (∃ g, M ro = some (eQ (gT G) 5 3 g) ∧ ∀ w, w < 3 → g w = some (r w)) ∧ ∀ w, w < 3 → M (r w) = some (eJ (gT G) 240 (fun k => lst k w))
def posl (lst : Nat → Nat → Int64) (q : Nat → Int64) : Nat → Nat
  | 0 => 0
  | k + 1 => if 0 < ordv (lst k) q then posl lst q k else k + 1
theorem posl_le (lst : Nat → Nat → Int64) (q : Nat → Int64) : ∀ k, posl lst q k ≤ k
  | 0 => Nat.le_refl _
  | k + 1 => by unfold posl; have := posl_le lst q k; split <;> omega
def lins (lst : Nat → Nat → Int64) (p S : Nat) (q : Nat → Int64) : Nat → Nat → Int64 := fun k w => if k = p then q w else if p < k ∧ k ≤ S then lst (k - 1) w else lst k w
def ent (lst : Nat → Nat → Int64) (S : Nat) (c : Qd) (i : Nat) : Bool × Nat × (Nat → Nat → Int64) :=
  if cRef c i = 0 then
    if 0 < posl lst (c i) S ∧ ordv (lst (posl lst (c i) S - 1)) (c i) = 0 then (true, S, lst)
    else if 240 ≤ S then (false, S, lst) else (true, S + 1, lins lst (posl lst (c i) S) S (c i))
  else (false, S, lst)
section LST
variable {G : GP} {M : Mem} {n : Option Nat} {a ro : Nat} {r : Nat → Nat} {lst : Nat → Nat → Int64} {S : Nat} {mo se : Int32} {b q : Nat} {c : Qd}
theorem c_X2_begin {x0 x1 x2 : Value} (h0 : M a = some (eO 2 [.ref ro, x0, x1, x2])) (m s : Int32) : Con G yX2_begin cX2_begin 3 none 0 0 0 [.ref a, .int m, .int s] M n (R1 none (mset M a (eO 2 [.ref ro, .int (nI 0), .int m, .int s])) n) := by
  refine Con.of (by decide +kernel) (Nat.le_of_ble_eq_true rfl) (fun X F hnm => ?_)
  show V G X 0 0 _ M _ 0 [some (.ref a), some (.int m), some (.int s)] []
  refine V_aload_n F dX2_begin_0 rfl ?_
  refine V_iconst F dX2_begin_1 ki_0 ?_
  refine V_put F fl_X2_16 dX2_begin_2 (by assumption) rfl rfl (Nat.le_of_ble_eq_true rfl) ?_
  refine V_aload_n F dX2_begin_5 rfl ?_
  refine V_iload_n F dX2_begin_6 rfl ?_
  refine V_put F fl_X2_20 dX2_begin_7 (mset_eq _ _ _) rfl rfl (Nat.le_of_ble_eq_true rfl) ?_
  refine V_aload_n F dX2_begin_10 rfl ?_
  refine V_iload_n F dX2_begin_11 rfl ?_
  refine V_put F fl_X2_23 dX2_begin_12 (mset_eq _ _ _) rfl rfl (Nat.le_of_ble_eq_true rfl) ?_
  rw [mset_mset, mset_mset]
  exact V_vret F rfl dX2_begin_15 ⟨rfl, rfl, rfl⟩
theorem c_X2_order (hl : isLst G M a ro r lst S mo se) (h0 : M b = some (eO 1 [.ref q])) (h1 : M q = some (eJ (gT G) 12 (fc c))) {j i : Nat} (hj : j < 240) (hi : i < 4) : Con G yX2_order cX2_order 6 (some .int) 1 0 0 [.ref a, .int (nI j), .ref b, .int (nI i)] M n (R1 (some (.int (ordv (lst j) (c i)))) M n) := by
  obtain ⟨l0, ⟨g, l1, l2⟩, l3⟩ := hl
  refine Con.of (by decide +kernel) (Nat.le_of_ble_eq_true rfl) (fun X F hnm => ?_)
  show V G X 0 0 _ M _ 0 [some (.ref a), some (.int (nI j)), some (.ref b), some (.int (nI i)), none, none] []
  have step : ∀ w : Nat, w < 3 → (lst j w = c i w → V G X 0 0 (BQ G X (R1 (some (.int (ordv (lst j) (c i)))) M n) 0 0) M n 3 [some (.ref a), some (.int (nI j)), some (.ref b), some (.int (nI i)), some (.int (nI (w + 1))), none] []) → (lst j w ≠ c i w → ordv (lst j) (c i) = cmp64 (lst j w) (c i w)) → V G X 0 0 (BQ G X (R1 (some (.int (ordv (lst j) (c i)))) M n) 0 0) M n 3 [some (.ref a), some (.int (nI j)), some (.ref b), some (.int (nI i)), some (.int (nI w)), none] [] := by
    intro w hw kk kf
    refine V_iload F dX2_order_3 rfl ?_
    refine V_iconst F dX2_order_5 ki_2 ?_
    refine V_icmp_gt F 44 dX2_order_6 (by decide) (fun c6 => absurd c6 (nI_nlt (by omega) (by omega))) (fun c6 => ?_)
    refine V_aload_n F dX2_order_9 rfl ?_
    refine V_get F fl_X2_11 dX2_order_10 (by assumption) rfl ?_
    refine V_iload F dX2_order_13 rfl ?_
    refine V_aaldN F 5 dX2_order_15 (by assumption) rfl rfl _ (by first | rfl | simp only [pk_mul, nI_add, nI_1, nI_inc]) (by omega) (by omega) (l2 w hw) ?_
    refine V_iload_n F dX2_order_16 rfl ?_
    refine V_laldN F dX2_order_17 (l3 w hw) _ (by first | rfl | simp only [pk_mul, nI_add, nI_1, nI_inc]) (by omega) (by omega) ?_
    refine V_aload_n F dX2_order_18 rfl ?_
    refine V_iload_n F dX2_order_19 rfl ?_
    refine V_iload F dX2_order_20 rfl ?_
    refine V_ivR F iv_X2_42 dX2_order_22 (As := [_, _]) (c_X1_told h0 h1 hi hw) (by assumption) rfl rfl rfl rfl ?_
    refine V_isR F is_X2_46 dX2_order_25 (As := [_, _]) (c_J13_compare_74951 _ _) rfl rfl rfl ?_
    refine V_istore F dX2_order_28 (Nat.le_of_ble_eq_true rfl) ?_
    show V _ _ _ _ _ _ _ _ [_, _, _, _, _, _] _
    refine V_iload F dX2_order_30 rfl ?_
    refine V_if_eq F 38 dX2_order_32 (by decide) (fun c32 => ?_) (fun c32 => ?_)
    · rw [cmp64_0] at c32
      refine V_iinc1 F dX2_order_38 rfl ?_
      show V _ _ _ _ _ _ _ _ [_, _, _, _, _, _] _
      refine V_goto F 3 dX2_order_41 (by decide) ?_
      exact V_drop 5 (kk c32)
    · rw [cmp64_0] at c32
      refine V_iload F dX2_order_35 rfl ?_
      exact V_iret F rfl dX2_order_37 rfl ⟨by rw [kf c32], rfl, rfl⟩
  refine V_iconst F dX2_order_0 ki_0 ?_
  refine V_istore F dX2_order_1 (Nat.le_of_ble_eq_true rfl) ?_
  show V _ _ _ _ _ _ _ _ [_, _, _, _, _, _] _
  refine step 0 (by omega) (fun q0 => step 1 (by omega) (fun q1 => step 2 (by omega) (fun q2 => ?_) ?_) ?_) ?_
  · refine V_iload F dX2_order_3 rfl ?_
    refine V_iconst F dX2_order_5 ki_2 ?_
    refine V_icmp_gt F 44 dX2_order_6 (by decide) (fun c6 => ?_) (fun c6 => absurd (by decide) c6)
    refine V_iconst F dX2_order_44 ki_0 ?_
    exact V_iret F rfl dX2_order_45 rfl ⟨by simp [ordv, q0, q1, (cmp64_0 _ _).mpr q2, nI_0], rfl, rfl⟩
  · intro z; simp [ordv, q0, q1]
  · intro z; simp [ordv, q0, z]
  · intro z; simp [ordv, z]
end LST
end
section
def elen : Option va_E → Nat
  | some (.inl x) => x.2.1
  | _ => 0
def ekd : Option va_E → Nat
  | some (.inl (_, _, .inl _)) => 1
  | some (.inl (_, _, .inr (.inl _))) => 2
  | some (.inl _) => 3
  | _ => 0
def sbit (se : Int32) (k : Nat) : Bool := ((se >>> (nI k &&& 31)) &&& nI 1) == nI 1
def adv (lst : Nat → Nat → Int64) (S wh : Nat) : Nat → Nat → Nat
  | 0, p => p
  | m + 1, p => if p < S ∧ lst p 0 < lN wh then adv lst S wh m (p + 1) else p
theorem adv_le (lst : Nat → Nat → Int64) (S wh : Nat) : ∀ m p, p ≤ S → adv lst S wh m p ≤ S
  | 0, p, h => h
  | m + 1, p, h => by
    unfold adv
    split
    · exact adv_le lst S wh m (p + 1) (by omega)
    · exact h
def lis (lst : Nat → Nat → Int64) (S wh p : Nat) : Bool := decide (p < S) && lst p 0 == lN wh
def bl (lst : Nat → Nat → Int64) (S : Nat) (se : Int32) (ii : Nat) : Nat → Nat → Nat → Nat → Int32
  | 0, _, _, _ => -3
  | m + 1, wh, ps, p => if lis lst S wh (adv lst S wh (S - p) p) = false ∧ sbit se (wh % 24) = true then (if ps = ii then nI wh else bl lst S se ii m (wh + 1) (ps + 1) (adv lst S wh (S - p) p)) else bl lst S se ii m (wh + 1) ps (adv lst S wh (S - p) p)
section LST2
variable {G : GP} {M : Mem} {n : Option Nat} {a ro : Nat} {r : Nat → Nat} {lst : Nat → Nat → Int64} {S : Nat} {mo se : Int32} {b q : Nat} {c : Qd}
theorem c_X2_enter (hl : isLst G M a ro r lst S mo se) (hS : S ≤ 240) (hr : ∀ w v, w < 3 → v < 3 → r w = r v → w = v) (h0 : M b = some (eO 1 [.ref q])) (h1 : M q = some (eJ (gT G) 12 (fc c))) {i : Nat} (hi : i < 4) : Con G yX2_enter cX2_enter 5 (some .boolean) 3 0 0 [.ref a, .ref b, .int (nI i)] M none (fun v M' n' => v = some (.int (bI (ent lst S c i).1)) ∧ isLst G M' a ro r (ent lst S c i).2.2 (ent lst S c i).2.1 mo se ∧ (∀ z, z ≠ a → (∀ w, w < 3 → z ≠ r w) → M' z = M z) ∧ n' = none) := by
  have hl0 := hl
  obtain ⟨l0, ⟨g, l1, l2⟩, l3⟩ := hl
  generalize hE : ent lst S c i = E
  unfold ent at hE
  refine Con.of (by decide +kernel) (Nat.le_of_ble_eq_true rfl) (fun X F hnm => ?_)
  show V G X 0 0 _ M _ 0 [some (.ref a), some (.ref b), some (.int (nI i)), none, none] []
  generalize hQ : BQ G X _ 0 0 = Q
  refine V_aload_n F dX2_enter_0 rfl ?_
  refine V_iload_n F dX2_enter_1 rfl ?_
  refine V_ivR F iv_X2_26 dX2_enter_2 (As := [_]) (c_X1_refusalOfCoin h0 h1 hi) (by assumption) rfl rfl rfl rfl ?_
  refine V_if_eq F 10 dX2_enter_5 (by decide) (fun c5 => ?_) (fun c5 => ?_)
  case refine_2 =>
    rw [if_neg c5] at hE
    subst hE hQ
    refine V_iconst F dX2_enter_8 ki_0 ?_
    exact V_iret F rfl dX2_enter_9 rfl ⟨rfl, hl0, fun _ _ _ => rfl, rfl⟩
  rw [if_pos c5] at hE
  have p0 := posl_le lst (c i) S
  generalize hp : posl lst (c i) S = p at hE p0
  have mid : V G X 0 0 Q M none 37 [some (.ref a), some (.ref b), some (.int (nI i)), some (.int (nI p)), none] [] := by
    have late : ¬ (0 < p ∧ ordv (lst (p - 1)) (c i) = 0) → V G X 0 0 Q M none 55 [some (.ref a), some (.ref b), some (.int (nI i)), some (.int (nI p)), none] [] := by
      intro hno
      rw [if_neg hno] at hE
      refine V_aload_n F dX2_enter_55 rfl ?_
      refine V_get F fl_X2_16 dX2_enter_56 (by assumption) rfl ?_
      refine V_sipush F dX2_enter_59 ks_240 ?_
      refine V_icmp_lt F 67 dX2_enter_62 (by decide) (fun c62 => ?_) (fun c62 => ?_)
      · have c62 := (nI_ltI (by omega) (by omega)).mp c62
        rw [if_neg (show ¬ 240 ≤ S by omega)] at hE
        have hra : ∀ w, w < 3 → a ≠ r w := fun w hw => ne_oj l0 (l3 w hw)
        have hrb : ∀ w, w < 3 → b ≠ r w := fun w hw => ne_oj h0 (l3 w hw)
        have hro : ∀ w, w < 3 → ro ≠ r w := fun w hw e => by
          have := l3 w hw
          rw [← e, l1] at this
          exact absurd (show (3 : Nat) = 240 from congrArg elen this) (by decide)
        have hrq : ∀ w, w < 3 → q ≠ r w := fun w hw e => by
          have := l3 w hw
          rw [← e, h1] at this
          cases this
        have step : ∀ (w : Nat) (M' : Mem), w < 3 → M' a = M a → M' ro = M ro → M' b = M b → M' q = M q → M' (r w) = M (r w) → V G X 0 0 Q (mset M' (r w) (eJ (gT G) 240 (fun k => lins lst p S (c i) k w))) none 70 [some (.ref a), some (.ref b), some (.int (nI i)), some (.int (nI p)), some (.int (nI (w + 1)))] [] → V G X 0 0 Q M' none 70 [some (.ref a), some (.ref b), some (.int (nI i)), some (.int (nI p)), some (.int (nI w))] [] := by
          intro w M' hw e1 e2 e3 e4 e5 kk
          have l0' := e1.trans l0
          have l1' := e2.trans l1
          have l3' := e5.trans (l3 w hw)
          refine V_iload F dX2_enter_70 rfl ?_
          refine V_iconst F dX2_enter_72 ki_2 ?_
          refine V_icmp_gt F 125 dX2_enter_73 (by decide) (fun c73 => absurd c73 (nI_nlt (by omega) (by omega))) (fun c73 => ?_)
          refine V_aload_n F dX2_enter_76 rfl ?_
          refine V_get F fl_X2_11 dX2_enter_77 (by assumption) rfl ?_
          refine V_iload F dX2_enter_80 rfl ?_
          refine V_aaldN F 5 dX2_enter_82 (by assumption) rfl rfl _ (by first | rfl | simp only [pk_mul, nI_add, nI_1, nI_inc]) (by omega) (by omega) (l2 w hw) ?_
          refine V_iload_n F dX2_enter_83 rfl ?_
          refine V_aload_n F dX2_enter_84 rfl ?_
          refine V_get F fl_X2_11 dX2_enter_85 (by assumption) rfl ?_
          refine V_iload F dX2_enter_88 rfl ?_
          refine V_aaldN F 5 dX2_enter_90 (by assumption) rfl rfl _ (by first | rfl | simp only [pk_mul, nI_add, nI_1, nI_inc]) (by omega) (by omega) (l2 w hw) ?_
          refine V_iload_n F dX2_enter_91 rfl ?_
          refine V_iconst F dX2_enter_92 ki_1 ?_
          refine V_iadd F dX2_enter_93 ?_
          refine V_aload_n F dX2_enter_94 rfl ?_
          refine V_get F fl_X2_16 dX2_enter_95 (by assumption) rfl ?_
          refine V_iload_n F dX2_enter_98 rfl ?_
          refine V_isub F dX2_enter_99 ?_
          rw [nI_add, pk_sub p0]
          refine V_acopy F ac_X2_36 dX2_enter_100 l3' l3' p (p + 1) (S - p) rfl rfl rfl (by omega) (by omega) (by omega) (by omega) (by decide) (Nat.le_of_ble_eq_true rfl) ?_
          refine V_aload_n F dX2_enter_103 rfl ?_
          refine V_get F fl_X2_11 dX2_enter_104 ((mset_ne _ _ (hra w hw)).trans l0') rfl ?_
          refine V_iload F dX2_enter_107 rfl ?_
          refine V_aaldN F 5 dX2_enter_109 ((mset_ne _ _ (hro w hw)).trans l1') rfl rfl _ (by first | rfl | simp only [pk_mul, nI_add, nI_1, nI_inc]) (by omega) (by omega) (l2 w hw) ?_
          refine V_iload_n F dX2_enter_110 rfl ?_
          refine V_aload_n F dX2_enter_111 rfl ?_
          refine V_iload_n F dX2_enter_112 rfl ?_
          refine V_iload F dX2_enter_113 rfl ?_
          refine V_ivR F iv_X2_42 dX2_enter_115 (As := [_, _]) (c_X1_told ((mset_ne _ _ (hrb w hw)).trans (e3.trans h0)) ((mset_ne _ _ (hrq w hw)).trans (e4.trans h1)) hi hw) ((mset_ne _ _ (hrb w hw)).trans (e3.trans h0)) rfl rfl rfl rfl ?_
          refine V_lastN F dX2_enter_118 (mset_eq _ _ _) _ (by first | rfl | simp only [pk_mul, nI_add, nI_1, nI_inc]) (by omega) (by omega) ?_
          rw [mset_mset]
          refine V_mem (fun H hm => mem_J (g := fun k => lins lst p S (c i) k w) ?_ hm) ?_
          · intro k hk
            unfold va_up va_cpy lins
            by_cases q1 : k = p
            · rw [if_pos q1, if_pos q1]
            · rw [if_neg q1, if_neg q1]
              by_cases q2 : p < k ∧ k ≤ S
              · rw [if_pos (by omega), if_pos q2, show p + (k - (p + 1)) = k - 1 by omega]
              · rw [if_neg (by omega), if_neg q2]
          refine V_iinc1 F dX2_enter_119 rfl ?_
          show V _ _ _ _ _ _ _ _ [_, _, _, _, _] _
          refine V_goto F 70 dX2_enter_122 (by decide) ?_
          exact kk
        refine V_iconst F dX2_enter_67 ki_0 ?_
        refine V_istore F dX2_enter_68 (Nat.le_of_ble_eq_true rfl) ?_
        show V _ _ _ _ _ _ _ _ [_, _, _, _, _] _
        have d01 : r 1 ≠ r 0 := fun e => by have := hr 1 0 (by omega) (by omega) e; omega
        have d02 : r 2 ≠ r 0 := fun e => by have := hr 2 0 (by omega) (by omega) e; omega
        have d12 : r 2 ≠ r 1 := fun e => by have := hr 2 1 (by omega) (by omega) e; omega
        refine step 0 M (by omega) rfl rfl rfl rfl rfl (step 1 _ (by omega) (mset_ne _ _ (hra 0 (by omega))) (mset_ne _ _ (hro 0 (by omega))) (mset_ne _ _ (hrb 0 (by omega))) (mset_ne _ _ (hrq 0 (by omega))) (mset_ne _ _ d01) (step 2 _ (by omega) ((mset_ne _ _ (hra 1 (by omega))).trans (mset_ne _ _ (hra 0 (by omega)))) ((mset_ne _ _ (hro 1 (by omega))).trans (mset_ne _ _ (hro 0 (by omega)))) ((mset_ne _ _ (hrb 1 (by omega))).trans (mset_ne _ _ (hrb 0 (by omega)))) ((mset_ne _ _ (hrq 1 (by omega))).trans (mset_ne _ _ (hrq 0 (by omega)))) ((mset_ne _ _ d12).trans (mset_ne _ _ d02)) ?_))
        have la : mset (mset (mset M (r 0) (eJ (gT G) 240 (fun k => lins lst p S (c i) k 0))) (r 1) (eJ (gT G) 240 (fun k => lins lst p S (c i) k 1))) (r 2) (eJ (gT G) 240 (fun k => lins lst p S (c i) k 2)) a = some (eO 2 [.ref ro, .int (nI S), .int mo, .int se]) := by
          rw [mset_ne _ _ (hra 2 (by omega)), mset_ne _ _ (hra 1 (by omega)), mset_ne _ _ (hra 0 (by omega))]
          exact l0
        refine V_iload F dX2_enter_70 rfl ?_
        refine V_iconst F dX2_enter_72 ki_2 ?_
        refine V_icmp_gt F 125 dX2_enter_73 (by decide) (fun c73 => ?_) (fun c73 => absurd (by decide) c73)
        refine V_aload_n F dX2_enter_125 rfl ?_
        refine V_dup F dX2_enter_126 rfl ?_
        refine V_get F fl_X2_16 dX2_enter_127 (by assumption) rfl ?_
        refine V_iconst F dX2_enter_130 ki_1 ?_
        refine V_iadd F dX2_enter_131 ?_
        rw [nI_add]
        subst hE hQ
        refine V_put F fl_X2_16 dX2_enter_132 (by assumption) rfl rfl (Nat.le_of_ble_eq_true rfl) ?_
        refine V_iconst F dX2_enter_135 ki_1 ?_
        refine V_iret F rfl dX2_enter_136 rfl ⟨rfl, ?fin, ?frame, rfl⟩
        case fin =>
          refine ⟨mset_eq _ _ _, ⟨g, ?_, l2⟩, fun w hw => ?_⟩
          · rw [mset_ne _ _ (fun e => by rw [e, l0] at l1; cases l1), mset_ne _ _ (hro 2 (by omega)), mset_ne _ _ (hro 1 (by omega)), mset_ne _ _ (hro 0 (by omega))]
            exact l1
          · rw [mset_ne _ _ (hra w hw).symm]
            match w, hw with
            | 0, _ => rw [mset_ne _ _ d02.symm, mset_ne _ _ d01.symm, mset_eq]
            | 1, _ => rw [mset_ne _ _ d12.symm, mset_eq]
            | 2, _ => rw [mset_eq]
        case frame =>
          intro z z1 z2
          rw [mset_ne _ _ z1, mset_ne _ _ (z2 2 (by omega)), mset_ne _ _ (z2 1 (by omega)), mset_ne _ _ (z2 0 (by omega))]
      · have c62 : ¬ S < 240 := fun z => c62 ((nI_ltI (a := S) (b := 240) (by omega) (by omega)).mpr z)
        rw [if_pos (show 240 ≤ S by omega)] at hE
        subst hE hQ
        refine V_iconst F dX2_enter_65 ki_0 ?_
        exact V_iret F rfl dX2_enter_66 rfl ⟨rfl, hl0, fun _ _ _ => rfl, rfl⟩
    refine V_iload_n F dX2_enter_37 rfl ?_
    refine V_if_le F 55 dX2_enter_38 (by decide) (fun c38 => ?_) (fun c38 => ?_)
    · have c38 : p = 0 := by
        rcases Nat.eq_zero_or_pos p with z | z
        · exact z
        · exact absurd c38 (nI_nle z (by omega))
      exact late (fun z => by omega)
    · have c38 : 0 < p := by
        rcases Nat.eq_zero_or_pos p with z | z
        · subst z; exact absurd (by decide) c38
        · exact z
      refine V_aload_n F dX2_enter_41 rfl ?_
      refine V_iload_n F dX2_enter_42 rfl ?_
      refine V_iconst F dX2_enter_43 ki_1 ?_
      refine V_isub F dX2_enter_44 ?_
      refine V_aload_n F dX2_enter_45 rfl ?_
      refine V_iload_n F dX2_enter_46 rfl ?_
      rw [pk_sub (by omega)]
      refine V_ivR F iv_X2_32 dX2_enter_47 (As := [_, _, _]) (c_X2_order hl0 h0 h1 (j := p - 1) (by omega) hi) (by assumption) rfl rfl rfl rfl ?_
      refine V_if_ne F 55 dX2_enter_50 (by decide) (fun c50 => ?_) (fun c50 => ?_)
      · exact late (fun z => c50 z.2)
      · rw [if_pos ⟨c38, c50⟩] at hE
        subst hE hQ
        refine V_iconst F dX2_enter_53 ki_1 ?_
        exact V_iret F rfl dX2_enter_54 rfl ⟨rfl, hl0, fun _ _ _ => rfl, rfl⟩
  have loop : ∀ k : Nat, k ≤ S → posl lst (c i) k = p → V G X 0 0 Q M none 15 [some (.ref a), some (.ref b), some (.int (nI i)), some (.int (nI k)), none] [] := by
    intro k
    induction k with
    | zero =>
      intro hk hp
      have hp : p = 0 := hp.symm
      subst hp
      refine V_iload_n F dX2_enter_15 rfl ?_
      refine V_if_le F 37 dX2_enter_16 (by decide) (fun c16 => ?_) (fun c16 => absurd (by decide) c16)
      exact mid
    | succ k ih =>
      intro hk hp
      unfold posl at hp
      refine V_iload_n F dX2_enter_15 rfl ?_
      refine V_if_le F 37 dX2_enter_16 (by decide) (fun c16 => absurd c16 (nI_nle (by omega) (by omega))) (fun c16 => ?_)
      refine V_aload_n F dX2_enter_19 rfl ?_
      refine V_iload_n F dX2_enter_20 rfl ?_
      refine V_iconst F dX2_enter_21 ki_1 ?_
      refine V_isub F dX2_enter_22 ?_
      refine V_aload_n F dX2_enter_23 rfl ?_
      refine V_iload_n F dX2_enter_24 rfl ?_
      rw [pk_sub (by omega), Nat.add_sub_cancel]
      refine V_ivR F iv_X2_32 dX2_enter_25 (As := [_, _, _]) (c_X2_order hl0 h0 h1 (j := k) (by omega) hi) (by assumption) rfl rfl rfl rfl ?_
      refine V_if_le F 37 dX2_enter_28 (by decide) (fun c28 => ?_) (fun c28 => ?_)
      · rw [if_neg (by rw [Int32.not_lt]; exact c28)] at hp
        subst hp
        exact mid
      · rw [if_pos (Int32.not_le.mp c28)] at hp
        refine V_iincm F dX2_enter_31 rfl ?_
        show V _ _ _ _ _ _ _ _ [_, _, _, _, _] _
        refine V_goto F 15 dX2_enter_34 (by decide) ?_
        exact ih (by omega) hp
  refine V_aload_n F dX2_enter_10 rfl ?_
  refine V_get F fl_X2_16 dX2_enter_11 (by assumption) rfl ?_
  refine V_istore_n F dX2_enter_14 (Nat.le_of_ble_eq_true rfl) ?_
  show V _ _ _ _ _ _ _ _ [_, _, _, _, _] _
  exact loop S (Nat.le_refl _) hp
theorem c_X2_bendLeft {m0 : Nat} (hl : isLst G M a ro r lst S (nI m0) se) (hS : S ≤ 240) (hm : m0 ≤ 2000) {ii : Nat} (hi : ii < 2 ^ 31) : Con G yX2_bendLeft cX2_bendLeft 6 (some .int) 0 0 0 [.ref a, .int (nI ii)] M n (R1 (some (.int (bl lst S se ii m0 1 0 0))) M n) := by
  obtain ⟨l0, ⟨g, l1, l2⟩, l3⟩ := hl
  generalize hR : bl lst S se ii m0 1 0 0 = res
  refine Con.of (by decide +kernel) (Nat.le_of_ble_eq_true rfl) (fun X F hnm => ?_)
  show V G X 0 0 _ M _ 0 [some (.ref a), some (.int (nI ii)), none, none, none, none] []
  generalize hQ : BQ G X _ 0 0 = Q
  have scan : ∀ (m p wh ps : Nat), m = S - p → p ≤ S → wh < 2 ^ 31 → V G X 0 0 Q M n 45 [some (.ref a), some (.int (nI ii)), some (.int (nI ps)), some (.int (nI (adv lst S wh m p))), some (.int (nI wh)), none] [] → V G X 0 0 Q M n 16 [some (.ref a), some (.int (nI ii)), some (.int (nI ps)), some (.int (nI p)), some (.int (nI wh)), none] [] := by
    intro m
    induction m with
    | zero =>
      intro p wh ps hm hp hw kk
      refine V_iload_n F dX2_bendLeft_16 rfl ?_
      refine V_aload_n F dX2_bendLeft_17 rfl ?_
      refine V_get F fl_X2_16 dX2_bendLeft_18 (by assumption) rfl ?_
      refine V_icmp_ge F 45 dX2_bendLeft_21 (by decide) (fun c21 => ?_) (fun c21 => absurd (nI_le (by omega) (by omega)) c21)
      exact kk
    | succ m ih =>
      intro p wh ps hm hp hw kk
      unfold adv at kk
      refine V_iload_n F dX2_bendLeft_16 rfl ?_
      refine V_aload_n F dX2_bendLeft_17 rfl ?_
      refine V_get F fl_X2_16 dX2_bendLeft_18 (by assumption) rfl ?_
      refine V_icmp_ge F 45 dX2_bendLeft_21 (by decide) (fun c21 => absurd c21 (nI_ge (by omega) (by omega))) (fun c21 => ?_)
      refine V_aload_n F dX2_bendLeft_24 rfl ?_
      refine V_get F fl_X2_11 dX2_bendLeft_25 (by assumption) rfl ?_
      refine V_iconst F dX2_bendLeft_28 ki_0 ?_
      refine V_aaldN F 5 dX2_bendLeft_29 (by assumption) rfl rfl _ (by first | rfl | simp only [pk_mul, nI_add, nI_1, nI_inc]) (by omega) (by omega) (l2 0 (by omega)) ?_
      refine V_iload_n F dX2_bendLeft_30 rfl ?_
      refine V_laldN F dX2_bendLeft_31 (l3 0 (by omega)) _ (by first | rfl | simp only [pk_mul, nI_add, nI_1, nI_inc]) (by omega) (by omega) ?_
      refine V_iload F dX2_bendLeft_32 rfl ?_
      refine V_i2l F dX2_bendLeft_34 ?_
      rw [nI_l hw]
      refine V_lcmp F dX2_bendLeft_35 ?_
      refine V_if_ge F 45 dX2_bendLeft_36 (by decide) (fun c36 => ?_) (fun c36 => ?_)
      · rw [lcmp_ge] at c36
        rw [if_neg (fun z => absurd z.2 (by rw [Int64.not_lt]; exact c36))] at kk
        exact kk
      · rw [lcmp_ge] at c36
        rw [if_pos ⟨by omega, Int64.not_le.mp c36⟩] at kk
        refine V_iinc1 F dX2_bendLeft_39 rfl ?_
        show V _ _ _ _ _ _ _ _ [_, _, _, _, _, _] _
        refine V_goto F 16 dX2_bendLeft_42 (by decide) ?_
        exact ih (p + 1) wh ps (by omega) (by omega) hw kk
  have loop : ∀ (m wh ps p : Nat), m + wh = m0 + 1 → ps < wh → p ≤ S → bl lst S se ii m wh ps p = res → V G X 0 0 Q M n 7 [some (.ref a), some (.int (nI ii)), some (.int (nI ps)), some (.int (nI p)), some (.int (nI wh)), none] [] := by
    intro m
    induction m with
    | zero =>
      intro wh ps p hm1 hps hp hE
      subst hQ
      refine V_iload F dX2_bendLeft_7 rfl ?_
      refine V_aload_n F dX2_bendLeft_9 rfl ?_
      refine V_get F fl_X2_20 dX2_bendLeft_10 (by assumption) rfl ?_
      refine V_icmp_gt F 113 dX2_bendLeft_13 (by decide) (fun c13 => ?_) (fun c13 => absurd (nI_lt (by omega) (by omega)) c13)
      refine V_bipush F dX2_bendLeft_113 kb_m3 ?_
      exact V_iret F rfl dX2_bendLeft_115 rfl ⟨by rw [← hE]; rfl, rfl, rfl⟩
    | succ m ih =>
      intro wh ps p hm1 hps hp hE
      refine V_iload F dX2_bendLeft_7 rfl ?_
      refine V_aload_n F dX2_bendLeft_9 rfl ?_
      refine V_get F fl_X2_20 dX2_bendLeft_10 (by assumption) rfl ?_
      refine V_icmp_gt F 113 dX2_bendLeft_13 (by decide) (fun c13 => absurd c13 (nI_nlt (by omega) (by omega))) (fun c13 => ?_)
      refine scan (S - p) p wh ps rfl hp (by omega) ?_
      have ha := adv_le lst S wh (S - p) p hp
      unfold bl at hE
      generalize adv lst S wh (S - p) p = p' at ha hE ⊢
      have last : V G X 0 0 Q M n 73 [some (.ref a), some (.int (nI ii)), some (.int (nI ps)), some (.int (nI p')), some (.int (nI wh)), none] [.int (bI (lis lst S wh p'))] := by
        refine V_istore F dX2_bendLeft_73 (Nat.le_of_ble_eq_true rfl) ?_
        show V _ _ _ _ _ _ _ _ [_, _, _, _, _, _] _
        refine V_iload F dX2_bendLeft_75 rfl ?_
        refine V_if_ne F 107 dX2_bendLeft_77 (by decide) (fun c77 => ?_) (fun c77 => ?_)
        · rw [bI_n] at c77
          rw [if_neg (fun z => by rw [c77] at z; cases z.1)] at hE
          refine V_iinc1 F dX2_bendLeft_107 rfl ?_
          show V _ _ _ _ _ _ _ _ [_, _, _, _, _, _] _
          refine V_goto F 7 dX2_bendLeft_110 (by decide) ?_
          exact V_drop 5 (ih (wh + 1) ps p' (by omega) (by omega) ha hE)
        · rw [bI_0] at c77
          refine V_aload_n F dX2_bendLeft_80 rfl ?_
          refine V_get F fl_X2_23 dX2_bendLeft_81 (by assumption) rfl ?_
          refine V_iload F dX2_bendLeft_84 rfl ?_
          refine V_bipush F dX2_bendLeft_86 kb_24 ?_
          refine V_irem F dX2_bendLeft_88 (by decide) ?_
          rw [pk_rem (by omega) (by omega) (by omega)]
          refine V_ishr F dX2_bendLeft_89 ?_
          refine V_iconst F dX2_bendLeft_90 ki_1 ?_
          refine V_iand F dX2_bendLeft_91 ?_
          refine V_iconst F dX2_bendLeft_92 ki_1 ?_
          refine V_icmp_ne F 107 dX2_bendLeft_93 (by decide) (fun c93 => ?_) (fun c93 => ?_)
          · rw [if_neg (fun z => c93 (by have := z.2; unfold sbit at this; simpa using this))] at hE
            refine V_iinc1 F dX2_bendLeft_107 rfl ?_
            show V _ _ _ _ _ _ _ _ [_, _, _, _, _, _] _
            refine V_goto F 7 dX2_bendLeft_110 (by decide) ?_
            exact V_drop 5 (ih (wh + 1) ps p' (by omega) (by omega) ha hE)
          · rw [if_pos ⟨c77, by unfold sbit; simpa using c93⟩] at hE
            refine V_iload_n F dX2_bendLeft_96 rfl ?_
            refine V_iload_n F dX2_bendLeft_97 rfl ?_
            refine V_icmp_ne F 104 dX2_bendLeft_98 (by decide) (fun c98 => ?_) (fun c98 => ?_)
            · rw [nI_eq (by omega) hi] at c98
              rw [if_neg c98] at hE
              refine V_iinc1 F dX2_bendLeft_104 rfl ?_
              show V _ _ _ _ _ _ _ _ [_, _, _, _, _, _] _
              refine V_iinc1 F dX2_bendLeft_107 rfl ?_
              show V _ _ _ _ _ _ _ _ [_, _, _, _, _, _] _
              refine V_goto F 7 dX2_bendLeft_110 (by decide) ?_
              exact V_drop 5 (ih (wh + 1) (ps + 1) p' (by omega) (by omega) ha hE)
            · rw [nI_eq (by omega) hi] at c98
              rw [if_pos c98] at hE
              subst hQ
              refine V_iload F dX2_bendLeft_101 rfl ?_
              exact V_iret F rfl dX2_bendLeft_103 rfl ⟨by rw [← hE], rfl, rfl⟩
      refine V_iload_n F dX2_bendLeft_45 rfl ?_
      refine V_aload_n F dX2_bendLeft_46 rfl ?_
      refine V_get F fl_X2_16 dX2_bendLeft_47 (by assumption) rfl ?_
      refine V_icmp_ge F 72 dX2_bendLeft_50 (by decide) (fun c50 => ?_) (fun c50 => ?_)
      · have c50 : ¬ p' < S := fun z => absurd c50 (nI_ge z (by omega))
        have hf : lis lst S wh p' = false := by unfold lis; simp only [Bool.and_eq_false_iff]; exact Or.inl (decide_eq_false c50)
        rw [hf] at last
        refine V_iconst F dX2_bendLeft_72 ki_0 ?_
        exact last
      · have c50 : p' < S := Nat.lt_of_not_le (fun z => c50 (nI_le z (by omega)))
        refine V_aload_n F dX2_bendLeft_53 rfl ?_
        refine V_get F fl_X2_11 dX2_bendLeft_54 (by assumption) rfl ?_
        refine V_iconst F dX2_bendLeft_57 ki_0 ?_
        refine V_aaldN F 5 dX2_bendLeft_58 (by assumption) rfl rfl _ (by first | rfl | simp only [pk_mul, nI_add, nI_1, nI_inc]) (by omega) (by omega) (l2 0 (by omega)) ?_
        refine V_iload_n F dX2_bendLeft_59 rfl ?_
        refine V_laldN F dX2_bendLeft_60 (l3 0 (by omega)) _ (by first | rfl | simp only [pk_mul, nI_add, nI_1, nI_inc]) (by omega) (by omega) ?_
        refine V_iload F dX2_bendLeft_61 rfl ?_
        refine V_i2l F dX2_bendLeft_63 ?_
        rw [nI_l (by omega)]
        refine V_lcmp F dX2_bendLeft_64 ?_
        refine V_if_ne F 72 dX2_bendLeft_65 (by decide) (fun c65 => ?_) (fun c65 => ?_)
        · rw [lcmp_eq] at c65
          have hf : lis lst S wh p' = false := by unfold lis; simp only [Bool.and_eq_false_iff]; exact Or.inr (by simpa using c65)
          rw [hf] at last
          refine V_iconst F dX2_bendLeft_72 ki_0 ?_
          exact last
        · rw [lcmp_eq] at c65
          have hf : lis lst S wh p' = true := by unfold lis; simp only [Bool.and_eq_true]; exact ⟨decide_eq_true c50, by simpa using c65⟩
          rw [hf] at last
          refine V_iconst F dX2_bendLeft_68 ki_1 ?_
          refine V_goto F 73 dX2_bendLeft_69 (by decide) ?_
          exact last
  refine V_iconst F dX2_bendLeft_0 ki_0 ?_
  refine V_istore_n F dX2_bendLeft_1 (Nat.le_of_ble_eq_true rfl) ?_
  show V _ _ _ _ _ _ _ _ [_, _, _, _, _, _] _
  refine V_iconst F dX2_bendLeft_2 ki_0 ?_
  refine V_istore_n F dX2_bendLeft_3 (Nat.le_of_ble_eq_true rfl) ?_
  show V _ _ _ _ _ _ _ _ [_, _, _, _, _, _] _
  refine V_iconst F dX2_bendLeft_4 ki_1 ?_
  refine V_istore F dX2_bendLeft_5 (Nat.le_of_ble_eq_true rfl) ?_
  show V _ _ _ _ _ _ _ _ [_, _, _, _, _, _] _
  exact loop m0 1 0 0 (by omega) (by omega) (by omega) hR
end LST2
end
section
def wtN (j : Nat) : Nat := if j = 0 then 1 else if j = 1 then 24 else if j = 2 then 576 else 13824
theorem wt_N : ∀ j, j < 4 → wt j = nI (wtN j) := by decide +kernel
theorem wtN_b : ∀ j, j < 4 → 0 < wtN j ∧ wtN j < 13825 := by decide +kernel
def dg (v i : Nat) : Nat := v / wtN i % 24
def nd (v i : Nat) : Nat := (2 * (dg v 0 + dg v 1 + dg v 2 + dg v 3) + 72 - 3 * dg v i) % 24
def swp (v i : Nat) : Nat := v - wtN i * dg v i + wtN i * nd v i
theorem dg_lt (v i : Nat) : dg v i < 24 := Nat.mod_lt _ (by omega)
theorem nd_lt (v i : Nat) : nd v i < 24 := Nat.mod_lt _ (by omega)
theorem fm_p : ∀ t, t < 185 → fmI (nI t) (nI 24) = nI (t % 24) := by decide +kernel
theorem fm_n : ∀ t, t < 70 → fmI (-nI t) (nI 24) = nI ((72 - t) % 24) := by decide +kernel
theorem nI_subn {a b : Nat} (h : a ≤ b) : nI a - nI b = -nI (b - a) := by
  rw [← pk_sub h, Int32.neg_sub]
theorem fm_sub {a b : Nat} (ha : a < 185) (hb : b < 70) : fmI (nI a - nI b) (nI 24) = nI ((a + 72 - b) % 24) := by
  by_cases h : b ≤ a
  · rw [pk_sub h, fm_p _ (by omega)]
    congr 1
    omega
  · rw [nI_subn (by omega), fm_n _ (by omega)]
    congr 1
    omega
theorem swp_lt {v i : Nat} (hi : i < 4) (hv : v < 331776) : swp v i < 331776 ∧ wtN i * dg v i ≤ v := by
  unfold swp
  have h1 := nd_lt v i
  unfold dg
  match i, hi with
  | 0, _ => simp only [wtN]; simp; omega
  | 1, _ => simp only [wtN]; simp; omega
  | 2, _ => simp only [wtN]; simp; omega
  | 3, _ => simp only [wtN]; simp; omega
theorem swp_I {v i : Nat} (hi : i < 4) (hv : v < 331776) : nI v + wt i * (nI (nd v i) - nI (dg v i)) = nI (swp v i) := by
  obtain ⟨h1, h2⟩ := swp_lt hi hv
  rw [wt_N i hi]
  have e : nI v = nI (v - wtN i * dg v i) + nI (wtN i) * nI (dg v i) := by rw [pk_mul, nI_add]; congr 1; omega
  rw [e, show swp v i = v - wtN i * dg v i + wtN i * nd v i from rfl, ← nI_add, ← pk_mul]
  generalize nI (v - wtN i * dg v i) = A
  generalize nI (wtN i) = B
  generalize nI (dg v i) = C
  generalize nI (nd v i) = D
  grind
def isRem (G : GP) (M : Mem) (a p : Nat) (l : List Nat) : Prop := M a = some (eO 5 [.ref p, .int (nI l.length)]) ∧ (∃ fo, M p = some (eI (gT G) 3840 fo) ∧ ∀ k v, l[k]? = some v → fo k = nI v) ∧ l.length ≤ 3840 ∧ ∀ v ∈ l, v < 331776
def ent1 (l : List Nat) (v : Nat) : List Nat := if v ∈ l then l else if l.length < 3840 then l ++ [v] else l
section REM
variable {G : GP} {M : Mem} {n : Option Nat} {a p : Nat} {l : List Nat}
theorem c_X5_digit {v i : Nat} (hv : v < 331776) (hi : i < 4) : Con G yX5_digit cX5_digit 2 (some .int) 0 0 0 [.int (nI v), .int (nI i)] M n (R1 (some (.int (nI (dg v i)))) M n) := by
  obtain ⟨w1, w2⟩ := wtN_b i hi
  refine Con.of (by decide +kernel) (Nat.le_of_ble_eq_true rfl) (fun X F hnm => ?_)
  show V G X 0 0 _ M _ 0 [some (.int (nI v)), some (.int (nI i))] []
  refine V_iload_n F dX5_digit_0 rfl ?_
  refine V_gets F dX5_digit_1 fs_X5_21 ?_
  refine V_iload_n F dX5_digit_4 rfl ?_
  refine V_taldN F dX5_digit_5 _ (by first | rfl | simp only [pk_mul, nI_add, nI_1, nI_inc]) (by omega) ?_
  rw [wt_N i hi]
  refine V_idiv F dX5_digit_6 (nI_ne0 w1 (by omega)) ?_
  rw [pk_div (by omega) w1 (by omega)]
  refine V_bipush F dX5_digit_7 kb_24 ?_
  refine V_irem F dX5_digit_9 (by decide) ?_
  rw [pk_rem (Nat.lt_of_le_of_lt (Nat.div_le_self _ _) (by omega)) (by omega) (by omega)]
  exact V_iret F rfl dX5_digit_10 rfl ⟨rfl, rfl, rfl⟩
theorem c_X5_swapped {v i : Nat} (hv : v < 331776) (hi : i < 4) : Con G yX5_swapped cX5_swapped 4 (some .int) 1 0 0 [.int (nI v), .int (nI i)] M n (R1 (some (.int (nI (swp v i)))) M n) := by
  have d0 := dg_lt v 0
  have d1 := dg_lt v 1
  have d2 := dg_lt v 2
  have d3 := dg_lt v 3
  have di := dg_lt v i
  refine Con.of (by decide +kernel) (Nat.le_of_ble_eq_true rfl) (fun X F hnm => ?_)
  show V G X 0 0 _ M _ 0 [some (.int (nI v)), some (.int (nI i)), none, none] []
  refine V_iload_n F dX5_swapped_0 rfl ?_
  refine V_iconst F dX5_swapped_1 ki_0 ?_
  refine V_isR F is_X5_40 dX5_swapped_2 (As := [_, _]) (c_X5_digit hv (i := 0) (by omega)) rfl rfl rfl ?_
  refine V_iload_n F dX5_swapped_5 rfl ?_
  refine V_iconst F dX5_swapped_6 ki_1 ?_
  refine V_isR F is_X5_40 dX5_swapped_7 (As := [_, _]) (c_X5_digit hv (i := 1) (by omega)) rfl rfl rfl ?_
  refine V_iadd F dX5_swapped_10 ?_
  refine V_iload_n F dX5_swapped_11 rfl ?_
  refine V_iconst F dX5_swapped_12 ki_2 ?_
  refine V_isR F is_X5_40 dX5_swapped_13 (As := [_, _]) (c_X5_digit hv (i := 2) (by omega)) rfl rfl rfl ?_
  refine V_iadd F dX5_swapped_16 ?_
  refine V_iload_n F dX5_swapped_17 rfl ?_
  refine V_iconst F dX5_swapped_18 ki_3 ?_
  refine V_isR F is_X5_40 dX5_swapped_19 (As := [_, _]) (c_X5_digit hv (i := 3) (by omega)) rfl rfl rfl ?_
  refine V_iadd F dX5_swapped_22 ?_
  rw [nI_add, nI_add, nI_add]
  refine V_istore_n F dX5_swapped_23 (Nat.le_of_ble_eq_true rfl) ?_
  show V _ _ _ _ _ _ _ _ [_, _, _, _] _
  refine V_iload_n F dX5_swapped_24 rfl ?_
  refine V_iload_n F dX5_swapped_25 rfl ?_
  refine V_isR F is_X5_40 dX5_swapped_26 (As := [_, _]) (c_X5_digit hv hi) rfl rfl rfl ?_
  refine V_istore_n F dX5_swapped_29 (Nat.le_of_ble_eq_true rfl) ?_
  show V _ _ _ _ _ _ _ _ [_, _, _, _] _
  refine V_iload_n F dX5_swapped_30 rfl ?_
  refine V_gets F dX5_swapped_31 fs_X5_21 ?_
  refine V_iload_n F dX5_swapped_34 rfl ?_
  refine V_taldN F dX5_swapped_35 _ (by first | rfl | simp only [pk_mul, nI_add, nI_1, nI_inc]) (by omega) ?_
  refine V_iconst F dX5_swapped_36 ki_2 ?_
  refine V_iload_n F dX5_swapped_37 rfl ?_
  refine V_imul F dX5_swapped_38 ?_
  refine V_iconst F dX5_swapped_39 ki_3 ?_
  refine V_iload_n F dX5_swapped_40 rfl ?_
  refine V_imul F dX5_swapped_41 ?_
  refine V_isub F dX5_swapped_42 ?_
  rw [pk_mul, pk_mul]
  refine V_bipush F dX5_swapped_43 kb_24 ?_
  refine V_isR F is_X5_47 dX5_swapped_45 (As := [_, _]) (c_J9_floorMod_7cf53 _ _ (by decide)) rfl rfl rfl ?_
  rw [fm_sub (by omega) (by omega)]
  refine V_iload_n F dX5_swapped_48 rfl ?_
  refine V_isub F dX5_swapped_49 ?_
  refine V_imul F dX5_swapped_50 ?_
  refine V_iadd F dX5_swapped_51 ?_
  rw [show (2 * (dg v 0 + dg v 1 + dg v 2 + dg v 3) + 72 - 3 * dg v i) % 24 = nd v i from rfl, swp_I hi hv]
  exact V_iret F rfl dX5_swapped_52 rfl ⟨rfl, rfl, rfl⟩
theorem c_X5_enter (h : isRem G M a p l) {v : Nat} (hv : v < 331776) : Con G yX5_enter cX5_enter 3 none 0 0 0 [.ref a, .int (nI v)] M n (fun x M' n' => x = none ∧ isRem G M' a p (ent1 l v) ∧ (∀ z, z ≠ a → z ≠ p → M' z = M z) ∧ n' = n) := by
  have hh := h
  obtain ⟨h0, ⟨fo, h1, h2⟩, h3, h4⟩ := h
  have hap := ne_oj h0 h1
  refine Con.of (by decide +kernel) (Nat.le_of_ble_eq_true rfl) (fun X F hnm => ?_)
  show V G X 0 0 _ M _ 0 [some (.ref a), some (.int (nI v)), none] []
  generalize hQ : BQ G X _ 0 0 = Q
  have loop : ∀ m k : Nat, m + k = l.length → (∀ j, j < k → l[j]? ≠ some v) → V G X 0 0 Q M n 2 [some (.ref a), some (.int (nI v)), some (.int (nI k))] [] := by
    intro m
    induction m with
    | zero =>
      intro k hk hno
      have hk : k = l.length := by omega
      subst hk
      have hn : v ∉ l := fun z => by
        obtain ⟨j, hj⟩ := List.getElem?_of_mem z
        exact hno j (List.getElem?_eq_some_iff.mp hj).1 hj
      refine V_iload_n F dX5_enter_2 rfl ?_
      refine V_aload_n F dX5_enter_3 rfl ?_
      refine V_get F fl_X5_15 dX5_enter_4 (by assumption) rfl ?_
      refine V_icmp_ge F 27 dX5_enter_7 (by decide) (fun c7 => ?_) (fun c7 => absurd (nI_le (by omega) (by omega)) c7)
      refine V_aload_n F dX5_enter_27 rfl ?_
      refine V_get F fl_X5_15 dX5_enter_28 (by assumption) rfl ?_
      refine V_sipush F dX5_enter_31 ks_3840 ?_
      refine V_icmp_ge F 57 dX5_enter_34 (by decide) (fun c34 => ?_) (fun c34 => ?_)
      · have c34 : ¬ l.length < 3840 := fun z => absurd c34 (nI_ge z (by omega))
        subst hQ
        exact V_vret F rfl dX5_enter_57 ⟨rfl, by unfold ent1; rw [if_neg hn, if_neg c34]; exact hh, fun _ _ _ => rfl, rfl⟩
      · have c34 : l.length < 3840 := Nat.lt_of_not_le (fun z => c34 (nI_le z (by omega)))
        refine V_aload_n F dX5_enter_37 rfl ?_
        refine V_get F fl_X5_9 dX5_enter_38 (by assumption) rfl ?_
        refine V_aload_n F dX5_enter_41 rfl ?_
        refine V_get F fl_X5_15 dX5_enter_42 (by assumption) rfl ?_
        refine V_iload_n F dX5_enter_45 rfl ?_
        refine V_iastN F dX5_enter_46 (by assumption) _ (by first | rfl | simp only [pk_mul, nI_add, nI_1, nI_inc]) (by omega) (by omega) ?_
        refine V_aload_n F dX5_enter_47 rfl ?_
        refine V_dup F dX5_enter_48 rfl ?_
        refine V_get F fl_X5_15 dX5_enter_49 ((mset_ne _ _ hap).trans h0) rfl ?_
        refine V_iconst F dX5_enter_52 ki_1 ?_
        refine V_iadd F dX5_enter_53 ?_
        rw [nI_add]
        subst hQ
        refine V_put F fl_X5_15 dX5_enter_54 ((mset_ne _ _ hap).trans h0) rfl rfl (Nat.le_of_ble_eq_true rfl) ?_
        refine V_vret F rfl dX5_enter_57 ⟨rfl, ?fin, fun z z1 z2 => by rw [mset_ne _ _ z1, mset_ne _ _ z2], rfl⟩
        unfold ent1
        rw [if_neg hn, if_pos c34]
        refine ⟨?_, ⟨_, (mset_ne _ _ hap.symm).trans (mset_eq _ _ _), fun k u hk => ?_⟩, ?_, ?_⟩
        · rw [mset_eq, List.length_append]
          rfl
        · by_cases q1 : k < l.length
          · rw [List.getElem?_append_left q1] at hk
            rw [va_up_ne _ _ (by omega)]
            exact h2 k u hk
          · rw [List.getElem?_append_right (by omega)] at hk
            have q2 : k - l.length < 1 := (List.getElem?_eq_some_iff.mp hk).1
            have q3 : k = l.length := by omega
            subst q3
            rw [Nat.sub_self] at hk
            cases hk
            rw [va_up_self]
        · rw [List.length_append, List.length_singleton]; omega
        · intro u hu
          rcases List.mem_append.mp hu with q1 | q1
          · exact h4 u q1
          · rw [List.mem_singleton.mp q1]; exact hv
    | succ m ih =>
      intro k hk hno
      have hkl : k < l.length := by omega
      have hg : l[k]? = some l[k] := List.getElem?_eq_getElem hkl
      have hlt := h4 _ (List.getElem_mem hkl)
      refine V_iload_n F dX5_enter_2 rfl ?_
      refine V_aload_n F dX5_enter_3 rfl ?_
      refine V_get F fl_X5_15 dX5_enter_4 (by assumption) rfl ?_
      refine V_icmp_ge F 27 dX5_enter_7 (by decide) (fun c7 => absurd c7 (nI_ge (by omega) (by omega))) (fun c7 => ?_)
      refine V_aload_n F dX5_enter_10 rfl ?_
      refine V_get F fl_X5_9 dX5_enter_11 (by assumption) rfl ?_
      refine V_iload_n F dX5_enter_14 rfl ?_
      refine V_ialdN F dX5_enter_15 (by assumption) _ (by first | rfl | simp only [pk_mul, nI_add, nI_1, nI_inc]) (by omega) (by omega) ?_
      rw [h2 k _ hg]
      refine V_iload_n F dX5_enter_16 rfl ?_
      refine V_icmp_ne F 21 dX5_enter_17 (by decide) (fun c17 => ?_) (fun c17 => ?_)
      · rw [nI_eq (by omega) (by omega)] at c17
        refine V_iinc1 F dX5_enter_21 rfl ?_
        show V _ _ _ _ _ _ _ _ [_, _, _] _
        refine V_goto F 2 dX5_enter_24 (by decide) ?_
        exact ih (k + 1) (by omega) (fun j hj => by
          by_cases q1 : j = k
          · subst q1; rw [hg]; exact fun z => c17 (Option.some.inj z)
          · exact hno j (by omega))
      · rw [nI_eq (by omega) (by omega)] at c17
        subst hQ
        exact V_vret F rfl dX5_enter_20 ⟨rfl, by unfold ent1; rw [if_pos (by rw [← c17]; exact List.getElem_mem hkl)]; exact hh, fun _ _ _ => rfl, rfl⟩
  refine V_iconst F dX5_enter_0 ki_0 ?_
  refine V_istore_n F dX5_enter_1 (Nat.le_of_ble_eq_true rfl) ?_
  show V _ _ _ _ _ _ _ _ [_, _, _] _
  exact loop l.length 0 (by omega) (fun j hj => by omega)
end REM
end
section
def rsd (x : Int64) : Nat := (x.toInt % 24).toNat
theorem rsd_lt (x : Int64) : rsd x < 24 := by unfold rsd; omega
theorem bm64 {x : Int} (h1 : -9223372036854775808 ≤ x) (h2 : x < 9223372036854775808) : x.bmod (2 ^ 64) = x := Int.bmod_eq_of_le_mul_two (by omega) (by omega)
theorem bm32 {x : Int} (h1 : -2147483648 ≤ x) (h2 : x < 2147483648) : x.bmod (2 ^ 32) = x := Int.bmod_eq_of_le_mul_two (by omega) (by omega)
theorem xor_neg (x : Int64) : (x ^^^ 24) < 0 ↔ x < 0 := by
  have h1 : ∀ y : Int64, y < 0 ↔ y.toBitVec.msb = true := fun y => by
    rw [Int64.lt_iff_toInt_lt, BitVec.msb_eq_toInt]
    simp
  rw [h1, h1, Int64.toBitVec_xor, BitVec.msb_xor, show (24 : Int64).toBitVec.msb = false by decide]
  simp
theorem tdv (x : Int) : x = 24 * x.tdiv 24 + x.tmod 24 ∧ (0 ≤ x → 0 ≤ x.tmod 24 ∧ x.tmod 24 < 24) ∧ (x ≤ 0 → -24 < x.tmod 24 ∧ x.tmod 24 ≤ 0) := by
  refine ⟨(Int.mul_tdiv_add_tmod x 24).symm, fun h => ⟨Int.tmod_nonneg _ h, Int.tmod_lt_of_pos _ (by decide)⟩, fun h => ?_⟩
  have h1 := Int.neg_tmod x 24
  have h2 := Int.tmod_nonneg 24 (show 0 ≤ -x by omega)
  have h3 := Int.tmod_lt_of_pos (-x) (show (0 : Int) < 24 by decide)
  omega
theorem fmL_24 (x : Int64) : (fmL x 24).toInt32 = nI (rsd x) := by
  have hx1 : (-9223372036854775808 : Int) ≤ x.toInt := Int64.le_toInt x
  have hx2 : x.toInt < 9223372036854775808 := Int64.toInt_lt x
  obtain ⟨t1, t2, t3⟩ := tdv x.toInt
  have hq : (x / 24).toInt = x.toInt.tdiv 24 := Int64.toInt_div_of_ne_right x 24 (by decide)
  have hm : (x / 24 * 24).toInt = x.toInt.tdiv 24 * 24 := by
    rw [Int64.toInt_mul, hq]
    show (x.toInt.tdiv 24 * 24).bmod (2 ^ 64) = _
    exact bm64 (by omega) (by omega)
  have hr : (x - x / 24 * 24).toInt = x.toInt.tmod 24 := by
    rw [Int64.toInt_sub, hm, show x.toInt - x.toInt.tdiv 24 * 24 = x.toInt.tmod 24 by omega]
    exact bm64 (by omega) (by omega)
  have hlt : x < 0 ↔ x.toInt < 0 := by rw [Int64.lt_iff_toInt_lt]; rfl
  have key : (fmL x 24).toInt = x.toInt % 24 := by
    unfold fmL
    by_cases hn : x < 0
    · have h4 := hlt.mp hn
      by_cases h0 : x - x / 24 * 24 = 0
      · rw [if_neg (fun z => z.2 h0)]
        have : (x - x / 24 * 24).toInt = 0 := by rw [h0]; rfl
        omega
      · rw [if_pos ⟨(xor_neg x).mpr hn, h0⟩, Int64.toInt_add, hr]
        have h3 : ¬ x.toInt.tmod 24 = 0 := fun z => h0 (Int64.toInt_inj.mp (by rw [hr, z]; rfl))
        show (x.toInt.tmod 24 + 24).bmod (2 ^ 64) = _
        rw [bm64 (by omega) (by omega)]
        omega
    · rw [if_neg (fun z => hn ((xor_neg x).mp z.1)), hr]
      have h4 : ¬ x.toInt < 0 := fun z => hn (hlt.mpr z)
      omega
  apply Int32.toInt_inj.mp
  have hl := rsd_lt x
  rw [nI_toInt (by omega), Int64.toInt_toInt32, key]
  unfold rsd
  rw [bm32 (by omega) (by omega)]
  omega
def cod (c : Qd) : Nat → Nat
  | 0 => 0
  | k + 1 => cod c k + wtN k * rsd (c k 0)
theorem cod_lt (c : Qd) : cod c 4 < 331776 := by
  have h0 := rsd_lt (c 0 0)
  have h1 := rsd_lt (c 1 0)
  have h2 := rsd_lt (c 2 0)
  have h3 := rsd_lt (c 3 0)
  simp only [cod, wtN]
  simp
  omega
def orb (s : Int32) (d : Nat) : Int32 := s ||| (nI 1 <<< (nI d &&& 31))
def orb4 (s : Int32) (u : Nat) : Nat → Int32
  | 0 => s
  | k + 1 => orb (orb4 s u k) (dg u k)
def ent4 (l : List Nat) (u : Nat) : Nat → List Nat
  | 0 => l
  | k + 1 => ent1 (ent4 l u k) (swp u k)
theorem ent1_get {l : List Nat} {v k : Nat} (h : k < l.length) : (ent1 l v)[k]? = l[k]? := by
  unfold ent1
  split
  · rfl
  · split
    · exact List.getElem?_append_left h
    · rfl
theorem ent1_len (l : List Nat) (v : Nat) : l.length ≤ (ent1 l v).length := by
  unfold ent1
  split
  · exact Nat.le_refl _
  · split
    · simp
    · exact Nat.le_refl _
theorem ent4_get {l : List Nat} {u k : Nat} (h : k < l.length) : ∀ j, (ent4 l u j)[k]? = l[k]? ∧ k < (ent4 l u j).length
  | 0 => ⟨rfl, h⟩
  | j + 1 => by
    obtain ⟨h1, h2⟩ := ent4_get h j
    exact ⟨(ent1_get h2).trans h1, Nat.lt_of_lt_of_le h2 (ent1_len _ _)⟩
def gat : Nat → Nat → List Nat → Int32 → Int32
  | 0, _, _, s => s
  | m + 1, k, l, s => match l[k]? with
    | none => s
    | some u => gat m (k + 1) (ent4 l u 4) (orb4 s u 4)
section REM2
variable {G : GP} {M : Mem} {n : Option Nat} {a p : Nat} {l : List Nat} {b q : Nat} {c : Qd}
theorem c_X5_gather {e0 : Value} {fo0 : Nat → Int32} (ha : M a = some (eO 5 [.ref p, e0])) (hp : M p = some (eI (gT G) 3840 fo0)) (h0 : M b = some (eO 1 [.ref q])) (h1 : M q = some (eJ (gT G) 12 (fc c))) : Con G yX5_gather cX5_gather 6 (some .int) 2 0 0 [.ref a, .ref b] M n (fun v M' n' => v = some (.int (gat 3840 0 [cod c 4] (nI 0))) ∧ (∃ l', isRem G M' a p l') ∧ (∀ z, z ≠ a → z ≠ p → M' z = M z) ∧ n' = n) := by
  have hap := ne_oj ha hp
  have hbp := ne_oj h0 hp
  have hba : b ≠ a := fun e => by rw [e, ha] at h0; cases h0
  have hqa : q ≠ a := (ne_oj ha h1).symm
  have hqp : q ≠ p := fun e => by rw [e, hp] at h1; exact absurd (show (3840 : Nat) = 12 from congrArg elen h1) (by decide)
  refine Con.of (by decide +kernel) (Nat.le_of_ble_eq_true rfl) (fun X F hnm => ?_)
  show V G X 0 0 _ M _ 0 [some (.ref a), some (.ref b), none, none, none, none] []
  generalize hR : gat 3840 0 [cod c 4] (nI 0) = res
  generalize hQ : BQ G X _ 0 0 = Q
  have code : ∀ k : Nat, k < 4 → V G X 0 0 Q M n 4 [some (.ref a), some (.ref b), some (.int (nI (cod c (k + 1)))), some (.int (nI (k + 1))), none, none] [] → V G X 0 0 Q M n 4 [some (.ref a), some (.ref b), some (.int (nI (cod c k))), some (.int (nI k)), none, none] [] := by
    intro k hk kk
    have hr := rsd_lt (c k 0)
    refine V_iload_n F dX5_gather_4 rfl ?_
    refine V_iconst F dX5_gather_5 ki_4 ?_
    refine V_icmp_ge F 36 dX5_gather_6 (by decide) (fun c6 => absurd c6 (nI_ge hk (by omega))) (fun c6 => ?_)
    refine V_iload_n F dX5_gather_9 rfl ?_
    refine V_gets F dX5_gather_10 fs_X5_21 ?_
    refine V_iload_n F dX5_gather_13 rfl ?_
    refine V_taldN F dX5_gather_14 _ (by first | rfl | simp only [pk_mul, nI_add, nI_1, nI_inc]) (by omega) ?_
    refine V_aload_n F dX5_gather_15 rfl ?_
    refine V_iload_n F dX5_gather_16 rfl ?_
    refine V_ivR F iv_X5_24 dX5_gather_17 (As := [_]) (c_X1_bend h0 h1 hk) (by assumption) rfl rfl rfl rfl ?_
    refine V_ldc2 F dX5_gather_20 kl_X5_28 ?_
    refine V_isR F is_X5_30 dX5_gather_23 (As := [_, _]) (c_J9_floorMod_f86c9 _ _ (by decide)) rfl rfl rfl ?_
    refine V_l2i F dX5_gather_26 ?_
    rw [fmL_24, wt_N k hk]
    refine V_imul F dX5_gather_27 ?_
    rw [pk_mul]
    refine V_iadd F dX5_gather_28 ?_
    rw [nI_add]
    refine V_istore_n F dX5_gather_29 (Nat.le_of_ble_eq_true rfl) ?_
    show V _ _ _ _ _ _ _ _ [_, _, _, _, _, _] _
    refine V_iinc1 F dX5_gather_30 rfl ?_
    show V _ _ _ _ _ _ _ _ [_, _, _, _, _, _] _
    refine V_goto F 4 dX5_gather_33 (by decide) ?_
    exact kk
  refine V_iconst F dX5_gather_0 ki_0 ?_
  refine V_istore_n F dX5_gather_1 (Nat.le_of_ble_eq_true rfl) ?_
  show V _ _ _ _ _ _ _ _ [_, _, _, _, _, _] _
  refine V_iconst F dX5_gather_2 ki_0 ?_
  refine V_istore_n F dX5_gather_3 (Nat.le_of_ble_eq_true rfl) ?_
  show V _ _ _ _ _ _ _ _ [_, _, _, _, _, _] _
  refine code 0 (by omega) (code 1 (by omega) (code 2 (by omega) (code 3 (by omega) ?_)))
  have hc := cod_lt c
  refine V_iload_n F dX5_gather_4 rfl ?_
  refine V_iconst F dX5_gather_5 ki_4 ?_
  refine V_icmp_ge F 36 dX5_gather_6 (by decide) (fun c6 => ?_) (fun c6 => absurd (by decide) c6)
  refine V_aload_n F dX5_gather_36 rfl ?_
  refine V_iconst F dX5_gather_37 ki_0 ?_
  refine V_put F fl_X5_15 dX5_gather_38 ha rfl rfl (Nat.le_of_ble_eq_true rfl) ?_
  refine V_aload_n F dX5_gather_41 rfl ?_
  refine V_iload_n F dX5_gather_42 rfl ?_
  have hr0 : isRem G (mset M a (eO 5 [.ref p, .int (nI 0)])) a p [] := ⟨mset_eq _ _ _, ⟨fo0, (mset_ne _ _ hap.symm).trans hp, fun k v hk => by simp at hk⟩, by simp, by simp⟩
  refine V_ivP F iv_X5_36 dX5_gather_43 (As := [_]) (c_X5_enter hr0 hc) (mset_eq _ _ _) rfl rfl rfl rfl ?_
  rintro v M1 n1 ⟨rfl, hr1, hf1, rfl⟩
  have hfa : ∀ z, z ≠ a → z ≠ p → M1 z = M z := fun z z1 z2 => (hf1 z z1 z2).trans (mset_ne _ _ z1)
  clear hf1
  rw [show ent1 [] (cod c 4) = [cod c 4] by simp [ent1]] at hr1
  have inner : ∀ (j : Nat) (l : List Nat) (M1 : Mem) (s : Int32) (k u : Nat), j < 4 → l[k]? = some u → isRem G M1 a p l → (∀ z, z ≠ a → z ≠ p → M1 z = M z) → (∀ M2, isRem G M2 a p (ent1 l (swp u j)) → (∀ z, z ≠ a → z ≠ p → M2 z = M z) → V G X 0 0 Q M2 n1 71 [some (.ref a), some (.ref b), some (.int (nI (cod c 4))), some (.int (orb s (dg u j))), some (.int (nI k)), some (.int (nI (j + 1)))] []) → V G X 0 0 Q M1 n1 71 [some (.ref a), some (.ref b), some (.int (nI (cod c 4))), some (.int s), some (.int (nI k)), some (.int (nI j))] [] := by
    intro j l M1 s k u hj hu hr hf kk
    have hr' := hr
    obtain ⟨g0, ⟨fo, g1, g2⟩, g3, g4⟩ := hr
    have hk := (List.getElem?_eq_some_iff.mp hu).1
    have hul := g4 u (List.mem_of_getElem? hu)
    refine V_iload F dX5_gather_71 rfl ?_
    refine V_iconst F dX5_gather_73 ki_4 ?_
    refine V_icmp_ge F 116 dX5_gather_74 (by decide) (fun c74 => absurd c74 (nI_ge hj (by omega))) (fun c74 => ?_)
    refine V_iload_n F dX5_gather_77 rfl ?_
    refine V_iconst F dX5_gather_78 ki_1 ?_
    refine V_aload_n F dX5_gather_79 rfl ?_
    refine V_get F fl_X5_9 dX5_gather_80 (by assumption) rfl ?_
    refine V_iload F dX5_gather_83 rfl ?_
    refine V_ialdN F dX5_gather_85 (by assumption) _ (by first | rfl | simp only [pk_mul, nI_add, nI_1, nI_inc]) (by omega) (by omega) ?_
    rw [g2 k u hu]
    refine V_iload F dX5_gather_86 rfl ?_
    refine V_isR F is_X5_40 dX5_gather_88 (As := [_, _]) (c_X5_digit hul hj) rfl rfl rfl ?_
    refine V_ishl F dX5_gather_91 ?_
    refine V_ior F dX5_gather_92 ?_
    refine V_istore_n F dX5_gather_93 (Nat.le_of_ble_eq_true rfl) ?_
    show V _ _ _ _ _ _ _ _ [_, _, _, _, _, _] _
    refine V_aload_n F dX5_gather_94 rfl ?_
    refine V_aload_n F dX5_gather_95 rfl ?_
    refine V_get F fl_X5_9 dX5_gather_96 (by assumption) rfl ?_
    refine V_iload F dX5_gather_99 rfl ?_
    refine V_ialdN F dX5_gather_101 (by assumption) _ (by first | rfl | simp only [pk_mul, nI_add, nI_1, nI_inc]) (by omega) (by omega) ?_
    rw [g2 k u hu]
    refine V_iload F dX5_gather_102 rfl ?_
    refine V_isR F is_X5_44 dX5_gather_104 (As := [_, _]) (c_X5_swapped hul hj) rfl rfl rfl ?_
    refine V_ivP F iv_X5_36 dX5_gather_107 (As := [_]) (c_X5_enter hr' (swp_lt hj hul).1) (by assumption) rfl rfl rfl rfl ?_
    rintro v M2 n2 ⟨rfl, hr2, hf2, rfl⟩
    refine V_iinc1 F dX5_gather_110 rfl ?_
    show V _ _ _ _ _ _ _ _ [_, _, _, _, _, _] _
    refine V_goto F 71 dX5_gather_113 (by decide) ?_
    exact kk M2 hr2 (fun z z1 z2 => (hf2 z z1 z2).trans (hf z z1 z2))
  have outer : ∀ (m k : Nat) (l : List Nat) (M1 : Mem) (s : Int32), m + k = 3840 → k ≤ l.length → isRem G M1 a p l → (∀ z, z ≠ a → z ≠ p → M1 z = M z) → gat m k l s = res → V G X 0 0 Q M1 n1 51 [some (.ref a), some (.ref b), some (.int (nI (cod c 4))), some (.int s), some (.int (nI k)), none] [] := by
    intro m
    induction m with
    | zero =>
      intro k l M1 s hk hkl hr hf hg
      have hr' := hr
      obtain ⟨g0, ⟨fo, g1, g2⟩, g3, g4⟩ := hr
      subst hQ
      refine V_iload F dX5_gather_51 rfl ?_
      refine V_aload_n F dX5_gather_53 rfl ?_
      refine V_get F fl_X5_15 dX5_gather_54 (by assumption) rfl ?_
      refine V_icmp_ge F 122 dX5_gather_57 (by decide) (fun c57 => ?_) (fun c57 => absurd (nI_le (by omega) (by omega)) c57)
      refine V_iload_n F dX5_gather_122 rfl ?_
      exact V_iret F rfl dX5_gather_123 rfl ⟨by rw [← hg]; rfl, ⟨l, hr'⟩, hf, rfl⟩
    | succ m ih =>
      intro k l M1 s hk hkl hr hf hg
      have hr' := hr
      obtain ⟨g0, ⟨fo, g1, g2⟩, g3, g4⟩ := hr
      unfold gat at hg
      refine V_iload F dX5_gather_51 rfl ?_
      refine V_aload_n F dX5_gather_53 rfl ?_
      refine V_get F fl_X5_15 dX5_gather_54 (by assumption) rfl ?_
      refine V_icmp_ge F 122 dX5_gather_57 (by decide) (fun c57 => ?_) (fun c57 => ?_)
      · have hkl2 : l[k]? = none := by
          rcases Nat.lt_or_ge k l.length with q1 | q1
          · exact absurd c57 (nI_ge q1 (by omega))
          · exact List.getElem?_eq_none q1
        rw [hkl2] at hg
        subst hQ
        refine V_iload_n F dX5_gather_122 rfl ?_
        exact V_iret F rfl dX5_gather_123 rfl ⟨by rw [← hg], ⟨l, hr'⟩, hf, rfl⟩
      · have hkl2 : k < l.length := Nat.lt_of_not_le (fun z => c57 (nI_le z (by omega)))
        have hu : l[k]? = some l[k] := List.getElem?_eq_getElem hkl2
        generalize l[k] = u at hu
        rw [hu] at hg
        refine V_iload F dX5_gather_60 rfl ?_
        refine V_sipush F dX5_gather_62 ks_3840 ?_
        refine V_icmp_ge F 122 dX5_gather_65 (by decide) (fun c65 => absurd c65 (nI_ge (by omega) (by omega))) (fun c65 => ?_)
        refine V_iconst F dX5_gather_68 ki_0 ?_
        refine V_istore F dX5_gather_69 (Nat.le_of_ble_eq_true rfl) ?_
        show V _ _ _ _ _ _ _ _ [_, _, _, _, _, _] _
        refine inner 0 l M1 s k u (by omega) hu hr' hf (fun M2 hr2 hf2 => inner 1 _ M2 _ k u (by omega) (ent4_get hkl2 1 |>.1.trans hu) hr2 hf2 (fun M3 hr3 hf3 => inner 2 _ M3 _ k u (by omega) (ent4_get hkl2 2 |>.1.trans hu) hr3 hf3 (fun M4 hr4 hf4 => inner 3 _ M4 _ k u (by omega) (ent4_get hkl2 3 |>.1.trans hu) hr4 hf4 (fun M5 hr5 hf5 => ?_))))
        refine V_iload F dX5_gather_71 rfl ?_
        refine V_iconst F dX5_gather_73 ki_4 ?_
        refine V_icmp_ge F 116 dX5_gather_74 (by decide) (fun c74 => ?_) (fun c74 => absurd (by decide) c74)
        refine V_iinc1 F dX5_gather_116 rfl ?_
        show V _ _ _ _ _ _ _ _ [_, _, _, _, _, _] _
        refine V_goto F 51 dX5_gather_119 (by decide) ?_
        exact V_drop 5 (ih (k + 1) _ M5 _ (by omega) (ent4_get (u := u) hkl2 4).2 hr5 hf5 hg)
  refine V_iconst F dX5_gather_46 ki_0 ?_
  refine V_istore_n F dX5_gather_47 (Nat.le_of_ble_eq_true rfl) ?_
  show V _ _ _ _ _ _ _ _ [_, _, _, _, _, _] _
  refine V_iconst F dX5_gather_48 ki_0 ?_
  refine V_istore F dX5_gather_49 (Nat.le_of_ble_eq_true rfl) ?_
  show V _ _ _ _ _ _ _ _ [_, _, _, _, _, _] _
  exact outer 3840 0 [cod c 4] M1 _ rfl (by simp) hr1 hfa hR
end REM2
end
section
section QUAD
variable {G : GP} {M : Mem} {a a1 r1 a2 r2 b q : Nat} {c c1 c2 : Qd}
theorem c_X4_become {v2 v3 v4 : Value} (h0 : M a = some (eO 4 [.ref a1, .ref a2, v2, v3, v4])) (h1 : M a1 = some (eO 1 [.ref r1])) (g1 : M r1 = some (eJ (gT G) 12 (fc c1))) (h2 : M a2 = some (eO 1 [.ref r2])) (g2 : M r2 = some (eJ (gT G) 12 (fc c2))) (hb : M b = some (eO 1 [.ref q])) (hq : M q = some (eJ (gT G) 12 (fc c))) (d1 : r1 ≠ r2) (d2 : q ≠ r1) (fr se : Int32) : Con G yX4_become cX4_become 4 none 5 0 0 [.ref a, .ref b, .int fr, .int se] M none (R1 none (mset (mset (mset M r1 (eJ (gT G) 12 (fc c))) r2 (eJ (gT G) 12 (fc (gd 100000 c).2))) a (eO 4 [.ref a1, .ref a2, .int fr, .int (nI (gd 100000 c).1), .int se])) none) := by
  refine Con.of (by decide +kernel) (Nat.le_of_ble_eq_true rfl) (fun X F hnm => ?_)
  show V G X 0 0 _ M _ 0 [some (.ref a), some (.ref b), some (.int fr), some (.int se)] []
  have n1 := ne_oj h0 g1
  have n2 := ne_oj h0 g2
  have n3 := ne_oj h1 g1
  have n4 := ne_oj h2 g1
  have n5 := ne_oj hb g1
  have n6 := ne_oj h2 g2
  have k0 : ∀ e, mset M r1 e a = _ := fun e => (mset_ne _ _ n1).trans h0
  have k2 : ∀ e, mset M r1 e a2 = _ := fun e => (mset_ne _ _ n4).trans h2
  have kb : ∀ e, mset M r1 e b = _ := fun e => (mset_ne _ _ n5).trans hb
  have kq : ∀ e, mset M r1 e q = _ := fun e => (mset_ne _ _ d2).trans hq
  have kr : ∀ e, mset M r1 e r2 = _ := fun e => (mset_ne _ _ d1.symm).trans g2
  refine V_aload_n F dX4_become_0 rfl ?_
  refine V_get F fl_X4_12 dX4_become_1 (by assumption) rfl ?_
  refine V_aload_n F dX4_become_4 rfl ?_
  refine V_ivR F iv_X4_31 dX4_become_5 (As := [_]) (c_X1_take h1 g1 hb hq) (by assumption) rfl rfl rfl rfl ?_
  refine V_aload_n F dX4_become_8 rfl ?_
  refine V_get F fl_X4_18 dX4_become_9 (k0 _) rfl ?_
  refine V_aload_n F dX4_become_12 rfl ?_
  refine V_ivR F iv_X4_31 dX4_become_13 (As := [_]) (c_X1_take (k2 _) (kr _) (kb _) (kq _)) (k2 _) rfl rfl rfl rfl ?_
  refine V_aload_n F dX4_become_16 rfl ?_
  refine V_aload_n F dX4_become_17 rfl ?_
  refine V_get F fl_X4_18 dX4_become_18 ((mset_ne _ _ n2).trans (k0 _)) rfl ?_
  refine V_ldc F dX4_become_21 kc_X4_35 ?_
  refine V_ivR F iv_X4_36 dX4_become_23 (As := [_]) (c_X1_goDown 100000 (by decide) _ _ ((mset_ne _ _ n6).trans (k2 _)) (mset_eq _ _ _)) ((mset_ne _ _ n6).trans (k2 _)) rfl rfl rfl rfl ?_
  rw [mset_mset]
  refine V_put F fl_X4_25 dX4_become_26 ((mset_ne _ _ n2).trans (k0 _)) rfl rfl (Nat.le_of_ble_eq_true rfl) ?_
  refine V_aload_n F dX4_become_29 rfl ?_
  refine V_iload_n F dX4_become_30 rfl ?_
  refine V_put F fl_X4_21 dX4_become_31 (mset_eq _ _ _) rfl rfl (Nat.le_of_ble_eq_true rfl) ?_
  refine V_aload_n F dX4_become_34 rfl ?_
  refine V_iload_n F dX4_become_35 rfl ?_
  refine V_put F fl_X4_28 dX4_become_36 (mset_eq _ _ _) rfl rfl (Nat.le_of_ble_eq_true rfl) ?_
  rw [mset_mset, mset_mset]
  exact V_vret F rfl dX4_become_39 ⟨rfl, rfl, rfl⟩
end QUAD
abbrev Wt : Type := List (Qd × Int32)
def isSea (G : GP) (M : Mem) (a pw pb nx rn : Nat) (aw rw : Nat → Nat) (ws : Wt) : Prop :=
  M a = some (eO 3 [.ref pw, .ref pb, .ref nx, .int (nI ws.length)]) ∧ (∃ g, M pw = some (eQ (gT G) 4 241 g) ∧ ∀ k, k < 241 → g k = some (aw k)) ∧ (∃ bk, M pb = some (eI (gT G) 241 bk) ∧ ∀ (k : Nat) (x : Qd × Int32), ws[k]? = some x → bk k = x.2) ∧ M nx = some (eO 1 [.ref rn]) ∧ (∃ c, M rn = some (eJ (gT G) 12 (fc c))) ∧ (∀ k, k < 241 → M (aw k) = some (eO 1 [.ref (rw k)]) ∧ ∃ c, M (rw k) = some (eJ (gT G) 12 (fc c)) ∧ ∀ (x : Qd × Int32), ws[k]? = some x → c = x.1) ∧ ws.length ≤ 241
def seaOk (pw pb rn : Nat) (aw rw : Nat → Nat) : Prop := (∀ k j, k < 241 → j < 241 → rw k = rw j → k = j) ∧ (∀ k, k < 241 → rw k ≠ rn)
section SEA
variable {G : GP} {M : Mem} {a pw pb nx rn : Nat} {aw rw : Nat → Nat} {ws : Wt} {b q : Nat} {c : Qd}
theorem c_X3_addWaiting (hs : isSea G M a pw pb nx rn aw rw ws) (ok : seaOk pw pb rn aw rw) (hb : M b = some (eO 1 [.ref q])) (hq : M q = some (eJ (gT G) 12 (fc c))) (hqw : ∀ k, k < 241 → q ≠ rw k) (s : Int32) : Con G yX3_addWaiting cX3_addWaiting 3 (some .boolean) 2 0 0 [.ref a, .ref b, .int s] M none (fun v M' n' => v = some (.int (bI (decide (ws.length < 241)))) ∧ (ws.length < 241 → isSea G M' a pw pb nx rn aw rw (ws ++ [(c, s)])) ∧ (¬ ws.length < 241 → isSea G M' a pw pb nx rn aw rw ws) ∧ (∀ z, z ≠ a → z ≠ pb → (∀ k, k < 241 → z ≠ rw k) → M' z = M z) ∧ n' = none) := by
  have hs0 := hs
  obtain ⟨h0, ⟨g, h1, h2⟩, ⟨bk, h3, h4⟩, h5, ⟨cn, h6⟩, h7, h8⟩ := hs
  refine Con.of (by decide +kernel) (Nat.le_of_ble_eq_true rfl) (fun X F hnm => ?_)
  show V G X 0 0 _ M _ 0 [some (.ref a), some (.ref b), some (.int s)] []
  refine V_aload_n F dX3_addWaiting_0 rfl ?_
  refine V_get F fl_X3_26 dX3_addWaiting_1 (by assumption) rfl ?_
  refine V_sipush F dX3_addWaiting_4 ks_241 ?_
  refine V_icmp_lt F 12 dX3_addWaiting_7 (by decide) (fun c7 => ?_) (fun c7 => ?_)
  · have c7 := (nI_ltI (by omega) (by omega)).mp c7
    obtain ⟨w1, cw, w2, w3⟩ := h7 ws.length c7
    have n1 := ne_oj h0 w2
    have n2 := ne_oj h0 h3
    have n3 : pb ≠ rw ws.length := fun e => by rw [e, w2] at h3; exact absurd (show (12 : Nat) = 241 from congrArg elen h3) (by decide)
    refine V_aload_n F dX3_addWaiting_12 rfl ?_
    refine V_get F fl_X3_13 dX3_addWaiting_13 (by assumption) rfl ?_
    refine V_aload_n F dX3_addWaiting_16 rfl ?_
    refine V_get F fl_X3_26 dX3_addWaiting_17 (by assumption) rfl ?_
    refine V_aaldN F 4 dX3_addWaiting_20 (by assumption) rfl rfl _ (by first | rfl | simp only [pk_mul, nI_add, nI_1, nI_inc]) (by omega) (by omega) (h2 _ c7) ?_
    refine V_aload_n F dX3_addWaiting_21 rfl ?_
    refine V_ivR F iv_X3_58 dX3_addWaiting_22 (As := [_]) (c_X1_take w1 w2 hb hq) (by assumption) rfl rfl rfl rfl ?_
    refine V_aload_n F dX3_addWaiting_25 rfl ?_
    refine V_get F fl_X3_17 dX3_addWaiting_26 ((mset_ne _ _ n1).trans h0) rfl ?_
    refine V_aload_n F dX3_addWaiting_29 rfl ?_
    refine V_get F fl_X3_26 dX3_addWaiting_30 ((mset_ne _ _ n1).trans h0) rfl ?_
    refine V_iload_n F dX3_addWaiting_33 rfl ?_
    refine V_iastN F dX3_addWaiting_34 ((mset_ne _ _ n3).trans h3) _ (by first | rfl | simp only [pk_mul, nI_add, nI_1, nI_inc]) (by omega) (by omega) ?_
    refine V_aload_n F dX3_addWaiting_35 rfl ?_
    refine V_dup F dX3_addWaiting_36 rfl ?_
    refine V_get F fl_X3_26 dX3_addWaiting_37 ((mset_ne _ _ n2).trans ((mset_ne _ _ n1).trans h0)) rfl ?_
    refine V_iconst F dX3_addWaiting_40 ki_1 ?_
    refine V_iadd F dX3_addWaiting_41 ?_
    rw [nI_add]
    refine V_put F fl_X3_26 dX3_addWaiting_42 ((mset_ne _ _ n2).trans ((mset_ne _ _ n1).trans h0)) rfl rfl (Nat.le_of_ble_eq_true rfl) ?_
    refine V_iconst F dX3_addWaiting_45 ki_1 ?_
    refine V_iret F rfl dX3_addWaiting_46 rfl ⟨rt (decide_eq_true c7), fun _ => ?fin, fun z => absurd c7 z, fun z z1 z2 z3 => by rw [mset_ne _ _ z1, mset_ne _ _ z2, mset_ne _ _ (z3 _ c7)], rfl⟩
    have n4 := ne_oj h5 w2
    have n5 := ne_oj h5 h3
    have n6 : rn ≠ rw ws.length := (ok.2 _ c7).symm
    have n7 : rn ≠ pb := fun e => by rw [e, h3] at h6; exact absurd (show (241 : Nat) = 12 from congrArg elen h6) (by decide)
    have n8 : ∀ k, k < 241 → aw k ≠ rw ws.length := fun k hk => ne_oj (h7 k hk).1 w2
    have n9 : ∀ k, k < 241 → aw k ≠ pb := fun k hk => ne_oj (h7 k hk).1 h3
    have m1 : nx ≠ a := fun e => by rw [e, h0] at h5; cases h5
    have m2 : rn ≠ a := (ne_oj h0 h6).symm
    have m3 : ∀ k, k < 241 → aw k ≠ a := fun k hk e => by have := (h7 k hk).1; rw [e, h0] at this; cases this
    have m4 : ∀ k, k < 241 → rw k ≠ a := fun k hk e => by obtain ⟨-, cc, w, -⟩ := h7 k hk; rw [e, h0] at w; cases w
    have m5 : ∀ k, k < 241 → rw k ≠ pb := fun k hk e => by obtain ⟨-, cc, w, -⟩ := h7 k hk; rw [e, h3] at w; exact absurd (show (241 : Nat) = 12 from congrArg elen w) (by decide)
    have m6 : pw ≠ rw ws.length := fun e => by rw [e, w2] at h1; exact absurd (show (12 : Nat) = 241 from congrArg elen h1) (by decide)
    have m7 : pw ≠ pb := fun e => by rw [e, h3] at h1; exact absurd (show (1 : Nat) = 3 from congrArg ekd h1) (by decide)
    have m8 : pw ≠ a := (ne_oj h0 h1).symm
    have app : ∀ (k : Nat) (x : Qd × Int32), (ws ++ [(c, s)])[k]? = some x → ws[k]? = some x ∨ (k = ws.length ∧ x = (c, s)) := fun k x hx => by
      by_cases q1 : k < ws.length
      · rw [List.getElem?_append_left q1] at hx; exact Or.inl hx
      · rw [List.getElem?_append_right (by omega)] at hx
        have q2 : k - ws.length < 1 := (List.getElem?_eq_some_iff.mp hx).1
        have q3 : k = ws.length := by omega
        subst q3
        rw [Nat.sub_self] at hx
        cases hx
        exact Or.inr ⟨rfl, rfl⟩
    refine ⟨by rw [mset_eq, List.length_append]; rfl, ⟨g, ?_, h2⟩, ⟨_, (mset_ne _ _ n2.symm).trans (mset_eq _ _ _), fun k x hx => ?_⟩, ?_, ⟨cn, ?_⟩, fun k hk => ⟨?_, ?_⟩, by rw [List.length_append, List.length_singleton]; omega⟩
    · rw [mset_ne _ _ m8, mset_ne _ _ m7, mset_ne _ _ m6]; exact h1
    · rcases app k x hx with q1 | ⟨q1, q2⟩
      · have : k < ws.length := (List.getElem?_eq_some_iff.mp q1).1
        rw [va_up_ne _ _ (by omega)]
        exact h4 k x q1
      · subst q1 q2
        rw [va_up_self]
    · rw [mset_ne _ _ m1, mset_ne _ _ n5, mset_ne _ _ n4]; exact h5
    · rw [mset_ne _ _ m2, mset_ne _ _ n7, mset_ne _ _ n6]; exact h6
    · rw [mset_ne _ _ (m3 k hk), mset_ne _ _ (n9 k hk), mset_ne _ _ (n8 k hk)]; exact (h7 k hk).1
    · by_cases q0 : k = ws.length
      · subst q0
        refine ⟨c, ?_, fun x hx => ?_⟩
        · rw [mset_ne _ _ (m4 _ c7), mset_ne _ _ (m5 _ c7), mset_eq]
        · rcases app _ x hx with q1 | ⟨q1, q2⟩
          · exact absurd (List.getElem?_eq_some_iff.mp q1).1 (by omega)
          · subst q2; rfl
      · obtain ⟨-, cc, w, w'⟩ := h7 k hk
        refine ⟨cc, ?_, fun x hx => ?_⟩
        · rw [mset_ne _ _ (m4 _ hk), mset_ne _ _ (m5 _ hk), mset_ne _ _ (fun e => q0 (ok.1 _ _ hk c7 e))]; exact w
        · rcases app _ x hx with q1 | ⟨q1, q2⟩
          · exact w' x q1
          · exact absurd q1 q0
  · have c7 : ¬ ws.length < 241 := fun z => c7 ((nI_ltI (b := 241) (by omega) (by omega)).mpr z)
    refine V_iconst F dX3_addWaiting_10 ki_0 ?_
    exact V_iret F rfl dX3_addWaiting_11 rfl ⟨rf (decide_eq_false c7), fun z => absurd z c7, fun _ => hs0, fun _ _ _ _ => rfl, rfl⟩
end SEA
end
section
abbrev St : Type := Bool × Nat × (Nat → Nat → Int64) × Wt
theorem isLst.frame {G : GP} {M M' : Mem} {a ro : Nat} {r : Nat → Nat} {lst : Nat → Nat → Int64} {S : Nat} {mo se : Int32} (h : isLst G M a ro r lst S mo se) (e1 : M' a = M a) (e2 : M' ro = M ro) (e3 : ∀ w, w < 3 → M' (r w) = M (r w)) : isLst G M' a ro r lst S mo se := by
  obtain ⟨l0, ⟨g, l1, l2⟩, l3⟩ := h
  exact ⟨e1.trans l0, ⟨g, e2.trans l1, l2⟩, fun w hw => (e3 w hw).trans (l3 w hw)⟩
theorem isSea.frame {G : GP} {M M' : Mem} {a pw pb nx rn : Nat} {aw rw : Nat → Nat} {ws : Wt} (h : isSea G M a pw pb nx rn aw rw ws) (e1 : M' a = M a) (e2 : M' pw = M pw) (e3 : M' pb = M pb) (e4 : M' nx = M nx) (e5 : ∃ c, M' rn = some (eJ (gT G) 12 (fc c))) (e6 : ∀ k, k < 241 → M' (aw k) = M (aw k) ∧ M' (rw k) = M (rw k)) : isSea G M' a pw pb nx rn aw rw ws := by
  obtain ⟨h0, ⟨g, h1, h2⟩, ⟨bk, h3, h4⟩, h5, ⟨cn, h6⟩, h7, h8⟩ := h
  exact ⟨e1.trans h0, ⟨g, e2.trans h1, h2⟩, ⟨bk, e3.trans h3, h4⟩, e4.trans h5, e5, fun k hk => ⟨(e6 k hk).1.trans (h7 k hk).1, by
    obtain ⟨-, cc, w, w'⟩ := h7 k hk
    exact ⟨cc, (e6 k hk).2.trans w, w'⟩⟩, h8⟩
def lstA (G : GP) (la : Nat) (M : Mem) (lst : Nat → Nat → Int64) (S : Nat) (mo se : Int32) : Prop := isLst G M (gB G + la) (gB G + la + 1) (fun w => gB G + la + 2 + w) lst S mo se
def seaA (G : GP) (M : Mem) (ws : Wt) : Prop := isSea G M (gB G + 7) (gB G + 8) (gB G + 9) (gB G + 10) (gB G + 11) (fun k => gB G + 12 + 2 * k) (fun k => gB G + 13 + 2 * k) ws
theorem lstA.frame {G : GP} {la : Nat} {M M' : Mem} {lst : Nat → Nat → Int64} {S : Nat} {mo se : Int32} (h : lstA G la M lst S mo se) (e : ∀ z, gB G + la ≤ z → z < gB G + la + 5 → M' z = M z) : lstA G la M' lst S mo se := isLst.frame h (e _ (by omega) (by omega)) (e _ (by omega) (by omega)) (fun w hw => e _ (by omega) (by omega))
theorem seaA.frame {G : GP} {M M' : Mem} {ws : Wt} (h : seaA G M ws) (e : ∀ z, gB G + 7 ≤ z → z < gB G + 494 → M' z = M z) : seaA G M' ws := isSea.frame h (e _ (by omega) (by omega)) (e _ (by omega) (by omega)) (e _ (by omega) (by omega)) (e _ (by omega) (by omega)) (by rw [e _ (by omega) (by omega)]; exact h.2.2.2.2.1) (fun k hk => ⟨e _ (by omega) (by omega), e _ (by omega) (by omega)⟩)
theorem seaA.next {G : GP} {M : Mem} {ws : Wt} {c : Qd} (h : seaA G M ws) : seaA G (mset M (gB G + 11) (eJ (gT G) 12 (fc c))) ws := isSea.frame h (mset_ne _ _ (by omega)) (mset_ne _ _ (by omega)) (mset_ne _ _ (by omega)) (mset_ne _ _ (by omega)) ⟨c, mset_eq _ _ _⟩ (fun k hk => ⟨mset_ne _ _ (by omega), mset_ne _ _ (by omega)⟩)
theorem ent_S {lst : Nat → Nat → Int64} {S : Nat} {c : Qd} {i : Nat} (h : S ≤ 240) : (ent lst S c i).2.1 ≤ 240 := by
  unfold ent
  split
  · split
    · exact h
    · split
      · exact h
      · show S + 1 ≤ 240; omega
  · exact h
def sw1 (u : Qd) (bk mo : Int32) (i : Nat) (s : St) : St :=
  if s.1 = false then s else if nI i = bk then s else if mo.toInt64 < trn u i 0 then s else
  if (ent s.2.2.1 s.2.1 (turnc u i) i).1 = false then (false, (ent s.2.2.1 s.2.1 (turnc u i) i).2.1, (ent s.2.2.1 s.2.1 (turnc u i) i).2.2, s.2.2.2)
  else if s.2.2.2.length < 241 then (true, (ent s.2.2.1 s.2.1 (turnc u i) i).2.1, (ent s.2.2.1 s.2.1 (turnc u i) i).2.2, s.2.2.2 ++ [(turnc u i, nI i)])
  else (false, (ent s.2.2.1 s.2.1 (turnc u i) i).2.1, (ent s.2.2.1 s.2.1 (turnc u i) i).2.2, s.2.2.2)
def sw4 (u : Qd) (bk mo : Int32) (s : St) : St := sw1 u bk mo 3 (sw1 u bk mo 2 (sw1 u bk mo 1 (sw1 u bk mo 0 s)))
theorem sw1_f {u : Qd} {bk mo : Int32} {i : Nat} {s : St} (h : s.1 = false) : sw1 u bk mo i s = s := by unfold sw1; rw [if_pos h]
theorem sw1_pre {u : Qd} {bk mo : Int32} {i : Nat} {s : St} {k : Nat} (h : k < s.2.2.2.length) : (sw1 u bk mo i s).2.2.2[k]? = s.2.2.2[k]? ∧ k < (sw1 u bk mo i s).2.2.2.length := by
  unfold sw1
  split
  · exact ⟨rfl, h⟩
  · split
    · exact ⟨rfl, h⟩
    · split
      · exact ⟨rfl, h⟩
      · split
        · exact ⟨rfl, h⟩
        · split
          · exact ⟨List.getElem?_append_left h, by simp; omega⟩
          · exact ⟨rfl, h⟩
/-- the machine's memory holds the search's state s -/
def SS (G : GP) (la : Nat) (mo se : Int32) (M0 M : Mem) (s : St) : Prop := seaA G M s.2.2.2 ∧ lstA G la M s.2.2.1 s.2.1 mo se ∧ s.2.1 ≤ 240 ∧ ∀ z, (z < gB G + 7 ∨ gB G + 494 ≤ z) → (z < gB G + la ∨ gB G + la + 5 ≤ z) → M z = M0 z
section SEA2
variable {G : GP} {M : Mem} {la : Nat} {mo se : Int32} {b q : Nat} {c : Qd}
theorem c_enterA {lst : Nat → Nat → Int64} {S : Nat} (hl : lstA G la M lst S mo se) (hS : S ≤ 240) (h0 : M b = some (eO 1 [.ref q])) (h1 : M q = some (eJ (gT G) 12 (fc c))) {i : Nat} (hi : i < 4) : Con G yX2_enter cX2_enter 5 (some .boolean) 3 0 0 [.ref (gB G + la), .ref b, .int (nI i)] M none (fun v M' n' => v = some (.int (bI (ent lst S c i).1)) ∧ lstA G la M' (ent lst S c i).2.2 (ent lst S c i).2.1 mo se ∧ (∀ z, (z < gB G + la ∨ gB G + la + 5 ≤ z) → M' z = M z) ∧ n' = none) := by
  refine (c_X2_enter hl hS (fun w v _ _ e => by omega) h0 h1 hi).imp ?_
  rintro v M' n' ⟨e1, e2, e3, e4⟩
  exact ⟨e1, e2, fun z hz => e3 z (by omega) (fun w hw => by omega), e4⟩
theorem c_addW {ws : Wt} (hs : seaA G M ws) (hb : M b = some (eO 1 [.ref q])) (hq : M q = some (eJ (gT G) 12 (fc c))) (hqw : ∀ k, k < 241 → q ≠ gB G + 13 + 2 * k) (s : Int32) : Con G yX3_addWaiting cX3_addWaiting 3 (some .boolean) 2 0 0 [.ref (gB G + 7), .ref b, .int s] M none (fun v M' n' => v = some (.int (bI (decide (ws.length < 241)))) ∧ (ws.length < 241 → seaA G M' (ws ++ [(c, s)])) ∧ (¬ ws.length < 241 → seaA G M' ws) ∧ (∀ z, (z < gB G + 7 ∨ gB G + 494 ≤ z) → M' z = M z) ∧ n' = none) := by
  refine (c_X3_addWaiting hs ⟨fun k j _ _ e => by have e : gB G + 13 + 2 * k = gB G + 13 + 2 * j := e; omega, fun k _ => by show gB G + 13 + 2 * k ≠ gB G + 11; omega⟩ hb hq hqw s).imp ?_
  rintro v M' n' ⟨e1, e2, e3, e4, e5⟩
  exact ⟨e1, e2, e3, fun z hz => e4 z (by omega) (by omega) (fun k hk => by omega), e5⟩
theorem c_X3_swapEachWay (hla : la = 494 ∨ la = 499) {M0 : Mem} {s0 : St} (h : SS G la mo se M0 M s0) (hok : s0.1 = true) {k : Nat} {u : Qd} {bk : Int32} (hk : s0.2.2.2[k]? = some (u, bk)) : Con G yX3_swapEachWay cX3_swapEachWay 4 (some .boolean) 4 0 0 [.ref (gB G + 7), .int (nI k), .ref (gB G + la)] M none (fun v M' n' => v = some (.int (bI (sw4 u bk mo s0).1)) ∧ SS G la mo se M0 M' (sw4 u bk mo s0) ∧ n' = none) := by
  generalize hF : sw4 u bk mo s0 = fin
  refine Con.of (by decide +kernel) (Nat.le_of_ble_eq_true rfl) (fun X F hnm => ?_)
  show V G X 0 0 _ M _ 0 [some (.ref (gB G + 7)), some (.int (nI k)), some (.ref (gB G + la)), none] []
  generalize hQ : BQ G X _ 0 0 = Q
  have hkl := (List.getElem?_eq_some_iff.mp hk).1
  have k241 : k < 241 := by have := h.1.2.2.2.2.2.2; omega
  have step : ∀ (i : Nat) (s : St) (M : Mem), i < 4 → s.1 = true → SS G la mo se M0 M s → s.2.2.2[k]? = some (u, bk) → ((sw1 u bk mo i s).1 = false → fin = sw1 u bk mo i s) → (∀ M', (sw1 u bk mo i s).1 = true → SS G la mo se M0 M' (sw1 u bk mo i s) → V G X 0 0 Q M' none 2 [some (.ref (gB G + 7)), some (.int (nI k)), some (.ref (gB G + la)), some (.int (nI (i + 1)))] []) → V G X 0 0 Q M none 2 [some (.ref (gB G + 7)), some (.int (nI k)), some (.ref (gB G + la)), some (.int (nI i))] [] := by
    intro i s M hi hok hs hsk kf kk
    have hs0 := hs
    obtain ⟨hsea, hlst, hS, hfr⟩ := hs
    have hsea0 := hsea
    obtain ⟨h0, ⟨g, h1, h2⟩, ⟨bb, h3, h4⟩, h5, ⟨cn, h6⟩, h7, h8⟩ := hsea
    obtain ⟨w1, cw, w2, w3⟩ := h7 k k241
    have hcw : cw = u := w3 _ hsk
    subst hcw
    have hbk : bb k = bk := h4 k _ hsk
    have hnok : ¬ s.1 = false := by rw [hok]; decide
    unfold sw1 at kf kk
    rw [if_neg hnok] at kf kk
    refine V_iload_n F dX3_swapEachWay_2 rfl ?_
    refine V_iconst F dX3_swapEachWay_3 ki_4 ?_
    refine V_icmp_ge F 93 dX3_swapEachWay_4 (by decide) (fun c4 => absurd c4 (nI_ge hi (by omega))) (fun c4 => ?_)
    refine V_iload_n F dX3_swapEachWay_7 rfl ?_
    refine V_aload_n F dX3_swapEachWay_8 rfl ?_
    refine V_get F fl_X3_17 dX3_swapEachWay_9 (by assumption) rfl ?_
    refine V_iload_n F dX3_swapEachWay_12 rfl ?_
    refine V_ialdN F dX3_swapEachWay_13 (by assumption) _ (by first | rfl | simp only [pk_mul, nI_add, nI_1, nI_inc]) (by omega) (by omega) ?_
    rw [hbk]
    refine V_icmp_eq F 87 dX3_swapEachWay_14 (by decide) (fun c14 => ?_) (fun c14 => ?_)
    · rw [if_pos c14] at kk
      refine V_iinc1 F dX3_swapEachWay_87 rfl ?_
      show V _ _ _ _ _ _ _ _ [_, _, _, _] _
      refine V_goto F 2 dX3_swapEachWay_90 (by decide) ?_
      exact kk M hok hs0
    · rw [if_neg c14] at kf kk
      refine V_aload_n F dX3_swapEachWay_17 rfl ?_
      refine V_get F fl_X3_13 dX3_swapEachWay_18 (by assumption) rfl ?_
      refine V_iload_n F dX3_swapEachWay_21 rfl ?_
      refine V_aaldN F 4 dX3_swapEachWay_22 (by assumption) rfl rfl _ (by first | rfl | simp only [pk_mul, nI_add, nI_1, nI_inc]) (by omega) (by omega) (h2 k k241) ?_
      refine V_iload_n F dX3_swapEachWay_23 rfl ?_
      refine V_iconst F dX3_swapEachWay_24 ki_0 ?_
      refine V_ivR F iv_X3_54 dX3_swapEachWay_25 (As := [_, _]) (c_X1_turned w1 w2 hi (w := 0) (by omega)) (by assumption) rfl rfl rfl rfl ?_
      refine V_aload_n F dX3_swapEachWay_28 rfl ?_
      refine V_get F fl_X3_34 dX3_swapEachWay_29 hlst.1 rfl ?_
      refine V_i2l F dX3_swapEachWay_32 ?_
      refine V_lcmp F dX3_swapEachWay_33 ?_
      refine V_if_le F 40 dX3_swapEachWay_34 (by decide) (fun c34 => ?_) (fun c34 => ?_)
      · rw [lcmp_le] at c34
        rw [if_neg (by rw [Int64.not_lt]; exact c34)] at kf kk
        refine V_aload_n F dX3_swapEachWay_40 rfl ?_
        refine V_get F fl_X3_22 dX3_swapEachWay_41 (by assumption) rfl ?_
        refine V_aload_n F dX3_swapEachWay_44 rfl ?_
        refine V_get F fl_X3_13 dX3_swapEachWay_45 (by assumption) rfl ?_
        refine V_iload_n F dX3_swapEachWay_48 rfl ?_
        refine V_aaldN F 4 dX3_swapEachWay_49 (by assumption) rfl rfl _ (by first | rfl | simp only [pk_mul, nI_add, nI_1, nI_inc]) (by omega) (by omega) (h2 k k241) ?_
        refine V_ivR F iv_X3_58 dX3_swapEachWay_50 (As := [_]) (c_X1_take h5 h6 w1 w2) (by assumption) rfl rfl rfl rfl ?_
        have hsea1 := seaA.next (c := cw) hsea0
        refine V_aload_n F dX3_swapEachWay_53 rfl ?_
        refine V_get F fl_X3_22 dX3_swapEachWay_54 hsea1.1 rfl ?_
        refine V_iload_n F dX3_swapEachWay_57 rfl ?_
        refine V_ivR F iv_X3_62 dX3_swapEachWay_58 (As := [_]) (c_X1_turn hsea1.2.2.2.1 (mset_eq _ _ _) hi) hsea1.2.2.2.1 rfl rfl rfl rfl ?_
        rw [mset_mset]
        have hsea2 := seaA.next (c := turnc cw i) hsea0
        have hlst2 : lstA G la (mset M (gB G + 11) (eJ (gT G) 12 (fc (turnc cw i)))) s.2.2.1 s.2.1 mo se := hlst.frame (fun z z1 z2 => mset_ne _ _ (by omega))
        refine V_aload_n F dX3_swapEachWay_61 rfl ?_
        refine V_aload_n F dX3_swapEachWay_62 rfl ?_
        refine V_get F fl_X3_22 dX3_swapEachWay_63 hsea2.1 rfl ?_
        refine V_iload_n F dX3_swapEachWay_66 rfl ?_
        refine V_ivP F iv_X3_39 dX3_swapEachWay_67 (As := [_, _]) (c_enterA hlst2 hS hsea2.2.2.2.1 (mset_eq _ _ _) hi) hlst2.1 rfl rfl rfl rfl ?_
        rintro v M3 n3 ⟨rfl, hl3, hf3, rfl⟩
        have hS3 := ent_S (lst := s.2.2.1) (S := s.2.1) (c := turnc cw i) (i := i) hS
        generalize ent s.2.2.1 s.2.1 (turnc cw i) i = E at hl3 kf kk hS3 ⊢
        have hsea3 : seaA G M3 s.2.2.2 := hsea2.frame (fun z z1 z2 => hf3 z (by omega))
        have e3 : M3 (gB G + 11) = some (eJ (gT G) 12 (fc (turnc cw i))) := (hf3 _ (by omega)).trans (mset_eq _ _ _)
        have fr3 : ∀ z, (z < gB G + 7 ∨ gB G + 494 ≤ z) → (z < gB G + la ∨ gB G + la + 5 ≤ z) → M3 z = M0 z := fun z z1 z2 => ((hf3 z z2).trans (mset_ne _ _ (by omega))).trans (hfr z z1 z2)
        refine V_if_eq F 85 dX3_swapEachWay_70 (by decide) (fun c70 => ?_) (fun c70 => ?_)
        · rw [bI_0] at c70
          rw [if_pos c70] at kf
          have := kf rfl
          subst hQ
          refine V_iconst F dX3_swapEachWay_85 ki_0 ?_
          exact V_iret F rfl dX3_swapEachWay_86 rfl ⟨rf (by rw [this]), by rw [this]; exact ⟨hsea3, hl3, hS3, fr3⟩, rfl⟩
        · rw [bI_n] at c70
          have c70' : ¬ E.1 = false := by rw [c70]; decide
          rw [if_neg c70'] at kf kk
          refine V_aload_n F dX3_swapEachWay_73 rfl ?_
          refine V_aload_n F dX3_swapEachWay_74 rfl ?_
          refine V_get F fl_X3_22 dX3_swapEachWay_75 hsea3.1 rfl ?_
          refine V_iload_n F dX3_swapEachWay_78 rfl ?_
          refine V_ivP F iv_X3_47 dX3_swapEachWay_79 (As := [_, _]) (c_addW hsea3 hsea3.2.2.2.1 e3 (fun k hk => by omega) _) hsea3.1 rfl rfl rfl rfl ?_
          rintro v M4 n4 ⟨rfl, ha4, hb4, hf4, rfl⟩
          have hl4 : lstA G la M4 E.2.2 E.2.1 mo se := hl3.frame (fun z z1 z2 => hf4 z (by omega))
          have fr4 : ∀ z, (z < gB G + 7 ∨ gB G + 494 ≤ z) → (z < gB G + la ∨ gB G + la + 5 ≤ z) → M4 z = M0 z := fun z z1 z2 => (hf4 z z1).trans (fr3 z z1 z2)
          refine V_if_ne F 87 dX3_swapEachWay_82 (by decide) (fun c82 => ?_) (fun c82 => ?_)
          · rw [bI_n, decide_eq_true_eq] at c82
            rw [if_pos c82] at kk
            refine V_iinc1 F dX3_swapEachWay_87 rfl ?_
            show V _ _ _ _ _ _ _ _ [_, _, _, _] _
            refine V_goto F 2 dX3_swapEachWay_90 (by decide) ?_
            exact kk M4 rfl ⟨ha4 c82, hl4, hS3, fr4⟩
          · rw [bI_0, decide_eq_false_iff_not] at c82
            rw [if_neg c82] at kf
            have := kf rfl
            subst hQ
            refine V_iconst F dX3_swapEachWay_85 ki_0 ?_
            exact V_iret F rfl dX3_swapEachWay_86 rfl ⟨rf (by rw [this]), by rw [this]; exact ⟨hb4 c82, hl4, hS3, fr4⟩, rfl⟩
      · rw [lcmp_le] at c34
        rw [if_pos (Int64.not_le.mp c34)] at kk
        refine V_goto F 87 dX3_swapEachWay_37 (by decide) ?_
        refine V_iinc1 F dX3_swapEachWay_87 rfl ?_
        show V _ _ _ _ _ _ _ _ [_, _, _, _] _
        refine V_goto F 2 dX3_swapEachWay_90 (by decide) ?_
        exact kk M hok hs0
  have fp : ∀ {i s}, sw1 u bk mo i s = sw1 u bk mo i s := rfl
  refine V_iconst F dX3_swapEachWay_0 ki_0 ?_
  refine V_istore_n F dX3_swapEachWay_1 (Nat.le_of_ble_eq_true rfl) ?_
  show V _ _ _ _ _ _ _ _ [_, _, _, _] _
  unfold sw4 at hF
  refine step 0 s0 M (by omega) hok h hk (fun z => by rw [← hF, sw1_f (i := 1) z, sw1_f (i := 2) z, sw1_f (i := 3) z]) (fun M1 q1 p1 => ?_)
  have g1 := sw1_pre (u := u) (bk := bk) (mo := mo) (i := 0) hkl
  refine step 1 _ M1 (by omega) q1 p1 (g1.1.trans hk) (fun z => by rw [← hF, sw1_f (i := 2) z, sw1_f (i := 3) z]) (fun M2 q2 p2 => ?_)
  have g2 := sw1_pre (u := u) (bk := bk) (mo := mo) (i := 1) g1.2
  refine step 2 _ M2 (by omega) q2 p2 (g2.1.trans (g1.1.trans hk)) (fun z => by rw [← hF, sw1_f (i := 3) z]) (fun M3 q3 p3 => ?_)
  have g3 := sw1_pre (u := u) (bk := bk) (mo := mo) (i := 2) g2.2
  refine step 3 _ M3 (by omega) q3 p3 (g3.1.trans (g2.1.trans (g1.1.trans hk))) (fun z => hF.symm) (fun M4 q4 p4 => ?_)
  rw [hF] at q4 p4
  subst hQ
  refine V_iload_n F dX3_swapEachWay_2 rfl ?_
  refine V_iconst F dX3_swapEachWay_3 ki_4 ?_
  refine V_icmp_ge F 93 dX3_swapEachWay_4 (by decide) (fun c4 => ?_) (fun c4 => absurd (by decide) c4)
  refine V_iconst F dX3_swapEachWay_93 ki_1 ?_
  exact V_iret F rfl dX3_swapEachWay_94 rfl ⟨rt q4, p4, rfl⟩
end SEA2
end
section
def g1 (c : Qd) (mo : Int32) (i : Nat) (s : St) : St := if s.1 = false then s else if mo.toInt64 < c i 0 then s else ((ent s.2.2.1 s.2.1 c i).1, (ent s.2.2.1 s.2.1 c i).2.1, (ent s.2.2.1 s.2.1 c i).2.2, s.2.2.2)
def glp (mo : Int32) : Nat → Nat → St → St
  | 0, _, s => s
  | m + 1, n, s => if s.1 = false then s else match s.2.2.2[n]? with
    | none => s
    | some x => glp mo m (n + 1) (sw4 x.1 x.2 mo s)
def g4 (c : Qd) (mo : Int32) (s : St) : St := g1 c mo 3 (g1 c mo 2 (g1 c mo 1 (g1 c mo 0 s)))
def ws0 (c : Qd) (mo : Int32) : Wt := if mo.toInt64 < c (grt c) 0 then [] else [(c, -3)]
def gth (c : Qd) (mo : Int32) (lst : Nat → Nat → Int64) (S : Nat) : St :=
  if (g4 c mo (true, S, lst, [])).1 = false then g4 c mo (true, S, lst, []) else glp mo 241 0 (true, (g4 c mo (true, S, lst, [])).2.1, (g4 c mo (true, S, lst, [])).2.2.1, ws0 c mo)
theorem g1_f {c : Qd} {mo : Int32} {i : Nat} {s : St} (h : s.1 = false) : g1 c mo i s = s := by unfold g1; rw [if_pos h]
theorem glp_f {mo : Int32} {m n : Nat} {s : St} (h : s.1 = false) : glp mo m n s = s := by
  cases m with
  | zero => rfl
  | succ m => unfold glp; rw [if_pos h]
theorem g1_ws {c : Qd} {mo : Int32} {i : Nat} {s : St} : (g1 c mo i s).2.2.2 = s.2.2.2 := by
  unfold g1
  split
  · rfl
  · split <;> rfl
section GATHER
variable {G : GP} {M : Mem} {la : Nat} {mo se : Int32} {b q : Nat} {c : Qd}
theorem c_X3_gather (hla : la = 494 ∨ la = 499) {ws : Wt} {lst : Nat → Nat → Int64} {S : Nat} (hsea : seaA G M ws) (hlst : lstA G la M lst S mo se) (hS : S ≤ 240) (hb : M b = some (eO 1 [.ref q])) (hq : M q = some (eJ (gT G) 12 (fc c))) (hb2 : gB G + 516 ≤ b) (hq2 : gB G + 516 ≤ q) : Con G yX3_gather cX3_gather 4 (some .boolean) 5 0 0 [.ref (gB G + 7), .ref b, .ref (gB G + la)] M none (fun v M' n' => v = some (.int (bI (gth c mo lst S).1)) ∧ (∃ ws', seaA G M' ws') ∧ lstA G la M' (gth c mo lst S).2.2.1 (gth c mo lst S).2.1 mo se ∧ (gth c mo lst S).2.1 ≤ 240 ∧ (∀ z, (z < gB G + 7 ∨ gB G + 494 ≤ z) → (z < gB G + la ∨ gB G + la + 5 ≤ z) → M' z = M z) ∧ n' = none) := by
  generalize hF : gth c mo lst S = fin
  refine Con.of (by decide +kernel) (Nat.le_of_ble_eq_true rfl) (fun X F hnm => ?_)
  show V G X 0 0 _ M _ 0 [some (.ref (gB G + 7)), some (.ref b), some (.ref (gB G + la)), none] []
  generalize hQ : BQ G X _ 0 0 = Q
  have step : ∀ (i : Nat) (s : St) (M1 : Mem), i < 4 → s.1 = true → (seaA G M1 ws ∧ lstA G la M1 s.2.2.1 s.2.1 mo se ∧ s.2.1 ≤ 240 ∧ ∀ z, (z < gB G + la ∨ gB G + la + 5 ≤ z) → M1 z = M z) → ((g1 c mo i s).1 = false → fin.1 = false ∧ fin.2.1 = (g1 c mo i s).2.1 ∧ fin.2.2.1 = (g1 c mo i s).2.2.1) → (∀ M', (g1 c mo i s).1 = true → (seaA G M' ws ∧ lstA G la M' (g1 c mo i s).2.2.1 (g1 c mo i s).2.1 mo se ∧ (g1 c mo i s).2.1 ≤ 240 ∧ ∀ z, (z < gB G + la ∨ gB G + la + 5 ≤ z) → M' z = M z) → V G X 0 0 Q M' none 2 [some (.ref (gB G + 7)), some (.ref b), some (.ref (gB G + la)), some (.int (nI (i + 1)))] []) → V G X 0 0 Q M1 none 2 [some (.ref (gB G + 7)), some (.ref b), some (.ref (gB G + la)), some (.int (nI i))] [] := by
    intro i s M1 hi hok hs kf kk
    have hs0 := hs
    obtain ⟨k1, k2, k3, k4⟩ := hs
    have hb1 := (k4 b (by omega)).trans hb
    have hq1 := (k4 q (by omega)).trans hq
    have hnok : ¬ s.1 = false := by rw [hok]; decide
    unfold g1 at kf kk
    rw [if_neg hnok] at kf kk
    refine V_iload_n F dX3_gather_2 rfl ?_
    refine V_iconst F dX3_gather_3 ki_4 ?_
    refine V_icmp_ge F 38 dX3_gather_4 (by decide) (fun c4 => absurd c4 (nI_ge hi (by omega))) (fun c4 => ?_)
    refine V_aload_n F dX3_gather_7 rfl ?_
    refine V_iload_n F dX3_gather_8 rfl ?_
    refine V_ivR F iv_X3_30 dX3_gather_9 (As := [_]) (c_X1_bend hb1 hq1 hi) (by assumption) rfl rfl rfl rfl ?_
    refine V_aload_n F dX3_gather_12 rfl ?_
    refine V_get F fl_X3_34 dX3_gather_13 k2.1 rfl ?_
    refine V_i2l F dX3_gather_16 ?_
    refine V_lcmp F dX3_gather_17 ?_
    refine V_if_gt F 32 dX3_gather_18 (by decide) (fun c18 => ?_) (fun c18 => ?_)
    · rw [lcmp_gt] at c18
      rw [if_pos c18] at kk
      refine V_iinc1 F dX3_gather_32 rfl ?_
      show V _ _ _ _ _ _ _ _ [_, _, _, _] _
      refine V_goto F 2 dX3_gather_35 (by decide) ?_
      exact kk M1 hok hs0
    · rw [lcmp_gt] at c18
      rw [if_neg c18] at kf kk
      have hS3 := ent_S (lst := s.2.2.1) (S := s.2.1) (c := c) (i := i) k3
      refine V_aload_n F dX3_gather_21 rfl ?_
      refine V_aload_n F dX3_gather_22 rfl ?_
      refine V_iload_n F dX3_gather_23 rfl ?_
      refine V_ivP F iv_X3_39 dX3_gather_24 (As := [_, _]) (c_enterA k2 k3 hb1 hq1 hi) k2.1 rfl rfl rfl rfl ?_
      rintro v M3 n3 ⟨rfl, hl3, hf3, rfl⟩
      generalize ent s.2.2.1 s.2.1 c i = E at hl3 kf kk hS3 ⊢
      have hsea3 : seaA G M3 ws := k1.frame (fun z z1 z2 => hf3 z (by omega))
      have fr3 : ∀ z, (z < gB G + la ∨ gB G + la + 5 ≤ z) → M3 z = M z := fun z z1 => (hf3 z z1).trans (k4 z z1)
      refine V_if_ne F 32 dX3_gather_27 (by decide) (fun c27 => ?_) (fun c27 => ?_)
      · rw [bI_n] at c27
        refine V_iinc1 F dX3_gather_32 rfl ?_
        show V _ _ _ _ _ _ _ _ [_, _, _, _] _
        refine V_goto F 2 dX3_gather_35 (by decide) ?_
        exact kk M3 c27 ⟨hsea3, hl3, hS3, fr3⟩
      · rw [bI_0] at c27
        obtain ⟨f1, f2, f3⟩ := kf c27
        subst hQ
        refine V_iconst F dX3_gather_30 ki_0 ?_
        exact V_iret F rfl dX3_gather_31 rfl ⟨rf f1, ⟨ws, hsea3⟩, by rw [f2, f3]; exact hl3, by rw [f2]; exact hS3, fun z z1 z2 => fr3 z z2, rfl⟩
  have main : ∀ (m n : Nat) (s : St) (M1 : Mem), m + n = 241 → s.1 = true → SS G la mo se M M1 s → glp mo m n s = fin → V G X 0 0 Q M1 none 70 [some (.ref (gB G + 7)), some (.ref b), some (.ref (gB G + la)), some (.int (nI n))] [] := by
    intro m
    induction m with
    | zero =>
      intro n s M1 hm hok hs hg
      have hg : s = fin := hg
      subst hg
      have hlen := hs.1.2.2.2.2.2.2
      obtain ⟨k1, k2, k3, k4⟩ := hs
      subst hQ
      refine V_iload_n F dX3_gather_70 rfl ?_
      refine V_aload_n F dX3_gather_71 rfl ?_
      refine V_get F fl_X3_26 dX3_gather_72 k1.1 rfl ?_
      refine V_icmp_ge F 102 dX3_gather_75 (by decide) (fun c75 => ?_) (fun c75 => absurd (nI_le (by omega) (by omega)) c75)
      refine V_iconst F dX3_gather_102 ki_1 ?_
      exact V_iret F rfl dX3_gather_103 rfl ⟨rt hok, ⟨_, k1⟩, k2, k3, k4, rfl⟩
    | succ m ih =>
      intro n s M1 hm hok hs hg
      have hs0 := hs
      have hlen := hs.1.2.2.2.2.2.2
      obtain ⟨k1, k2, k3, k4⟩ := hs
      have hnok : ¬ s.1 = false := by rw [hok]; decide
      unfold glp at hg
      rw [if_neg hnok] at hg
      refine V_iload_n F dX3_gather_70 rfl ?_
      refine V_aload_n F dX3_gather_71 rfl ?_
      refine V_get F fl_X3_26 dX3_gather_72 k1.1 rfl ?_
      refine V_icmp_ge F 102 dX3_gather_75 (by decide) (fun c75 => ?_) (fun c75 => ?_)
      · have hn : s.2.2.2[n]? = none := by
          rcases Nat.lt_or_ge n s.2.2.2.length with q1 | q1
          · exact absurd c75 (nI_ge q1 (by omega))
          · exact List.getElem?_eq_none q1
        rw [hn] at hg
        subst hg
        subst hQ
        refine V_iconst F dX3_gather_102 ki_1 ?_
        exact V_iret F rfl dX3_gather_103 rfl ⟨rt hok, ⟨_, k1⟩, k2, k3, k4, rfl⟩
      · have hn : n < s.2.2.2.length := Nat.lt_of_not_le (fun z => c75 (nI_le z (by omega)))
        have hu : s.2.2.2[n]? = some s.2.2.2[n] := List.getElem?_eq_getElem hn
        generalize s.2.2.2[n] = x at hu
        obtain ⟨u, bk⟩ := x
        rw [hu] at hg
        have hg : glp mo m (n + 1) (sw4 u bk mo s) = fin := hg
        refine V_iload_n F dX3_gather_78 rfl ?_
        refine V_sipush F dX3_gather_79 ks_241 ?_
        refine V_icmp_ge F 102 dX3_gather_82 (by decide) (fun c82 => absurd c82 (nI_ge (by omega) (by omega))) (fun c82 => ?_)
        refine V_aload_n F dX3_gather_85 rfl ?_
        refine V_iload_n F dX3_gather_86 rfl ?_
        refine V_aload_n F dX3_gather_87 rfl ?_
        refine V_ivP F iv_X3_50 dX3_gather_88 (As := [_, _]) (c_X3_swapEachWay hla hs0 hok hu) k1.1 rfl rfl rfl rfl ?_
        rintro v M2 n2 ⟨rfl, h2, rfl⟩
        refine V_if_ne F 96 dX3_gather_91 (by decide) (fun c91 => ?_) (fun c91 => ?_)
        · rw [bI_n] at c91
          refine V_iinc1 F dX3_gather_96 rfl ?_
          show V _ _ _ _ _ _ _ _ [_, _, _, _] _
          refine V_goto F 70 dX3_gather_99 (by decide) ?_
          exact ih (n + 1) _ M2 (by omega) c91 h2 hg
        · rw [bI_0] at c91
          rw [glp_f c91] at hg
          subst hg
          obtain ⟨j1, j2, j3, j4⟩ := h2
          subst hQ
          refine V_iconst F dX3_gather_94 ki_0 ?_
          exact V_iret F rfl dX3_gather_95 rfl ⟨rf c91, ⟨_, j1⟩, j2, j3, j4, rfl⟩
  have fin4 : (g4 c mo (true, S, lst, [])).1 = false → fin = g4 c mo (true, S, lst, []) := fun z => by rw [← hF]; unfold gth; rw [if_pos z]
  have ff : ∀ s : St, g4 c mo (true, S, lst, []) = s → s.1 = false → fin.1 = false ∧ fin.2.1 = s.2.1 ∧ fin.2.2.1 = s.2.2.1 := fun s e z => by
    subst e
    rw [fin4 z]
    exact ⟨z, rfl, rfl⟩
  refine V_iconst F dX3_gather_0 ki_0 ?_
  refine V_istore_n F dX3_gather_1 (Nat.le_of_ble_eq_true rfl) ?_
  show V _ _ _ _ _ _ _ _ [_, _, _, _] _
  refine step 0 (true, S, lst, []) M (by omega) rfl ⟨hsea, hlst, hS, fun _ _ => rfl⟩ (fun z => ff _ (by unfold g4; rw [g1_f (i := 1) z, g1_f (i := 2) z, g1_f (i := 3) z]) z) (fun M1 q1 p1 => ?_)
  refine step 1 _ M1 (by omega) q1 p1 (fun z => ff _ (by unfold g4; rw [g1_f (i := 2) z, g1_f (i := 3) z]) z) (fun M2 q2 p2 => ?_)
  refine step 2 _ M2 (by omega) q2 p2 (fun z => ff _ (by unfold g4; rw [g1_f (i := 3) z]) z) (fun M3 q3 p3 => ?_)
  refine step 3 _ M3 (by omega) q3 p3 (fun z => ff _ rfl z) (fun M4 q4 p4 => ?_)
  have q4 : (g4 c mo (true, S, lst, [])).1 = true := q4
  have p4 : seaA G M4 ws ∧ lstA G la M4 (g4 c mo (true, S, lst, [])).2.2.1 (g4 c mo (true, S, lst, [])).2.1 mo se ∧ (g4 c mo (true, S, lst, [])).2.1 ≤ 240 ∧ ∀ z, (z < gB G + la ∨ gB G + la + 5 ≤ z) → M4 z = M z := p4
  unfold gth at hF
  rw [if_neg (by rw [q4]; decide)] at hF
  generalize g4 c mo (true, S, lst, []) = s4 at hF p4
  obtain ⟨e1, e2, e3, e4⟩ := p4
  have hb1 := (e4 b (by omega)).trans hb
  have hq1 := (e4 q (by omega)).trans hq
  have hgr := grt_lt c
  refine V_iload_n F dX3_gather_2 rfl ?_
  refine V_iconst F dX3_gather_3 ki_4 ?_
  refine V_icmp_ge F 38 dX3_gather_4 (by decide) (fun c4 => ?_) (fun c4 => absurd (by decide) c4)
  have sea0 : seaA G (mset M4 (gB G + 7) (eO 3 [.ref (gB G + 8), .ref (gB G + 9), .ref (gB G + 10), .int (nI 0)])) [] := by
    obtain ⟨h0, ⟨g, h1, h2⟩, ⟨bb, h3, h4⟩, h5, ⟨cn, h6⟩, h7, h8⟩ := e1
    exact ⟨mset_eq _ _ _, ⟨g, (mset_ne _ _ (by omega)).trans h1, h2⟩, ⟨bb, (mset_ne _ _ (by omega)).trans h3, fun k x hx => by simp at hx⟩, (mset_ne _ _ (by omega)).trans h5, ⟨cn, (mset_ne _ _ (by omega)).trans h6⟩, fun k hk => ⟨(mset_ne _ _ (by show gB G + 12 + 2 * k ≠ gB G + 7; omega)).trans (h7 k hk).1, by
      obtain ⟨-, cc, w, w'⟩ := h7 k hk
      exact ⟨cc, (mset_ne _ _ (by show gB G + 13 + 2 * k ≠ gB G + 7; omega)).trans w, fun x hx => by simp at hx⟩⟩, by simp⟩
  have lst0 : lstA G la (mset M4 (gB G + 7) (eO 3 [.ref (gB G + 8), .ref (gB G + 9), .ref (gB G + 10), .int (nI 0)])) s4.2.2.1 s4.2.1 mo se := e2.frame (fun z z1 z2 => mset_ne _ _ (by omega))
  have fr0 : ∀ z, (z < gB G + 7 ∨ gB G + 494 ≤ z) → (z < gB G + la ∨ gB G + la + 5 ≤ z) → mset M4 (gB G + 7) (eO 3 [.ref (gB G + 8), .ref (gB G + 9), .ref (gB G + 10), .int (nI 0)]) z = M z := fun z z1 z2 => (mset_ne _ _ (by omega)).trans (e4 z z2)
  refine V_aload_n F dX3_gather_38 rfl ?_
  refine V_iconst F dX3_gather_39 ki_0 ?_
  refine V_put F fl_X3_26 dX3_gather_40 e1.1 rfl rfl (Nat.le_of_ble_eq_true rfl) ?_
  show V _ _ _ _ _ (mset M4 (gB G + 7) (eO 3 [.ref (gB G + 8), .ref (gB G + 9), .ref (gB G + 10), .int (nI 0)])) _ _ _ _
  generalize mset M4 (gB G + 7) (eO 3 [.ref (gB G + 8), .ref (gB G + 9), .ref (gB G + 10), .int (nI 0)]) = M5 at sea0 lst0 fr0
  have hb5 := (fr0 b (by omega) (by omega)).trans hb
  have hq5 := (fr0 q (by omega) (by omega)).trans hq
  unfold ws0 at hF
  refine V_aload_n F dX3_gather_43 rfl ?_
  refine V_aload_n F dX3_gather_44 rfl ?_
  refine V_ivR F iv_X3_43 dX3_gather_45 (As := []) (c_X1_greatest hb5 hq5) (by assumption) rfl rfl rfl rfl ?_
  refine V_ivR F iv_X3_30 dX3_gather_48 (As := [_]) (c_X1_bend hb5 hq5 hgr) (by assumption) rfl rfl rfl rfl ?_
  refine V_aload_n F dX3_gather_51 rfl ?_
  refine V_get F fl_X3_34 dX3_gather_52 lst0.1 rfl ?_
  refine V_i2l F dX3_gather_55 ?_
  refine V_lcmp F dX3_gather_56 ?_
  refine V_if_gt F 68 dX3_gather_57 (by decide) (fun c57 => ?_) (fun c57 => ?_)
  · rw [lcmp_gt] at c57
    rw [if_pos c57] at hF
    refine V_iconst F dX3_gather_68 ki_0 ?_
    refine V_istore_n F dX3_gather_69 (Nat.le_of_ble_eq_true rfl) ?_
    show V _ _ _ _ _ _ _ _ [_, _, _, _] _
    exact main 241 0 (true, s4.2.1, s4.2.2.1, []) M5 rfl rfl ⟨sea0, lst0, e3, fr0⟩ hF
  · rw [lcmp_gt] at c57
    rw [if_neg c57] at hF
    refine V_aload_n F dX3_gather_60 rfl ?_
    refine V_aload_n F dX3_gather_61 rfl ?_
    refine V_bipush F dX3_gather_62 kb_m3 ?_
    refine V_ivP F iv_X3_47 dX3_gather_64 (As := [_, _]) (c_addW sea0 hb5 hq5 (fun k hk => by omega) _) sea0.1 rfl rfl rfl rfl ?_
    rintro v M6 n6 ⟨rfl, a1, -, a3, rfl⟩
    refine V_pop F dX3_gather_67 rfl ?_
    refine V_iconst F dX3_gather_68 ki_0 ?_
    refine V_istore_n F dX3_gather_69 (Nat.le_of_ble_eq_true rfl) ?_
    show V _ _ _ _ _ _ _ _ [_, _, _, _] _
    exact main 241 0 (true, s4.2.1, s4.2.2.1, [(c, -3)]) M6 rfl rfl ⟨a1 (by simp), lst0.frame (fun z z1 z2 => a3 z (by omega)), e3, fun z z1 z2 => (a3 z z1).trans (fr0 z z1 z2)⟩ hF
end GATHER
end
section
def inR (x : Int32) (m : Nat) : Bool := decide (0 ≤ x) && decide (x < nI m)
theorem inR_t {x : Int32} {m : Nat} (hm : m < 2 ^ 31) (h : inR x m = true) : ∃ k, k < m ∧ x = nI k := by
  unfold inR at h
  simp only [Bool.and_eq_true, decide_eq_true_eq] at h
  rcases pk_ix x hm with q | q | q
  · exact absurd q (Int32.not_lt.mpr h.1)
  · exact absurd q (Int32.not_le.mpr h.2)
  · exact q
theorem inR_nI {k m : Nat} (hm : m < 2 ^ 31) (h : k < m) : inR (nI k) m = true := by
  unfold inR
  simp only [Bool.and_eq_true, decide_eq_true_eq]
  exact ⟨nI_pos' (by omega), nI_lt h hm⟩
theorem inR_not {x : Int32} {m : Nat} (hm : m < 2 ^ 31) (h : ¬ ∃ k, k < m ∧ x = nI k) : inR x m = false := by
  cases e : inR x m with
  | false => rfl
  | true => exact absurd (inR_t hm e) h
def ix (x : Int32) : Nat := x.toNatClampNeg
theorem ix_nI {k : Nat} (h : k < 2 ^ 31) : ix (nI k) = k := nI_clamp h
abbrev Sg : Type := (Nat → Int32) × (Nat → Nat) × (Nat → Nat → Int64) × Nat × (Nat → Qd) × (Nat → Int32) × (Nat → Int32) × (Nat → Nat → Int64) × Nat × Nat × Int32
abbrev sKd (s : Sg) : Nat → Int32 := s.1
abbrev sLn (s : Sg) : Nat → Nat := s.2.1
abbrev sPl (s : Sg) : Nat → Nat → Int64 := s.2.2.1
abbrev sNq (s : Sg) : Nat := s.2.2.2.1
abbrev sQc (s : Sg) : Nat → Qd := s.2.2.2.2.1
abbrev sQf (s : Sg) : Nat → Int32 := s.2.2.2.2.2.1
abbrev sQs (s : Sg) : Nat → Int32 := s.2.2.2.2.2.2.1
abbrev sLst (s : Sg) : Nat → Nat → Int64 := s.2.2.2.2.2.2.2.1
abbrev sS (s : Sg) : Nat := s.2.2.2.2.2.2.2.2.1
abbrev sMo (s : Sg) : Nat := s.2.2.2.2.2.2.2.2.2.1
abbrev sSe (s : Sg) : Int32 := s.2.2.2.2.2.2.2.2.2.2
def bkA (G : GP) (M : Mem) (nq la lb : Nat) : Prop := M (gB G) = some (eO 6 [.ref (gB G + 1), .ref (gB G + 2), .int (nI nq), .ref (gB G + 3), .ref (gB G + 5), .ref (gB G + 7), .ref (gB G + la), .ref (gB G + lb)])
def bkJ (G : GP) (M : Mem) : Prop := (∃ g, M (gB G + 1) = some (eQ (gT G) 2 6 g) ∧ ∀ r, r < 6 → g r = some (gB G + 504 + 2 * r)) ∧ (∃ g, M (gB G + 2) = some (eQ (gT G) 3 60 g) ∧ ∀ k, k < 60 → g k = some (gB G + 516 + 5 * k)) ∧ M (gB G + 3) = some (eO 1 [.ref (gB G + 4)]) ∧ (∃ c, M (gB G + 4) = some (eJ (gT G) 12 (fc c))) ∧ (∃ e f, M (gB G + 5) = some (eO 5 [.ref (gB G + 6), e]) ∧ M (gB G + 6) = some (eI (gT G) 3840 f)) ∧ ∃ ws, seaA G M ws
def bkL (G : GP) (M : Mem) (la lb : Nat) (lst : Nat → Nat → Int64) (S mo : Nat) (se : Int32) : Prop := lstA G la M lst S (nI mo) se ∧ S ≤ 240 ∧ mo ≤ 2000 ∧ ∃ lst' S' mo' se', lstA G lb M lst' S' mo' se'
def bagO (G : GP) (M : Mem) (kd : Nat → Int32) (ln : Nat → Nat) (pl : Nat → Nat → Int64) (r : Nat) : Prop := M (gB G + 504 + 2 * r) = some (eO 0 [.ref (gB G + 505 + 2 * r), .int (kd r), .int (nI (ln r))]) ∧ M (gB G + 505 + 2 * r) = some (eJ (gT G) 24 (pl r)) ∧ ln r ≤ 24
def bkG (G : GP) (M : Mem) (kd : Nat → Int32) (ln : Nat → Nat) (pl : Nat → Nat → Int64) : Prop := ∀ r, r < 6 → bagO G M kd ln pl r
def quadO (G : GP) (M : Mem) (k : Nat) (c d : Qd) (v2 v3 v4 : Value) : Prop := M (gB G + 516 + 5 * k) = some (eO 4 [.ref (gB G + 517 + 5 * k), .ref (gB G + 519 + 5 * k), v2, v3, v4]) ∧ M (gB G + 517 + 5 * k) = some (eO 1 [.ref (gB G + 518 + 5 * k)]) ∧ M (gB G + 518 + 5 * k) = some (eJ (gT G) 12 (fc c)) ∧ M (gB G + 519 + 5 * k) = some (eO 1 [.ref (gB G + 520 + 5 * k)]) ∧ M (gB G + 520 + 5 * k) = some (eJ (gT G) 12 (fc d))
def bkQ (G : GP) (M : Mem) (nq : Nat) (qc : Nat → Qd) (qf qs : Nat → Int32) : Prop := ∀ k, k < 60 → (k < nq → quadO G M k (qc k) (gd 100000 (qc k)).2 (.int (qf k)) (.int (nI (gd 100000 (qc k)).1)) (.int (qs k))) ∧ ∃ c d v2 v3 v4, quadO G M k c d v2 v3 v4
def InvC (G : GP) (M : Mem) (s : Sg) : Prop := ∃ la lb, ((la = 494 ∧ lb = 499) ∨ (la = 499 ∧ lb = 494)) ∧ bkA G M (sNq s) la lb ∧ bkJ G M ∧ bkL G M la lb (sLst s) (sS s) (sMo s) (sSe s) ∧ bkG G M (sKd s) (sLn s) (sPl s) ∧ bkQ G M (sNq s) (sQc s) (sQf s) (sQs s) ∧ sNq s ≤ 60
theorem bkJ.frame {G : GP} {M M' : Mem} (h : bkJ G M) (e : ∀ z, gB G + 1 ≤ z → z < gB G + 494 → M' z = M z) : bkJ G M' := by
  obtain ⟨⟨g1, a1, a2⟩, ⟨g2, b1, b2⟩, c1, ⟨c, c2⟩, ⟨x, f, d1, d2⟩, ⟨ws, w⟩⟩ := h
  exact ⟨⟨g1, (e _ (by omega) (by omega)).trans a1, a2⟩, ⟨g2, (e _ (by omega) (by omega)).trans b1, b2⟩, (e _ (by omega) (by omega)).trans c1, ⟨c, (e _ (by omega) (by omega)).trans c2⟩, ⟨x, f, (e _ (by omega) (by omega)).trans d1, (e _ (by omega) (by omega)).trans d2⟩, ⟨ws, w.frame (fun z z1 z2 => e z (by omega) z2)⟩⟩
theorem bkL.frame {G : GP} {M M' : Mem} {la lb : Nat} {lst : Nat → Nat → Int64} {S mo : Nat} {se : Int32} (hl : (la = 494 ∧ lb = 499) ∨ (la = 499 ∧ lb = 494)) (h : bkL G M la lb lst S mo se) (e : ∀ z, gB G + 494 ≤ z → z < gB G + 504 → M' z = M z) : bkL G M' la lb lst S mo se := by
  obtain ⟨h1, h2, h3, l', S', m', s', h4⟩ := h
  exact ⟨h1.frame (fun z z1 z2 => e z (by omega) (by omega)), h2, h3, l', S', m', s', h4.frame (fun z z1 z2 => e z (by omega) (by omega))⟩
theorem bkG.frame {G : GP} {M M' : Mem} {kd : Nat → Int32} {ln : Nat → Nat} {pl : Nat → Nat → Int64} (h : bkG G M kd ln pl) (e : ∀ z, gB G + 504 ≤ z → z < gB G + 516 → M' z = M z) : bkG G M' kd ln pl := fun r hr => ⟨(e _ (by omega) (by omega)).trans (h r hr).1, (e _ (by omega) (by omega)).trans (h r hr).2.1, (h r hr).2.2⟩
theorem quadO.frame {G : GP} {M M' : Mem} {k : Nat} {c d : Qd} {v2 v3 v4 : Value} (h : quadO G M k c d v2 v3 v4) (e : ∀ z, gB G + 516 + 5 * k ≤ z → z < gB G + 521 + 5 * k → M' z = M z) : quadO G M' k c d v2 v3 v4 := ⟨(e _ (by omega) (by omega)).trans h.1, (e _ (by omega) (by omega)).trans h.2.1, (e _ (by omega) (by omega)).trans h.2.2.1, (e _ (by omega) (by omega)).trans h.2.2.2.1, (e _ (by omega) (by omega)).trans h.2.2.2.2⟩
theorem bkQ.frame {G : GP} {M M' : Mem} {nq : Nat} {qc : Nat → Qd} {qf qs : Nat → Int32} (h : bkQ G M nq qc qf qs) (e : ∀ z, gB G + 516 ≤ z → z < gB G + 816 → M' z = M z) : bkQ G M' nq qc qf qs := fun k hk => by
  obtain ⟨h1, c, d, v2, v3, v4, h2⟩ := h k hk
  exact ⟨fun q => (h1 q).frame (fun z z1 z2 => e z (by omega) (by omega)), c, d, v2, v3, v4, h2.frame (fun z z1 z2 => e z (by omega) (by omega))⟩
/-- the post of a method of the class: answer, next state, nothing else changed -/
def PC (G : GP) (M : Mem) (v : Int32) (s : Sg) : Option Value → Mem → Option Nat → Prop := fun v' M' n' => v' = some (.int v) ∧ InvC G M' s ∧ (∀ z, z < gB G ∨ gB G + 816 ≤ z → M' z = M z) ∧ n' = none
section CLS
variable {G : GP} {M : Mem} {n : Option Nat} {s : Sg}
theorem c_X6_isBag (x : Int32) : Con G yX6_isBag cX6_isBag 1 (some .boolean) 0 0 0 [.int x] M n (R1 (some (.int (bI (inR x 6)))) M n) := by
  refine Con.of (by decide +kernel) (Nat.le_of_ble_eq_true rfl) (fun X F hnm => ?_)
  show V G X 0 0 _ M _ 0 [some (.int x)] []
  refine V_iload_n F dX6_isBag_0 rfl ?_
  refine V_if_lt F 14 dX6_isBag_1 (by decide) (fun c1 => ?_) (fun c1 => ?_)
  · refine V_iconst F dX6_isBag_14 ki_0 ?_
    exact V_iret F rfl dX6_isBag_15 rfl ⟨rf (by simp only [inR, Bool.and_eq_false_iff]; exact Or.inl (decide_eq_false (Int32.not_le.mpr c1))), rfl, rfl⟩
  · refine V_iload_n F dX6_isBag_4 rfl ?_
    refine V_bipush F dX6_isBag_5 kb_6 ?_
    refine V_icmp_ge F 14 dX6_isBag_7 (by decide) (fun c7 => ?_) (fun c7 => ?_)
    · refine V_iconst F dX6_isBag_14 ki_0 ?_
      exact V_iret F rfl dX6_isBag_15 rfl ⟨rf (by simp only [inR, Bool.and_eq_false_iff]; exact Or.inr (decide_eq_false (Int32.not_lt.mpr c7))), rfl, rfl⟩
    · refine V_iconst F dX6_isBag_10 ki_1 ?_
      refine V_goto F 15 dX6_isBag_11 (by decide) ?_
      exact V_iret F rfl dX6_isBag_15 rfl ⟨rt (by simp only [inR, Bool.and_eq_true]; exact ⟨decide_eq_true (Int32.not_lt.mp c1), decide_eq_true (Int32.not_le.mp c7)⟩), rfl, rfl⟩
theorem c_X6_isCoin (x : Int32) : Con G yX6_isCoin cX6_isCoin 1 (some .boolean) 0 0 0 [.int x] M n (R1 (some (.int (bI (inR x 4)))) M n) := by
  refine Con.of (by decide +kernel) (Nat.le_of_ble_eq_true rfl) (fun X F hnm => ?_)
  show V G X 0 0 _ M _ 0 [some (.int x)] []
  refine V_iload_n F dX6_isCoin_0 rfl ?_
  refine V_if_lt F 13 dX6_isCoin_1 (by decide) (fun c1 => ?_) (fun c1 => ?_)
  · refine V_iconst F dX6_isCoin_13 ki_0 ?_
    exact V_iret F rfl dX6_isCoin_14 rfl ⟨rf (by simp only [inR, Bool.and_eq_false_iff]; exact Or.inl (decide_eq_false (Int32.not_le.mpr c1))), rfl, rfl⟩
  · refine V_iload_n F dX6_isCoin_4 rfl ?_
    refine V_iconst F dX6_isCoin_5 ki_4 ?_
    refine V_icmp_ge F 13 dX6_isCoin_6 (by decide) (fun c6 => ?_) (fun c6 => ?_)
    · refine V_iconst F dX6_isCoin_13 ki_0 ?_
      exact V_iret F rfl dX6_isCoin_14 rfl ⟨rf (by simp only [inR, Bool.and_eq_false_iff]; exact Or.inr (decide_eq_false (Int32.not_lt.mpr c6))), rfl, rfl⟩
    · refine V_iconst F dX6_isCoin_9 ki_1 ?_
      refine V_goto F 14 dX6_isCoin_10 (by decide) ?_
      exact V_iret F rfl dX6_isCoin_14 rfl ⟨rt (by simp only [inR, Bool.and_eq_true]; exact ⟨decide_eq_true (Int32.not_lt.mp c1), decide_eq_true (Int32.not_le.mp c6)⟩), rfl, rfl⟩
theorem lt3 (x : Int32) : x < nI 3 ↔ ¬ nI 2 < x := by
  rw [Int32.lt_iff_toInt_lt, Int32.lt_iff_toInt_lt, nI_toInt (by omega), nI_toInt (by omega)]
  omega
theorem c_X6_isWhat (x : Int32) : Con G yX6_isWhat cX6_isWhat 1 (some .boolean) 0 0 0 [.int x] M n (R1 (some (.int (bI (inR x 3)))) M n) := by
  refine Con.of (by decide +kernel) (Nat.le_of_ble_eq_true rfl) (fun X F hnm => ?_)
  show V G X 0 0 _ M _ 0 [some (.int x)] []
  refine V_iload_n F dX6_isWhat_0 rfl ?_
  refine V_if_lt F 13 dX6_isWhat_1 (by decide) (fun c1 => ?_) (fun c1 => ?_)
  · refine V_iconst F dX6_isWhat_13 ki_0 ?_
    exact V_iret F rfl dX6_isWhat_14 rfl ⟨rf (by simp only [inR, Bool.and_eq_false_iff]; exact Or.inl (decide_eq_false (Int32.not_le.mpr c1))), rfl, rfl⟩
  · refine V_iload_n F dX6_isWhat_4 rfl ?_
    refine V_iconst F dX6_isWhat_5 ki_2 ?_
    refine V_icmp_gt F 13 dX6_isWhat_6 (by decide) (fun c6 => ?_) (fun c6 => ?_)
    · refine V_iconst F dX6_isWhat_13 ki_0 ?_
      exact V_iret F rfl dX6_isWhat_14 rfl ⟨rf (by simp only [inR, Bool.and_eq_false_iff]; exact Or.inr (decide_eq_false (fun z => (lt3 x).mp z c6))), rfl, rfl⟩
    · refine V_iconst F dX6_isWhat_9 ki_1 ?_
      refine V_goto F 14 dX6_isWhat_10 (by decide) ?_
      exact V_iret F rfl dX6_isWhat_14 rfl ⟨rt (by simp only [inR, Bool.and_eq_true]; exact ⟨decide_eq_true (Int32.not_lt.mp c1), decide_eq_true ((lt3 x).mpr c6)⟩), rfl, rfl⟩
theorem c_X6_isQuad {nq la lb : Nat} (h : bkA G M nq la lb) (x : Int32) : Con G yX6_isQuad cX6_isQuad 2 (some .boolean) 0 0 0 [.ref (gB G), .int x] M n (R1 (some (.int (bI (inR x nq)))) M n) := by
  unfold bkA at h
  refine Con.of (by decide +kernel) (Nat.le_of_ble_eq_true rfl) (fun X F hnm => ?_)
  show V G X 0 0 _ M _ 0 [some (.ref (gB G)), some (.int x)] []
  refine V_iload_n F dX6_isQuad_0 rfl ?_
  refine V_if_lt F 16 dX6_isQuad_1 (by decide) (fun c1 => ?_) (fun c1 => ?_)
  · refine V_iconst F dX6_isQuad_16 ki_0 ?_
    exact V_iret F rfl dX6_isQuad_17 rfl ⟨rf (by simp only [inR, Bool.and_eq_false_iff]; exact Or.inl (decide_eq_false (Int32.not_le.mpr c1))), rfl, rfl⟩
  · refine V_iload_n F dX6_isQuad_4 rfl ?_
    refine V_aload_n F dX6_isQuad_5 rfl ?_
    refine V_get F fl_X6_21 dX6_isQuad_6 (by assumption) rfl ?_
    refine V_icmp_ge F 16 dX6_isQuad_9 (by decide) (fun c9 => ?_) (fun c9 => ?_)
    · refine V_iconst F dX6_isQuad_16 ki_0 ?_
      exact V_iret F rfl dX6_isQuad_17 rfl ⟨rf (by simp only [inR, Bool.and_eq_false_iff]; exact Or.inr (decide_eq_false (Int32.not_lt.mpr c9))), rfl, rfl⟩
    · refine V_iconst F dX6_isQuad_12 ki_1 ?_
      refine V_goto F 17 dX6_isQuad_13 (by decide) ?_
      exact V_iret F rfl dX6_isQuad_17 rfl ⟨rt (by simp only [inR, Bool.and_eq_true]; exact ⟨decide_eq_true (Int32.not_lt.mp c1), decide_eq_true (Int32.not_le.mp c9)⟩), rfl, rfl⟩
def fbt (i j : Nat) : Nat := if 0 ≠ i ∧ 0 ≠ j then 0 else if 1 ≠ i ∧ 1 ≠ j then 1 else 2
theorem c_X6_firstBut {i j : Nat} (hi : i < 4) (hj : j < 4) : Con G yX6_firstBut cX6_firstBut 3 (some .int) 0 0 0 [.int (nI i), .int (nI j)] M n (R1 (some (.int (nI (fbt i j)))) M n) := by
  refine Con.of (by decide +kernel) (Nat.le_of_ble_eq_true rfl) (fun X F hnm => ?_)
  show V G X 0 0 _ M _ 0 [some (.int (nI i)), some (.int (nI j)), none] []
  have step : ∀ k : Nat, k < 2 → (¬ (k ≠ i ∧ k ≠ j) → V G X 0 0 (BQ G X (R1 (some (.int (nI (fbt i j)))) M n) 0 0) M n 2 [some (.int (nI i)), some (.int (nI j)), some (.int (nI (k + 1)))] []) → (k ≠ i ∧ k ≠ j → fbt i j = k) → V G X 0 0 (BQ G X (R1 (some (.int (nI (fbt i j)))) M n) 0 0) M n 2 [some (.int (nI i)), some (.int (nI j)), some (.int (nI k))] [] := by
    intro k hk kk kf
    refine V_iload_n F dX6_firstBut_2 rfl ?_
    refine V_iconst F dX6_firstBut_3 ki_2 ?_
    refine V_icmp_ge F 25 dX6_firstBut_4 (by decide) (fun c4 => absurd c4 (nI_ge hk (by omega))) (fun c4 => ?_)
    refine V_iload_n F dX6_firstBut_7 rfl ?_
    refine V_iload_n F dX6_firstBut_8 rfl ?_
    refine V_icmp_eq F 19 dX6_firstBut_9 (by decide) (fun c9 => ?_) (fun c9 => ?_)
    · rw [nI_eq (by omega) (by omega)] at c9
      refine V_iinc1 F dX6_firstBut_19 rfl ?_
      show V _ _ _ _ _ _ _ _ [_, _, _] _
      refine V_goto F 2 dX6_firstBut_22 (by decide) ?_
      exact kk (fun z => z.1 c9)
    · rw [nI_eq (by omega) (by omega)] at c9
      refine V_iload_n F dX6_firstBut_12 rfl ?_
      refine V_iload_n F dX6_firstBut_13 rfl ?_
      refine V_icmp_eq F 19 dX6_firstBut_14 (by decide) (fun c14 => ?_) (fun c14 => ?_)
      · rw [nI_eq (by omega) (by omega)] at c14
        refine V_iinc1 F dX6_firstBut_19 rfl ?_
        show V _ _ _ _ _ _ _ _ [_, _, _] _
        refine V_goto F 2 dX6_firstBut_22 (by decide) ?_
        exact kk (fun z => z.2 c14)
      · rw [nI_eq (by omega) (by omega)] at c14
        refine V_iload_n F dX6_firstBut_17 rfl ?_
        exact V_iret F rfl dX6_firstBut_18 rfl ⟨by rw [kf ⟨c9, c14⟩], rfl, rfl⟩
  refine V_iconst F dX6_firstBut_0 ki_0 ?_
  refine V_istore_n F dX6_firstBut_1 (Nat.le_of_ble_eq_true rfl) ?_
  show V _ _ _ _ _ _ _ _ [_, _, _] _
  refine step 0 (by omega) (fun q0 => step 1 (by omega) (fun q1 => ?_) (fun z => ?_)) (fun z => ?_)
  · refine V_iload_n F dX6_firstBut_2 rfl ?_
    refine V_iconst F dX6_firstBut_3 ki_2 ?_
    refine V_icmp_ge F 25 dX6_firstBut_4 (by decide) (fun c4 => ?_) (fun c4 => absurd (by decide) c4)
    refine V_iconst F dX6_firstBut_25 ki_2 ?_
    exact V_iret F rfl dX6_firstBut_26 rfl ⟨by unfold fbt; rw [if_neg q0, if_neg q1], rfl, rfl⟩
  · unfold fbt; rw [if_neg q0, if_pos z]
  · unfold fbt; rw [if_pos z]
end CLS
end
section
theorem hasP_t {i m : Int32} {len : Nat} (hl : len < 2 ^ 31) (h : hasP i m (nI len) = true) : ∃ a b, i = nI a ∧ m = nI b ∧ a + b ≤ len := by
  unfold hasP at h
  simp only [Bool.and_eq_true, decide_eq_true_eq] at h
  obtain ⟨h1, h2, h3⟩ := h
  obtain ⟨a, ha, rfl⟩ := nI_of (Int32.not_lt.mpr h1)
  obtain ⟨b, hb, rfl⟩ := nI_of (Int32.not_lt.mpr h2)
  refine ⟨a, b, rfl, rfl, ?_⟩
  rw [nI_l ha, nI_l hb, nI_l hl, lN_add, Int64.le_iff_toInt_le, pk_lT (by omega), pk_lT (by omega)] at h3
  omega
def rop (s : Sg) (r i m : Int32) : Int32 := if inR r 6 = false then -1 else if sKd s (ix r) = -1 then -11 else if hasP i m (nI (sLn s (ix r))) = true then nI 0 else -12
def ubag (s : Sg) (j : Nat) (k : Int32) (len : Nat) (f : Nat → Int64) : Sg := (fun r => if r = j then k else sKd s r, fun r => if r = j then len else sLn s r, fun r => if r = j then f else sPl s r, s.2.2.2)
theorem InvC.bag {G : GP} {M : Mem} {s : Sg} (h : InvC G M s) {j : Nat} (hj : j < 6) (k : Int32) {len : Nat} (hl : len ≤ 24) (f : Nat → Int64) : InvC G (mset (mset M (gB G + 504 + 2 * j) (eO 0 [.ref (gB G + 505 + 2 * j), .int k, .int (nI len)])) (gB G + 505 + 2 * j) (eJ (gT G) 24 f)) (ubag s j k len f) := by
  obtain ⟨la, lb, hlab, hA, hJ, hL, hG, hQ, h60⟩ := h
  have fr : ∀ z, (z < gB G + 504 ∨ gB G + 516 ≤ z) → mset (mset M (gB G + 504 + 2 * j) (eO 0 [.ref (gB G + 505 + 2 * j), .int k, .int (nI len)])) (gB G + 505 + 2 * j) (eJ (gT G) 24 f) z = M z := fun z hz => by rw [mset_ne _ _ (by omega), mset_ne _ _ (by omega)]
  refine ⟨la, lb, hlab, (fr _ (by omega)).trans hA, hJ.frame (fun z z1 z2 => fr z (by omega)), hL.frame hlab (fun z z1 z2 => fr z (by omega)), fun r hr => ?_, hQ.frame (fun z z1 z2 => fr z (by omega)), h60⟩
  by_cases q : r = j
  · subst q
    refine ⟨?_, ?_, ?_⟩
    · rw [mset_ne _ _ (by omega), mset_eq]
      simp [ubag, sKd, sLn, sPl]
    · rw [mset_eq]
      simp [ubag, sKd, sLn, sPl]
    · simp only [ubag, sLn, if_pos]; exact hl
  · obtain ⟨b1, b2, b3⟩ := hG r hr
    refine ⟨?_, ?_, ?_⟩
    · rw [mset_ne _ _ (by omega), mset_ne _ _ (by omega), b1]
      simp [ubag, sKd, sLn, sPl, q]
    · rw [mset_ne _ _ (by omega), mset_ne _ _ (by omega), b2]
      simp [ubag, sKd, sLn, sPl, q]
    · simp only [ubag, sLn, if_neg q]; exact b3
theorem InvC.pl {G : GP} {M : Mem} {s : Sg} (h : InvC G M s) {j : Nat} (hj : j < 6) (f : Nat → Int64) : InvC G (mset M (gB G + 505 + 2 * j) (eJ (gT G) 24 f)) (ubag s j (sKd s j) (sLn s j) f) := by
  have h0 := h
  obtain ⟨la, lb, hlab, hA, hJ, hL, hG, hQ, h60⟩ := h
  obtain ⟨b1, b2, b3⟩ := hG j hj
  have := h0.bag hj (sKd s j) b3 f
  rw [mset_self b1] at this
  exact this
def S_bag (s : Sg) (r k m : Int32) : Int32 × Sg :=
  if inR r 6 = false ∨ k < -1 ∨ nI 2 < k then (-1, s) else if k = -1 then (nI 0, ubag s (ix r) (-1) 0 (fun _ => 0)) else if nI 24 < m then (-1, s) else if m < 0 then (-13, s) else (nI 0, ubag s (ix r) k (ix m) (fun _ => 0))
def S_put (s : Sg) (r i : Int32) (v : Int64) : Int32 × Sg :=
  if rop s r i (nI 1) = 0 then (nI 0, ubag s (ix r) (sKd s (ix r)) (sLn s (ix r)) (va_up (sPl s (ix r)) (ix i) (cutv (sKd s (ix r)) v))) else (rop s r i (nI 1), s)
def S_holds (s : Sg) (r i : Int32) (v : Int64) : Int32 := if rop s r i (nI 1) = 0 then bI (sPl s (ix r) (ix i) == v) else rop s r i (nI 1)
def S_copy (s : Sg) (r i t j m : Int32) : Int32 × Sg :=
  if inR r 6 = false ∨ inR t 6 = false then (-1, s) else if sKd s (ix r) = -1 ∨ sKd s (ix t) = -1 then (-11, s) else if sKd s (ix r) ≠ sKd s (ix t) then (-14, s) else
  if hasP i m (nI (sLn s (ix r))) = true ∧ hasP j m (nI (sLn s (ix t))) = true then (nI 0, ubag s (ix t) (sKd s (ix t)) (sLn s (ix t)) (va_cpy (sPl s (ix r)) (sPl s (ix t)) (ix i) (ix j) (ix m))) else (-12, s)
section CLS1
variable {G : GP} {M : Mem} {s : Sg}
theorem c_X6_refusalOfPlaces {n : Option Nat} (h : InvC G M s) (r i m : Int32) : Con G yX6_refusalOfPlaces cX6_refusalOfPlaces 4 (some .int) 1 0 0 [.ref (gB G), .int r, .int i, .int m] M n (R1 (some (.int (rop s r i m))) M n) := by
  obtain ⟨la, lb, hlab, hA, ⟨⟨gb, j1, j2⟩, -⟩, hL, hG, hQ, h60⟩ := h
  unfold bkA at hA
  generalize hR : rop s r i m = R
  unfold rop at hR
  refine Con.of (by decide +kernel) (Nat.le_of_ble_eq_true rfl) (fun X F hnm => ?_)
  show V G X 0 0 _ M _ 0 [some (.ref (gB G)), some (.int r), some (.int i), some (.int m)] []
  refine V_iload_n F dX6_refusalOfPlaces_0 rfl ?_
  refine V_isR F is_X6_58 dX6_refusalOfPlaces_1 (As := [_]) (c_X6_isBag _) rfl rfl rfl ?_
  refine V_if_ne F 9 dX6_refusalOfPlaces_4 (by decide) (fun c4 => ?_) (fun c4 => ?_)
  · rw [bI_n] at c4
    rw [if_neg (by rw [c4]; decide)] at hR
    obtain ⟨k, hk, rfl⟩ := inR_t (by omega) c4
    obtain ⟨b1, b2, b3⟩ := hG k hk
    rw [ix_nI (by omega)] at hR
    refine V_aload_n F dX6_refusalOfPlaces_9 rfl ?_
    refine V_get F fl_X6_11 dX6_refusalOfPlaces_10 (by assumption) rfl ?_
    refine V_iload_n F dX6_refusalOfPlaces_13 rfl ?_
    refine V_aaldN F 2 dX6_refusalOfPlaces_14 (by assumption) rfl rfl _ (by first | rfl | simp only [pk_mul, nI_add, nI_1, nI_inc]) (by omega) (by omega) (j2 k hk) ?_
    refine V_get F fl_X6_74 dX6_refusalOfPlaces_15 (by assumption) rfl ?_
    refine V_iconst F dX6_refusalOfPlaces_18 ki_m1 ?_
    refine V_icmp_ne F 25 dX6_refusalOfPlaces_19 (by decide) (fun c19 => ?_) (fun c19 => ?_)
    · rw [if_neg c19] at hR
      refine V_aload_n F dX6_refusalOfPlaces_25 rfl ?_
      refine V_get F fl_X6_11 dX6_refusalOfPlaces_26 (by assumption) rfl ?_
      refine V_iload_n F dX6_refusalOfPlaces_29 rfl ?_
      refine V_aaldN F 2 dX6_refusalOfPlaces_30 (by assumption) rfl rfl _ (by first | rfl | simp only [pk_mul, nI_add, nI_1, nI_inc]) (by omega) (by omega) (j2 k hk) ?_
      refine V_iload_n F dX6_refusalOfPlaces_31 rfl ?_
      refine V_iload_n F dX6_refusalOfPlaces_32 rfl ?_
      refine V_ivR F iv_X6_77 dX6_refusalOfPlaces_33 (As := [_, _]) (c_X0_hasPlaces b1 _ _) (by assumption) rfl rfl rfl rfl ?_
      refine V_if_eq F 43 dX6_refusalOfPlaces_36 (by decide) (fun c36 => ?_) (fun c36 => ?_)
      · rw [bI_0] at c36
        rw [if_neg (by rw [c36]; decide)] at hR
        subst hR
        refine V_bipush F dX6_refusalOfPlaces_43 kb_m12 ?_
        exact V_iret F rfl dX6_refusalOfPlaces_45 rfl ⟨rfl, rfl, rfl⟩
      · rw [bI_n] at c36
        rw [if_pos c36] at hR
        subst hR
        refine V_iconst F dX6_refusalOfPlaces_39 ki_0 ?_
        refine V_goto F 45 dX6_refusalOfPlaces_40 (by decide) ?_
        exact V_iret F rfl dX6_refusalOfPlaces_45 rfl ⟨rfl, rfl, rfl⟩
    · rw [if_pos c19] at hR
      subst hR
      refine V_bipush F dX6_refusalOfPlaces_22 kb_m11 ?_
      exact V_iret F rfl dX6_refusalOfPlaces_24 rfl ⟨rfl, rfl, rfl⟩
  · rw [bI_0] at c4
    rw [if_pos c4] at hR
    subst hR
    refine V_iconst F dX6_refusalOfPlaces_7 ki_m1 ?_
    exact V_iret F rfl dX6_refusalOfPlaces_8 rfl ⟨rfl, rfl, rfl⟩
theorem rop_0 {s : Sg} {r i m : Int32} (hb : ∀ k, k < 6 → sLn s k ≤ 24) (h : rop s r i m = 0) : ∃ k a b, k < 6 ∧ r = nI k ∧ i = nI a ∧ m = nI b ∧ a + b ≤ sLn s k ∧ a + b ≤ 24 := by
  unfold rop at h
  by_cases h1 : inR r 6 = false
  · rw [if_pos h1] at h; exact absurd h (by decide)
  · rw [if_neg h1] at h
    by_cases h2 : sKd s (ix r) = -1
    · rw [if_pos h2] at h; exact absurd h (by decide)
    · rw [if_neg h2] at h
      by_cases h3 : hasP i m (nI (sLn s (ix r))) = true
      · obtain ⟨k, hk, rfl⟩ := inR_t (x := r) (m := 6) (by omega) (by simpa using h1)
        rw [ix_nI (by omega)] at h3
        have := hb k hk
        obtain ⟨a, b, h4, h5, h6⟩ := hasP_t (by omega) h3
        exact ⟨k, a, b, hk, rfl, h4, h5, h6, by omega⟩
      · rw [if_neg h3] at h; exact absurd h (by decide)
theorem InvC.ln {G : GP} {M : Mem} {s : Sg} (h : InvC G M s) : ∀ k, k < 6 → sLn s k ≤ 24 := fun k hk => by
  obtain ⟨la, lb, hlab, hA, hJ, hL, hG, hQ, h60⟩ := h
  exact (hG k hk).2.2
theorem c_X6_put (h : InvC G M s) (r i : Int32) (v : Int64) : Con G yX6_put cX6_put 6 (some .int) 2 0 0 [.ref (gB G), .int r, .int i, .long v] M none (PC G M (S_put s r i v).1 (S_put s r i v).2) := by
  have hI := h
  obtain ⟨la, lb, hlab, hA, ⟨⟨gb, j1, j2⟩, -⟩, hL, hG, hQ, h60⟩ := h
  unfold bkA at hA
  generalize hR : S_put s r i v = R
  unfold S_put at hR
  refine Con.of (by decide +kernel) (Nat.le_of_ble_eq_true rfl) (fun X F hnm => ?_)
  show V G X 0 0 _ M _ 0 [some (.ref (gB G)), some (.int r), some (.int i), some (.long v), none, none] []
  refine V_aload_n F dX6_put_0 rfl ?_
  refine V_iload_n F dX6_put_1 rfl ?_
  refine V_iload_n F dX6_put_2 rfl ?_
  refine V_iconst F dX6_put_3 ki_1 ?_
  refine V_ivR F iv_X6_66 dX6_put_4 (As := [_, _, _]) (c_X6_refusalOfPlaces hI _ _ _) (by assumption) rfl rfl rfl rfl ?_
  refine V_istore F dX6_put_7 (Nat.le_of_ble_eq_true rfl) ?_
  show V _ _ _ _ _ _ _ _ [_, _, _, _, _, _] _
  refine V_iload F dX6_put_9 rfl ?_
  refine V_if_eq F 17 dX6_put_11 (by decide) (fun c11 => ?_) (fun c11 => ?_)
  · rw [if_pos c11] at hR
    obtain ⟨k, a, b, hk, rfl, rfl, hb, hab, hab2⟩ := rop_0 hI.ln c11
    have hb1 : 1 = b := (nI_eq (by omega) (by omega)).mp hb
    rw [ix_nI (by omega), ix_nI (by omega)] at hR
    obtain ⟨b1, b2, b3⟩ := hG k hk
    subst hR
    refine V_aload_n F dX6_put_17 rfl ?_
    refine V_get F fl_X6_11 dX6_put_18 (by assumption) rfl ?_
    refine V_iload_n F dX6_put_21 rfl ?_
    refine V_aaldN F 2 dX6_put_22 (by assumption) rfl rfl _ (by first | rfl | simp only [pk_mul, nI_add, nI_1, nI_inc]) (by omega) (by omega) (j2 k hk) ?_
    refine V_iload_n F dX6_put_23 rfl ?_
    refine V_lload_n F dX6_put_24 rfl ?_
    refine V_ivR F iv_X6_70 dX6_put_25 (As := [_, _]) (c_X0_keep b1 b2 (by omega) v) (by assumption) rfl rfl rfl rfl ?_
    refine V_iconst F dX6_put_28 ki_0 ?_
    exact V_iret F rfl dX6_put_29 rfl ⟨rfl, hI.pl hk _, fun z hz => mset_ne _ _ (by omega), rfl⟩
  · rw [if_neg c11] at hR
    subst hR
    refine V_iload F dX6_put_14 rfl ?_
    exact V_iret F rfl dX6_put_16 rfl ⟨rfl, hI, fun _ _ => rfl, rfl⟩
theorem c_X6_holds (h : InvC G M s) (r i : Int32) (v : Int64) : Con G yX6_holds cX6_holds 6 (some .int) 2 0 0 [.ref (gB G), .int r, .int i, .long v] M none (PC G M (S_holds s r i v) s) := by
  have hI := h
  obtain ⟨la, lb, hlab, hA, ⟨⟨gb, j1, j2⟩, -⟩, hL, hG, hQ, h60⟩ := h
  unfold bkA at hA
  generalize hR : S_holds s r i v = R
  unfold S_holds at hR
  refine Con.of (by decide +kernel) (Nat.le_of_ble_eq_true rfl) (fun X F hnm => ?_)
  show V G X 0 0 _ M _ 0 [some (.ref (gB G)), some (.int r), some (.int i), some (.long v), none, none] []
  refine V_aload_n F dX6_holds_0 rfl ?_
  refine V_iload_n F dX6_holds_1 rfl ?_
  refine V_iload_n F dX6_holds_2 rfl ?_
  refine V_iconst F dX6_holds_3 ki_1 ?_
  refine V_ivR F iv_X6_66 dX6_holds_4 (As := [_, _, _]) (c_X6_refusalOfPlaces hI _ _ _) (by assumption) rfl rfl rfl rfl ?_
  refine V_istore F dX6_holds_7 (Nat.le_of_ble_eq_true rfl) ?_
  show V _ _ _ _ _ _ _ _ [_, _, _, _, _, _] _
  refine V_iload F dX6_holds_9 rfl ?_
  refine V_if_eq F 17 dX6_holds_11 (by decide) (fun c11 => ?_) (fun c11 => ?_)
  · rw [if_pos c11] at hR
    obtain ⟨k, a, b, hk, rfl, rfl, hb, hab, hab2⟩ := rop_0 hI.ln c11
    have hb1 : 1 = b := (nI_eq (by omega) (by omega)).mp hb
    rw [ix_nI (by omega), ix_nI (by omega)] at hR
    obtain ⟨b1, b2, b3⟩ := hG k hk
    refine V_aload_n F dX6_holds_17 rfl ?_
    refine V_get F fl_X6_11 dX6_holds_18 (by assumption) rfl ?_
    refine V_iload_n F dX6_holds_21 rfl ?_
    refine V_aaldN F 2 dX6_holds_22 (by assumption) rfl rfl _ (by first | rfl | simp only [pk_mul, nI_add, nI_1, nI_inc]) (by omega) (by omega) (j2 k hk) ?_
    refine V_get F fl_X6_81 dX6_holds_23 (by assumption) rfl ?_
    refine V_iload_n F dX6_holds_26 rfl ?_
    refine V_laldN F dX6_holds_27 (by assumption) _ (by first | rfl | simp only [pk_mul, nI_add, nI_1, nI_inc]) (by omega) (by omega) ?_
    refine V_lload_n F dX6_holds_28 rfl ?_
    refine V_lcmp F dX6_holds_29 ?_
    refine V_if_ne F 37 dX6_holds_30 (by decide) (fun c30 => ?_) (fun c30 => ?_)
    · rw [lcmp_eq] at c30
      subst hR
      refine V_iconst F dX6_holds_37 ki_0 ?_
      exact V_iret F rfl dX6_holds_38 rfl ⟨rf (by simpa using c30), hI, fun _ _ => rfl, rfl⟩
    · rw [lcmp_eq] at c30
      subst hR
      refine V_iconst F dX6_holds_33 ki_1 ?_
      refine V_goto F 38 dX6_holds_34 (by decide) ?_
      exact V_iret F rfl dX6_holds_38 rfl ⟨rt (by simpa using c30), hI, fun _ _ => rfl, rfl⟩
  · rw [if_neg c11] at hR
    subst hR
    refine V_iload F dX6_holds_14 rfl ?_
    exact V_iret F rfl dX6_holds_16 rfl ⟨rfl, hI, fun _ _ => rfl, rfl⟩
theorem c_X6_bag (h : InvC G M s) (r k m : Int32) : Con G yX6_bag cX6_bag 4 (some .int) 2 0 0 [.ref (gB G), .int r, .int k, .int m] M none (PC G M (S_bag s r k m).1 (S_bag s r k m).2) := by
  have hI := h
  obtain ⟨la, lb, hlab, hA, ⟨⟨gb, j1, j2⟩, -⟩, hL, hG, hQ, h60⟩ := h
  unfold bkA at hA
  generalize hR : S_bag s r k m = R
  unfold S_bag at hR
  refine Con.of (by decide +kernel) (Nat.le_of_ble_eq_true rfl) (fun X F hnm => ?_)
  show V G X 0 0 _ M _ 0 [some (.ref (gB G)), some (.int r), some (.int k), some (.int m)] []
  have bad : (inR r 6 = false ∨ k < -1 ∨ nI 2 < k) → V G X 0 0 (BQ G X (PC G M R.1 R.2) 0 0) M none 17 [some (.ref (gB G)), some (.int r), some (.int k), some (.int m)] [] := by
    intro z
    rw [if_pos z] at hR
    subst hR
    refine V_iconst F dX6_bag_17 ki_m1 ?_
    exact V_iret F rfl dX6_bag_18 rfl ⟨rfl, hI, fun _ _ => rfl, rfl⟩
  refine V_iload_n F dX6_bag_0 rfl ?_
  refine V_isR F is_X6_58 dX6_bag_1 (As := [_]) (c_X6_isBag _) rfl rfl rfl ?_
  refine V_if_eq F 17 dX6_bag_4 (by decide) (fun c4 => ?_) (fun c4 => ?_)
  · rw [bI_0] at c4
    exact bad (Or.inl c4)
  · rw [bI_n] at c4
    obtain ⟨j, hj, rfl⟩ := inR_t (by omega) c4
    obtain ⟨b1, b2, b3⟩ := hG j hj
    refine V_iload_n F dX6_bag_7 rfl ?_
    refine V_iconst F dX6_bag_8 ki_m1 ?_
    refine V_icmp_lt F 17 dX6_bag_9 (by decide) (fun c9 => ?_) (fun c9 => ?_)
    · exact bad (Or.inr (Or.inl c9))
    · refine V_iload_n F dX6_bag_12 rfl ?_
      refine V_iconst F dX6_bag_13 ki_2 ?_
      refine V_icmp_le F 19 dX6_bag_14 (by decide) (fun c14 => ?_) (fun c14 => ?_)
      · rw [if_neg (fun z => by
          rcases z with z | z | z
          · rw [c4] at z; cases z
          · exact c9 z
          · exact absurd z (Int32.not_lt.mpr c14)), ix_nI (by omega)] at hR
        refine V_iload_n F dX6_bag_19 rfl ?_
        refine V_iconst F dX6_bag_20 ki_m1 ?_
        refine V_icmp_ne F 37 dX6_bag_21 (by decide) (fun c21 => ?_) (fun c21 => ?_)
        · rw [if_neg c21] at hR
          refine V_iload_n F dX6_bag_37 rfl ?_
          refine V_bipush F dX6_bag_38 kb_24 ?_
          refine V_icmp_le F 45 dX6_bag_40 (by decide) (fun c40 => ?_) (fun c40 => ?_)
          · rw [if_neg (Int32.not_lt.mpr c40)] at hR
            refine V_iload_n F dX6_bag_45 rfl ?_
            refine V_if_ge F 52 dX6_bag_46 (by decide) (fun c46 => ?_) (fun c46 => ?_)
            · rw [if_neg (Int32.not_lt.mpr c46)] at hR
              obtain ⟨q, hq, rfl⟩ := nI_of (Int32.not_lt.mpr c46)
              have hq2 : q ≤ 24 := (nI_leI (b := 24) (by omega) (by omega)).mp c40
              rw [ix_nI hq] at hR
              subst hR
              refine V_aload_n F dX6_bag_52 rfl ?_
              refine V_get F fl_X6_11 dX6_bag_53 (by assumption) rfl ?_
              refine V_iload_n F dX6_bag_56 rfl ?_
              refine V_aaldN F 2 dX6_bag_57 (by assumption) rfl rfl _ (by first | rfl | simp only [pk_mul, nI_add, nI_1, nI_inc]) (by omega) (by omega) (j2 j hj) ?_
              refine V_iload_n F dX6_bag_58 rfl ?_
              refine V_iload_n F dX6_bag_59 rfl ?_
              refine V_ivR F iv_X6_62 dX6_bag_60 (As := [_, _]) (c_X0_become b1 b2 _ _) (by assumption) rfl rfl rfl rfl ?_
              refine V_iconst F dX6_bag_63 ki_0 ?_
              exact V_iret F rfl dX6_bag_64 rfl ⟨rfl, hI.bag hj k hq2 _, fun z hz => by rw [mset_ne _ _ (by omega), mset_ne _ _ (by omega)], rfl⟩
            · rw [if_pos (Int32.not_le.mp c46)] at hR
              subst hR
              refine V_bipush F dX6_bag_49 kb_m13 ?_
              exact V_iret F rfl dX6_bag_51 rfl ⟨rfl, hI, fun _ _ => rfl, rfl⟩
          · rw [if_pos (Int32.not_le.mp c40)] at hR
            subst hR
            refine V_iconst F dX6_bag_43 ki_m1 ?_
            exact V_iret F rfl dX6_bag_44 rfl ⟨rfl, hI, fun _ _ => rfl, rfl⟩
        · subst c21
          rw [if_pos rfl] at hR
          subst hR
          refine V_aload_n F dX6_bag_24 rfl ?_
          refine V_get F fl_X6_11 dX6_bag_25 (by assumption) rfl ?_
          refine V_iload_n F dX6_bag_28 rfl ?_
          refine V_aaldN F 2 dX6_bag_29 (by assumption) rfl rfl _ (by first | rfl | simp only [pk_mul, nI_add, nI_1, nI_inc]) (by omega) (by omega) (j2 j hj) ?_
          refine V_iconst F dX6_bag_30 ki_m1 ?_
          refine V_iconst F dX6_bag_31 ki_0 ?_
          refine V_ivR F iv_X6_62 dX6_bag_32 (As := [_, _]) (c_X0_become b1 b2 _ _) (by assumption) rfl rfl rfl rfl ?_
          refine V_iconst F dX6_bag_35 ki_0 ?_
          exact V_iret F rfl dX6_bag_36 rfl ⟨rfl, hI.bag hj (-1) (Nat.zero_le _) _, fun z hz => by rw [mset_ne _ _ (by omega), mset_ne _ _ (by omega)], rfl⟩
      · exact bad (Or.inr (Or.inr (Int32.not_le.mp c14)))
theorem c_X6_copy (h : InvC G M s) (r i t j m : Int32) : Con G yX6_copy cX6_copy 8 (some .int) 1 0 0 [.ref (gB G), .int r, .int i, .int t, .int j, .int m] M none (PC G M (S_copy s r i t j m).1 (S_copy s r i t j m).2) := by
  have hI := h
  obtain ⟨la, lb, hlab, hA, ⟨⟨gb, j1, j2⟩, -⟩, hL, hG, hQ, h60⟩ := h
  unfold bkA at hA
  generalize hR : S_copy s r i t j m = R
  unfold S_copy at hR
  refine Con.of (by decide +kernel) (Nat.le_of_ble_eq_true rfl) (fun X F hnm => ?_)
  show V G X 0 0 _ M _ 0 [some (.ref (gB G)), some (.int r), some (.int i), some (.int t), some (.int j), some (.int m), none, none] []
  have bad : (inR r 6 = false ∨ inR t 6 = false) → V G X 0 0 (BQ G X (PC G M R.1 R.2) 0 0) M none 14 [some (.ref (gB G)), some (.int r), some (.int i), some (.int t), some (.int j), some (.int m), none, none] [] := by
    intro z
    rw [if_pos z] at hR
    subst hR
    refine V_iconst F dX6_copy_14 ki_m1 ?_
    exact V_iret F rfl dX6_copy_15 rfl ⟨rfl, hI, fun _ _ => rfl, rfl⟩
  refine V_iload_n F dX6_copy_0 rfl ?_
  refine V_isR F is_X6_58 dX6_copy_1 (As := [_]) (c_X6_isBag _) rfl rfl rfl ?_
  refine V_if_eq F 14 dX6_copy_4 (by decide) (fun c4 => ?_) (fun c4 => ?_)
  · rw [bI_0] at c4
    exact bad (Or.inl c4)
  · rw [bI_n] at c4
    refine V_iload_n F dX6_copy_7 rfl ?_
    refine V_isR F is_X6_58 dX6_copy_8 (As := [_]) (c_X6_isBag _) rfl rfl rfl ?_
    refine V_if_ne F 16 dX6_copy_11 (by decide) (fun c11 => ?_) (fun c11 => ?_)
    · rw [bI_n] at c11
      rw [if_neg (fun z => by
          rcases z with z | z
          · rw [c4] at z; cases z
          · rw [c11] at z; cases z)] at hR
      obtain ⟨a, ha, rfl⟩ := inR_t (by omega) c4
      obtain ⟨b, hb, rfl⟩ := inR_t (by omega) c11
      obtain ⟨b1, b2, b3⟩ := hG a ha
      obtain ⟨d1, d2, d3⟩ := hG b hb
      rw [ix_nI (by omega), ix_nI (by omega)] at hR
      have null : (sKd s a = -1 ∨ sKd s b = -1) → V G X 0 0 (BQ G X (PC G M R.1 R.2) 0 0) M none 50 [some (.ref (gB G)), some (.int (nI a)), some (.int i), some (.int (nI b)), some (.int j), some (.int m), some (.ref (gB G + 504 + 2 * a)), some (.ref (gB G + 504 + 2 * b))] [] := by
        intro z
        rw [if_pos z] at hR
        subst hR
        refine V_bipush F dX6_copy_50 kb_m11 ?_
        exact V_iret F rfl dX6_copy_52 rfl ⟨rfl, hI, fun _ _ => rfl, rfl⟩
      refine V_aload_n F dX6_copy_16 rfl ?_
      refine V_get F fl_X6_11 dX6_copy_17 (by assumption) rfl ?_
      refine V_iload_n F dX6_copy_20 rfl ?_
      refine V_aaldN F 2 dX6_copy_21 (by assumption) rfl rfl _ (by first | rfl | simp only [pk_mul, nI_add, nI_1, nI_inc]) (by omega) (by omega) (j2 a ha) ?_
      refine V_astore F dX6_copy_22 (Nat.le_of_ble_eq_true rfl) ?_
      show V _ _ _ _ _ _ _ _ [_, _, _, _, _, _, _, _] _
      refine V_aload_n F dX6_copy_24 rfl ?_
      refine V_get F fl_X6_11 dX6_copy_25 (by assumption) rfl ?_
      refine V_iload_n F dX6_copy_28 rfl ?_
      refine V_aaldN F 2 dX6_copy_29 (by assumption) rfl rfl _ (by first | rfl | simp only [pk_mul, nI_add, nI_1, nI_inc]) (by omega) (by omega) (j2 b hb) ?_
      refine V_astore F dX6_copy_30 (Nat.le_of_ble_eq_true rfl) ?_
      show V _ _ _ _ _ _ _ _ [_, _, _, _, _, _, _, _] _
      refine V_aload F dX6_copy_32 rfl ?_
      refine V_get F fl_X6_74 dX6_copy_34 (by assumption) rfl ?_
      refine V_iconst F dX6_copy_37 ki_m1 ?_
      refine V_icmp_eq F 50 dX6_copy_38 (by decide) (fun c38 => ?_) (fun c38 => ?_)
      · exact null (Or.inl c38)
      · refine V_aload F dX6_copy_41 rfl ?_
        refine V_get F fl_X6_74 dX6_copy_43 (by assumption) rfl ?_
        refine V_iconst F dX6_copy_46 ki_m1 ?_
        refine V_icmp_ne F 53 dX6_copy_47 (by decide) (fun c47 => ?_) (fun c47 => ?_)
        · rw [if_neg (fun z => z.elim c38 c47)] at hR
          refine V_aload F dX6_copy_53 rfl ?_
          refine V_get F fl_X6_74 dX6_copy_55 (by assumption) rfl ?_
          refine V_aload F dX6_copy_58 rfl ?_
          refine V_get F fl_X6_74 dX6_copy_60 (by assumption) rfl ?_
          refine V_icmp_eq F 69 dX6_copy_63 (by decide) (fun c63 => ?_) (fun c63 => ?_)
          · rw [if_neg (fun z => z c63)] at hR
            have out : ¬ (hasP i m (nI (sLn s a)) = true ∧ hasP j m (nI (sLn s b)) = true) → V G X 0 0 (BQ G X (PC G M R.1 R.2) 0 0) M none 92 [some (.ref (gB G)), some (.int (nI a)), some (.int i), some (.int (nI b)), some (.int j), some (.int m), some (.ref (gB G + 504 + 2 * a)), some (.ref (gB G + 504 + 2 * b))] [] := by
              intro z
              rw [if_neg z] at hR
              subst hR
              refine V_bipush F dX6_copy_92 kb_m12 ?_
              exact V_iret F rfl dX6_copy_94 rfl ⟨rfl, hI, fun _ _ => rfl, rfl⟩
            refine V_aload F dX6_copy_69 rfl ?_
            refine V_iload_n F dX6_copy_71 rfl ?_
            refine V_iload F dX6_copy_72 rfl ?_
            refine V_ivR F iv_X6_77 dX6_copy_74 (As := [_, _]) (c_X0_hasPlaces b1 _ _) (by assumption) rfl rfl rfl rfl ?_
            refine V_if_eq F 92 dX6_copy_77 (by decide) (fun c77 => ?_) (fun c77 => ?_)
            · rw [bI_0] at c77
              exact out (fun z => by rw [c77] at z; cases z.1)
            · rw [bI_n] at c77
              refine V_aload F dX6_copy_80 rfl ?_
              refine V_iload F dX6_copy_82 rfl ?_
              refine V_iload F dX6_copy_84 rfl ?_
              refine V_ivR F iv_X6_77 dX6_copy_86 (As := [_, _]) (c_X0_hasPlaces d1 _ _) (by assumption) rfl rfl rfl rfl ?_
              refine V_if_ne F 95 dX6_copy_89 (by decide) (fun c89 => ?_) (fun c89 => ?_)
              · rw [bI_n] at c89
                rw [if_pos ⟨c77, c89⟩] at hR
                obtain ⟨i', m', rfl, rfl, h1⟩ := hasP_t (by omega) c77
                obtain ⟨j', m2, rfl, hmm, h2⟩ := hasP_t (by omega) c89
                have hmm : m' = m2 := (nI_eq (by omega) (by omega)).mp hmm
                subst hmm
                rw [ix_nI (by omega), ix_nI (by omega), ix_nI (by omega)] at hR
                subst hR
                refine V_aload F dX6_copy_95 rfl ?_
                refine V_get F fl_X6_81 dX6_copy_97 (by assumption) rfl ?_
                refine V_iload_n F dX6_copy_100 rfl ?_
                refine V_aload F dX6_copy_101 rfl ?_
                refine V_get F fl_X6_81 dX6_copy_103 (by assumption) rfl ?_
                refine V_iload F dX6_copy_106 rfl ?_
                refine V_iload F dX6_copy_108 rfl ?_
                refine V_acopy F ac_X6_85 dX6_copy_110 b2 d2 i' j' m' rfl rfl rfl (by omega) (by omega) (by omega) (by omega) (by decide) (Nat.le_of_ble_eq_true rfl) ?_
                refine V_iconst F dX6_copy_113 ki_0 ?_
                exact V_iret F rfl dX6_copy_114 rfl ⟨rfl, hI.pl hb _, fun z hz => mset_ne _ _ (by omega), rfl⟩
              · rw [bI_0] at c89
                exact out (fun z => by rw [c89] at z; cases z.2)
          · rw [if_pos c63] at hR
            subst hR
            refine V_bipush F dX6_copy_66 kb_m14 ?_
            exact V_iret F rfl dX6_copy_68 rfl ⟨rfl, hI, fun _ _ => rfl, rfl⟩
        · exact null (Or.inr c47)
    · rw [bI_0] at c11
      exact bad (Or.inr c11)
end CLS1
end
section
theorem InvC.junk {G : GP} {M M' : Mem} {s : Sg} (h : InvC G M s) (hJ' : bkJ G M') (e : ∀ z, (z < gB G + 1 ∨ gB G + 494 ≤ z) → M' z = M z) : InvC G M' s := by
  obtain ⟨la, lb, hlab, hA, hJ, hL, hG, hQ, h60⟩ := h
  exact ⟨la, lb, hlab, (e _ (by omega)).trans hA, hJ', hL.frame hlab (fun z z1 z2 => e z (by omega)), hG.frame (fun z z1 z2 => e z (by omega)), hQ.frame (fun z z1 z2 => e z (by omega)), h60⟩
theorem InvC.desk {G : GP} {M : Mem} {s : Sg} (h : InvC G M s) (c : Qd) : InvC G (mset M (gB G + 4) (eJ (gT G) 12 (fc c))) s := by
  refine h.junk ?_ (fun z hz => mset_ne _ _ (by omega))
  obtain ⟨la, lb, hlab, hA, ⟨⟨g1, a1, a2⟩, ⟨g2, b1, b2⟩, c1, ⟨c0, c2⟩, ⟨x, f, d1, d2⟩, ⟨ws, w⟩⟩, hL, hG, hQ, h60⟩ := h
  exact ⟨⟨g1, (mset_ne _ _ (by omega)).trans a1, a2⟩, ⟨g2, (mset_ne _ _ (by omega)).trans b1, b2⟩, (mset_ne _ _ (by omega)).trans c1, ⟨c, mset_eq _ _ _⟩, ⟨x, f, (mset_ne _ _ (by omega)).trans d1, (mset_ne _ _ (by omega)).trans d2⟩, ⟨ws, w.frame (fun z z1 z2 => mset_ne _ _ (by omega))⟩⟩
def uquad (s : Sg) (c : Qd) (fr se : Int32) : Sg := (s.1, s.2.1, s.2.2.1, sNq s + 1, fun k => if k = sNq s then c else sQc s k, fun k => if k = sNq s then fr else sQf s k, fun k => if k = sNq s then se else sQs s k, s.2.2.2.2.2.2.2)
def cof (f : Nat → Int64) (i : Nat) : Qd := fun j w => f (i + (4 * w + j))
def sn (c : Qd) : Int32 := gat 3840 0 [cod c 4] (nI 0)
def S_quad (s : Sg) (r i : Int32) : Int32 × Sg :=
  if rop s r i (nI 12) = 0 then
    if rfs (cof (sPl s (ix r)) (ix i)) = 0 then
      if sNq s < 60 then (nI (sNq s), uquad s (cof (sPl s (ix r)) (ix i)) (-3) (sn (cof (sPl s (ix r)) (ix i)))) else (-2, s)
    else (rfs (cof (sPl s (ix r)) (ix i)), s)
  else (rop s r i (nI 12), s)
def S_swap (s : Sg) (q i : Int32) : Int32 × Sg :=
  if inR q (sNq s) = false ∨ inR i 4 = false then (-1, s) else
  if cRef (turnc (sQc s (ix q)) (ix i)) (ix i) = 0 then
    if sNq s < 60 then (nI (sNq s), uquad s (turnc (sQc s (ix q)) (ix i)) q (sQs s (ix q))) else (-2, s)
  else (cRef (turnc (sQc s (ix q)) (ix i)) (ix i), s)
def S_coin (s : Sg) (q i w : Int32) : Int32 := if inR q (sNq s) = true ∧ inR i 4 = true ∧ inR w 3 = true then (sQc s (ix q) (ix i) (ix w)).toInt32 else -20000000
def S_root (s : Sg) (q i w : Int32) : Int32 := if inR q (sNq s) = true ∧ inR i 4 = true ∧ inR w 3 = true then ((gd 100000 (sQc s (ix q))).2 (ix i) (ix w)).toInt32 else -20000000
def S_from (s : Sg) (q : Int32) : Int32 := if inR q (sNq s) = true then sQf s (ix q) else -1
def S_seen (s : Sg) (q : Int32) : Int32 := if inR q (sNq s) = true then sQs s (ix q) else -1
def S_steps (s : Sg) (q : Int32) : Int32 := if inR q (sNq s) = true then nI (gd 100000 (sQc s (ix q))).1 else -1
def S_step (s : Sg) (q k : Int32) : Int32 := if inR q (sNq s) = false ∨ k < 0 then -1 else if nI (gd 100000 (sQc s (ix q))).1 ≤ k then -3 else nI (grt (gd (ix k) (sQc s (ix q))).2)
def S_same (s : Sg) (q r : Int32) : Int32 := if inR q (sNq s) = false ∨ inR r (sNq s) = false then -1 else bI (hbo (gd 100000 (sQc s (ix q))).2 (gd 100000 (sQc s (ix r))).2 4)
def S_touch (s : Sg) (q i r j : Int32) : Int32 := if inR q (sNq s) = true ∧ inR i 4 = true ∧ inR r (sNq s) = true ∧ inR j 4 = true then bI (tch (sQc s (ix q)) (ix i) (sQc s (ix r)) (ix j)) else -1
theorem gd_le (m : Nat) (c : Qd) : (gd m c).1 ≤ m := by
  induction m generalizing c with
  | zero => exact Nat.le_refl _
  | succ m ih =>
    unfold gd
    split
    · exact Nat.succ_le_succ (ih _)
    · exact Nat.zero_le _
theorem bI_r {b : Bool} {P : Int32 → Prop} (h1 : b = true → P (nI 1)) (h0 : b = false → P (nI 0)) : P (bI b) := by
  cases b
  · exact h0 rfl
  · exact h1 rfl
section CLS2
variable {G : GP} {M : Mem} {s : Sg}
theorem c_X6_keepDesk (h : InvC G M s) {c : Qd} (hd : M (gB G + 4) = some (eJ (gT G) 12 (fc c))) (hn : sNq s < 60) (fr se : Int32) : Con G yX6_keepDesk cX6_keepDesk 3 (some .int) 6 0 0 [.ref (gB G), .int fr, .int se] M none (PC G M (nI (sNq s)) (uquad s c fr se)) := by
  have hI := h
  obtain ⟨la, lb, hlab, hA, hJ, hL, hG, hQ, h60⟩ := h
  have hJ0 := hJ
  obtain ⟨⟨gb, j1, j2⟩, ⟨gq, j3, j4⟩, j5, ⟨cd, j6⟩, j7⟩ := hJ
  unfold bkA at hA
  obtain ⟨-, c1, c2, v2, v3, v4, q1, q2, q3, q4, q5⟩ := hQ (sNq s) hn
  refine Con.of (by decide +kernel) (Nat.le_of_ble_eq_true rfl) (fun X F hnm => ?_)
  show V G X 0 0 _ M _ 0 [some (.ref (gB G)), some (.int fr), some (.int se)] []
  refine V_aload_n F dX6_keepDesk_0 rfl ?_
  refine V_get F fl_X6_17 dX6_keepDesk_1 (by assumption) rfl ?_
  refine V_aload_n F dX6_keepDesk_4 rfl ?_
  refine V_get F fl_X6_21 dX6_keepDesk_5 (by assumption) rfl ?_
  refine V_aaldN F 3 dX6_keepDesk_8 (by assumption) rfl rfl _ (by first | rfl | simp only [pk_mul, nI_add, nI_1, nI_inc]) (by omega) (by omega) (j4 _ hn) ?_
  refine V_aload_n F dX6_keepDesk_9 rfl ?_
  refine V_get F fl_X6_28 dX6_keepDesk_10 (by assumption) rfl ?_
  refine V_iload_n F dX6_keepDesk_13 rfl ?_
  refine V_iload_n F dX6_keepDesk_14 rfl ?_
  refine V_ivR F iv_X6_189 dX6_keepDesk_15 (As := [_, _, _]) (c_X4_become q1 q2 q3 q4 q5 j5 hd (by omega) (by omega) fr se) (by assumption) rfl rfl rfl rfl ?_
  generalize hM' : mset (mset (mset M (gB G + 518 + 5 * sNq s) (eJ (gT G) 12 (fc c))) (gB G + 520 + 5 * sNq s) (eJ (gT G) 12 (fc (gd 100000 c).2))) (gB G + 516 + 5 * sNq s) (eO 4 [.ref (gB G + 517 + 5 * sNq s), .ref (gB G + 519 + 5 * sNq s), .int fr, .int (nI (gd 100000 c).1), .int se]) = M'
  have fr' : ∀ z, z ≠ gB G + 518 + 5 * sNq s → z ≠ gB G + 520 + 5 * sNq s → z ≠ gB G + 516 + 5 * sNq s → M' z = M z := fun z z1 z2 z3 => by rw [← hM', mset_ne _ _ z3, mset_ne _ _ z2, mset_ne _ _ z1]
  have hA' := (fr' (gB G) (by omega) (by omega) (by omega)).trans hA
  refine V_aload_n F dX6_keepDesk_18 rfl ?_
  refine V_dup F dX6_keepDesk_19 rfl ?_
  refine V_get F fl_X6_21 dX6_keepDesk_20 (by assumption) rfl ?_
  refine V_iconst F dX6_keepDesk_23 ki_1 ?_
  refine V_iadd F dX6_keepDesk_24 ?_
  rw [nI_add]
  refine V_put F fl_X6_21 dX6_keepDesk_25 (by assumption) rfl rfl (Nat.le_of_ble_eq_true rfl) ?_
  refine V_aload_n F dX6_keepDesk_28 rfl ?_
  refine V_get F fl_X6_21 dX6_keepDesk_29 (mset_eq _ _ _) rfl ?_
  refine V_iconst F dX6_keepDesk_32 ki_1 ?_
  refine V_isub F dX6_keepDesk_33 ?_
  rw [pk_sub (by omega), Nat.add_sub_cancel]
  refine V_iret F rfl dX6_keepDesk_34 rfl ⟨rfl, ?fin, fun z hz => by rw [mset_ne _ _ (by omega), fr' z (by omega) (by omega) (by omega)], rfl⟩
  have e : ∀ z, gB G + 1 ≤ z → (z < gB G + 516 + 5 * sNq s ∨ gB G + 521 + 5 * sNq s ≤ z) → mset M' (gB G) (eO 6 ([.ref (gB G + 1), .ref (gB G + 2), .int (nI (sNq s)), .ref (gB G + 3), .ref (gB G + 5), .ref (gB G + 7), .ref (gB G + la), .ref (gB G + lb)].set 2 (.int (nI (sNq s + 1))))) z = M z := fun z z1 z2 => by rw [mset_ne _ _ (by omega), fr' z (by omega) (by omega) (by omega)]
  refine ⟨la, lb, hlab, mset_eq _ _ _, hJ0.frame (fun z z1 z2 => e z (by omega) (by omega)), hL.frame hlab (fun z z1 z2 => e z (by omega) (by omega)), hG.frame (fun z z1 z2 => e z (by omega) (by omega)), fun k hk => ?_, by show sNq s + 1 ≤ 60; omega⟩
  by_cases hkq : k = sNq s
  · subst hkq
    have hq : quadO G (mset M' (gB G) (eO 6 ([.ref (gB G + 1), .ref (gB G + 2), .int (nI (sNq s)), .ref (gB G + 3), .ref (gB G + 5), .ref (gB G + 7), .ref (gB G + la), .ref (gB G + lb)].set 2 (.int (nI (sNq s + 1)))))) (sNq s) c (gd 100000 c).2 (.int fr) (.int (nI (gd 100000 c).1)) (.int se) := by
      refine ⟨?_, ?_, ?_, ?_, ?_⟩
      · rw [mset_ne _ _ (by omega), ← hM', mset_eq]
      · rw [mset_ne _ _ (by omega), fr' _ (by omega) (by omega) (by omega)]; exact q2
      · rw [mset_ne _ _ (by omega), ← hM', mset_ne _ _ (by omega), mset_ne _ _ (by omega), mset_eq]
      · rw [mset_ne _ _ (by omega), fr' _ (by omega) (by omega) (by omega)]; exact q4
      · rw [mset_ne _ _ (by omega), ← hM', mset_ne _ _ (by omega), mset_eq]
    refine ⟨fun _ => ?_, c, _, _, _, _, hq⟩
    simp only [uquad, sQc, sQf, sQs, if_pos]
    exact hq
  · obtain ⟨p1, p2, p3, p4, p5, p6, p7⟩ := hQ k hk
    refine ⟨fun hk2 => ?_, p2, p3, p4, p5, p6, p7.frame (fun z z1 z2 => e z (by omega) (by omega))⟩
    have hk2 : k < sNq s + 1 := hk2
    simp only [uquad, sQc, sQf, sQs, if_neg hkq]
    exact (p1 (by omega)).frame (fun z z1 z2 => e z (by omega) (by omega))
theorem c_X6_quad (h : InvC G M s) (r i : Int32) : Con G yX6_quad cX6_quad 4 (some .int) 7 0 0 [.ref (gB G), .int r, .int i] M none (PC G M (S_quad s r i).1 (S_quad s r i).2) := by
  have hI := h
  obtain ⟨la, lb, hlab, hA, hJ, hL, hG, hQ, h60⟩ := h
  have hJ0 := hJ
  obtain ⟨⟨gb, j1, j2⟩, ⟨gq, j3, j4⟩, j5, ⟨cd, j6⟩, ⟨xe, xf, j7, j8⟩, ⟨ws, j9⟩⟩ := hJ
  unfold bkA at hA
  generalize hR : S_quad s r i = R
  unfold S_quad at hR
  refine Con.of (by decide +kernel) (Nat.le_of_ble_eq_true rfl) (fun X F hnm => ?_)
  show V G X 0 0 _ M _ 0 [some (.ref (gB G)), some (.int r), some (.int i), none] []
  refine V_aload_n F dX6_quad_0 rfl ?_
  refine V_iload_n F dX6_quad_1 rfl ?_
  refine V_iload_n F dX6_quad_2 rfl ?_
  refine V_bipush F dX6_quad_3 kb_12 ?_
  refine V_ivR F iv_X6_66 dX6_quad_5 (As := [_, _, _]) (c_X6_refusalOfPlaces hI _ _ _) (by assumption) rfl rfl rfl rfl ?_
  refine V_istore_n F dX6_quad_8 (Nat.le_of_ble_eq_true rfl) ?_
  show V _ _ _ _ _ _ _ _ [_, _, _, _] _
  refine V_iload_n F dX6_quad_9 rfl ?_
  refine V_if_eq F 15 dX6_quad_10 (by decide) (fun c10 => ?_) (fun c10 => ?_)
  · rw [if_pos c10] at hR
    obtain ⟨k, a, b, hk, rfl, rfl, hb, hab, hab2⟩ := rop_0 hI.ln c10
    have hb1 : 12 = b := (nI_eq (by omega) (by omega)).mp hb
    rw [ix_nI (by omega), ix_nI (by omega)] at hR
    obtain ⟨b1, b2, b3⟩ := hG k hk
    refine V_aload_n F dX6_quad_15 rfl ?_
    refine V_get F fl_X6_11 dX6_quad_16 (by assumption) rfl ?_
    refine V_iload_n F dX6_quad_19 rfl ?_
    refine V_aaldN F 2 dX6_quad_20 (by assumption) rfl rfl _ (by first | rfl | simp only [pk_mul, nI_add, nI_1, nI_inc]) (by omega) (by omega) (j2 k hk) ?_
    refine V_get F fl_X6_81 dX6_quad_21 (by assumption) rfl ?_
    refine V_iload_n F dX6_quad_24 rfl ?_
    refine V_aload_n F dX6_quad_25 rfl ?_
    refine V_get F fl_X6_28 dX6_quad_26 (by assumption) rfl ?_
    refine V_get F fl_X6_91 dX6_quad_29 (by assumption) rfl ?_
    refine V_iconst F dX6_quad_32 ki_0 ?_
    refine V_bipush F dX6_quad_33 kb_12 ?_
    refine V_acopy F ac_X6_85 dX6_quad_35 b2 j6 a 0 12 rfl rfl rfl (by omega) (by omega) (by omega) (by omega) (by decide) (Nat.le_of_ble_eq_true rfl) ?_
    refine V_mem (fun H hm => mem_J (g := fc (cof (sPl s k) a)) ?_ hm) ?_
    · intro z hz
      unfold va_cpy fc cof
      rw [if_pos ⟨by omega, by omega⟩]
      congr 1
      omega
    have hI1 := hI.desk (cof (sPl s k) a)
    generalize cof (sPl s k) a = c at hI1 hR ⊢
    have fr1 : ∀ z, z ≠ gB G + 4 → mset M (gB G + 4) (eJ (gT G) 12 (fc c)) z = M z := fun z hz => mset_ne _ _ hz
    have e4 := mset_eq M (gB G + 4) (eJ (gT G) 12 (fc c))
    generalize mset M (gB G + 4) (eJ (gT G) 12 (fc c)) = M1 at hI1 fr1 e4 ⊢
    have A1 := (fr1 (gB G) (by omega)).trans hA
    have A3 := (fr1 (gB G + 3) (by omega)).trans j5
    refine V_aload_n F dX6_quad_38 rfl ?_
    refine V_get F fl_X6_28 dX6_quad_39 (by assumption) rfl ?_
    refine V_ivR F iv_X6_94 dX6_quad_42 (As := []) (c_X1_refusal A3 e4) (by assumption) rfl rfl rfl rfl ?_
    refine V_istore_n F dX6_quad_45 (Nat.le_of_ble_eq_true rfl) ?_
    show V _ _ _ _ _ _ _ _ [_, _, _, _] _
    refine V_iload_n F dX6_quad_46 rfl ?_
    refine V_if_eq F 52 dX6_quad_47 (by decide) (fun c47 => ?_) (fun c47 => ?_)
    · rw [if_pos c47] at hR
      refine V_aload_n F dX6_quad_52 rfl ?_
      refine V_get F fl_X6_21 dX6_quad_53 (by assumption) rfl ?_
      refine V_bipush F dX6_quad_56 kb_60 ?_
      refine V_icmp_lt F 64 dX6_quad_58 (by decide) (fun c58 => ?_) (fun c58 => ?_)
      · have c58 : sNq s < 60 := (nI_ltI (b := 60) (by omega) (by omega)).mp c58
        rw [if_pos c58] at hR
        refine V_aload_n F dX6_quad_64 rfl ?_
        refine V_bipush F dX6_quad_65 kb_m3 ?_
        refine V_aload_n F dX6_quad_67 rfl ?_
        refine V_get F fl_X6_35 dX6_quad_68 (by assumption) rfl ?_
        refine V_aload_n F dX6_quad_71 rfl ?_
        refine V_get F fl_X6_28 dX6_quad_72 (by assumption) rfl ?_
        refine V_ivP F iv_X6_98 dX6_quad_75 (As := [_]) (c_X5_gather ((fr1 _ (by omega)).trans j7) ((fr1 _ (by omega)).trans j8) A3 e4) ((fr1 _ (by omega)).trans j7) rfl rfl rfl rfl ?_
        rintro v M2 n2 ⟨rfl, ⟨l', hr'⟩, hf2, rfl⟩
        have hI2 : InvC G M2 s := by
          refine hI1.junk ?_ (fun z hz => hf2 z (by omega) (by omega))
          obtain ⟨g0, ⟨fo, g1, -⟩, -⟩ := hr'
          exact ⟨⟨gb, (hf2 _ (by omega) (by omega)).trans ((fr1 _ (by omega)).trans j1), j2⟩, ⟨gq, (hf2 _ (by omega) (by omega)).trans ((fr1 _ (by omega)).trans j3), j4⟩, (hf2 _ (by omega) (by omega)).trans A3, ⟨c, (hf2 _ (by omega) (by omega)).trans e4⟩, ⟨_, fo, g0, g1⟩, ⟨ws, j9.frame (fun z z1 z2 => (hf2 z (by omega) (by omega)).trans (fr1 z (by omega)))⟩⟩
        have A2 := (hf2 (gB G) (by omega) (by omega)).trans A1
        refine V_ivP F iv_X6_102 dX6_quad_78 (As := [_, _]) (c_X6_keepDesk hI2 ((hf2 _ (by omega) (by omega)).trans e4) c58 _ _) A2 rfl rfl rfl rfl ?_
        rintro v M3 n3 ⟨rfl, hI3, hf3, rfl⟩
        subst hR
        exact V_iret F rfl dX6_quad_81 rfl ⟨rfl, hI3, fun z hz => (hf3 z hz).trans ((hf2 z (by omega) (by omega)).trans (fr1 z (by omega))), rfl⟩
      · have c58 : ¬ sNq s < 60 := fun z => c58 ((nI_ltI (b := 60) (by omega) (by omega)).mpr z)
        rw [if_neg c58] at hR
        subst hR
        refine V_bipush F dX6_quad_61 kb_m2 ?_
        exact V_iret F rfl dX6_quad_63 rfl ⟨rfl, hI1, fun z hz => fr1 z (by omega), rfl⟩
    · rw [if_neg c47] at hR
      subst hR
      refine V_iload_n F dX6_quad_50 rfl ?_
      exact V_iret F rfl dX6_quad_51 rfl ⟨rfl, hI1, fun z hz => fr1 z (by omega), rfl⟩
  · rw [if_neg c10] at hR
    subst hR
    refine V_iload_n F dX6_quad_13 rfl ?_
    exact V_iret F rfl dX6_quad_14 rfl ⟨rfl, hI, fun _ _ => rfl, rfl⟩
theorem c_X6_swap (h : InvC G M s) (q i : Int32) : Con G yX6_swap cX6_swap 4 (some .int) 7 0 0 [.ref (gB G), .int q, .int i] M none (PC G M (S_swap s q i).1 (S_swap s q i).2) := by
  have hI := h
  obtain ⟨la, lb, hlab, hA, hJ, hL, hG, hQ, h60⟩ := h
  have hA0 := hA
  obtain ⟨⟨gb, j1, j2⟩, ⟨gq, j3, j4⟩, j5, ⟨cd, j6⟩, ⟨xe, xf, j7, j8⟩, ⟨ws, j9⟩⟩ := hJ
  unfold bkA at hA
  generalize hR : S_swap s q i = R
  unfold S_swap at hR
  refine Con.of (by decide +kernel) (Nat.le_of_ble_eq_true rfl) (fun X F hnm => ?_)
  show V G X 0 0 _ M _ 0 [some (.ref (gB G)), some (.int q), some (.int i), none] []
  have bad : (inR q (sNq s) = false ∨ inR i 4 = false) → V G X 0 0 (BQ G X (PC G M R.1 R.2) 0 0) M none 15 [some (.ref (gB G)), some (.int q), some (.int i), none] [] := by
    intro z
    rw [if_pos z] at hR
    subst hR
    refine V_iconst F dX6_swap_15 ki_m1 ?_
    exact V_iret F rfl dX6_swap_16 rfl ⟨rfl, hI, fun _ _ => rfl, rfl⟩
  refine V_aload_n F dX6_swap_0 rfl ?_
  refine V_iload_n F dX6_swap_1 rfl ?_
  refine V_ivR F iv_X6_106 dX6_swap_2 (As := [_]) (c_X6_isQuad hA0 _) (by assumption) rfl rfl rfl rfl ?_
  refine V_if_eq F 15 dX6_swap_5 (by decide) (fun c5 => ?_) (fun c5 => ?_)
  · rw [bI_0] at c5
    exact bad (Or.inl c5)
  · rw [bI_n] at c5
    refine V_iload_n F dX6_swap_8 rfl ?_
    refine V_isR F is_X6_109 dX6_swap_9 (As := [_]) (c_X6_isCoin _) rfl rfl rfl ?_
    refine V_if_ne F 17 dX6_swap_12 (by decide) (fun c12 => ?_) (fun c12 => ?_)
    · rw [bI_n] at c12
      rw [if_neg (fun z => by
          rcases z with z | z
          · rw [c5] at z; cases z
          · rw [c12] at z; cases z)] at hR
      obtain ⟨k, hk, rfl⟩ := inR_t (by omega) c5
      obtain ⟨j, hj, rfl⟩ := inR_t (by omega) c12
      rw [ix_nI (by omega), ix_nI (by omega)] at hR
      obtain ⟨p1, p2, p3, p4, p5⟩ := (hQ k (by omega)).1 hk
      refine V_aload_n F dX6_swap_17 rfl ?_
      refine V_get F fl_X6_28 dX6_swap_18 (by assumption) rfl ?_
      refine V_aload_n F dX6_swap_21 rfl ?_
      refine V_get F fl_X6_17 dX6_swap_22 (by assumption) rfl ?_
      refine V_iload_n F dX6_swap_25 rfl ?_
      refine V_aaldN F 3 dX6_swap_26 (by assumption) rfl rfl _ (by first | rfl | simp only [pk_mul, nI_add, nI_1, nI_inc]) (by omega) (by omega) (j4 k (by omega)) ?_
      refine V_get F fl_X6_112 dX6_swap_27 (by assumption) rfl ?_
      refine V_ivR F iv_X6_115 dX6_swap_30 (As := [_]) (c_X1_take j5 j6 p2 p3) (by assumption) rfl rfl rfl rfl ?_
      have k3 : ∀ e, mset M (gB G + 4) e (gB G + 3) = _ := fun e => (mset_ne _ _ (by omega)).trans j5
      have kA : ∀ e, mset M (gB G + 4) e (gB G) = _ := fun e => (mset_ne _ _ (by omega)).trans hA
      refine V_aload_n F dX6_swap_33 rfl ?_
      refine V_get F fl_X6_28 dX6_swap_34 (kA _) rfl ?_
      refine V_iload_n F dX6_swap_37 rfl ?_
      refine V_ivR F iv_X6_119 dX6_swap_38 (As := [_]) (c_X1_turn (k3 _) (mset_eq _ _ _) hj) (k3 _) rfl rfl rfl rfl ?_
      rw [mset_mset]
      have hI1 := hI.desk (turnc (sQc s k) j)
      generalize turnc (sQc s k) j = c at hI1 hR ⊢
      have fr1 : ∀ z, z ≠ gB G + 4 → mset M (gB G + 4) (eJ (gT G) 12 (fc c)) z = M z := fun z hz => mset_ne _ _ hz
      have e4 := mset_eq M (gB G + 4) (eJ (gT G) 12 (fc c))
      generalize mset M (gB G + 4) (eJ (gT G) 12 (fc c)) = M1 at hI1 fr1 e4 ⊢
      have A1 := (fr1 (gB G) (by omega)).trans hA
      have A3 := (fr1 (gB G + 3) (by omega)).trans j5
      refine V_aload_n F dX6_swap_41 rfl ?_
      refine V_get F fl_X6_28 dX6_swap_42 (by assumption) rfl ?_
      refine V_iload_n F dX6_swap_45 rfl ?_
      refine V_ivR F iv_X6_123 dX6_swap_46 (As := [_]) (c_X1_refusalOfCoin A3 e4 hj) (by assumption) rfl rfl rfl rfl ?_
      refine V_istore_n F dX6_swap_49 (Nat.le_of_ble_eq_true rfl) ?_
      show V _ _ _ _ _ _ _ _ [_, _, _, _] _
      refine V_iload_n F dX6_swap_50 rfl ?_
      refine V_if_eq F 56 dX6_swap_51 (by decide) (fun c51 => ?_) (fun c51 => ?_)
      · rw [if_pos c51] at hR
        refine V_aload_n F dX6_swap_56 rfl ?_
        refine V_get F fl_X6_21 dX6_swap_57 (by assumption) rfl ?_
        refine V_bipush F dX6_swap_60 kb_60 ?_
        refine V_icmp_lt F 68 dX6_swap_62 (by decide) (fun c62 => ?_) (fun c62 => ?_)
        · have c62 : sNq s < 60 := (nI_ltI (b := 60) (by omega) (by omega)).mp c62
          rw [if_pos c62] at hR
          refine V_aload_n F dX6_swap_68 rfl ?_
          refine V_iload_n F dX6_swap_69 rfl ?_
          refine V_aload_n F dX6_swap_70 rfl ?_
          refine V_get F fl_X6_17 dX6_swap_71 A1 rfl ?_
          refine V_iload_n F dX6_swap_74 rfl ?_
          refine V_aaldN F 3 dX6_swap_75 ((fr1 _ (by omega)).trans j3) rfl rfl _ (by first | rfl | simp only [pk_mul, nI_add, nI_1, nI_inc]) (by omega) (by omega) (j4 k (by omega)) ?_
          refine V_get F fl_X6_127 dX6_swap_76 ((fr1 _ (by omega)).trans p1) rfl ?_
          refine V_ivP F iv_X6_102 dX6_swap_79 (As := [_, _]) (c_X6_keepDesk hI1 e4 c62 _ _) A1 rfl rfl rfl rfl ?_
          rintro v M3 n3 ⟨rfl, hI3, hf3, rfl⟩
          subst hR
          exact V_iret F rfl dX6_swap_82 rfl ⟨rfl, hI3, fun z hz => (hf3 z hz).trans (fr1 z (by omega)), rfl⟩
        · have c62 : ¬ sNq s < 60 := fun z => c62 ((nI_ltI (b := 60) (by omega) (by omega)).mpr z)
          rw [if_neg c62] at hR
          subst hR
          refine V_bipush F dX6_swap_65 kb_m2 ?_
          exact V_iret F rfl dX6_swap_67 rfl ⟨rfl, hI1, fun z hz => fr1 z (by omega), rfl⟩
      · rw [if_neg c51] at hR
        subst hR
        refine V_iload_n F dX6_swap_54 rfl ?_
        exact V_iret F rfl dX6_swap_55 rfl ⟨rfl, hI1, fun z hz => fr1 z (by omega), rfl⟩
    · rw [bI_0] at c12
      exact bad (Or.inr c12)
theorem c_X6_coin (h : InvC G M s) (q i w : Int32) : Con G yX6_coin cX6_coin 4 (some .int) 1 0 0 [.ref (gB G), .int q, .int i, .int w] M none (PC G M (S_coin s q i w) s) := by
  have hI := h
  obtain ⟨la, lb, hlab, hA, hJ, hL, hG, hQ, h60⟩ := h
  have hA0 := hA
  obtain ⟨⟨gb, j1, j2⟩, ⟨gq, j3, j4⟩, -⟩ := hJ
  unfold bkA at hA
  generalize hR : S_coin s q i w = R
  unfold S_coin at hR
  refine Con.of (by decide +kernel) (Nat.le_of_ble_eq_true rfl) (fun X F hnm => ?_)
  show V G X 0 0 _ M _ 0 [some (.ref (gB G)), some (.int q), some (.int i), some (.int w)] []
  have bad : ¬ (inR q (sNq s) = true ∧ inR i 4 = true ∧ inR w 3 = true) → V G X 0 0 (BQ G X (PC G M R s) 0 0) M none 22 [some (.ref (gB G)), some (.int q), some (.int i), some (.int w)] [] := by
    intro z
    rw [if_neg z] at hR
    subst hR
    refine V_ldc F dX6_coin_22 kc_X6_133 ?_
    exact V_iret F rfl dX6_coin_24 rfl ⟨rfl, hI, fun _ _ => rfl, rfl⟩
  refine V_aload_n F dX6_coin_0 rfl ?_
  refine V_iload_n F dX6_coin_1 rfl ?_
  refine V_ivR F iv_X6_106 dX6_coin_2 (As := [_]) (c_X6_isQuad hA0 _) (by assumption) rfl rfl rfl rfl ?_
  refine V_if_eq F 22 dX6_coin_5 (by decide) (fun c5 => ?_) (fun c5 => ?_)
  · rw [bI_0] at c5
    exact bad (fun z => by rw [c5] at z; cases z.1)
  · rw [bI_n] at c5
    refine V_iload_n F dX6_coin_8 rfl ?_
    refine V_isR F is_X6_109 dX6_coin_9 (As := [_]) (c_X6_isCoin _) rfl rfl rfl ?_
    refine V_if_eq F 22 dX6_coin_12 (by decide) (fun c12 => ?_) (fun c12 => ?_)
    · rw [bI_0] at c12
      exact bad (fun z => by rw [c12] at z; cases z.2.1)
    · rw [bI_n] at c12
      refine V_iload_n F dX6_coin_15 rfl ?_
      refine V_isR F is_X6_130 dX6_coin_16 (As := [_]) (c_X6_isWhat _) rfl rfl rfl ?_
      refine V_if_ne F 25 dX6_coin_19 (by decide) (fun c19 => ?_) (fun c19 => ?_)
      · rw [bI_n] at c19
        rw [if_pos ⟨c5, c12, c19⟩] at hR
        obtain ⟨k, hk, rfl⟩ := inR_t (by omega) c5
        obtain ⟨j, hj, rfl⟩ := inR_t (by omega) c12
        obtain ⟨v, hv, rfl⟩ := inR_t (by omega) c19
        rw [ix_nI (by omega), ix_nI (by omega), ix_nI (by omega)] at hR
        obtain ⟨p1, p2, p3, p4, p5⟩ := (hQ k (by omega)).1 hk
        subst hR
        refine V_aload_n F dX6_coin_25 rfl ?_
        refine V_get F fl_X6_17 dX6_coin_26 (by assumption) rfl ?_
        refine V_iload_n F dX6_coin_29 rfl ?_
        refine V_aaldN F 3 dX6_coin_30 (by assumption) rfl rfl _ (by first | rfl | simp only [pk_mul, nI_add, nI_1, nI_inc]) (by omega) (by omega) (j4 k (by omega)) ?_
        refine V_get F fl_X6_112 dX6_coin_31 (by assumption) rfl ?_
        refine V_iload_n F dX6_coin_34 rfl ?_
        refine V_iload_n F dX6_coin_35 rfl ?_
        refine V_ivR F iv_X6_134 dX6_coin_36 (As := [_, _]) (c_X1_told p2 p3 hj hv) (by assumption) rfl rfl rfl rfl ?_
        refine V_l2i F dX6_coin_39 ?_
        exact V_iret F rfl dX6_coin_40 rfl ⟨rfl, hI, fun _ _ => rfl, rfl⟩
      · rw [bI_0] at c19
        exact bad (fun z => by rw [c19] at z; cases z.2.2)
theorem c_X6_root (h : InvC G M s) (q i w : Int32) : Con G yX6_root cX6_root 4 (some .int) 1 0 0 [.ref (gB G), .int q, .int i, .int w] M none (PC G M (S_root s q i w) s) := by
  have hI := h
  obtain ⟨la, lb, hlab, hA, hJ, hL, hG, hQ, h60⟩ := h
  have hA0 := hA
  obtain ⟨⟨gb, j1, j2⟩, ⟨gq, j3, j4⟩, -⟩ := hJ
  unfold bkA at hA
  generalize hR : S_root s q i w = R
  unfold S_root at hR
  refine Con.of (by decide +kernel) (Nat.le_of_ble_eq_true rfl) (fun X F hnm => ?_)
  show V G X 0 0 _ M _ 0 [some (.ref (gB G)), some (.int q), some (.int i), some (.int w)] []
  have bad : ¬ (inR q (sNq s) = true ∧ inR i 4 = true ∧ inR w 3 = true) → V G X 0 0 (BQ G X (PC G M R s) 0 0) M none 22 [some (.ref (gB G)), some (.int q), some (.int i), some (.int w)] [] := by
    intro z
    rw [if_neg z] at hR
    subst hR
    refine V_ldc F dX6_root_22 kc_X6_133 ?_
    exact V_iret F rfl dX6_root_24 rfl ⟨rfl, hI, fun _ _ => rfl, rfl⟩
  refine V_aload_n F dX6_root_0 rfl ?_
  refine V_iload_n F dX6_root_1 rfl ?_
  refine V_ivR F iv_X6_106 dX6_root_2 (As := [_]) (c_X6_isQuad hA0 _) (by assumption) rfl rfl rfl rfl ?_
  refine V_if_eq F 22 dX6_root_5 (by decide) (fun c5 => ?_) (fun c5 => ?_)
  · rw [bI_0] at c5
    exact bad (fun z => by rw [c5] at z; cases z.1)
  · rw [bI_n] at c5
    refine V_iload_n F dX6_root_8 rfl ?_
    refine V_isR F is_X6_109 dX6_root_9 (As := [_]) (c_X6_isCoin _) rfl rfl rfl ?_
    refine V_if_eq F 22 dX6_root_12 (by decide) (fun c12 => ?_) (fun c12 => ?_)
    · rw [bI_0] at c12
      exact bad (fun z => by rw [c12] at z; cases z.2.1)
    · rw [bI_n] at c12
      refine V_iload_n F dX6_root_15 rfl ?_
      refine V_isR F is_X6_130 dX6_root_16 (As := [_]) (c_X6_isWhat _) rfl rfl rfl ?_
      refine V_if_ne F 25 dX6_root_19 (by decide) (fun c19 => ?_) (fun c19 => ?_)
      · rw [bI_n] at c19
        rw [if_pos ⟨c5, c12, c19⟩] at hR
        obtain ⟨k, hk, rfl⟩ := inR_t (by omega) c5
        obtain ⟨j, hj, rfl⟩ := inR_t (by omega) c12
        obtain ⟨v, hv, rfl⟩ := inR_t (by omega) c19
        rw [ix_nI (by omega), ix_nI (by omega), ix_nI (by omega)] at hR
        obtain ⟨p1, p2, p3, p4, p5⟩ := (hQ k (by omega)).1 hk
        subst hR
        refine V_aload_n F dX6_root_25 rfl ?_
        refine V_get F fl_X6_17 dX6_root_26 (by assumption) rfl ?_
        refine V_iload_n F dX6_root_29 rfl ?_
        refine V_aaldN F 3 dX6_root_30 (by assumption) rfl rfl _ (by first | rfl | simp only [pk_mul, nI_add, nI_1, nI_inc]) (by omega) (by omega) (j4 k (by omega)) ?_
        refine V_get F fl_X6_150 dX6_root_31 (by assumption) rfl ?_
        refine V_iload_n F dX6_root_34 rfl ?_
        refine V_iload_n F dX6_root_35 rfl ?_
        refine V_ivR F iv_X6_134 dX6_root_36 (As := [_, _]) (c_X1_told p4 p5 hj hv) (by assumption) rfl rfl rfl rfl ?_
        refine V_l2i F dX6_root_39 ?_
        exact V_iret F rfl dX6_root_40 rfl ⟨rfl, hI, fun _ _ => rfl, rfl⟩
      · rw [bI_0] at c19
        exact bad (fun z => by rw [c19] at z; cases z.2.2)
theorem c_X6_from (h : InvC G M s) (q : Int32) : Con G yX6_from cX6_from 2 (some .int) 1 0 0 [.ref (gB G), .int q] M none (PC G M (S_from s q) s) := by
  have hI := h
  obtain ⟨la, lb, hlab, hA, hJ, hL, hG, hQ, h60⟩ := h
  have hA0 := hA
  obtain ⟨⟨gb, j1, j2⟩, ⟨gq, j3, j4⟩, -⟩ := hJ
  unfold bkA at hA
  generalize hR : S_from s q = R
  unfold S_from at hR
  refine Con.of (by decide +kernel) (Nat.le_of_ble_eq_true rfl) (fun X F hnm => ?_)
  show V G X 0 0 _ M _ 0 [some (.ref (gB G)), some (.int q)] []
  refine V_aload_n F dX6_from_0 rfl ?_
  refine V_iload_n F dX6_from_1 rfl ?_
  refine V_ivR F iv_X6_106 dX6_from_2 (As := [_]) (c_X6_isQuad hA0 _) (by assumption) rfl rfl rfl rfl ?_
  refine V_if_eq F 20 dX6_from_5 (by decide) (fun c5 => ?_) (fun c5 => ?_)
  · rw [bI_0] at c5
    rw [if_neg (by rw [c5]; decide)] at hR
    subst hR
    refine V_iconst F dX6_from_20 ki_m1 ?_
    exact V_iret F rfl dX6_from_21 rfl ⟨rfl, hI, fun _ _ => rfl, rfl⟩
  · rw [bI_n] at c5
    rw [if_pos c5] at hR
    obtain ⟨k, hk, rfl⟩ := inR_t (by omega) c5
    rw [ix_nI (by omega)] at hR
    obtain ⟨p1, p2, p3, p4, p5⟩ := (hQ k (by omega)).1 hk
    subst hR
    refine V_aload_n F dX6_from_8 rfl ?_
    refine V_get F fl_X6_17 dX6_from_9 (by assumption) rfl ?_
    refine V_iload_n F dX6_from_12 rfl ?_
    refine V_aaldN F 3 dX6_from_13 (by assumption) rfl rfl _ (by first | rfl | simp only [pk_mul, nI_add, nI_1, nI_inc]) (by omega) (by omega) (j4 k (by omega)) ?_
    refine V_get F fl_X6_138 dX6_from_14 (by assumption) rfl ?_
    refine V_goto F 21 dX6_from_17 (by decide) ?_
    exact V_iret F rfl dX6_from_21 rfl ⟨rfl, hI, fun _ _ => rfl, rfl⟩
theorem c_X6_seen (h : InvC G M s) (q : Int32) : Con G yX6_seen cX6_seen 2 (some .int) 1 0 0 [.ref (gB G), .int q] M none (PC G M (S_seen s q) s) := by
  have hI := h
  obtain ⟨la, lb, hlab, hA, hJ, hL, hG, hQ, h60⟩ := h
  have hA0 := hA
  obtain ⟨⟨gb, j1, j2⟩, ⟨gq, j3, j4⟩, -⟩ := hJ
  unfold bkA at hA
  generalize hR : S_seen s q = R
  unfold S_seen at hR
  refine Con.of (by decide +kernel) (Nat.le_of_ble_eq_true rfl) (fun X F hnm => ?_)
  show V G X 0 0 _ M _ 0 [some (.ref (gB G)), some (.int q)] []
  refine V_aload_n F dX6_seen_0 rfl ?_
  refine V_iload_n F dX6_seen_1 rfl ?_
  refine V_ivR F iv_X6_106 dX6_seen_2 (As := [_]) (c_X6_isQuad hA0 _) (by assumption) rfl rfl rfl rfl ?_
  refine V_if_eq F 20 dX6_seen_5 (by decide) (fun c5 => ?_) (fun c5 => ?_)
  · rw [bI_0] at c5
    rw [if_neg (by rw [c5]; decide)] at hR
    subst hR
    refine V_iconst F dX6_seen_20 ki_m1 ?_
    exact V_iret F rfl dX6_seen_21 rfl ⟨rfl, hI, fun _ _ => rfl, rfl⟩
  · rw [bI_n] at c5
    rw [if_pos c5] at hR
    obtain ⟨k, hk, rfl⟩ := inR_t (by omega) c5
    rw [ix_nI (by omega)] at hR
    obtain ⟨p1, p2, p3, p4, p5⟩ := (hQ k (by omega)).1 hk
    subst hR
    refine V_aload_n F dX6_seen_8 rfl ?_
    refine V_get F fl_X6_17 dX6_seen_9 (by assumption) rfl ?_
    refine V_iload_n F dX6_seen_12 rfl ?_
    refine V_aaldN F 3 dX6_seen_13 (by assumption) rfl rfl _ (by first | rfl | simp only [pk_mul, nI_add, nI_1, nI_inc]) (by omega) (by omega) (j4 k (by omega)) ?_
    refine V_get F fl_X6_127 dX6_seen_14 (by assumption) rfl ?_
    refine V_goto F 21 dX6_seen_17 (by decide) ?_
    exact V_iret F rfl dX6_seen_21 rfl ⟨rfl, hI, fun _ _ => rfl, rfl⟩
theorem c_X6_steps (h : InvC G M s) (q : Int32) : Con G yX6_steps cX6_steps 2 (some .int) 1 0 0 [.ref (gB G), .int q] M none (PC G M (S_steps s q) s) := by
  have hI := h
  obtain ⟨la, lb, hlab, hA, hJ, hL, hG, hQ, h60⟩ := h
  have hA0 := hA
  obtain ⟨⟨gb, j1, j2⟩, ⟨gq, j3, j4⟩, -⟩ := hJ
  unfold bkA at hA
  generalize hR : S_steps s q = R
  unfold S_steps at hR
  refine Con.of (by decide +kernel) (Nat.le_of_ble_eq_true rfl) (fun X F hnm => ?_)
  show V G X 0 0 _ M _ 0 [some (.ref (gB G)), some (.int q)] []
  refine V_aload_n F dX6_steps_0 rfl ?_
  refine V_iload_n F dX6_steps_1 rfl ?_
  refine V_ivR F iv_X6_106 dX6_steps_2 (As := [_]) (c_X6_isQuad hA0 _) (by assumption) rfl rfl rfl rfl ?_
  refine V_if_eq F 20 dX6_steps_5 (by decide) (fun c5 => ?_) (fun c5 => ?_)
  · rw [bI_0] at c5
    rw [if_neg (by rw [c5]; decide)] at hR
    subst hR
    refine V_iconst F dX6_steps_20 ki_m1 ?_
    exact V_iret F rfl dX6_steps_21 rfl ⟨rfl, hI, fun _ _ => rfl, rfl⟩
  · rw [bI_n] at c5
    rw [if_pos c5] at hR
    obtain ⟨k, hk, rfl⟩ := inR_t (by omega) c5
    rw [ix_nI (by omega)] at hR
    obtain ⟨p1, p2, p3, p4, p5⟩ := (hQ k (by omega)).1 hk
    subst hR
    refine V_aload_n F dX6_steps_8 rfl ?_
    refine V_get F fl_X6_17 dX6_steps_9 (by assumption) rfl ?_
    refine V_iload_n F dX6_steps_12 rfl ?_
    refine V_aaldN F 3 dX6_steps_13 (by assumption) rfl rfl _ (by first | rfl | simp only [pk_mul, nI_add, nI_1, nI_inc]) (by omega) (by omega) (j4 k (by omega)) ?_
    refine V_get F fl_X6_141 dX6_steps_14 (by assumption) rfl ?_
    refine V_goto F 21 dX6_steps_17 (by decide) ?_
    exact V_iret F rfl dX6_steps_21 rfl ⟨rfl, hI, fun _ _ => rfl, rfl⟩
theorem c_X6_step (h : InvC G M s) (q k : Int32) : Con G yX6_step cX6_step 3 (some .int) 5 0 0 [.ref (gB G), .int q, .int k] M none (PC G M (S_step s q k) s) := by
  have hI := h
  obtain ⟨la, lb, hlab, hA, hJ, hL, hG, hQ, h60⟩ := h
  have hA0 := hA
  obtain ⟨⟨gb, j1, j2⟩, ⟨gq, j3, j4⟩, j5, ⟨cd, j6⟩, ⟨xe, xf, j7, j8⟩, ⟨ws, j9⟩⟩ := hJ
  unfold bkA at hA
  generalize hR : S_step s q k = R
  unfold S_step at hR
  refine Con.of (by decide +kernel) (Nat.le_of_ble_eq_true rfl) (fun X F hnm => ?_)
  show V G X 0 0 _ M _ 0 [some (.ref (gB G)), some (.int q), some (.int k)] []
  have bad : (inR q (sNq s) = false ∨ k < 0) → V G X 0 0 (BQ G X (PC G M R s) 0 0) M none 12 [some (.ref (gB G)), some (.int q), some (.int k)] [] := by
    intro z
    rw [if_pos z] at hR
    subst hR
    refine V_iconst F dX6_step_12 ki_m1 ?_
    exact V_iret F rfl dX6_step_13 rfl ⟨rfl, hI, fun _ _ => rfl, rfl⟩
  refine V_aload_n F dX6_step_0 rfl ?_
  refine V_iload_n F dX6_step_1 rfl ?_
  refine V_ivR F iv_X6_106 dX6_step_2 (As := [_]) (c_X6_isQuad hA0 _) (by assumption) rfl rfl rfl rfl ?_
  refine V_if_eq F 12 dX6_step_5 (by decide) (fun c5 => ?_) (fun c5 => ?_)
  · rw [bI_0] at c5
    exact bad (Or.inl c5)
  · rw [bI_n] at c5
    refine V_iload_n F dX6_step_8 rfl ?_
    refine V_if_ge F 14 dX6_step_9 (by decide) (fun c9 => ?_) (fun c9 => ?_)
    · have c9' : ¬ k < 0 := Int32.not_lt.mpr c9
      rw [if_neg (fun z => by
          rcases z with z | z
          · rw [c5] at z; cases z
          · exact c9' z)] at hR
      obtain ⟨j, hj, rfl⟩ := inR_t (by omega) c5
      rw [ix_nI (by omega)] at hR
      obtain ⟨p1, p2, p3, p4, p5⟩ := (hQ j (by omega)).1 hj
      refine V_iload_n F dX6_step_14 rfl ?_
      refine V_aload_n F dX6_step_15 rfl ?_
      refine V_get F fl_X6_17 dX6_step_16 (by assumption) rfl ?_
      refine V_iload_n F dX6_step_19 rfl ?_
      refine V_aaldN F 3 dX6_step_20 (by assumption) rfl rfl _ (by first | rfl | simp only [pk_mul, nI_add, nI_1, nI_inc]) (by omega) (by omega) (j4 j (by omega)) ?_
      refine V_get F fl_X6_141 dX6_step_21 (by assumption) rfl ?_
      refine V_icmp_lt F 30 dX6_step_24 (by decide) (fun c24 => ?_) (fun c24 => ?_)
      · rw [if_neg (Int32.not_le.mpr c24)] at hR
        obtain ⟨a, ha, rfl⟩ := nI_of c9'
        rw [ix_nI ha] at hR
        refine V_aload_n F dX6_step_30 rfl ?_
        refine V_get F fl_X6_28 dX6_step_31 (by assumption) rfl ?_
        refine V_aload_n F dX6_step_34 rfl ?_
        refine V_get F fl_X6_17 dX6_step_35 (by assumption) rfl ?_
        refine V_iload_n F dX6_step_38 rfl ?_
        refine V_aaldN F 3 dX6_step_39 (by assumption) rfl rfl _ (by first | rfl | simp only [pk_mul, nI_add, nI_1, nI_inc]) (by omega) (by omega) (j4 j (by omega)) ?_
        refine V_get F fl_X6_112 dX6_step_40 (by assumption) rfl ?_
        refine V_ivR F iv_X6_115 dX6_step_43 (As := [_]) (c_X1_take j5 j6 p2 p3) (by assumption) rfl rfl rfl rfl ?_
        have k3 : ∀ e, mset M (gB G + 4) e (gB G + 3) = _ := fun e => (mset_ne _ _ (by omega)).trans j5
        have kA : ∀ e, mset M (gB G + 4) e (gB G) = _ := fun e => (mset_ne _ _ (by omega)).trans hA
        refine V_aload_n F dX6_step_46 rfl ?_
        refine V_get F fl_X6_28 dX6_step_47 (kA _) rfl ?_
        refine V_iload_n F dX6_step_50 rfl ?_
        refine V_ivR F iv_X6_144 dX6_step_51 (As := [_]) (c_X1_goDown a ha _ _ (k3 _) (mset_eq _ _ _)) (k3 _) rfl rfl rfl rfl ?_
        rw [mset_mset]
        subst hR
        refine V_pop F dX6_step_54 rfl ?_
        refine V_aload_n F dX6_step_55 rfl ?_
        refine V_get F fl_X6_28 dX6_step_56 (kA _) rfl ?_
        refine V_ivR F iv_X6_147 dX6_step_59 (As := []) (c_X1_greatest (k3 _) (mset_eq _ _ _)) (k3 _) rfl rfl rfl rfl ?_
        exact V_iret F rfl dX6_step_62 rfl ⟨rfl, hI.desk _, fun z hz => mset_ne _ _ (by omega), rfl⟩
      · rw [if_pos (Int32.not_lt.mp c24)] at hR
        subst hR
        refine V_bipush F dX6_step_27 kb_m3 ?_
        exact V_iret F rfl dX6_step_29 rfl ⟨rfl, hI, fun _ _ => rfl, rfl⟩
    · exact bad (Or.inr (Int32.not_le.mp c9))
theorem c_X6_same (h : InvC G M s) (q r : Int32) : Con G yX6_same cX6_same 3 (some .int) 3 0 0 [.ref (gB G), .int q, .int r] M none (PC G M (S_same s q r) s) := by
  have hI := h
  obtain ⟨la, lb, hlab, hA, hJ, hL, hG, hQ, h60⟩ := h
  have hA0 := hA
  obtain ⟨⟨gb, j1, j2⟩, ⟨gq, j3, j4⟩, -⟩ := hJ
  unfold bkA at hA
  generalize hR : S_same s q r = R
  unfold S_same at hR
  refine Con.of (by decide +kernel) (Nat.le_of_ble_eq_true rfl) (fun X F hnm => ?_)
  show V G X 0 0 _ M _ 0 [some (.ref (gB G)), some (.int q), some (.int r)] []
  have bad : (inR q (sNq s) = false ∨ inR r (sNq s) = false) → V G X 0 0 (BQ G X (PC G M R s) 0 0) M none 16 [some (.ref (gB G)), some (.int q), some (.int r)] [] := by
    intro z
    rw [if_pos z] at hR
    subst hR
    refine V_iconst F dX6_same_16 ki_m1 ?_
    exact V_iret F rfl dX6_same_17 rfl ⟨rfl, hI, fun _ _ => rfl, rfl⟩
  refine V_aload_n F dX6_same_0 rfl ?_
  refine V_iload_n F dX6_same_1 rfl ?_
  refine V_ivR F iv_X6_106 dX6_same_2 (As := [_]) (c_X6_isQuad hA0 _) (by assumption) rfl rfl rfl rfl ?_
  refine V_if_eq F 16 dX6_same_5 (by decide) (fun c5 => ?_) (fun c5 => ?_)
  · rw [bI_0] at c5
    exact bad (Or.inl c5)
  · rw [bI_n] at c5
    refine V_aload_n F dX6_same_8 rfl ?_
    refine V_iload_n F dX6_same_9 rfl ?_
    refine V_ivR F iv_X6_106 dX6_same_10 (As := [_]) (c_X6_isQuad hA0 _) (by assumption) rfl rfl rfl rfl ?_
    refine V_if_ne F 18 dX6_same_13 (by decide) (fun c13 => ?_) (fun c13 => ?_)
    · rw [bI_n] at c13
      rw [if_neg (fun z => by
          rcases z with z | z
          · rw [c5] at z; cases z
          · rw [c13] at z; cases z)] at hR
      obtain ⟨a, ha, rfl⟩ := inR_t (by omega) c5
      obtain ⟨b, hb, rfl⟩ := inR_t (by omega) c13
      rw [ix_nI (by omega), ix_nI (by omega)] at hR
      obtain ⟨p1, p2, p3, p4, p5⟩ := (hQ a (by omega)).1 ha
      obtain ⟨r1, r2, r3, r4, r5⟩ := (hQ b (by omega)).1 hb
      subst hR
      refine V_aload_n F dX6_same_18 rfl ?_
      refine V_get F fl_X6_17 dX6_same_19 (by assumption) rfl ?_
      refine V_iload_n F dX6_same_22 rfl ?_
      refine V_aaldN F 3 dX6_same_23 (by assumption) rfl rfl _ (by first | rfl | simp only [pk_mul, nI_add, nI_1, nI_inc]) (by omega) (by omega) (j4 a (by omega)) ?_
      refine V_get F fl_X6_150 dX6_same_24 (by assumption) rfl ?_
      refine V_aload_n F dX6_same_27 rfl ?_
      refine V_get F fl_X6_17 dX6_same_28 (by assumption) rfl ?_
      refine V_iload_n F dX6_same_31 rfl ?_
      refine V_aaldN F 3 dX6_same_32 (by assumption) rfl rfl _ (by first | rfl | simp only [pk_mul, nI_add, nI_1, nI_inc]) (by omega) (by omega) (j4 b (by omega)) ?_
      refine V_get F fl_X6_150 dX6_same_33 (by assumption) rfl ?_
      refine V_ivR F iv_X6_153 dX6_same_36 (As := [_]) (c_X1_hasBendsOf p4 p5 r4 r5) (by assumption) rfl rfl rfl rfl ?_
      refine V_if_eq F 46 dX6_same_39 (by decide) (fun c39 => ?_) (fun c39 => ?_)
      · rw [bI_0] at c39
        refine V_iconst F dX6_same_46 ki_0 ?_
        exact V_iret F rfl dX6_same_47 rfl ⟨rf c39, hI, fun _ _ => rfl, rfl⟩
      · rw [bI_n] at c39
        refine V_iconst F dX6_same_42 ki_1 ?_
        refine V_goto F 47 dX6_same_43 (by decide) ?_
        exact V_iret F rfl dX6_same_47 rfl ⟨rt c39, hI, fun _ _ => rfl, rfl⟩
    · rw [bI_0] at c13
      exact bad (Or.inr c13)
theorem c_X6_touch (h : InvC G M s) (q i r j : Int32) : Con G yX6_touch cX6_touch 5 (some .int) 2 0 0 [.ref (gB G), .int q, .int i, .int r, .int j] M none (PC G M (S_touch s q i r j) s) := by
  have hI := h
  obtain ⟨la, lb, hlab, hA, hJ, hL, hG, hQ, h60⟩ := h
  have hA0 := hA
  obtain ⟨⟨gb, j1, j2⟩, ⟨gq, j3, j4⟩, -⟩ := hJ
  unfold bkA at hA
  generalize hR : S_touch s q i r j = R
  unfold S_touch at hR
  refine Con.of (by decide +kernel) (Nat.le_of_ble_eq_true rfl) (fun X F hnm => ?_)
  show V G X 0 0 _ M _ 0 [some (.ref (gB G)), some (.int q), some (.int i), some (.int r), some (.int j)] []
  have bad : ¬ (inR q (sNq s) = true ∧ inR i 4 = true ∧ inR r (sNq s) = true ∧ inR j 4 = true) → V G X 0 0 (BQ G X (PC G M R s) 0 0) M none 31 [some (.ref (gB G)), some (.int q), some (.int i), some (.int r), some (.int j)] [] := by
    intro z
    rw [if_neg z] at hR
    subst hR
    refine V_iconst F dX6_touch_31 ki_m1 ?_
    exact V_iret F rfl dX6_touch_32 rfl ⟨rfl, hI, fun _ _ => rfl, rfl⟩
  refine V_aload_n F dX6_touch_0 rfl ?_
  refine V_iload_n F dX6_touch_1 rfl ?_
  refine V_ivR F iv_X6_106 dX6_touch_2 (As := [_]) (c_X6_isQuad hA0 _) (by assumption) rfl rfl rfl rfl ?_
  refine V_if_eq F 31 dX6_touch_5 (by decide) (fun c5 => ?_) (fun c5 => ?_)
  · rw [bI_0] at c5
    exact bad (fun z => by rw [c5] at z; cases z.1)
  · rw [bI_n] at c5
    refine V_iload_n F dX6_touch_8 rfl ?_
    refine V_isR F is_X6_109 dX6_touch_9 (As := [_]) (c_X6_isCoin _) rfl rfl rfl ?_
    refine V_if_eq F 31 dX6_touch_12 (by decide) (fun c12 => ?_) (fun c12 => ?_)
    · rw [bI_0] at c12
      exact bad (fun z => by rw [c12] at z; cases z.2.1)
    · rw [bI_n] at c12
      refine V_aload_n F dX6_touch_15 rfl ?_
      refine V_iload_n F dX6_touch_16 rfl ?_
      refine V_ivR F iv_X6_106 dX6_touch_17 (As := [_]) (c_X6_isQuad hA0 _) (by assumption) rfl rfl rfl rfl ?_
      refine V_if_eq F 31 dX6_touch_20 (by decide) (fun c20 => ?_) (fun c20 => ?_)
      · rw [bI_0] at c20
        exact bad (fun z => by rw [c20] at z; cases z.2.2.1)
      · rw [bI_n] at c20
        refine V_iload F dX6_touch_23 rfl ?_
        refine V_isR F is_X6_109 dX6_touch_25 (As := [_]) (c_X6_isCoin _) rfl rfl rfl ?_
        refine V_if_ne F 33 dX6_touch_28 (by decide) (fun c28 => ?_) (fun c28 => ?_)
        · rw [bI_n] at c28
          rw [if_pos ⟨c5, c12, c20, c28⟩] at hR
          obtain ⟨a, ha, rfl⟩ := inR_t (by omega) c5
          obtain ⟨b, hb, rfl⟩ := inR_t (by omega) c12
          obtain ⟨d, hd, rfl⟩ := inR_t (by omega) c20
          obtain ⟨e, he, rfl⟩ := inR_t (by omega) c28
          rw [ix_nI (by omega), ix_nI (by omega), ix_nI (by omega), ix_nI (by omega)] at hR
          obtain ⟨p1, p2, p3, p4, p5⟩ := (hQ a (by omega)).1 ha
          obtain ⟨r1, r2, r3, r4, r5⟩ := (hQ d (by omega)).1 hd
          subst hR
          refine V_aload_n F dX6_touch_33 rfl ?_
          refine V_get F fl_X6_17 dX6_touch_34 (by assumption) rfl ?_
          refine V_iload_n F dX6_touch_37 rfl ?_
          refine V_aaldN F 3 dX6_touch_38 (by assumption) rfl rfl _ (by first | rfl | simp only [pk_mul, nI_add, nI_1, nI_inc]) (by omega) (by omega) (j4 a (by omega)) ?_
          refine V_get F fl_X6_112 dX6_touch_39 (by assumption) rfl ?_
          refine V_iload_n F dX6_touch_42 rfl ?_
          refine V_aload_n F dX6_touch_43 rfl ?_
          refine V_get F fl_X6_17 dX6_touch_44 (by assumption) rfl ?_
          refine V_iload_n F dX6_touch_47 rfl ?_
          refine V_aaldN F 3 dX6_touch_48 (by assumption) rfl rfl _ (by first | rfl | simp only [pk_mul, nI_add, nI_1, nI_inc]) (by omega) (by omega) (j4 d (by omega)) ?_
          refine V_get F fl_X6_112 dX6_touch_49 (by assumption) rfl ?_
          refine V_iload F dX6_touch_52 rfl ?_
          refine V_ivR F iv_X6_157 dX6_touch_54 (As := [_, _, _]) (c_X1_touches p2 p3 r2 r3 hb he) (by assumption) rfl rfl rfl rfl ?_
          refine V_if_eq F 64 dX6_touch_57 (by decide) (fun c57 => ?_) (fun c57 => ?_)
          · rw [bI_0] at c57
            refine V_iconst F dX6_touch_64 ki_0 ?_
            exact V_iret F rfl dX6_touch_65 rfl ⟨rf c57, hI, fun _ _ => rfl, rfl⟩
          · rw [bI_n] at c57
            refine V_iconst F dX6_touch_60 ki_1 ?_
            refine V_goto F 65 dX6_touch_61 (by decide) ?_
            exact V_iret F rfl dX6_touch_65 rfl ⟨rt c57, hI, fun _ _ => rfl, rfl⟩
        · rw [bI_0] at c28
          exact bad (fun z => by rw [c28] at z; cases z.2.2.2)
end CLS2
end
section
def S_listed (s : Sg) (i w : Int32) : Int32 := if inR w 3 = false then -20000000 else if inR i (sS s) = true then (sLst s (ix i) (ix w)).toInt32 else -20000001
def fnd (lst : Nat → Nat → Int64) (b : Int32) : Nat → Nat
  | 0 => 0
  | k + 1 => fnd lst b k + if lst k 0 = b.toInt64 then 1 else 0
theorem fnd_le (lst : Nat → Nat → Int64) (b : Int32) : ∀ k, fnd lst b k ≤ k
  | 0 => Nat.le_refl _
  | k + 1 => by unfold fnd; have := fnd_le lst b k; split <;> omega
def S_find (s : Sg) (b : Int32) : Int32 := nI (fnd (sLst s) b (sS s))
def S_left (s : Sg) (i : Int32) : Int32 := if i < 0 then -1 else bl (sLst s) (sS s) (sSe s) (ix i) (sMo s) 1 0 0
def S_count (s : Sg) (w : Int32) : Int32 := if w = 0 then nI (sNq s) else if w = 1 then nI (sS s) else if w = 2 then nI (sMo s) else -1
def ulist (s : Sg) (lst : Nat → Nat → Int64) (S mo : Nat) (se : Int32) : Sg := (s.1, s.2.1, s.2.2.1, s.2.2.2.1, s.2.2.2.2.1, s.2.2.2.2.2.1, s.2.2.2.2.2.2.1, lst, S, mo, se)
def rootq (s : Sg) (q : Nat) : Qd := (gd 100000 (sQc s q)).2
def CLres (s : Sg) (q mo : Int32) (g : St) : Int32 × Sg := if g.1 = false then (-4, s) else (nI g.2.1, ulist s g.2.2.1 g.2.1 (ix mo) (sQs s (ix q)))
/-- the class's list(): from some junk list (j, S0 = 0) on -/
def S_list (s : Sg) (q mo : Int32) (j : Nat → Nat → Int64) : Int32 × Sg := if inR q (sNq s) = false ∨ mo < nI 1 ∨ nI 2000 < mo then (-1, s) else CLres s q mo (gth (rootq s (ix q)) mo j 0)
def kOk (k : Int32) : Prop := -100 ≤ k ∧ k ≤ nI 100
def chn (c : Qd) (i j : Nat) (k : Int32) (w : Nat) : Int32 :=
  if 0 ≤ k then
    (if (ga (ix k - 1) (fbt i j) (6 - i - j - fbt i j) c).1 = false then -20000002 else ((ga (ix k - 1) (fbt i j) (6 - i - j - fbt i j) c).2 (if ix k % 2 = 0 then fbt i j else 6 - i - j - fbt i j) w).toInt32)
  else
    (if (ga (ix (-k)) (6 - i - j - fbt i j) (fbt i j) c).1 = false then -20000002 else ((ga (ix (-k)) (6 - i - j - fbt i j) (fbt i j) c).2 (if ix (-k) % 2 = 0 then fbt i j else 6 - i - j - fbt i j) w).toInt32)
def S_chain (s : Sg) (q i j k w : Int32) : Int32 := if inR q (sNq s) = true ∧ inR i 4 = true ∧ inR j 4 = true ∧ i ≠ j ∧ (-100 ≤ k ∧ k ≤ nI 100) ∧ inR w 3 = true then chn (sQc s (ix q)) (ix i) (ix j) k (ix w) else -20000000
section CLS3
variable {G : GP} {M : Mem} {s : Sg}
theorem c_X6_count (h : InvC G M s) (w : Int32) : Con G yX6_count cX6_count 2 (some .int) 0 0 0 [.ref (gB G), .int w] M none (PC G M (S_count s w) s) := by
  have hI := h
  obtain ⟨la, lb, hlab, hA, hJ, ⟨l1, l2, l3, -⟩, hG, hQ, h60⟩ := h
  unfold bkA at hA
  generalize hR : S_count s w = R
  unfold S_count at hR
  refine Con.of (by decide +kernel) (Nat.le_of_ble_eq_true rfl) (fun X F hnm => ?_)
  show V G X 0 0 _ M _ 0 [some (.ref (gB G)), some (.int w)] []
  refine V_iload_n F dX6_count_0 rfl ?_
  have e0 : (0 : Int32).toInt = 0 := by decide
  have e1 : (1 : Int32).toInt = 1 := by decide
  have e2 : (2 : Int32).toInt = 2 := by decide
  by_cases w0 : w = 0
  · subst w0
    rw [if_pos rfl] at hR
    subst hR
    refine V_tableIn F (off := 27) 28 dX6_count_1 (by decide) (by decide) (by decide) (by decide) ?_
    refine V_aload_n F dX6_count_28 rfl ?_
    refine V_get F fl_X6_21 dX6_count_29 (by assumption) rfl ?_
    exact V_iret F rfl dX6_count_32 rfl ⟨rfl, hI, fun _ _ => rfl, rfl⟩
  · rw [if_neg w0] at hR
    by_cases w1 : w = 1
    · subst w1
      rw [if_pos rfl] at hR
      subst hR
      refine V_tableIn F (off := 32) 33 dX6_count_1 (by decide) (by decide) (by decide) (by decide) ?_
      refine V_aload_n F dX6_count_33 rfl ?_
      refine V_get F fl_X6_49 dX6_count_34 (by assumption) rfl ?_
      refine V_get F fl_X6_167 dX6_count_37 l1.1 rfl ?_
      exact V_iret F rfl dX6_count_40 rfl ⟨rfl, hI, fun _ _ => rfl, rfl⟩
    · rw [if_neg w1] at hR
      by_cases w2 : w = 2
      · subst w2
        rw [if_pos rfl] at hR
        subst hR
        refine V_tableIn F (off := 40) 41 dX6_count_1 (by decide) (by decide) (by decide) (by decide) ?_
        refine V_aload_n F dX6_count_41 rfl ?_
        refine V_get F fl_X6_49 dX6_count_42 (by assumption) rfl ?_
        refine V_get F fl_X6_186 dX6_count_45 l1.1 rfl ?_
        exact V_iret F rfl dX6_count_48 rfl ⟨rfl, hI, fun _ _ => rfl, rfl⟩
      · rw [if_neg w2] at hR
        subst hR
        refine V_tableOut F 49 dX6_count_1 ?_ (by decide) ?_
        · have a0 : ¬ w.toInt = 0 := fun z => w0 (Int32.toInt_inj.mp (z.trans e0.symm))
          have a1 : ¬ w.toInt = 1 := fun z => w1 (Int32.toInt_inj.mp (z.trans e1.symm))
          have a2 : ¬ w.toInt = 2 := fun z => w2 (Int32.toInt_inj.mp (z.trans e2.symm))
          omega
        · refine V_iconst F dX6_count_49 ki_m1 ?_
          exact V_iret F rfl dX6_count_50 rfl ⟨rfl, hI, fun _ _ => rfl, rfl⟩
theorem c_X6_listed (h : InvC G M s) (i w : Int32) : Con G yX6_listed cX6_listed 3 (some .int) 1 0 0 [.ref (gB G), .int i, .int w] M none (PC G M (S_listed s i w) s) := by
  have hI := h
  obtain ⟨la, lb, hlab, hA, hJ, ⟨l1, l2, l3, -⟩, hG, hQ, h60⟩ := h
  unfold bkA at hA
  obtain ⟨m0, ⟨g, m1, m2⟩, m3⟩ := l1
  generalize hR : S_listed s i w = R
  unfold S_listed at hR
  refine Con.of (by decide +kernel) (Nat.le_of_ble_eq_true rfl) (fun X F hnm => ?_)
  show V G X 0 0 _ M _ 0 [some (.ref (gB G)), some (.int i), some (.int w)] []
  refine V_iload_n F dX6_listed_0 rfl ?_
  refine V_isR F is_X6_130 dX6_listed_1 (As := [_]) (c_X6_isWhat _) rfl rfl rfl ?_
  refine V_if_ne F 10 dX6_listed_4 (by decide) (fun c4 => ?_) (fun c4 => ?_)
  · rw [bI_n] at c4
    rw [if_neg (by rw [c4]; decide)] at hR
    obtain ⟨v, hv, rfl⟩ := inR_t (by omega) c4
    rw [ix_nI (by omega)] at hR
    have no : inR i (sS s) = false → V G X 0 0 (BQ G X (PC G M R s) 0 0) M none 25 [some (.ref (gB G)), some (.int i), some (.int (nI v))] [] := by
      intro z
      rw [if_neg (by rw [z]; decide)] at hR
      subst hR
      refine V_ldc F dX6_listed_25 kc_X6_170 ?_
      exact V_iret F rfl dX6_listed_27 rfl ⟨rfl, hI, fun _ _ => rfl, rfl⟩
    refine V_iload_n F dX6_listed_10 rfl ?_
    refine V_if_lt F 25 dX6_listed_11 (by decide) (fun c11 => ?_) (fun c11 => ?_)
    · exact no (by simp only [inR, Bool.and_eq_false_iff]; exact Or.inl (decide_eq_false (Int32.not_le.mpr c11)))
    · refine V_iload_n F dX6_listed_14 rfl ?_
      refine V_aload_n F dX6_listed_15 rfl ?_
      refine V_get F fl_X6_49 dX6_listed_16 (by assumption) rfl ?_
      refine V_get F fl_X6_167 dX6_listed_19 (by assumption) rfl ?_
      refine V_icmp_lt F 28 dX6_listed_22 (by decide) (fun c22 => ?_) (fun c22 => ?_)
      · have hin : inR i (sS s) = true := by simp only [inR, Bool.and_eq_true]; exact ⟨decide_eq_true (Int32.not_lt.mp c11), decide_eq_true c22⟩
        rw [if_pos hin] at hR
        obtain ⟨k, hk, rfl⟩ := inR_t (by omega) hin
        rw [ix_nI (by omega)] at hR
        subst hR
        refine V_aload_n F dX6_listed_28 rfl ?_
        refine V_get F fl_X6_49 dX6_listed_29 (by assumption) rfl ?_
        refine V_get F fl_X6_171 dX6_listed_32 (by assumption) rfl ?_
        refine V_iload_n F dX6_listed_35 rfl ?_
        refine V_aaldN F 5 dX6_listed_36 (by assumption) rfl rfl _ (by first | rfl | simp only [pk_mul, nI_add, nI_1, nI_inc]) (by omega) (by omega) (m2 v hv) ?_
        refine V_iload_n F dX6_listed_37 rfl ?_
        refine V_laldN F dX6_listed_38 (m3 v hv) _ (by first | rfl | simp only [pk_mul, nI_add, nI_1, nI_inc]) (by omega) (by omega) ?_
        refine V_l2i F dX6_listed_39 ?_
        exact V_iret F rfl dX6_listed_40 rfl ⟨rfl, hI, fun _ _ => rfl, rfl⟩
      · exact no (by simp only [inR, Bool.and_eq_false_iff]; exact Or.inr (decide_eq_false c22))
  · rw [bI_0] at c4
    rw [if_pos c4] at hR
    subst hR
    refine V_ldc F dX6_listed_7 kc_X6_133 ?_
    exact V_iret F rfl dX6_listed_9 rfl ⟨rfl, hI, fun _ _ => rfl, rfl⟩
theorem c_X6_find (h : InvC G M s) (b : Int32) : Con G yX6_find cX6_find 4 (some .int) 0 0 0 [.ref (gB G), .int b] M none (PC G M (S_find s b) s) := by
  have hI := h
  obtain ⟨la, lb, hlab, hA, hJ, ⟨l1, l2, l3, -⟩, hG, hQ, h60⟩ := h
  unfold bkA at hA
  obtain ⟨m0, ⟨g, m1, m2⟩, m3⟩ := l1
  unfold S_find
  have hle := fnd_le (sLst s) b
  refine Con.of (by decide +kernel) (Nat.le_of_ble_eq_true rfl) (fun X F hnm => ?_)
  show V G X 0 0 _ M _ 0 [some (.ref (gB G)), some (.int b), none, none] []
  generalize hQ : BQ G X _ 0 0 = Q
  have loop : ∀ m k : Nat, m + k = sS s → V G X 0 0 Q M none 4 [some (.ref (gB G)), some (.int b), some (.int (nI (fnd (sLst s) b k))), some (.int (nI k))] [] := by
    intro m
    induction m with
    | zero =>
      intro k hk
      have hk : k = sS s := by omega
      subst hk
      subst hQ
      refine V_iload_n F dX6_find_4 rfl ?_
      refine V_aload_n F dX6_find_5 rfl ?_
      refine V_get F fl_X6_49 dX6_find_6 (by assumption) rfl ?_
      refine V_get F fl_X6_167 dX6_find_9 (by assumption) rfl ?_
      refine V_icmp_ge F 41 dX6_find_12 (by decide) (fun c12 => ?_) (fun c12 => absurd (nI_le (by omega) (by omega)) c12)
      refine V_iload_n F dX6_find_41 rfl ?_
      exact V_iret F rfl dX6_find_42 rfl ⟨rfl, hI, fun _ _ => rfl, rfl⟩
    | succ m ih =>
      intro k hk
      have hk1 := hle k
      have ih := ih (k + 1) (by omega)
      rw [show fnd (sLst s) b (k + 1) = fnd (sLst s) b k + (if sLst s k 0 = b.toInt64 then 1 else 0) from rfl] at ih
      refine V_iload_n F dX6_find_4 rfl ?_
      refine V_aload_n F dX6_find_5 rfl ?_
      refine V_get F fl_X6_49 dX6_find_6 (by assumption) rfl ?_
      refine V_get F fl_X6_167 dX6_find_9 (by assumption) rfl ?_
      refine V_icmp_ge F 41 dX6_find_12 (by decide) (fun c12 => absurd c12 (nI_ge (by omega) (by omega))) (fun c12 => ?_)
      refine V_aload_n F dX6_find_15 rfl ?_
      refine V_get F fl_X6_49 dX6_find_16 (by assumption) rfl ?_
      refine V_get F fl_X6_171 dX6_find_19 (by assumption) rfl ?_
      refine V_iconst F dX6_find_22 ki_0 ?_
      refine V_aaldN F 5 dX6_find_23 (by assumption) rfl rfl _ (by first | rfl | simp only [pk_mul, nI_add, nI_1, nI_inc]) (by omega) (by omega) (m2 0 (by omega)) ?_
      refine V_iload_n F dX6_find_24 rfl ?_
      refine V_laldN F dX6_find_25 (m3 0 (by omega)) _ (by first | rfl | simp only [pk_mul, nI_add, nI_1, nI_inc]) (by omega) (by omega) ?_
      refine V_iload_n F dX6_find_26 rfl ?_
      refine V_i2l F dX6_find_27 ?_
      refine V_lcmp F dX6_find_28 ?_
      refine V_if_ne F 35 dX6_find_29 (by decide) (fun c29 => ?_) (fun c29 => ?_)
      · rw [lcmp_eq] at c29
        rw [if_neg c29] at ih
        refine V_iinc1 F dX6_find_35 rfl ?_
        show V _ _ _ _ _ _ _ _ [_, _, _, _] _
        refine V_goto F 4 dX6_find_38 (by decide) ?_
        exact ih
      · rw [lcmp_eq] at c29
        rw [if_pos c29] at ih
        refine V_iinc1 F dX6_find_32 rfl ?_
        show V _ _ _ _ _ _ _ _ [_, _, _, _] _
        refine V_iinc1 F dX6_find_35 rfl ?_
        show V _ _ _ _ _ _ _ _ [_, _, _, _] _
        refine V_goto F 4 dX6_find_38 (by decide) ?_
        exact ih
  refine V_iconst F dX6_find_0 ki_0 ?_
  refine V_istore_n F dX6_find_1 (Nat.le_of_ble_eq_true rfl) ?_
  show V _ _ _ _ _ _ _ _ [_, _, _, _] _
  refine V_iconst F dX6_find_2 ki_0 ?_
  refine V_istore_n F dX6_find_3 (Nat.le_of_ble_eq_true rfl) ?_
  show V _ _ _ _ _ _ _ _ [_, _, _, _] _
  exact loop (sS s) 0 (by omega)
theorem c_X6_left (h : InvC G M s) (i : Int32) : Con G yX6_left cX6_left 2 (some .int) 1 0 0 [.ref (gB G), .int i] M none (PC G M (S_left s i) s) := by
  have hI := h
  obtain ⟨la, lb, hlab, hA, hJ, ⟨l1, l2, l3, -⟩, hG, hQ, h60⟩ := h
  unfold bkA at hA
  generalize hR : S_left s i = R
  unfold S_left at hR
  refine Con.of (by decide +kernel) (Nat.le_of_ble_eq_true rfl) (fun X F hnm => ?_)
  show V G X 0 0 _ M _ 0 [some (.ref (gB G)), some (.int i)] []
  refine V_iload_n F dX6_left_0 rfl ?_
  refine V_if_ge F 8 dX6_left_1 (by decide) (fun c1 => ?_) (fun c1 => ?_)
  · rw [if_neg (Int32.not_lt.mpr c1)] at hR
    obtain ⟨k, hk, rfl⟩ := nI_of (Int32.not_lt.mpr c1)
    rw [ix_nI hk] at hR
    subst hR
    refine V_aload_n F dX6_left_8 rfl ?_
    refine V_get F fl_X6_49 dX6_left_9 (by assumption) rfl ?_
    refine V_iload_n F dX6_left_12 rfl ?_
    refine V_ivR F iv_X6_175 dX6_left_13 (As := [_]) (c_X2_bendLeft l1 l2 l3 hk) l1.1 rfl rfl rfl rfl ?_
    exact V_iret F rfl dX6_left_16 rfl ⟨rfl, hI, fun _ _ => rfl, rfl⟩
  · rw [if_pos (Int32.not_le.mp c1)] at hR
    subst hR
    refine V_iconst F dX6_left_4 ki_m1 ?_
    refine V_goto F 16 dX6_left_5 (by decide) ?_
    exact V_iret F rfl dX6_left_16 rfl ⟨rfl, hI, fun _ _ => rfl, rfl⟩
theorem c_X6_list (h : InvC G M s) (q mo : Int32) : Con G yX6_list cX6_list 4 (some .int) 6 0 0 [.ref (gB G), .int q, .int mo] M none (fun v M' n' => ∃ j, PC G M (S_list s q mo j).1 (S_list s q mo j).2 v M' n') := by
  have hI := h
  obtain ⟨la, lb, hlab, hA, hJ, hL, hG, hQ, h60⟩ := h
  have hA0 := hA
  have hL0 := hL
  have hJ0 := hJ
  obtain ⟨⟨gb, j1, j2⟩, ⟨gq, j3, j4⟩, j5, ⟨cd, j6⟩, ⟨xe, xf, j7, j8⟩, ⟨ws, j9⟩⟩ := hJ
  obtain ⟨l1, l2, l3, lst', S', mo', se', d1⟩ := hL
  unfold bkA at hA
  refine Con.of (by decide +kernel) (Nat.le_of_ble_eq_true rfl) (fun X F hnm => ?_)
  show V G X 0 0 _ M _ 0 [some (.ref (gB G)), some (.int q), some (.int mo), none] []
  generalize hQ1 : BQ G X _ 0 0 = Q
  have bad : (inR q (sNq s) = false ∨ mo < nI 1 ∨ nI 2000 < mo) → V G X 0 0 Q M none 20 [some (.ref (gB G)), some (.int q), some (.int mo), none] [] := by
    intro z
    subst hQ1
    have hR : S_list s q mo lst' = (-1, s) := by unfold S_list; rw [if_pos z]
    refine V_iconst F dX6_list_20 ki_m1 ?_
    exact V_iret F rfl dX6_list_21 rfl ⟨lst', by rw [hR], by rw [hR]; exact hI, fun _ _ => rfl, rfl⟩
  refine V_aload_n F dX6_list_0 rfl ?_
  refine V_iload_n F dX6_list_1 rfl ?_
  refine V_ivR F iv_X6_106 dX6_list_2 (As := [_]) (c_X6_isQuad hA0 _) (by assumption) rfl rfl rfl rfl ?_
  refine V_if_eq F 20 dX6_list_5 (by decide) (fun c5 => ?_) (fun c5 => ?_)
  · rw [bI_0] at c5
    exact bad (Or.inl c5)
  · rw [bI_n] at c5
    refine V_iload_n F dX6_list_8 rfl ?_
    refine V_iconst F dX6_list_9 ki_1 ?_
    refine V_icmp_lt F 20 dX6_list_10 (by decide) (fun c10 => ?_) (fun c10 => ?_)
    · exact bad (Or.inr (Or.inl c10))
    · refine V_iload_n F dX6_list_13 rfl ?_
      refine V_sipush F dX6_list_14 ks_2000 ?_
      refine V_icmp_le F 22 dX6_list_17 (by decide) (fun c17 => ?_) (fun c17 => ?_)
      · have hno : ¬ (inR q (sNq s) = false ∨ mo < nI 1 ∨ nI 2000 < mo) := fun z => by
          rcases z with z | z | z
          · rw [c5] at z; cases z
          · exact c10 z
          · exact absurd z (Int32.not_lt.mpr c17)
        obtain ⟨k, hk, rfl⟩ := inR_t (by omega) c5
        have hmo : ∃ m, m ≤ 2000 ∧ mo = nI m := by
          refine nI_of2 (M := nI 2000) (nI_toInt (by omega)) (fun z => c10 ?_) c17
          rw [Int32.lt_iff_toInt_lt] at z ⊢
          rw [nI_toInt (by omega)]
          have : (0 : Int32).toInt = 0 := by decide
          omega
        obtain ⟨m, hm, rfl⟩ := hmo
        obtain ⟨p1, p2, p3, p4, p5⟩ := (hQ k (by omega)).1 hk
        have hlb : lb = 494 ∨ lb = 499 := by omega
        refine V_aload_n F dX6_list_22 rfl ?_
        refine V_get F fl_X6_53 dX6_list_23 (by assumption) rfl ?_
        refine V_iload_n F dX6_list_26 rfl ?_
        refine V_aload_n F dX6_list_27 rfl ?_
        refine V_get F fl_X6_17 dX6_list_28 (by assumption) rfl ?_
        refine V_iload_n F dX6_list_31 rfl ?_
        refine V_aaldN F 3 dX6_list_32 (by assumption) rfl rfl _ (by first | rfl | simp only [pk_mul, nI_add, nI_1, nI_inc]) (by omega) (by omega) (j4 k (by omega)) ?_
        refine V_get F fl_X6_127 dX6_list_33 (by assumption) rfl ?_
        refine V_ivR F iv_X6_161 dX6_list_36 (As := [_, _]) (c_X2_begin d1.1 _ _) d1.1 rfl rfl rfl rfl ?_
        have d2 : lstA G lb (mset M (gB G + lb) (eO 2 [.ref (gB G + lb + 1), .int (nI 0), .int (nI m), .int (sQs s k)])) lst' 0 (nI m) (sQs s k) := by
          obtain ⟨-, ⟨g, m1, m2⟩, m3⟩ := d1
          exact ⟨mset_eq _ _ _, ⟨g, (mset_ne _ _ (by omega)).trans m1, m2⟩, fun w hw => (mset_ne _ _ (by show gB G + lb + 2 + w ≠ gB G + lb; omega)).trans (m3 w hw)⟩
        have fr1 : ∀ z, z ≠ gB G + lb → mset M (gB G + lb) (eO 2 [.ref (gB G + lb + 1), .int (nI 0), .int (nI m), .int (sQs s k)]) z = M z := fun z hz => mset_ne _ _ hz
        generalize mset M (gB G + lb) (eO 2 [.ref (gB G + lb + 1), .int (nI 0), .int (nI m), .int (sQs s k)]) = M1 at d2 fr1 ⊢
        have A1 := (fr1 (gB G) (by omega)).trans hA
        have sea1 : seaA G M1 ws := j9.frame (fun z z1 z2 => fr1 z (by omega))
        refine V_aload_n F dX6_list_39 rfl ?_
        refine V_get F fl_X6_42 dX6_list_40 A1 rfl ?_
        refine V_aload_n F dX6_list_43 rfl ?_
        refine V_get F fl_X6_17 dX6_list_44 A1 rfl ?_
        refine V_iload_n F dX6_list_47 rfl ?_
        refine V_aaldN F 3 dX6_list_48 ((fr1 _ (by omega)).trans j3) rfl rfl _ (by first | rfl | simp only [pk_mul, nI_add, nI_1, nI_inc]) (by omega) (by omega) (j4 k (by omega)) ?_
        refine V_get F fl_X6_150 dX6_list_49 ((fr1 _ (by omega)).trans p1) rfl ?_
        refine V_aload_n F dX6_list_52 rfl ?_
        refine V_get F fl_X6_53 dX6_list_53 A1 rfl ?_
        refine V_ivP F iv_X6_164 dX6_list_56 (As := [_, _]) (c_X3_gather hlb sea1 d2 (by omega) ((fr1 _ (by omega)).trans p4) ((fr1 _ (by omega)).trans p5) (by omega) (by omega)) sea1.1 rfl rfl rfl rfl ?_
        rintro v M2 n2 ⟨rfl, ⟨ws2, sea2⟩, lst2, hS2, fr2, rfl⟩
        have hE : S_list s (nI k) (nI m) lst' = CLres s (nI k) (nI m) (gth (rootq s k) (nI m) lst' 0) := by
          unfold S_list
          rw [if_neg hno, ix_nI (by omega)]
        have eqr : rootq s k = (gd 100000 (sQc s k)).2 := rfl
        rw [eqr] at hE
        generalize gth (gd 100000 (sQc s k)).2 (nI m) lst' 0 = g at hE lst2 hS2 ⊢
        have fr : ∀ z, (z < gB G + 7 ∨ gB G + 494 ≤ z) → (z < gB G + lb ∨ gB G + lb + 5 ≤ z) → M2 z = M z := fun z z1 z2 => (fr2 z z1 z2).trans (fr1 z (by omega))
        have A2 := (fr (gB G) (by omega) (by omega)).trans hA
        have J2 : bkJ G M2 := ⟨⟨gb, (fr _ (by omega) (by omega)).trans j1, j2⟩, ⟨gq, (fr _ (by omega) (by omega)).trans j3, j4⟩, (fr _ (by omega) (by omega)).trans j5, ⟨cd, (fr _ (by omega) (by omega)).trans j6⟩, ⟨xe, xf, (fr _ (by omega) (by omega)).trans j7, (fr _ (by omega) (by omega)).trans j8⟩, ⟨ws2, sea2⟩⟩
        have l1' : lstA G la M2 (sLst s) (sS s) (nI (sMo s)) (sSe s) := l1.frame (fun z z1 z2 => fr z (by omega) (by omega))
        refine V_if_ne F 65 dX6_list_59 (by decide) (fun c59 => ?_) (fun c59 => ?_)
        · rw [bI_n] at c59
          unfold CLres at hE
          rw [if_neg (by rw [c59]; decide), ix_nI (by omega), ix_nI (by omega)] at hE
          refine V_aload_n F dX6_list_65 rfl ?_
          refine V_get F fl_X6_49 dX6_list_66 A2 rfl ?_
          refine V_astore_n F dX6_list_69 (Nat.le_of_ble_eq_true rfl) ?_
          show V _ _ _ _ _ _ _ _ [_, _, _, _] _
          refine V_aload_n F dX6_list_70 rfl ?_
          refine V_aload_n F dX6_list_71 rfl ?_
          refine V_get F fl_X6_53 dX6_list_72 A2 rfl ?_
          refine V_put F fl_X6_49 dX6_list_75 A2 rfl rfl (Nat.le_of_ble_eq_true rfl) ?_
          refine V_aload_n F dX6_list_78 rfl ?_
          refine V_aload_n F dX6_list_79 rfl ?_
          refine V_put F fl_X6_53 dX6_list_80 (mset_eq _ _ _) rfl rfl (Nat.le_of_ble_eq_true rfl) ?_
          rw [mset_mset]
          show V _ _ _ _ _ (mset M2 (gB G) (eO 6 [.ref (gB G + 1), .ref (gB G + 2), .int (nI (sNq s)), .ref (gB G + 3), .ref (gB G + 5), .ref (gB G + 7), .ref (gB G + lb), .ref (gB G + la)])) _ _ _ _
          have fr3 : ∀ z, z ≠ gB G → mset M2 (gB G) (eO 6 [.ref (gB G + 1), .ref (gB G + 2), .int (nI (sNq s)), .ref (gB G + 3), .ref (gB G + 5), .ref (gB G + 7), .ref (gB G + lb), .ref (gB G + la)]) z = M2 z := fun z hz => mset_ne _ _ hz
          have A3 := mset_eq M2 (gB G) (eO 6 [.ref (gB G + 1), .ref (gB G + 2), .int (nI (sNq s)), .ref (gB G + 3), .ref (gB G + 5), .ref (gB G + 7), .ref (gB G + lb), .ref (gB G + la)])
          generalize mset M2 (gB G) (eO 6 [.ref (gB G + 1), .ref (gB G + 2), .int (nI (sNq s)), .ref (gB G + 3), .ref (gB G + 5), .ref (gB G + 7), .ref (gB G + lb), .ref (gB G + la)]) = M3 at fr3 A3 ⊢
          have lst3 : lstA G lb M3 g.2.2.1 g.2.1 (nI m) (sQs s k) := lst2.frame (fun z z1 z2 => fr3 z (by omega))
          have l13 : lstA G la M3 (sLst s) (sS s) (nI (sMo s)) (sSe s) := l1'.frame (fun z z1 z2 => fr3 z (by omega))
          subst hQ1
          refine V_aload_n F dX6_list_83 rfl ?_
          refine V_get F fl_X6_49 dX6_list_84 (by assumption) rfl ?_
          refine V_get F fl_X6_167 dX6_list_87 lst3.1 rfl ?_
          exact V_iret F rfl dX6_list_90 rfl ⟨lst', by rw [hE], by rw [hE]; exact ⟨lb, la, by omega, A3, J2.frame (fun z z1 z2 => fr3 z (by omega)), ⟨lst3, hS2, hm, _, _, _, _, l13⟩, hG.frame (fun z z1 z2 => (fr3 z (by omega)).trans (fr z (by omega) (by omega))), hQ.frame (fun z z1 z2 => (fr3 z (by omega)).trans (fr z (by omega) (by omega))), h60⟩, fun z hz => (fr3 z (by omega)).trans (fr z (by omega) (by omega)), rfl⟩
        · rw [bI_0] at c59
          unfold CLres at hE
          rw [if_pos c59] at hE
          subst hQ1
          refine V_bipush F dX6_list_62 kb_m4 ?_
          exact V_iret F rfl dX6_list_64 rfl ⟨lst', by rw [hE], by rw [hE]; exact ⟨la, lb, hlab, A2, J2, ⟨l1', l2, l3, _, _, _, _, lst2⟩, hG.frame (fun z z1 z2 => fr z (by omega) (by omega)), hQ.frame (fun z z1 z2 => fr z (by omega) (by omega)), h60⟩, fun z hz => fr z (by omega) (by omega), rfl⟩
      · exact bad (Or.inr (Or.inr (Int32.not_le.mp c17)))
theorem fbt_lt {i j : Nat} : fbt i j < 3 := by unfold fbt; split <;> (try split) <;> omega
theorem odd_lt {i j : Nat} (hi : i < 4) (hj : j < 4) (h : i ≠ j) : 6 - i - j - fbt i j < 4 ∧ i + j + fbt i j ≤ 6 := by
  unfold fbt; split <;> (try split) <;> omega
theorem c_X6_chain (h : InvC G M s) (q i j k w : Int32) : Con G yX6_chain cX6_chain 8 (some .int) 6 0 0 [.ref (gB G), .int q, .int i, .int j, .int k, .int w] M none (PC G M (S_chain s q i j k w) s) := by
  have hI := h
  obtain ⟨la, lb, hlab, hA, hJ, hL, hG, hQ, h60⟩ := h
  have hA0 := hA
  obtain ⟨⟨gb, j1, j2⟩, ⟨gq, j3, j4⟩, j5, ⟨cd, j6⟩, ⟨xe, xf, j7, j8⟩, ⟨ws, j9⟩⟩ := hJ
  unfold bkA at hA
  generalize hR : S_chain s q i j k w = R
  unfold S_chain at hR
  refine Con.of (by decide +kernel) (Nat.le_of_ble_eq_true rfl) (fun X F hnm => ?_)
  show V G X 0 0 _ M _ 0 [some (.ref (gB G)), some (.int q), some (.int i), some (.int j), some (.int k), some (.int w), none, none] []
  have bad1 : ¬ (inR q (sNq s) = true ∧ inR i 4 = true ∧ inR j 4 = true ∧ i ≠ j ∧ (-100 ≤ k ∧ k ≤ nI 100) ∧ inR w 3 = true) → V G X 0 0 (BQ G X (PC G M R s) 0 0) M none 27 [some (.ref (gB G)), some (.int q), some (.int i), some (.int j), some (.int k), some (.int w), none, none] [] := by
    intro z
    rw [if_neg z] at hR
    subst hR
    refine V_ldc F dX6_chain_27 kc_X6_133 ?_
    exact V_iret F rfl dX6_chain_29 rfl ⟨rfl, hI, fun _ _ => rfl, rfl⟩
  have bad2 : ¬ (inR q (sNq s) = true ∧ inR i 4 = true ∧ inR j 4 = true ∧ i ≠ j ∧ (-100 ≤ k ∧ k ≤ nI 100) ∧ inR w 3 = true) → V G X 0 0 (BQ G X (PC G M R s) 0 0) M none 52 [some (.ref (gB G)), some (.int q), some (.int i), some (.int j), some (.int k), some (.int w), none, none] [] := by
    intro z
    rw [if_neg z] at hR
    subst hR
    refine V_ldc F dX6_chain_52 kc_X6_133 ?_
    exact V_iret F rfl dX6_chain_54 rfl ⟨rfl, hI, fun _ _ => rfl, rfl⟩
  refine V_aload_n F dX6_chain_0 rfl ?_
  refine V_iload_n F dX6_chain_1 rfl ?_
  refine V_ivR F iv_X6_106 dX6_chain_2 (As := [_]) (c_X6_isQuad hA0 _) (by assumption) rfl rfl rfl rfl ?_
  refine V_if_eq F 27 dX6_chain_5 (by decide) (fun c5 => ?_) (fun c5 => ?_)
  · rw [bI_0] at c5
    exact bad1 (fun z => by rw [c5] at z; cases z.1)
  · rw [bI_n] at c5
    refine V_iload_n F dX6_chain_8 rfl ?_
    refine V_isR F is_X6_109 dX6_chain_9 (As := [_]) (c_X6_isCoin _) rfl rfl rfl ?_
    refine V_if_eq F 27 dX6_chain_12 (by decide) (fun c12 => ?_) (fun c12 => ?_)
    · rw [bI_0] at c12
      exact bad1 (fun z => by rw [c12] at z; cases z.2.1)
    · rw [bI_n] at c12
      refine V_iload_n F dX6_chain_15 rfl ?_
      refine V_isR F is_X6_109 dX6_chain_16 (As := [_]) (c_X6_isCoin _) rfl rfl rfl ?_
      refine V_if_eq F 27 dX6_chain_19 (by decide) (fun c19 => ?_) (fun c19 => ?_)
      · rw [bI_0] at c19
        exact bad1 (fun z => by rw [c19] at z; cases z.2.2.1)
      · rw [bI_n] at c19
        refine V_iload_n F dX6_chain_22 rfl ?_
        refine V_iload_n F dX6_chain_23 rfl ?_
        refine V_icmp_ne F 30 dX6_chain_24 (by decide) (fun c24 => ?_) (fun c24 => ?_)
        · refine V_iload F dX6_chain_30 rfl ?_
          refine V_bipush F dX6_chain_32 kb_m100 ?_
          refine V_icmp_lt F 52 dX6_chain_34 (by decide) (fun c34 => ?_) (fun c34 => ?_)
          · exact bad2 (fun z => absurd c34 (Int32.not_lt.mpr z.2.2.2.2.1.1))
          · refine V_iload F dX6_chain_37 rfl ?_
            refine V_bipush F dX6_chain_39 kb_100 ?_
            refine V_icmp_gt F 52 dX6_chain_41 (by decide) (fun c41 => ?_) (fun c41 => ?_)
            · exact bad2 (fun z => absurd c41 (Int32.not_lt.mpr z.2.2.2.2.1.2))
            · refine V_iload F dX6_chain_44 rfl ?_
              refine V_isR F is_X6_130 dX6_chain_46 (As := [_]) (c_X6_isWhat _) rfl rfl rfl ?_
              refine V_if_ne F 55 dX6_chain_49 (by decide) (fun c49 => ?_) (fun c49 => ?_)
              · rw [bI_n] at c49
                rw [if_pos ⟨c5, c12, c19, c24, ⟨Int32.not_lt.mp c34, Int32.not_lt.mp c41⟩, c49⟩] at hR
                obtain ⟨a, ha, rfl⟩ := inR_t (by omega) c5
                obtain ⟨ci, hci, rfl⟩ := inR_t (by omega) c12
                obtain ⟨cj, hcj, rfl⟩ := inR_t (by omega) c19
                obtain ⟨v, hv, rfl⟩ := inR_t (by omega) c49
                have hne : ci ≠ cj := fun z => c24 (by rw [z])
                obtain ⟨o1, o2⟩ := odd_lt hci hcj hne
                have f3 := @fbt_lt ci cj
                rw [ix_nI (by omega), ix_nI (by omega), ix_nI (by omega), ix_nI (by omega)] at hR
                obtain ⟨p1, p2, p3, p4, p5⟩ := (hQ a (by omega)).1 ha
                refine V_iload_n F dX6_chain_55 rfl ?_
                refine V_iload_n F dX6_chain_56 rfl ?_
                refine V_isR F is_X6_178 dX6_chain_57 (As := [_, _]) (c_X6_firstBut hci hcj) rfl rfl rfl ?_
                refine V_istore F dX6_chain_60 (Nat.le_of_ble_eq_true rfl) ?_
                show V _ _ _ _ _ _ _ _ [_, _, _, _, _, _, _, _] _
                refine V_bipush F dX6_chain_62 kb_6 ?_
                refine V_iload_n F dX6_chain_64 rfl ?_
                refine V_isub F dX6_chain_65 ?_
                rw [pk_sub (by omega)]
                refine V_iload_n F dX6_chain_66 rfl ?_
                refine V_isub F dX6_chain_67 ?_
                rw [pk_sub (by omega)]
                refine V_iload F dX6_chain_68 rfl ?_
                refine V_isub F dX6_chain_70 ?_
                rw [pk_sub (by omega)]
                unfold chn at hR
                generalize fbt ci cj = fe at hR f3 o1 o2 ⊢
                generalize hod : 6 - ci - cj - fe = od at hR o1 ⊢
                refine V_istore F dX6_chain_71 (Nat.le_of_ble_eq_true rfl) ?_
                show V _ _ _ _ _ _ _ _ [_, _, _, _, _, _, _, _] _
                refine V_aload_n F dX6_chain_73 rfl ?_
                refine V_get F fl_X6_28 dX6_chain_74 (by assumption) rfl ?_
                refine V_aload_n F dX6_chain_77 rfl ?_
                refine V_get F fl_X6_17 dX6_chain_78 (by assumption) rfl ?_
                refine V_iload_n F dX6_chain_81 rfl ?_
                refine V_aaldN F 3 dX6_chain_82 (by assumption) rfl rfl _ (by first | rfl | simp only [pk_mul, nI_add, nI_1, nI_inc]) (by omega) (by omega) (j4 a (by omega)) ?_
                refine V_get F fl_X6_112 dX6_chain_83 (by assumption) rfl ?_
                refine V_ivR F iv_X6_115 dX6_chain_86 (As := [_]) (c_X1_take j5 j6 p2 p3) (by assumption) rfl rfl rfl rfl ?_
                have k3 : ∀ e, mset M (gB G + 4) e (gB G + 3) = _ := fun e => (mset_ne _ _ (by omega)).trans j5
                have kA : ∀ e, mset M (gB G + 4) e (gB G) = _ := fun e => (mset_ne _ _ (by omega)).trans hA
                by_cases hk0 : 0 ≤ k
                · rw [if_pos hk0] at hR
                  obtain ⟨kk, hkk, rfl⟩ := nI_of2 (M := nI 100) (nI_toInt (by omega)) (Int32.not_lt.mpr hk0) (Int32.not_lt.mp c41)
                  rw [ix_nI (by omega)] at hR
                  refine V_aload_n F dX6_chain_89 rfl ?_
                  refine V_get F fl_X6_28 dX6_chain_90 (kA _) rfl ?_
                  refine V_iload F dX6_chain_93 rfl ?_
                  refine V_iload F dX6_chain_95 rfl ?_
                  refine V_iload F dX6_chain_97 rfl ?_
                  refine V_ivR F iv_X6_181 dX6_chain_99 (As := [_, _, _]) (c_X1_goAlong (k3 _) (mset_eq _ _ _) (by omega) o1 hkk) (k3 _) rfl rfl rfl rfl ?_
                  refine V_if_ne F 108 dX6_chain_102 (by decide) (fun c102 => ?_) (fun c102 => ?_)
                  · rw [bI_n] at c102
                    rw [mset_mset]
                    rw [if_neg (by rw [c102]; decide)] at hR
                    refine V_aload_n F dX6_chain_108 rfl ?_
                    refine V_get F fl_X6_28 dX6_chain_109 (kA _) rfl ?_
                    refine V_iload F dX6_chain_112 rfl ?_
                    refine V_iconst F dX6_chain_114 ki_1 ?_
                    refine V_iand F dX6_chain_115 ?_
                    rw [pos_and kk (by omega)]
                    refine V_if_ne F 124 dX6_chain_116 (by decide) (fun c116 => ?_) (fun c116 => ?_)
                    · have hz : ¬ kk % 2 = 0 := fun z => c116 (by rw [z]; rfl)
                      rw [if_neg hz] at hR
                      subst hR
                      refine V_iload F dX6_chain_124 rfl ?_
                      refine V_iload F dX6_chain_126 rfl ?_
                      refine V_ivR F iv_X6_134 dX6_chain_128 (As := [_, _]) (c_X1_told (k3 _) (mset_eq _ _ _) o1 hv) (k3 _) rfl rfl rfl rfl ?_
                      refine V_l2i F dX6_chain_131 ?_
                      exact V_iret F rfl dX6_chain_132 rfl ⟨rfl, hI.desk _, fun z hz => mset_ne _ _ (by omega), rfl⟩
                    · have hz : kk % 2 = 0 := (nI_eq (b := 0) (by omega) (by omega)).mp c116
                      rw [if_pos hz] at hR
                      subst hR
                      refine V_iload F dX6_chain_119 rfl ?_
                      refine V_goto F 126 dX6_chain_121 (by decide) ?_
                      refine V_iload F dX6_chain_126 rfl ?_
                      refine V_ivR F iv_X6_134 dX6_chain_128 (As := [_, _]) (c_X1_told (k3 _) (mset_eq _ _ _) (by omega) hv) (k3 _) rfl rfl rfl rfl ?_
                      refine V_l2i F dX6_chain_131 ?_
                      exact V_iret F rfl dX6_chain_132 rfl ⟨rfl, hI.desk _, fun z hz => mset_ne _ _ (by omega), rfl⟩
                  · rw [bI_0] at c102
                    rw [mset_mset]
                    rw [if_pos c102] at hR
                    subst hR
                    refine V_ldc F dX6_chain_105 kc_X6_185 ?_
                    exact V_iret F rfl dX6_chain_107 rfl ⟨rfl, hI.desk _, fun z hz => mset_ne _ _ (by omega), rfl⟩
                · rw [if_neg hk0] at hR
                  have hneg : ∃ kk, kk ≤ 100 ∧ 1 ≤ kk ∧ k = -nI kk := by
                    refine ⟨(-k.toInt).toNat, ?_, ?_, ?_⟩
                    · have := Int32.not_lt.mp c34
                      rw [Int32.le_iff_toInt_le] at this
                      have e : (-100 : Int32).toInt = -100 := by decide
                      omega
                    · rw [Int32.le_iff_toInt_le] at hk0
                      have e : (0 : Int32).toInt = 0 := by decide
                      omega
                    · have := Int32.not_lt.mp c34
                      rw [Int32.le_iff_toInt_le] at this
                      have e : (-100 : Int32).toInt = -100 := by decide
                      have e0 : (0 : Int32).toInt = 0 := by decide
                      rw [Int32.le_iff_toInt_le] at hk0
                      apply Int32.toInt_inj.mp
                      rw [sb_negT (by omega)]
                      omega
                  obtain ⟨kk, hkk, hk1, rfl⟩ := hneg
                  rw [Int32.neg_neg, ix_nI (by omega)] at hR
                  refine V_aload_n F dX6_chain_89 rfl ?_
                  refine V_get F fl_X6_28 dX6_chain_90 (kA _) rfl ?_
                  refine V_iload F dX6_chain_93 rfl ?_
                  refine V_iload F dX6_chain_95 rfl ?_
                  refine V_iload F dX6_chain_97 rfl ?_
                  refine V_ivR F iv_X6_181 dX6_chain_99 (As := [_, _, _]) (c_X1_goAlongN (k3 _) (mset_eq _ _ _) (by omega) o1 hkk hk1) (k3 _) rfl rfl rfl rfl ?_
                  refine V_if_ne F 108 dX6_chain_102 (by decide) (fun c102 => ?_) (fun c102 => ?_)
                  · rw [bI_n] at c102
                    rw [mset_mset]
                    rw [if_neg (by rw [c102]; decide)] at hR
                    refine V_aload_n F dX6_chain_108 rfl ?_
                    refine V_get F fl_X6_28 dX6_chain_109 (kA _) rfl ?_
                    refine V_iload F dX6_chain_112 rfl ?_
                    refine V_iconst F dX6_chain_114 ki_1 ?_
                    refine V_iand F dX6_chain_115 ?_
                    rw [neg_and kk (by omega)]
                    refine V_if_ne F 124 dX6_chain_116 (by decide) (fun c116 => ?_) (fun c116 => ?_)
                    · have hz : ¬ kk % 2 = 0 := fun z => c116 (by rw [z]; rfl)
                      rw [if_neg hz] at hR
                      subst hR
                      refine V_iload F dX6_chain_124 rfl ?_
                      refine V_iload F dX6_chain_126 rfl ?_
                      refine V_ivR F iv_X6_134 dX6_chain_128 (As := [_, _]) (c_X1_told (k3 _) (mset_eq _ _ _) o1 hv) (k3 _) rfl rfl rfl rfl ?_
                      refine V_l2i F dX6_chain_131 ?_
                      exact V_iret F rfl dX6_chain_132 rfl ⟨rfl, hI.desk _, fun z hz => mset_ne _ _ (by omega), rfl⟩
                    · have hz : kk % 2 = 0 := (nI_eq (b := 0) (by omega) (by omega)).mp c116
                      rw [if_pos hz] at hR
                      subst hR
                      refine V_iload F dX6_chain_119 rfl ?_
                      refine V_goto F 126 dX6_chain_121 (by decide) ?_
                      refine V_iload F dX6_chain_126 rfl ?_
                      refine V_ivR F iv_X6_134 dX6_chain_128 (As := [_, _]) (c_X1_told (k3 _) (mset_eq _ _ _) (by omega) hv) (k3 _) rfl rfl rfl rfl ?_
                      refine V_l2i F dX6_chain_131 ?_
                      exact V_iret F rfl dX6_chain_132 rfl ⟨rfl, hI.desk _, fun z hz => mset_ne _ _ (by omega), rfl⟩
                  · rw [bI_0] at c102
                    rw [mset_mset]
                    rw [if_pos c102] at hR
                    subst hR
                    refine V_ldc F dX6_chain_105 kc_X6_185 ?_
                    exact V_iret F rfl dX6_chain_107 rfl ⟨rfl, hI.desk _, fun z hz => mset_ne _ _ (by omega), rfl⟩
              · rw [bI_0] at c49
                exact bad2 (fun z => by rw [c49] at z; cases z.2.2.2.2.2)
        · exact bad1 (fun z => z.2.2.2.1 c24)
end CLS3
end
section
abbrev oM (G : GP) : Nat := gB G + 816
abbrev objM (G : GP) (nq st lm lmo lq pd gd : Int32) : va_E := eO 7 [.ref (gB G + 817), .ref (gB G + 818), .ref (gB G + 819), .int nq, .ref (gB G + 820), .ref (gB G + 821), .ref (gB G + 822), .int st, .ref (gB G + 823), .int lm, .int lmo, .int lq, .ref (gB G + 824), .ref (gB G + 825), .ref (gB G + 826), .int pd, .ref (gB G + 827), .ref (gB G + 828), .int gd, .ref (gB G + 829), .ref (gB G + 830), .ref (gB G + 831)]
def jl (i : Nat) : Nat := if i = 822 then 12 else if i = 825 then 24 else if i = 826 then 4 else if i = 827 then 24000 else if i = 829 then 732 else 0
def il (i : Nat) : Nat := if i = 823 then 1000 else if i = 828 then 2000 else if i = 830 then 10368 else if i = 831 then 331776 else 0
def mJ (G : GP) (M : Mem) : Prop := (∀ i, 0 < jl i → ∃ f, M (gB G + i) = some (eJ (gT G) (jl i) f)) ∧ ∀ i, 0 < il i → ∃ f, M (gB G + i) = some (eI (gT G) (il i) f)
theorem jl_c {i : Nat} (h : 0 < jl i) : i = 822 ∨ i = 825 ∨ i = 826 ∨ i = 827 ∨ i = 829 := by
  unfold jl at h
  repeat' split at h <;> first | omega | skip
theorem il_c {i : Nat} (h : 0 < il i) : i = 823 ∨ i = 828 ∨ i = 830 ∨ i = 831 := by
  unfold il at h
  repeat' split at h <;> first | omega | skip
theorem mJ.frame {G : GP} {M M' : Mem} (h : mJ G M) (e : ∀ i, (0 < jl i ∨ 0 < il i) → M' (gB G + i) = M (gB G + i)) : mJ G M' := ⟨fun i hi => by
    obtain ⟨f, hf⟩ := h.1 i hi
    exact ⟨f, (e i (Or.inl hi)).trans hf⟩, fun i hi => by
    obtain ⟨f, hf⟩ := h.2 i hi
    exact ⟨f, (e i (Or.inr hi)).trans hf⟩⟩
theorem mJ.other {G : GP} {M : Mem} {a : Nat} {e : va_E} (h : mJ G M) (ha : ∀ i, (0 < jl i ∨ 0 < il i) → gB G + i ≠ a) : mJ G (mset M a e) := h.frame (fun i hi => mset_ne _ _ (ha i hi))
theorem mJ.setJ {G : GP} {M : Mem} (h : mJ G M) (i : Nat) {n : Nat} (hn : jl i = n) (h0 : 0 < n) (f : Nat → Int64) : mJ G (mset M (gB G + i) (eJ (gT G) n f)) := by
  subst hn
  refine ⟨fun j hj => ?_, fun j hj => ?_⟩
  · by_cases q : j = i
    · subst q; exact ⟨f, mset_eq _ _ _⟩
    · obtain ⟨g, hg⟩ := h.1 j hj
      exact ⟨g, (mset_ne _ _ (by omega)).trans hg⟩
  · obtain ⟨g, hg⟩ := h.2 j hj
    refine ⟨g, (mset_ne _ _ (fun q => ?_)).trans hg⟩
    have := jl_c h0
    have := il_c hj
    omega
theorem mJ.setI {G : GP} {M : Mem} (h : mJ G M) (i : Nat) {n : Nat} (hn : il i = n) (h0 : 0 < n) (f : Nat → Int32) : mJ G (mset M (gB G + i) (eI (gT G) n f)) := by
  subst hn
  refine ⟨fun j hj => ?_, fun j hj => ?_⟩
  · obtain ⟨g, hg⟩ := h.1 j hj
    refine ⟨g, (mset_ne _ _ (fun q => ?_)).trans hg⟩
    have := il_c h0
    have := jl_c hj
    omega
  · by_cases q : j = i
    · subst q; exact ⟨f, mset_eq _ _ _⟩
    · obtain ⟨g, hg⟩ := h.2 j hj
      exact ⟨g, (mset_ne _ _ (by omega)).trans hg⟩
def kdOk (k : Int32) : Prop := k = -1 ∨ k = nI 0 ∨ k = nI 1 ∨ k = nI 2
/-- the model's arrays that hold the state -/
def mA (G : GP) (M : Mem) (s : Sg) : Prop :=
  (∃ f, M (gB G + 817) = some (eI (gT G) 6 f) ∧ ∀ r, r < 6 → f r = sKd s r) ∧ (∃ f, M (gB G + 818) = some (eI (gT G) 6 f) ∧ ∀ r, r < 6 → f r = nI (sLn s r)) ∧ (∃ f, M (gB G + 819) = some (eJ (gT G) 144 f) ∧ ∀ r j, r < 6 → j < 24 → f (24 * r + j) = sPl s r j) ∧ (∃ f, M (gB G + 820) = some (eI (gT G) 60 f) ∧ ∀ k, k < sNq s → f k = sQf s k) ∧ (∃ f, M (gB G + 821) = some (eI (gT G) 720 f) ∧ ∀ k j w, k < sNq s → j < 4 → w < 3 → f (12 * k + 3 * j + w) = (sQc s k j w).toInt32) ∧ (∃ f, M (gB G + 824) = some (eI (gT G) 720 f) ∧ ∀ k w, k < sS s → w < 3 → f (3 * k + w) = (sLst s k w).toInt32)
def qIn (c : Qd) : Prop := ∀ j w, j < 4 → w < 3 → (c j w).toInt32.toInt64 = c j w
def gOk (s : Sg) : Prop := (∀ r, r < 6 → kdOk (sKd s r) ∧ sLn s r ≤ 24) ∧ sNq s ≤ 60 ∧ sS s ≤ 240 ∧ sMo s ≤ 2000 ∧ (∀ k, k < sNq s → qIn (sQc s k)) ∧ ∀ k w, k < sS s → w < 3 → (sLst s k w).toInt32.toInt64 = sLst s k w
def InvM (G : GP) (M : Mem) (s : Sg) (lq : Int32) : Prop := (∃ st pd gd, M (gB G + 816) = some (objM G (nI (sNq s)) st (nI (sS s)) (nI (sMo s)) lq pd gd)) ∧ mA G M s ∧ mJ G M ∧ gOk s
theorem mA.frame {G : GP} {M M' : Mem} {s : Sg} (h : mA G M s) (e : ∀ i, (817 ≤ i ∧ i < 822) ∨ i = 824 → M' (gB G + i) = M (gB G + i)) : mA G M' s := by
  obtain ⟨⟨f1, a1, b1⟩, ⟨f2, a2, b2⟩, ⟨f3, a3, b3⟩, ⟨f4, a4, b4⟩, ⟨f5, a5, b5⟩, ⟨f6, a6, b6⟩⟩ := h
  exact ⟨⟨f1, (e _ (by omega)).trans a1, b1⟩, ⟨f2, (e _ (by omega)).trans a2, b2⟩, ⟨f3, (e _ (by omega)).trans a3, b3⟩, ⟨f4, (e _ (by omega)).trans a4, b4⟩, ⟨f5, (e _ (by omega)).trans a5, b5⟩, ⟨f6, (e _ (by omega)).trans a6, b6⟩⟩
def PM (G : GP) (M : Mem) (v : Int32) (s : Sg) (lq : Int32) : Option Value → Mem → Option Nat → Prop := fun v' M' n' => v' = some (.int v) ∧ InvM G M' s lq ∧ (∀ z, z < gB G + 816 → M' z = M z) ∧ n' = none
def inL (v lo hi : Int64) : Bool := decide (lo ≤ v) && decide (v ≤ hi)
theorem inL_R {x : Int32} {m : Nat} (hm : m < 2 ^ 31) {hi : Int64} (hh : hi.toInt = (m : Int) - 1) : inL x.toInt64 0 hi = inR x m := by
  unfold inL inR
  have e0 : (0 : Int64).toInt = 0 := by decide
  have e1 : (0 : Int32).toInt = 0 := by decide
  congr 1
  · apply decide_eq_decide.mpr
    rw [Int64.le_iff_toInt_le, Int32.le_iff_toInt_le, Int32.toInt_toInt64, e0, e1]
  · apply decide_eq_decide.mpr
    rw [Int64.le_iff_toInt_le, Int32.lt_iff_toInt_lt, Int32.toInt_toInt64, hh, nI_toInt hm]
    omega
section MOD1
variable {G : GP} {M : Mem} {n : Option Nat} {s : Sg} {lq : Int32}
theorem c_X7_in (v lo hi : Int64) : Con G yX7_in cX7_in 6 (some .boolean) 0 0 0 [.long v, .long lo, .long hi] M n (R1 (some (.int (bI (inL v lo hi)))) M n) := by
  refine Con.of (by decide +kernel) (Nat.le_of_ble_eq_true rfl) (fun X F hnm => ?_)
  show V G X 0 0 _ M _ 0 [some (.long v), none, some (.long lo), none, some (.long hi), none] []
  refine V_lload_n F dX7_in_0 rfl ?_
  refine V_lload_n F dX7_in_1 rfl ?_
  refine V_lcmp F dX7_in_2 ?_
  refine V_if_lt F 17 dX7_in_3 (by decide) (fun c3 => ?_) (fun c3 => ?_)
  · rw [lcmp_lt] at c3
    refine V_iconst F dX7_in_17 ki_0 ?_
    exact V_iret F rfl dX7_in_18 rfl ⟨rf (by simp only [inL, Bool.and_eq_false_iff]; exact Or.inl (decide_eq_false (Int64.not_le.mpr c3))), rfl, rfl⟩
  · rw [lcmp_lt] at c3
    refine V_lload_n F dX7_in_6 rfl ?_
    refine V_lload F dX7_in_7 rfl ?_
    refine V_lcmp F dX7_in_9 ?_
    refine V_if_gt F 17 dX7_in_10 (by decide) (fun c10 => ?_) (fun c10 => ?_)
    · rw [lcmp_gt] at c10
      refine V_iconst F dX7_in_17 ki_0 ?_
      exact V_iret F rfl dX7_in_18 rfl ⟨rf (by simp only [inL, Bool.and_eq_false_iff]; exact Or.inr (decide_eq_false (Int64.not_le.mpr c10))), rfl, rfl⟩
    · rw [lcmp_gt] at c10
      refine V_iconst F dX7_in_13 ki_1 ?_
      refine V_goto F 18 dX7_in_14 (by decide) ?_
      exact V_iret F rfl dX7_in_18 rfl ⟨rt (by simp only [inL, Bool.and_eq_true]; exact ⟨decide_eq_true (Int64.not_lt.mp c3), decide_eq_true (Int64.not_lt.mp c10)⟩), rfl, rfl⟩
theorem c_X7_isBag (x : Int32) : Con G yX7_isBag cX7_isBag 1 (some .boolean) 1 0 0 [.int x] M n (R1 (some (.int (bI (inR x 6)))) M n) := by
  refine Con.of (by decide +kernel) (Nat.le_of_ble_eq_true rfl) (fun X F hnm => ?_)
  show V G X 0 0 _ M _ 0 [some (.int x)] []
  refine V_iload_n F dX7_isBag_0 rfl ?_
  refine V_i2l F dX7_isBag_1 ?_
  refine V_lconst F dX7_isBag_2 (v := 0) (by decide) ?_
  refine V_ldc2 F dX7_isBag_3 kl_X7_61 ?_
  refine V_isR F is_X7_63 dX7_isBag_6 (As := [_, _, _]) (c_X7_in _ _ _) rfl rfl rfl ?_
  rw [inL_R (m := 6) (by omega) (by decide)]
  exact V_iret F rfl dX7_isBag_9 (bI_z _) ⟨rfl, rfl, rfl⟩
theorem c_X7_isBend (x : Int64) : Con G yX7_isBend cX7_isBend 2 (some .boolean) 1 0 0 [.long x] M n (R1 (some (.int (bI (!bRef x)))) M n) := by
  refine Con.of (by decide +kernel) (Nat.le_of_ble_eq_true rfl) (fun X F hnm => ?_)
  show V G X 0 0 _ M _ 0 [some (.long x), none] []
  refine V_lload_n F dX7_isBend_0 rfl ?_
  refine V_lconst F dX7_isBend_1 (v := 0) (by decide) ?_
  refine V_lcmp F dX7_isBend_2 ?_
  refine V_if_eq F 23 dX7_isBend_3 (by decide) (fun c3 => ?_) (fun c3 => ?_)
  · rw [lcmp_eq] at c3
    refine V_iconst F dX7_isBend_23 ki_0 ?_
    exact V_iret F rfl dX7_isBend_24 rfl ⟨rf (by simp [bRef, c3]), rfl, rfl⟩
  · rw [lcmp_eq] at c3
    refine V_lload_n F dX7_isBend_6 rfl ?_
    refine V_ldc2 F dX7_isBend_7 kl_X7_82 ?_
    refine V_ldc2 F dX7_isBend_10 kl_X7_84 ?_
    refine V_isR F is_X7_63 dX7_isBend_13 (As := [_, _, _]) (c_X7_in _ _ _) rfl rfl rfl ?_
    refine V_if_eq F 23 dX7_isBend_16 (by decide) (fun c16 => ?_) (fun c16 => ?_)
    · rw [bI_0] at c16
      unfold inL at c16
      rw [Bool.and_eq_false_iff, decide_eq_false_iff_not, decide_eq_false_iff_not, Int64.not_le, Int64.not_le] at c16
      refine V_iconst F dX7_isBend_23 ki_0 ?_
      exact V_iret F rfl dX7_isBend_24 rfl ⟨rf (by rcases c16 with q | q <;> simp [bRef, q]), rfl, rfl⟩
    · rw [bI_n] at c16
      unfold inL at c16
      simp only [Bool.and_eq_true, decide_eq_true_eq] at c16
      refine V_iconst F dX7_isBend_19 ki_1 ?_
      refine V_goto F 24 dX7_isBend_20 (by decide) ?_
      exact V_iret F rfl dX7_isBend_24 rfl ⟨rt (by simp [bRef, c3, c16.1, c16.2]), rfl, rfl⟩
theorem c_X7_isPlace (x : Int64) : Con G yX7_isPlace cX7_isPlace 2 (some .boolean) 1 0 0 [.long x] M n (R1 (some (.int (bI (!pRef x)))) M n) := by
  refine Con.of (by decide +kernel) (Nat.le_of_ble_eq_true rfl) (fun X F hnm => ?_)
  show V G X 0 0 _ M _ 0 [some (.long x), none] []
  refine V_lload_n F dX7_isPlace_0 rfl ?_
  refine V_ldc2 F dX7_isPlace_1 kl_X7_86 ?_
  refine V_ldc2 F dX7_isPlace_4 kl_X7_88 ?_
  refine V_isR F is_X7_63 dX7_isPlace_7 (As := [_, _, _]) (c_X7_in _ _ _) rfl rfl rfl ?_
  rw [show inL x (-50000) 50000 = !pRef x by
    unfold inL pRef
    by_cases h1 : x < -50000
    · have h3 : ¬ (-50000 ≤ x) := Int64.not_le.mpr h1
      simp [h1, h3]
    · by_cases h2 : 50000 < x
      · simp [h1, h2]
      · simp [h1, h2, Int64.not_lt.mp h1, Int64.not_lt.mp h2]]
  exact V_iret F rfl dX7_isPlace_10 (bI_z _) ⟨rfl, rfl, rfl⟩
theorem c_X7_areTouching (a x y b u v : Int64) : Con G yX7_areTouching cX7_areTouching 16 (some .boolean) 0 0 0 [.long a, .long x, .long y, .long b, .long u, .long v] M n (R1 (some (.int (bI (tchf a x y b u v)))) M n) := by
  refine Con.of (by decide +kernel) (Nat.le_of_ble_eq_true rfl) (fun X F hnm => ?_)
  show V G X 0 0 _ M _ 0 [some (.long a), none, some (.long x), none, some (.long y), none, some (.long b), none, some (.long u), none, some (.long v), none, none, none, none, none] []
  refine V_lload F dX7_areTouching_0 rfl ?_
  refine V_lload_n F dX7_areTouching_2 rfl ?_
  refine V_lmul F dX7_areTouching_3 ?_
  refine V_lload_n F dX7_areTouching_4 rfl ?_
  refine V_lload F dX7_areTouching_5 rfl ?_
  refine V_lmul F dX7_areTouching_7 ?_
  refine V_lsub F dX7_areTouching_8 ?_
  refine V_lstore F dX7_areTouching_9 (Nat.le_of_ble_eq_true rfl) ?_
  show V _ _ _ _ _ _ _ _ [_, _, _, _, _, _, _, _, _, _, _, _, _, _, _, _] _
  refine V_lload F dX7_areTouching_11 rfl ?_
  refine V_lload F dX7_areTouching_13 rfl ?_
  refine V_lmul F dX7_areTouching_15 ?_
  refine V_lload_n F dX7_areTouching_16 rfl ?_
  refine V_lload F dX7_areTouching_17 rfl ?_
  refine V_lmul F dX7_areTouching_19 ?_
  refine V_lsub F dX7_areTouching_20 ?_
  refine V_lstore F dX7_areTouching_21 (Nat.le_of_ble_eq_true rfl) ?_
  show V _ _ _ _ _ _ _ _ [_, _, _, _, _, _, _, _, _, _, _, _, _, _, _, _] _
  refine V_lload F dX7_areTouching_23 rfl ?_
  refine V_lload F dX7_areTouching_25 rfl ?_
  refine V_lmul F dX7_areTouching_27 ?_
  refine V_lload F dX7_areTouching_28 rfl ?_
  refine V_lload F dX7_areTouching_30 rfl ?_
  refine V_lmul F dX7_areTouching_32 ?_
  refine V_ladd F dX7_areTouching_33 ?_
  refine V_lload_n F dX7_areTouching_34 rfl ?_
  refine V_lload F dX7_areTouching_35 rfl ?_
  refine V_ladd F dX7_areTouching_37 ?_
  refine V_lload_n F dX7_areTouching_38 rfl ?_
  refine V_lload F dX7_areTouching_39 rfl ?_
  refine V_ladd F dX7_areTouching_41 ?_
  refine V_lmul F dX7_areTouching_42 ?_
  refine V_lcmp F dX7_areTouching_43 ?_
  refine V_if_ne F 51 dX7_areTouching_44 (by decide) (fun c44 => ?_) (fun c44 => ?_)
  · rw [lcmp_eq] at c44
    refine V_iconst F dX7_areTouching_51 ki_0 ?_
    exact V_iret F rfl dX7_areTouching_52 rfl ⟨rf (by simpa [tchf] using c44), rfl, rfl⟩
  · rw [lcmp_eq] at c44
    refine V_iconst F dX7_areTouching_47 ki_1 ?_
    refine V_goto F 52 dX7_areTouching_48 (by decide) ?_
    exact V_iret F rfl dX7_areTouching_52 rfl ⟨rt (by simpa [tchf] using c44), rfl, rfl⟩
theorem c_X7_isQuad {nq : Nat} (hn : nq ≤ 60) {st lm lmo pd gd : Int32} (h : M (gB G + 816) = some (objM G (nI nq) st lm lmo lq pd gd)) (x : Int32) : Con G yX7_isQuad cX7_isQuad 2 (some .boolean) 1 0 0 [.ref (gB G + 816), .int x] M n (R1 (some (.int (bI (inR x nq)))) M n) := by
  refine Con.of (by decide +kernel) (Nat.le_of_ble_eq_true rfl) (fun X F hnm => ?_)
  show V G X 0 0 _ M _ 0 [some (.ref (gB G + 816)), some (.int x)] []
  refine V_iload_n F dX7_isQuad_0 rfl ?_
  refine V_i2l F dX7_isQuad_1 ?_
  refine V_lconst F dX7_isQuad_2 (v := 0) (by decide) ?_
  refine V_aload_n F dX7_isQuad_3 rfl ?_
  refine V_get F fl_X7_79 dX7_isQuad_4 (by assumption) rfl ?_
  refine V_iconst F dX7_isQuad_7 ki_1 ?_
  refine V_isub F dX7_isQuad_8 ?_
  refine V_i2l F dX7_isQuad_9 ?_
  have e : (nI nq - nI 1).toInt64.toInt = (nq : Int) - 1 := by
    rw [Int32.toInt_toInt64, pk_sub_toInt (by omega) (by omega)]
    rfl
  refine V_isR F is_X7_63 dX7_isQuad_10 (As := [_, _, _]) (c_X7_in _ _ _) rfl rfl rfl ?_
  rw [inL_R (m := nq) (by omega) e]
  exact V_iret F rfl dX7_isQuad_13 (bI_z _) ⟨rfl, rfl, rfl⟩
theorem c_X7_isCoin (i w : Int32) : Con G yX7_isCoin cX7_isCoin 2 (some .boolean) 1 0 0 [.int i, .int w] M n (R1 (some (.int (bI (inR i 4 && inR w 3)))) M n) := by
  refine Con.of (by decide +kernel) (Nat.le_of_ble_eq_true rfl) (fun X F hnm => ?_)
  show V G X 0 0 _ M _ 0 [some (.int i), some (.int w)] []
  refine V_iload_n F dX7_isCoin_0 rfl ?_
  refine V_i2l F dX7_isCoin_1 ?_
  refine V_lconst F dX7_isCoin_2 (v := 0) (by decide) ?_
  refine V_ldc2 F dX7_isCoin_3 kl_X7_118 ?_
  refine V_isR F is_X7_63 dX7_isCoin_6 (As := [_, _, _]) (c_X7_in _ _ _) rfl rfl rfl ?_
  refine V_if_eq F 28 dX7_isCoin_9 (by decide) (fun c9 => ?_) (fun c9 => ?_)
  · rw [bI_0, inL_R (m := 4) (by omega) (by decide)] at c9
    refine V_iconst F dX7_isCoin_28 ki_0 ?_
    exact V_iret F rfl dX7_isCoin_29 rfl ⟨rf (by simp [c9]), rfl, rfl⟩
  · rw [bI_n, inL_R (m := 4) (by omega) (by decide)] at c9
    refine V_iload_n F dX7_isCoin_12 rfl ?_
    refine V_i2l F dX7_isCoin_13 ?_
    refine V_lconst F dX7_isCoin_14 (v := 0) (by decide) ?_
    refine V_ldc2 F dX7_isCoin_15 kl_X7_73 ?_
    refine V_isR F is_X7_63 dX7_isCoin_18 (As := [_, _, _]) (c_X7_in _ _ _) rfl rfl rfl ?_
    refine V_if_eq F 28 dX7_isCoin_21 (by decide) (fun c21 => ?_) (fun c21 => ?_)
    · rw [bI_0, inL_R (m := 3) (by omega) (by decide)] at c21
      refine V_iconst F dX7_isCoin_28 ki_0 ?_
      exact V_iret F rfl dX7_isCoin_29 rfl ⟨rf (by simp [c9, c21]), rfl, rfl⟩
    · rw [bI_n, inL_R (m := 3) (by omega) (by decide)] at c21
      refine V_iconst F dX7_isCoin_24 ki_1 ?_
      refine V_goto F 29 dX7_isCoin_25 (by decide) ?_
      exact V_iret F rfl dX7_isCoin_29 rfl ⟨rt (by simp [c9, c21]), rfl, rfl⟩
end MOD1
end
section
theorem mA.bag {G : GP} {M M' : Mem} {s : Sg} (h : mA G M s) {r : Nat} {k : Int32} {len : Nat} {p : Nat → Int64} {g1 g2 : Nat → Int32} {g3 : Nat → Int64} (h1 : M' (gB G + 817) = some (eI (gT G) 6 g1)) (e1 : ∀ a, a < 6 → g1 a = if a = r then k else sKd s a) (h2 : M' (gB G + 818) = some (eI (gT G) 6 g2)) (e2 : ∀ a, a < 6 → g2 a = if a = r then nI len else nI (sLn s a)) (h3 : M' (gB G + 819) = some (eJ (gT G) 144 g3)) (e3 : ∀ a j, a < 6 → j < 24 → g3 (24 * a + j) = if a = r then p j else sPl s a j) (e4 : ∀ i, i = 820 ∨ i = 821 ∨ i = 824 → M' (gB G + i) = M (gB G + i)) : mA G M' (ubag s r k len p) := by
  obtain ⟨-, -, -, ⟨f4, a4, b4⟩, ⟨f5, a5, b5⟩, ⟨f6, a6, b6⟩⟩ := h
  refine ⟨⟨g1, h1, fun a ha => (e1 a ha).trans ?_⟩, ⟨g2, h2, fun a ha => (e2 a ha).trans ?_⟩, ⟨g3, h3, fun a j ha hj => (e3 a j ha hj).trans ?_⟩, ⟨f4, (e4 _ (by omega)).trans a4, b4⟩, ⟨f5, (e4 _ (by omega)).trans a5, b5⟩, ⟨f6, (e4 _ (by omega)).trans a6, b6⟩⟩
  · rfl
  · simp only [ubag, sLn]; split <;> rfl
  · simp only [ubag, sPl]; split <;> rfl
theorem gOk.bag {s : Sg} (h : gOk s) {r : Nat} {k : Int32} {len : Nat} {p : Nat → Int64} (hk : kdOk k) (hl : len ≤ 24) : gOk (ubag s r k len p) := by
  obtain ⟨h1, h2, h3, h4⟩ := h
  refine ⟨fun a ha => ?_, h2, h3, h4⟩
  simp only [ubag, sKd, sLn]
  constructor
  · split
    · exact hk
    · exact (h1 a ha).1
  · split
    · exact hl
    · exact (h1 a ha).2
theorem kd_in {k : Int32} : inL k.toInt64 (-1) 2 = true ↔ ¬ (k < -1 ∨ nI 2 < k) := by
  unfold inL
  simp only [Bool.and_eq_true, decide_eq_true_eq]
  rw [Int64.le_iff_toInt_le, Int64.le_iff_toInt_le, Int32.lt_iff_toInt_lt, Int32.lt_iff_toInt_lt, Int32.toInt_toInt64, nI_toInt (by omega), show (-1 : Int64).toInt = -1 by decide, show (2 : Int64).toInt = 2 by decide, show (-1 : Int32).toInt = -1 by decide]
  omega
theorem kd_ok {k : Int32} (h : ¬ (k < -1 ∨ nI 2 < k)) : kdOk k := by
  rw [Int32.lt_iff_toInt_lt, Int32.lt_iff_toInt_lt, nI_toInt (by omega), show (-1 : Int32).toInt = -1 by decide] at h
  have hc : k.toInt = -1 ∨ k.toInt = 0 ∨ k.toInt = 1 ∨ k.toInt = 2 := by omega
  rcases hc with q | q | q | q
  · exact Or.inl (Int32.toInt_inj.mp (q.trans (by decide)))
  · exact Or.inr (Or.inl (Int32.toInt_inj.mp (q.trans (by decide))))
  · exact Or.inr (Or.inr (Or.inl (Int32.toInt_inj.mp (q.trans (by decide)))))
  · exact Or.inr (Or.inr (Or.inr (Int32.toInt_inj.mp (q.trans (by decide)))))
theorem kd_neg {k : Int32} (h : kdOk k) : k < 0 ↔ k = -1 := by
  rcases h with rfl | rfl | rfl | rfl <;> decide
def bw (f : Nat → Int64) (r i : Nat) : Nat → Int64 := fun z => if 24 * r ≤ z ∧ z < 24 * r + i then 0 else f z
theorem bw_up {f : Nat → Int64} {r i : Nat} : va_up (bw f r i) (24 * r + i) 0 = bw f r (i + 1) := by
  funext z
  unfold va_up bw
  by_cases q : z = 24 * r + i
  · rw [if_pos q, if_pos (by omega)]
  · rw [if_neg q]
    by_cases q2 : 24 * r ≤ z ∧ z < 24 * r + i
    · rw [if_pos q2, if_pos (by omega)]
    · rw [if_neg q2, if_neg (by omega)]
/-- against() of the model is the class's refusal of one place -/
theorem hasP_1 {i : Int32} {len : Nat} (hl : len ≤ 24) : inL i.toInt64 0 (nI len - nI 1).toInt64 = hasP i (nI 1) (nI len) := by
  have e : (nI len - nI 1).toInt64.toInt = (len : Int) - 1 := by
    rw [Int32.toInt_toInt64, pk_sub_toInt (by omega) (by omega)]
    rfl
  unfold inL hasP
  have e0 : (0 : Int64).toInt = 0 := by decide
  have e1 : (0 : Int32).toInt = 0 := by decide
  have hi1 : (-2147483648 : Int) ≤ i.toInt := Int32.le_toInt i
  have hi2 : i.toInt < 2147483648 := Int32.toInt_lt i
  have s1 : (i.toInt64 + (nI 1).toInt64).toInt = i.toInt + 1 := by
    rw [Int64.toInt_add, Int32.toInt_toInt64, Int32.toInt_toInt64, nI_toInt (by omega)]
    exact bm64 (by omega) (by omega)
  rw [show decide ((0 : Int32) ≤ nI 1) = true by decide, Bool.true_and]
  congr 1
  · apply decide_eq_decide.mpr
    rw [Int64.le_iff_toInt_le, Int32.le_iff_toInt_le, Int32.toInt_toInt64, e0, e1]
  · apply decide_eq_decide.mpr
    rw [Int64.le_iff_toInt_le, Int64.le_iff_toInt_le, s1, e, Int32.toInt_toInt64, Int32.toInt_toInt64, nI_toInt (by omega)]
    omega
section MOD2
variable {G : GP} {M : Mem} {n : Option Nat} {s : Sg} {lq : Int32}
theorem c_X7_against (h : InvM G M s lq) (r i : Int32) : Con G yX7_against cX7_against 3 (some .int) 2 0 0 [.ref (gB G + 816), .int r, .int i] M n (R1 (some (.int (rop s r i (nI 1)))) M n) := by
  obtain ⟨⟨st, pd, gd, hO⟩, ⟨⟨f1, a1, b1⟩, ⟨f2, a2, b2⟩, -⟩, hJ, ⟨g1, -⟩⟩ := h
  generalize hR : rop s r i (nI 1) = R
  unfold rop at hR
  refine Con.of (by decide +kernel) (Nat.le_of_ble_eq_true rfl) (fun X F hnm => ?_)
  show V G X 0 0 _ M _ 0 [some (.ref (gB G + 816)), some (.int r), some (.int i)] []
  refine V_iload_n F dX7_against_0 rfl ?_
  refine V_isR F is_X7_67 dX7_against_1 (As := [_]) (c_X7_isBag _) rfl rfl rfl ?_
  refine V_if_ne F 11 dX7_against_4 (by decide) (fun c4 => ?_) (fun c4 => ?_)
  · rw [bI_n] at c4
    rw [if_neg (by rw [c4]; decide)] at hR
    obtain ⟨k, hk, rfl⟩ := inR_t (by omega) c4
    rw [ix_nI (by omega)] at hR
    obtain ⟨k1, k2⟩ := g1 k hk
    refine V_aload_n F dX7_against_11 rfl ?_
    refine V_get F fl_X7_7 dX7_against_12 (by assumption) rfl ?_
    refine V_iload_n F dX7_against_15 rfl ?_
    refine V_ialdN F dX7_against_16 (by assumption) _ (by first | rfl | simp only [pk_mul, nI_add, nI_1, nI_inc]) (by omega) (by omega) ?_
    rw [b1 k hk]
    refine V_if_ge F 25 dX7_against_17 (by decide) (fun c17 => ?_) (fun c17 => ?_)
    · have c17 : ¬ sKd s k = -1 := fun z => absurd ((kd_neg k1).mpr z) (Int32.not_lt.mpr c17)
      rw [if_neg c17] at hR
      refine V_iload_n F dX7_against_25 rfl ?_
      refine V_i2l F dX7_against_26 ?_
      refine V_lconst F dX7_against_27 (v := 0) (by decide) ?_
      refine V_aload_n F dX7_against_28 rfl ?_
      refine V_get F fl_X7_13 dX7_against_29 (by assumption) rfl ?_
      refine V_iload_n F dX7_against_32 rfl ?_
      refine V_ialdN F dX7_against_33 (by assumption) _ (by first | rfl | simp only [pk_mul, nI_add, nI_1, nI_inc]) (by omega) (by omega) ?_
      rw [b2 k hk]
      refine V_iconst F dX7_against_34 ki_1 ?_
      refine V_isub F dX7_against_35 ?_
      refine V_i2l F dX7_against_36 ?_
      refine V_isR F is_X7_63 dX7_against_37 (As := [_, _, _]) (c_X7_in _ _ _) rfl rfl rfl ?_
      refine V_if_ne F 48 dX7_against_40 (by decide) (fun c40 => ?_) (fun c40 => ?_)
      · rw [bI_n, hasP_1 k2] at c40
        rw [if_pos c40] at hR
        subst hR
        refine V_iconst F dX7_against_48 ki_0 ?_
        exact V_iret F rfl dX7_against_49 rfl ⟨rfl, rfl, rfl⟩
      · rw [bI_0, hasP_1 k2] at c40
        rw [if_neg (by rw [c40]; decide)] at hR
        subst hR
        refine V_bipush F dX7_against_43 kb_m12 ?_
        refine V_goto F 49 dX7_against_45 (by decide) ?_
        exact V_iret F rfl dX7_against_49 rfl ⟨rfl, rfl, rfl⟩
    · have c17 := (kd_neg k1).mp (Int32.not_le.mp c17)
      rw [if_pos c17] at hR
      subst hR
      refine V_bipush F dX7_against_20 kb_m11 ?_
      refine V_goto F 49 dX7_against_22 (by decide) ?_
      exact V_iret F rfl dX7_against_49 rfl ⟨rfl, rfl, rfl⟩
  · rw [bI_0] at c4
    rw [if_pos c4] at hR
    subst hR
    refine V_iconst F dX7_against_7 ki_m1 ?_
    refine V_goto F 49 dX7_against_8 (by decide) ?_
    exact V_iret F rfl dX7_against_49 rfl ⟨rfl, rfl, rfl⟩
theorem gOk.ln {s : Sg} (h : gOk s) : ∀ k, k < 6 → sLn s k ≤ 24 := fun k hk => (h.1 k hk).2
theorem InvM.pl (h : InvM G M s lq) {r : Nat} (hr : r < 6) {p : Nat → Int64} {g : Nat → Int64} (hg : ∀ a j, a < 6 → j < 24 → g (24 * a + j) = if a = r then p j else sPl s a j) : InvM G (mset M (gB G + 819) (eJ (gT G) 144 g)) (ubag s r (sKd s r) (sLn s r) p) lq := by
  obtain ⟨⟨st, pd, gd, hO⟩, hA, hJ, hg1⟩ := h
  have hA0 := hA
  obtain ⟨⟨f1, a1, b1⟩, ⟨f2, a2, b2⟩, -⟩ := hA
  refine ⟨⟨st, pd, gd, (mset_ne _ _ (by omega)).trans hO⟩, hA0.bag ((mset_ne _ _ (by omega)).trans a1) (fun a ha => ?_) ((mset_ne _ _ (by omega)).trans a2) (fun a ha => ?_) (mset_eq _ _ _) hg (fun i hi => mset_ne _ _ (by omega)), hJ.other (fun i hi q => ?_), hg1.bag (hg1.1 r hr).1 (hg1.1 r hr).2⟩
  · rw [b1 a ha]; split
    · subst_vars; rfl
    · rfl
  · rw [b2 a ha]; split
    · subst_vars; rfl
    · rfl
  · rcases hi with hi | hi
    · have := jl_c hi; omega
    · have := il_c hi; omega
theorem c_X7_put (h : InvM G M s lq) (r i : Int32) (v : Int64) : Con G yX7_put cX7_put 6 (some .int) 3 0 0 [.ref (gB G + 816), .int r, .int i, .long v] M none (PM G M (S_put s r i v).1 (S_put s r i v).2 lq) := by
  have hI := h
  obtain ⟨⟨st, pd, gd, hO⟩, ⟨⟨f1, a1, b1⟩, ⟨f2, a2, b2⟩, ⟨f3, a3, b3⟩, -⟩, hJ, hg⟩ := h
  generalize hR : S_put s r i v = R
  unfold S_put at hR
  refine Con.of (by decide +kernel) (Nat.le_of_ble_eq_true rfl) (fun X F hnm => ?_)
  show V G X 0 0 _ M _ 0 [some (.ref (gB G + 816)), some (.int r), some (.int i), some (.long v), none, none] []
  refine V_aload_n F dX7_put_0 rfl ?_
  refine V_iload_n F dX7_put_1 rfl ?_
  refine V_iload_n F dX7_put_2 rfl ?_
  refine V_ivR F iv_X7_75 dX7_put_3 (As := [_, _]) (c_X7_against hI _ _) (by assumption) rfl rfl rfl rfl ?_
  refine V_istore F dX7_put_6 (Nat.le_of_ble_eq_true rfl) ?_
  show V _ _ _ _ _ _ _ _ [_, _, _, _, _, _] _
  refine V_iload F dX7_put_8 rfl ?_
  refine V_if_ne F 57 dX7_put_10 (by decide) (fun c10 => ?_) (fun c10 => ?_)
  · rw [if_neg c10] at hR
    subst hR
    refine V_iload F dX7_put_57 rfl ?_
    exact V_iret F rfl dX7_put_59 rfl ⟨rfl, hI, fun _ _ => rfl, rfl⟩
  · rw [if_pos c10] at hR
    obtain ⟨k, a, b, hk, rfl, rfl, hb, hab, hab2⟩ := rop_0 hg.ln c10
    have hb1 : 1 = b := (nI_eq (by omega) (by omega)).mp hb
    rw [ix_nI (by omega), ix_nI (by omega)] at hR
    have fin : ∀ x : Int64, x = cutv (sKd s k) v → V G X 0 0 (BQ G X (PM G M R.1 R.2 lq) 0 0) M none 56 [some (.ref (gB G + 816)), some (.int (nI k)), some (.int (nI a)), some (.long v), none, some (.int (rop s (nI k) (nI a) (nI 1)))] [.long x, .int (nI (24 * k + a)), .ref (gB G + 819)] := by
      intro x hx
      subst hx hR
      have := hI.pl (p := va_up (sPl s k) a (cutv (sKd s k) v)) (g := va_up f3 (24 * k + a) (cutv (sKd s k) v)) hk (fun c j hc hj => by
        unfold va_up
        by_cases q : c = k
        · subst q
          rw [if_pos rfl]
          by_cases q2 : j = a
          · subst q2; rw [if_pos rfl, if_pos rfl]
          · rw [if_neg (by omega), if_neg q2]; exact b3 c j hc hj
        · rw [if_neg (by omega), if_neg q]; exact b3 c j hc hj)
      refine V_lastN F dX7_put_56 (by assumption) _ (by first | rfl | simp only [pk_mul, nI_add, nI_1, nI_inc]) (by omega) (by omega) ?_
      refine V_iload F dX7_put_57 rfl ?_
      exact V_iret F rfl dX7_put_59 rfl ⟨by rw [c10]; rfl, this, fun z hz => mset_ne _ _ (by omega), rfl⟩
    refine V_aload_n F dX7_put_13 rfl ?_
    refine V_get F fl_X7_16 dX7_put_14 (by assumption) rfl ?_
    refine V_bipush F dX7_put_17 kb_24 ?_
    refine V_iload_n F dX7_put_19 rfl ?_
    refine V_imul F dX7_put_20 ?_
    refine V_iload_n F dX7_put_21 rfl ?_
    refine V_iadd F dX7_put_22 ?_
    rw [pk_mul, nI_add]
    refine V_aload_n F dX7_put_23 rfl ?_
    refine V_get F fl_X7_7 dX7_put_24 (by assumption) rfl ?_
    refine V_iload_n F dX7_put_27 rfl ?_
    refine V_ialdN F dX7_put_28 (by assumption) _ (by first | rfl | simp only [pk_mul, nI_add, nI_1, nI_inc]) (by omega) (by omega) ?_
    rw [b1 k hk]
    refine V_if_ne F 39 dX7_put_29 (by decide) (fun c29 => ?_) (fun c29 => ?_)
    · refine V_aload_n F dX7_put_39 rfl ?_
      refine V_get F fl_X7_7 dX7_put_40 (by assumption) rfl ?_
      refine V_iload_n F dX7_put_43 rfl ?_
      refine V_ialdN F dX7_put_44 (by assumption) _ (by first | rfl | simp only [pk_mul, nI_add, nI_1, nI_inc]) (by omega) (by omega) ?_
      rw [b1 k hk]
      refine V_iconst F dX7_put_45 ki_1 ?_
      refine V_icmp_ne F 55 dX7_put_46 (by decide) (fun c46 => ?_) (fun c46 => ?_)
      · refine V_lload_n F dX7_put_55 rfl ?_
        exact fin _ (by unfold cutv; rw [if_neg c29, if_neg c46])
      · refine V_lload_n F dX7_put_49 rfl ?_
        refine V_l2i F dX7_put_50 ?_
        refine V_i2l F dX7_put_51 ?_
        refine V_goto F 56 dX7_put_52 (by decide) ?_
        exact fin _ (by unfold cutv; rw [if_neg c29, if_pos c46])
    · refine V_lload_n F dX7_put_32 rfl ?_
      refine V_l2i F dX7_put_33 ?_
      refine V_i2s F dX7_put_34 ?_
      refine V_i2l F dX7_put_35 ?_
      refine V_goto F 56 dX7_put_36 (by decide) ?_
      exact fin _ (by unfold cutv; rw [if_pos c29])
theorem c_X7_holds (h : InvM G M s lq) (r i : Int32) (v : Int64) : Con G yX7_holds cX7_holds 6 (some .int) 3 0 0 [.ref (gB G + 816), .int r, .int i, .long v] M none (PM G M (S_holds s r i v) s lq) := by
  have hI := h
  obtain ⟨⟨st, pd, gd, hO⟩, ⟨⟨f1, a1, b1⟩, ⟨f2, a2, b2⟩, ⟨f3, a3, b3⟩, -⟩, hJ, hg⟩ := h
  generalize hR : S_holds s r i v = R
  unfold S_holds at hR
  refine Con.of (by decide +kernel) (Nat.le_of_ble_eq_true rfl) (fun X F hnm => ?_)
  show V G X 0 0 _ M _ 0 [some (.ref (gB G + 816)), some (.int r), some (.int i), some (.long v), none, none] []
  refine V_aload_n F dX7_holds_0 rfl ?_
  refine V_iload_n F dX7_holds_1 rfl ?_
  refine V_iload_n F dX7_holds_2 rfl ?_
  refine V_ivR F iv_X7_75 dX7_holds_3 (As := [_, _]) (c_X7_against hI _ _) (by assumption) rfl rfl rfl rfl ?_
  refine V_istore F dX7_holds_6 (Nat.le_of_ble_eq_true rfl) ?_
  show V _ _ _ _ _ _ _ _ [_, _, _, _, _, _] _
  refine V_iload F dX7_holds_8 rfl ?_
  refine V_if_eq F 18 dX7_holds_10 (by decide) (fun c10 => ?_) (fun c10 => ?_)
  · rw [if_pos c10] at hR
    obtain ⟨k, a, b, hk, rfl, rfl, hb, hab, hab2⟩ := rop_0 hg.ln c10
    have hb1 : 1 = b := (nI_eq (by omega) (by omega)).mp hb
    rw [ix_nI (by omega), ix_nI (by omega)] at hR
    refine V_aload_n F dX7_holds_18 rfl ?_
    refine V_get F fl_X7_16 dX7_holds_19 (by assumption) rfl ?_
    refine V_bipush F dX7_holds_22 kb_24 ?_
    refine V_iload_n F dX7_holds_24 rfl ?_
    refine V_imul F dX7_holds_25 ?_
    refine V_iload_n F dX7_holds_26 rfl ?_
    refine V_iadd F dX7_holds_27 ?_
    rw [pk_mul, nI_add]
    refine V_laldN F dX7_holds_28 (by assumption) _ (by first | rfl | simp only [pk_mul, nI_add, nI_1, nI_inc]) (by omega) (by omega) ?_
    rw [b3 k a hk (by omega)]
    refine V_lload_n F dX7_holds_29 rfl ?_
    refine V_lcmp F dX7_holds_30 ?_
    refine V_if_ne F 38 dX7_holds_31 (by decide) (fun c31 => ?_) (fun c31 => ?_)
    · rw [lcmp_eq] at c31
      subst hR
      refine V_iconst F dX7_holds_38 ki_0 ?_
      exact V_iret F rfl dX7_holds_39 rfl ⟨rf (by simpa using c31), hI, fun _ _ => rfl, rfl⟩
    · rw [lcmp_eq] at c31
      subst hR
      refine V_iconst F dX7_holds_34 ki_1 ?_
      refine V_goto F 39 dX7_holds_35 (by decide) ?_
      exact V_iret F rfl dX7_holds_39 rfl ⟨rt (by simpa using c31), hI, fun _ _ => rfl, rfl⟩
  · rw [if_neg c10] at hR
    subst hR
    refine V_iload F dX7_holds_13 rfl ?_
    refine V_goto F 39 dX7_holds_15 (by decide) ?_
    exact V_iret F rfl dX7_holds_39 rfl ⟨rfl, hI, fun _ _ => rfl, rfl⟩
end MOD2
end
section
theorem hasP_N {i m : Int32} {len : Nat} (hl : len ≤ 24) : hasP i m (nI len) = true ↔ ¬ (m < 0 ∨ i < 0 ∨ (nI len).toInt64 < i.toInt64 + m.toInt64) := by
  unfold hasP
  simp only [Bool.and_eq_true, decide_eq_true_eq]
  constructor
  · rintro ⟨h1, h2, h3⟩ (q | q | q)
    · exact absurd q (Int32.not_lt.mpr h2)
    · exact absurd q (Int32.not_lt.mpr h1)
    · exact absurd q (Int64.not_lt.mpr h3)
  · intro h
    exact ⟨Int32.not_lt.mp (fun q => h (Or.inr (Or.inl q))), Int32.not_lt.mp (fun q => h (Or.inl q)), Int64.not_lt.mp (fun q => h (Or.inr (Or.inr q)))⟩
def cw (f g : Nat → Int64) (sp dp i : Nat) : Nat → Int64 := fun z => if dp ≤ z ∧ z < dp + i then f (sp + (z - dp)) else g z
theorem cw_up {f g : Nat → Int64} {sp dp i : Nat} : va_up (cw f g sp dp i) (dp + i) (f (sp + i)) = cw f g sp dp (i + 1) := by
  funext z
  unfold va_up cw
  by_cases q : z = dp + i
  · subst q
    rw [if_pos rfl, if_pos (by omega)]
    congr 1
    omega
  · rw [if_neg q]
    by_cases q2 : dp ≤ z ∧ z < dp + i
    · rw [if_pos q2, if_pos (by omega)]
    · rw [if_neg q2, if_neg (by omega)]
theorem InvM.fill {G : GP} {M : Mem} {s : Sg} {lq : Int32} (h : InvM G M s lq) {a : Nat} (ha : a < 6) {k : Int32} {len : Nat} (hk : kdOk k) (hlen : len ≤ 24) {f1 f2 : Nat → Int32} {f3 : Nat → Int64} (b1 : ∀ r, r < 6 → f1 r = sKd s r) (b2 : ∀ r, r < 6 → f2 r = nI (sLn s r)) (b3 : ∀ r j, r < 6 → j < 24 → f3 (24 * r + j) = sPl s r j) : InvM G (mset (mset (mset M (gB G + 817) (eI (gT G) 6 (va_up f1 a k))) (gB G + 818) (eI (gT G) 6 (va_up f2 a (nI len)))) (gB G + 819) (eJ (gT G) 144 (bw f3 a 24))) (ubag s a k len (fun _ => 0)) lq := by
  obtain ⟨⟨st, pd, gd, hO⟩, hA, hJ, hg⟩ := h
  have e : ∀ z, z ≠ gB G + 817 → z ≠ gB G + 818 → z ≠ gB G + 819 → mset (mset (mset M (gB G + 817) (eI (gT G) 6 (va_up f1 a k))) (gB G + 818) (eI (gT G) 6 (va_up f2 a (nI len)))) (gB G + 819) (eJ (gT G) 144 (bw f3 a 24)) z = M z := fun z z1 z2 z3 => by rw [mset_ne _ _ z3, mset_ne _ _ z2, mset_ne _ _ z1]
  refine ⟨⟨st, pd, gd, (e _ (by omega) (by omega) (by omega)).trans hO⟩, hA.bag (g1 := va_up f1 a k) (g2 := va_up f2 a (nI len)) (g3 := bw f3 a 24) (by rw [mset_ne _ _ (by omega), mset_ne _ _ (by omega), mset_eq]) (fun c hc => ?_) (by rw [mset_ne _ _ (by omega), mset_eq]) (fun c hc => ?_) (mset_eq _ _ _) (fun c j hc hj => ?_) (fun i hi => e _ (by omega) (by omega) (by omega)), hJ.frame (fun i hi => ?_), hg.bag hk hlen⟩
  · unfold va_up; split
    · rfl
    · exact b1 c hc
  · unfold va_up; split
    · rfl
    · exact b2 c hc
  · unfold bw
    by_cases q : c = a
    · rw [if_pos (by omega), if_pos q]
    · rw [if_neg (by omega), if_neg q]; exact b3 c j hc hj
  · rcases hi with hi | hi
    · have := jl_c hi; exact e _ (by omega) (by omega) (by omega)
    · have := il_c hi; exact e _ (by omega) (by omega) (by omega)
section MOD3
variable {G : GP} {M : Mem} {n : Option Nat} {s : Sg} {lq : Int32}
theorem c_X7_bag (h : InvM G M s lq) (r k m : Int32) : Con G yX7_bag cX7_bag 5 (some .int) 2 0 0 [.ref (gB G + 816), .int r, .int k, .int m] M none (PM G M (S_bag s r k m).1 (S_bag s r k m).2 lq) := by
  have hI := h
  obtain ⟨⟨st, pd, gd, hO⟩, hA, hJ, hg⟩ := h
  have hA0 := hA
  obtain ⟨⟨f1, a1, b1⟩, ⟨f2, a2, b2⟩, ⟨f3, a3, b3⟩, -⟩ := hA
  generalize hR : S_bag s r k m = R
  unfold S_bag at hR
  refine Con.of (by decide +kernel) (Nat.le_of_ble_eq_true rfl) (fun X F hnm => ?_)
  show V G X 0 0 _ M _ 0 [some (.ref (gB G + 816)), some (.int r), some (.int k), some (.int m), none] []
  generalize hQ : BQ G X _ 0 0 = Q
  have bad : R = (-1, s) → V G X 0 0 Q M none 31 [some (.ref (gB G + 816)), some (.int r), some (.int k), some (.int m), none] [] := by
    intro z
    subst z
    subst hQ
    refine V_iconst F dX7_bag_31 ki_m1 ?_
    exact V_iret F rfl dX7_bag_32 rfl ⟨rfl, hI, fun _ _ => rfl, rfl⟩
  have mid : ¬ (inR r 6 = false ∨ k < -1 ∨ nI 2 < k) → ¬ (0 ≤ k ∧ nI 24 < m) → V G X 0 0 Q M none 33 [some (.ref (gB G + 816)), some (.int r), some (.int k), some (.int m), none] [] := by
    intro h1 h2
    rw [if_neg h1] at hR
    have hk := kd_ok (k := k) (fun z => h1 (Or.inr z))
    obtain ⟨a, ha, rfl⟩ := inR_t (x := r) (m := 6) (by omega) (by
      cases e : inR r 6 with
      | true => rfl
      | false => exact absurd (Or.inl e) h1)
    rw [ix_nI (by omega)] at hR
    have fill : ∀ (len : Nat), len ≤ 24 → R = (nI 0, ubag s a k len (fun _ => 0)) → V G X 0 0 Q (mset (mset M (gB G + 817) (eI (gT G) 6 (va_up f1 a k))) (gB G + 818) (eI (gT G) 6 (va_up f2 a (nI len)))) none 66 [some (.ref (gB G + 816)), some (.int (nI a)), some (.int k), some (.int m), none] [] := by
      intro len hlen hE
      have loop : ∀ q i : Nat, q + i = 24 → V G X 0 0 Q (mset (mset (mset M (gB G + 817) (eI (gT G) 6 (va_up f1 a k))) (gB G + 818) (eI (gT G) 6 (va_up f2 a (nI len)))) (gB G + 819) (eJ (gT G) 144 (bw f3 a i))) none 69 [some (.ref (gB G + 816)), some (.int (nI a)), some (.int k), some (.int m), some (.int (nI i))] [] := by
        intro q
        induction q with
        | zero =>
          intro i hi
          have hi : i = 24 := by omega
          subst hi
          subst hE
          subst hQ
          refine V_iload F dX7_bag_69 rfl ?_
          refine V_bipush F dX7_bag_71 kb_24 ?_
          refine V_icmp_ge F 95 dX7_bag_73 (by decide) (fun c73 => ?_) (fun c73 => absurd (by decide) c73)
          refine V_iconst F dX7_bag_95 ki_0 ?_
          exact V_iret F rfl dX7_bag_96 rfl ⟨rfl, hI.fill ha hk hlen b1 b2 b3, fun z hz => by rw [mset_ne _ _ (by omega), mset_ne _ _ (by omega), mset_ne _ _ (by omega)], rfl⟩
        | succ q ih =>
          intro i hi
          refine V_iload F dX7_bag_69 rfl ?_
          refine V_bipush F dX7_bag_71 kb_24 ?_
          refine V_icmp_ge F 95 dX7_bag_73 (by decide) (fun c73 => absurd c73 (nI_ge (by omega) (by omega))) (fun c73 => ?_)
          refine V_aload_n F dX7_bag_76 rfl ?_
          refine V_get F fl_X7_16 dX7_bag_77 ((mset_ne _ _ (by omega)).trans ((mset_ne _ _ (by omega)).trans ((mset_ne _ _ (by omega)).trans hO))) rfl ?_
          refine V_bipush F dX7_bag_80 kb_24 ?_
          refine V_iload_n F dX7_bag_82 rfl ?_
          refine V_imul F dX7_bag_83 ?_
          rw [pk_mul]
          refine V_iload F dX7_bag_84 rfl ?_
          refine V_iadd F dX7_bag_86 ?_
          refine V_lconst F dX7_bag_87 (v := 0) (by decide) ?_
          rw [show nI (24 * a) + nI i = nI (24 * a + i) from nI_add _ _]
          refine V_lastN F dX7_bag_88 (mset_eq _ _ _) _ (by first | rfl | simp only [pk_mul, nI_add, nI_1, nI_inc]) (by omega) (by omega) ?_
          rw [mset_mset, bw_up]
          refine V_iinc1 F dX7_bag_89 rfl ?_
          show V _ _ _ _ _ _ _ _ [_, _, _, _, _] _
          refine V_goto F 69 dX7_bag_92 (by decide) ?_
          exact ih (i + 1) (by omega)
      refine V_iconst F dX7_bag_66 ki_0 ?_
      refine V_istore F dX7_bag_67 (Nat.le_of_ble_eq_true rfl) ?_
      show V _ _ _ _ _ _ _ _ [_, _, _, _, _] _
      have := loop 24 0 rfl
      rw [show bw f3 a 0 = f3 from funext fun z => by unfold bw; rw [if_neg (by omega)], mset_self (by rw [mset_ne _ _ (by omega), mset_ne _ _ (by omega)]; exact a3)] at this
      exact this
    refine V_iload_n F dX7_bag_33 rfl ?_
    refine V_if_lt F 44 dX7_bag_34 (by decide) (fun c34 => ?_) (fun c34 => ?_)
    · -- k < 0
      have c34 := (kd_neg hk).mp c34
      rw [if_pos c34] at hR
      subst c34
      refine V_aload_n F dX7_bag_44 rfl ?_
      refine V_get F fl_X7_7 dX7_bag_45 (by assumption) rfl ?_
      refine V_iload_n F dX7_bag_48 rfl ?_
      refine V_iload_n F dX7_bag_49 rfl ?_
      refine V_iastN F dX7_bag_50 (by assumption) _ (by first | rfl | simp only [pk_mul, nI_add, nI_1, nI_inc]) (by omega) (by omega) ?_
      refine V_aload_n F dX7_bag_51 rfl ?_
      refine V_get F fl_X7_13 dX7_bag_52 ((mset_ne _ _ (by omega)).trans hO) rfl ?_
      refine V_iload_n F dX7_bag_55 rfl ?_
      refine V_iload_n F dX7_bag_56 rfl ?_
      refine V_if_ge F 64 dX7_bag_57 (by decide) (fun c57 => absurd c57 (by decide)) (fun c57 => ?_)
      have := fill 0 (by omega) hR.symm
      refine V_iconst F dX7_bag_60 ki_0 ?_
      refine V_goto F 65 dX7_bag_61 (by decide) ?_
      refine V_iastN F dX7_bag_65 ((mset_ne _ _ (by omega)).trans a2) _ (by first | rfl | simp only [pk_mul, nI_add, nI_1, nI_inc]) (by omega) (by omega) ?_
      exact this
    · have c34' := Int32.not_lt.mp c34
      rw [if_neg (fun z => absurd ((kd_neg hk).mpr z) c34), if_neg (fun z => h2 ⟨c34', z⟩)] at hR
      have close : ∀ q, q ≤ 24 → m = nI q → V G X 0 0 Q M none 44 [some (.ref (gB G + 816)), some (.int (nI a)), some (.int k), some (.int m), none] [] := by
        intro q hq hm
        subst hm
        rw [if_neg (nI_pos (by omega)), ix_nI (by omega)] at hR
        refine V_aload_n F dX7_bag_44 rfl ?_
        refine V_get F fl_X7_7 dX7_bag_45 (by assumption) rfl ?_
        refine V_iload_n F dX7_bag_48 rfl ?_
        refine V_iload_n F dX7_bag_49 rfl ?_
        refine V_iastN F dX7_bag_50 (by assumption) _ (by first | rfl | simp only [pk_mul, nI_add, nI_1, nI_inc]) (by omega) (by omega) ?_
        refine V_aload_n F dX7_bag_51 rfl ?_
        refine V_get F fl_X7_13 dX7_bag_52 ((mset_ne _ _ (by omega)).trans hO) rfl ?_
        refine V_iload_n F dX7_bag_55 rfl ?_
        refine V_iload_n F dX7_bag_56 rfl ?_
        refine V_if_ge F 64 dX7_bag_57 (by decide) (fun c57 => ?_) (fun c57 => absurd c34' c57)
        have := fill q hq hR.symm
        refine V_iload_n F dX7_bag_64 rfl ?_
        refine V_iastN F dX7_bag_65 ((mset_ne _ _ (by omega)).trans a2) _ (by first | rfl | simp only [pk_mul, nI_add, nI_1, nI_inc]) (by omega) (by omega) ?_
        exact this
      refine V_iload_n F dX7_bag_37 rfl ?_
      refine V_if_ge F 44 dX7_bag_38 (by decide) (fun c38 => ?_) (fun c38 => ?_)
      · obtain ⟨q, hq, rfl⟩ := nI_of (Int32.not_lt.mpr c38)
        exact close q ((nI_leI (b := 24) (by omega) (by omega)).mp (Int32.not_lt.mp (fun z => h2 ⟨c34', z⟩))) rfl
      · rw [if_pos (Int32.not_le.mp c38)] at hR
        subst hR
        subst hQ
        refine V_bipush F dX7_bag_41 kb_m13 ?_
        exact V_iret F rfl dX7_bag_43 rfl ⟨rfl, hI, fun _ _ => rfl, rfl⟩
  refine V_iload_n F dX7_bag_0 rfl ?_
  refine V_isR F is_X7_67 dX7_bag_1 (As := [_]) (c_X7_isBag _) rfl rfl rfl ?_
  refine V_if_eq F 31 dX7_bag_4 (by decide) (fun c4 => ?_) (fun c4 => ?_)
  · rw [bI_0] at c4
    exact bad (by rw [← hR, if_pos (Or.inl c4)])
  · rw [bI_n] at c4
    refine V_iload_n F dX7_bag_7 rfl ?_
    refine V_i2l F dX7_bag_8 ?_
    refine V_ldc2 F dX7_bag_9 kl_X7_71 ?_
    refine V_ldc2 F dX7_bag_12 kl_X7_73 ?_
    refine V_isR F is_X7_63 dX7_bag_15 (As := [_, _, _]) (c_X7_in _ _ _) rfl rfl rfl ?_
    refine V_if_eq F 31 dX7_bag_18 (by decide) (fun c18 => ?_) (fun c18 => ?_)
    · rw [bI_0] at c18
      have c18 : ¬ ¬ (k < -1 ∨ nI 2 < k) := fun z => by rw [kd_in.mpr z] at c18; cases c18
      exact bad (by rw [← hR, if_pos (Or.inr (Classical.not_not.mp c18))])
    · rw [bI_n] at c18
      have c18 := kd_in.mp c18
      have h1 : ¬ (inR r 6 = false ∨ k < -1 ∨ nI 2 < k) := fun z => by
        rcases z with z | z
        · rw [c4] at z; cases z
        · exact c18 z
      refine V_iload_n F dX7_bag_21 rfl ?_
      refine V_if_lt F 33 dX7_bag_22 (by decide) (fun c22 => ?_) (fun c22 => ?_)
      · exact mid h1 (fun z => absurd z.1 (Int32.not_le.mpr c22))
      · refine V_iload_n F dX7_bag_25 rfl ?_
        refine V_bipush F dX7_bag_26 kb_24 ?_
        refine V_icmp_le F 33 dX7_bag_28 (by decide) (fun c28 => ?_) (fun c28 => ?_)
        · exact mid h1 (fun z => absurd z.2 (Int32.not_lt.mpr c28))
        · refine bad ?_
          rw [← hR, if_neg h1, if_neg (fun z => by subst z; exact absurd c22 (by decide)), if_pos (Int32.not_le.mp c28)]
end MOD3
end
section
def mc (c : Qd) : Nat → Int64 := fun k => c (k / 3) (k % 3)
theorem mc_at {c : Qd} {i w : Nat} (hw : w < 3) : mc c (3 * i + w) = c i w := by
  unfold mc
  rw [show (3 * i + w) / 3 = i by omega, show (3 * i + w) % 3 = w by omega]
theorem mc_up {c : Qd} {i w : Nat} {x : Int64} (hw : w < 3) : va_up (mc c) (3 * i + w) x = mc (upc c i w x) := by
  funext k
  unfold va_up mc upc
  by_cases h : k = 3 * i + w
  · rw [if_pos h, if_pos ⟨by omega, by omega⟩]
  · rw [if_neg h, if_neg (fun q => h (by omega))]
theorem trn_M (c : Qd) (i w : Nat) : 2 * (c 0 w + c 1 w + c 2 w + c 3 w - c i w) - c i w = trn c i w := by
  unfold trn tsum
  generalize c 0 w + c 1 w + c 2 w + c 3 w = A
  generalize c i w = B
  grind
theorem cw_up0 {f g : Nat → Int64} {sp i : Nat} : va_up (cw f g sp 0 i) i (f (sp + i)) = cw f g sp 0 (i + 1) := by
  have := cw_up (f := f) (g := g) (sp := sp) (dp := 0) (i := i)
  rwa [Nat.zero_add] at this
theorem InvM.setJ {G : GP} {M : Mem} {s : Sg} {lq : Int32} (h : InvM G M s lq) (i : Nat) {n : Nat} (hn : jl i = n) (h0 : 0 < n) (f : Nat → Int64) : InvM G (mset M (gB G + i) (eJ (gT G) n f)) s lq := by
  obtain ⟨⟨st, pd, gd, hO⟩, hA, hJ, hg⟩ := h
  have := jl_c (i := i) (by omega)
  exact ⟨⟨st, pd, gd, (mset_ne _ _ (by omega)).trans hO⟩, hA.frame (fun j hj => mset_ne _ _ (by omega)), hJ.setJ i hn h0 f, hg⟩
theorem InvM.setI {G : GP} {M : Mem} {s : Sg} {lq : Int32} (h : InvM G M s lq) (i : Nat) {n : Nat} (hn : il i = n) (h0 : 0 < n) (f : Nat → Int32) : InvM G (mset M (gB G + i) (eI (gT G) n f)) s lq := by
  obtain ⟨⟨st, pd, gd, hO⟩, hA, hJ, hg⟩ := h
  have := il_c (i := i) (by omega)
  exact ⟨⟨st, pd, gd, (mset_ne _ _ (by omega)).trans hO⟩, hA.frame (fun j hj => mset_ne _ _ (by omega)), hJ.setI i hn h0 f, hg⟩
theorem mJ.obj {G : GP} {M : Mem} (h : mJ G M) (e : va_E) : mJ G (mset M (gB G + 816) e) := h.other (fun i hi => by
  rcases hi with hi | hi
  · have := jl_c hi; omega
  · have := il_c hi; omega)
theorem InvM.setO {G : GP} {M : Mem} {s : Sg} {lq : Int32} (h : InvM G M s lq) (st pd gd : Int32) : InvM G (mset M (gB G + 816) (objM G (nI (sNq s)) st (nI (sS s)) (nI (sMo s)) lq pd gd)) s lq := by
  obtain ⟨-, hA, hJ, hg⟩ := h
  exact ⟨⟨st, pd, gd, mset_eq _ _ _⟩, hA.frame (fun j hj => mset_ne _ _ (by omega)), hJ.obj _, hg⟩
section MOD4
variable {G : GP} {M : Mem} {n : Option Nat} {s : Sg} {lq : Int32} {nq st lm lmo pd gd : Int32} {c : Qd}
theorem c_X7_copy (h : InvM G M s lq) (r i t j m : Int32) : Con G yX7_copy cX7_copy 7 (some .int) 2 0 0 [.ref (gB G + 816), .int r, .int i, .int t, .int j, .int m] M none (PM G M (S_copy s r i t j m).1 (S_copy s r i t j m).2 lq) := by
  have hI := h
  obtain ⟨⟨st, pd, gd, hO⟩, hA, hJ, hg⟩ := h
  obtain ⟨⟨f1, a1, b1⟩, ⟨f2, a2, b2⟩, ⟨f3, a3, b3⟩, -⟩ := hA
  obtain ⟨fm, am⟩ := hJ.1 825 (by decide)
  have am : M (gB G + 825) = some (eJ (gT G) 24 fm) := am
  generalize hR : S_copy s r i t j m = R
  unfold S_copy at hR
  refine Con.of (by decide +kernel) (Nat.le_of_ble_eq_true rfl) (fun X F hnm => ?_)
  show V G X 0 0 _ M _ 0 [some (.ref (gB G + 816)), some (.int r), some (.int i), some (.int t), some (.int j), some (.int m), none] []
  generalize hQ : BQ G X _ 0 0 = Q
  have bad : R = (-1, s) → V G X 0 0 Q M none 14 [some (.ref (gB G + 816)), some (.int r), some (.int i), some (.int t), some (.int j), some (.int m), none] [] := by
    intro z
    subst z hQ
    refine V_iconst F dX7_copy_14 ki_m1 ?_
    exact V_iret F rfl dX7_copy_15 rfl ⟨rfl, hI, fun _ _ => rfl, rfl⟩
  refine V_iload_n F dX7_copy_0 rfl ?_
  refine V_isR F is_X7_67 dX7_copy_1 (As := [_]) (c_X7_isBag _) rfl rfl rfl ?_
  refine V_if_eq F 14 dX7_copy_4 (by decide) (fun c4 => ?_) (fun c4 => ?_)
  · rw [bI_0] at c4
    exact bad (by rw [← hR, if_pos (Or.inl c4)])
  · rw [bI_n] at c4
    refine V_iload_n F dX7_copy_7 rfl ?_
    refine V_isR F is_X7_67 dX7_copy_8 (As := [_]) (c_X7_isBag _) rfl rfl rfl ?_
    refine V_if_ne F 16 dX7_copy_11 (by decide) (fun c11 => ?_) (fun c11 => ?_)
    · rw [bI_n] at c11
      rw [if_neg (fun z => by
          rcases z with z | z
          · rw [c4] at z; cases z
          · rw [c11] at z; cases z)] at hR
      obtain ⟨a, ha, rfl⟩ := inR_t (by omega) c4
      obtain ⟨b, hb, rfl⟩ := inR_t (by omega) c11
      rw [ix_nI (by omega), ix_nI (by omega)] at hR
      have k1 := (hg.1 a ha)
      have k2 := (hg.1 b hb)
      have null : (sKd s a = -1 ∨ sKd s b = -1) → V G X 0 0 Q M none 34 [some (.ref (gB G + 816)), some (.int (nI a)), some (.int i), some (.int (nI b)), some (.int j), some (.int m), none] [] := by
        intro z
        rw [if_pos z] at hR
        subst hR hQ
        refine V_bipush F dX7_copy_34 kb_m11 ?_
        exact V_iret F rfl dX7_copy_36 rfl ⟨rfl, hI, fun _ _ => rfl, rfl⟩
      refine V_aload_n F dX7_copy_16 rfl ?_
      refine V_get F fl_X7_7 dX7_copy_17 (by assumption) rfl ?_
      refine V_iload_n F dX7_copy_20 rfl ?_
      refine V_ialdN F dX7_copy_21 (by assumption) _ (by first | rfl | simp only [pk_mul, nI_add, nI_1, nI_inc]) (by omega) (by omega) ?_
      rw [b1 a ha]
      refine V_if_lt F 34 dX7_copy_22 (by decide) (fun c22 => ?_) (fun c22 => ?_)
      · exact null (Or.inl ((kd_neg k1.1).mp c22))
      · have d1 : ¬ sKd s a = -1 := fun z => c22 ((kd_neg k1.1).mpr z)
        refine V_aload_n F dX7_copy_25 rfl ?_
        refine V_get F fl_X7_7 dX7_copy_26 (by assumption) rfl ?_
        refine V_iload_n F dX7_copy_29 rfl ?_
        refine V_ialdN F dX7_copy_30 (by assumption) _ (by first | rfl | simp only [pk_mul, nI_add, nI_1, nI_inc]) (by omega) (by omega) ?_
        rw [b1 b hb]
        refine V_if_ge F 37 dX7_copy_31 (by decide) (fun c31 => ?_) (fun c31 => ?_)
        · have d2 : ¬ sKd s b = -1 := fun z => absurd ((kd_neg k2.1).mpr z) (Int32.not_lt.mpr c31)
          rw [if_neg (fun z => z.elim d1 d2)] at hR
          refine V_aload_n F dX7_copy_37 rfl ?_
          refine V_get F fl_X7_7 dX7_copy_38 (by assumption) rfl ?_
          refine V_iload_n F dX7_copy_41 rfl ?_
          refine V_ialdN F dX7_copy_42 (by assumption) _ (by first | rfl | simp only [pk_mul, nI_add, nI_1, nI_inc]) (by omega) (by omega) ?_
          rw [b1 a ha]
          refine V_aload_n F dX7_copy_43 rfl ?_
          refine V_get F fl_X7_7 dX7_copy_44 (by assumption) rfl ?_
          refine V_iload_n F dX7_copy_47 rfl ?_
          refine V_ialdN F dX7_copy_48 (by assumption) _ (by first | rfl | simp only [pk_mul, nI_add, nI_1, nI_inc]) (by omega) (by omega) ?_
          rw [b1 b hb]
          refine V_icmp_eq F 55 dX7_copy_49 (by decide) (fun c49 => ?_) (fun c49 => ?_)
          · rw [if_neg (fun z => z c49)] at hR
            have out : ¬ (hasP i m (nI (sLn s a)) = true ∧ hasP j m (nI (sLn s b)) = true) → V G X 0 0 Q M none 104 [some (.ref (gB G + 816)), some (.int (nI a)), some (.int i), some (.int (nI b)), some (.int j), some (.int m), none] [] := by
              intro z
              rw [if_neg z] at hR
              subst hR hQ
              refine V_bipush F dX7_copy_104 kb_m12 ?_
              exact V_iret F rfl dX7_copy_106 rfl ⟨rfl, hI, fun _ _ => rfl, rfl⟩
            have p1 := hasP_N (i := i) (m := m) k1.2
            have p2 := hasP_N (i := j) (m := m) k2.2
            refine V_iload F dX7_copy_55 rfl ?_
            refine V_if_lt F 104 dX7_copy_57 (by decide) (fun c57 => ?_) (fun c57 => ?_)
            · exact out (fun z => p1.mp z.1 (Or.inl c57))
            · refine V_iload_n F dX7_copy_60 rfl ?_
              refine V_if_lt F 104 dX7_copy_61 (by decide) (fun c61 => ?_) (fun c61 => ?_)
              · exact out (fun z => p1.mp z.1 (Or.inr (Or.inl c61)))
              · refine V_iload F dX7_copy_64 rfl ?_
                refine V_if_lt F 104 dX7_copy_66 (by decide) (fun c66 => ?_) (fun c66 => ?_)
                · exact out (fun z => p2.mp z.2 (Or.inr (Or.inl c66)))
                · refine V_iload_n F dX7_copy_69 rfl ?_
                  refine V_i2l F dX7_copy_70 ?_
                  refine V_iload F dX7_copy_71 rfl ?_
                  refine V_i2l F dX7_copy_73 ?_
                  refine V_ladd F dX7_copy_74 ?_
                  refine V_aload_n F dX7_copy_75 rfl ?_
                  refine V_get F fl_X7_13 dX7_copy_76 (by assumption) rfl ?_
                  refine V_iload_n F dX7_copy_79 rfl ?_
                  refine V_ialdN F dX7_copy_80 (by assumption) _ (by first | rfl | simp only [pk_mul, nI_add, nI_1, nI_inc]) (by omega) (by omega) ?_
                  rw [b2 a ha]
                  refine V_i2l F dX7_copy_81 ?_
                  refine V_lcmp F dX7_copy_82 ?_
                  refine V_if_gt F 104 dX7_copy_83 (by decide) (fun c83 => ?_) (fun c83 => ?_)
                  · rw [lcmp_gt] at c83
                    exact out (fun z => p1.mp z.1 (Or.inr (Or.inr c83)))
                  · rw [lcmp_gt] at c83
                    refine V_iload F dX7_copy_86 rfl ?_
                    refine V_i2l F dX7_copy_88 ?_
                    refine V_iload F dX7_copy_89 rfl ?_
                    refine V_i2l F dX7_copy_91 ?_
                    refine V_ladd F dX7_copy_92 ?_
                    refine V_aload_n F dX7_copy_93 rfl ?_
                    refine V_get F fl_X7_13 dX7_copy_94 (by assumption) rfl ?_
                    refine V_iload_n F dX7_copy_97 rfl ?_
                    refine V_ialdN F dX7_copy_98 (by assumption) _ (by first | rfl | simp only [pk_mul, nI_add, nI_1, nI_inc]) (by omega) (by omega) ?_
                    rw [b2 b hb]
                    refine V_i2l F dX7_copy_99 ?_
                    refine V_lcmp F dX7_copy_100 ?_
                    refine V_if_le F 107 dX7_copy_101 (by decide) (fun c101 => ?_) (fun c101 => ?_)
                    · rw [lcmp_le] at c101
                      have q1 : hasP i m (nI (sLn s a)) = true := p1.mpr (fun z => z.elim c57 (fun z => z.elim c61 c83))
                      have q2 : hasP j m (nI (sLn s b)) = true := p2.mpr (fun z => z.elim c57 (fun z => z.elim c66 (Int64.not_lt.mpr c101)))
                      rw [if_pos ⟨q1, q2⟩] at hR
                      obtain ⟨i', m', rfl, rfl, h1⟩ := hasP_t (by omega) q1
                      obtain ⟨j', m2, rfl, hmm, h2⟩ := hasP_t (by omega) q2
                      have k12 := k1.2
                      have k22 := k2.2
                      have hmm : m' = m2 := (nI_eq (by omega) (by omega)).mp hmm
                      subst hmm
                      rw [ix_nI (by omega), ix_nI (by omega), ix_nI (by omega)] at hR
                      have loop1 : ∀ q k : Nat, q + k = m' → (∀ M', M' = mset M (gB G + 825) (eJ (gT G) 24 (cw f3 fm (24 * a + i') 0 m')) → V G X 0 0 Q M' none 144 [some (.ref (gB G + 816)), some (.int (nI a)), some (.int (nI i')), some (.int (nI b)), some (.int (nI j')), some (.int (nI m')), some (.int (nI m'))] []) → V G X 0 0 Q (mset M (gB G + 825) (eJ (gT G) 24 (cw f3 fm (24 * a + i') 0 k))) none 110 [some (.ref (gB G + 816)), some (.int (nI a)), some (.int (nI i')), some (.int (nI b)), some (.int (nI j')), some (.int (nI m')), some (.int (nI k))] [] := by
                        intro q
                        induction q with
                        | zero =>
                          intro k hk kk
                          have hk : k = m' := by omega
                          subst hk
                          refine V_iload F dX7_copy_110 rfl ?_
                          refine V_iload F dX7_copy_112 rfl ?_
                          refine V_icmp_ge F 144 dX7_copy_114 (by decide) (fun c114 => ?_) (fun c114 => absurd (nI_le (by omega) (by omega)) c114)
                          exact kk _ rfl
                        | succ q ih =>
                          intro k hk kk
                          refine V_iload F dX7_copy_110 rfl ?_
                          refine V_iload F dX7_copy_112 rfl ?_
                          refine V_icmp_ge F 144 dX7_copy_114 (by decide) (fun c114 => absurd c114 (nI_ge (by omega) (by omega))) (fun c114 => ?_)
                          refine V_aload_n F dX7_copy_117 rfl ?_
                          refine V_get F fl_X7_39 dX7_copy_118 ((mset_ne _ _ (by omega)).trans hO) rfl ?_
                          refine V_iload F dX7_copy_121 rfl ?_
                          refine V_aload_n F dX7_copy_123 rfl ?_
                          refine V_get F fl_X7_16 dX7_copy_124 ((mset_ne _ _ (by omega)).trans hO) rfl ?_
                          refine V_bipush F dX7_copy_127 kb_24 ?_
                          refine V_iload_n F dX7_copy_129 rfl ?_
                          refine V_imul F dX7_copy_130 ?_
                          rw [pk_mul]
                          refine V_iload_n F dX7_copy_131 rfl ?_
                          refine V_iadd F dX7_copy_132 ?_
                          refine V_iload F dX7_copy_133 rfl ?_
                          refine V_iadd F dX7_copy_135 ?_
                          rw [nI_add, nI_add]
                          refine V_laldN F dX7_copy_136 ((mset_ne _ _ (by omega)).trans a3) _ (by first | rfl | simp only [pk_mul, nI_add, nI_1, nI_inc]) (by omega) (by omega) ?_
                          refine V_lastN F dX7_copy_137 (mset_eq _ _ _) _ (by first | rfl | simp only [pk_mul, nI_add, nI_1, nI_inc]) (by omega) (by omega) ?_
                          rw [mset_mset, cw_up0]
                          refine V_iinc1 F dX7_copy_138 rfl ?_
                          show V _ _ _ _ _ _ _ _ [_, _, _, _, _, _, _] _
                          refine V_goto F 110 dX7_copy_141 (by decide) ?_
                          exact ih (k + 1) (by omega) kk
                      refine V_iconst F dX7_copy_107 ki_0 ?_
                      refine V_istore F dX7_copy_108 (Nat.le_of_ble_eq_true rfl) ?_
                      show V _ _ _ _ _ _ _ _ [_, _, _, _, _, _, _] _
                      have st1 := loop1 m' 0 (by omega) ?_
                      rw [show cw f3 fm (24 * a + i') 0 0 = fm from funext fun z => by unfold cw; rw [if_neg (by omega)], mset_self am] at st1
                      · exact st1
                      · intro M1 hM1
                        have hI1 : InvM G M1 s lq := by rw [hM1]; exact hI.setJ 825 rfl (by decide) _
                        have e1 : ∀ z, z ≠ gB G + 825 → M1 z = M z := fun z hz => by rw [hM1]; exact mset_ne _ _ hz
                        have em : M1 (gB G + 825) = some (eJ (gT G) 24 (cw f3 fm (24 * a + i') 0 m')) := by rw [hM1]; exact mset_eq _ _ _
                        clear hM1
                        have loop2 : ∀ q k : Nat, q + k = m' → V G X 0 0 Q (mset M1 (gB G + 819) (eJ (gT G) 144 (cw f3 f3 (24 * a + i') (24 * b + j') k))) none 147 [some (.ref (gB G + 816)), some (.int (nI a)), some (.int (nI i')), some (.int (nI b)), some (.int (nI j')), some (.int (nI m')), some (.int (nI k))] [] := by
                          intro q
                          induction q with
                          | zero =>
                            intro k hk
                            have hk : k = m' := by omega
                            subst hk
                            subst hR hQ
                            have fin := hI1.pl (p := va_cpy (sPl s a) (sPl s b) i' j' k) (g := cw f3 f3 (24 * a + i') (24 * b + j') k) hb (fun c e hc he => by
                              unfold cw va_cpy
                              by_cases q : c = b
                              · subst q
                                rw [if_pos rfl]
                                by_cases q2 : j' ≤ e ∧ e < j' + k
                                · rw [if_pos (by omega), if_pos q2, show 24 * a + i' + (24 * c + e - (24 * c + j')) = 24 * a + (i' + (e - j')) by omega]
                                  exact b3 _ _ ha (by omega)
                                · rw [if_neg (by omega), if_neg q2]; exact b3 c e hc he
                              · rw [if_neg (by omega), if_neg q]; exact b3 c e hc he)
                            refine V_iload F dX7_copy_147 rfl ?_
                            refine V_iload F dX7_copy_149 rfl ?_
                            refine V_icmp_ge F 182 dX7_copy_151 (by decide) (fun c151 => ?_) (fun c151 => absurd (nI_le (by omega) (by omega)) c151)
                            refine V_iconst F dX7_copy_182 ki_0 ?_
                            exact V_iret F rfl dX7_copy_183 rfl ⟨rfl, fin, fun z hz => by rw [mset_ne _ _ (by omega), e1 z (by omega)], rfl⟩
                          | succ q ih =>
                            intro k hk
                            refine V_iload F dX7_copy_147 rfl ?_
                            refine V_iload F dX7_copy_149 rfl ?_
                            refine V_icmp_ge F 182 dX7_copy_151 (by decide) (fun c151 => absurd c151 (nI_ge (by omega) (by omega))) (fun c151 => ?_)
                            refine V_aload_n F dX7_copy_154 rfl ?_
                            refine V_get F fl_X7_16 dX7_copy_155 ((mset_ne _ _ (by omega)).trans ((e1 _ (by omega)).trans hO)) rfl ?_
                            refine V_bipush F dX7_copy_158 kb_24 ?_
                            refine V_iload_n F dX7_copy_160 rfl ?_
                            refine V_imul F dX7_copy_161 ?_
                            rw [pk_mul]
                            refine V_iload F dX7_copy_162 rfl ?_
                            refine V_iadd F dX7_copy_164 ?_
                            refine V_iload F dX7_copy_165 rfl ?_
                            refine V_iadd F dX7_copy_167 ?_
                            rw [nI_add, nI_add]
                            refine V_aload_n F dX7_copy_168 rfl ?_
                            refine V_get F fl_X7_39 dX7_copy_169 ((mset_ne _ _ (by omega)).trans ((e1 _ (by omega)).trans hO)) rfl ?_
                            refine V_iload F dX7_copy_172 rfl ?_
                            refine V_laldN F dX7_copy_174 ((mset_ne _ _ (by omega)).trans em) _ (by first | rfl | simp only [pk_mul, nI_add, nI_1, nI_inc]) (by omega) (by omega) ?_
                            rw [show cw f3 fm (24 * a + i') 0 m' k = f3 (24 * a + i' + k) by unfold cw; rw [if_pos (by omega), Nat.sub_zero]]
                            refine V_lastN F dX7_copy_175 (mset_eq _ _ _) _ (by first | rfl | simp only [pk_mul, nI_add, nI_1, nI_inc]) (by omega) (by omega) ?_
                            rw [mset_mset, cw_up]
                            refine V_iinc1 F dX7_copy_176 rfl ?_
                            show V _ _ _ _ _ _ _ _ [_, _, _, _, _, _, _] _
                            refine V_goto F 147 dX7_copy_179 (by decide) ?_
                            exact ih (k + 1) (by omega)
                        refine V_iconst F dX7_copy_144 ki_0 ?_
                        refine V_istore F dX7_copy_145 (Nat.le_of_ble_eq_true rfl) ?_
                        show V _ _ _ _ _ _ _ _ [_, _, _, _, _, _, _] _
                        have := loop2 m' 0 (by omega)
                        rw [show cw f3 f3 (24 * a + i') (24 * b + j') 0 = f3 from funext fun z => by unfold cw; rw [if_neg (by omega)], mset_self ((e1 _ (by omega)).trans a3)] at this
                        exact this
                    · rw [lcmp_le] at c101
                      exact out (fun z => p2.mp z.2 (Or.inr (Or.inr (Int64.not_le.mp c101))))
          · rw [if_pos c49] at hR
            subst hR hQ
            refine V_bipush F dX7_copy_52 kb_m14 ?_
            exact V_iret F rfl dX7_copy_54 rfl ⟨rfl, hI, fun _ _ => rfl, rfl⟩
        · exact null (Or.inr ((kd_neg k2.1).mp (Int32.not_le.mp c31)))
    · rw [bI_0] at c11
      exact bad (by rw [← hR, if_pos (Or.inr c11)])
end MOD4
end
