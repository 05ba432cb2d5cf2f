abbrev oM (G : GP) : Nat := gB G + 816
abbrev objM (G : GP) (nq st lm lmo lq pd gd : Int32) : va_E := eO 7 [.ref (gB G + 817), .ref (gB G + 818), .ref (gB G + 819), .int nq, .ref (gB G + 820), .ref (gB G + 821), .ref (gB G + 822), .int st, .ref (gB G + 823), .int lm, .int lmo, .int lq, .ref (gB G + 824), .ref (gB G + 825), .ref (gB G + 826), .int pd, .ref (gB G + 827), .ref (gB G + 828), .int gd, .ref (gB G + 829), .ref (gB G + 830), .ref (gB G + 831)]
def jl (i : Nat) : Nat := if i = 822 then 12 else if i = 825 then 24 else if i = 826 then 4 else if i = 827 then 24000 else if i = 829 then 732 else 0
def il (i : Nat) : Nat := if i = 823 then 1000 else if i = 828 then 2000 else if i = 830 then 10368 else if i = 831 then 331776 else 0
def mJ (G : GP) (M : Mem) : Prop := (∀ i, 0 < jl i → ∃ f, M (gB G + i) = some (eJ (gT G) (jl i) f)) ∧ ∀ i, 0 < il i → ∃ f, M (gB G + i) = some (eI (gT G) (il i) f)
theorem jl_c {i : Nat} (h : 0 < jl i) : i = 822 ∨ i = 825 ∨ i = 826 ∨ i = 827 ∨ i = 829 := by
  unfold jl at h
  repeat' split at h <;> first | omega | skip
theorem il_c {i : Nat} (h : 0 < il i) : i = 823 ∨ i = 828 ∨ i = 830 ∨ i = 831 := by
  unfold il at h
  repeat' split at h <;> first | omega | skip
theorem mJ.frame {G : GP} {M M' : Mem} (h : mJ G M) (e : ∀ i, (0 < jl i ∨ 0 < il i) → M' (gB G + i) = M (gB G + i)) : mJ G M' := ⟨fun i hi => by
    obtain ⟨f, hf⟩ := h.1 i hi
    exact ⟨f, (e i (Or.inl hi)).trans hf⟩, fun i hi => by
    obtain ⟨f, hf⟩ := h.2 i hi
    exact ⟨f, (e i (Or.inr hi)).trans hf⟩⟩
theorem mJ.other {G : GP} {M : Mem} {a : Nat} {e : va_E} (h : mJ G M) (ha : ∀ i, (0 < jl i ∨ 0 < il i) → gB G + i ≠ a) : mJ G (mset M a e) := h.frame (fun i hi => mset_ne _ _ (ha i hi))
theorem mJ.setJ {G : GP} {M : Mem} (h : mJ G M) (i : Nat) {n : Nat} (hn : jl i = n) (h0 : 0 < n) (f : Nat → Int64) : mJ G (mset M (gB G + i) (eJ (gT G) n f)) := by
  subst hn
  refine ⟨fun j hj => ?_, fun j hj => ?_⟩
  · by_cases q : j = i
    · subst q; exact ⟨f, mset_eq _ _ _⟩
    · obtain ⟨g, hg⟩ := h.1 j hj
      exact ⟨g, (mset_ne _ _ (by omega)).trans hg⟩
  · obtain ⟨g, hg⟩ := h.2 j hj
    refine ⟨g, (mset_ne _ _ (fun q => ?_)).trans hg⟩
    have := jl_c h0
    have := il_c hj
    omega
theorem mJ.setI {G : GP} {M : Mem} (h : mJ G M) (i : Nat) {n : Nat} (hn : il i = n) (h0 : 0 < n) (f : Nat → Int32) : mJ G (mset M (gB G + i) (eI (gT G) n f)) := by
  subst hn
  refine ⟨fun j hj => ?_, fun j hj => ?_⟩
  · obtain ⟨g, hg⟩ := h.1 j hj
    refine ⟨g, (mset_ne _ _ (fun q => ?_)).trans hg⟩
    have := il_c h0
    have := jl_c hj
    omega
  · by_cases q : j = i
    · subst q; exact ⟨f, mset_eq _ _ _⟩
    · obtain ⟨g, hg⟩ := h.2 j hj
      exact ⟨g, (mset_ne _ _ (by omega)).trans hg⟩
def kdOk (k : Int32) : Prop := k = -1 ∨ k = nI 0 ∨ k = nI 1 ∨ k = nI 2
/-- the model's arrays that hold the state -/
def mA (G : GP) (M : Mem) (s : Sg) : Prop :=
  (∃ f, M (gB G + 817) = some (eI (gT G) 6 f) ∧ ∀ r, r < 6 → f r = sKd s r) ∧ (∃ f, M (gB G + 818) = some (eI (gT G) 6 f) ∧ ∀ r, r < 6 → f r = nI (sLn s r)) ∧ (∃ f, M (gB G + 819) = some (eJ (gT G) 144 f) ∧ ∀ r j, r < 6 → j < 24 → f (24 * r + j) = sPl s r j) ∧ (∃ f, M (gB G + 820) = some (eI (gT G) 60 f) ∧ ∀ k, k < sNq s → f k = sQf s k) ∧ (∃ f, M (gB G + 821) = some (eI (gT G) 720 f) ∧ ∀ k j w, k < sNq s → j < 4 → w < 3 → f (12 * k + 3 * j + w) = (sQc s k j w).toInt32) ∧ (∃ f, M (gB G + 824) = some (eI (gT G) 720 f) ∧ ∀ k w, k < sS s → w < 3 → f (3 * k + w) = (sLst s k w).toInt32)
def qIn (c : Qd) : Prop := ∀ j w, j < 4 → w < 3 → (c j w).toInt32.toInt64 = c j w
def gOk (s : Sg) : Prop := (∀ r, r < 6 → kdOk (sKd s r) ∧ sLn s r ≤ 24) ∧ sNq s ≤ 60 ∧ sS s ≤ 240 ∧ sMo s ≤ 2000 ∧ (∀ k, k < sNq s → qIn (sQc s k)) ∧ ∀ k w, k < sS s → w < 3 → (sLst s k w).toInt32.toInt64 = sLst s k w
def InvM (G : GP) (M : Mem) (s : Sg) (lq : Int32) : Prop := (∃ st pd gd, M (gB G + 816) = some (objM G (nI (sNq s)) st (nI (sS s)) (nI (sMo s)) lq pd gd)) ∧ mA G M s ∧ mJ G M ∧ gOk s
theorem mA.frame {G : GP} {M M' : Mem} {s : Sg} (h : mA G M s) (e : ∀ i, (817 ≤ i ∧ i < 822) ∨ i = 824 → M' (gB G + i) = M (gB G + i)) : mA G M' s := by
  obtain ⟨⟨f1, a1, b1⟩, ⟨f2, a2, b2⟩, ⟨f3, a3, b3⟩, ⟨f4, a4, b4⟩, ⟨f5, a5, b5⟩, ⟨f6, a6, b6⟩⟩ := h
  exact ⟨⟨f1, (e _ (by omega)).trans a1, b1⟩, ⟨f2, (e _ (by omega)).trans a2, b2⟩, ⟨f3, (e _ (by omega)).trans a3, b3⟩, ⟨f4, (e _ (by omega)).trans a4, b4⟩, ⟨f5, (e _ (by omega)).trans a5, b5⟩, ⟨f6, (e _ (by omega)).trans a6, b6⟩⟩
def PM (G : GP) (M : Mem) (v : Int32) (s : Sg) (lq : Int32) : Option Value → Mem → Option Nat → Prop := fun v' M' n' => v' = some (.int v) ∧ InvM G M' s lq ∧ (∀ z, z < gB G + 816 → M' z = M z) ∧ n' = none
def inL (v lo hi : Int64) : Bool := decide (lo ≤ v) && decide (v ≤ hi)
theorem inL_R {x : Int32} {m : Nat} (hm : m < 2 ^ 31) {hi : Int64} (hh : hi.toInt = (m : Int) - 1) : inL x.toInt64 0 hi = inR x m := by
  unfold inL inR
  have e0 : (0 : Int64).toInt = 0 := by decide
  have e1 : (0 : Int32).toInt = 0 := by decide
  congr 1
  · apply decide_eq_decide.mpr
    rw [Int64.le_iff_toInt_le, Int32.le_iff_toInt_le, Int32.toInt_toInt64, e0, e1]
  · apply decide_eq_decide.mpr
    rw [Int64.le_iff_toInt_le, Int32.lt_iff_toInt_lt, Int32.toInt_toInt64, hh, nI_toInt hm]
    omega
section MOD1
variable {G : GP} {M : Mem} {n : Option Nat} {s : Sg} {lq : Int32}
theorem c_X7_in (v lo hi : Int64) : Con G yX7_in cX7_in 6 (some .boolean) 0 0 0 [.long v, .long lo, .long hi] M n (R1 (some (.int (bI (inL v lo hi)))) M n) := by
  refine Con.of (by decide +kernel) (Nat.le_of_ble_eq_true rfl) (fun X F hnm => ?_)
  show V G X 0 0 _ M _ 0 [some (.long v), none, some (.long lo), none, some (.long hi), none] []
  refine V_lload_n F dX7_in_0 rfl ?_
  refine V_lload_n F dX7_in_1 rfl ?_
  refine V_lcmp F dX7_in_2 ?_
  refine V_if_lt F 17 dX7_in_3 (by decide) (fun c3 => ?_) (fun c3 => ?_)
  · rw [lcmp_lt] at c3
    refine V_iconst F dX7_in_17 ki_0 ?_
    exact V_iret F rfl dX7_in_18 rfl ⟨rf (by simp only [inL, Bool.and_eq_false_iff]; exact Or.inl (decide_eq_false (Int64.not_le.mpr c3))), rfl, rfl⟩
  · rw [lcmp_lt] at c3
    refine V_lload_n F dX7_in_6 rfl ?_
    refine V_lload F dX7_in_7 rfl ?_
    refine V_lcmp F dX7_in_9 ?_
    refine V_if_gt F 17 dX7_in_10 (by decide) (fun c10 => ?_) (fun c10 => ?_)
    · rw [lcmp_gt] at c10
      refine V_iconst F dX7_in_17 ki_0 ?_
      exact V_iret F rfl dX7_in_18 rfl ⟨rf (by simp only [inL, Bool.and_eq_false_iff]; exact Or.inr (decide_eq_false (Int64.not_le.mpr c10))), rfl, rfl⟩
    · rw [lcmp_gt] at c10
      refine V_iconst F dX7_in_13 ki_1 ?_
      refine V_goto F 18 dX7_in_14 (by decide) ?_
      exact V_iret F rfl dX7_in_18 rfl ⟨rt (by simp only [inL, Bool.and_eq_true]; exact ⟨decide_eq_true (Int64.not_lt.mp c3), decide_eq_true (Int64.not_lt.mp c10)⟩), rfl, rfl⟩
theorem c_X7_isBag (x : Int32) : Con G yX7_isBag cX7_isBag 1 (some .boolean) 1 0 0 [.int x] M n (R1 (some (.int (bI (inR x 6)))) M n) := by
  refine Con.of (by decide +kernel) (Nat.le_of_ble_eq_true rfl) (fun X F hnm => ?_)
  show V G X 0 0 _ M _ 0 [some (.int x)] []
  refine V_iload_n F dX7_isBag_0 rfl ?_
  refine V_i2l F dX7_isBag_1 ?_
  refine V_lconst F dX7_isBag_2 (v := 0) (by decide) ?_
  refine V_ldc2 F dX7_isBag_3 kl_X7_61 ?_
  refine V_isR F is_X7_63 dX7_isBag_6 (As := [_, _, _]) (c_X7_in _ _ _) rfl rfl rfl ?_
  rw [inL_R (m := 6) (by omega) (by decide)]
  exact V_iret F rfl dX7_isBag_9 (bI_z _) ⟨rfl, rfl, rfl⟩
theorem c_X7_isBend (x : Int64) : Con G yX7_isBend cX7_isBend 2 (some .boolean) 1 0 0 [.long x] M n (R1 (some (.int (bI (!bRef x)))) M n) := by
  refine Con.of (by decide +kernel) (Nat.le_of_ble_eq_true rfl) (fun X F hnm => ?_)
  show V G X 0 0 _ M _ 0 [some (.long x), none] []
  refine V_lload_n F dX7_isBend_0 rfl ?_
  refine V_lconst F dX7_isBend_1 (v := 0) (by decide) ?_
  refine V_lcmp F dX7_isBend_2 ?_
  refine V_if_eq F 23 dX7_isBend_3 (by decide) (fun c3 => ?_) (fun c3 => ?_)
  · rw [lcmp_eq] at c3
    refine V_iconst F dX7_isBend_23 ki_0 ?_
    exact V_iret F rfl dX7_isBend_24 rfl ⟨rf (by simp [bRef, c3]), rfl, rfl⟩
  · rw [lcmp_eq] at c3
    refine V_lload_n F dX7_isBend_6 rfl ?_
    refine V_ldc2 F dX7_isBend_7 kl_X7_82 ?_
    refine V_ldc2 F dX7_isBend_10 kl_X7_84 ?_
    refine V_isR F is_X7_63 dX7_isBend_13 (As := [_, _, _]) (c_X7_in _ _ _) rfl rfl rfl ?_
    refine V_if_eq F 23 dX7_isBend_16 (by decide) (fun c16 => ?_) (fun c16 => ?_)
    · rw [bI_0] at c16
      unfold inL at c16
      rw [Bool.and_eq_false_iff, decide_eq_false_iff_not, decide_eq_false_iff_not, Int64.not_le, Int64.not_le] at c16
      refine V_iconst F dX7_isBend_23 ki_0 ?_
      exact V_iret F rfl dX7_isBend_24 rfl ⟨rf (by rcases c16 with q | q <;> simp [bRef, q]), rfl, rfl⟩
    · rw [bI_n] at c16
      unfold inL at c16
      simp only [Bool.and_eq_true, decide_eq_true_eq] at c16
      refine V_iconst F dX7_isBend_19 ki_1 ?_
      refine V_goto F 24 dX7_isBend_20 (by decide) ?_
      exact V_iret F rfl dX7_isBend_24 rfl ⟨rt (by simp [bRef, c3, c16.1, c16.2]), rfl, rfl⟩
theorem c_X7_isPlace (x : Int64) : Con G yX7_isPlace cX7_isPlace 2 (some .boolean) 1 0 0 [.long x] M n (R1 (some (.int (bI (!pRef x)))) M n) := by
  refine Con.of (by decide +kernel) (Nat.le_of_ble_eq_true rfl) (fun X F hnm => ?_)
  show V G X 0 0 _ M _ 0 [some (.long x), none] []
  refine V_lload_n F dX7_isPlace_0 rfl ?_
  refine V_ldc2 F dX7_isPlace_1 kl_X7_86 ?_
  refine V_ldc2 F dX7_isPlace_4 kl_X7_88 ?_
  refine V_isR F is_X7_63 dX7_isPlace_7 (As := [_, _, _]) (c_X7_in _ _ _) rfl rfl rfl ?_
  rw [show inL x (-50000) 50000 = !pRef x by
    unfold inL pRef
    by_cases h1 : x < -50000
    · have h3 : ¬ (-50000 ≤ x) := Int64.not_le.mpr h1
      simp [h1, h3]
    · by_cases h2 : 50000 < x
      · simp [h1, h2]
      · simp [h1, h2, Int64.not_lt.mp h1, Int64.not_lt.mp h2]]
  exact V_iret F rfl dX7_isPlace_10 (bI_z _) ⟨rfl, rfl, rfl⟩
theorem c_X7_areTouching (a x y b u v : Int64) : Con G yX7_areTouching cX7_areTouching 16 (some .boolean) 0 0 0 [.long a, .long x, .long y, .long b, .long u, .long v] M n (R1 (some (.int (bI (tchf a x y b u v)))) M n) := by
  refine Con.of (by decide +kernel) (Nat.le_of_ble_eq_true rfl) (fun X F hnm => ?_)
  show V G X 0 0 _ M _ 0 [some (.long a), none, some (.long x), none, some (.long y), none, some (.long b), none, some (.long u), none, some (.long v), none, none, none, none, none] []
  refine V_lload F dX7_areTouching_0 rfl ?_
  refine V_lload_n F dX7_areTouching_2 rfl ?_
  refine V_lmul F dX7_areTouching_3 ?_
  refine V_lload_n F dX7_areTouching_4 rfl ?_
  refine V_lload F dX7_areTouching_5 rfl ?_
  refine V_lmul F dX7_areTouching_7 ?_
  refine V_lsub F dX7_areTouching_8 ?_
  refine V_lstore F dX7_areTouching_9 (Nat.le_of_ble_eq_true rfl) ?_
  show V _ _ _ _ _ _ _ _ [_, _, _, _, _, _, _, _, _, _, _, _, _, _, _, _] _
  refine V_lload F dX7_areTouching_11 rfl ?_
  refine V_lload F dX7_areTouching_13 rfl ?_
  refine V_lmul F dX7_areTouching_15 ?_
  refine V_lload_n F dX7_areTouching_16 rfl ?_
  refine V_lload F dX7_areTouching_17 rfl ?_
  refine V_lmul F dX7_areTouching_19 ?_
  refine V_lsub F dX7_areTouching_20 ?_
  refine V_lstore F dX7_areTouching_21 (Nat.le_of_ble_eq_true rfl) ?_
  show V _ _ _ _ _ _ _ _ [_, _, _, _, _, _, _, _, _, _, _, _, _, _, _, _] _
  refine V_lload F dX7_areTouching_23 rfl ?_
  refine V_lload F dX7_areTouching_25 rfl ?_
  refine V_lmul F dX7_areTouching_27 ?_
  refine V_lload F dX7_areTouching_28 rfl ?_
  refine V_lload F dX7_areTouching_30 rfl ?_
  refine V_lmul F dX7_areTouching_32 ?_
  refine V_ladd F dX7_areTouching_33 ?_
  refine V_lload_n F dX7_areTouching_34 rfl ?_
  refine V_lload F dX7_areTouching_35 rfl ?_
  refine V_ladd F dX7_areTouching_37 ?_
  refine V_lload_n F dX7_areTouching_38 rfl ?_
  refine V_lload F dX7_areTouching_39 rfl ?_
  refine V_ladd F dX7_areTouching_41 ?_
  refine V_lmul F dX7_areTouching_42 ?_
  refine V_lcmp F dX7_areTouching_43 ?_
  refine V_if_ne F 51 dX7_areTouching_44 (by decide) (fun c44 => ?_) (fun c44 => ?_)
  · rw [lcmp_eq] at c44
    refine V_iconst F dX7_areTouching_51 ki_0 ?_
    exact V_iret F rfl dX7_areTouching_52 rfl ⟨rf (by simpa [tchf] using c44), rfl, rfl⟩
  · rw [lcmp_eq] at c44
    refine V_iconst F dX7_areTouching_47 ki_1 ?_
    refine V_goto F 52 dX7_areTouching_48 (by decide) ?_
    exact V_iret F rfl dX7_areTouching_52 rfl ⟨rt (by simpa [tchf] using c44), rfl, rfl⟩
theorem c_X7_isQuad {nq : Nat} (hn : nq ≤ 60) {st lm lmo pd gd : Int32} (h : M (gB G + 816) = some (objM G (nI nq) st lm lmo lq pd gd)) (x : Int32) : Con G yX7_isQuad cX7_isQuad 2 (some .boolean) 1 0 0 [.ref (gB G + 816), .int x] M n (R1 (some (.int (bI (inR x nq)))) M n) := by
  refine Con.of (by decide +kernel) (Nat.le_of_ble_eq_true rfl) (fun X F hnm => ?_)
  show V G X 0 0 _ M _ 0 [some (.ref (gB G + 816)), some (.int x)] []
  refine V_iload_n F dX7_isQuad_0 rfl ?_
  refine V_i2l F dX7_isQuad_1 ?_
  refine V_lconst F dX7_isQuad_2 (v := 0) (by decide) ?_
  refine V_aload_n F dX7_isQuad_3 rfl ?_
  refine V_get F fl_X7_79 dX7_isQuad_4 (by assumption) rfl ?_
  refine V_iconst F dX7_isQuad_7 ki_1 ?_
  refine V_isub F dX7_isQuad_8 ?_
  refine V_i2l F dX7_isQuad_9 ?_
  have e : (nI nq - nI 1).toInt64.toInt = (nq : Int) - 1 := by
    rw [Int32.toInt_toInt64, pk_sub_toInt (by omega) (by omega)]
    rfl
  refine V_isR F is_X7_63 dX7_isQuad_10 (As := [_, _, _]) (c_X7_in _ _ _) rfl rfl rfl ?_
  rw [inL_R (m := nq) (by omega) e]
  exact V_iret F rfl dX7_isQuad_13 (bI_z _) ⟨rfl, rfl, rfl⟩
theorem c_X7_isCoin (i w : Int32) : Con G yX7_isCoin cX7_isCoin 2 (some .boolean) 1 0 0 [.int i, .int w] M n (R1 (some (.int (bI (inR i 4 && inR w 3)))) M n) := by
  refine Con.of (by decide +kernel) (Nat.le_of_ble_eq_true rfl) (fun X F hnm => ?_)
  show V G X 0 0 _ M _ 0 [some (.int i), some (.int w)] []
  refine V_iload_n F dX7_isCoin_0 rfl ?_
  refine V_i2l F dX7_isCoin_1 ?_
  refine V_lconst F dX7_isCoin_2 (v := 0) (by decide) ?_
  refine V_ldc2 F dX7_isCoin_3 kl_X7_118 ?_
  refine V_isR F is_X7_63 dX7_isCoin_6 (As := [_, _, _]) (c_X7_in _ _ _) rfl rfl rfl ?_
  refine V_if_eq F 28 dX7_isCoin_9 (by decide) (fun c9 => ?_) (fun c9 => ?_)
  · rw [bI_0, inL_R (m := 4) (by omega) (by decide)] at c9
    refine V_iconst F dX7_isCoin_28 ki_0 ?_
    exact V_iret F rfl dX7_isCoin_29 rfl ⟨rf (by simp [c9]), rfl, rfl⟩
  · rw [bI_n, inL_R (m := 4) (by omega) (by decide)] at c9
    refine V_iload_n F dX7_isCoin_12 rfl ?_
    refine V_i2l F dX7_isCoin_13 ?_
    refine V_lconst F dX7_isCoin_14 (v := 0) (by decide) ?_
    refine V_ldc2 F dX7_isCoin_15 kl_X7_73 ?_
    refine V_isR F is_X7_63 dX7_isCoin_18 (As := [_, _, _]) (c_X7_in _ _ _) rfl rfl rfl ?_
    refine V_if_eq F 28 dX7_isCoin_21 (by decide) (fun c21 => ?_) (fun c21 => ?_)
    · rw [bI_0, inL_R (m := 3) (by omega) (by decide)] at c21
      refine V_iconst F dX7_isCoin_28 ki_0 ?_
      exact V_iret F rfl dX7_isCoin_29 rfl ⟨rf (by simp [c9, c21]), rfl, rfl⟩
    · rw [bI_n, inL_R (m := 3) (by omega) (by decide)] at c21
      refine V_iconst F dX7_isCoin_24 ki_1 ?_
      refine V_goto F 29 dX7_isCoin_25 (by decide) ?_
      exact V_iret F rfl dX7_isCoin_29 rfl ⟨rt (by simp [c9, c21]), rfl, rfl⟩
end MOD1
