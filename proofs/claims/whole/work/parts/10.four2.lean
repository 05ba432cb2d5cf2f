def bRef (x : Int64) : Bool := x == 0 || (decide (x < -20000) || decide (20000 < x))
def pRef (x : Int64) : Bool := decide (x < -50000) || decide (50000 < x)
def plR (c : Qd) (i : Nat) : Bool := pRef (c i 1) || pRef (c i 2)
def cRef (c : Qd) (i : Nat) : Int32 := if bRef (c i 0) then -15 else if plR c i then -16 else nI 0
def tchf (a x y b u v : Int64) : Bool := (b * x - a * u) * (b * x - a * u) + (b * y - a * v) * (b * y - a * v) == (a + b) * (a + b)
def tch (c : Qd) (i : Nat) (c2 : Qd) (j : Nat) : Bool := tchf (c i 0) (c i 1) (c i 2) (c2 j 0) (c2 j 1) (c2 j 2)
def tms (c : Qd) (x : Int64) : Nat → Nat
  | 0 => 0
  | k + 1 => tms c x k + if c k 0 = x then 1 else 0
theorem tms_le (c : Qd) (x : Int64) : ∀ k, tms c x k ≤ k
  | 0 => Nat.le_refl _
  | k + 1 => by unfold tms; have := tms_le c x k; split <;> omega
def hbo (c c2 : Qd) : Nat → Bool
  | 0 => true
  | k + 1 => hbo c c2 k && tms c (c k 0) 4 == tms c2 (c k 0) 4
def gd : Nat → Qd → Nat × Qd
  | 0, c => (0, c)
  | m + 1, c => if trn c (grt c) 0 < c (grt c) 0 then ((gd m (turnc c (grt c))).1 + 1, (gd m (turnc c (grt c))).2) else (0, c)
def sqs (c : Qd) : Nat → Int64
  | 0 => 0
  | k + 1 => sqs c k + c k 0 * c k 0
def bst (c : Qd) : Bool := decide (0 < tsum c 0) && 2 * sqs c 4 == tsum c 0 * tsum c 0
def nng (c : Qd) : Nat → Nat
  | 0 => 0
  | k + 1 => nng c k + if c k 0 < 0 then 1 else 0
theorem nng_le (c : Qd) : ∀ k, nng c k ≤ k
  | 0 => Nat.le_refl _
  | k + 1 => by unfold nng; have := nng_le c k; split <;> omega
def euc : Nat → Int64 → Int64 → Int64
  | 0, d, _ => d
  | m + 1, d, r => if r = 0 then d else euc m r (d - d / r * r)
def dvs (c : Qd) : Nat → Int64
  | 0 => 0
  | k + 1 => euc 100 (dvs c k) (abs64 (c k 0))
section FOUR2
variable {G : GP} {M : Mem} {n : Option Nat} {a r : Nat} {c : Qd}
theorem c_X1_isBeyond (x : Int64) : Con G yX1_isBeyond cX1_isBeyond 2 (some .boolean) 0 0 0 [.long x] M n (R1 (some (.int (bI (pRef x)))) M n) := by
  refine Con.of (by decide +kernel) (Nat.le_of_ble_eq_true rfl) (fun X F hnm => ?_)
  show V G X 0 0 _ M _ 0 [some (.long x), none] []
  refine V_lload_n F dX1_isBeyond_0 rfl ?_
  refine V_ldc2 F dX1_isBeyond_1 kl_X1_73 ?_
  refine V_lcmp F dX1_isBeyond_4 ?_
  refine V_if_lt F 16 dX1_isBeyond_5 (by decide) (fun c5 => ?_) (fun c5 => ?_)
  · rw [lcmp_lt] at c5
    refine V_iconst F dX1_isBeyond_16 ki_1 ?_
    refine V_goto F 21 dX1_isBeyond_17 (by decide) ?_
    exact V_iret F rfl dX1_isBeyond_21 rfl ⟨rt (by simp [pRef, c5]), rfl, rfl⟩
  · rw [lcmp_lt] at c5
    refine V_lload_n F dX1_isBeyond_8 rfl ?_
    refine V_ldc2 F dX1_isBeyond_9 kl_X1_75 ?_
    refine V_lcmp F dX1_isBeyond_12 ?_
    refine V_if_le F 20 dX1_isBeyond_13 (by decide) (fun c13 => ?_) (fun c13 => ?_)
    · rw [lcmp_le] at c13
      refine V_iconst F dX1_isBeyond_20 ki_0 ?_
      exact V_iret F rfl dX1_isBeyond_21 rfl ⟨rf (by simp only [pRef, decide_eq_false c5, Bool.false_or, decide_eq_false_iff_not, Int64.not_lt]; exact c13), rfl, rfl⟩
    · rw [lcmp_le] at c13
      refine V_iconst F dX1_isBeyond_16 ki_1 ?_
      refine V_goto F 21 dX1_isBeyond_17 (by decide) ?_
      exact V_iret F rfl dX1_isBeyond_21 rfl ⟨rt (by simp [pRef, Int64.not_le.mp c13]), rfl, rfl⟩
theorem c_X1_isBendRefused (h0 : M a = some (eO 1 [.ref r])) (h1 : M r = some (eJ (gT G) 12 (fc c))) {i : Nat} (hi : i < 4) : Con G yX1_isBendRefused cX1_isBendRefused 2 (some .boolean) 1 0 0 [.ref a, .int (nI i)] M n (R1 (some (.int (bI (bRef (c i 0))))) M n) := by
  refine Con.of (by decide +kernel) (Nat.le_of_ble_eq_true rfl) (fun X F hnm => ?_)
  show V G X 0 0 _ M _ 0 [some (.ref a), some (.int (nI i))] []
  refine V_aload_n F dX1_isBendRefused_0 rfl ?_
  refine V_iload_n F dX1_isBendRefused_1 rfl ?_
  refine V_ivR F iv_X1_36 dX1_isBendRefused_2 (As := [_]) (c_X1_bend h0 h1 hi) (by assumption) rfl rfl rfl rfl ?_
  refine V_lconst F dX1_isBendRefused_5 (v := 0) (by decide) ?_
  refine V_lcmp F dX1_isBendRefused_6 ?_
  refine V_if_eq F 34 dX1_isBendRefused_7 (by decide) (fun c7 => ?_) (fun c7 => ?_)
  · rw [lcmp_eq] at c7
    refine V_iconst F dX1_isBendRefused_34 ki_1 ?_
    refine V_goto F 39 dX1_isBendRefused_35 (by decide) ?_
    exact V_iret F rfl dX1_isBendRefused_39 rfl ⟨rt (by simp [bRef, c7]), rfl, rfl⟩
  · rw [lcmp_eq] at c7
    have c7' : (c i 0 == 0) = false := by simpa using c7
    refine V_aload_n F dX1_isBendRefused_10 rfl ?_
    refine V_iload_n F dX1_isBendRefused_11 rfl ?_
    refine V_ivR F iv_X1_36 dX1_isBendRefused_12 (As := [_]) (c_X1_bend h0 h1 hi) (by assumption) rfl rfl rfl rfl ?_
    refine V_ldc2 F dX1_isBendRefused_15 kl_X1_65 ?_
    refine V_lcmp F dX1_isBendRefused_18 ?_
    refine V_if_lt F 34 dX1_isBendRefused_19 (by decide) (fun c19 => ?_) (fun c19 => ?_)
    · rw [lcmp_lt] at c19
      refine V_iconst F dX1_isBendRefused_34 ki_1 ?_
      refine V_goto F 39 dX1_isBendRefused_35 (by decide) ?_
      exact V_iret F rfl dX1_isBendRefused_39 rfl ⟨rt (by simp [bRef, c19]), rfl, rfl⟩
    · rw [lcmp_lt] at c19
      refine V_aload_n F dX1_isBendRefused_22 rfl ?_
      refine V_iload_n F dX1_isBendRefused_23 rfl ?_
      refine V_ivR F iv_X1_36 dX1_isBendRefused_24 (As := [_]) (c_X1_bend h0 h1 hi) (by assumption) rfl rfl rfl rfl ?_
      refine V_ldc2 F dX1_isBendRefused_27 kl_X1_67 ?_
      refine V_lcmp F dX1_isBendRefused_30 ?_
      refine V_if_le F 38 dX1_isBendRefused_31 (by decide) (fun c31 => ?_) (fun c31 => ?_)
      · rw [lcmp_le] at c31
        refine V_iconst F dX1_isBendRefused_38 ki_0 ?_
        exact V_iret F rfl dX1_isBendRefused_39 rfl ⟨rf (by simp only [bRef, c7', decide_eq_false c19, Bool.false_or, decide_eq_false_iff_not, Int64.not_lt]; exact c31), rfl, rfl⟩
      · rw [lcmp_le] at c31
        refine V_iconst F dX1_isBendRefused_34 ki_1 ?_
        refine V_goto F 39 dX1_isBendRefused_35 (by decide) ?_
        exact V_iret F rfl dX1_isBendRefused_39 rfl ⟨rt (by simp [bRef, Int64.not_le.mp c31]), rfl, rfl⟩
theorem c_X1_isPlaceRefused (h0 : M a = some (eO 1 [.ref r])) (h1 : M r = some (eJ (gT G) 12 (fc c))) {i : Nat} (hi : i < 4) : Con G yX1_isPlaceRefused cX1_isPlaceRefused 2 (some .boolean) 1 0 0 [.ref a, .int (nI i)] M n (R1 (some (.int (bI (plR c i)))) M n) := by
  refine Con.of (by decide +kernel) (Nat.le_of_ble_eq_true rfl) (fun X F hnm => ?_)
  show V G X 0 0 _ M _ 0 [some (.ref a), some (.int (nI i))] []
  refine V_aload_n F dX1_isPlaceRefused_0 rfl ?_
  refine V_iload_n F dX1_isPlaceRefused_1 rfl ?_
  refine V_iconst F dX1_isPlaceRefused_2 ki_1 ?_
  refine V_ivR F iv_X1_21 dX1_isPlaceRefused_3 (As := [_, _]) (c_X1_told h0 h1 hi (w := 1) (by omega)) (by assumption) rfl rfl rfl rfl ?_
  refine V_isR F is_X1_69 dX1_isPlaceRefused_6 (As := [_]) (c_X1_isBeyond _) rfl rfl rfl ?_
  refine V_if_ne F 24 dX1_isPlaceRefused_9 (by decide) (fun c9 => ?_) (fun c9 => ?_)
  · rw [bI_n] at c9
    refine V_iconst F dX1_isPlaceRefused_24 ki_1 ?_
    refine V_goto F 29 dX1_isPlaceRefused_25 (by decide) ?_
    exact V_iret F rfl dX1_isPlaceRefused_29 rfl ⟨rt (by simp [plR, c9]), rfl, rfl⟩
  · have c9 := bI_0.mp c9
    refine V_aload_n F dX1_isPlaceRefused_12 rfl ?_
    refine V_iload_n F dX1_isPlaceRefused_13 rfl ?_
    refine V_iconst F dX1_isPlaceRefused_14 ki_2 ?_
    refine V_ivR F iv_X1_21 dX1_isPlaceRefused_15 (As := [_, _]) (c_X1_told h0 h1 hi (w := 2) (by omega)) (by assumption) rfl rfl rfl rfl ?_
    refine V_isR F is_X1_69 dX1_isPlaceRefused_18 (As := [_]) (c_X1_isBeyond _) rfl rfl rfl ?_
    refine V_if_eq F 28 dX1_isPlaceRefused_21 (by decide) (fun c21 => ?_) (fun c21 => ?_)
    · rw [bI_0] at c21
      refine V_iconst F dX1_isPlaceRefused_28 ki_0 ?_
      exact V_iret F rfl dX1_isPlaceRefused_29 rfl ⟨rf (by simp [plR, c9, c21]), rfl, rfl⟩
    · rw [bI_n] at c21
      refine V_iconst F dX1_isPlaceRefused_24 ki_1 ?_
      refine V_goto F 29 dX1_isPlaceRefused_25 (by decide) ?_
      exact V_iret F rfl dX1_isPlaceRefused_29 rfl ⟨rt (by simp [plR, c21]), rfl, rfl⟩
theorem c_X1_refusalOfCoin (h0 : M a = some (eO 1 [.ref r])) (h1 : M r = some (eJ (gT G) 12 (fc c))) {i : Nat} (hi : i < 4) : Con G yX1_refusalOfCoin cX1_refusalOfCoin 2 (some .int) 2 0 0 [.ref a, .int (nI i)] M n (R1 (some (.int (cRef c i))) M n) := by
  refine Con.of (by decide +kernel) (Nat.le_of_ble_eq_true rfl) (fun X F hnm => ?_)
  show V G X 0 0 _ M _ 0 [some (.ref a), some (.int (nI i))] []
  refine V_aload_n F dX1_refusalOfCoin_0 rfl ?_
  refine V_iload_n F dX1_refusalOfCoin_1 rfl ?_
  refine V_ivR F iv_X1_59 dX1_refusalOfCoin_2 (As := [_]) (c_X1_isBendRefused h0 h1 hi) (by assumption) rfl rfl rfl rfl ?_
  refine V_if_eq F 11 dX1_refusalOfCoin_5 (by decide) (fun c5 => ?_) (fun c5 => ?_)
  · rw [bI_0] at c5
    refine V_aload_n F dX1_refusalOfCoin_11 rfl ?_
    refine V_iload_n F dX1_refusalOfCoin_12 rfl ?_
    refine V_ivR F iv_X1_62 dX1_refusalOfCoin_13 (As := [_]) (c_X1_isPlaceRefused h0 h1 hi) (by assumption) rfl rfl rfl rfl ?_
    refine V_if_eq F 24 dX1_refusalOfCoin_16 (by decide) (fun c16 => ?_) (fun c16 => ?_)
    · rw [bI_0] at c16
      refine V_iconst F dX1_refusalOfCoin_24 ki_0 ?_
      exact V_iret F rfl dX1_refusalOfCoin_25 rfl ⟨by simp [cRef, c5, c16], rfl, rfl⟩
    · rw [bI_n] at c16
      refine V_bipush F dX1_refusalOfCoin_19 kb_m16 ?_
      refine V_goto F 25 dX1_refusalOfCoin_21 (by decide) ?_
      exact V_iret F rfl dX1_refusalOfCoin_25 rfl ⟨by simp [cRef, c5, c16], rfl, rfl⟩
  · rw [bI_n] at c5
    refine V_bipush F dX1_refusalOfCoin_8 kb_m15 ?_
    exact V_iret F rfl dX1_refusalOfCoin_10 rfl ⟨by simp [cRef, c5], rfl, rfl⟩
theorem c_X1_turnWithin (h0 : M a = some (eO 1 [.ref r])) (h1 : M r = some (eJ (gT G) 12 (fc c))) {i : Nat} (hi : i < 4) : Con G yX1_turnWithin cX1_turnWithin 2 (some .boolean) 4 0 0 [.ref a, .int (nI i)] M n (R1 (some (.int (bI (cRef (turnc c i) i == 0)))) (mset M r (eJ (gT G) 12 (fc (turnc c i)))) n) := by
  refine Con.of (by decide +kernel) (Nat.le_of_ble_eq_true rfl) (fun X F hnm => ?_)
  show V G X 0 0 _ M _ 0 [some (.ref a), some (.int (nI i))] []
  have har := ne_oj h0 h1
  refine V_aload_n F dX1_turnWithin_0 rfl ?_
  refine V_iload_n F dX1_turnWithin_1 rfl ?_
  refine V_ivR F iv_X1_43 dX1_turnWithin_2 (As := [_]) (c_X1_turn h0 h1 hi) (by assumption) rfl rfl rfl rfl ?_
  refine V_aload_n F dX1_turnWithin_5 rfl ?_
  refine V_iload_n F dX1_turnWithin_6 rfl ?_
  refine V_ivR F iv_X1_51 dX1_turnWithin_7 (As := [_]) (c_X1_refusalOfCoin ((mset_ne _ _ har).trans h0) (mset_eq _ _ _) hi) ((mset_ne _ _ har).trans h0) rfl rfl rfl rfl ?_
  refine V_if_ne F 17 dX1_turnWithin_10 (by decide) (fun c10 => ?_) (fun c10 => ?_)
  · refine V_iconst F dX1_turnWithin_17 ki_0 ?_
    exact V_iret F rfl dX1_turnWithin_18 rfl ⟨rf (by simpa using c10), rfl, rfl⟩
  · refine V_iconst F dX1_turnWithin_13 ki_1 ?_
    refine V_goto F 18 dX1_turnWithin_14 (by decide) ?_
    exact V_iret F rfl dX1_turnWithin_18 rfl ⟨rt (by simpa using c10), rfl, rfl⟩
theorem c_X1_touches {b q : Nat} {c2 : Qd} (h0 : M a = some (eO 1 [.ref r])) (h1 : M r = some (eJ (gT G) 12 (fc c))) (g0 : M b = some (eO 1 [.ref q])) (g1 : M q = some (eJ (gT G) 12 (fc c2))) {i j : Nat} (hi : i < 4) (hj : j < 4) : Con G yX1_touches cX1_touches 12 (some .boolean) 1 0 0 [.ref a, .int (nI i), .ref b, .int (nI j)] M n (R1 (some (.int (bI (tch c i c2 j)))) M n) := by
  refine Con.of (by decide +kernel) (Nat.le_of_ble_eq_true rfl) (fun X F hnm => ?_)
  show V G X 0 0 _ M _ 0 [some (.ref a), some (.int (nI i)), some (.ref b), some (.int (nI j)), none, none, none, none, none, none, none, none] []
  refine V_aload_n F dX1_touches_0 rfl ?_
  refine V_iload_n F dX1_touches_1 rfl ?_
  refine V_ivR F iv_X1_36 dX1_touches_2 (As := [_]) (c_X1_bend h0 h1 hi) (by assumption) rfl rfl rfl rfl ?_
  refine V_lstore F dX1_touches_5 (Nat.le_of_ble_eq_true rfl) ?_
  show V _ _ _ _ _ _ _ _ [_, _, _, _, _, _, _, _, _, _, _, _] _
  refine V_aload_n F dX1_touches_7 rfl ?_
  refine V_iload_n F dX1_touches_8 rfl ?_
  refine V_ivR F iv_X1_36 dX1_touches_9 (As := [_]) (c_X1_bend g0 g1 hj) (by assumption) rfl rfl rfl rfl ?_
  refine V_lstore F dX1_touches_12 (Nat.le_of_ble_eq_true rfl) ?_
  show V _ _ _ _ _ _ _ _ [_, _, _, _, _, _, _, _, _, _, _, _] _
  refine V_lload F dX1_touches_14 rfl ?_
  refine V_aload_n F dX1_touches_16 rfl ?_
  refine V_iload_n F dX1_touches_17 rfl ?_
  refine V_iconst F dX1_touches_18 ki_1 ?_
  refine V_ivR F iv_X1_21 dX1_touches_19 (As := [_, _]) (c_X1_told h0 h1 hi (w := 1) (by omega)) (by assumption) rfl rfl rfl rfl ?_
  refine V_lmul F dX1_touches_22 ?_
  refine V_lload F dX1_touches_23 rfl ?_
  refine V_aload_n F dX1_touches_25 rfl ?_
  refine V_iload_n F dX1_touches_26 rfl ?_
  refine V_iconst F dX1_touches_27 ki_1 ?_
  refine V_ivR F iv_X1_21 dX1_touches_28 (As := [_, _]) (c_X1_told g0 g1 hj (w := 1) (by omega)) (by assumption) rfl rfl rfl rfl ?_
  refine V_lmul F dX1_touches_31 ?_
  refine V_lsub F dX1_touches_32 ?_
  refine V_lstore F dX1_touches_33 (Nat.le_of_ble_eq_true rfl) ?_
  show V _ _ _ _ _ _ _ _ [_, _, _, _, _, _, _, _, _, _, _, _] _
  refine V_lload F dX1_touches_35 rfl ?_
  refine V_aload_n F dX1_touches_37 rfl ?_
  refine V_iload_n F dX1_touches_38 rfl ?_
  refine V_iconst F dX1_touches_39 ki_2 ?_
  refine V_ivR F iv_X1_21 dX1_touches_40 (As := [_, _]) (c_X1_told h0 h1 hi (w := 2) (by omega)) (by assumption) rfl rfl rfl rfl ?_
  refine V_lmul F dX1_touches_43 ?_
  refine V_lload F dX1_touches_44 rfl ?_
  refine V_aload_n F dX1_touches_46 rfl ?_
  refine V_iload_n F dX1_touches_47 rfl ?_
  refine V_iconst F dX1_touches_48 ki_2 ?_
  refine V_ivR F iv_X1_21 dX1_touches_49 (As := [_, _]) (c_X1_told g0 g1 hj (w := 2) (by omega)) (by assumption) rfl rfl rfl rfl ?_
  refine V_lmul F dX1_touches_52 ?_
  refine V_lsub F dX1_touches_53 ?_
  refine V_lstore F dX1_touches_54 (Nat.le_of_ble_eq_true rfl) ?_
  show V _ _ _ _ _ _ _ _ [_, _, _, _, _, _, _, _, _, _, _, _] _
  refine V_lload F dX1_touches_56 rfl ?_
  refine V_lload F dX1_touches_58 rfl ?_
  refine V_lmul F dX1_touches_60 ?_
  refine V_lload F dX1_touches_61 rfl ?_
  refine V_lload F dX1_touches_63 rfl ?_
  refine V_lmul F dX1_touches_65 ?_
  refine V_ladd F dX1_touches_66 ?_
  refine V_lload F dX1_touches_67 rfl ?_
  refine V_lload F dX1_touches_69 rfl ?_
  refine V_ladd F dX1_touches_71 ?_
  refine V_lload F dX1_touches_72 rfl ?_
  refine V_lload F dX1_touches_74 rfl ?_
  refine V_ladd F dX1_touches_76 ?_
  refine V_lmul F dX1_touches_77 ?_
  refine V_lcmp F dX1_touches_78 ?_
  refine V_if_ne F 86 dX1_touches_79 (by decide) (fun c79 => ?_) (fun c79 => ?_)
  · rw [lcmp_eq] at c79
    refine V_iconst F dX1_touches_86 ki_0 ?_
    exact V_iret F rfl dX1_touches_87 rfl ⟨rf (by simpa [tch, tchf] using c79), rfl, rfl⟩
  · rw [lcmp_eq] at c79
    refine V_iconst F dX1_touches_82 ki_1 ?_
    refine V_goto F 87 dX1_touches_83 (by decide) ?_
    exact V_iret F rfl dX1_touches_87 rfl ⟨rt (by simpa [tch, tchf] using c79), rfl, rfl⟩
theorem c_X1_timesOf (h0 : M a = some (eO 1 [.ref r])) (h1 : M r = some (eJ (gT G) 12 (fc c))) (x : Int64) : Con G yX1_timesOf cX1_timesOf 5 (some .int) 1 0 0 [.ref a, .long x] M n (R1 (some (.int (nI (tms c x 4)))) M n) := by
  refine Con.of (by decide +kernel) (Nat.le_of_ble_eq_true rfl) (fun X F hnm => ?_)
  show V G X 0 0 _ M _ 0 [some (.ref a), some (.long x), none, none, none] []
  have step : ∀ k : Nat, k < 4 → V G X 0 0 (BQ G X (R1 (some (.int (nI (tms c x 4)))) M n) 0 0) M n 5 [some (.ref a), some (.long x), none, some (.int (nI (tms c x (k + 1)))), some (.int (nI (k + 1)))] [] → V G X 0 0 (BQ G X (R1 (some (.int (nI (tms c x 4)))) M n) 0 0) M n 5 [some (.ref a), some (.long x), none, some (.int (nI (tms c x k))), some (.int (nI k))] [] := by
    intro k hk kk
    rw [show tms c x (k + 1) = tms c x k + (if c k 0 = x then 1 else 0) from rfl] at kk
    refine V_iload F dX1_timesOf_5 rfl ?_
    refine V_iconst F dX1_timesOf_7 ki_4 ?_
    refine V_icmp_ge F 31 dX1_timesOf_8 (by decide) (fun c8 => absurd c8 (nI_ge hk (by omega))) (fun c8 => ?_)
    refine V_aload_n F dX1_timesOf_11 rfl ?_
    refine V_iload F dX1_timesOf_12 rfl ?_
    refine V_ivR F iv_X1_36 dX1_timesOf_14 (As := [_]) (c_X1_bend h0 h1 hk) (by assumption) rfl rfl rfl rfl ?_
    refine V_lload_n F dX1_timesOf_17 rfl ?_
    refine V_lcmp F dX1_timesOf_18 ?_
    refine V_if_ne F 25 dX1_timesOf_19 (by decide) (fun c19 => ?_) (fun c19 => ?_)
    · rw [lcmp_eq] at c19
      rw [if_neg c19] at kk
      refine V_iinc1 F dX1_timesOf_25 rfl ?_
      show V _ _ _ _ _ _ _ _ [_, _, _, _, _] _
      refine V_goto F 5 dX1_timesOf_28 (by decide) ?_
      exact kk
    · rw [lcmp_eq] at c19
      rw [if_pos c19] at kk
      refine V_iinc1 F dX1_timesOf_22 rfl ?_
      show V _ _ _ _ _ _ _ _ [_, _, _, _, _] _
      refine V_iinc1 F dX1_timesOf_25 rfl ?_
      show V _ _ _ _ _ _ _ _ [_, _, _, _, _] _
      refine V_goto F 5 dX1_timesOf_28 (by decide) ?_
      exact kk
  refine V_iconst F dX1_timesOf_0 ki_0 ?_
  refine V_istore_n F dX1_timesOf_1 (Nat.le_of_ble_eq_true rfl) ?_
  show V _ _ _ _ _ _ _ _ [_, _, _, _, _] _
  refine V_iconst F dX1_timesOf_2 ki_0 ?_
  refine V_istore F dX1_timesOf_3 (Nat.le_of_ble_eq_true rfl) ?_
  show V _ _ _ _ _ _ _ _ [_, _, _, _, _] _
  refine step 0 (by omega) (step 1 (by omega) (step 2 (by omega) (step 3 (by omega) ?_)))
  refine V_iload F dX1_timesOf_5 rfl ?_
  refine V_iconst F dX1_timesOf_7 ki_4 ?_
  refine V_icmp_ge F 31 dX1_timesOf_8 (by decide) (fun c8 => ?_) (fun c8 => absurd (by decide) c8)
  refine V_iload_n F dX1_timesOf_31 rfl ?_
  exact V_iret F rfl dX1_timesOf_32 rfl ⟨rfl, rfl, rfl⟩
theorem c_X1_hasBendsOf {b q : Nat} {c2 : Qd} (h0 : M a = some (eO 1 [.ref r])) (h1 : M r = some (eJ (gT G) 12 (fc c))) (g0 : M b = some (eO 1 [.ref q])) (g1 : M q = some (eJ (gT G) 12 (fc c2))) : Con G yX1_hasBendsOf cX1_hasBendsOf 3 (some .boolean) 2 0 0 [.ref a, .ref b] M n (R1 (some (.int (bI (hbo c c2 4)))) M n) := by
  refine Con.of (by decide +kernel) (Nat.le_of_ble_eq_true rfl) (fun X F hnm => ?_)
  show V G X 0 0 _ M _ 0 [some (.ref a), some (.ref b), none] []
  have step : ∀ k : Nat, k < 4 → hbo c c2 k = true → (∀ j, j ≤ 4 → hbo c c2 j = false → hbo c c2 4 = false) → (hbo c c2 (k + 1) = true → V G X 0 0 (BQ G X (R1 (some (.int (bI (hbo c c2 4)))) M n) 0 0) M n 2 [some (.ref a), some (.ref b), some (.int (nI (k + 1)))] []) → V G X 0 0 (BQ G X (R1 (some (.int (bI (hbo c c2 4)))) M n) 0 0) M n 2 [some (.ref a), some (.ref b), some (.int (nI k))] [] := by
    intro k hk hb hmo kk
    have t1 := tms_le c (c k 0) 4
    have t2 := tms_le c2 (c k 0) 4
    refine V_iload_n F dX1_hasBendsOf_2 rfl ?_
    refine V_iconst F dX1_hasBendsOf_3 ki_4 ?_
    refine V_icmp_ge F 36 dX1_hasBendsOf_4 (by decide) (fun c4 => absurd c4 (nI_ge hk (by omega))) (fun c4 => ?_)
    refine V_aload_n F dX1_hasBendsOf_7 rfl ?_
    refine V_aload_n F dX1_hasBendsOf_8 rfl ?_
    refine V_iload_n F dX1_hasBendsOf_9 rfl ?_
    refine V_ivR F iv_X1_36 dX1_hasBendsOf_10 (As := [_]) (c_X1_bend h0 h1 hk) (by assumption) rfl rfl rfl rfl ?_
    refine V_ivR F iv_X1_55 dX1_hasBendsOf_13 (As := [_]) (c_X1_timesOf h0 h1 _) (by assumption) rfl rfl rfl rfl ?_
    refine V_aload_n F dX1_hasBendsOf_16 rfl ?_
    refine V_aload_n F dX1_hasBendsOf_17 rfl ?_
    refine V_iload_n F dX1_hasBendsOf_18 rfl ?_
    refine V_ivR F iv_X1_36 dX1_hasBendsOf_19 (As := [_]) (c_X1_bend h0 h1 hk) (by assumption) rfl rfl rfl rfl ?_
    refine V_ivR F iv_X1_55 dX1_hasBendsOf_22 (As := [_]) (c_X1_timesOf g0 g1 _) (by assumption) rfl rfl rfl rfl ?_
    refine V_icmp_eq F 30 dX1_hasBendsOf_25 (by decide) (fun c25 => ?_) (fun c25 => ?_)
    · rw [nI_eq (by omega) (by omega)] at c25
      refine V_iinc1 F dX1_hasBendsOf_30 rfl ?_
      show V _ _ _ _ _ _ _ _ [_, _, _] _
      refine V_goto F 2 dX1_hasBendsOf_33 (by decide) ?_
      exact kk (by unfold hbo; rw [hb, c25]; simp)
    · rw [nI_eq (by omega) (by omega)] at c25
      refine V_iconst F dX1_hasBendsOf_28 ki_0 ?_
      exact V_iret F rfl dX1_hasBendsOf_29 rfl ⟨rf (hmo (k + 1) (by omega) (by unfold hbo; simp [c25])), rfl, rfl⟩
  have hmo : ∀ j, j ≤ 4 → hbo c c2 j = false → hbo c c2 4 = false := by
    intro j hj h
    match j, hj with
    | 0, _ => cases h
    | 1, _ => simp [hbo] at h ⊢; intro z; exact absurd z h
    | 2, _ => simp only [hbo] at h ⊢; rw [h]; rfl
    | 3, _ => simp only [hbo] at h ⊢; rw [h]; rfl
    | 4, _ => exact h
  refine V_iconst F dX1_hasBendsOf_0 ki_0 ?_
  refine V_istore_n F dX1_hasBendsOf_1 (Nat.le_of_ble_eq_true rfl) ?_
  show V _ _ _ _ _ _ _ _ [_, _, _] _
  refine step 0 (by omega) rfl hmo (fun q1 => step 1 (by omega) q1 hmo (fun q2 => step 2 (by omega) q2 hmo (fun q3 => step 3 (by omega) q3 hmo (fun q4 => ?_))))
  refine V_iload_n F dX1_hasBendsOf_2 rfl ?_
  refine V_iconst F dX1_hasBendsOf_3 ki_4 ?_
  refine V_icmp_ge F 36 dX1_hasBendsOf_4 (by decide) (fun c4 => ?_) (fun c4 => absurd (by decide) c4)
  refine V_iconst F dX1_hasBendsOf_36 ki_1 ?_
  exact V_iret F rfl dX1_hasBendsOf_37 rfl ⟨rt q4, rfl, rfl⟩
theorem c_X1_goDown : ∀ (m : Nat) (hm : m < 2 ^ 31) (M : Mem) (c : Qd) (h0 : M a = some (eO 1 [.ref r])) (h1 : M r = some (eJ (gT G) 12 (fc c))), Con G yX1_goDown cX1_goDown 4 (some .int) 4 0 0 [.ref a, .int (nI m)] M n (R1 (some (.int (nI (gd m c).1))) (mset M r (eJ (gT G) 12 (fc (gd m c).2))) n) := by
  intro m hm M c h0 h1
  refine Con.of (by decide +kernel) (Nat.le_of_ble_eq_true rfl) (fun X F hnm => ?_)
  show V G X 0 0 _ M _ 0 [some (.ref a), some (.int (nI m)), none, none] []
  have loop : ∀ (q k : Nat) (M' : Mem) (c' : Qd), q + k = m → M' a = some (eO 1 [.ref r]) → M' r = some (eJ (gT G) 12 (fc c')) → V G X 0 0 (BQ G X (R1 (some (.int (nI (k + (gd q c').1)))) (mset M' r (eJ (gT G) 12 (fc (gd q c').2))) n) 0 0) M' n 2 [some (.ref a), some (.int (nI m)), some (.int (nI k)), none] [] := by
    intro q
    induction q with
    | zero =>
      intro k M' c' hk h0 h1
      have hk : k = m := by omega
      subst hk
      refine V_iload_n F dX1_goDown_2 rfl ?_
      refine V_iload_n F dX1_goDown_3 rfl ?_
      refine V_icmp_ge F 40 dX1_goDown_4 (by decide) (fun c4 => ?_) (fun c4 => absurd (nI_le (by omega) (by omega)) c4)
      refine V_iload_n F dX1_goDown_40 rfl ?_
      exact V_iret F rfl dX1_goDown_41 rfl ⟨rfl, (mset_self h1).symm, rfl⟩
    | succ q ih =>
      intro k M' c' hk h0 h1
      have hg := grt_lt c'
      have har := ne_oj h0 h1
      unfold gd
      refine V_iload_n F dX1_goDown_2 rfl ?_
      refine V_iload_n F dX1_goDown_3 rfl ?_
      refine V_icmp_ge F 40 dX1_goDown_4 (by decide) (fun c4 => absurd c4 (nI_ge (by omega) (by omega))) (fun c4 => ?_)
      refine V_aload_n F dX1_goDown_7 rfl ?_
      refine V_ivR F iv_X1_39 dX1_goDown_8 (As := []) (c_X1_greatest h0 h1) (by assumption) rfl rfl rfl rfl ?_
      refine V_istore_n F dX1_goDown_11 (Nat.le_of_ble_eq_true rfl) ?_
      show V _ _ _ _ _ _ _ _ [_, _, _, _] _
      refine V_aload_n F dX1_goDown_12 rfl ?_
      refine V_iload_n F dX1_goDown_13 rfl ?_
      refine V_iconst F dX1_goDown_14 ki_0 ?_
      refine V_ivR F iv_X1_33 dX1_goDown_15 (As := [_, _]) (c_X1_turned h0 h1 hg (w := 0) (by omega)) (by assumption) rfl rfl rfl rfl ?_
      refine V_aload_n F dX1_goDown_18 rfl ?_
      refine V_iload_n F dX1_goDown_19 rfl ?_
      refine V_ivR F iv_X1_36 dX1_goDown_20 (As := [_]) (c_X1_bend h0 h1 hg) (by assumption) rfl rfl rfl rfl ?_
      refine V_lcmp F dX1_goDown_23 ?_
      refine V_if_lt F 29 dX1_goDown_24 (by decide) (fun c24 => ?_) (fun c24 => ?_)
      · rw [lcmp_lt] at c24
        rw [if_pos c24]
        refine V_aload_n F dX1_goDown_29 rfl ?_
        refine V_iload_n F dX1_goDown_30 rfl ?_
        refine V_ivR F iv_X1_43 dX1_goDown_31 (As := [_]) (c_X1_turn h0 h1 hg) (by assumption) rfl rfl rfl rfl ?_
        refine V_iinc1 F dX1_goDown_34 rfl ?_
        show V _ _ _ _ _ _ _ _ [_, _, _, _] _
        refine V_goto F 2 dX1_goDown_37 (by decide) ?_
        refine V_drop 3 ?_
        have := ih (k + 1) (mset M' r (eJ (gT G) 12 (fc (turnc c' (grt c'))))) (turnc c' (grt c')) (by omega) ((mset_ne _ _ har).trans h0) (mset_eq _ _ _)
        rw [mset_mset, show k + 1 + (gd q (turnc c' (grt c'))).1 = k + ((gd q (turnc c' (grt c'))).1 + 1) by omega] at this
        exact this
      · rw [lcmp_lt] at c24
        rw [if_neg c24]
        refine V_iload_n F dX1_goDown_27 rfl ?_
        exact V_iret F rfl dX1_goDown_28 rfl ⟨rfl, (mset_self h1).symm, rfl⟩
  refine V_iconst F dX1_goDown_0 ki_0 ?_
  refine V_istore_n F dX1_goDown_1 (Nat.le_of_ble_eq_true rfl) ?_
  show V _ _ _ _ _ _ _ _ [_, _, _, _] _
  have := loop m 0 M c (by omega) h0 h1
  rw [Nat.zero_add] at this
  exact this
theorem c_X1_doBendsStand (h0 : M a = some (eO 1 [.ref r])) (h1 : M r = some (eJ (gT G) 12 (fc c))) : Con G yX1_doBendsStand cX1_doBendsStand 5 (some .boolean) 2 0 0 [.ref a] M n (R1 (some (.int (bI (bst c)))) M n) := by
  refine Con.of (by decide +kernel) (Nat.le_of_ble_eq_true rfl) (fun X F hnm => ?_)
  show V G X 0 0 _ M _ 0 [some (.ref a), none, none, none, none] []
  have step : ∀ k : Nat, k < 4 → V G X 0 0 (BQ G X (R1 (some (.int (bI (bst c)))) M n) 0 0) M n 4 [some (.ref a), some (.long (sqs c (k + 1))), none, some (.int (nI (k + 1))), none] [] → V G X 0 0 (BQ G X (R1 (some (.int (bI (bst c)))) M n) 0 0) M n 4 [some (.ref a), some (.long (sqs c k)), none, some (.int (nI k)), none] [] := by
    intro k hk kk
    refine V_iload_n F dX1_doBendsStand_4 rfl ?_
    refine V_iconst F dX1_doBendsStand_5 ki_4 ?_
    refine V_icmp_ge F 29 dX1_doBendsStand_6 (by decide) (fun c6 => absurd c6 (nI_ge hk (by omega))) (fun c6 => ?_)
    refine V_lload_n F dX1_doBendsStand_9 rfl ?_
    refine V_aload_n F dX1_doBendsStand_10 rfl ?_
    refine V_iload_n F dX1_doBendsStand_11 rfl ?_
    refine V_ivR F iv_X1_36 dX1_doBendsStand_12 (As := [_]) (c_X1_bend h0 h1 hk) (by assumption) rfl rfl rfl rfl ?_
    refine V_aload_n F dX1_doBendsStand_15 rfl ?_
    refine V_iload_n F dX1_doBendsStand_16 rfl ?_
    refine V_ivR F iv_X1_36 dX1_doBendsStand_17 (As := [_]) (c_X1_bend h0 h1 hk) (by assumption) rfl rfl rfl rfl ?_
    refine V_lmul F dX1_doBendsStand_20 ?_
    refine V_ladd F dX1_doBendsStand_21 ?_
    refine V_lstore_n F dX1_doBendsStand_22 (Nat.le_of_ble_eq_true rfl) ?_
    show V _ _ _ _ _ _ _ _ [_, _, _, _, _] _
    refine V_iinc1 F dX1_doBendsStand_23 rfl ?_
    show V _ _ _ _ _ _ _ _ [_, _, _, _, _] _
    refine V_goto F 4 dX1_doBendsStand_26 (by decide) ?_
    exact kk
  refine V_lconst F dX1_doBendsStand_0 (v := 0) (by decide) ?_
  refine V_lstore_n F dX1_doBendsStand_1 (Nat.le_of_ble_eq_true rfl) ?_
  show V _ _ _ _ _ _ _ _ [_, _, _, _, _] _
  refine V_iconst F dX1_doBendsStand_2 ki_0 ?_
  refine V_istore_n F dX1_doBendsStand_3 (Nat.le_of_ble_eq_true rfl) ?_
  show V _ _ _ _ _ _ _ _ [_, _, _, _, _] _
  refine step 0 (by omega) (step 1 (by omega) (step 2 (by omega) (step 3 (by omega) ?_)))
  refine V_iload_n F dX1_doBendsStand_4 rfl ?_
  refine V_iconst F dX1_doBendsStand_5 ki_4 ?_
  refine V_icmp_ge F 29 dX1_doBendsStand_6 (by decide) (fun c6 => ?_) (fun c6 => absurd (by decide) c6)
  refine V_aload_n F dX1_doBendsStand_29 rfl ?_
  refine V_iconst F dX1_doBendsStand_30 ki_0 ?_
  refine V_ivR F iv_X1_27 dX1_doBendsStand_31 (As := [_]) (c_X1_sum h0 h1 (w := 0) (by omega)) (by assumption) rfl rfl rfl rfl ?_
  refine V_lstore_n F dX1_doBendsStand_34 (Nat.le_of_ble_eq_true rfl) ?_
  show V _ _ _ _ _ _ _ _ [_, _, _, _, _] _
  refine V_lload_n F dX1_doBendsStand_35 rfl ?_
  refine V_lconst F dX1_doBendsStand_36 (v := 0) (by decide) ?_
  refine V_lcmp F dX1_doBendsStand_37 ?_
  refine V_if_le F 57 dX1_doBendsStand_38 (by decide) (fun c38 => ?_) (fun c38 => ?_)
  · rw [lcmp_le] at c38
    refine V_iconst F dX1_doBendsStand_57 ki_0 ?_
    exact V_iret F rfl dX1_doBendsStand_58 rfl ⟨rf (by simp only [bst, Bool.and_eq_false_iff]; exact Or.inl (decide_eq_false (by rw [Int64.not_lt]; exact c38))), rfl, rfl⟩
  · rw [lcmp_le] at c38
    refine V_ldc2 F dX1_doBendsStand_41 kl_X1_25 ?_
    refine V_lload_n F dX1_doBendsStand_44 rfl ?_
    refine V_lmul F dX1_doBendsStand_45 ?_
    refine V_lload_n F dX1_doBendsStand_46 rfl ?_
    refine V_lload_n F dX1_doBendsStand_47 rfl ?_
    refine V_lmul F dX1_doBendsStand_48 ?_
    refine V_lcmp F dX1_doBendsStand_49 ?_
    refine V_if_ne F 57 dX1_doBendsStand_50 (by decide) (fun c50 => ?_) (fun c50 => ?_)
    · rw [lcmp_eq] at c50
      refine V_iconst F dX1_doBendsStand_57 ki_0 ?_
      exact V_iret F rfl dX1_doBendsStand_58 rfl ⟨rf (by simp only [bst, Bool.and_eq_false_iff]; exact Or.inr (by simpa using c50)), rfl, rfl⟩
    · rw [lcmp_eq] at c50
      refine V_iconst F dX1_doBendsStand_53 ki_1 ?_
      refine V_goto F 58 dX1_doBendsStand_54 (by decide) ?_
      exact V_iret F rfl dX1_doBendsStand_58 rfl ⟨rt (by simp only [bst, Bool.and_eq_true]; exact ⟨decide_eq_true (Int64.not_le.mp c38), by simpa using c50⟩), rfl, rfl⟩
theorem c_X1_bendsBelowZero (h0 : M a = some (eO 1 [.ref r])) (h1 : M r = some (eJ (gT G) 12 (fc c))) : Con G yX1_bendsBelowZero cX1_bendsBelowZero 3 (some .int) 1 0 0 [.ref a] M n (R1 (some (.int (nI (nng c 4)))) M n) := by
  refine Con.of (by decide +kernel) (Nat.le_of_ble_eq_true rfl) (fun X F hnm => ?_)
  show V G X 0 0 _ M _ 0 [some (.ref a), none, none] []
  have step : ∀ k : Nat, k < 4 → V G X 0 0 (BQ G X (R1 (some (.int (nI (nng c 4)))) M n) 0 0) M n 4 [some (.ref a), some (.int (nI (nng c (k + 1)))), some (.int (nI (k + 1)))] [] → V G X 0 0 (BQ G X (R1 (some (.int (nI (nng c 4)))) M n) 0 0) M n 4 [some (.ref a), some (.int (nI (nng c k))), some (.int (nI k))] [] := by
    intro k hk kk
    rw [show nng c (k + 1) = nng c k + (if c k 0 < 0 then 1 else 0) from rfl] at kk
    refine V_iload_n F dX1_bendsBelowZero_4 rfl ?_
    refine V_iconst F dX1_bendsBelowZero_5 ki_4 ?_
    refine V_icmp_ge F 28 dX1_bendsBelowZero_6 (by decide) (fun c6 => absurd c6 (nI_ge hk (by omega))) (fun c6 => ?_)
    refine V_aload_n F dX1_bendsBelowZero_9 rfl ?_
    refine V_iload_n F dX1_bendsBelowZero_10 rfl ?_
    refine V_ivR F iv_X1_36 dX1_bendsBelowZero_11 (As := [_]) (c_X1_bend h0 h1 hk) (by assumption) rfl rfl rfl rfl ?_
    refine V_lconst F dX1_bendsBelowZero_14 (v := 0) (by decide) ?_
    refine V_lcmp F dX1_bendsBelowZero_15 ?_
    refine V_if_ge F 22 dX1_bendsBelowZero_16 (by decide) (fun c16 => ?_) (fun c16 => ?_)
    · rw [lcmp_ge] at c16
      rw [if_neg (by rw [Int64.not_lt]; exact c16)] at kk
      refine V_iinc1 F dX1_bendsBelowZero_22 rfl ?_
      show V _ _ _ _ _ _ _ _ [_, _, _] _
      refine V_goto F 4 dX1_bendsBelowZero_25 (by decide) ?_
      exact kk
    · rw [lcmp_ge] at c16
      rw [if_pos (Int64.not_le.mp c16)] at kk
      refine V_iinc1 F dX1_bendsBelowZero_19 rfl ?_
      show V _ _ _ _ _ _ _ _ [_, _, _] _
      refine V_iinc1 F dX1_bendsBelowZero_22 rfl ?_
      show V _ _ _ _ _ _ _ _ [_, _, _] _
      refine V_goto F 4 dX1_bendsBelowZero_25 (by decide) ?_
      exact kk
  refine V_iconst F dX1_bendsBelowZero_0 ki_0 ?_
  refine V_istore_n F dX1_bendsBelowZero_1 (Nat.le_of_ble_eq_true rfl) ?_
  show V _ _ _ _ _ _ _ _ [_, _, _] _
  refine V_iconst F dX1_bendsBelowZero_2 ki_0 ?_
  refine V_istore_n F dX1_bendsBelowZero_3 (Nat.le_of_ble_eq_true rfl) ?_
  show V _ _ _ _ _ _ _ _ [_, _, _] _
  refine step 0 (by omega) (step 1 (by omega) (step 2 (by omega) (step 3 (by omega) ?_)))
  refine V_iload_n F dX1_bendsBelowZero_4 rfl ?_
  refine V_iconst F dX1_bendsBelowZero_5 ki_4 ?_
  refine V_icmp_ge F 28 dX1_bendsBelowZero_6 (by decide) (fun c6 => ?_) (fun c6 => absurd (by decide) c6)
  refine V_iload_n F dX1_bendsBelowZero_28 rfl ?_
  exact V_iret F rfl dX1_bendsBelowZero_29 rfl ⟨rfl, rfl, rfl⟩
theorem c_X1_divisorOfBends (h0 : M a = some (eO 1 [.ref r])) (h1 : M r = some (eJ (gT G) 12 (fc c))) : Con G yX1_divisorOfBends cX1_divisorOfBends 9 (some .long) 1 0 0 [.ref a] M n (R1 (some (.long (dvs c 4))) M n) := by
  refine Con.of (by decide +kernel) (Nat.le_of_ble_eq_true rfl) (fun X F hnm => ?_)
  show V G X 0 0 _ M _ 0 [some (.ref a), none, none, none, none, none, none, none, none] []
  have inner : ∀ (m k i : Nat) (dd rr : Int64), m + k = 100 → V G X 0 0 (BQ G X (R1 (some (.long (dvs c 4))) M n) 0 0) M n 55 [some (.ref a), some (.long (euc m dd rr)), none, some (.int (nI i)), none, none, none, none, none] [] → V G X 0 0 (BQ G X (R1 (some (.long (dvs c 4))) M n) 0 0) M n 22 [some (.ref a), some (.long dd), none, some (.int (nI i)), some (.long rr), none, some (.int (nI k)), none, none] [] := by
    intro m
    induction m with
    | zero =>
      intro k i dd rr hk kk
      have hk : k = 100 := by omega
      subst hk
      refine V_iload F dX1_divisorOfBends_22 rfl ?_
      refine V_bipush F dX1_divisorOfBends_24 kb_100 ?_
      refine V_icmp_ge F 55 dX1_divisorOfBends_26 (by decide) (fun c26 => ?_) (fun c26 => absurd (by decide) c26)
      exact V_drop 4 (V_drop 6 kk)
    | succ m ih =>
      intro k i dd rr hk kk
      unfold euc at kk
      refine V_iload F dX1_divisorOfBends_22 rfl ?_
      refine V_bipush F dX1_divisorOfBends_24 kb_100 ?_
      refine V_icmp_ge F 55 dX1_divisorOfBends_26 (by decide) (fun c26 => absurd c26 (nI_ge (by omega) (by omega))) (fun c26 => ?_)
      refine V_lload F dX1_divisorOfBends_29 rfl ?_
      refine V_lconst F dX1_divisorOfBends_31 (v := 0) (by decide) ?_
      refine V_lcmp F dX1_divisorOfBends_32 ?_
      refine V_if_eq F 55 dX1_divisorOfBends_33 (by decide) (fun c33 => ?_) (fun c33 => ?_)
      · rw [lcmp_eq] at c33
        rw [if_pos c33] at kk
        exact V_drop 4 (V_drop 6 kk)
      · rw [lcmp_eq] at c33
        rw [if_neg c33] at kk
        refine V_lload_n F dX1_divisorOfBends_36 rfl ?_
        refine V_lload F dX1_divisorOfBends_37 rfl ?_
        refine V_lrem F dX1_divisorOfBends_39 c33 ?_
        refine V_lstore F dX1_divisorOfBends_40 (Nat.le_of_ble_eq_true rfl) ?_
        show V _ _ _ _ _ _ _ _ [_, _, _, _, _, _, _, _, _] _
        refine V_lload F dX1_divisorOfBends_42 rfl ?_
        refine V_lstore_n F dX1_divisorOfBends_44 (Nat.le_of_ble_eq_true rfl) ?_
        show V _ _ _ _ _ _ _ _ [_, _, _, _, _, _, _, _, _] _
        refine V_lload F dX1_divisorOfBends_45 rfl ?_
        refine V_lstore F dX1_divisorOfBends_47 (Nat.le_of_ble_eq_true rfl) ?_
        show V _ _ _ _ _ _ _ _ [_, _, _, _, _, _, _, _, _] _
        refine V_iinc1 F dX1_divisorOfBends_49 rfl ?_
        show V _ _ _ _ _ _ _ _ [_, _, _, _, _, _, _, _, _] _
        refine V_goto F 22 dX1_divisorOfBends_52 (by decide) ?_
        exact V_drop 7 (ih (k + 1) i rr (dd - dd / rr * rr) (by omega) kk)
  have step : ∀ k : Nat, k < 4 → V G X 0 0 (BQ G X (R1 (some (.long (dvs c 4))) M n) 0 0) M n 4 [some (.ref a), some (.long (dvs c (k + 1))), none, some (.int (nI (k + 1))), none, none, none, none, none] [] → V G X 0 0 (BQ G X (R1 (some (.long (dvs c 4))) M n) 0 0) M n 4 [some (.ref a), some (.long (dvs c k)), none, some (.int (nI k)), none, none, none, none, none] [] := by
    intro k hk kk
    refine V_iload_n F dX1_divisorOfBends_4 rfl ?_
    refine V_iconst F dX1_divisorOfBends_5 ki_4 ?_
    refine V_icmp_ge F 61 dX1_divisorOfBends_6 (by decide) (fun c6 => absurd c6 (nI_ge hk (by omega))) (fun c6 => ?_)
    refine V_aload_n F dX1_divisorOfBends_9 rfl ?_
    refine V_iload_n F dX1_divisorOfBends_10 rfl ?_
    refine V_ivR F iv_X1_36 dX1_divisorOfBends_11 (As := [_]) (c_X1_bend h0 h1 hk) (by assumption) rfl rfl rfl rfl ?_
    refine V_isR F is_X1_91 dX1_divisorOfBends_14 (As := [_]) (c_J9_abs_067f4 _) rfl rfl rfl ?_
    refine V_lstore F dX1_divisorOfBends_17 (Nat.le_of_ble_eq_true rfl) ?_
    show V _ _ _ _ _ _ _ _ [_, _, _, _, _, _, _, _, _] _
    refine V_iconst F dX1_divisorOfBends_19 ki_0 ?_
    refine V_istore F dX1_divisorOfBends_20 (Nat.le_of_ble_eq_true rfl) ?_
    show V _ _ _ _ _ _ _ _ [_, _, _, _, _, _, _, _, _] _
    refine inner 100 0 k _ _ rfl ?_
    refine V_iinc1 F dX1_divisorOfBends_55 rfl ?_
    show V _ _ _ _ _ _ _ _ [_, _, _, _, _, _, _, _, _] _
    refine V_goto F 4 dX1_divisorOfBends_58 (by decide) ?_
    exact kk
  refine V_lconst F dX1_divisorOfBends_0 (v := 0) (by decide) ?_
  refine V_lstore_n F dX1_divisorOfBends_1 (Nat.le_of_ble_eq_true rfl) ?_
  show V _ _ _ _ _ _ _ _ [_, _, _, _, _, _, _, _, _] _
  refine V_iconst F dX1_divisorOfBends_2 ki_0 ?_
  refine V_istore_n F dX1_divisorOfBends_3 (Nat.le_of_ble_eq_true rfl) ?_
  show V _ _ _ _ _ _ _ _ [_, _, _, _, _, _, _, _, _] _
  refine step 0 (by omega) (step 1 (by omega) (step 2 (by omega) (step 3 (by omega) ?_)))
  refine V_iload_n F dX1_divisorOfBends_4 rfl ?_
  refine V_iconst F dX1_divisorOfBends_5 ki_4 ?_
  refine V_icmp_ge F 61 dX1_divisorOfBends_6 (by decide) (fun c6 => ?_) (fun c6 => absurd (by decide) c6)
  refine V_lload_n F dX1_divisorOfBends_61 rfl ?_
  exact V_lret F rfl dX1_divisorOfBends_62 ⟨rfl, rfl, rfl⟩
def tall (c : Qd) : Bool := tch c 0 c 1 && (tch c 0 c 2 && (tch c 0 c 3 && (tch c 1 c 2 && (tch c 1 c 3 && tch c 2 c 3))))
theorem c_X1_doAllTouch (h0 : M a = some (eO 1 [.ref r])) (h1 : M r = some (eJ (gT G) 12 (fc c))) : Con G yX1_doAllTouch cX1_doAllTouch 3 (some .boolean) 2 0 0 [.ref a] M n (R1 (some (.int (bI (tall c)))) M n) := by
  refine Con.of (by decide +kernel) (Nat.le_of_ble_eq_true rfl) (fun X F hnm => ?_)
  show V G X 0 0 _ M _ 0 [some (.ref a), none, none] []
  have inner : ∀ i j : Nat, i < 4 → j < 4 → (tch c i c j = true → V G X 0 0 (BQ G X (R1 (some (.int (bI (tall c)))) M n) 0 0) M n 11 [some (.ref a), some (.int (nI i)), some (.int (nI (j + 1)))] []) → (tch c i c j = false → tall c = false) → V G X 0 0 (BQ G X (R1 (some (.int (bI (tall c)))) M n) 0 0) M n 11 [some (.ref a), some (.int (nI i)), some (.int (nI j))] [] := by
    intro i j hi hj kk kf
    refine V_iload_n F dX1_doAllTouch_11 rfl ?_
    refine V_iconst F dX1_doAllTouch_12 ki_4 ?_
    refine V_icmp_ge F 34 dX1_doAllTouch_13 (by decide) (fun c13 => absurd c13 (nI_ge hj (by omega))) (fun c13 => ?_)
    refine V_aload_n F dX1_doAllTouch_16 rfl ?_
    refine V_iload_n F dX1_doAllTouch_17 rfl ?_
    refine V_aload_n F dX1_doAllTouch_18 rfl ?_
    refine V_iload_n F dX1_doAllTouch_19 rfl ?_
    refine V_ivR F iv_X1_97 dX1_doAllTouch_20 (As := [_, _, _]) (c_X1_touches h0 h1 h0 h1 hi hj) (by assumption) rfl rfl rfl rfl ?_
    refine V_if_ne F 28 dX1_doAllTouch_23 (by decide) (fun c23 => ?_) (fun c23 => ?_)
    · rw [bI_n] at c23
      refine V_iinc1 F dX1_doAllTouch_28 rfl ?_
      show V _ _ _ _ _ _ _ _ [_, _, _] _
      refine V_goto F 11 dX1_doAllTouch_31 (by decide) ?_
      exact kk c23
    · rw [bI_0] at c23
      refine V_iconst F dX1_doAllTouch_26 ki_0 ?_
      exact V_iret F rfl dX1_doAllTouch_27 rfl ⟨rf (kf c23), rfl, rfl⟩
  have outer : ∀ i : Nat, i < 4 → V G X 0 0 (BQ G X (R1 (some (.int (bI (tall c)))) M n) 0 0) M n 11 [some (.ref a), some (.int (nI i)), some (.int (nI (i + 1)))] [] → V G X 0 0 (BQ G X (R1 (some (.int (bI (tall c)))) M n) 0 0) M n 2 [some (.ref a), some (.int (nI i)), none] [] := by
    intro i hi kk
    refine V_iload_n F dX1_doAllTouch_2 rfl ?_
    refine V_iconst F dX1_doAllTouch_3 ki_4 ?_
    refine V_icmp_ge F 40 dX1_doAllTouch_4 (by decide) (fun c4 => absurd c4 (nI_ge hi (by omega))) (fun c4 => ?_)
    refine V_iload_n F dX1_doAllTouch_7 rfl ?_
    refine V_iconst F dX1_doAllTouch_8 ki_1 ?_
    refine V_iadd F dX1_doAllTouch_9 ?_
    rw [nI_add]
    refine V_istore_n F dX1_doAllTouch_10 (Nat.le_of_ble_eq_true rfl) ?_
    show V _ _ _ _ _ _ _ _ [_, _, _] _
    exact kk
  have back : ∀ i : Nat, i < 4 → V G X 0 0 (BQ G X (R1 (some (.int (bI (tall c)))) M n) 0 0) M n 2 [some (.ref a), some (.int (nI (i + 1))), none] [] → V G X 0 0 (BQ G X (R1 (some (.int (bI (tall c)))) M n) 0 0) M n 11 [some (.ref a), some (.int (nI i)), some (.int (nI 4))] [] := by
    intro i hi kk
    refine V_iload_n F dX1_doAllTouch_11 rfl ?_
    refine V_iconst F dX1_doAllTouch_12 ki_4 ?_
    refine V_icmp_ge F 34 dX1_doAllTouch_13 (by decide) (fun c13 => ?_) (fun c13 => absurd (by decide) c13)
    refine V_iinc1 F dX1_doAllTouch_34 rfl ?_
    show V _ _ _ _ _ _ _ _ [_, _, _] _
    refine V_goto F 2 dX1_doAllTouch_37 (by decide) ?_
    exact V_drop 2 kk
  refine V_iconst F dX1_doAllTouch_0 ki_0 ?_
  refine V_istore_n F dX1_doAllTouch_1 (Nat.le_of_ble_eq_true rfl) ?_
  show V _ _ _ _ _ _ _ _ [_, _, _] _
  refine outer 0 (by omega) (inner 0 1 (by omega) (by omega) (fun q1 => inner 0 2 (by omega) (by omega) (fun q2 => inner 0 3 (by omega) (by omega) (fun q3 => back 0 (by omega) (outer 1 (by omega) (inner 1 2 (by omega) (by omega) (fun q4 => inner 1 3 (by omega) (by omega) (fun q5 => back 1 (by omega) (outer 2 (by omega) (inner 2 3 (by omega) (by omega) (fun q6 => back 2 (by omega) (outer 3 (by omega) (back 3 (by omega) ?_))) ?_))) ?_) ?_))) ?_) ?_) ?_)
  · refine V_iload_n F dX1_doAllTouch_2 rfl ?_
    refine V_iconst F dX1_doAllTouch_3 ki_4 ?_
    refine V_icmp_ge F 40 dX1_doAllTouch_4 (by decide) (fun c4 => ?_) (fun c4 => absurd (by decide) c4)
    refine V_iconst F dX1_doAllTouch_40 ki_1 ?_
    exact V_iret F rfl dX1_doAllTouch_41 rfl ⟨rt (by simp [tall, q1, q2, q3, q4, q5, q6]), rfl, rfl⟩
  · intro q; simp [tall, q]
  · intro q; simp [tall, q]
  · intro q; simp [tall, q]
  · intro q; simp [tall, q]
  · intro q; simp [tall, q]
  · intro q; simp [tall, q]
def bRefs (c : Qd) : Bool := bRef (c 0 0) || (bRef (c 1 0) || (bRef (c 2 0) || bRef (c 3 0)))
def plRs (c : Qd) : Bool := plR c 0 || (plR c 1 || (plR c 2 || plR c 3))
def rfs (c : Qd) : Int32 := if bRefs c then -15 else if plRs c then -16 else if bst c = false then -17 else if 1 < nng c 4 then -18 else if 1 < dvs c 4 then -19 else if tall c = false then -20 else nI 0
theorem c_X1_refusal (h0 : M a = some (eO 1 [.ref r])) (h1 : M r = some (eJ (gT G) 12 (fc c))) : Con G yX1_refusal cX1_refusal 2 (some .int) 3 0 0 [.ref a] M n (R1 (some (.int (rfs c))) M n) := by
  refine Con.of (by decide +kernel) (Nat.le_of_ble_eq_true rfl) (fun X F hnm => ?_)
  show V G X 0 0 _ M _ 0 [some (.ref a), none] []
  have s1 : ∀ i : Nat, i < 4 → (bRef (c i 0) = true → bRefs c = true) → (bRef (c i 0) = false → V G X 0 0 (BQ G X (R1 (some (.int (rfs c))) M n) 0 0) M n 2 [some (.ref a), some (.int (nI (i + 1)))] []) → V G X 0 0 (BQ G X (R1 (some (.int (rfs c))) M n) 0 0) M n 2 [some (.ref a), some (.int (nI i))] [] := by
    intro i hi kf kk
    refine V_iload_n F dX1_refusal_2 rfl ?_
    refine V_iconst F dX1_refusal_3 ki_4 ?_
    refine V_icmp_ge F 24 dX1_refusal_4 (by decide) (fun c4 => absurd c4 (nI_ge hi (by omega))) (fun c4 => ?_)
    refine V_aload_n F dX1_refusal_7 rfl ?_
    refine V_iload_n F dX1_refusal_8 rfl ?_
    refine V_ivR F iv_X1_59 dX1_refusal_9 (As := [_]) (c_X1_isBendRefused h0 h1 hi) (by assumption) rfl rfl rfl rfl ?_
    refine V_if_eq F 18 dX1_refusal_12 (by decide) (fun c12 => ?_) (fun c12 => ?_)
    · rw [bI_0] at c12
      refine V_iinc1 F dX1_refusal_18 rfl ?_
      show V _ _ _ _ _ _ _ _ [_, _] _
      refine V_goto F 2 dX1_refusal_21 (by decide) ?_
      exact kk c12
    · rw [bI_n] at c12
      refine V_bipush F dX1_refusal_15 kb_m15 ?_
      exact V_iret F rfl dX1_refusal_17 rfl ⟨by simp [rfs, kf c12], rfl, rfl⟩
  have s2 : ∀ i : Nat, i < 4 → bRefs c = false → (plR c i = true → plRs c = true) → (plR c i = false → V G X 0 0 (BQ G X (R1 (some (.int (rfs c))) M n) 0 0) M n 26 [some (.ref a), some (.int (nI (i + 1)))] []) → V G X 0 0 (BQ G X (R1 (some (.int (rfs c))) M n) 0 0) M n 26 [some (.ref a), some (.int (nI i))] [] := by
    intro i hi hb kf kk
    refine V_iload_n F dX1_refusal_26 rfl ?_
    refine V_iconst F dX1_refusal_27 ki_4 ?_
    refine V_icmp_ge F 48 dX1_refusal_28 (by decide) (fun c28 => absurd c28 (nI_ge hi (by omega))) (fun c28 => ?_)
    refine V_aload_n F dX1_refusal_31 rfl ?_
    refine V_iload_n F dX1_refusal_32 rfl ?_
    refine V_ivR F iv_X1_62 dX1_refusal_33 (As := [_]) (c_X1_isPlaceRefused h0 h1 hi) (by assumption) rfl rfl rfl rfl ?_
    refine V_if_eq F 42 dX1_refusal_36 (by decide) (fun c36 => ?_) (fun c36 => ?_)
    · rw [bI_0] at c36
      refine V_iinc1 F dX1_refusal_42 rfl ?_
      show V _ _ _ _ _ _ _ _ [_, _] _
      refine V_goto F 26 dX1_refusal_45 (by decide) ?_
      exact kk c36
    · rw [bI_n] at c36
      refine V_bipush F dX1_refusal_39 kb_m16 ?_
      exact V_iret F rfl dX1_refusal_41 rfl ⟨by simp [rfs, hb, kf c36], rfl, rfl⟩
  refine V_iconst F dX1_refusal_0 ki_0 ?_
  refine V_istore_n F dX1_refusal_1 (Nat.le_of_ble_eq_true rfl) ?_
  show V _ _ _ _ _ _ _ _ [_, _] _
  refine s1 0 (by omega) (fun q => by simp [bRefs, q]) (fun q0 => s1 1 (by omega) (fun q => by simp [bRefs, q]) (fun q1 => s1 2 (by omega) (fun q => by simp [bRefs, q]) (fun q2 => s1 3 (by omega) (fun q => by simp [bRefs, q]) (fun q3 => ?_))))
  have hb : bRefs c = false := by simp [bRefs, q0, q1, q2, q3]
  refine V_iload_n F dX1_refusal_2 rfl ?_
  refine V_iconst F dX1_refusal_3 ki_4 ?_
  refine V_icmp_ge F 24 dX1_refusal_4 (by decide) (fun c4 => ?_) (fun c4 => absurd (by decide) c4)
  refine V_iconst F dX1_refusal_24 ki_0 ?_
  refine V_istore_n F dX1_refusal_25 (Nat.le_of_ble_eq_true rfl) ?_
  show V _ _ _ _ _ _ _ _ [_, _] _
  refine s2 0 (by omega) hb (fun q => by simp [plRs, q]) (fun p0 => s2 1 (by omega) hb (fun q => by simp [plRs, q]) (fun p1 => s2 2 (by omega) hb (fun q => by simp [plRs, q]) (fun p2 => s2 3 (by omega) hb (fun q => by simp [plRs, q]) (fun p3 => ?_))))
  have hp : plRs c = false := by simp [plRs, p0, p1, p2, p3]
  have t1 := nng_le c 4
  refine V_iload_n F dX1_refusal_26 rfl ?_
  refine V_iconst F dX1_refusal_27 ki_4 ?_
  refine V_icmp_ge F 48 dX1_refusal_28 (by decide) (fun c28 => ?_) (fun c28 => absurd (by decide) c28)
  refine V_aload_n F dX1_refusal_48 rfl ?_
  refine V_ivR F iv_X1_77 dX1_refusal_49 (As := []) (c_X1_doBendsStand h0 h1) (by assumption) rfl rfl rfl rfl ?_
  refine V_if_ne F 58 dX1_refusal_52 (by decide) (fun c52 => ?_) (fun c52 => ?_)
  · rw [bI_n] at c52
    refine V_aload_n F dX1_refusal_58 rfl ?_
    refine V_ivR F iv_X1_81 dX1_refusal_59 (As := []) (c_X1_bendsBelowZero h0 h1) (by assumption) rfl rfl rfl rfl ?_
    refine V_iconst F dX1_refusal_62 ki_1 ?_
    refine V_icmp_le F 69 dX1_refusal_63 (by decide) (fun c63 => ?_) (fun c63 => ?_)
    · rw [nI_leI (by omega) (by omega)] at c63
      refine V_aload_n F dX1_refusal_69 rfl ?_
      refine V_ivR F iv_X1_84 dX1_refusal_70 (As := []) (c_X1_divisorOfBends h0 h1) (by assumption) rfl rfl rfl rfl ?_
      refine V_lconst F dX1_refusal_73 (v := 1) (by decide) ?_
      refine V_lcmp F dX1_refusal_74 ?_
      refine V_if_le F 81 dX1_refusal_75 (by decide) (fun c75 => ?_) (fun c75 => ?_)
      · rw [lcmp_le] at c75
        have c75' : ¬ 1 < dvs c 4 := by rw [Int64.not_lt]; exact c75
        refine V_aload_n F dX1_refusal_81 rfl ?_
        refine V_ivR F iv_X1_88 dX1_refusal_82 (As := []) (c_X1_doAllTouch h0 h1) (by assumption) rfl rfl rfl rfl ?_
        refine V_if_eq F 92 dX1_refusal_85 (by decide) (fun c85 => ?_) (fun c85 => ?_)
        · rw [bI_0] at c85
          refine V_bipush F dX1_refusal_92 kb_m20 ?_
          exact V_iret F rfl dX1_refusal_94 rfl ⟨by simp [rfs, hb, hp, c52, show ¬ 1 < nng c 4 by omega, c75', c85], rfl, rfl⟩
        · rw [bI_n] at c85
          refine V_iconst F dX1_refusal_88 ki_0 ?_
          refine V_goto F 94 dX1_refusal_89 (by decide) ?_
          exact V_iret F rfl dX1_refusal_94 rfl ⟨by simp [rfs, hb, hp, c52, show ¬ 1 < nng c 4 by omega, c75', c85], rfl, rfl⟩
      · rw [lcmp_le] at c75
        have c75' : 1 < dvs c 4 := Int64.not_le.mp c75
        refine V_bipush F dX1_refusal_78 kb_m19 ?_
        exact V_iret F rfl dX1_refusal_80 rfl ⟨by simp [rfs, hb, hp, c52, show ¬ 1 < nng c 4 by omega, c75'], rfl, rfl⟩
    · rw [nI_leI (by omega) (by omega)] at c63
      refine V_bipush F dX1_refusal_66 kb_m18 ?_
      exact V_iret F rfl dX1_refusal_68 rfl ⟨by simp [rfs, hb, hp, c52, show 1 < nng c 4 by omega], rfl, rfl⟩
  · rw [bI_0] at c52
    refine V_bipush F dX1_refusal_55 kb_m17 ?_
    exact V_iret F rfl dX1_refusal_57 rfl ⟨by simp [rfs, hb, hp, c52], rfl, rfl⟩
end FOUR2
