abbrev Qd : Type := Nat → Nat → Int64
def fc (c : Qd) : Nat → Int64 := fun k => c (k % 4) (k / 4)
def upc (c : Qd) (i w : Nat) (x : Int64) : Qd := fun j v => if j = i ∧ v = w then x else c j v
theorem fc_at {c : Qd} {i w : Nat} (hi : i < 4) : fc c (4 * w + i) = c i w := by
  unfold fc
  rw [show (4 * w + i) % 4 = i by omega, show (4 * w + i) / 4 = w by omega]
theorem fc_at0 {c : Qd} {i : Nat} (hi : i < 4) : fc c i = c i 0 := by
  have := fc_at (c := c) (w := 0) hi
  rwa [Nat.mul_zero, Nat.zero_add] at this
theorem fc_up {c : Qd} {i w : Nat} {x : Int64} (hi : i < 4) : va_up (fc c) (4 * w + i) x = fc (upc c i w x) := by
  funext k
  unfold va_up fc upc
  by_cases h : k = 4 * w + i
  · rw [if_pos h, if_pos ⟨by omega, by omega⟩]
  · rw [if_neg h, if_neg (fun q => h (by omega))]
def tsum (c : Qd) (w : Nat) : Int64 := c 0 w + c 1 w + c 2 w + c 3 w
def trn (c : Qd) (i w : Nat) : Int64 := 2 * tsum c w - 3 * c i w
def turnc (c : Qd) (i : Nat) : Qd := fun j w => if j = i ∧ w < 3 then trn c i w else c j w
theorem trn_up {c : Qd} {i v w : Nat} {x : Int64} (h : v ≠ w) : trn (upc c i v x) i w = trn c i w := by
  unfold trn tsum upc
  simp only [show ¬ w = v from fun q => h q.symm, and_false, if_false]
theorem turnc_eq (c : Qd) (i : Nat) : upc (upc (upc c i 0 (trn c i 0)) i 1 (trn c i 1)) i 2 (trn c i 2) = turnc c i := by
  funext j w
  unfold upc turnc
  by_cases hj : j = i
  · subst hj
    match w with
    | 0 => simp
    | 1 => simp
    | 2 => simp
    | w + 3 => simp; intro h; omega
  · simp [hj]
def gstep (c : Qd) (b k : Nat) : Nat := if c b 0 < c k 0 then k else b
def grt (c : Qd) : Nat := gstep c (gstep c (gstep c 0 1) 2) 3
theorem gstep_lt {c : Qd} {b k : Nat} (hb : b < 4) (hk : k < 4) : gstep c b k < 4 := by unfold gstep; split <;> assumption
theorem grt_lt (c : Qd) : grt c < 4 := gstep_lt (gstep_lt (gstep_lt (by omega) (by omega)) (by omega)) (by omega)
section FOUR
variable {G : GP} {M : Mem} {n : Option Nat} {a r : Nat} {c : Qd}
set_option maxRecDepth 20000 in
theorem c_X1_told (h0 : M a = some (eO 1 [.ref r])) (h1 : M r = some (eJ (gT G) 12 (fc c))) {i w : Nat} (hi : i < 4) (hw : w < 3) : Con G yX1_told cX1_told 3 (some .long) 0 0 0 [.ref a, .int (nI i), .int (nI w)] M n (R1 (some (.long (c i w))) M n) := by
  refine Con.of (by decide +kernel) (Nat.le_of_ble_eq_true rfl) (fun X F hnm => ?_)
  show V G X 0 0 _ M _ 0 [some (.ref a), some (.int (nI i)), some (.int (nI w))] []
  refine V_aload_n F dX1_told_0 rfl ?_
  refine V_get F fl_X1_11 dX1_told_1 (by assumption) rfl ?_
  refine V_iconst F dX1_told_4 ki_4 ?_
  refine V_iload_n F dX1_told_5 rfl ?_
  refine V_imul F dX1_told_6 ?_
  refine V_iload_n F dX1_told_7 rfl ?_
  refine V_iadd F dX1_told_8 ?_
  refine V_laldN F dX1_told_9 (by assumption) (4 * w + i) (by first | (simp only [pk_mul, nI_add, nI_1, nI_inc]; done) | (simp only [pk_mul, nI_add, nI_1, nI_inc]; rfl) | rfl) (by omega) (by omega) ?_
  exact V_lret F rfl dX1_told_10 ⟨by rw [fc_at hi], rfl, rfl⟩
theorem c_X1_bend (h0 : M a = some (eO 1 [.ref r])) (h1 : M r = some (eJ (gT G) 12 (fc c))) {i : Nat} (hi : i < 4) : Con G yX1_bend cX1_bend 2 (some .long) 0 0 0 [.ref a, .int (nI i)] M n (R1 (some (.long (c i 0))) M n) := by
  refine Con.of (by decide +kernel) (Nat.le_of_ble_eq_true rfl) (fun X F hnm => ?_)
  show V G X 0 0 _ M _ 0 [some (.ref a), some (.int (nI i))] []
  refine V_aload_n F dX1_bend_0 rfl ?_
  refine V_get F fl_X1_11 dX1_bend_1 (by assumption) rfl ?_
  refine V_iload_n F dX1_bend_4 rfl ?_
  refine V_laldN F dX1_bend_5 (by assumption) _ (by first | (simp only [pk_mul, nI_add, nI_1, nI_inc]; done) | (simp only [pk_mul, nI_add, nI_1, nI_inc]; rfl) | rfl) (by omega) (by omega) ?_
  exact V_lret F rfl dX1_bend_6 ⟨by rw [fc_at0 hi], rfl, rfl⟩
theorem c_X1_sum (h0 : M a = some (eO 1 [.ref r])) (h1 : M r = some (eJ (gT G) 12 (fc c))) {w : Nat} (hw : w < 3) : Con G yX1_sum cX1_sum 2 (some .long) 1 0 0 [.ref a, .int (nI w)] M n (R1 (some (.long (tsum c w))) M n) := by
  refine Con.of (by decide +kernel) (Nat.le_of_ble_eq_true rfl) (fun X F hnm => ?_)
  show V G X 0 0 _ M _ 0 [some (.ref a), some (.int (nI w))] []
  refine V_aload_n F dX1_sum_0 rfl ?_
  refine V_iconst F dX1_sum_1 ki_0 ?_
  refine V_iload_n F dX1_sum_2 rfl ?_
  refine V_ivR F iv_X1_21 dX1_sum_3 (As := [_, _]) (c_X1_told h0 h1 (i := 0) (by omega) hw) (by assumption) rfl rfl rfl rfl ?_
  refine V_aload_n F dX1_sum_6 rfl ?_
  refine V_iconst F dX1_sum_7 ki_1 ?_
  refine V_iload_n F dX1_sum_8 rfl ?_
  refine V_ivR F iv_X1_21 dX1_sum_9 (As := [_, _]) (c_X1_told h0 h1 (i := 1) (by omega) hw) (by assumption) rfl rfl rfl rfl ?_
  refine V_ladd F dX1_sum_12 ?_
  refine V_aload_n F dX1_sum_13 rfl ?_
  refine V_iconst F dX1_sum_14 ki_2 ?_
  refine V_iload_n F dX1_sum_15 rfl ?_
  refine V_ivR F iv_X1_21 dX1_sum_16 (As := [_, _]) (c_X1_told h0 h1 (i := 2) (by omega) hw) (by assumption) rfl rfl rfl rfl ?_
  refine V_ladd F dX1_sum_19 ?_
  refine V_aload_n F dX1_sum_20 rfl ?_
  refine V_iconst F dX1_sum_21 ki_3 ?_
  refine V_iload_n F dX1_sum_22 rfl ?_
  refine V_ivR F iv_X1_21 dX1_sum_23 (As := [_, _]) (c_X1_told h0 h1 (i := 3) (by omega) hw) (by assumption) rfl rfl rfl rfl ?_
  refine V_ladd F dX1_sum_26 ?_
  exact V_lret F rfl dX1_sum_27 ⟨rfl, rfl, rfl⟩
theorem c_X1_turned (h0 : M a = some (eO 1 [.ref r])) (h1 : M r = some (eJ (gT G) 12 (fc c))) {i w : Nat} (hi : i < 4) (hw : w < 3) : Con G yX1_turned cX1_turned 3 (some .long) 2 0 0 [.ref a, .int (nI i), .int (nI w)] M n (R1 (some (.long (trn c i w))) M n) := by
  refine Con.of (by decide +kernel) (Nat.le_of_ble_eq_true rfl) (fun X F hnm => ?_)
  show V G X 0 0 _ M _ 0 [some (.ref a), some (.int (nI i)), some (.int (nI w))] []
  refine V_ldc2 F dX1_turned_0 kl_X1_25 ?_
  refine V_aload_n F dX1_turned_3 rfl ?_
  refine V_iload_n F dX1_turned_4 rfl ?_
  refine V_ivR F iv_X1_27 dX1_turned_5 (As := [_]) (c_X1_sum h0 h1 hw) (by assumption) rfl rfl rfl rfl ?_
  refine V_lmul F dX1_turned_8 ?_
  refine V_ldc2 F dX1_turned_9 kl_X1_31 ?_
  refine V_aload_n F dX1_turned_12 rfl ?_
  refine V_iload_n F dX1_turned_13 rfl ?_
  refine V_iload_n F dX1_turned_14 rfl ?_
  refine V_ivR F iv_X1_21 dX1_turned_15 (As := [_, _]) (c_X1_told h0 h1 hi hw) (by assumption) rfl rfl rfl rfl ?_
  refine V_lmul F dX1_turned_18 ?_
  refine V_lsub F dX1_turned_19 ?_
  exact V_lret F rfl dX1_turned_20 ⟨rfl, rfl, rfl⟩
theorem c_X1_turn (h0 : M a = some (eO 1 [.ref r])) (h1 : M r = some (eJ (gT G) 12 (fc c))) {i : Nat} (hi : i < 4) : Con G yX1_turn cX1_turn 3 none 3 0 0 [.ref a, .int (nI i)] M n (R1 none (mset M r (eJ (gT G) 12 (fc (turnc c i)))) n) := by
  refine Con.of (by decide +kernel) (Nat.le_of_ble_eq_true rfl) (fun X F hnm => ?_)
  show V G X 0 0 _ M _ 0 [some (.ref a), some (.int (nI i)), none] []
  have har := ne_oj h0 h1
  have k1 : ∀ e, mset M r e a = some (eO 1 [.ref r]) := fun e => (mset_ne _ _ har).trans h0
  refine V_iconst F dX1_turn_0 ki_0 ?_
  refine V_istore_n F dX1_turn_1 (Nat.le_of_ble_eq_true rfl) ?_
  show V _ _ _ _ _ _ _ _ [_, _, _] _
  refine V_iload_n F dX1_turn_2 rfl ?_
  refine V_iconst F dX1_turn_3 ki_2 ?_
  refine V_icmp_gt F 29 dX1_turn_4 (by decide) (fun c4 => absurd c4 (by decide)) (fun c4 => ?_)
  refine V_aload_n F dX1_turn_7 rfl ?_
  refine V_get F fl_X1_11 dX1_turn_8 (by assumption) rfl ?_
  refine V_iconst F dX1_turn_11 ki_4 ?_
  refine V_iload_n F dX1_turn_12 rfl ?_
  refine V_imul F dX1_turn_13 ?_
  refine V_iload_n F dX1_turn_14 rfl ?_
  refine V_iadd F dX1_turn_15 ?_
  refine V_aload_n F dX1_turn_16 rfl ?_
  refine V_iload_n F dX1_turn_17 rfl ?_
  refine V_iload_n F dX1_turn_18 rfl ?_
  refine V_ivR F iv_X1_33 dX1_turn_19 (As := [_, _]) (c_X1_turned h0 h1 hi (w := 0) (by omega)) (by assumption) rfl rfl rfl rfl ?_
  refine V_lastN F dX1_turn_22 (by assumption) (4 * 0 + i) (by first | (simp only [pk_mul, nI_add, nI_1, nI_inc]; done) | (simp only [pk_mul, nI_add, nI_1, nI_inc]; rfl) | rfl) (by omega) (by omega) ?_
  refine V_iinc1 F dX1_turn_23 rfl ?_
  show V _ _ _ _ _ _ _ _ [_, _, _] _
  rw [fc_up hi]
  refine V_goto F 2 dX1_turn_26 (by decide) ?_
  refine V_iload_n F dX1_turn_2 rfl ?_
  refine V_iconst F dX1_turn_3 ki_2 ?_
  refine V_icmp_gt F 29 dX1_turn_4 (by decide) (fun c4 => absurd c4 (by decide)) (fun c4 => ?_)
  refine V_aload_n F dX1_turn_7 rfl ?_
  refine V_get F fl_X1_11 dX1_turn_8 (k1 _) rfl ?_
  refine V_iconst F dX1_turn_11 ki_4 ?_
  refine V_iload_n F dX1_turn_12 rfl ?_
  refine V_imul F dX1_turn_13 ?_
  refine V_iload_n F dX1_turn_14 rfl ?_
  refine V_iadd F dX1_turn_15 ?_
  refine V_aload_n F dX1_turn_16 rfl ?_
  refine V_iload_n F dX1_turn_17 rfl ?_
  refine V_iload_n F dX1_turn_18 rfl ?_
  refine V_ivR F iv_X1_33 dX1_turn_19 (As := [_, _]) (c_X1_turned (k1 _) (mset_eq _ _ _) hi (w := 1) (by omega)) (k1 _) rfl rfl rfl rfl ?_
  refine V_lastN F dX1_turn_22 (mset_eq _ _ _) (4 * 1 + i) (by first | (simp only [pk_mul, nI_add, nI_1, nI_inc]; done) | (simp only [pk_mul, nI_add, nI_1, nI_inc]; rfl) | rfl) (by omega) (by omega) ?_
  refine V_iinc1 F dX1_turn_23 rfl ?_
  show V _ _ _ _ _ _ _ _ [_, _, _] _
  rw [fc_up hi, mset_mset, trn_up (by decide)]
  refine V_goto F 2 dX1_turn_26 (by decide) ?_
  refine V_iload_n F dX1_turn_2 rfl ?_
  refine V_iconst F dX1_turn_3 ki_2 ?_
  refine V_icmp_gt F 29 dX1_turn_4 (by decide) (fun c4 => absurd c4 (by decide)) (fun c4 => ?_)
  refine V_aload_n F dX1_turn_7 rfl ?_
  refine V_get F fl_X1_11 dX1_turn_8 (k1 _) rfl ?_
  refine V_iconst F dX1_turn_11 ki_4 ?_
  refine V_iload_n F dX1_turn_12 rfl ?_
  refine V_imul F dX1_turn_13 ?_
  refine V_iload_n F dX1_turn_14 rfl ?_
  refine V_iadd F dX1_turn_15 ?_
  refine V_aload_n F dX1_turn_16 rfl ?_
  refine V_iload_n F dX1_turn_17 rfl ?_
  refine V_iload_n F dX1_turn_18 rfl ?_
  refine V_ivR F iv_X1_33 dX1_turn_19 (As := [_, _]) (c_X1_turned (k1 _) (mset_eq _ _ _) hi (w := 2) (by omega)) (k1 _) rfl rfl rfl rfl ?_
  refine V_lastN F dX1_turn_22 (mset_eq _ _ _) (4 * 2 + i) (by first | (simp only [pk_mul, nI_add, nI_1, nI_inc]; done) | (simp only [pk_mul, nI_add, nI_1, nI_inc]; rfl) | rfl) (by omega) (by omega) ?_
  refine V_iinc1 F dX1_turn_23 rfl ?_
  show V _ _ _ _ _ _ _ _ [_, _, _] _
  rw [fc_up hi, mset_mset, trn_up (by decide), trn_up (by decide), turnc_eq]
  refine V_goto F 2 dX1_turn_26 (by decide) ?_
  refine V_iload_n F dX1_turn_2 rfl ?_
  refine V_iconst F dX1_turn_3 ki_2 ?_
  refine V_icmp_gt F 29 dX1_turn_4 (by decide) (fun c4 => ?_) (fun c4 => absurd (by decide) c4)
  exact V_vret F rfl dX1_turn_29 ⟨rfl, rfl, rfl⟩
theorem c_X1_greatest (h0 : M a = some (eO 1 [.ref r])) (h1 : M r = some (eJ (gT G) 12 (fc c))) : Con G yX1_greatest cX1_greatest 3 (some .int) 1 0 0 [.ref a] M n (R1 (some (.int (nI (grt c)))) M n) := by
  refine Con.of (by decide +kernel) (Nat.le_of_ble_eq_true rfl) (fun X F hnm => ?_)
  show V G X 0 0 _ M _ 0 [some (.ref a), none, none] []
  have step : ∀ k b : Nat, k < 4 → b < 4 → V G X 0 0 (BQ G X (R1 (some (.int (nI (grt c)))) M n) 0 0) M n 4 [some (.ref a), some (.int (nI (gstep c b k))), some (.int (nI (k + 1)))] [] → V G X 0 0 (BQ G X (R1 (some (.int (nI (grt c)))) M n) 0 0) M n 4 [some (.ref a), some (.int (nI b)), some (.int (nI k))] [] := by
    intro k b hk hb kk
    refine V_iload_n F dX1_greatest_4 rfl ?_
    refine V_iconst F dX1_greatest_5 ki_4 ?_
    refine V_icmp_ge F 31 dX1_greatest_6 (by decide) (fun c6 => absurd c6 (nI_ge hk (by omega))) (fun c6 => ?_)
    refine V_aload_n F dX1_greatest_9 rfl ?_
    refine V_iload_n F dX1_greatest_10 rfl ?_
    refine V_ivR F iv_X1_36 dX1_greatest_11 (As := [_]) (c_X1_bend h0 h1 hk) (by assumption) rfl rfl rfl rfl ?_
    refine V_aload_n F dX1_greatest_14 rfl ?_
    refine V_iload_n F dX1_greatest_15 rfl ?_
    refine V_ivR F iv_X1_36 dX1_greatest_16 (As := [_]) (c_X1_bend h0 h1 hb) (by assumption) rfl rfl rfl rfl ?_
    refine V_lcmp F dX1_greatest_19 ?_
    refine V_if_le F 25 dX1_greatest_20 (by decide) (fun c20 => ?_) (fun c20 => ?_)
    · rw [lcmp_le] at c20
      rw [show gstep c b k = b by unfold gstep; rw [if_neg (by rw [Int64.not_lt]; exact c20)]] at kk
      refine V_iinc1 F dX1_greatest_25 rfl ?_
      show V _ _ _ _ _ _ _ _ [_, _, _] _
      refine V_goto F 4 dX1_greatest_28 (by decide) ?_
      exact kk
    · rw [lcmp_le] at c20
      rw [show gstep c b k = k by unfold gstep; rw [if_pos (Int64.not_le.mp c20)]] at kk
      refine V_iload_n F dX1_greatest_23 rfl ?_
      refine V_istore_n F dX1_greatest_24 (Nat.le_of_ble_eq_true rfl) ?_
      show V _ _ _ _ _ _ _ _ [_, _, _] _
      refine V_iinc1 F dX1_greatest_25 rfl ?_
      show V _ _ _ _ _ _ _ _ [_, _, _] _
      refine V_goto F 4 dX1_greatest_28 (by decide) ?_
      exact kk
  refine V_iconst F dX1_greatest_0 ki_0 ?_
  refine V_istore_n F dX1_greatest_1 (Nat.le_of_ble_eq_true rfl) ?_
  show V _ _ _ _ _ _ _ _ [_, _, _] _
  refine V_iconst F dX1_greatest_2 ki_1 ?_
  refine V_istore_n F dX1_greatest_3 (Nat.le_of_ble_eq_true rfl) ?_
  show V _ _ _ _ _ _ _ _ [_, _, _] _
  refine step 1 0 (by omega) (by omega) (step 2 _ (by omega) (gstep_lt (by omega) (by omega)) (step 3 _ (by omega) (gstep_lt (gstep_lt (by omega) (by omega)) (by omega)) ?_))
  refine V_iload_n F dX1_greatest_4 rfl ?_
  refine V_iconst F dX1_greatest_5 ki_4 ?_
  refine V_icmp_ge F 31 dX1_greatest_6 (by decide) (fun c6 => ?_) (fun c6 => absurd (by decide) c6)
  refine V_iload_n F dX1_greatest_31 rfl ?_
  exact V_iret F rfl dX1_greatest_32 rfl ⟨rfl, rfl, rfl⟩
end FOUR
