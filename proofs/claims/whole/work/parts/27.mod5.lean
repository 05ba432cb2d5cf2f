theorem turn_turn (c : Qd) {i : Nat} (hi : i < 4) : turnc (turnc c i) i = c := by
  have key : ∀ w, w < 3 → trn (turnc c i) i w = c i w := by
    intro w hw
    have hi' : i = 0 ∨ i = 1 ∨ i = 2 ∨ i = 3 := by omega
    rcases hi' with rfl | rfl | rfl | rfl <;> simp only [trn, tsum, turnc, hw, and_true, if_pos, reduceIte, Nat.reduceEqDiff, false_and] <;> generalize c 0 w = A <;> generalize c 1 w = B <;> generalize c 2 w = C <;> generalize c 3 w = D <;> grind
  funext j w
  show (if j = i ∧ w < 3 then trn (turnc c i) i w else turnc c i j w) = c j w
  by_cases h : j = i ∧ w < 3
  · rw [if_pos h, key w h.2, h.1]
  · rw [if_neg h]
    unfold turnc
    rw [if_neg h]
theorem turn_M (c : Qd) {i : Nat} : upc (upc (upc c i 0 (trn c i 0)) i 1 (trn c i 1)) i 2 (trn c i 2) = turnc c i := turnc_eq c i
section MOD5
variable {G : GP} {M : Mem} {n : Option Nat} {nq st lm lmo lq pd gd' : Int32} {c : Qd}
theorem c_X7_take {f5 : Nat → Int32} {f6 : Nat → Int64} (hO : M (gB G + 816) = some (objM G nq st lm lmo lq pd gd')) (h5 : M (gB G + 821) = some (eI (gT G) 720 f5)) (h6 : M (gB G + 822) = some (eJ (gT G) 12 f6)) {q : Nat} (hq : q < 60) (hc : ∀ j w, j < 4 → w < 3 → f5 (12 * q + 3 * j + w) = (c j w).toInt32) (hin : qIn c) : Con G yX7_take cX7_take 3 none 0 0 0 [.ref (gB G + 816), .int (nI q)] M n (R1 none (mset M (gB G + 822) (eJ (gT G) 12 (mc c))) n) := by
  refine Con.of (by decide +kernel) (Nat.le_of_ble_eq_true rfl) (fun X F hnm => ?_)
  show V G X 0 0 _ M _ 0 [some (.ref (gB G + 816)), some (.int (nI q)), none] []
  have loop : ∀ m k : Nat, m + k = 12 → ∀ f : Nat → Int64, (∀ j, j < k → f j = mc c j) → V G X 0 0 (BQ G X (R1 none (mset M (gB G + 822) (eJ (gT G) 12 (mc c))) n) 0 0) (mset M (gB G + 822) (eJ (gT G) 12 f)) n 2 [some (.ref (gB G + 816)), some (.int (nI q)), some (.int (nI k))] [] := by
    intro m
    induction m with
    | zero =>
      intro k hk f hf
      have hk : k = 12 := by omega
      subst hk
      refine V_iload_n F dX7_take_2 rfl ?_
      refine V_bipush F dX7_take_3 kb_12 ?_
      refine V_icmp_ge F 32 dX7_take_5 (by decide) (fun c5 => ?_) (fun c5 => absurd (by decide) c5)
      refine V_mem (fun H hm => mem_J (g := mc c) hf hm) ?_
      exact V_vret F rfl dX7_take_32 ⟨rfl, rfl, rfl⟩
    | succ m ih =>
      intro k hk f hf
      refine V_iload_n F dX7_take_2 rfl ?_
      refine V_bipush F dX7_take_3 kb_12 ?_
      refine V_icmp_ge F 32 dX7_take_5 (by decide) (fun c5 => absurd c5 (nI_ge (by omega) (by omega))) (fun c5 => ?_)
      refine V_aload_n F dX7_take_8 rfl ?_
      refine V_get F fl_X7_26 dX7_take_9 ((mset_ne _ _ (by omega)).trans hO) rfl ?_
      refine V_iload_n F dX7_take_12 rfl ?_
      refine V_aload_n F dX7_take_13 rfl ?_
      refine V_get F fl_X7_23 dX7_take_14 ((mset_ne _ _ (by omega)).trans hO) rfl ?_
      refine V_bipush F dX7_take_17 kb_12 ?_
      refine V_iload_n F dX7_take_19 rfl ?_
      refine V_imul F dX7_take_20 ?_
      rw [pk_mul]
      refine V_iload_n F dX7_take_21 rfl ?_
      refine V_iadd F dX7_take_22 ?_
      rw [nI_add]
      refine V_ialdN F dX7_take_23 ((mset_ne _ _ (by omega)).trans h5) _ (by first | (simp only [pk_mul, nI_add, nI_1, nI_inc]; done) | (simp only [pk_mul, nI_add, nI_1, nI_inc]; rfl) | rfl) (by omega) (by omega) ?_
      rw [show f5 (12 * q + k) = (c (k / 3) (k % 3)).toInt32 by rw [← hc (k / 3) (k % 3) (by omega) (by omega)]; congr 1; omega]
      refine V_i2l F dX7_take_24 ?_
      rw [hin _ _ (by omega) (by omega)]
      refine V_lastN F dX7_take_25 (mset_eq _ _ _) _ (by first | (simp only [pk_mul, nI_add, nI_1, nI_inc]; done) | (simp only [pk_mul, nI_add, nI_1, nI_inc]; rfl) | rfl) (by omega) (by omega) ?_
      rw [mset_mset]
      refine V_iinc1 F dX7_take_26 rfl ?_
      show V _ _ _ _ _ _ _ _ [_, _, _] _
      refine V_goto F 2 dX7_take_29 (by decide) ?_
      refine ih (k + 1) (by omega) _ (fun j hj => ?_)
      unfold va_up
      by_cases q1 : j = k
      · rw [if_pos q1, q1]; rfl
      · rw [if_neg q1]; exact hf j (by omega)
  refine V_iconst F dX7_take_0 ki_0 ?_
  refine V_istore_n F dX7_take_1 (Nat.le_of_ble_eq_true rfl) ?_
  show V _ _ _ _ _ _ _ _ [_, _, _] _
  have := loop 12 0 rfl f6 (fun j hj => by omega)
  rw [mset_self h6] at this
  exact this
theorem c_X7_swapAt (hO : M (gB G + 816) = some (objM G nq st lm lmo lq pd gd')) (h6 : M (gB G + 822) = some (eJ (gT G) 12 (mc c))) {i : Nat} (hi : i < 4) : Con G yX7_swapAt cX7_swapAt 5 none 0 0 0 [.ref (gB G + 816), .int (nI i)] M n (R1 none (mset M (gB G + 822) (eJ (gT G) 12 (mc (turnc c i)))) n) := by
  refine Con.of (by decide +kernel) (Nat.le_of_ble_eq_true rfl) (fun X F hnm => ?_)
  show V G X 0 0 _ M _ 0 [some (.ref (gB G + 816)), some (.int (nI i)), none, none, none] []
  have step : ∀ (w : Nat) (c' : Qd), w < 3 → (∀ j, c' j w = c j w) → V G X 0 0 (BQ G X (R1 none (mset M (gB G + 822) (eJ (gT G) 12 (mc (turnc c i)))) n) 0 0) (mset M (gB G + 822) (eJ (gT G) 12 (mc (upc c' i w (trn c i w))))) n 2 [some (.ref (gB G + 816)), some (.int (nI i)), some (.int (nI (w + 1))), none, none] [] → V G X 0 0 (BQ G X (R1 none (mset M (gB G + 822) (eJ (gT G) 12 (mc (turnc c i)))) n) 0 0) (mset M (gB G + 822) (eJ (gT G) 12 (mc c'))) n 2 [some (.ref (gB G + 816)), some (.int (nI i)), some (.int (nI w)), none, none] [] := by
    intro w c' hw hc kk
    have k1 : mset M (gB G + 822) (eJ (gT G) 12 (mc c')) (gB G + 816) = _ := (mset_ne _ _ (by omega)).trans hO
    have k2 := mset_eq M (gB G + 822) (eJ (gT G) 12 (mc c'))
    refine V_iload_n F dX7_swapAt_2 rfl ?_
    refine V_iconst F dX7_swapAt_3 ki_3 ?_
    refine V_icmp_ge F 86 dX7_swapAt_4 (by decide) (fun c4 => absurd c4 (nI_ge hw (by omega))) (fun c4 => ?_)
    refine V_aload_n F dX7_swapAt_7 rfl ?_
    refine V_get F fl_X7_26 dX7_swapAt_8 k1 rfl ?_
    refine V_iload_n F dX7_swapAt_11 rfl ?_
    refine V_laldN F dX7_swapAt_12 (by assumption) _ (by first | (simp only [pk_mul, nI_add, nI_1, nI_inc]; done) | (simp only [pk_mul, nI_add, nI_1, nI_inc]; rfl) | rfl) (by omega) (by omega) ?_
    refine V_aload_n F dX7_swapAt_13 rfl ?_
    refine V_get F fl_X7_26 dX7_swapAt_14 k1 rfl ?_
    refine V_iconst F dX7_swapAt_17 ki_3 ?_
    refine V_iload_n F dX7_swapAt_18 rfl ?_
    refine V_iadd F dX7_swapAt_19 ?_
    refine V_laldN F dX7_swapAt_20 (by assumption) _ (by first | (simp only [pk_mul, nI_add, nI_1, nI_inc]; done) | (simp only [pk_mul, nI_add, nI_1, nI_inc]; rfl) | rfl) (by omega) (by omega) ?_
    refine V_ladd F dX7_swapAt_21 ?_
    refine V_aload_n F dX7_swapAt_22 rfl ?_
    refine V_get F fl_X7_26 dX7_swapAt_23 k1 rfl ?_
    refine V_bipush F dX7_swapAt_26 kb_6 ?_
    refine V_iload_n F dX7_swapAt_28 rfl ?_
    refine V_iadd F dX7_swapAt_29 ?_
    refine V_laldN F dX7_swapAt_30 (by assumption) _ (by first | (simp only [pk_mul, nI_add, nI_1, nI_inc]; done) | (simp only [pk_mul, nI_add, nI_1, nI_inc]; rfl) | rfl) (by omega) (by omega) ?_
    refine V_ladd F dX7_swapAt_31 ?_
    refine V_aload_n F dX7_swapAt_32 rfl ?_
    refine V_get F fl_X7_26 dX7_swapAt_33 k1 rfl ?_
    refine V_bipush F dX7_swapAt_36 kb_9 ?_
    refine V_iload_n F dX7_swapAt_38 rfl ?_
    refine V_iadd F dX7_swapAt_39 ?_
    refine V_laldN F dX7_swapAt_40 (by assumption) _ (by first | (simp only [pk_mul, nI_add, nI_1, nI_inc]; done) | (simp only [pk_mul, nI_add, nI_1, nI_inc]; rfl) | rfl) (by omega) (by omega) ?_
    refine V_ladd F dX7_swapAt_41 ?_
    rw [show mc c' w = c 0 w by rw [← hc 0]; have := mc_at (c := c') (i := 0) hw; rwa [Nat.mul_zero, Nat.zero_add] at this, show mc c' (3 + w) = c 1 w by rw [← hc 1]; exact mc_at (i := 1) hw, show mc c' (6 + w) = c 2 w by rw [← hc 2]; exact mc_at (i := 2) hw, show mc c' (9 + w) = c 3 w by rw [← hc 3]; exact mc_at (i := 3) hw]
    refine V_lstore_n F dX7_swapAt_42 (Nat.le_of_ble_eq_true rfl) ?_
    show V _ _ _ _ _ _ _ _ [_, _, _, _, _] _
    refine V_aload_n F dX7_swapAt_43 rfl ?_
    refine V_get F fl_X7_26 dX7_swapAt_44 k1 rfl ?_
    refine V_iconst F dX7_swapAt_47 ki_3 ?_
    refine V_iload_n F dX7_swapAt_48 rfl ?_
    refine V_imul F dX7_swapAt_49 ?_
    refine V_iload_n F dX7_swapAt_50 rfl ?_
    refine V_iadd F dX7_swapAt_51 ?_
    refine V_ldc2 F dX7_swapAt_52 kl_X7_73 ?_
    refine V_lload_n F dX7_swapAt_55 rfl ?_
    refine V_aload_n F dX7_swapAt_56 rfl ?_
    refine V_get F fl_X7_26 dX7_swapAt_57 k1 rfl ?_
    refine V_iconst F dX7_swapAt_60 ki_3 ?_
    refine V_iload_n F dX7_swapAt_61 rfl ?_
    refine V_imul F dX7_swapAt_62 ?_
    refine V_iload_n F dX7_swapAt_63 rfl ?_
    refine V_iadd F dX7_swapAt_64 ?_
    refine V_laldN F dX7_swapAt_65 (by assumption) _ (by first | (simp only [pk_mul, nI_add, nI_1, nI_inc]; done) | (simp only [pk_mul, nI_add, nI_1, nI_inc]; rfl) | rfl) (by omega) (by omega) ?_
    rw [mc_at hw, hc]
    refine V_lsub F dX7_swapAt_66 ?_
    refine V_lmul F dX7_swapAt_67 ?_
    refine V_aload_n F dX7_swapAt_68 rfl ?_
    refine V_get F fl_X7_26 dX7_swapAt_69 k1 rfl ?_
    refine V_iconst F dX7_swapAt_72 ki_3 ?_
    refine V_iload_n F dX7_swapAt_73 rfl ?_
    refine V_imul F dX7_swapAt_74 ?_
    refine V_iload_n F dX7_swapAt_75 rfl ?_
    refine V_iadd F dX7_swapAt_76 ?_
    refine V_laldN F dX7_swapAt_77 (by assumption) _ (by first | (simp only [pk_mul, nI_add, nI_1, nI_inc]; done) | (simp only [pk_mul, nI_add, nI_1, nI_inc]; rfl) | rfl) (by omega) (by omega) ?_
    rw [mc_at hw, hc]
    refine V_lsub F dX7_swapAt_78 ?_
    rw [trn_M c i w]
    refine V_lastN F dX7_swapAt_79 k2 (3 * i + w) (by first | (simp only [pk_mul, nI_add, nI_1, nI_inc]; done) | (simp only [pk_mul, nI_add, nI_1, nI_inc]; rfl) | rfl) (by omega) (by omega) ?_
    rw [mset_mset, mc_up hw]
    refine V_iinc1 F dX7_swapAt_80 rfl ?_
    show V _ _ _ _ _ _ _ _ [_, _, _, _, _] _
    refine V_goto F 2 dX7_swapAt_83 (by decide) ?_
    exact V_drop 3 kk
  refine V_iconst F dX7_swapAt_0 ki_0 ?_
  refine V_istore_n F dX7_swapAt_1 (Nat.le_of_ble_eq_true rfl) ?_
  show V _ _ _ _ _ _ _ _ [_, _, _, _, _] _
  have := step 0 c (by omega) (fun _ => rfl) (step 1 _ (by omega) (fun j => by simp [upc]) (step 2 _ (by omega) (fun j => by simp [upc]) ?_))
  · rw [mset_self h6] at this
    exact this
  · rw [turn_M c]
    refine V_iload_n F dX7_swapAt_2 rfl ?_
    refine V_iconst F dX7_swapAt_3 ki_3 ?_
    refine V_icmp_ge F 86 dX7_swapAt_4 (by decide) (fun c4 => ?_) (fun c4 => absurd (by decide) c4)
    exact V_vret F rfl dX7_swapAt_86 ⟨rfl, rfl, rfl⟩
theorem c_X7_greatest (hO : M (gB G + 816) = some (objM G nq st lm lmo lq pd gd')) (h6 : M (gB G + 822) = some (eJ (gT G) 12 (mc c))) : Con G yX7_greatest cX7_greatest 3 (some .int) 0 0 0 [.ref (gB G + 816)] M n (R1 (some (.int (nI (grt c)))) M n) := by
  refine Con.of (by decide +kernel) (Nat.le_of_ble_eq_true rfl) (fun X F hnm => ?_)
  show V G X 0 0 _ M _ 0 [some (.ref (gB G + 816)), none, none] []
  have step : ∀ k b : Nat, k < 4 → b < 4 → V G X 0 0 (BQ G X (R1 (some (.int (nI (grt c)))) M n) 0 0) M n 4 [some (.ref (gB G + 816)), some (.int (nI (gstep c b k))), some (.int (nI (k + 1)))] [] → V G X 0 0 (BQ G X (R1 (some (.int (nI (grt c)))) M n) 0 0) M n 4 [some (.ref (gB G + 816)), some (.int (nI b)), some (.int (nI k))] [] := by
    intro k b hk hb kk
    have e3 : ∀ z, mc c (3 * z) = c z 0 := fun z => mc_at (c := c) (i := z) (w := 0) (by omega)
    refine V_iload_n F dX7_greatest_4 rfl ?_
    refine V_iconst F dX7_greatest_5 ki_4 ?_
    refine V_icmp_ge F 41 dX7_greatest_6 (by decide) (fun c6 => absurd c6 (nI_ge hk (by omega))) (fun c6 => ?_)
    refine V_aload_n F dX7_greatest_9 rfl ?_
    refine V_get F fl_X7_26 dX7_greatest_10 (by assumption) rfl ?_
    refine V_iconst F dX7_greatest_13 ki_3 ?_
    refine V_iload_n F dX7_greatest_14 rfl ?_
    refine V_imul F dX7_greatest_15 ?_
    refine V_laldN F dX7_greatest_16 (by assumption) (3 * k) (by first | (simp only [pk_mul, nI_add, nI_1, nI_inc]; done) | (simp only [pk_mul, nI_add, nI_1, nI_inc]; rfl) | rfl) (by omega) (by omega) ?_
    rw [e3]
    refine V_aload_n F dX7_greatest_17 rfl ?_
    refine V_get F fl_X7_26 dX7_greatest_18 (by assumption) rfl ?_
    refine V_iconst F dX7_greatest_21 ki_3 ?_
    refine V_iload_n F dX7_greatest_22 rfl ?_
    refine V_imul F dX7_greatest_23 ?_
    refine V_laldN F dX7_greatest_24 (by assumption) (3 * b) (by first | (simp only [pk_mul, nI_add, nI_1, nI_inc]; done) | (simp only [pk_mul, nI_add, nI_1, nI_inc]; rfl) | rfl) (by omega) (by omega) ?_
    rw [e3]
    refine V_lcmp F dX7_greatest_25 ?_
    refine V_if_le F 33 dX7_greatest_26 (by decide) (fun c26 => ?_) (fun c26 => ?_)
    · rw [lcmp_le] at c26
      rw [show gstep c b k = b by unfold gstep; rw [if_neg (by rw [Int64.not_lt]; exact c26)]] at kk
      refine V_iload_n F dX7_greatest_33 rfl ?_
      refine V_istore_n F dX7_greatest_34 (Nat.le_of_ble_eq_true rfl) ?_
      show V _ _ _ _ _ _ _ _ [_, _, _] _
      refine V_iinc1 F dX7_greatest_35 rfl ?_
      show V _ _ _ _ _ _ _ _ [_, _, _] _
      refine V_goto F 4 dX7_greatest_38 (by decide) ?_
      exact kk
    · rw [lcmp_le] at c26
      rw [show gstep c b k = k by unfold gstep; rw [if_pos (Int64.not_le.mp c26)]] at kk
      refine V_iload_n F dX7_greatest_29 rfl ?_
      refine V_goto F 34 dX7_greatest_30 (by decide) ?_
      refine V_istore_n F dX7_greatest_34 (Nat.le_of_ble_eq_true rfl) ?_
      show V _ _ _ _ _ _ _ _ [_, _, _] _
      refine V_iinc1 F dX7_greatest_35 rfl ?_
      show V _ _ _ _ _ _ _ _ [_, _, _] _
      refine V_goto F 4 dX7_greatest_38 (by decide) ?_
      exact kk
  refine V_iconst F dX7_greatest_0 ki_0 ?_
  refine V_istore_n F dX7_greatest_1 (Nat.le_of_ble_eq_true rfl) ?_
  show V _ _ _ _ _ _ _ _ [_, _, _] _
  refine V_iconst F dX7_greatest_2 ki_1 ?_
  refine V_istore_n F dX7_greatest_3 (Nat.le_of_ble_eq_true rfl) ?_
  show V _ _ _ _ _ _ _ _ [_, _, _] _
  refine step 1 0 (by omega) (by omega) (step 2 _ (by omega) (gstep_lt (by omega) (by omega)) (step 3 _ (by omega) (gstep_lt (gstep_lt (by omega) (by omega)) (by omega)) ?_))
  refine V_iload_n F dX7_greatest_4 rfl ?_
  refine V_iconst F dX7_greatest_5 ki_4 ?_
  refine V_icmp_ge F 41 dX7_greatest_6 (by decide) (fun c6 => ?_) (fun c6 => absurd (by decide) c6)
  refine V_iload_n F dX7_greatest_41 rfl ?_
  exact V_iret F rfl dX7_greatest_42 rfl ⟨rfl, rfl, rfl⟩
/-- what goDown() leaves: steps, root, the coins of the steps -/
def wentDown (G : GP) (M M' : Mem) (nq lm lmo lq pd gd' : Int32) (m : Nat) (c : Qd) : Prop := M' (gB G + 816) = some (objM G nq (nI (gd m c).1) lm lmo lq pd gd') ∧ M' (gB G + 822) = some (eJ (gT G) 12 (mc (gd m c).2)) ∧ (∃ f, M' (gB G + 823) = some (eI (gT G) 1000 f) ∧ ∀ j, j < (gd m c).1 → j < 1000 → f j = nI (grt (gd j c).2)) ∧ ∀ z, z ≠ gB G + 816 → z ≠ gB G + 822 → z ≠ gB G + 823 → M' z = M z
theorem c_X7_goDown {f5 : Nat → Int32} {f6 : Nat → Int64} {f7 : Nat → Int32} (hO : M (gB G + 816) = some (objM G nq st lm lmo lq pd gd')) (h5 : M (gB G + 821) = some (eI (gT G) 720 f5)) (h6 : M (gB G + 822) = some (eJ (gT G) 12 f6)) (h7 : M (gB G + 823) = some (eI (gT G) 1000 f7)) {q : Nat} (hq : q < 60) (hc : ∀ j w, j < 4 → w < 3 → f5 (12 * q + 3 * j + w) = (c j w).toInt32) (hin : qIn c) {m : Nat} (hm : m < 2 ^ 31) (hs : (gd m c).1 < m) : Con G yX7_goDown cX7_goDown 6 none 1 0 0 [.ref (gB G + 816), .int (nI q)] M n (fun v M' n' => v = none ∧ wentDown G M M' nq lm lmo lq pd gd' m c ∧ n' = n) := by
  refine Con.of (by decide +kernel) (Nat.le_of_ble_eq_true rfl) (fun X F hnm => ?_)
  show V G X 0 0 _ M _ 0 [some (.ref (gB G + 816)), some (.int (nI q)), none, none, none, none] []
  generalize hQ : BQ G X _ 0 0 = Q
  have loop : ∀ (r k : Nat) (M1 : Mem) (c1 : Qd) (f : Nat → Int32), (gd r c1).1 < r → r + k = m → M1 (gB G + 816) = some (objM G nq (nI k) lm lmo lq pd gd') → M1 (gB G + 822) = some (eJ (gT G) 12 (mc c1)) → M1 (gB G + 823) = some (eI (gT G) 1000 f) → (∀ z, z ≠ gB G + 816 → z ≠ gB G + 822 → z ≠ gB G + 823 → M1 z = M z) → (k + (gd r c1).1 = (gd m c).1 ∧ (gd r c1).2 = (gd m c).2 ∧ (∀ j, j < k → j < 1000 → f j = nI (grt (gd j c).2)) ∧ ∀ j, j ≤ (gd r c1).1 → (gd j c1).2 = (gd (k + j) c).2) → V G X 0 0 Q M1 n 12 [some (.ref (gB G + 816)), some (.int (nI q)), some (.int (nI 1)), none, none, none] [] := by
    intro r
    induction r with
    | zero => intro k M1 c1 f hr; omega
    | succ r ih =>
      intro k M1 c1 f hr hk g0 g6 g7 fr ⟨e1, e2, e3, e4⟩
      have hg := grt_lt c1
      have e00 := e4 0 (Nat.zero_le _)
      have e00 : c1 = (gd (k + 0) c).2 := e00
      rw [Nat.add_zero] at e00
      have m3 : ∀ z (d : Qd), mc d (3 * z) = d z 0 := fun z d => mc_at (c := d) (i := z) (w := 0) (by omega)
      refine V_iload_n F dX7_goDown_12 rfl ?_
      refine V_if_eq F 101 dX7_goDown_13 (by decide) (fun c13 => absurd c13 (by decide)) (fun c13 => ?_)
      refine V_aload_n F dX7_goDown_16 rfl ?_
      refine V_ivR F iv_X7_135 dX7_goDown_17 (As := []) (c_X7_greatest g0 g6) (by assumption) rfl rfl rfl rfl ?_
      refine V_istore_n F dX7_goDown_20 (Nat.le_of_ble_eq_true rfl) ?_
      show V _ _ _ _ _ _ _ _ [_, _, _, _, _, _] _
      refine V_aload_n F dX7_goDown_21 rfl ?_
      refine V_get F fl_X7_26 dX7_goDown_22 (by assumption) rfl ?_
      refine V_iconst F dX7_goDown_25 ki_3 ?_
      refine V_iload_n F dX7_goDown_26 rfl ?_
      refine V_imul F dX7_goDown_27 ?_
      refine V_laldN F dX7_goDown_28 (by assumption) _ (by first | (simp only [pk_mul, nI_add, nI_1, nI_inc]; done) | (simp only [pk_mul, nI_add, nI_1, nI_inc]; rfl) | rfl) (by omega) (by omega) ?_
      rw [m3]
      refine V_lstore F dX7_goDown_29 (Nat.le_of_ble_eq_true rfl) ?_
      show V _ _ _ _ _ _ _ _ [_, _, _, _, _, _] _
      refine V_aload_n F dX7_goDown_31 rfl ?_
      refine V_iload_n F dX7_goDown_32 rfl ?_
      refine V_ivR F iv_X7_124 dX7_goDown_33 (As := [_]) (c_X7_swapAt g0 g6 hg) (by assumption) rfl rfl rfl rfl ?_
      have n0 : ∀ e, mset M1 (gB G + 822) e (gB G + 816) = _ := fun e => (mset_ne _ _ (by omega)).trans g0
      have n7 : ∀ e, mset M1 (gB G + 822) e (gB G + 823) = _ := fun e => (mset_ne _ _ (by omega)).trans g7
      refine V_aload_n F dX7_goDown_36 rfl ?_
      refine V_get F fl_X7_26 dX7_goDown_37 (n0 _) rfl ?_
      refine V_iconst F dX7_goDown_40 ki_3 ?_
      refine V_iload_n F dX7_goDown_41 rfl ?_
      refine V_imul F dX7_goDown_42 ?_
      refine V_laldN F dX7_goDown_43 (mset_eq _ _ _) _ (by first | (simp only [pk_mul, nI_add, nI_1, nI_inc]; done) | (simp only [pk_mul, nI_add, nI_1, nI_inc]; rfl) | rfl) (by omega) (by omega) ?_
      rw [m3, show turnc c1 (grt c1) (grt c1) 0 = trn c1 (grt c1) 0 by unfold turnc; rw [if_pos ⟨rfl, by omega⟩]]
      refine V_lload F dX7_goDown_44 rfl ?_
      refine V_lcmp F dX7_goDown_46 ?_
      refine V_if_ge F 54 dX7_goDown_47 (by decide) (fun c47 => ?_) (fun c47 => ?_)
      · -- no step: back again
        rw [lcmp_ge] at c47
        have hno : ¬ trn c1 (grt c1) 0 < c1 (grt c1) 0 := Int64.not_lt.mpr c47
        have u1 : gd (r + 1) c1 = (0, c1) := by
          rw [show gd (r + 1) c1 = (if trn c1 (grt c1) 0 < c1 (grt c1) 0 then ((gd r (turnc c1 (grt c1))).1 + 1, (gd r (turnc c1 (grt c1))).2) else (0, c1)) from rfl, if_neg hno]
        rw [u1] at e1 e2 e4
        refine V_iconst F dX7_goDown_54 ki_0 ?_
        refine V_istore_n F dX7_goDown_55 (Nat.le_of_ble_eq_true rfl) ?_
        show V _ _ _ _ _ _ _ _ [_, _, _, _, _, _] _
        refine V_iload_n F dX7_goDown_56 rfl ?_
        refine V_if_eq F 93 dX7_goDown_57 (by decide) (fun c57 => ?_) (fun c57 => absurd rfl c57)
        refine V_aload_n F dX7_goDown_93 rfl ?_
        refine V_iload_n F dX7_goDown_94 rfl ?_
        refine V_ivR F iv_X7_124 dX7_goDown_95 (As := [_]) (c_X7_swapAt (n0 _) (mset_eq _ _ _) hg) (n0 _) rfl rfl rfl rfl ?_
        rw [mset_mset, turn_turn c1 hg, mset_self g6]
        refine V_goto F 12 dX7_goDown_98 (by decide) ?_
        refine V_iload_n F dX7_goDown_12 rfl ?_
        refine V_if_eq F 101 dX7_goDown_13 (by decide) (fun c13 => ?_) (fun c13 => absurd rfl c13)
        subst hQ
        exact V_vret F rfl dX7_goDown_101 ⟨rfl, ⟨by rw [← e1]; exact g0, by rw [← e2]; exact g6, ⟨f, g7, fun j hj hj2 => e3 j (by have : k + 0 = (gd m c).1 := e1; omega) hj2⟩, fr⟩, rfl⟩
      · rw [lcmp_ge] at c47
        have hyes : trn c1 (grt c1) 0 < c1 (grt c1) 0 := Int64.not_le.mp c47
        have u1 : gd (r + 1) c1 = ((gd r (turnc c1 (grt c1))).1 + 1, (gd r (turnc c1 (grt c1))).2) := by
          rw [show gd (r + 1) c1 = (if trn c1 (grt c1) 0 < c1 (grt c1) 0 then ((gd r (turnc c1 (grt c1))).1 + 1, (gd r (turnc c1 (grt c1))).2) else (0, c1)) from rfl, if_pos hyes]
        have u2 : ∀ j, (gd (j + 1) c1).2 = (gd j (turnc c1 (grt c1))).2 := fun j => by
          rw [show gd (j + 1) c1 = (if trn c1 (grt c1) 0 < c1 (grt c1) 0 then ((gd j (turnc c1 (grt c1))).1 + 1, (gd j (turnc c1 (grt c1))).2) else (0, c1)) from rfl, if_pos hyes]
        rw [u1] at hr e1 e2 e4
        have back : ∀ (f' : Nat → Int32) (M2 : Mem), M2 (gB G + 816) = some (objM G nq (nI (k + 1)) lm lmo lq pd gd') → M2 (gB G + 822) = some (eJ (gT G) 12 (mc (turnc c1 (grt c1)))) → M2 (gB G + 823) = some (eI (gT G) 1000 f') → (∀ z, z ≠ gB G + 816 → z ≠ gB G + 822 → z ≠ gB G + 823 → M2 z = M z) → (∀ j, j < k + 1 → j < 1000 → f' j = nI (grt (gd j c).2)) → V G X 0 0 Q M2 n 12 [some (.ref (gB G + 816)), some (.int (nI q)), some (.int (nI 1)), some (.int (nI (grt c1))), some (.long (c1 (grt c1) 0)), none] [] := fun f' M2 a1 a2 a3 a4 a5 => by
          refine V_drop 3 (V_drop 4 (ih (k + 1) M2 _ f' (by have : (gd r (turnc c1 (grt c1))).1 + 1 < r + 1 := hr; omega) (by omega) a1 a2 a3 a4 ⟨?_, e2, a5, fun j hj => ?_⟩))
          · have : k + ((gd r (turnc c1 (grt c1))).1 + 1) = (gd m c).1 := e1
            omega
          · rw [← u2, e4 (j + 1) (by show j + 1 ≤ (gd r (turnc c1 (grt c1))).1 + 1; omega), show k + 1 + j = k + (j + 1) by omega]
        refine V_iconst F dX7_goDown_50 ki_1 ?_
        refine V_goto F 55 dX7_goDown_51 (by decide) ?_
        refine V_istore_n F dX7_goDown_55 (Nat.le_of_ble_eq_true rfl) ?_
        show V _ _ _ _ _ _ _ _ [_, _, _, _, _, _] _
        refine V_iload_n F dX7_goDown_56 rfl ?_
        refine V_if_eq F 93 dX7_goDown_57 (by decide) (fun c57 => absurd c57 (by decide)) (fun c57 => ?_)
        refine V_aload_n F dX7_goDown_60 rfl ?_
        refine V_get F fl_X7_132 dX7_goDown_61 (n0 _) rfl ?_
        refine V_sipush F dX7_goDown_64 ks_1000 ?_
        refine V_icmp_ge F 80 dX7_goDown_67 (by decide) (fun c67 => ?_) (fun c67 => ?_)
        · have c67 : ¬ k < 1000 := fun z => absurd c67 (nI_ge z (by omega))
          refine V_aload_n F dX7_goDown_80 rfl ?_
          refine V_dup F dX7_goDown_81 rfl ?_
          refine V_get F fl_X7_132 dX7_goDown_82 (n0 _) rfl ?_
          refine V_iconst F dX7_goDown_85 ki_1 ?_
          refine V_iadd F dX7_goDown_86 ?_
          rw [nI_add]
          refine V_put F fl_X7_132 dX7_goDown_87 (n0 _) rfl rfl (Nat.le_of_ble_eq_true rfl) ?_
          refine V_goto F 98 dX7_goDown_90 (by decide) ?_
          refine V_goto F 12 dX7_goDown_98 (by decide) ?_
          exact back f _ (mset_eq _ _ _) ((mset_ne _ _ (by omega)).trans (mset_eq _ _ _)) ((mset_ne _ _ (by omega)).trans (n7 _)) (fun z z1 z2 z3 => by rw [mset_ne _ _ z1, mset_ne _ _ z2]; exact fr z z1 z2 z3) (fun j hj hj2 => e3 j (by omega) hj2)
        · have c67 : k < 1000 := Nat.lt_of_not_le (fun z => c67 (nI_le z (by omega)))
          refine V_aload_n F dX7_goDown_70 rfl ?_
          refine V_get F fl_X7_29 dX7_goDown_71 (n0 _) rfl ?_
          refine V_aload_n F dX7_goDown_74 rfl ?_
          refine V_get F fl_X7_132 dX7_goDown_75 (n0 _) rfl ?_
          refine V_iload_n F dX7_goDown_78 rfl ?_
          refine V_iastN F dX7_goDown_79 (n7 _) k rfl (by omega) (by omega) ?_
          refine V_aload_n F dX7_goDown_80 rfl ?_
          refine V_dup F dX7_goDown_81 rfl ?_
          refine V_get F fl_X7_132 dX7_goDown_82 ((mset_ne _ _ (by omega)).trans (n0 _)) rfl ?_
          refine V_iconst F dX7_goDown_85 ki_1 ?_
          refine V_iadd F dX7_goDown_86 ?_
          rw [nI_add]
          refine V_put F fl_X7_132 dX7_goDown_87 ((mset_ne _ _ (by omega)).trans (n0 _)) rfl rfl (Nat.le_of_ble_eq_true rfl) ?_
          refine V_goto F 98 dX7_goDown_90 (by decide) ?_
          refine V_goto F 12 dX7_goDown_98 (by decide) ?_
          refine back (va_up f k (nI (grt c1))) _ (mset_eq _ _ _) (by rw [mset_ne _ _ (by omega), mset_ne _ _ (by omega), mset_eq]) (by rw [mset_ne _ _ (by omega), mset_eq]) (fun z z1 z2 z3 => by rw [mset_ne _ _ z1, mset_ne _ _ z3, mset_ne _ _ z2]; exact fr z z1 z2 z3) (fun j hj hj2 => ?_)
          unfold va_up
          by_cases q1 : j = k
          · rw [if_pos q1, q1, ← e00]
          · rw [if_neg q1]; exact e3 j (by omega) hj2
  refine V_aload_n F dX7_goDown_0 rfl ?_
  refine V_iload_n F dX7_goDown_1 rfl ?_
  refine V_ivR F iv_X7_120 dX7_goDown_2 (As := [_]) (c_X7_take hO h5 h6 hq hc hin) (by assumption) rfl rfl rfl rfl ?_
  refine V_aload_n F dX7_goDown_5 rfl ?_
  refine V_iconst F dX7_goDown_6 ki_0 ?_
  refine V_put F fl_X7_132 dX7_goDown_7 ((mset_ne _ _ (by omega)).trans hO) rfl rfl (Nat.le_of_ble_eq_true rfl) ?_
  refine V_iconst F dX7_goDown_10 ki_1 ?_
  refine V_istore_n F dX7_goDown_11 (Nat.le_of_ble_eq_true rfl) ?_
  show V _ _ _ _ _ _ _ _ [_, _, _, _, _, _] _
  refine loop m 0 _ c f7 hs rfl (mset_eq _ _ _) ((mset_ne _ _ (by omega)).trans (mset_eq _ _ _)) (by rw [mset_ne _ _ (by omega), mset_ne _ _ (by omega)]; exact h7) (fun z z1 z2 z3 => by rw [mset_ne _ _ z1, mset_ne _ _ z2]) ⟨by omega, rfl, fun j hj => by omega, fun j hj => by rw [Nat.zero_add]⟩
end MOD5
