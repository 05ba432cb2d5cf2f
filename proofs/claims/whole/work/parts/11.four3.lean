def ga : Nat → Nat → Nat → Qd → Bool × Qd
  | 0, _, _, c => (true, c)
  | m + 1, x, y, c => if cRef (turnc c x) x = 0 then ga m y x (turnc c x) else (false, turnc c x)
theorem neg_and : ∀ j, j < 128 → (-nI j) &&& nI 1 = nI (j % 2) := by decide +kernel
theorem neg_step : ∀ j, j < 128 → -nI j + Int32.ofInt (-1) = -nI (j + 1) := by decide +kernel
theorem pos_and (j : Nat) (h : j < 128) : nI j &&& nI 1 = nI (j % 2) := pk_andN (by omega) 1 (by decide)
def sel (e o j : Nat) : Nat := if j % 2 = 0 then e else o
theorem sel_lt {e o j : Nat} (he : e < 4) (ho : o < 4) : sel e o j < 4 := by unfold sel; split <;> assumption
section FOUR3
variable {G : GP} {M : Mem} {n : Option Nat} {a r : Nat} {c : Qd}
theorem c_X1_take {b q : Nat} {c2 : Qd} (h0 : M a = some (eO 1 [.ref r])) (h1 : M r = some (eJ (gT G) 12 (fc c))) (g0 : M b = some (eO 1 [.ref q])) (g1 : M q = some (eJ (gT G) 12 (fc c2))) : Con G yX1_take cX1_take 2 none 1 0 0 [.ref a, .ref b] M none (R1 none (mset M r (eJ (gT G) 12 (fc c2))) none) := by
  refine Con.of (by decide +kernel) (Nat.le_of_ble_eq_true rfl) (fun X F hnm => ?_)
  show V G X 0 0 _ M _ 0 [some (.ref a), some (.ref b)] []
  refine V_aload_n F dX1_take_0 rfl ?_
  refine V_get F fl_X1_11 dX1_take_1 (by assumption) rfl ?_
  refine V_iconst F dX1_take_4 ki_0 ?_
  refine V_aload_n F dX1_take_5 rfl ?_
  refine V_get F fl_X1_11 dX1_take_6 (by assumption) rfl ?_
  refine V_iconst F dX1_take_9 ki_0 ?_
  refine V_bipush F dX1_take_10 kb_12 ?_
  refine V_acopy F ac_X1_15 dX1_take_12 g1 h1 0 0 12 rfl rfl rfl (by omega) (by omega) (by omega) (by omega) (by decide) (Nat.le_of_ble_eq_true rfl) ?_
  refine V_mem (fun H hm => mem_J (g := fc c2) ?_ hm) ?_
  · intro k hk
    unfold va_cpy
    rw [if_pos ⟨by omega, by omega⟩, Nat.sub_zero, Nat.zero_add]
  exact V_vret F rfl dX1_take_15 ⟨rfl, rfl, rfl⟩
theorem c_X1_goAlong (h0 : M a = some (eO 1 [.ref r])) (h1 : M r = some (eJ (gT G) 12 (fc c))) {e o K : Nat} (he : e < 4) (ho : o < 4) (hK : K ≤ 100) : Con G yX1_goAlong cX1_goAlong 5 (some .boolean) 5 0 0 [.ref a, .int (nI e), .int (nI o), .int (nI K)] M n (R1 (some (.int (bI (ga (K - 1) e o c).1))) (mset M r (eJ (gT G) 12 (fc (ga (K - 1) e o c).2))) n) := by
  refine Con.of (by decide +kernel) (Nat.le_of_ble_eq_true rfl) (fun X F hnm => ?_)
  show V G X 0 0 _ M _ 0 [some (.ref a), some (.int (nI e)), some (.int (nI o)), some (.int (nI K)), none] []
  have har := ne_oj h0 h1
  have loop : ∀ (q j : Nat) (M' : Mem) (c' : Qd), q = K + 1 - j → 2 ≤ j → j ≤ 101 → M' a = some (eO 1 [.ref r]) → M' r = some (eJ (gT G) 12 (fc c')) → V G X 0 0 (BQ G X (R1 (some (.int (bI (ga q (sel e o j) (sel e o (j + 1)) c').1))) (mset M' r (eJ (gT G) 12 (fc (ga q (sel e o j) (sel e o (j + 1)) c').2))) n) 0 0) M' n 3 [some (.ref a), some (.int (nI e)), some (.int (nI o)), some (.int (nI K)), some (.int (nI j))] [] := by
    intro q
    induction q with
    | zero =>
      intro j M' c' hq hj hj2 h0 h1
      refine V_iload F dX1_goAlong_3 rfl ?_
      refine V_iload_n F dX1_goAlong_5 rfl ?_
      refine V_icmp_gt F 36 dX1_goAlong_6 (by decide) (fun c6 => ?_) (fun c6 => absurd (nI_lt (by omega) (by omega)) c6)
      refine V_iconst F dX1_goAlong_36 ki_m1 ?_
      refine V_istore F dX1_goAlong_37 (Nat.le_of_ble_eq_true rfl) ?_
      show V _ _ _ _ _ _ _ _ [_, _, _, _, _] _
      refine V_iload F dX1_goAlong_39 rfl ?_
      refine V_iload_n F dX1_goAlong_41 rfl ?_
      refine V_icmp_lt F 72 dX1_goAlong_42 (by decide) (fun c42 => ?_) (fun c42 => absurd (by rw [Int32.lt_iff_toInt_lt, nI_toInt (by omega)]; show (-1 : Int) < _; omega) c42)
      refine V_iconst F dX1_goAlong_72 ki_1 ?_
      exact V_iret F rfl dX1_goAlong_73 rfl ⟨rfl, (mset_self h1).symm, rfl⟩
    | succ q ih =>
      intro j M' c' hq hj hj2 h0 h1
      have hs := sel_lt (j := j) he ho
      have rest : V G X 0 0 (BQ G X (R1 (some (.int (bI (ga (q + 1) (sel e o j) (sel e o (j + 1)) c').1))) (mset M' r (eJ (gT G) 12 (fc (ga (q + 1) (sel e o j) (sel e o (j + 1)) c').2))) n) 0 0) M' n 22 [some (.ref a), some (.int (nI e)), some (.int (nI o)), some (.int (nI K)), some (.int (nI j))] [.int (nI (sel e o j)), .ref a] := by
        unfold ga
        refine V_ivR F iv_X1_47 dX1_goAlong_22 (As := [_]) (c_X1_turnWithin h0 h1 hs) (by assumption) rfl rfl rfl rfl ?_
        refine V_if_ne F 30 dX1_goAlong_25 (by decide) (fun c25 => ?_) (fun c25 => ?_)
        · rw [bI_n] at c25
          have c25 : cRef (turnc c' (sel e o j)) (sel e o j) = 0 := by simpa using c25
          rw [if_pos c25]
          refine V_iinc1 F dX1_goAlong_30 rfl ?_
          show V _ _ _ _ _ _ _ _ [_, _, _, _, _] _
          refine V_goto F 3 dX1_goAlong_33 (by decide) ?_
          have := ih (j + 1) (mset M' r (eJ (gT G) 12 (fc (turnc c' (sel e o j))))) (turnc c' (sel e o j)) (by omega) (by omega) (by omega) ((mset_ne _ _ har).trans h0) (mset_eq _ _ _)
          rw [mset_mset, show sel e o (j + 1 + 1) = sel e o j by unfold sel; rw [show (j + 1 + 1) % 2 = j % 2 by omega]] at this
          exact this
        · rw [bI_0] at c25
          have c25 : ¬ cRef (turnc c' (sel e o j)) (sel e o j) = 0 := by simpa using c25
          rw [if_neg c25]
          refine V_iconst F dX1_goAlong_28 ki_0 ?_
          exact V_iret F rfl dX1_goAlong_29 rfl ⟨rfl, rfl, rfl⟩
      refine V_iload F dX1_goAlong_3 rfl ?_
      refine V_iload_n F dX1_goAlong_5 rfl ?_
      refine V_icmp_gt F 36 dX1_goAlong_6 (by decide) (fun c6 => absurd c6 (nI_nlt (by omega) (by omega))) (fun c6 => ?_)
      refine V_aload_n F dX1_goAlong_9 rfl ?_
      refine V_iload F dX1_goAlong_10 rfl ?_
      refine V_iconst F dX1_goAlong_12 ki_1 ?_
      refine V_iand F dX1_goAlong_13 ?_
      rw [pos_and j (by omega)]
      refine V_if_ne F 21 dX1_goAlong_14 (by decide) (fun c14 => ?_) (fun c14 => ?_)
      · have rest2 := rest
        rw [show sel e o j = o by unfold sel; rw [if_neg (fun z => c14 (by rw [z]; rfl))]] at rest2
        rw [show sel e o j = o by unfold sel; rw [if_neg (fun z => c14 (by rw [z]; rfl))]]
        refine V_iload_n F dX1_goAlong_21 rfl ?_
        exact rest2
      · have rest2 := rest
        have hz : j % 2 = 0 := (nI_eq (b := 0) (by omega) (by omega)).mp c14
        rw [show sel e o j = e by unfold sel; rw [if_pos hz]] at rest2
        rw [show sel e o j = e by unfold sel; rw [if_pos hz]]
        refine V_iload_n F dX1_goAlong_17 rfl ?_
        refine V_goto F 22 dX1_goAlong_18 (by decide) ?_
        exact rest2
  refine V_iconst F dX1_goAlong_0 ki_2 ?_
  refine V_istore F dX1_goAlong_1 (Nat.le_of_ble_eq_true rfl) ?_
  show V _ _ _ _ _ _ _ _ [_, _, _, _, _] _
  have := loop (K + 1 - 2) 2 M c rfl (by omega) (by omega) h0 h1
  rw [show K + 1 - 2 = K - 1 by omega] at this
  exact this
theorem c_X1_goAlongN (h0 : M a = some (eO 1 [.ref r])) (h1 : M r = some (eJ (gT G) 12 (fc c))) {e o K : Nat} (he : e < 4) (ho : o < 4) (hK : K ≤ 100) (hK1 : 1 ≤ K) : Con G yX1_goAlong cX1_goAlong 5 (some .boolean) 5 0 0 [.ref a, .int (nI e), .int (nI o), .int (-nI K)] M n (R1 (some (.int (bI (ga K o e c).1))) (mset M r (eJ (gT G) 12 (fc (ga K o e c).2))) n) := by
  refine Con.of (by decide +kernel) (Nat.le_of_ble_eq_true rfl) (fun X F hnm => ?_)
  show V G X 0 0 _ M _ 0 [some (.ref a), some (.int (nI e)), some (.int (nI o)), some (.int (-nI K)), none] []
  have har := ne_oj h0 h1
  have loop : ∀ (q j : Nat) (M' : Mem) (c' : Qd), q = K + 1 - j → 1 ≤ j → j ≤ 101 → M' a = some (eO 1 [.ref r]) → M' r = some (eJ (gT G) 12 (fc c')) → V G X 0 0 (BQ G X (R1 (some (.int (bI (ga q (sel e o j) (sel e o (j + 1)) c').1))) (mset M' r (eJ (gT G) 12 (fc (ga q (sel e o j) (sel e o (j + 1)) c').2))) n) 0 0) M' n 39 [some (.ref a), some (.int (nI e)), some (.int (nI o)), some (.int (-nI K)), some (.int (-nI j))] [] := by
    intro q
    induction q with
    | zero =>
      intro j M' c' hq hj hj2 h0 h1
      refine V_iload F dX1_goAlong_39 rfl ?_
      refine V_iload_n F dX1_goAlong_41 rfl ?_
      refine V_icmp_lt F 72 dX1_goAlong_42 (by decide) (fun c42 => ?_) (fun c42 => absurd ((sb_nlt (by omega) (by omega)).mpr (by omega)) c42)
      refine V_iconst F dX1_goAlong_72 ki_1 ?_
      exact V_iret F rfl dX1_goAlong_73 rfl ⟨rfl, (mset_self h1).symm, rfl⟩
    | succ q ih =>
      intro j M' c' hq hj hj2 h0 h1
      have hs := sel_lt (j := j) he ho
      have rest : V G X 0 0 (BQ G X (R1 (some (.int (bI (ga (q + 1) (sel e o j) (sel e o (j + 1)) c').1))) (mset M' r (eJ (gT G) 12 (fc (ga (q + 1) (sel e o j) (sel e o (j + 1)) c').2))) n) 0 0) M' n 58 [some (.ref a), some (.int (nI e)), some (.int (nI o)), some (.int (-nI K)), some (.int (-nI j))] [.int (nI (sel e o j)), .ref a] := by
        unfold ga
        refine V_ivR F iv_X1_47 dX1_goAlong_58 (As := [_]) (c_X1_turnWithin h0 h1 hs) (by assumption) rfl rfl rfl rfl ?_
        refine V_if_ne F 66 dX1_goAlong_61 (by decide) (fun c61 => ?_) (fun c61 => ?_)
        · rw [bI_n] at c61
          have c61 : cRef (turnc c' (sel e o j)) (sel e o j) = 0 := by simpa using c61
          rw [if_pos c61]
          refine V_iinc F dX1_goAlong_66 rfl ?_
          show V _ _ _ _ _ _ _ _ [_, _, _, _, _] _
          rw [neg_step j (by omega)]
          refine V_goto F 39 dX1_goAlong_69 (by decide) ?_
          have := ih (j + 1) (mset M' r (eJ (gT G) 12 (fc (turnc c' (sel e o j))))) (turnc c' (sel e o j)) (by omega) (by omega) (by omega) ((mset_ne _ _ har).trans h0) (mset_eq _ _ _)
          rw [mset_mset, show sel e o (j + 1 + 1) = sel e o j by unfold sel; rw [show (j + 1 + 1) % 2 = j % 2 by omega]] at this
          exact this
        · rw [bI_0] at c61
          have c61 : ¬ cRef (turnc c' (sel e o j)) (sel e o j) = 0 := by simpa using c61
          rw [if_neg c61]
          refine V_iconst F dX1_goAlong_64 ki_0 ?_
          exact V_iret F rfl dX1_goAlong_65 rfl ⟨rfl, rfl, rfl⟩
      refine V_iload F dX1_goAlong_39 rfl ?_
      refine V_iload_n F dX1_goAlong_41 rfl ?_
      refine V_icmp_lt F 72 dX1_goAlong_42 (by decide) (fun c42 => absurd c42 (fun z => by have := (sb_nlt (by omega) (by omega)).mp z; omega)) (fun c42 => ?_)
      refine V_aload_n F dX1_goAlong_45 rfl ?_
      refine V_iload F dX1_goAlong_46 rfl ?_
      refine V_iconst F dX1_goAlong_48 ki_1 ?_
      refine V_iand F dX1_goAlong_49 ?_
      rw [neg_and j (by omega)]
      refine V_if_ne F 57 dX1_goAlong_50 (by decide) (fun c50 => ?_) (fun c50 => ?_)
      · have rest2 := rest
        rw [show sel e o j = o by unfold sel; rw [if_neg (fun z => c50 (by rw [z]; rfl))]] at rest2
        rw [show sel e o j = o by unfold sel; rw [if_neg (fun z => c50 (by rw [z]; rfl))]]
        refine V_iload_n F dX1_goAlong_57 rfl ?_
        exact rest2
      · have rest2 := rest
        have hz : j % 2 = 0 := (nI_eq (b := 0) (by omega) (by omega)).mp c50
        rw [show sel e o j = e by unfold sel; rw [if_pos hz]] at rest2
        rw [show sel e o j = e by unfold sel; rw [if_pos hz]]
        refine V_iload_n F dX1_goAlong_53 rfl ?_
        refine V_goto F 58 dX1_goAlong_54 (by decide) ?_
        exact rest2
  refine V_iconst F dX1_goAlong_0 ki_2 ?_
  refine V_istore F dX1_goAlong_1 (Nat.le_of_ble_eq_true rfl) ?_
  show V _ _ _ _ _ _ _ _ [_, _, _, _, _] _
  refine V_iload F dX1_goAlong_3 rfl ?_
  refine V_iload_n F dX1_goAlong_5 rfl ?_
  refine V_icmp_gt F 36 dX1_goAlong_6 (by decide) (fun c6 => ?_) (fun c6 => absurd (by rw [Int32.lt_iff_toInt_lt, sb_negT (by omega)]; show _ < (2 : Int); omega) c6)
  refine V_iconst F dX1_goAlong_36 ki_m1 ?_
  refine V_istore F dX1_goAlong_37 (Nat.le_of_ble_eq_true rfl) ?_
  show V _ _ _ _ _ _ _ _ [_, _, _, _, _] _
  have := loop K 1 M c (by omega) (by omega) (by omega) h0 h1
  exact this
end FOUR3
