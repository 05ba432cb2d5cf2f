theorem rem24 (x : Int32) : (x - x / nI 24 * nI 24).toInt = x.toInt.tmod 24 := by
  have hx1 : (-2147483648 : Int) ≤ x.toInt := Int32.le_toInt x
  have hx2 : x.toInt < 2147483648 := Int32.toInt_lt x
  obtain ⟨t1, t2, t3⟩ := tdv x.toInt
  have hq : (x / nI 24).toInt = x.toInt.tdiv 24 := Int32.toInt_div_of_ne_right x (nI 24) (by decide)
  have hm : (x / nI 24 * nI 24).toInt = x.toInt.tdiv 24 * 24 := by
    rw [Int32.toInt_mul, hq]
    show (x.toInt.tdiv 24 * 24).bmod (2 ^ 32) = _
    exact bm32 (by omega) (by omega)
  rw [Int32.toInt_sub, hm, show x.toInt - x.toInt.tdiv 24 * 24 = x.toInt.tmod 24 by omega]
  exact bm32 (by omega) (by omega)
def rsI (x : Int32) : Nat := (x.toInt % 24).toNat
theorem sh5 {v : Nat} (h : v < 331776) : nI v >>> (nI 5 &&& 31) = nI (v / 32) := pk_shrN (by omega) _ 5 (by decide)
theorem an31 {v : Nat} (h : v < 331776) : nI v &&& nI 31 = nI (v % 32) := pk_andN (by omega) 5 (by decide)
section MOD16
variable {G : GP} {M : Mem} {n : Option Nat} {nq st lm lmo lq pd gd' : Int32} {f : Nat → Int32}
theorem c_X7_restOf (x : Int32) : Con G yX7_restOf cX7_restOf 2 (some .int) 0 0 0 [.int x] M n (R1 (some (.int (nI (rsI x)))) M n) := by
  have hx1 : (-2147483648 : Int) ≤ x.toInt := Int32.le_toInt x
  have hx2 : x.toInt < 2147483648 := Int32.toInt_lt x
  obtain ⟨t1, t2, t3⟩ := tdv x.toInt
  have hr := rem24 x
  have e0 : (0 : Int32).toInt = 0 := by decide
  refine Con.of (by decide +kernel) (Nat.le_of_ble_eq_true rfl) (fun X F hnm => ?_)
  show V G X 0 0 _ M _ 0 [some (.int x), none] []
  refine V_iload_n F dX7_restOf_0 rfl ?_
  refine V_bipush F dX7_restOf_1 kb_24 ?_
  refine V_irem F dX7_restOf_3 (by decide) ?_
  generalize x - x / nI 24 * nI 24 = y at hr ⊢
  refine V_istore_n F dX7_restOf_4 (Nat.le_of_ble_eq_true rfl) ?_
  show V _ _ _ _ _ _ _ _ [_, _] _
  refine V_iload_n F dX7_restOf_5 rfl ?_
  refine V_if_ge F 16 dX7_restOf_6 (by decide) (fun c6 => ?_) (fun c6 => ?_)
  · rw [Int32.le_iff_toInt_le, e0] at c6
    rw [show y = nI (rsI x) from Int32.toInt_inj.mp (by unfold rsI; rw [nI_toInt (by omega), hr]; omega)]
    refine V_iload_n F dX7_restOf_16 rfl ?_
    exact V_iret F rfl dX7_restOf_17 rfl ⟨rfl, rfl, rfl⟩
  · rw [Int32.le_iff_toInt_le, e0] at c6
    refine V_iload_n F dX7_restOf_9 rfl ?_
    refine V_bipush F dX7_restOf_10 kb_24 ?_
    refine V_iadd F dX7_restOf_12 ?_
    rw [show y + nI 24 = nI (rsI x) from Int32.toInt_inj.mp (by
      unfold rsI
      rw [Int32.toInt_add, hr, nI_toInt (by omega), nI_toInt (by omega)]
      show (x.toInt.tmod 24 + 24).bmod (2 ^ 32) = _
      rw [bm32 (by omega) (by omega)]
      omega)]
    refine V_goto F 17 dX7_restOf_13 (by decide) ?_
    exact V_iret F rfl dX7_restOf_17 rfl ⟨rfl, rfl, rfl⟩
theorem c_X7_see (hO : M (gB G + 816) = some (objM G nq st lm lmo lq pd gd')) (h : M (gB G + 830) = some (eI (gT G) 10368 f)) {v : Nat} (hv : v < 331776) : Con G yX7_see cX7_see 3 (some .boolean) 0 0 0 [.ref (gB G + 816), .int (nI v)] M n (R1 (some (.int (bI (!sbit (f (v / 32)) (v % 32))))) (mset M (gB G + 830) (eI (gT G) 10368 (va_up f (v / 32) (orb (f (v / 32)) (v % 32))))) n) := by
  refine Con.of (by decide +kernel) (Nat.le_of_ble_eq_true rfl) (fun X F hnm => ?_)
  show V G X 0 0 _ M _ 0 [some (.ref (gB G + 816)), some (.int (nI v)), none] []
  generalize hQ : BQ G X _ 0 0 = Q
  have late : ∀ w : Int32, (w = nI 1 ∨ w = nI 0) → bI (!sbit (f (v / 32)) (v % 32)) = (if w = nI 1 then nI 0 else nI 1) → V G X 0 0 Q M n 24 [some (.ref (gB G + 816)), some (.int (nI v)), none] [.int w] := by
    intro w hw e
    refine V_istore_n F dX7_see_24 (Nat.le_of_ble_eq_true rfl) ?_
    show V _ _ _ _ _ _ _ _ [_, _, _] _
    refine V_aload_n F dX7_see_25 rfl ?_
    refine V_get F fl_X7_54 dX7_see_26 (by assumption) rfl ?_
    refine V_iload_n F dX7_see_29 rfl ?_
    refine V_iconst F dX7_see_30 ki_5 ?_
    refine V_ishr F dX7_see_31 ?_
    rw [sh5 hv]
    refine V_dup2 F dX7_see_32 rfl rfl ?_
    refine V_ialdN F dX7_see_33 (by assumption) (v / 32) rfl (by omega) (by omega) ?_
    refine V_iconst F dX7_see_34 ki_1 ?_
    refine V_iload_n F dX7_see_35 rfl ?_
    refine V_bipush F dX7_see_36 kb_31 ?_
    refine V_iand F dX7_see_38 ?_
    rw [an31 hv]
    refine V_ishl F dX7_see_39 ?_
    refine V_ior F dX7_see_40 ?_
    refine V_iastN F dX7_see_41 (by assumption) (v / 32) rfl (by omega) (by omega) ?_
    show V G X 0 0 Q (mset M (gB G + 830) (eI (gT G) 10368 (va_up f (v / 32) (orb (f (v / 32)) (v % 32))))) n _ _ _
    subst hQ
    rcases hw with rfl | rfl
    · rw [if_pos rfl] at e
      refine V_iload_n F dX7_see_42 rfl ?_
      refine V_if_ne F 50 dX7_see_43 (by decide) (fun c43 => ?_) (fun c43 => absurd c43 (by decide))
      refine V_iconst F dX7_see_50 ki_0 ?_
      exact V_iret F rfl dX7_see_51 rfl ⟨by rw [e], rfl, rfl⟩
    · rw [if_neg (by decide)] at e
      refine V_iload_n F dX7_see_42 rfl ?_
      refine V_if_ne F 50 dX7_see_43 (by decide) (fun c43 => absurd rfl c43) (fun c43 => ?_)
      refine V_iconst F dX7_see_46 ki_1 ?_
      refine V_goto F 51 dX7_see_47 (by decide) ?_
      exact V_iret F rfl dX7_see_51 rfl ⟨by rw [e], rfl, rfl⟩
  refine V_aload_n F dX7_see_0 rfl ?_
  refine V_get F fl_X7_54 dX7_see_1 (by assumption) rfl ?_
  refine V_iload_n F dX7_see_4 rfl ?_
  refine V_iconst F dX7_see_5 ki_5 ?_
  refine V_ishr F dX7_see_6 ?_
  rw [sh5 hv]
  refine V_ialdN F dX7_see_7 (by assumption) (v / 32) rfl (by omega) (by omega) ?_
  refine V_iload_n F dX7_see_8 rfl ?_
  refine V_bipush F dX7_see_9 kb_31 ?_
  refine V_iand F dX7_see_11 ?_
  rw [an31 hv]
  refine V_ishr F dX7_see_12 ?_
  refine V_iconst F dX7_see_13 ki_1 ?_
  refine V_iand F dX7_see_14 ?_
  refine V_iconst F dX7_see_15 ki_1 ?_
  refine V_icmp_ne F 23 dX7_see_16 (by decide) (fun c16 => ?_) (fun c16 => ?_)
  · have : sbit (f (v / 32)) (v % 32) = false := by unfold sbit; exact beq_false_of_ne c16
    refine V_iconst F dX7_see_23 ki_0 ?_
    exact late _ (Or.inr rfl) (by rw [this]; rfl)
  · have : sbit (f (v / 32)) (v % 32) = true := by unfold sbit; exact beq_iff_eq.mpr c16
    refine V_iconst F dX7_see_19 ki_1 ?_
    refine V_goto F 24 dX7_see_20 (by decide) ?_
    exact late _ (Or.inl rfl) (by rw [this]; rfl)
end MOD16
