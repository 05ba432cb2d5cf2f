def abs64 (x : Int64) : Int64 := if x < 0 then -x else x
def fmI (x y : Int32) : Int32 := if (x ^^^ y) < 0 ∧ ¬ x - x / y * y = 0 then x - x / y * y + y else x - x / y * y
def fmL (x y : Int64) : Int64 := if (x ^^^ y) < 0 ∧ ¬ x - x / y * y = 0 then x - x / y * y + y else x - x / y * y
def cmp64 (x y : Int64) : Int32 := if x < y then -1 else if x = y then nI 0 else nI 1
section JDK
variable {G : GP} {M : Mem} {n : Option Nat}
theorem c_J9_abs_067f4 (x : Int64) : Con G yJ9_abs_067f4 cJ9_abs_067f4 2 (some .long) 0 0 0 [.long x] M n (R1 (some (.long (abs64 x))) M n) := by
  refine Con.ofF (by decide +kernel) (Nat.le_of_ble_eq_true rfl) (fun X F hnm => ?_)
  show V G X 0 0 _ M _ 0 [some (.long x), none] []
  refine V_lload_n F dJ9_abs_067f4_0 rfl ?_
  refine V_lconst F dJ9_abs_067f4_1 (v := 0) (by decide) ?_
  refine V_lcmp F dJ9_abs_067f4_2 ?_
  refine V_if_ge F 11 dJ9_abs_067f4_3 (by decide) (fun c3 => ?_) (fun c3 => ?_)
  · rw [lcmp_ge] at c3
    refine V_lload_n F dJ9_abs_067f4_11 rfl ?_
    exact V_lret F rfl dJ9_abs_067f4_12 ⟨by unfold abs64; rw [if_neg (by rw [Int64.not_lt]; exact c3)], rfl, rfl⟩
  · rw [lcmp_ge] at c3
    refine V_lload_n F dJ9_abs_067f4_6 rfl ?_
    refine V_lneg F dJ9_abs_067f4_7 ?_
    refine V_goto F 12 dJ9_abs_067f4_8 (by decide) ?_
    exact V_lret F rfl dJ9_abs_067f4_12 ⟨by unfold abs64; rw [if_pos (Int64.not_le.mp c3)], rfl, rfl⟩
theorem c_J9_floorMod_7cf53 (x y : Int32) (hy : ¬ y = 0) : Con G yJ9_floorMod_7cf53 cJ9_floorMod_7cf53 3 (some .int) 0 0 0 [.int x, .int y] M n (R1 (some (.int (fmI x y))) M n) := by
  refine Con.ofF (by decide +kernel) (Nat.le_of_ble_eq_true rfl) (fun X F hnm => ?_)
  show V G X 0 0 _ M _ 0 [some (.int x), some (.int y), none] []
  refine V_iload_n F dJ9_floorMod_7cf53_0 rfl ?_
  refine V_iload_n F dJ9_floorMod_7cf53_1 rfl ?_
  refine V_irem F dJ9_floorMod_7cf53_2 hy ?_
  refine V_istore_n F dJ9_floorMod_7cf53_3 (Nat.le_of_ble_eq_true rfl) ?_
  show V _ _ _ _ _ _ _ _ [_, _, _] _
  refine V_iload_n F dJ9_floorMod_7cf53_4 rfl ?_
  refine V_iload_n F dJ9_floorMod_7cf53_5 rfl ?_
  refine V_ixor F dJ9_floorMod_7cf53_6 ?_
  refine V_if_ge F 18 dJ9_floorMod_7cf53_7 (by decide) (fun c7 => ?_) (fun c7 => ?_)
  · refine V_iload_n F dJ9_floorMod_7cf53_18 rfl ?_
    exact V_iret F rfl dJ9_floorMod_7cf53_19 rfl ⟨by unfold fmI; rw [if_neg (fun q => absurd q.1 (by rw [Int32.not_lt]; exact c7))], rfl, rfl⟩
  · refine V_iload_n F dJ9_floorMod_7cf53_10 rfl ?_
    refine V_if_eq F 18 dJ9_floorMod_7cf53_11 (by decide) (fun c11 => ?_) (fun c11 => ?_)
    · refine V_iload_n F dJ9_floorMod_7cf53_18 rfl ?_
      exact V_iret F rfl dJ9_floorMod_7cf53_19 rfl ⟨by unfold fmI; rw [if_neg (fun q => q.2 c11)], rfl, rfl⟩
    · refine V_iload_n F dJ9_floorMod_7cf53_14 rfl ?_
      refine V_iload_n F dJ9_floorMod_7cf53_15 rfl ?_
      refine V_iadd F dJ9_floorMod_7cf53_16 ?_
      exact V_iret F rfl dJ9_floorMod_7cf53_17 rfl ⟨by unfold fmI; rw [if_pos ⟨Int32.not_le.mp c7, c11⟩], rfl, rfl⟩
theorem c_J9_floorMod_f86c9 (x y : Int64) (hy : ¬ y = 0) : Con G yJ9_floorMod_f86c9 cJ9_floorMod_f86c9 6 (some .long) 0 0 0 [.long x, .long y] M n (R1 (some (.long (fmL x y))) M n) := by
  refine Con.ofF (by decide +kernel) (Nat.le_of_ble_eq_true rfl) (fun X F hnm => ?_)
  show V G X 0 0 _ M _ 0 [some (.long x), none, some (.long y), none, none, none] []
  refine V_lload_n F dJ9_floorMod_f86c9_0 rfl ?_
  refine V_lload_n F dJ9_floorMod_f86c9_1 rfl ?_
  refine V_lrem F dJ9_floorMod_f86c9_2 hy ?_
  refine V_lstore F dJ9_floorMod_f86c9_3 (Nat.le_of_ble_eq_true rfl) ?_
  show V _ _ _ _ _ _ _ _ [_, _, _, _, _, _] _
  refine V_lload_n F dJ9_floorMod_f86c9_5 rfl ?_
  refine V_lload_n F dJ9_floorMod_f86c9_6 rfl ?_
  refine V_lxor F dJ9_floorMod_f86c9_7 ?_
  refine V_lconst F dJ9_floorMod_f86c9_8 (v := 0) (by decide) ?_
  refine V_lcmp F dJ9_floorMod_f86c9_9 ?_
  refine V_if_ge F 25 dJ9_floorMod_f86c9_10 (by decide) (fun c10 => ?_) (fun c10 => ?_)
  · rw [lcmp_ge] at c10
    refine V_lload F dJ9_floorMod_f86c9_25 rfl ?_
    exact V_lret F rfl dJ9_floorMod_f86c9_27 ⟨by unfold fmL; rw [if_neg (fun q => absurd q.1 (by rw [Int64.not_lt]; exact c10))], rfl, rfl⟩
  · rw [lcmp_ge] at c10
    refine V_lload F dJ9_floorMod_f86c9_13 rfl ?_
    refine V_lconst F dJ9_floorMod_f86c9_15 (v := 0) (by decide) ?_
    refine V_lcmp F dJ9_floorMod_f86c9_16 ?_
    refine V_if_eq F 25 dJ9_floorMod_f86c9_17 (by decide) (fun c17 => ?_) (fun c17 => ?_)
    · rw [lcmp_eq] at c17
      refine V_lload F dJ9_floorMod_f86c9_25 rfl ?_
      exact V_lret F rfl dJ9_floorMod_f86c9_27 ⟨by unfold fmL; rw [if_neg (fun q => q.2 c17)], rfl, rfl⟩
    · rw [lcmp_eq] at c17
      refine V_lload F dJ9_floorMod_f86c9_20 rfl ?_
      refine V_lload_n F dJ9_floorMod_f86c9_22 rfl ?_
      refine V_ladd F dJ9_floorMod_f86c9_23 ?_
      exact V_lret F rfl dJ9_floorMod_f86c9_24 ⟨by unfold fmL; rw [if_pos ⟨Int64.not_le.mp c10, c17⟩], rfl, rfl⟩
theorem c_J13_compare_74951 (x y : Int64) : Con G yJ13_compare_74951 cJ13_compare_74951 4 (some .int) 0 0 0 [.long x, .long y] M n (R1 (some (.int (cmp64 x y))) M n) := by
  refine Con.ofF (by decide +kernel) (Nat.le_of_ble_eq_true rfl) (fun X F hnm => ?_)
  show V G X 0 0 _ M _ 0 [some (.long x), none, some (.long y), none] []
  refine V_lload_n F dJ13_compare_74951_0 rfl ?_
  refine V_lload_n F dJ13_compare_74951_1 rfl ?_
  refine V_lcmp F dJ13_compare_74951_2 ?_
  refine V_if_ge F 10 dJ13_compare_74951_3 (by decide) (fun c3 => ?_) (fun c3 => ?_)
  · rw [lcmp_ge] at c3
    refine V_lload_n F dJ13_compare_74951_10 rfl ?_
    refine V_lload_n F dJ13_compare_74951_11 rfl ?_
    refine V_lcmp F dJ13_compare_74951_12 ?_
    refine V_if_ne F 20 dJ13_compare_74951_13 (by decide) (fun c13 => ?_) (fun c13 => ?_)
    · rw [lcmp_eq] at c13
      refine V_iconst F dJ13_compare_74951_20 ki_1 ?_
      exact V_iret F rfl dJ13_compare_74951_21 rfl ⟨by unfold cmp64; rw [if_neg (by rw [Int64.not_lt]; exact c3), if_neg c13], rfl, rfl⟩
    · rw [lcmp_eq] at c13
      refine V_iconst F dJ13_compare_74951_16 ki_0 ?_
      refine V_goto F 21 dJ13_compare_74951_17 (by decide) ?_
      exact V_iret F rfl dJ13_compare_74951_21 rfl ⟨by unfold cmp64; rw [if_neg (by rw [Int64.not_lt]; exact c3), if_pos c13], rfl, rfl⟩
  · rw [lcmp_ge] at c3
    refine V_iconst F dJ13_compare_74951_6 ki_m1 ?_
    refine V_goto F 21 dJ13_compare_74951_7 (by decide) ?_
    exact V_iret F rfl dJ13_compare_74951_21 rfl ⟨by unfold cmp64; rw [if_pos (Int64.not_le.mp c3)], rfl, rfl⟩
def filled (N : Nat) (v : Int64) (f : Nat → Int64) (k : Nat) : Nat → Int64 := fun j => if j < k then v else f j
theorem filled_up {N k : Nat} {v : Int64} {f : Nat → Int64} : va_up (filled N v f k) k v = filled N v f (k + 1) := by
  funext j
  unfold va_up filled
  by_cases h : j = k
  · subst h; simp
  · by_cases h2 : j < k
    · simp [h, h2, Nat.lt_succ_of_lt h2]
    · simp [h, h2, show ¬ j < k + 1 by omega]
theorem c_J7_fill_d0a16 {r N : Nat} {f : Nat → Int64} (h1 : M r = some (eJ (gT G) N f)) (hN : N < 100000) (v : Int64) : Con G yJ7_fill_d0a16 cJ7_fill_d0a16 5 none 0 0 0 [.ref r, .long v] M n (R1 none (mset M r (eJ (gT G) N (filled N v f N))) n) := by
  refine Con.ofF (by decide +kernel) (Nat.le_of_ble_eq_true rfl) (fun X F hnm => ?_)
  show V G X 0 0 _ M _ 0 [some (.ref r), some (.long v), none, none, none] []
  have loop : ∀ m k : Nat, m + k = N → V G X 0 0 (BQ G X (R1 none (mset M r (eJ (gT G) N (filled N v f N))) n) 0 0) (mset M r (eJ (gT G) N (filled N v f k))) n 6 [some (.ref r), some (.long v), none, some (.int (nI k)), some (.int (nI N))] [] := by
    intro m
    induction m with
    | zero =>
      intro k hk
      have hk : k = N := by omega
      subst hk
      refine V_iload_n F dJ7_fill_d0a16_6 rfl ?_
      refine V_iload F dJ7_fill_d0a16_7 rfl ?_
      refine V_icmp_ge F 22 dJ7_fill_d0a16_9 (by decide) (fun c9 => ?_) (fun c9 => absurd (nI_le (by omega) (by omega)) c9)
      exact V_vret F rfl dJ7_fill_d0a16_22 ⟨rfl, rfl, rfl⟩
    | succ m ih =>
      intro k hk
      refine V_iload_n F dJ7_fill_d0a16_6 rfl ?_
      refine V_iload F dJ7_fill_d0a16_7 rfl ?_
      refine V_icmp_ge F 22 dJ7_fill_d0a16_9 (by decide) (fun c9 => absurd c9 (nI_ge (by omega) (by omega))) (fun c9 => ?_)
      refine V_aload_n F dJ7_fill_d0a16_12 rfl ?_
      refine V_iload_n F dJ7_fill_d0a16_13 rfl ?_
      refine V_lload_n F dJ7_fill_d0a16_14 rfl ?_
      refine V_lastN F dJ7_fill_d0a16_15 (mset_eq _ _ _) _ (by first | (simp only [pk_mul, nI_add, nI_1, nI_inc]; done) | (simp only [pk_mul, nI_add, nI_1, nI_inc]; rfl) | rfl) (by omega) (by omega) ?_
      rw [mset_mset, filled_up]
      refine V_iinc1 F dJ7_fill_d0a16_16 rfl ?_
      show V _ _ _ _ _ _ _ _ [_, _, _, _, _] _
      refine V_goto F 6 dJ7_fill_d0a16_19 (by decide) ?_
      exact ih (k + 1) (by omega)
  refine V_iconst F dJ7_fill_d0a16_0 ki_0 ?_
  refine V_istore_n F dJ7_fill_d0a16_1 (Nat.le_of_ble_eq_true rfl) ?_
  show V _ _ _ _ _ _ _ _ [_, _, _, _, _] _
  refine V_aload_n F dJ7_fill_d0a16_2 rfl ?_
  refine V_alen F 1 dJ7_fill_d0a16_3 (by assumption) rfl rfl ?_
  refine V_istore F dJ7_fill_d0a16_4 (Nat.le_of_ble_eq_true rfl) ?_
  show V _ _ _ _ _ _ _ _ [_, _, _, _, _] _
  have := loop N 0 (by omega)
  rw [show filled N v f 0 = f from funext fun j => by simp [filled], mset_self h1] at this
  exact this
end JDK
