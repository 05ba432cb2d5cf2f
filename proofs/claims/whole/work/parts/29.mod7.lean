theorem lN_abs {a : Int64} (h : -4611686018427387904 < a.toInt) : (a < 0 → -a = lN a.toInt.natAbs) ∧ (¬ a < 0 → a = lN a.toInt.natAbs) := by
  have h2 := Int64.toInt_lt a
  have e0 : (0 : Int64).toInt = 0 := by decide
  constructor
  · intro hn
    rw [Int64.lt_iff_toInt_lt, e0] at hn
    apply Int64.toInt_inj.mp
    rw [Int64.toInt_neg, pk_lT (by omega)]
    rw [bm64 (by omega) (by omega)]
    omega
  · intro hn
    rw [Int64.lt_iff_toInt_lt, e0] at hn
    apply Int64.toInt_inj.mp
    rw [pk_lT (by omega)]
    omega
theorem abs_lN {a : Int64} (h : -4611686018427387904 < a.toInt) : abs64 a = lN a.toInt.natAbs := by
  unfold abs64
  split
  · next q => exact (lN_abs h).1 q
  · next q => exact (lN_abs h).2 q
theorem euc_gcd : ∀ (k m A B : Nat), A < 2 ^ 31 → B < 2 ^ 31 → B < 2 ^ k → 2 * k + 1 ≤ m → euc m (lN A) (lN B) = lN (Nat.gcd A B) := by
  have h0 : ∀ m A, 1 ≤ m → euc m (lN A) (lN 0) = lN (Nat.gcd A 0) := by
    intro m A hm
    cases m with
    | zero => omega
    | succ m => unfold euc; rw [if_pos (by rfl), Nat.gcd_zero_right]
  have hs : ∀ m A B, A < 2 ^ 31 → B < 2 ^ 31 → 0 < B → euc (m + 1) (lN A) (lN B) = euc m (lN B) (lN (A % B)) := by
    intro m A B hA hB h
    rw [show euc (m + 1) (lN A) (lN B) = (if lN B = 0 then lN A else euc m (lN B) (lN A - lN A / lN B * lN B)) from rfl]
    rw [if_neg (fun z => by have := (pk_lEQ (a := B) (b := 0) (by omega) (by omega)).mp z; omega), pk_lRem (by omega) h (by omega)]
  intro k
  induction k with
  | zero =>
    intro m A B hA hB hk hm
    have : B = 0 := by omega
    subst this
    exact h0 m A (by omega)
  | succ k ih =>
    intro m A B hA hB hk hm
    obtain ⟨m, rfl⟩ : ∃ q, m = q + 2 := ⟨m - 2, by omega⟩
    by_cases q : B = 0
    · subst q; exact h0 _ A (by omega)
    · have hr := Nat.mod_lt A (show 0 < B by omega)
      rw [show m + 2 = (m + 1) + 1 from rfl, hs (m + 1) A B hA hB (by omega)]
      have hg : Nat.gcd A B = Nat.gcd B (A % B) := by rw [Nat.gcd_comm A B, Nat.gcd_rec B A, Nat.gcd_comm]
      rw [hg]
      by_cases q2 : A % B = 0
      · rw [q2]; exact h0 _ B (by omega)
      · have hr2 := Nat.mod_lt B (show 0 < A % B by omega)
        rw [hs m B (A % B) hB (by omega) (by omega)]
        have hg2 : Nat.gcd B (A % B) = Nat.gcd (A % B) (B % (A % B)) := by rw [Nat.gcd_comm B (A % B), Nat.gcd_rec (A % B) B, Nat.gcd_comm]
        rw [hg2]
        have hp : 2 ^ (k + 1) = 2 * 2 ^ k := by rw [Nat.pow_succ]; omega
        have hle : A % B + B % (A % B) ≤ B := by
          have h1 := Nat.div_add_mod B (A % B)
          have h3 : 1 ≤ B / (A % B) := Nat.div_pos (by omega) (by omega)
          have h4 : A % B ≤ (A % B) * (B / (A % B)) := Nat.le_mul_of_pos_right _ h3
          omega
        exact ih m (A % B) (B % (A % B)) (by omega) (by omega) (by omega) (by omega)
theorem bRef_in {x : Int64} (h : bRef x = false) : x.toInt ≠ 0 ∧ -20000 ≤ x.toInt ∧ x.toInt ≤ 20000 := by
  unfold bRef at h
  simp only [Bool.or_eq_false_iff, decide_eq_false_iff_not, beq_eq_false_iff_ne] at h
  obtain ⟨h1, h2, h3⟩ := h
  rw [Int64.lt_iff_toInt_lt] at h2 h3
  have e1 : (-20000 : Int64).toInt = -20000 := by decide
  have e2 : (20000 : Int64).toInt = 20000 := by decide
  exact ⟨fun z => h1 (Int64.toInt_inj.mp (z.trans (by decide))), by omega, by omega⟩
def bn (c : Qd) (i : Nat) : Nat := (c i 0).toInt.natAbs
def gcds (c : Qd) : Nat := Nat.gcd (Nat.gcd (bn c 0) (bn c 1)) (Nat.gcd (bn c 2) (bn c 3))
theorem gcd_lt {a b : Nat} (ha : 0 < a) (h : a < 2 ^ 15) : Nat.gcd a b < 2 ^ 15 := Nat.lt_of_le_of_lt (Nat.gcd_le_left b ha) h
theorem dvs_gcds {c : Qd} (h : bRefs c = false) : dvs c 4 = lN (gcds c) := by
  unfold bRefs at h
  simp only [Bool.or_eq_false_iff] at h
  obtain ⟨h0, h1, h2, h3⟩ := h
  have b0 := bRef_in h0
  have b1 := bRef_in h1
  have b2 := bRef_in h2
  have b3 := bRef_in h3
  have n0 : 0 < bn c 0 ∧ bn c 0 < 2 ^ 15 := by unfold bn; omega
  have n1 : 0 < bn c 1 ∧ bn c 1 < 2 ^ 15 := by unfold bn; omega
  have n2 : 0 < bn c 2 ∧ bn c 2 < 2 ^ 15 := by unfold bn; omega
  have n3 : 0 < bn c 3 ∧ bn c 3 < 2 ^ 15 := by unfold bn; omega
  have g1 : Nat.gcd (bn c 0) (bn c 1) < 2 ^ 15 ∧ 0 < Nat.gcd (bn c 0) (bn c 1) := ⟨gcd_lt n0.1 n0.2, Nat.gcd_pos_of_pos_left _ n0.1⟩
  have g2 : Nat.gcd (Nat.gcd (bn c 0) (bn c 1)) (bn c 2) < 2 ^ 15 := gcd_lt g1.2 g1.1
  simp only [dvs]
  rw [abs_lN (by omega), abs_lN (by omega), abs_lN (by omega), abs_lN (by omega), show (0 : Int64) = lN 0 from rfl]
  show euc 100 (euc 100 (euc 100 (euc 100 (lN 0) (lN (bn c 0))) (lN (bn c 1))) (lN (bn c 2))) (lN (bn c 3)) = _
  rw [euc_gcd 15 100 0 (bn c 0) (by omega) (by omega) n0.2 (by omega), Nat.gcd_zero_left, euc_gcd 15 100 _ (bn c 1) (by omega) (by omega) n1.2 (by omega), euc_gcd 15 100 _ (bn c 2) (by omega) (by omega) n2.2 (by omega), euc_gcd 15 100 _ (bn c 3) (by omega) (by omega) n3.2 (by omega)]
  unfold gcds
  rw [Nat.gcd_assoc (Nat.gcd (bn c 0) (bn c 1))]
def smb (c : Qd) : Nat → Int64
  | 0 => 0
  | k + 1 => smb c k + c k 0
theorem smb_t (c : Qd) : smb c 4 = tsum c 0 := by
  simp only [smb, tsum, Int64.zero_add]
theorem tch_sym (c : Qd) (i j : Nat) : tch c i c j = tch c j c i := by
  unfold tch tchf
  generalize c i 0 = a
  generalize c i 1 = x
  generalize c i 2 = y
  generalize c j 0 = b
  generalize c j 1 = u
  generalize c j 2 = v
  rw [show (b * x - a * u) * (b * x - a * u) + (b * y - a * v) * (b * y - a * v) = (a * u - b * x) * (a * u - b * x) + (a * v - b * y) * (a * v - b * y) by grind, show (a + b) * (a + b) = (b + a) * (b + a) by grind]
section MOD7
variable {G : GP} {M : Mem} {n : Option Nat} {s : Sg} {lq : Int32} {nq st lm lmo pd gd' : Int32} {c : Qd}
theorem c_X7_common {a b : Int64} (ha : -2147483648 < a.toInt) (ha2 : a.toInt < 2147483648) (hb : -2147483648 < b.toInt) (hb2 : b.toInt < 2147483648) : Con G yX7_common cX7_common 10 (some .long) 0 0 0 [.long a, .long b] M n (R1 (some (.long (lN (Nat.gcd a.toInt.natAbs b.toInt.natAbs)))) M n) := by
  refine Con.of (by decide +kernel) (Nat.le_of_ble_eq_true rfl) (fun X F hnm => ?_)
  show V G X 0 0 _ M _ 0 [some (.long a), none, some (.long b), none, none, none, none, none, none, none] []
  generalize hQ : BQ G X _ 0 0 = Q
  have loop : ∀ (z B A : Nat), B ≤ z → A < 2 ^ 31 → B < 2 ^ 31 → Nat.gcd A B = Nat.gcd a.toInt.natAbs b.toInt.natAbs → V G X 0 0 Q M n 28 [some (.long a), none, some (.long b), none, some (.long (lN A)), none, some (.long (lN B)), none, none, none] [] := by
    intro z
    induction z with
    | zero =>
      intro B A hz hA hB hg
      have : B = 0 := by omega
      subst this
      subst hQ
      rw [Nat.gcd_zero_right] at hg
      refine V_lload F dX7_common_28 rfl ?_
      refine V_lconst F dX7_common_30 (v := 0) (by decide) ?_
      refine V_lcmp F dX7_common_31 ?_
      refine V_if_eq F 53 dX7_common_32 (by decide) (fun c32 => ?_) (fun c32 => absurd (by decide) c32)
      refine V_lload F dX7_common_53 rfl ?_
      exact V_lret F rfl dX7_common_55 ⟨by rw [hg], rfl, rfl⟩
    | succ z ih =>
      intro B A hz hA hB hg
      refine V_lload F dX7_common_28 rfl ?_
      refine V_lconst F dX7_common_30 (v := 0) (by decide) ?_
      refine V_lcmp F dX7_common_31 ?_
      refine V_if_eq F 53 dX7_common_32 (by decide) (fun c32 => ?_) (fun c32 => ?_)
      · rw [lcmp_eq] at c32
        have : B = 0 := (pk_lEQ (b := 0) (by omega) (by omega)).mp c32
        subst this
        subst hQ
        rw [Nat.gcd_zero_right] at hg
        refine V_lload F dX7_common_53 rfl ?_
        exact V_lret F rfl dX7_common_55 ⟨by rw [hg], rfl, rfl⟩
      · rw [lcmp_eq] at c32
        have hB0 : 0 < B := Nat.pos_of_ne_zero (fun e => c32 (by rw [e]; rfl))
        refine V_lload F dX7_common_35 rfl ?_
        refine V_lload F dX7_common_37 rfl ?_
        refine V_lrem F dX7_common_39 c32 ?_
        rw [pk_lRem (by omega) hB0 (by omega)]
        refine V_lstore F dX7_common_40 (Nat.le_of_ble_eq_true rfl) ?_
        show V _ _ _ _ _ _ _ _ [_, _, _, _, _, _, _, _, _, _] _
        refine V_lload F dX7_common_42 rfl ?_
        refine V_lstore F dX7_common_44 (Nat.le_of_ble_eq_true rfl) ?_
        show V _ _ _ _ _ _ _ _ [_, _, _, _, _, _, _, _, _, _] _
        refine V_lload F dX7_common_46 rfl ?_
        refine V_lstore F dX7_common_48 (Nat.le_of_ble_eq_true rfl) ?_
        show V _ _ _ _ _ _ _ _ [_, _, _, _, _, _, _, _, _, _] _
        refine V_goto F 28 dX7_common_50 (by decide) ?_
        refine V_drop 8 (ih (A % B) B (by have := Nat.mod_lt A hB0; omega) hB (by have := Nat.mod_lt A hB0; omega) ?_)
        rw [← hg, Nat.gcd_comm A B, Nat.gcd_rec B A, Nat.gcd_comm]
  have ea := lN_abs (a := a) (by omega)
  have eb := lN_abs (a := b) (by omega)
  have second : V G X 0 0 Q M n 14 [some (.long a), none, some (.long b), none, some (.long (lN a.toInt.natAbs)), none, none, none, none, none] [] := by
    refine V_lload_n F dX7_common_14 rfl ?_
    refine V_lconst F dX7_common_15 (v := 0) (by decide) ?_
    refine V_lcmp F dX7_common_16 ?_
    refine V_if_ge F 25 dX7_common_17 (by decide) (fun c17 => ?_) (fun c17 => ?_)
    · rw [lcmp_ge] at c17
      refine V_lload_n F dX7_common_25 rfl ?_
      refine V_lstore F dX7_common_26 (Nat.le_of_ble_eq_true rfl) ?_
      show V _ _ _ _ _ _ _ _ [_, _, _, _, _, _, _, _, _, _] _
      have := eb.2 (Int64.not_lt.mpr c17)
      rw [this]
      have e2 : (lN b.toInt.natAbs).toInt.natAbs = b.toInt.natAbs := by rw [← this]
      rw [this] at loop
      exact loop _ _ _ (Nat.le_refl _) (by omega) (by omega) (by rw [e2])
    · rw [lcmp_ge] at c17
      refine V_lload_n F dX7_common_20 rfl ?_
      refine V_lneg F dX7_common_21 ?_
      refine V_goto F 26 dX7_common_22 (by decide) ?_
      rw [eb.1 (Int64.not_le.mp c17)]
      refine V_lstore F dX7_common_26 (Nat.le_of_ble_eq_true rfl) ?_
      show V _ _ _ _ _ _ _ _ [_, _, _, _, _, _, _, _, _, _] _
      exact loop _ _ _ (Nat.le_refl _) (by omega) (by omega) rfl
  refine V_lload_n F dX7_common_0 rfl ?_
  refine V_lconst F dX7_common_1 (v := 0) (by decide) ?_
  refine V_lcmp F dX7_common_2 ?_
  refine V_if_ge F 11 dX7_common_3 (by decide) (fun c3 => ?_) (fun c3 => ?_)
  · rw [lcmp_ge] at c3
    have := ea.2 (Int64.not_lt.mpr c3)
    refine V_lload_n F dX7_common_11 rfl ?_
    refine nm_e (P := fun z => V G X 0 0 Q M n 12 [some (.long a), none, some (.long b), none, none, none, none, none, none, none] [.long z]) ?_ a rfl
    have key : V G X 0 0 Q M n 12 [some (.long a), none, some (.long b), none, none, none, none, none, none, none] [.long (lN a.toInt.natAbs)] := by
      refine V_lstore F dX7_common_12 (Nat.le_of_ble_eq_true rfl) ?_
      show V _ _ _ _ _ _ _ _ [_, _, _, _, _, _, _, _, _, _] _
      exact second
    rw [← this] at key
    exact key
  · rw [lcmp_ge] at c3
    refine V_lload_n F dX7_common_6 rfl ?_
    refine V_lneg F dX7_common_7 ?_
    refine V_goto F 12 dX7_common_8 (by decide) ?_
    rw [ea.1 (Int64.not_le.mp c3)]
    refine V_lstore F dX7_common_12 (Nat.le_of_ble_eq_true rfl) ?_
    show V _ _ _ _ _ _ _ _ [_, _, _, _, _, _, _, _, _, _] _
    exact second
theorem c_X7_againstFour (hO : M (gB G + 816) = some (objM G nq st lm lmo lq pd gd')) (h6 : M (gB G + 822) = some (eJ (gT G) 12 (mc c))) : Con G yX7_againstFour cX7_againstFour 8 (some .int) 2 0 0 [.ref (gB G + 816)] M n (R1 (some (.int (rfs c))) M n) := by
  have m3 : ∀ z, mc c (3 * z) = c z 0 := fun z => mc_at (c := c) (i := z) (w := 0) (by omega)
  refine Con.of (by decide +kernel) (Nat.le_of_ble_eq_true rfl) (fun X F hnm => ?_)
  show V G X 0 0 _ M _ 0 [some (.ref (gB G + 816)), none, none, none, none, none, none, none] []
  generalize hQ : BQ G X _ 0 0 = Q
  have s1 : ∀ i : Nat, i < 4 → (bRef (c i 0) = true → bRefs c = true) → (bRef (c i 0) = false → V G X 0 0 Q M n 10 [some (.ref (gB G + 816)), some (.long 0), none, some (.long 0), none, some (.int (nI 0)), some (.int (nI (i + 1))), none] []) → V G X 0 0 Q M n 10 [some (.ref (gB G + 816)), some (.long 0), none, some (.long 0), none, some (.int (nI 0)), some (.int (nI i)), none] [] := by
    intro i hi kf kk
    refine V_iload F dX7_againstFour_10 rfl ?_
    refine V_iconst F dX7_againstFour_12 ki_4 ?_
    refine V_icmp_ge F 40 dX7_againstFour_13 (by decide) (fun c13 => absurd c13 (nI_ge hi (by omega))) (fun c13 => ?_)
    refine V_aload_n F dX7_againstFour_16 rfl ?_
    refine V_get F fl_X7_26 dX7_againstFour_17 (by assumption) rfl ?_
    refine V_iconst F dX7_againstFour_20 ki_3 ?_
    refine V_iload F dX7_againstFour_21 rfl ?_
    refine V_imul F dX7_againstFour_23 ?_
    refine V_laldN F dX7_againstFour_24 (by assumption) (3 * i) (by first | (simp only [pk_mul, nI_add, nI_1, nI_inc]; done) | (simp only [pk_mul, nI_add, nI_1, nI_inc]; rfl) | rfl) (by omega) (by omega) ?_
    rw [m3]
    refine V_isR F is_X7_90 dX7_againstFour_25 (As := [_]) (c_X7_isBend _) rfl rfl rfl ?_
    refine V_if_ne F 34 dX7_againstFour_28 (by decide) (fun c28 => ?_) (fun c28 => ?_)
    · rw [bI_n] at c28
      refine V_iinc1 F dX7_againstFour_34 rfl ?_
      show V _ _ _ _ _ _ _ _ [_, _, _, _, _, _, _, _] _
      refine V_goto F 10 dX7_againstFour_37 (by decide) ?_
      exact kk (by simpa using c28)
    · rw [bI_0] at c28
      subst hQ
      refine V_bipush F dX7_againstFour_31 kb_m15 ?_
      exact V_iret F rfl dX7_againstFour_33 rfl ⟨by simp [rfs, kf (by simpa using c28)], rfl, rfl⟩
  have s2 : ∀ i : Nat, i < 4 → bRefs c = false → (plR c i = true → plRs c = true) → (plR c i = false → V G X 0 0 Q M n 43 [some (.ref (gB G + 816)), some (.long (smb c (i + 1))), none, some (.long (sqs c (i + 1))), none, some (.int (nI (nng c (i + 1)))), some (.int (nI (i + 1))), none] []) → V G X 0 0 Q M n 43 [some (.ref (gB G + 816)), some (.long (smb c i)), none, some (.long (sqs c i)), none, some (.int (nI (nng c i))), some (.int (nI i)), none] [] := by
    intro i hi hb kf kk
    have bad : plR c i = true → V G X 0 0 Q M n 83 [some (.ref (gB G + 816)), some (.long (smb c i)), none, some (.long (sqs c i)), none, some (.int (nI (nng c i))), some (.int (nI i)), none] [] := by
      intro z
      subst hQ
      refine V_bipush F dX7_againstFour_83 kb_m16 ?_
      exact V_iret F rfl dX7_againstFour_85 rfl ⟨by simp [rfs, hb, kf z], rfl, rfl⟩
    refine V_iload F dX7_againstFour_43 rfl ?_
    refine V_iconst F dX7_againstFour_45 ki_4 ?_
    refine V_icmp_ge F 150 dX7_againstFour_46 (by decide) (fun c46 => absurd c46 (nI_ge hi (by omega))) (fun c46 => ?_)
    refine V_aload_n F dX7_againstFour_49 rfl ?_
    refine V_get F fl_X7_26 dX7_againstFour_50 (by assumption) rfl ?_
    refine V_iconst F dX7_againstFour_53 ki_3 ?_
    refine V_iload F dX7_againstFour_54 rfl ?_
    refine V_imul F dX7_againstFour_56 ?_
    refine V_iconst F dX7_againstFour_57 ki_1 ?_
    refine V_iadd F dX7_againstFour_58 ?_
    refine V_laldN F dX7_againstFour_59 (by assumption) (3 * i + 1) (by first | (simp only [pk_mul, nI_add, nI_1, nI_inc]; done) | (simp only [pk_mul, nI_add, nI_1, nI_inc]; rfl) | rfl) (by omega) (by omega) ?_
    rw [mc_at (by omega)]
    refine V_isR F is_X7_94 dX7_againstFour_60 (As := [_]) (c_X7_isPlace _) rfl rfl rfl ?_
    refine V_if_eq F 83 dX7_againstFour_63 (by decide) (fun c63 => ?_) (fun c63 => ?_)
    · rw [bI_0] at c63
      exact bad (by unfold plR; simp at c63; rw [c63]; rfl)
    · rw [bI_n] at c63
      refine V_aload_n F dX7_againstFour_66 rfl ?_
      refine V_get F fl_X7_26 dX7_againstFour_67 (by assumption) rfl ?_
      refine V_iconst F dX7_againstFour_70 ki_3 ?_
      refine V_iload F dX7_againstFour_71 rfl ?_
      refine V_imul F dX7_againstFour_73 ?_
      refine V_iconst F dX7_againstFour_74 ki_2 ?_
      refine V_iadd F dX7_againstFour_75 ?_
      refine V_laldN F dX7_againstFour_76 (by assumption) (3 * i + 2) (by first | (simp only [pk_mul, nI_add, nI_1, nI_inc]; done) | (simp only [pk_mul, nI_add, nI_1, nI_inc]; rfl) | rfl) (by omega) (by omega) ?_
      rw [mc_at (by omega)]
      refine V_isR F is_X7_94 dX7_againstFour_77 (As := [_]) (c_X7_isPlace _) rfl rfl rfl ?_
      refine V_if_ne F 86 dX7_againstFour_80 (by decide) (fun c80 => ?_) (fun c80 => ?_)
      · rw [bI_n] at c80
        have kk := kk (by unfold plR; simp at c63 c80; rw [c63, c80]; rfl)
        refine V_lload_n F dX7_againstFour_86 rfl ?_
        refine V_aload_n F dX7_againstFour_87 rfl ?_
        refine V_get F fl_X7_26 dX7_againstFour_88 (by assumption) rfl ?_
        refine V_iconst F dX7_againstFour_91 ki_3 ?_
        refine V_iload F dX7_againstFour_92 rfl ?_
        refine V_imul F dX7_againstFour_94 ?_
        refine V_laldN F dX7_againstFour_95 (by assumption) (3 * i) (by first | (simp only [pk_mul, nI_add, nI_1, nI_inc]; done) | (simp only [pk_mul, nI_add, nI_1, nI_inc]; rfl) | rfl) (by omega) (by omega) ?_
        rw [m3]
        refine V_ladd F dX7_againstFour_96 ?_
        refine V_lstore_n F dX7_againstFour_97 (Nat.le_of_ble_eq_true rfl) ?_
        show V _ _ _ _ _ _ _ _ [_, _, _, _, _, _, _, _] _
        refine V_lload_n F dX7_againstFour_98 rfl ?_
        refine V_aload_n F dX7_againstFour_99 rfl ?_
        refine V_get F fl_X7_26 dX7_againstFour_100 (by assumption) rfl ?_
        refine V_iconst F dX7_againstFour_103 ki_3 ?_
        refine V_iload F dX7_againstFour_104 rfl ?_
        refine V_imul F dX7_againstFour_106 ?_
        refine V_laldN F dX7_againstFour_107 (by assumption) (3 * i) (by first | (simp only [pk_mul, nI_add, nI_1, nI_inc]; done) | (simp only [pk_mul, nI_add, nI_1, nI_inc]; rfl) | rfl) (by omega) (by omega) ?_
        rw [m3]
        refine V_aload_n F dX7_againstFour_108 rfl ?_
        refine V_get F fl_X7_26 dX7_againstFour_109 (by assumption) rfl ?_
        refine V_iconst F dX7_againstFour_112 ki_3 ?_
        refine V_iload F dX7_againstFour_113 rfl ?_
        refine V_imul F dX7_againstFour_115 ?_
        refine V_laldN F dX7_againstFour_116 (by assumption) (3 * i) (by first | (simp only [pk_mul, nI_add, nI_1, nI_inc]; done) | (simp only [pk_mul, nI_add, nI_1, nI_inc]; rfl) | rfl) (by omega) (by omega) ?_
        rw [m3]
        refine V_lmul F dX7_againstFour_117 ?_
        refine V_ladd F dX7_againstFour_118 ?_
        refine V_lstore_n F dX7_againstFour_119 (Nat.le_of_ble_eq_true rfl) ?_
        show V _ _ _ _ _ _ _ _ [_, _, _, _, _, _, _, _] _
        refine V_iload F dX7_againstFour_120 rfl ?_
        refine V_aload_n F dX7_againstFour_122 rfl ?_
        refine V_get F fl_X7_26 dX7_againstFour_123 (by assumption) rfl ?_
        refine V_iconst F dX7_againstFour_126 ki_3 ?_
        refine V_iload F dX7_againstFour_127 rfl ?_
        refine V_imul F dX7_againstFour_129 ?_
        refine V_laldN F dX7_againstFour_130 (by assumption) (3 * i) (by first | (simp only [pk_mul, nI_add, nI_1, nI_inc]; done) | (simp only [pk_mul, nI_add, nI_1, nI_inc]; rfl) | rfl) (by omega) (by omega) ?_
        rw [m3]
        rw [show nng c (i + 1) = nng c i + (if c i 0 < 0 then 1 else 0) from rfl] at kk
        refine V_lconst F dX7_againstFour_131 (v := 0) (by decide) ?_
        refine V_lcmp F dX7_againstFour_132 ?_
        refine V_if_ge F 140 dX7_againstFour_133 (by decide) (fun c133 => ?_) (fun c133 => ?_)
        · rw [lcmp_ge] at c133
          rw [if_neg (Int64.not_lt.mpr c133)] at kk
          refine V_iconst F dX7_againstFour_140 ki_0 ?_
          refine V_iadd F dX7_againstFour_141 ?_
          rw [nI_add]
          refine V_istore F dX7_againstFour_142 (Nat.le_of_ble_eq_true rfl) ?_
          show V _ _ _ _ _ _ _ _ [_, _, _, _, _, _, _, _] _
          refine V_iinc1 F dX7_againstFour_144 rfl ?_
          show V _ _ _ _ _ _ _ _ [_, _, _, _, _, _, _, _] _
          refine V_goto F 43 dX7_againstFour_147 (by decide) ?_
          exact kk
        · rw [lcmp_ge] at c133
          rw [if_pos (Int64.not_le.mp c133)] at kk
          refine V_iconst F dX7_againstFour_136 ki_1 ?_
          refine V_goto F 141 dX7_againstFour_137 (by decide) ?_
          refine V_iadd F dX7_againstFour_141 ?_
          rw [nI_add]
          refine V_istore F dX7_againstFour_142 (Nat.le_of_ble_eq_true rfl) ?_
          show V _ _ _ _ _ _ _ _ [_, _, _, _, _, _, _, _] _
          refine V_iinc1 F dX7_againstFour_144 rfl ?_
          show V _ _ _ _ _ _ _ _ [_, _, _, _, _, _, _, _] _
          refine V_goto F 43 dX7_againstFour_147 (by decide) ?_
          exact kk
      · rw [bI_0] at c80
        exact bad (by unfold plR; simp at c80; rw [c80]; simp)
  refine V_lconst F dX7_againstFour_0 (v := 0) (by decide) ?_
  refine V_lstore_n F dX7_againstFour_1 (Nat.le_of_ble_eq_true rfl) ?_
  show V _ _ _ _ _ _ _ _ [_, _, _, _, _, _, _, _] _
  refine V_lconst F dX7_againstFour_2 (v := 0) (by decide) ?_
  refine V_lstore_n F dX7_againstFour_3 (Nat.le_of_ble_eq_true rfl) ?_
  show V _ _ _ _ _ _ _ _ [_, _, _, _, _, _, _, _] _
  refine V_iconst F dX7_againstFour_4 ki_0 ?_
  refine V_istore F dX7_againstFour_5 (Nat.le_of_ble_eq_true rfl) ?_
  show V _ _ _ _ _ _ _ _ [_, _, _, _, _, _, _, _] _
  refine V_iconst F dX7_againstFour_7 ki_0 ?_
  refine V_istore F dX7_againstFour_8 (Nat.le_of_ble_eq_true rfl) ?_
  show V _ _ _ _ _ _ _ _ [_, _, _, _, _, _, _, _] _
  refine s1 0 (by omega) (fun q => by simp [bRefs, q]) (fun q0 => s1 1 (by omega) (fun q => by simp [bRefs, q]) (fun q1 => s1 2 (by omega) (fun q => by simp [bRefs, q]) (fun q2 => s1 3 (by omega) (fun q => by simp [bRefs, q]) (fun q3 => ?_))))
  have hb : bRefs c = false := by simp [bRefs, q0, q1, q2, q3]
  have b0 := bRef_in q0
  have b1 := bRef_in q1
  have b2 := bRef_in q2
  have b3 := bRef_in q3
  refine V_iload F dX7_againstFour_10 rfl ?_
  refine V_iconst F dX7_againstFour_12 ki_4 ?_
  refine V_icmp_ge F 40 dX7_againstFour_13 (by decide) (fun c13 => ?_) (fun c13 => absurd (by decide) c13)
  refine V_iconst F dX7_againstFour_40 ki_0 ?_
  refine V_istore F dX7_againstFour_41 (Nat.le_of_ble_eq_true rfl) ?_
  show V _ _ _ _ _ _ _ _ [_, _, _, _, _, _, _, _] _
  refine s2 0 (by omega) hb (fun q => by simp [plRs, q]) (fun p0 => s2 1 (by omega) hb (fun q => by simp [plRs, q]) (fun p1 => s2 2 (by omega) hb (fun q => by simp [plRs, q]) (fun p2 => s2 3 (by omega) hb (fun q => by simp [plRs, q]) (fun p3 => ?_))))
  have hp : plRs c = false := by simp [plRs, p0, p1, p2, p3]
  have t1 : nng c (3 + 1) ≤ 4 := nng_le c 4
  rw [show smb c (3 + 1) = tsum c 0 from smb_t c]
  have bad17 : bst c = false → V G X 0 0 Q M n 168 [some (.ref (gB G + 816)), some (.long (tsum c 0)), none, some (.long (sqs c (3 + 1))), none, some (.int (nI (nng c (3 + 1)))), some (.int (nI (3 + 1))), none] [] := by
    intro z
    subst hQ
    refine V_bipush F dX7_againstFour_168 kb_m17 ?_
    exact V_iret F rfl dX7_againstFour_170 rfl ⟨by simp [rfs, hb, hp, z], rfl, rfl⟩
  refine V_iload F dX7_againstFour_43 rfl ?_
  refine V_iconst F dX7_againstFour_45 ki_4 ?_
  refine V_icmp_ge F 150 dX7_againstFour_46 (by decide) (fun c46 => ?_) (fun c46 => absurd (by decide) c46)
  refine V_ldc2 F dX7_againstFour_150 kl_X7_73 ?_
  refine V_lload_n F dX7_againstFour_153 rfl ?_
  refine V_lmul F dX7_againstFour_154 ?_
  refine V_lload_n F dX7_againstFour_155 rfl ?_
  refine V_lload_n F dX7_againstFour_156 rfl ?_
  refine V_lmul F dX7_againstFour_157 ?_
  refine V_lcmp F dX7_againstFour_158 ?_
  refine V_if_ne F 168 dX7_againstFour_159 (by decide) (fun c159 => ?_) (fun c159 => ?_)
  · rw [lcmp_eq] at c159
    exact bad17 (by simp only [bst, Bool.and_eq_false_iff]; exact Or.inr (by simpa using c159))
  · rw [lcmp_eq] at c159
    refine V_lload_n F dX7_againstFour_162 rfl ?_
    refine V_lconst F dX7_againstFour_163 (v := 0) (by decide) ?_
    refine V_lcmp F dX7_againstFour_164 ?_
    refine V_if_gt F 171 dX7_againstFour_165 (by decide) (fun c165 => ?_) (fun c165 => ?_)
    · rw [lcmp_gt] at c165
      have hst : bst c = true := by simp only [bst, Bool.and_eq_true]; exact ⟨decide_eq_true c165, by simpa using c159⟩
      refine V_iload F dX7_againstFour_171 rfl ?_
      refine V_iconst F dX7_againstFour_173 ki_1 ?_
      refine V_icmp_le F 180 dX7_againstFour_174 (by decide) (fun c174 => ?_) (fun c174 => ?_)
      · rw [nI_leI (b := 1) (by omega) (by omega)] at c174
        have c174 : ¬ 1 < nng c 4 := by have : nng c (3 + 1) ≤ 1 := c174; show ¬ 1 < nng c (3 + 1); omega
        have n0 : 0 < bn c 0 ∧ bn c 0 < 2 ^ 15 := by unfold bn; omega
        have n2 : 0 < bn c 2 ∧ bn c 2 < 2 ^ 15 := by unfold bn; omega
        have l1 := gcd_lt (b := bn c 1) n0.1 n0.2
        have l2 := gcd_lt (b := bn c 3) n2.1 n2.2
        have e1 : (lN (Nat.gcd (bn c 0) (bn c 1))).toInt = (Nat.gcd (bn c 0) (bn c 1) : Int) := pk_lT (by omega)
        have e2 : (lN (Nat.gcd (bn c 2) (bn c 3))).toInt = (Nat.gcd (bn c 2) (bn c 3) : Int) := pk_lT (by omega)
        have mm : mc c 0 = c 0 0 ∧ mc c 3 = c 1 0 ∧ mc c 6 = c 2 0 ∧ mc c 9 = c 3 0 := ⟨rfl, rfl, rfl, rfl⟩
        refine V_aload_n F dX7_againstFour_180 rfl ?_
        refine V_get F fl_X7_26 dX7_againstFour_181 (by assumption) rfl ?_
        refine V_iconst F dX7_againstFour_184 ki_0 ?_
        refine V_laldN F dX7_againstFour_185 (by assumption) _ (by first | (simp only [pk_mul, nI_add, nI_1, nI_inc]; done) | (simp only [pk_mul, nI_add, nI_1, nI_inc]; rfl) | rfl) (by omega) (by omega) ?_
        refine V_aload_n F dX7_againstFour_186 rfl ?_
        refine V_get F fl_X7_26 dX7_againstFour_187 (by assumption) rfl ?_
        refine V_iconst F dX7_againstFour_190 ki_3 ?_
        refine V_laldN F dX7_againstFour_191 (by assumption) _ (by first | (simp only [pk_mul, nI_add, nI_1, nI_inc]; done) | (simp only [pk_mul, nI_add, nI_1, nI_inc]; rfl) | rfl) (by omega) (by omega) ?_
        rw [mm.1, mm.2.1]
        refine V_isR F is_X7_97 dX7_againstFour_192 (As := [_, _]) (c_X7_common (by omega) (by omega) (by omega) (by omega)) rfl rfl rfl ?_
        refine V_aload_n F dX7_againstFour_195 rfl ?_
        refine V_get F fl_X7_26 dX7_againstFour_196 (by assumption) rfl ?_
        refine V_bipush F dX7_againstFour_199 kb_6 ?_
        refine V_laldN F dX7_againstFour_201 (by assumption) _ (by first | (simp only [pk_mul, nI_add, nI_1, nI_inc]; done) | (simp only [pk_mul, nI_add, nI_1, nI_inc]; rfl) | rfl) (by omega) (by omega) ?_
        refine V_aload_n F dX7_againstFour_202 rfl ?_
        refine V_get F fl_X7_26 dX7_againstFour_203 (by assumption) rfl ?_
        refine V_bipush F dX7_againstFour_206 kb_9 ?_
        refine V_laldN F dX7_againstFour_208 (by assumption) _ (by first | (simp only [pk_mul, nI_add, nI_1, nI_inc]; done) | (simp only [pk_mul, nI_add, nI_1, nI_inc]; rfl) | rfl) (by omega) (by omega) ?_
        rw [mm.2.2.1, mm.2.2.2]
        refine V_isR F is_X7_97 dX7_againstFour_209 (As := [_, _]) (c_X7_common (by omega) (by omega) (by omega) (by omega)) rfl rfl rfl ?_
        show V G X 0 0 Q M n 212 _ [.long (lN (Nat.gcd (bn c 2) (bn c 3))), .long (lN (Nat.gcd (bn c 0) (bn c 1)))]
        refine V_isR F is_X7_97 dX7_againstFour_212 (As := [_, _]) (c_X7_common (by omega) (by omega) (by omega) (by omega)) rfl rfl rfl ?_
        rw [e1, e2, Int.natAbs_natCast, Int.natAbs_natCast]
        show V G X 0 0 Q M n 215 _ [.long (lN (gcds c))]
        have hdv := dvs_gcds hb
        rw [← hdv]
        refine V_lconst F dX7_againstFour_215 (v := 1) (by decide) ?_
        refine V_lcmp F dX7_againstFour_216 ?_
        refine V_if_le F 223 dX7_againstFour_217 (by decide) (fun c217 => ?_) (fun c217 => ?_)
        · rw [lcmp_le] at c217
          have c217' : ¬ 1 < dvs c 4 := Int64.not_lt.mpr c217
          have inner : ∀ i j : Nat, i < 4 → j < i → (tch c j c i = true → V G X 0 0 Q M n 235 [some (.ref (gB G + 816)), some (.long (tsum c 0)), none, some (.long (sqs c (3 + 1))), none, some (.int (nI (nng c (3 + 1)))), some (.int (nI i)), some (.int (nI (j + 1)))] []) → (tch c j c i = false → tall c = false) → V G X 0 0 Q M n 235 [some (.ref (gB G + 816)), some (.long (tsum c 0)), none, some (.long (sqs c (3 + 1))), none, some (.int (nI (nng c (3 + 1)))), some (.int (nI i)), some (.int (nI j))] [] := by
            intro i j hi hj kk kf
            refine V_iload F dX7_againstFour_235 rfl ?_
            refine V_iload F dX7_againstFour_237 rfl ?_
            refine V_icmp_ge F 319 dX7_againstFour_239 (by decide) (fun c239 => absurd c239 (nI_ge hj (by omega))) (fun c239 => ?_)
            refine V_aload_n F dX7_againstFour_242 rfl ?_
            refine V_get F fl_X7_26 dX7_againstFour_243 (by assumption) rfl ?_
            refine V_iconst F dX7_againstFour_246 ki_3 ?_
            refine V_iload F dX7_againstFour_247 rfl ?_
            refine V_imul F dX7_againstFour_249 ?_
            refine V_laldN F dX7_againstFour_250 (by assumption) (3 * i) (by first | (simp only [pk_mul, nI_add, nI_1, nI_inc]; done) | (simp only [pk_mul, nI_add, nI_1, nI_inc]; rfl) | rfl) (by omega) (by omega) ?_
            rw [m3]
            refine V_aload_n F dX7_againstFour_251 rfl ?_
            refine V_get F fl_X7_26 dX7_againstFour_252 (by assumption) rfl ?_
            refine V_iconst F dX7_againstFour_255 ki_3 ?_
            refine V_iload F dX7_againstFour_256 rfl ?_
            refine V_imul F dX7_againstFour_258 ?_
            refine V_iconst F dX7_againstFour_259 ki_1 ?_
            refine V_iadd F dX7_againstFour_260 ?_
            refine V_laldN F dX7_againstFour_261 (by assumption) (3 * i + 1) (by first | (simp only [pk_mul, nI_add, nI_1, nI_inc]; done) | (simp only [pk_mul, nI_add, nI_1, nI_inc]; rfl) | rfl) (by omega) (by omega) ?_
            rw [mc_at (by omega)]
            refine V_aload_n F dX7_againstFour_262 rfl ?_
            refine V_get F fl_X7_26 dX7_againstFour_263 (by assumption) rfl ?_
            refine V_iconst F dX7_againstFour_266 ki_3 ?_
            refine V_iload F dX7_againstFour_267 rfl ?_
            refine V_imul F dX7_againstFour_269 ?_
            refine V_iconst F dX7_againstFour_270 ki_2 ?_
            refine V_iadd F dX7_againstFour_271 ?_
            refine V_laldN F dX7_againstFour_272 (by assumption) (3 * i + 2) (by first | (simp only [pk_mul, nI_add, nI_1, nI_inc]; done) | (simp only [pk_mul, nI_add, nI_1, nI_inc]; rfl) | rfl) (by omega) (by omega) ?_
            rw [mc_at (by omega)]
            refine V_aload_n F dX7_againstFour_273 rfl ?_
            refine V_get F fl_X7_26 dX7_againstFour_274 (by assumption) rfl ?_
            refine V_iconst F dX7_againstFour_277 ki_3 ?_
            refine V_iload F dX7_againstFour_278 rfl ?_
            refine V_imul F dX7_againstFour_280 ?_
            refine V_laldN F dX7_againstFour_281 (by assumption) (3 * j) (by first | (simp only [pk_mul, nI_add, nI_1, nI_inc]; done) | (simp only [pk_mul, nI_add, nI_1, nI_inc]; rfl) | rfl) (by omega) (by omega) ?_
            rw [m3]
            refine V_aload_n F dX7_againstFour_282 rfl ?_
            refine V_get F fl_X7_26 dX7_againstFour_283 (by assumption) rfl ?_
            refine V_iconst F dX7_againstFour_286 ki_3 ?_
            refine V_iload F dX7_againstFour_287 rfl ?_
            refine V_imul F dX7_againstFour_289 ?_
            refine V_iconst F dX7_againstFour_290 ki_1 ?_
            refine V_iadd F dX7_againstFour_291 ?_
            refine V_laldN F dX7_againstFour_292 (by assumption) (3 * j + 1) (by first | (simp only [pk_mul, nI_add, nI_1, nI_inc]; done) | (simp only [pk_mul, nI_add, nI_1, nI_inc]; rfl) | rfl) (by omega) (by omega) ?_
            rw [mc_at (by omega)]
            refine V_aload_n F dX7_againstFour_293 rfl ?_
            refine V_get F fl_X7_26 dX7_againstFour_294 (by assumption) rfl ?_
            refine V_iconst F dX7_againstFour_297 ki_3 ?_
            refine V_iload F dX7_againstFour_298 rfl ?_
            refine V_imul F dX7_againstFour_300 ?_
            refine V_iconst F dX7_againstFour_301 ki_2 ?_
            refine V_iadd F dX7_againstFour_302 ?_
            refine V_laldN F dX7_againstFour_303 (by assumption) (3 * j + 2) (by first | (simp only [pk_mul, nI_add, nI_1, nI_inc]; done) | (simp only [pk_mul, nI_add, nI_1, nI_inc]; rfl) | rfl) (by omega) (by omega) ?_
            rw [mc_at (by omega)]
            refine V_isR F is_X7_101 dX7_againstFour_304 (As := [_, _, _, _, _, _]) (c_X7_areTouching _ _ _ _ _ _) rfl rfl rfl ?_
            refine V_if_ne F 313 dX7_againstFour_307 (by decide) (fun c307 => ?_) (fun c307 => ?_)
            · rw [bI_n] at c307
              have c307 : tch c i c j = true := c307
              refine V_iinc1 F dX7_againstFour_313 rfl ?_
              show V _ _ _ _ _ _ _ _ [_, _, _, _, _, _, _, _] _
              refine V_goto F 235 dX7_againstFour_316 (by decide) ?_
              exact kk ((tch_sym c j i).trans c307)
            · rw [bI_0] at c307
              have c307 : tch c i c j = false := c307
              have := kf ((tch_sym c j i).trans c307)
              subst hQ
              refine V_bipush F dX7_againstFour_310 kb_m20 ?_
              exact V_iret F rfl dX7_againstFour_312 rfl ⟨by simp [rfs, hb, hp, hst, c174, c217', this], rfl, rfl⟩
          have outer : ∀ i : Nat, i < 4 → V G X 0 0 Q M n 235 [some (.ref (gB G + 816)), some (.long (tsum c 0)), none, some (.long (sqs c (3 + 1))), none, some (.int (nI (nng c (3 + 1)))), some (.int (nI i)), some (.int (nI 0))] [] → V G X 0 0 Q M n 226 [some (.ref (gB G + 816)), some (.long (tsum c 0)), none, some (.long (sqs c (3 + 1))), none, some (.int (nI (nng c (3 + 1)))), some (.int (nI i)), none] [] := by
            intro i hi kk
            refine V_iload F dX7_againstFour_226 rfl ?_
            refine V_iconst F dX7_againstFour_228 ki_4 ?_
            refine V_icmp_ge F 325 dX7_againstFour_229 (by decide) (fun c229 => absurd c229 (nI_ge hi (by omega))) (fun c229 => ?_)
            refine V_iconst F dX7_againstFour_232 ki_0 ?_
            refine V_istore F dX7_againstFour_233 (Nat.le_of_ble_eq_true rfl) ?_
            show V _ _ _ _ _ _ _ _ [_, _, _, _, _, _, _, _] _
            exact kk
          have back : ∀ i : Nat, i < 4 → V G X 0 0 Q M n 226 [some (.ref (gB G + 816)), some (.long (tsum c 0)), none, some (.long (sqs c (3 + 1))), none, some (.int (nI (nng c (3 + 1)))), some (.int (nI (i + 1))), none] [] → V G X 0 0 Q M n 235 [some (.ref (gB G + 816)), some (.long (tsum c 0)), none, some (.long (sqs c (3 + 1))), none, some (.int (nI (nng c (3 + 1)))), some (.int (nI i)), some (.int (nI i))] [] := by
            intro i hi kk
            refine V_iload F dX7_againstFour_235 rfl ?_
            refine V_iload F dX7_againstFour_237 rfl ?_
            refine V_icmp_ge F 319 dX7_againstFour_239 (by decide) (fun c239 => ?_) (fun c239 => absurd (nI_le (by omega) (by omega)) c239)
            refine V_iinc1 F dX7_againstFour_319 rfl ?_
            show V _ _ _ _ _ _ _ _ [_, _, _, _, _, _, _, _] _
            refine V_goto F 226 dX7_againstFour_322 (by decide) ?_
            exact V_drop 7 kk
          refine V_iconst F dX7_againstFour_223 ki_0 ?_
          refine V_istore F dX7_againstFour_224 (Nat.le_of_ble_eq_true rfl) ?_
          show V _ _ _ _ _ _ _ _ [_, _, _, _, _, _, _, _] _
          refine outer 0 (by omega) (back 0 (by omega) (outer 1 (by omega) (inner 1 0 (by omega) (by omega) (fun u0 => back 1 (by omega) (outer 2 (by omega) (inner 2 0 (by omega) (by omega) (fun u1 => inner 2 1 (by omega) (by omega) (fun u2 => back 2 (by omega) (outer 3 (by omega) (inner 3 0 (by omega) (by omega) (fun u3 => inner 3 1 (by omega) (by omega) (fun u4 => inner 3 2 (by omega) (by omega) (fun u5 => back 3 (by omega) ?_) ?_) ?_) ?_))) ?_) ?_))) ?_)))
          · have ht : tall c = true := by simp [tall, u0, u1, u2, u3, u4, u5]
            subst hQ
            refine V_iload F dX7_againstFour_226 rfl ?_
            refine V_iconst F dX7_againstFour_228 ki_4 ?_
            refine V_icmp_ge F 325 dX7_againstFour_229 (by decide) (fun c229 => ?_) (fun c229 => absurd (by decide) c229)
            refine V_iconst F dX7_againstFour_325 ki_0 ?_
            exact V_iret F rfl dX7_againstFour_326 rfl ⟨by simp [rfs, hb, hp, hst, c174, c217', ht], rfl, rfl⟩
          all_goals (intro q; simp [tall, q])
        · rw [lcmp_le] at c217
          have c217' : 1 < dvs c 4 := Int64.not_le.mp c217
          subst hQ
          refine V_bipush F dX7_againstFour_220 kb_m19 ?_
          exact V_iret F rfl dX7_againstFour_222 rfl ⟨by simp [rfs, hb, hp, hst, c174, c217'], rfl, rfl⟩
      · rw [nI_leI (b := 1) (by omega) (by omega)] at c174
        have c174 : 1 < nng c 4 := by have : ¬ nng c (3 + 1) ≤ 1 := c174; show 1 < nng c (3 + 1); omega
        subst hQ
        refine V_bipush F dX7_againstFour_177 kb_m18 ?_
        exact V_iret F rfl dX7_againstFour_179 rfl ⟨by simp [rfs, hb, hp, hst, c174], rfl, rfl⟩
    · rw [lcmp_gt] at c165
      exact bad17 (by simp only [bst, Bool.and_eq_false_iff]; exact Or.inl (decide_eq_false c165))
end MOD7
