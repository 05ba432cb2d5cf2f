theorem cmp64_p (x y : Int64) : 0 < cmp64 x y ↔ y < x := by
  unfold cmp64
  by_cases h : x < y
  · rw [if_pos h]
    exact ⟨fun q => absurd q (by decide), fun q => absurd q (Int64.lt_asymm h)⟩
  · rw [if_neg h]
    by_cases h2 : x = y
    · subst h2
      simp [nI_0]
    · simp only [h2, if_false]
      refine ⟨fun _ => ?_, fun _ => by decide⟩
      rw [Int64.lt_iff_toInt_lt] at h ⊢
      have : x.toInt ≠ y.toInt := fun z => h2 (Int64.toInt_inj.mp z)
      omega
theorem ordv_p (p q : Nat → Int64) : 0 < ordv p q ↔ (q 0 < p 0 ∨ (p 0 = q 0 ∧ (q 1 < p 1 ∨ (p 1 = q 1 ∧ q 2 < p 2)))) := by
  unfold ordv
  by_cases h0 : p 0 = q 0
  · rw [if_neg (fun z => z h0)]
    by_cases h1 : p 1 = q 1
    · rw [if_neg (fun z => z h1), cmp64_p]
      simp [h0, h1]
    · rw [if_pos h1, cmp64_p]
      simp [h0, h1]
  · rw [if_pos h0, cmp64_p]
    simp [h0]
theorem ordv_0 (p q : Nat → Int64) : ordv p q = 0 ↔ (p 0 = q 0 ∧ p 1 = q 1 ∧ p 2 = q 2) := by
  unfold ordv
  by_cases h0 : p 0 = q 0
  · rw [if_neg (fun z => z h0)]
    by_cases h1 : p 1 = q 1
    · rw [if_neg (fun z => z h1), cmp64_0]
      simp [h0, h1]
    · rw [if_pos h1, cmp64_0]
      simp [h1]
  · rw [if_pos h0, cmp64_0]
    simp [h0]
def relG (g : Nat → Int64) (lst : Nat → Nat → Int64) (N : Nat) : Prop := ∀ k w, k < N → w < 3 → g (3 * k + w) = lst k w
def shf (g : Nat → Int64) (N t : Nat) : Nat → Int64 := fun z => if t + 3 ≤ z ∧ z < 3 * N + 3 then g (z - 3) else g z
theorem shf_0 (g : Nat → Int64) (N : Nat) : shf g N (3 * N) = g := by
  funext z
  unfold shf
  rw [if_neg (by omega)]
theorem shf_up {g : Nat → Int64} {N t : Nat} (h : t < 3 * N) : va_up (shf g N (t + 1)) (t + 3) (shf g N (t + 1) t) = shf g N t := by
  funext z
  unfold va_up shf
  by_cases q : z = t + 3
  · rw [if_pos q, if_neg (by omega), if_pos (by omega), q, Nat.add_sub_cancel]
  · rw [if_neg q]
    by_cases q2 : t + 3 ≤ z ∧ z < 3 * N + 3
    · rw [if_pos (by omega), if_pos q2]
    · rw [if_neg (by omega), if_neg q2]
section MOD12
variable {G : GP} {M : Mem} {n : Option Nat} {nq st lm lmo lq pd gd' : Int32} {c : Qd} {lst : Nat → Nat → Int64} {g : Nat → Int64} {N : Nat}
theorem c_X7_isBehind (hO : M (gB G + 816) = some (objM G nq st lm lmo lq pd gd')) (hg : M (gB G + 829) = some (eJ (gT G) 732 g)) {k : Nat} (hk : k < 240) (p : Nat → Int64) (hp : ∀ w, w < 3 → g (3 * k + w) = p w) (q : Nat → Int64) : Con G yX7_isBehind cX7_isBehind 12 (some .boolean) 0 0 0 [.ref (gB G + 816), .int (nI k), .long (q 0), .long (q 1), .long (q 2)] M n (R1 (some (.int (bI (decide (0 < ordv p q))))) M n) := by
  have h0 : g (3 * k) = p 0 := hp 0 (by omega)
  have o := ordv_p p q
  refine Con.of (by decide +kernel) (Nat.le_of_ble_eq_true rfl) (fun X F hnm => ?_)
  show V G X 0 0 _ M _ 0 [some (.ref (gB G + 816)), some (.int (nI k)), some (.long (q 0)), none, some (.long (q 1)), none, some (.long (q 2)), none, none, none, none, none] []
  generalize hQ : BQ G X _ 0 0 = Q
  have yes : 0 < ordv p q → V G X 0 0 Q M n 68 [some (.ref (gB G + 816)), some (.int (nI k)), some (.long (q 0)), none, some (.long (q 1)), none, some (.long (q 2)), none, some (.long (p 0)), none, some (.long (p 1)), none] [] := by
    intro z
    subst hQ
    refine V_iconst F dX7_isBehind_68 ki_1 ?_
    refine V_goto F 73 dX7_isBehind_69 (by decide) ?_
    exact V_iret F rfl dX7_isBehind_73 rfl ⟨rt (decide_eq_true z), rfl, rfl⟩
  have no : ¬ 0 < ordv p q → V G X 0 0 Q M n 72 [some (.ref (gB G + 816)), some (.int (nI k)), some (.long (q 0)), none, some (.long (q 1)), none, some (.long (q 2)), none, some (.long (p 0)), none, some (.long (p 1)), none] [] := by
    intro z
    subst hQ
    refine V_iconst F dX7_isBehind_72 ki_0 ?_
    exact V_iret F rfl dX7_isBehind_73 rfl ⟨rf (decide_eq_false z), rfl, rfl⟩
  refine V_aload_n F dX7_isBehind_0 rfl ?_
  refine V_get F fl_X7_51 dX7_isBehind_1 (by assumption) rfl ?_
  refine V_iconst F dX7_isBehind_4 ki_3 ?_
  refine V_iload_n F dX7_isBehind_5 rfl ?_
  refine V_imul F dX7_isBehind_6 ?_
  refine V_laldN F dX7_isBehind_7 (by assumption) (3 * k) (by first | (simp only [pk_mul, nI_add, nI_1, nI_inc]; done) | (simp only [pk_mul, nI_add, nI_1, nI_inc]; rfl) | rfl) (by omega) (by omega) ?_
  rw [h0]
  refine V_lstore F dX7_isBehind_8 (Nat.le_of_ble_eq_true rfl) ?_
  show V _ _ _ _ _ _ _ _ [_, _, _, _, _, _, _, _, _, _, _, _] _
  refine V_aload_n F dX7_isBehind_10 rfl ?_
  refine V_get F fl_X7_51 dX7_isBehind_11 (by assumption) rfl ?_
  refine V_iconst F dX7_isBehind_14 ki_3 ?_
  refine V_iload_n F dX7_isBehind_15 rfl ?_
  refine V_imul F dX7_isBehind_16 ?_
  refine V_iconst F dX7_isBehind_17 ki_1 ?_
  refine V_iadd F dX7_isBehind_18 ?_
  refine V_laldN F dX7_isBehind_19 (by assumption) (3 * k + 1) (by first | (simp only [pk_mul, nI_add, nI_1, nI_inc]; done) | (simp only [pk_mul, nI_add, nI_1, nI_inc]; rfl) | rfl) (by omega) (by omega) ?_
  rw [hp 1 (by omega)]
  refine V_lstore F dX7_isBehind_20 (Nat.le_of_ble_eq_true rfl) ?_
  show V _ _ _ _ _ _ _ _ [_, _, _, _, _, _, _, _, _, _, _, _] _
  refine V_lload F dX7_isBehind_22 rfl ?_
  refine V_lload_n F dX7_isBehind_24 rfl ?_
  refine V_lcmp F dX7_isBehind_25 ?_
  refine V_if_gt F 68 dX7_isBehind_26 (by decide) (fun c26 => ?_) (fun c26 => ?_)
  · rw [lcmp_gt] at c26
    exact yes (o.mpr (Or.inl c26))
  · rw [lcmp_gt] at c26
    refine V_lload F dX7_isBehind_29 rfl ?_
    refine V_lload_n F dX7_isBehind_31 rfl ?_
    refine V_lcmp F dX7_isBehind_32 ?_
    refine V_if_ne F 72 dX7_isBehind_33 (by decide) (fun c33 => ?_) (fun c33 => ?_)
    · rw [lcmp_eq] at c33
      exact no (fun z => (o.mp z).elim c26 (fun z => c33 z.1))
    · rw [lcmp_eq] at c33
      refine V_lload F dX7_isBehind_36 rfl ?_
      refine V_lload F dX7_isBehind_38 rfl ?_
      refine V_lcmp F dX7_isBehind_40 ?_
      refine V_if_gt F 68 dX7_isBehind_41 (by decide) (fun c41 => ?_) (fun c41 => ?_)
      · rw [lcmp_gt] at c41
        exact yes (o.mpr (Or.inr ⟨c33, Or.inl c41⟩))
      · rw [lcmp_gt] at c41
        refine V_lload F dX7_isBehind_44 rfl ?_
        refine V_lload F dX7_isBehind_46 rfl ?_
        refine V_lcmp F dX7_isBehind_48 ?_
        refine V_if_ne F 72 dX7_isBehind_49 (by decide) (fun c49 => ?_) (fun c49 => ?_)
        · rw [lcmp_eq] at c49
          exact no (fun z => (o.mp z).elim c26 (fun z => z.2.elim c41 (fun z => c49 z.1)))
        · rw [lcmp_eq] at c49
          refine V_aload_n F dX7_isBehind_52 rfl ?_
          refine V_get F fl_X7_51 dX7_isBehind_53 (by assumption) rfl ?_
          refine V_iconst F dX7_isBehind_56 ki_3 ?_
          refine V_iload_n F dX7_isBehind_57 rfl ?_
          refine V_imul F dX7_isBehind_58 ?_
          refine V_iconst F dX7_isBehind_59 ki_2 ?_
          refine V_iadd F dX7_isBehind_60 ?_
          refine V_laldN F dX7_isBehind_61 (by assumption) (3 * k + 2) (by first | (simp only [pk_mul, nI_add, nI_1, nI_inc]; done) | (simp only [pk_mul, nI_add, nI_1, nI_inc]; rfl) | rfl) (by omega) (by omega) ?_
          rw [hp 2 (by omega)]
          refine V_lload F dX7_isBehind_62 rfl ?_
          refine V_lcmp F dX7_isBehind_64 ?_
          refine V_if_le F 72 dX7_isBehind_65 (by decide) (fun c65 => ?_) (fun c65 => ?_)
          · rw [lcmp_le] at c65
            exact no (fun z => (o.mp z).elim c26 (fun z => z.2.elim c41 (fun z => absurd z.2 (Int64.not_lt.mpr c65))))
          · rw [lcmp_le] at c65
            exact yes (o.mpr (Or.inr ⟨c33, Or.inr ⟨c49, Int64.not_le.mp c65⟩⟩))
def listsP (G : GP) (M M' : Mem) (nq st lm lmo lq pd : Int32) (e : Bool × Nat × (Nat → Nat → Int64)) : Prop := M' (gB G + 816) = some (objM G nq st lm lmo lq pd (nI e.2.1)) ∧ (∃ g', M' (gB G + 829) = some (eJ (gT G) 732 g') ∧ relG g' e.2.2 e.2.1) ∧ ∀ z, z ≠ gB G + 816 → z ≠ gB G + 829 → M' z = M z
theorem c_X7_lists (hO : M (gB G + 816) = some (objM G nq st lm lmo lq pd (nI N))) (h6 : M (gB G + 822) = some (eJ (gT G) 12 (mc c))) (hg : M (gB G + 829) = some (eJ (gT G) 732 g)) (hr : relG g lst N) (hN : N ≤ 240) {i : Nat} (hi : i < 4) : Con G yX7_lists cX7_lists 10 (some .boolean) 2 0 0 [.ref (gB G + 816), .int (nI i)] M n (fun v M' n' => v = some (.int (bI (ent lst N c i).1)) ∧ listsP G M M' nq st lm lmo lq pd (ent lst N c i) ∧ n' = n) := by
  have m3 : mc c (3 * i) = c i 0 := mc_at (c := c) (i := i) (w := 0) (by omega)
  refine Con.of (by decide +kernel) (Nat.le_of_ble_eq_true rfl) (fun X F hnm => ?_)
  show V G X 0 0 _ M _ 0 [some (.ref (gB G + 816)), some (.int (nI i)), none, none, none, none, none, none, none, none] []
  generalize hE : ent lst N c i = E
  unfold ent at hE
  generalize hQ : BQ G X _ 0 0 = Q
  have refd : ¬ cRef c i = 0 → V G X 0 0 Q M n 56 [some (.ref (gB G + 816)), some (.int (nI i)), some (.long (c i 0)), none, some (.long (c i 1)), none, some (.long (c i 2)), none, none, none] [] := by
    intro z
    rw [if_neg z] at hE
    subst hE hQ
    refine V_iconst F dX7_lists_56 ki_0 ?_
    exact V_iret F rfl dX7_lists_57 rfl ⟨rfl, ⟨hO, ⟨g, hg, hr⟩, fun _ _ _ => rfl⟩, rfl⟩
  refine V_aload_n F dX7_lists_0 rfl ?_
  refine V_get F fl_X7_26 dX7_lists_1 (by assumption) rfl ?_
  refine V_iconst F dX7_lists_4 ki_3 ?_
  refine V_iload_n F dX7_lists_5 rfl ?_
  refine V_imul F dX7_lists_6 ?_
  refine V_laldN F dX7_lists_7 (by assumption) (3 * i) (by first | (simp only [pk_mul, nI_add, nI_1, nI_inc]; done) | (simp only [pk_mul, nI_add, nI_1, nI_inc]; rfl) | rfl) (by omega) (by omega) ?_
  rw [m3]
  refine V_lstore_n F dX7_lists_8 (Nat.le_of_ble_eq_true rfl) ?_
  show V _ _ _ _ _ _ _ _ [_, _, _, _, _, _, _, _, _, _] _
  refine V_aload_n F dX7_lists_9 rfl ?_
  refine V_get F fl_X7_26 dX7_lists_10 (by assumption) rfl ?_
  refine V_iconst F dX7_lists_13 ki_3 ?_
  refine V_iload_n F dX7_lists_14 rfl ?_
  refine V_imul F dX7_lists_15 ?_
  refine V_iconst F dX7_lists_16 ki_1 ?_
  refine V_iadd F dX7_lists_17 ?_
  refine V_laldN F dX7_lists_18 (by assumption) (3 * i + 1) (by first | (simp only [pk_mul, nI_add, nI_1, nI_inc]; done) | (simp only [pk_mul, nI_add, nI_1, nI_inc]; rfl) | rfl) (by omega) (by omega) ?_
  rw [mc_at (by omega)]
  refine V_lstore F dX7_lists_19 (Nat.le_of_ble_eq_true rfl) ?_
  show V _ _ _ _ _ _ _ _ [_, _, _, _, _, _, _, _, _, _] _
  refine V_aload_n F dX7_lists_21 rfl ?_
  refine V_get F fl_X7_26 dX7_lists_22 (by assumption) rfl ?_
  refine V_iconst F dX7_lists_25 ki_3 ?_
  refine V_iload_n F dX7_lists_26 rfl ?_
  refine V_imul F dX7_lists_27 ?_
  refine V_iconst F dX7_lists_28 ki_2 ?_
  refine V_iadd F dX7_lists_29 ?_
  refine V_laldN F dX7_lists_30 (by assumption) (3 * i + 2) (by first | (simp only [pk_mul, nI_add, nI_1, nI_inc]; done) | (simp only [pk_mul, nI_add, nI_1, nI_inc]; rfl) | rfl) (by omega) (by omega) ?_
  rw [mc_at (by omega)]
  refine V_lstore F dX7_lists_31 (Nat.le_of_ble_eq_true rfl) ?_
  show V _ _ _ _ _ _ _ _ [_, _, _, _, _, _, _, _, _, _] _
  refine V_lload_n F dX7_lists_33 rfl ?_
  refine V_isR F is_X7_90 dX7_lists_34 (As := [_]) (c_X7_isBend _) rfl rfl rfl ?_
  refine V_if_eq F 56 dX7_lists_37 (by decide) (fun c37 => ?_) (fun c37 => ?_)
  · rw [bI_0] at c37
    exact refd (fun z => by have := (cRef_0 z).1; rw [this] at c37; cases c37)
  · rw [bI_n] at c37
    refine V_lload F dX7_lists_40 rfl ?_
    refine V_isR F is_X7_94 dX7_lists_42 (As := [_]) (c_X7_isPlace _) rfl rfl rfl ?_
    refine V_if_eq F 56 dX7_lists_45 (by decide) (fun c45 => ?_) (fun c45 => ?_)
    · rw [bI_0] at c45
      exact refd (fun z => by have := (cRef_0 z).2; unfold plR at this; rw [Bool.or_eq_false_iff] at this; rw [this.1] at c45; cases c45)
    · rw [bI_n] at c45
      refine V_lload F dX7_lists_48 rfl ?_
      refine V_isR F is_X7_94 dX7_lists_50 (As := [_]) (c_X7_isPlace _) rfl rfl rfl ?_
      refine V_if_ne F 58 dX7_lists_53 (by decide) (fun c53 => ?_) (fun c53 => ?_)
      · rw [bI_n] at c53
        have hz : cRef c i = 0 := by
          unfold cRef plR
          simp only [Bool.not_eq_true'] at c37 c45 c53
          rw [c37, c45, c53]
          rfl
        rw [if_pos hz] at hE
        have p0 := posl_le lst (c i) N
        generalize hp : posl lst (c i) N = p at hE p0
        have late : ¬ (0 < p ∧ ordv (lst (p - 1)) (c i) = 0) → V G X 0 0 Q M n 148 [some (.ref (gB G + 816)), some (.int (nI i)), some (.long (c i 0)), none, some (.long (c i 1)), none, some (.long (c i 2)), none, some (.int (nI p)), none] [] := by
          intro hno
          rw [if_neg hno] at hE
          refine V_aload_n F dX7_lists_148 rfl ?_
          refine V_get F fl_X7_144 dX7_lists_149 (by assumption) rfl ?_
          refine V_sipush F dX7_lists_152 ks_240 ?_
          refine V_icmp_ne F 160 dX7_lists_155 (by decide) (fun c155 => ?_) (fun c155 => ?_)
          · have c155 : N < 240 := by
              have : N ≠ 240 := fun q => c155 (by rw [q])
              omega
            rw [if_neg (show ¬ 240 ≤ N by omega)] at hE
            have shift : ∀ (m t : Nat) (x : Int32), m + 3 * p = t → t ≤ 3 * N → x.toInt = (t : Int) - 1 → V G X 0 0 Q (mset M (gB G + 829) (eJ (gT G) 732 (shf g N (3 * p)))) n 201 [some (.ref (gB G + 816)), some (.int (nI i)), some (.long (c i 0)), none, some (.long (c i 1)), none, some (.long (c i 2)), none, some (.int (nI p)), none] [] → V G X 0 0 Q (mset M (gB G + 829) (eJ (gT G) 732 (shf g N t))) n 170 [some (.ref (gB G + 816)), some (.int (nI i)), some (.long (c i 0)), none, some (.long (c i 1)), none, some (.long (c i 2)), none, some (.int (nI p)), some (.int x)] [] := by
              intro m
              induction m with
              | zero =>
                intro t x ht htN hx kk
                have ht : t = 3 * p := by omega
                subst ht
                refine V_iload F dX7_lists_170 rfl ?_
                refine V_iconst F dX7_lists_172 ki_3 ?_
                refine V_iload F dX7_lists_173 rfl ?_
                refine V_imul F dX7_lists_175 ?_
                rw [pk_mul]
                refine V_icmp_lt F 201 dX7_lists_176 (by decide) (fun c176 => ?_) (fun c176 => absurd (show x < nI (3 * p) by rw [Int32.lt_iff_toInt_lt, hx, nI_toInt (by omega)]; omega) c176)
                exact V_drop 9 kk
              | succ m ih =>
                intro t x ht htN hx kk
                obtain ⟨u, rfl⟩ : ∃ u, t = u + 1 := ⟨t - 1, by omega⟩
                have hxu : x = nI u := Int32.toInt_inj.mp (by rw [hx, nI_toInt (by omega)]; omega)
                subst hxu
                have O1 := (mset_ne M (b := gB G + 816) (eJ (gT G) 732 (shf g N (u + 1))) (show gB G + 816 ≠ gB G + 829 by omega)).trans hO
                refine V_iload F dX7_lists_170 rfl ?_
                refine V_iconst F dX7_lists_172 ki_3 ?_
                refine V_iload F dX7_lists_173 rfl ?_
                refine V_imul F dX7_lists_175 ?_
                rw [pk_mul]
                refine V_icmp_lt F 201 dX7_lists_176 (by decide) (fun c176 => absurd c176 (nI_nlt (by omega) (by omega))) (fun c176 => ?_)
                refine V_aload_n F dX7_lists_179 rfl ?_
                refine V_get F fl_X7_51 dX7_lists_180 O1 rfl ?_
                refine V_iload F dX7_lists_183 rfl ?_
                refine V_iconst F dX7_lists_185 ki_3 ?_
                refine V_iadd F dX7_lists_186 ?_
                rw [nI_add]
                refine V_aload_n F dX7_lists_187 rfl ?_
                refine V_get F fl_X7_51 dX7_lists_188 O1 rfl ?_
                refine V_iload F dX7_lists_191 rfl ?_
                refine V_laldN F dX7_lists_193 (mset_eq _ _ _) u rfl (by omega) (by omega) ?_
                refine V_lastN F dX7_lists_194 (mset_eq _ _ _) (u + 3) rfl (by omega) (by omega) ?_
                rw [mset_mset, shf_up (by omega)]
                refine V_iinc F dX7_lists_195 rfl ?_
                show V _ _ _ _ _ _ _ _ [_, _, _, _, _, _, _, _, _, _] _
                refine V_goto F 170 dX7_lists_198 (by decide) ?_
                refine ih u _ (by omega) (by omega) ?_ kk
                rw [Int32.toInt_add, nI_toInt (by omega), show (Int32.ofInt (-1)).toInt = -1 by decide]
                exact bm32 (by omega) (by omega)
            refine V_iconst F dX7_lists_160 ki_3 ?_
            refine V_aload_n F dX7_lists_161 rfl ?_
            refine V_get F fl_X7_144 dX7_lists_162 (by assumption) rfl ?_
            refine V_imul F dX7_lists_165 ?_
            rw [pk_mul]
            refine V_iconst F dX7_lists_166 ki_1 ?_
            refine V_isub F dX7_lists_167 ?_
            refine V_istore F dX7_lists_168 (Nat.le_of_ble_eq_true rfl) ?_
            show V _ _ _ _ _ _ _ _ [_, _, _, _, _, _, _, _, _, _] _
            have := shift (3 * N - 3 * p) (3 * N) (nI (3 * N) - nI 1) (by omega) (Nat.le_refl _) (pk_sub_toInt (by omega) (by omega)) ?_
            · rw [shf_0, mset_self hg] at this
              exact this
            · have O1 := (mset_ne M (b := gB G + 816) (eJ (gT G) 732 (shf g N (3 * p))) (show gB G + 816 ≠ gB G + 829 by omega)).trans hO
              refine V_aload_n F dX7_lists_201 rfl ?_
              refine V_get F fl_X7_51 dX7_lists_202 O1 rfl ?_
              refine V_iconst F dX7_lists_205 ki_3 ?_
              refine V_iload F dX7_lists_206 rfl ?_
              refine V_imul F dX7_lists_208 ?_
              refine V_lload_n F dX7_lists_209 rfl ?_
              refine V_lastN F dX7_lists_210 (mset_eq _ _ _) (3 * p) (by first | (simp only [pk_mul, nI_add, nI_1, nI_inc]; done) | (simp only [pk_mul, nI_add, nI_1, nI_inc]; rfl) | rfl) (by omega) (by omega) ?_
              rw [mset_mset]
              have O2 : ∀ h, mset M (gB G + 829) (eJ (gT G) 732 h) (gB G + 816) = _ := fun h => (mset_ne _ _ (by omega)).trans hO
              refine V_aload_n F dX7_lists_211 rfl ?_
              refine V_get F fl_X7_51 dX7_lists_212 (O2 _) rfl ?_
              refine V_iconst F dX7_lists_215 ki_3 ?_
              refine V_iload F dX7_lists_216 rfl ?_
              refine V_imul F dX7_lists_218 ?_
              refine V_iconst F dX7_lists_219 ki_1 ?_
              refine V_iadd F dX7_lists_220 ?_
              refine V_lload F dX7_lists_221 rfl ?_
              refine V_lastN F dX7_lists_223 (mset_eq _ _ _) (3 * p + 1) (by first | (simp only [pk_mul, nI_add, nI_1, nI_inc]; done) | (simp only [pk_mul, nI_add, nI_1, nI_inc]; rfl) | rfl) (by omega) (by omega) ?_
              rw [mset_mset]
              refine V_aload_n F dX7_lists_224 rfl ?_
              refine V_get F fl_X7_51 dX7_lists_225 (O2 _) rfl ?_
              refine V_iconst F dX7_lists_228 ki_3 ?_
              refine V_iload F dX7_lists_229 rfl ?_
              refine V_imul F dX7_lists_231 ?_
              refine V_iconst F dX7_lists_232 ki_2 ?_
              refine V_iadd F dX7_lists_233 ?_
              refine V_lload F dX7_lists_234 rfl ?_
              refine V_lastN F dX7_lists_236 (mset_eq _ _ _) (3 * p + 2) (by first | (simp only [pk_mul, nI_add, nI_1, nI_inc]; done) | (simp only [pk_mul, nI_add, nI_1, nI_inc]; rfl) | rfl) (by omega) (by omega) ?_
              rw [mset_mset]
              refine V_aload_n F dX7_lists_237 rfl ?_
              refine V_dup F dX7_lists_238 rfl ?_
              refine V_get F fl_X7_144 dX7_lists_239 (O2 _) rfl ?_
              refine V_iconst F dX7_lists_242 ki_1 ?_
              refine V_iadd F dX7_lists_243 ?_
              rw [nI_add]
              refine V_put F fl_X7_144 dX7_lists_244 (O2 _) rfl rfl (Nat.le_of_ble_eq_true rfl) ?_
              subst hE hQ
              refine V_iconst F dX7_lists_247 ki_1 ?_
              refine V_iret F rfl dX7_lists_248 rfl ⟨rfl, ⟨mset_eq _ _ _, ⟨_, (mset_ne _ _ (by omega)).trans (mset_eq _ _ _), fun k w hk hw => ?_⟩, fun z h1 h2 => by rw [mset_ne _ _ h1, mset_ne _ _ h2]⟩, rfl⟩
              have hk : k < N + 1 := hk
              show va_up (va_up (va_up (shf g N (3 * p)) (3 * p) (c i 0)) (3 * p + 1) (c i 1)) (3 * p + 2) (c i 2) (3 * k + w) = lins lst p N (c i) k w
              unfold va_up lins shf
              by_cases q1 : k = p
              · subst q1
                have hw' : w = 0 ∨ w = 1 ∨ w = 2 := by omega
                rcases hw' with rfl | rfl | rfl <;> simp
              · rw [if_neg (by omega), if_neg (by omega), if_neg (by omega), if_neg q1]
                by_cases q2 : p < k ∧ k ≤ N
                · rw [if_pos (by omega), if_pos q2, show 3 * k + w - 3 = 3 * (k - 1) + w by omega]
                  exact hr (k - 1) w (by omega) hw
                · rw [if_neg (by omega), if_neg q2]
                  exact hr k w (by omega) hw
          · have c155 : N = 240 := (nI_eq (b := 240) (by omega) (by omega)).mp c155
            rw [if_pos (show 240 ≤ N by omega)] at hE
            subst hE hQ
            refine V_iconst F dX7_lists_158 ki_0 ?_
            exact V_iret F rfl dX7_lists_159 rfl ⟨rfl, ⟨hO, ⟨g, hg, hr⟩, fun _ _ _ => rfl⟩, rfl⟩
        have mid : V G X 0 0 Q M n 91 [some (.ref (gB G + 816)), some (.int (nI i)), some (.long (c i 0)), none, some (.long (c i 1)), none, some (.long (c i 2)), none, some (.int (nI p)), none] [] := by
          refine V_iload F dX7_lists_91 rfl ?_
          refine V_if_le F 148 dX7_lists_93 (by decide) (fun c93 => ?_) (fun c93 => ?_)
          · have c93 : p = 0 := by
              rcases Nat.eq_zero_or_pos p with z | z
              · exact z
              · exact absurd c93 (nI_nle z (by omega))
            exact late (fun z => by omega)
          · have c93 : 0 < p := by
              rcases Nat.eq_zero_or_pos p with z | z
              · subst z; exact absurd (by decide) c93
              · exact z
            have r0 : g (3 * p - 3) = lst (p - 1) 0 := by rw [← hr (p - 1) 0 (by omega) (by omega)]; congr 1; omega
            have r1 : g (3 * p - 2) = lst (p - 1) 1 := by rw [← hr (p - 1) 1 (by omega) (by omega)]; congr 1; omega
            have r2 : g (3 * p - 1) = lst (p - 1) 2 := by rw [← hr (p - 1) 2 (by omega) (by omega)]; congr 1; omega
            have o := ordv_0 (lst (p - 1)) (c i)
            refine V_aload_n F dX7_lists_96 rfl ?_
            refine V_get F fl_X7_51 dX7_lists_97 (by assumption) rfl ?_
            refine V_iconst F dX7_lists_100 ki_3 ?_
            refine V_iload F dX7_lists_101 rfl ?_
            refine V_imul F dX7_lists_103 ?_
            rw [pk_mul]
            refine V_iconst F dX7_lists_104 ki_3 ?_
            refine V_isub F dX7_lists_105 ?_
            rw [pk_sub (by omega)]
            refine V_laldN F dX7_lists_106 (by assumption) (3 * p - 3) rfl (by omega) (by omega) ?_
            rw [r0]
            refine V_lload_n F dX7_lists_107 rfl ?_
            refine V_lcmp F dX7_lists_108 ?_
            refine V_if_ne F 148 dX7_lists_109 (by decide) (fun c109 => ?_) (fun c109 => ?_)
            · rw [lcmp_eq] at c109
              exact late (fun z => c109 (o.mp z.2).1)
            · rw [lcmp_eq] at c109
              refine V_aload_n F dX7_lists_112 rfl ?_
              refine V_get F fl_X7_51 dX7_lists_113 (by assumption) rfl ?_
              refine V_iconst F dX7_lists_116 ki_3 ?_
              refine V_iload F dX7_lists_117 rfl ?_
              refine V_imul F dX7_lists_119 ?_
              rw [pk_mul]
              refine V_iconst F dX7_lists_120 ki_2 ?_
              refine V_isub F dX7_lists_121 ?_
              rw [pk_sub (by omega)]
              refine V_laldN F dX7_lists_122 (by assumption) (3 * p - 2) rfl (by omega) (by omega) ?_
              rw [r1]
              refine V_lload F dX7_lists_123 rfl ?_
              refine V_lcmp F dX7_lists_125 ?_
              refine V_if_ne F 148 dX7_lists_126 (by decide) (fun c126 => ?_) (fun c126 => ?_)
              · rw [lcmp_eq] at c126
                exact late (fun z => c126 (o.mp z.2).2.1)
              · rw [lcmp_eq] at c126
                refine V_aload_n F dX7_lists_129 rfl ?_
                refine V_get F fl_X7_51 dX7_lists_130 (by assumption) rfl ?_
                refine V_iconst F dX7_lists_133 ki_3 ?_
                refine V_iload F dX7_lists_134 rfl ?_
                refine V_imul F dX7_lists_136 ?_
                rw [pk_mul]
                refine V_iconst F dX7_lists_137 ki_1 ?_
                refine V_isub F dX7_lists_138 ?_
                rw [pk_sub (by omega)]
                refine V_laldN F dX7_lists_139 (by assumption) (3 * p - 1) rfl (by omega) (by omega) ?_
                rw [r2]
                refine V_lload F dX7_lists_140 rfl ?_
                refine V_lcmp F dX7_lists_142 ?_
                refine V_if_ne F 148 dX7_lists_143 (by decide) (fun c143 => ?_) (fun c143 => ?_)
                · rw [lcmp_eq] at c143
                  exact late (fun z => c143 (o.mp z.2).2.2)
                · rw [lcmp_eq] at c143
                  rw [if_pos ⟨c93, o.mpr ⟨c109, c126, c143⟩⟩] at hE
                  subst hE hQ
                  refine V_iconst F dX7_lists_146 ki_1 ?_
                  exact V_iret F rfl dX7_lists_147 rfl ⟨rfl, ⟨hO, ⟨g, hg, hr⟩, fun _ _ _ => rfl⟩, rfl⟩
        have loop : ∀ k : Nat, k ≤ N → posl lst (c i) k = p → V G X 0 0 Q M n 64 [some (.ref (gB G + 816)), some (.int (nI i)), some (.long (c i 0)), none, some (.long (c i 1)), none, some (.long (c i 2)), none, some (.int (nI k)), none] [] := by
          intro k
          induction k with
          | zero =>
            intro hk hp
            have hp : p = 0 := hp.symm
            subst hp
            refine V_iload F dX7_lists_64 rfl ?_
            refine V_if_le F 91 dX7_lists_66 (by decide) (fun c66 => ?_) (fun c66 => absurd (by decide) c66)
            exact mid
          | succ k ih =>
            intro hk hp
            unfold posl at hp
            refine V_iload F dX7_lists_64 rfl ?_
            refine V_if_le F 91 dX7_lists_66 (by decide) (fun c66 => absurd c66 (nI_nle (by omega) (by omega))) (fun c66 => ?_)
            refine V_aload_n F dX7_lists_69 rfl ?_
            refine V_iload F dX7_lists_70 rfl ?_
            refine V_iconst F dX7_lists_72 ki_1 ?_
            refine V_isub F dX7_lists_73 ?_
            rw [pk_sub (by omega), Nat.add_sub_cancel]
            refine V_lload_n F dX7_lists_74 rfl ?_
            refine V_lload F dX7_lists_75 rfl ?_
            refine V_lload F dX7_lists_77 rfl ?_
            refine V_ivR F iv_X7_147 dX7_lists_79 (As := [_, _, _, _]) (c_X7_isBehind hO hg (by omega) (lst k) (fun w hw => hr k w (by omega) hw) (c i)) (by assumption) rfl rfl rfl rfl ?_
            refine V_if_eq F 91 dX7_lists_82 (by decide) (fun c82 => ?_) (fun c82 => ?_)
            · rw [bI_0, decide_eq_false_iff_not] at c82
              rw [if_neg c82] at hp
              subst hp
              exact mid
            · rw [bI_n, decide_eq_true_eq] at c82
              rw [if_pos c82] at hp
              refine V_iincm F dX7_lists_85 rfl ?_
              show V _ _ _ _ _ _ _ _ [_, _, _, _, _, _, _, _, _, _] _
              refine V_goto F 64 dX7_lists_88 (by decide) ?_
              exact ih (by omega) hp
        refine V_aload_n F dX7_lists_58 rfl ?_
        refine V_get F fl_X7_144 dX7_lists_59 (by assumption) rfl ?_
        refine V_istore F dX7_lists_62 (Nat.le_of_ble_eq_true rfl) ?_
        show V _ _ _ _ _ _ _ _ [_, _, _, _, _, _, _, _, _, _] _
        exact loop N (Nat.le_refl _) hp
      · rw [bI_0] at c53
        exact refd (fun z => by have := (cRef_0 z).2; unfold plR at this; rw [Bool.or_eq_false_iff] at this; rw [this.2] at c53; cases c53)
end MOD12
