def relP (p : Nat → Int64) (pb : Nat → Int32) : List (Qd × Int32) → Prop
  | [] => True
  | x :: t => (∀ j, j < 12 → p (12 * t.length + j) = mc x.1 j) ∧ pb t.length = x.2 ∧ relP p pb t
theorem relP.congr {p p' : Nat → Int64} {pb pb' : Nat → Int32} : ∀ {l : List (Qd × Int32)}, relP p pb l → (∀ z, z < 12 * l.length → p' z = p z) → (∀ z, z < l.length → pb' z = pb z) → relP p' pb' l
  | [], _, _, _ => trivial
  | x :: t, h, e1, e2 => by
    obtain ⟨h1, h2, h3⟩ := h
    rw [List.length_cons] at e1 e2
    exact ⟨fun j hj => (e1 _ (by omega)).trans (h1 j hj), (e2 _ (by omega)).trans h2, h3.congr (fun z hz => e1 z (by omega)) (fun z hz => e2 z (by omega))⟩
def upTo (u : Qd) (mo : Int32) : Bool := decide (u 0 0 ≤ mo.toInt64) && (decide (u 1 0 ≤ mo.toInt64) && (decide (u 2 0 ≤ mo.toInt64) && decide (u 3 0 ≤ mo.toInt64)))
section MOD13
variable {G : GP} {M : Mem} {n : Option Nat} {nq st lm lmo lq pd gd' : Int32} {c : Qd} {p : Nat → Int64} {pb : Nat → Int32}
theorem c_X7_areUpTo (hO : M (gB G + 816) = some (objM G nq st lm lmo lq pd gd')) (h6 : M (gB G + 822) = some (eJ (gT G) 12 (mc c))) (mo : Int32) : Con G yX7_areUpTo cX7_areUpTo 2 (some .boolean) 0 0 0 [.ref (gB G + 816), .int mo] M n (R1 (some (.int (bI (upTo c mo)))) M n) := by
  have mm : mc c 0 = c 0 0 ∧ mc c 3 = c 1 0 ∧ mc c 6 = c 2 0 ∧ mc c 9 = c 3 0 := ⟨rfl, rfl, rfl, rfl⟩
  refine Con.of (by decide +kernel) (Nat.le_of_ble_eq_true rfl) (fun X F hnm => ?_)
  show V G X 0 0 _ M _ 0 [some (.ref (gB G + 816)), some (.int mo)] []
  generalize hQ : BQ G X _ 0 0 = Q
  have no : upTo c mo = false → V G X 0 0 Q M n 54 [some (.ref (gB G + 816)), some (.int mo)] [] := by
    intro z
    subst hQ
    refine V_iconst F dX7_areUpTo_54 ki_0 ?_
    exact V_iret F rfl dX7_areUpTo_55 rfl ⟨rf z, rfl, rfl⟩
  refine V_aload_n F dX7_areUpTo_0 rfl ?_
  refine V_get F fl_X7_26 dX7_areUpTo_1 (by assumption) rfl ?_
  refine V_iconst F dX7_areUpTo_4 ki_0 ?_
  refine V_laldN F dX7_areUpTo_5 (by assumption) _ (by first | (simp only [pk_mul, nI_add, nI_1, nI_inc]; done) | (simp only [pk_mul, nI_add, nI_1, nI_inc]; rfl) | rfl) (by omega) (by omega) ?_
  rw [mm.1]
  refine V_iload_n F dX7_areUpTo_6 rfl ?_
  refine V_i2l F dX7_areUpTo_7 ?_
  refine V_lcmp F dX7_areUpTo_8 ?_
  refine V_if_gt F 54 dX7_areUpTo_9 (by decide) (fun c9 => ?_) (fun c9 => ?_)
  · rw [lcmp_gt] at c9
    exact no (by unfold upTo; rw [decide_eq_false (Int64.not_le.mpr c9)]; rfl)
  · rw [lcmp_gt] at c9
    refine V_aload_n F dX7_areUpTo_12 rfl ?_
    refine V_get F fl_X7_26 dX7_areUpTo_13 (by assumption) rfl ?_
    refine V_iconst F dX7_areUpTo_16 ki_3 ?_
    refine V_laldN F dX7_areUpTo_17 (by assumption) _ (by first | (simp only [pk_mul, nI_add, nI_1, nI_inc]; done) | (simp only [pk_mul, nI_add, nI_1, nI_inc]; rfl) | rfl) (by omega) (by omega) ?_
    rw [mm.2.1]
    refine V_iload_n F dX7_areUpTo_18 rfl ?_
    refine V_i2l F dX7_areUpTo_19 ?_
    refine V_lcmp F dX7_areUpTo_20 ?_
    refine V_if_gt F 54 dX7_areUpTo_21 (by decide) (fun c21 => ?_) (fun c21 => ?_)
    · rw [lcmp_gt] at c21
      exact no (by unfold upTo; rw [decide_eq_false (Int64.not_le.mpr c21), Bool.false_and, Bool.and_false])
    · rw [lcmp_gt] at c21
      refine V_aload_n F dX7_areUpTo_24 rfl ?_
      refine V_get F fl_X7_26 dX7_areUpTo_25 (by assumption) rfl ?_
      refine V_bipush F dX7_areUpTo_28 kb_6 ?_
      refine V_laldN F dX7_areUpTo_30 (by assumption) _ (by first | (simp only [pk_mul, nI_add, nI_1, nI_inc]; done) | (simp only [pk_mul, nI_add, nI_1, nI_inc]; rfl) | rfl) (by omega) (by omega) ?_
      rw [mm.2.2.1]
      refine V_iload_n F dX7_areUpTo_31 rfl ?_
      refine V_i2l F dX7_areUpTo_32 ?_
      refine V_lcmp F dX7_areUpTo_33 ?_
      refine V_if_gt F 54 dX7_areUpTo_34 (by decide) (fun c34 => ?_) (fun c34 => ?_)
      · rw [lcmp_gt] at c34
        exact no (by unfold upTo; rw [decide_eq_false (Int64.not_le.mpr c34), Bool.false_and, Bool.and_false, Bool.and_false])
      · rw [lcmp_gt] at c34
        refine V_aload_n F dX7_areUpTo_37 rfl ?_
        refine V_get F fl_X7_26 dX7_areUpTo_38 (by assumption) rfl ?_
        refine V_bipush F dX7_areUpTo_41 kb_9 ?_
        refine V_laldN F dX7_areUpTo_43 (by assumption) _ (by first | (simp only [pk_mul, nI_add, nI_1, nI_inc]; done) | (simp only [pk_mul, nI_add, nI_1, nI_inc]; rfl) | rfl) (by omega) (by omega) ?_
        rw [mm.2.2.2]
        refine V_iload_n F dX7_areUpTo_44 rfl ?_
        refine V_i2l F dX7_areUpTo_45 ?_
        refine V_lcmp F dX7_areUpTo_46 ?_
        refine V_if_gt F 54 dX7_areUpTo_47 (by decide) (fun c47 => ?_) (fun c47 => ?_)
        · rw [lcmp_gt] at c47
          exact no (by unfold upTo; rw [decide_eq_false (Int64.not_le.mpr c47), Bool.and_false, Bool.and_false, Bool.and_false])
        · rw [lcmp_gt] at c47
          subst hQ
          refine V_iconst F dX7_areUpTo_50 ki_1 ?_
          refine V_goto F 55 dX7_areUpTo_51 (by decide) ?_
          exact V_iret F rfl dX7_areUpTo_55 rfl ⟨rt (by unfold upTo; rw [decide_eq_true (Int64.not_lt.mp c9), decide_eq_true (Int64.not_lt.mp c21), decide_eq_true (Int64.not_lt.mp c34), decide_eq_true (Int64.not_lt.mp c47)]; rfl), rfl, rfl⟩
theorem c_X7_pushF (hO : M (gB G + 816) = some (objM G nq st lm lmo lq (nI 2000) gd')) (b : Int32) : Con G yX7_push cX7_push 3 (some .boolean) 0 0 0 [.ref (gB G + 816), .int b] M n (R1 (some (.int (nI 0))) M n) := by
  refine Con.of (by decide +kernel) (Nat.le_of_ble_eq_true rfl) (fun X F hnm => ?_)
  show V G X 0 0 _ M _ 0 [some (.ref (gB G + 816)), some (.int b), none] []
  refine V_aload_n F dX7_push_0 rfl ?_
  refine V_get F fl_X7_151 dX7_push_1 (by assumption) rfl ?_
  refine V_sipush F dX7_push_4 ks_2000 ?_
  refine V_icmp_ne F 12 dX7_push_7 (by decide) (fun c7 => absurd rfl c7) (fun c7 => ?_)
  refine V_iconst F dX7_push_10 ki_0 ?_
  exact V_iret F rfl dX7_push_11 rfl ⟨rfl, rfl, rfl⟩
theorem c_X7_push {l : List (Qd × Int32)} (hO : M (gB G + 816) = some (objM G nq st lm lmo lq (nI l.length) gd')) (h6 : M (gB G + 822) = some (eJ (gT G) 12 (mc c))) (h7 : M (gB G + 827) = some (eJ (gT G) 24000 p)) (h8 : M (gB G + 828) = some (eI (gT G) 2000 pb)) (hr : relP p pb l) (hl : l.length < 2000) (b : Int32) : Con G yX7_push cX7_push 3 (some .boolean) 0 0 0 [.ref (gB G + 816), .int b] M n (fun v M' n' => v = some (.int (nI 1)) ∧ (M' (gB G + 816) = some (objM G nq st lm lmo lq (nI (l.length + 1)) gd') ∧ (∃ p' pb', M' (gB G + 827) = some (eJ (gT G) 24000 p') ∧ M' (gB G + 828) = some (eI (gT G) 2000 pb') ∧ relP p' pb' ((c, b) :: l)) ∧ ∀ z, z ≠ gB G + 816 → z ≠ gB G + 827 → z ≠ gB G + 828 → M' z = M z) ∧ n' = n) := by
  refine Con.of (by decide +kernel) (Nat.le_of_ble_eq_true rfl) (fun X F hnm => ?_)
  show V G X 0 0 _ M _ 0 [some (.ref (gB G + 816)), some (.int b), none] []
  generalize hQ : BQ G X _ 0 0 = Q
  have loop : ∀ m k : Nat, m + k = 12 → ∀ f : Nat → Int64, (∀ j, j < k → f (12 * l.length + j) = mc c j) → (∀ z, z < 12 * l.length → f z = p z) → V G X 0 0 Q (mset M (gB G + 827) (eJ (gT G) 24000 f)) n 14 [some (.ref (gB G + 816)), some (.int b), some (.int (nI k))] [] := by
    intro m
    induction m with
    | zero =>
      intro k hk f hf hf2
      have hk : k = 12 := by omega
      subst hk
      have O1 := (mset_ne M (b := gB G + 816) (eJ (gT G) 24000 f) (show gB G + 816 ≠ gB G + 827 by omega)).trans hO
      refine V_iload_n F dX7_push_14 rfl ?_
      refine V_bipush F dX7_push_15 kb_12 ?_
      refine V_icmp_ge F 46 dX7_push_17 (by decide) (fun c17 => ?_) (fun c17 => absurd (by decide) c17)
      refine V_aload_n F dX7_push_46 rfl ?_
      refine V_get F fl_X7_48 dX7_push_47 O1 rfl ?_
      refine V_aload_n F dX7_push_50 rfl ?_
      refine V_get F fl_X7_151 dX7_push_51 O1 rfl ?_
      refine V_iload_n F dX7_push_54 rfl ?_
      refine V_iastN F dX7_push_55 ((mset_ne _ _ (by omega)).trans h8) l.length rfl (by omega) (by omega) ?_
      refine V_aload_n F dX7_push_56 rfl ?_
      refine V_dup F dX7_push_57 rfl ?_
      refine V_get F fl_X7_151 dX7_push_58 ((mset_ne _ _ (by omega)).trans O1) rfl ?_
      refine V_iconst F dX7_push_61 ki_1 ?_
      refine V_iadd F dX7_push_62 ?_
      rw [nI_add]
      refine V_put F fl_X7_151 dX7_push_63 ((mset_ne _ _ (by omega)).trans O1) rfl rfl (Nat.le_of_ble_eq_true rfl) ?_
      subst hQ
      refine V_iconst F dX7_push_66 ki_1 ?_
      exact V_iret F rfl dX7_push_67 rfl ⟨rfl, ⟨mset_eq _ _ _, ⟨f, va_up pb l.length b, by rw [mset_ne _ _ (by omega), mset_ne _ _ (by omega), mset_eq], by rw [mset_ne _ _ (by omega), mset_eq], hf, by show va_up pb l.length b l.length = b; unfold va_up; rw [if_pos rfl], hr.congr hf2 (fun z hz => by unfold va_up; rw [if_neg (by omega)])⟩, fun z h1 h2 h3 => by rw [mset_ne _ _ h1, mset_ne _ _ h3, mset_ne _ _ h2]⟩, rfl⟩
    | succ m ih =>
      intro k hk f hf hf2
      have O1 := (mset_ne M (b := gB G + 816) (eJ (gT G) 24000 f) (show gB G + 816 ≠ gB G + 827 by omega)).trans hO
      refine V_iload_n F dX7_push_14 rfl ?_
      refine V_bipush F dX7_push_15 kb_12 ?_
      refine V_icmp_ge F 46 dX7_push_17 (by decide) (fun c17 => absurd c17 (nI_ge (by omega) (by omega))) (fun c17 => ?_)
      refine V_aload_n F dX7_push_20 rfl ?_
      refine V_get F fl_X7_45 dX7_push_21 O1 rfl ?_
      refine V_bipush F dX7_push_24 kb_12 ?_
      refine V_aload_n F dX7_push_26 rfl ?_
      refine V_get F fl_X7_151 dX7_push_27 O1 rfl ?_
      refine V_imul F dX7_push_30 ?_
      rw [pk_mul]
      refine V_iload_n F dX7_push_31 rfl ?_
      refine V_iadd F dX7_push_32 ?_
      rw [nI_add]
      refine V_aload_n F dX7_push_33 rfl ?_
      refine V_get F fl_X7_26 dX7_push_34 O1 rfl ?_
      refine V_iload_n F dX7_push_37 rfl ?_
      refine V_laldN F dX7_push_38 ((mset_ne _ _ (by omega)).trans h6) k rfl (by omega) (by omega) ?_
      refine V_lastN F dX7_push_39 (mset_eq _ _ _) (12 * l.length + k) rfl (by omega) (by omega) ?_
      rw [mset_mset]
      refine V_iinc1 F dX7_push_40 rfl ?_
      show V _ _ _ _ _ _ _ _ [_, _, _] _
      refine V_goto F 14 dX7_push_43 (by decide) ?_
      refine ih (k + 1) (by omega) _ (fun j hj => ?_) (fun z hz => ?_)
      · unfold va_up
        by_cases q1 : j = k
        · subst q1; rw [if_pos rfl]
        · rw [if_neg (by omega)]; exact hf j (by omega)
      · unfold va_up
        rw [if_neg (by omega)]
        exact hf2 z hz
  refine V_aload_n F dX7_push_0 rfl ?_
  refine V_get F fl_X7_151 dX7_push_1 (by assumption) rfl ?_
  refine V_sipush F dX7_push_4 ks_2000 ?_
  refine V_icmp_ne F 12 dX7_push_7 (by decide) (fun c7 => ?_) (fun c7 => absurd ((nI_eq (b := 2000) (by omega) (by omega)).mp c7) (by omega))
  refine V_iconst F dX7_push_12 ki_0 ?_
  refine V_istore_n F dX7_push_13 (Nat.le_of_ble_eq_true rfl) ?_
  show V _ _ _ _ _ _ _ _ [_, _, _] _
  have := loop 12 0 rfl p (fun j hj => by omega) (fun _ _ => rfl)
  rw [mset_self h7] at this
  exact this
theorem c_X7_pop {x : Qd × Int32} {l : List (Qd × Int32)} {f6 : Nat → Int64} (hO : M (gB G + 816) = some (objM G nq st lm lmo lq (nI (l.length + 1)) gd')) (h6 : M (gB G + 822) = some (eJ (gT G) 12 f6)) (h7 : M (gB G + 827) = some (eJ (gT G) 24000 p)) (h8 : M (gB G + 828) = some (eI (gT G) 2000 pb)) (hr : relP p pb (x :: l)) (hl : l.length < 2000) : Con G yX7_pop cX7_pop 2 (some .int) 0 0 0 [.ref (gB G + 816)] M n (R1 (some (.int x.2)) (mset (mset M (gB G + 816) (objM G nq st lm lmo lq (nI l.length) gd')) (gB G + 822) (eJ (gT G) 12 (mc x.1))) n) := by
  obtain ⟨r1, r2, -⟩ := hr
  refine Con.of (by decide +kernel) (Nat.le_of_ble_eq_true rfl) (fun X F hnm => ?_)
  show V G X 0 0 _ M _ 0 [some (.ref (gB G + 816)), none] []
  generalize hQ : BQ G X _ 0 0 = Q
  refine V_aload_n F dX7_pop_0 rfl ?_
  refine V_dup F dX7_pop_1 rfl ?_
  refine V_get F fl_X7_151 dX7_pop_2 (by assumption) rfl ?_
  refine V_iconst F dX7_pop_5 ki_1 ?_
  refine V_isub F dX7_pop_6 ?_
  rw [pk_sub (by omega), Nat.add_sub_cancel]
  refine V_put F fl_X7_151 dX7_pop_7 (by assumption) rfl rfl (Nat.le_of_ble_eq_true rfl) ?_
  refine V_iconst F dX7_pop_10 ki_0 ?_
  refine V_istore_n F dX7_pop_11 (Nat.le_of_ble_eq_true rfl) ?_
  show V _ _ _ _ _ _ _ _ [_, _] _
  show V G X 0 0 Q (mset M (gB G + 816) (objM G nq st lm lmo lq (nI l.length) gd')) n _ _ _
  have O1 := mset_eq M (gB G + 816) (objM G nq st lm lmo lq (nI l.length) gd')
  have n7 : mset M (gB G + 816) (objM G nq st lm lmo lq (nI l.length) gd') (gB G + 827) = _ := (mset_ne _ _ (by omega)).trans h7
  have n8 : mset M (gB G + 816) (objM G nq st lm lmo lq (nI l.length) gd') (gB G + 828) = _ := (mset_ne _ _ (by omega)).trans h8
  have n6 : mset M (gB G + 816) (objM G nq st lm lmo lq (nI l.length) gd') (gB G + 822) = _ := (mset_ne _ _ (by omega)).trans h6
  generalize mset M (gB G + 816) (objM G nq st lm lmo lq (nI l.length) gd') = M1 at hQ O1 n6 n7 n8 ⊢
  have loop : ∀ m k : Nat, m + k = 12 → ∀ f : Nat → Int64, (∀ j, j < k → f j = mc x.1 j) → V G X 0 0 Q (mset M1 (gB G + 822) (eJ (gT G) 12 f)) n 12 [some (.ref (gB G + 816)), some (.int (nI k))] [] := by
    intro m
    induction m with
    | zero =>
      intro k hk f hf
      have hk : k = 12 := by omega
      subst hk
      have O2 := (mset_ne M1 (b := gB G + 816) (eJ (gT G) 12 f) (show gB G + 816 ≠ gB G + 822 by omega)).trans O1
      refine V_iload_n F dX7_pop_12 rfl ?_
      refine V_bipush F dX7_pop_13 kb_12 ?_
      refine V_icmp_ge F 44 dX7_pop_15 (by decide) (fun c15 => ?_) (fun c15 => absurd (by decide) c15)
      refine V_aload_n F dX7_pop_44 rfl ?_
      refine V_get F fl_X7_48 dX7_pop_45 O2 rfl ?_
      refine V_aload_n F dX7_pop_48 rfl ?_
      refine V_get F fl_X7_151 dX7_pop_49 O2 rfl ?_
      refine V_ialdN F dX7_pop_52 ((mset_ne _ _ (by omega)).trans n8) l.length rfl (by omega) (by omega) ?_
      rw [r2]
      refine V_mem (fun H hm => mem_J (g := mc x.1) hf hm) ?_
      subst hQ
      exact V_iret F rfl dX7_pop_53 rfl ⟨rfl, rfl, rfl⟩
    | succ m ih =>
      intro k hk f hf
      have O2 := (mset_ne M1 (b := gB G + 816) (eJ (gT G) 12 f) (show gB G + 816 ≠ gB G + 822 by omega)).trans O1
      refine V_iload_n F dX7_pop_12 rfl ?_
      refine V_bipush F dX7_pop_13 kb_12 ?_
      refine V_icmp_ge F 44 dX7_pop_15 (by decide) (fun c15 => absurd c15 (nI_ge (by omega) (by omega))) (fun c15 => ?_)
      refine V_aload_n F dX7_pop_18 rfl ?_
      refine V_get F fl_X7_26 dX7_pop_19 O2 rfl ?_
      refine V_iload_n F dX7_pop_22 rfl ?_
      refine V_aload_n F dX7_pop_23 rfl ?_
      refine V_get F fl_X7_45 dX7_pop_24 O2 rfl ?_
      refine V_bipush F dX7_pop_27 kb_12 ?_
      refine V_aload_n F dX7_pop_29 rfl ?_
      refine V_get F fl_X7_151 dX7_pop_30 O2 rfl ?_
      refine V_imul F dX7_pop_33 ?_
      rw [pk_mul]
      refine V_iload_n F dX7_pop_34 rfl ?_
      refine V_iadd F dX7_pop_35 ?_
      rw [nI_add]
      refine V_laldN F dX7_pop_36 ((mset_ne _ _ (by omega)).trans n7) (12 * l.length + k) rfl (by omega) (by omega) ?_
      rw [r1 k (by omega)]
      refine V_lastN F dX7_pop_37 (mset_eq _ _ _) k rfl (by omega) (by omega) ?_
      rw [mset_mset]
      refine V_iinc1 F dX7_pop_38 rfl ?_
      show V _ _ _ _ _ _ _ _ [_, _] _
      refine V_goto F 12 dX7_pop_41 (by decide) ?_
      refine ih (k + 1) (by omega) _ (fun j hj => ?_)
      unfold va_up
      by_cases q1 : j = k
      · rw [if_pos q1, q1]
      · rw [if_neg q1]; exact hf j (by omega)
  have := loop 12 0 rfl f6 (fun j hj => by omega)
  rw [mset_self n6] at this
  exact this
end MOD13
