def wtN (j : Nat) : Nat := if j = 0 then 1 else if j = 1 then 24 else if j = 2 then 576 else 13824
theorem wt_N : ∀ j, j < 4 → wt j = nI (wtN j) := by decide +kernel
theorem wtN_b : ∀ j, j < 4 → 0 < wtN j ∧ wtN j < 13825 := by decide +kernel
def dg (v i : Nat) : Nat := v / wtN i % 24
def nd (v i : Nat) : Nat := (2 * (dg v 0 + dg v 1 + dg v 2 + dg v 3) + 72 - 3 * dg v i) % 24
def swp (v i : Nat) : Nat := v - wtN i * dg v i + wtN i * nd v i
theorem dg_lt (v i : Nat) : dg v i < 24 := Nat.mod_lt _ (by omega)
theorem nd_lt (v i : Nat) : nd v i < 24 := Nat.mod_lt _ (by omega)
theorem fm_p : ∀ t, t < 185 → fmI (nI t) (nI 24) = nI (t % 24) := by decide +kernel
theorem fm_n : ∀ t, t < 70 → fmI (-nI t) (nI 24) = nI ((72 - t) % 24) := by decide +kernel
theorem nI_subn {a b : Nat} (h : a ≤ b) : nI a - nI b = -nI (b - a) := by
  rw [← pk_sub h, Int32.neg_sub]
theorem fm_sub {a b : Nat} (ha : a < 185) (hb : b < 70) : fmI (nI a - nI b) (nI 24) = nI ((a + 72 - b) % 24) := by
  by_cases h : b ≤ a
  · rw [pk_sub h, fm_p _ (by omega)]
    congr 1
    omega
  · rw [nI_subn (by omega), fm_n _ (by omega)]
    congr 1
    omega
theorem swp_lt {v i : Nat} (hi : i < 4) (hv : v < 331776) : swp v i < 331776 ∧ wtN i * dg v i ≤ v := by
  unfold swp
  have h1 := nd_lt v i
  unfold dg
  match i, hi with
  | 0, _ => simp only [wtN]; simp; omega
  | 1, _ => simp only [wtN]; simp; omega
  | 2, _ => simp only [wtN]; simp; omega
  | 3, _ => simp only [wtN]; simp; omega
theorem swp_I {v i : Nat} (hi : i < 4) (hv : v < 331776) : nI v + wt i * (nI (nd v i) - nI (dg v i)) = nI (swp v i) := by
  obtain ⟨h1, h2⟩ := swp_lt hi hv
  rw [wt_N i hi]
  have e : nI v = nI (v - wtN i * dg v i) + nI (wtN i) * nI (dg v i) := by rw [pk_mul, nI_add]; congr 1; omega
  rw [e, show swp v i = v - wtN i * dg v i + wtN i * nd v i from rfl, ← nI_add, ← pk_mul]
  generalize nI (v - wtN i * dg v i) = A
  generalize nI (wtN i) = B
  generalize nI (dg v i) = C
  generalize nI (nd v i) = D
  grind
def isRem (G : GP) (M : Mem) (a p : Nat) (l : List Nat) : Prop := M a = some (eO 5 [.ref p, .int (nI l.length)]) ∧ (∃ fo, M p = some (eI (gT G) 3840 fo) ∧ ∀ k v, l[k]? = some v → fo k = nI v) ∧ l.length ≤ 3840 ∧ ∀ v ∈ l, v < 331776
def ent1 (l : List Nat) (v : Nat) : List Nat := if v ∈ l then l else if l.length < 3840 then l ++ [v] else l
section REM
variable {G : GP} {M : Mem} {n : Option Nat} {a p : Nat} {l : List Nat}
theorem c_X5_digit {v i : Nat} (hv : v < 331776) (hi : i < 4) : Con G yX5_digit cX5_digit 2 (some .int) 0 0 0 [.int (nI v), .int (nI i)] M n (R1 (some (.int (nI (dg v i)))) M n) := by
  obtain ⟨w1, w2⟩ := wtN_b i hi
  refine Con.of (by decide +kernel) (Nat.le_of_ble_eq_true rfl) (fun X F hnm => ?_)
  show V G X 0 0 _ M _ 0 [some (.int (nI v)), some (.int (nI i))] []
  refine V_iload_n F dX5_digit_0 rfl ?_
  refine V_gets F dX5_digit_1 fs_X5_21 ?_
  refine V_iload_n F dX5_digit_4 rfl ?_
  refine V_taldN F dX5_digit_5 _ (by first | (simp only [pk_mul, nI_add, nI_1, nI_inc]; done) | (simp only [pk_mul, nI_add, nI_1, nI_inc]; rfl) | rfl) (by omega) ?_
  rw [wt_N i hi]
  refine V_idiv F dX5_digit_6 (nI_ne0 w1 (by omega)) ?_
  rw [pk_div (by omega) w1 (by omega)]
  refine V_bipush F dX5_digit_7 kb_24 ?_
  refine V_irem F dX5_digit_9 (by decide) ?_
  rw [pk_rem (Nat.lt_of_le_of_lt (Nat.div_le_self _ _) (by omega)) (by omega) (by omega)]
  exact V_iret F rfl dX5_digit_10 rfl ⟨rfl, rfl, rfl⟩
theorem c_X5_swapped {v i : Nat} (hv : v < 331776) (hi : i < 4) : Con G yX5_swapped cX5_swapped 4 (some .int) 1 0 0 [.int (nI v), .int (nI i)] M n (R1 (some (.int (nI (swp v i)))) M n) := by
  have d0 := dg_lt v 0
  have d1 := dg_lt v 1
  have d2 := dg_lt v 2
  have d3 := dg_lt v 3
  have di := dg_lt v i
  refine Con.of (by decide +kernel) (Nat.le_of_ble_eq_true rfl) (fun X F hnm => ?_)
  show V G X 0 0 _ M _ 0 [some (.int (nI v)), some (.int (nI i)), none, none] []
  refine V_iload_n F dX5_swapped_0 rfl ?_
  refine V_iconst F dX5_swapped_1 ki_0 ?_
  refine V_isR F is_X5_40 dX5_swapped_2 (As := [_, _]) (c_X5_digit hv (i := 0) (by omega)) rfl rfl rfl ?_
  refine V_iload_n F dX5_swapped_5 rfl ?_
  refine V_iconst F dX5_swapped_6 ki_1 ?_
  refine V_isR F is_X5_40 dX5_swapped_7 (As := [_, _]) (c_X5_digit hv (i := 1) (by omega)) rfl rfl rfl ?_
  refine V_iadd F dX5_swapped_10 ?_
  refine V_iload_n F dX5_swapped_11 rfl ?_
  refine V_iconst F dX5_swapped_12 ki_2 ?_
  refine V_isR F is_X5_40 dX5_swapped_13 (As := [_, _]) (c_X5_digit hv (i := 2) (by omega)) rfl rfl rfl ?_
  refine V_iadd F dX5_swapped_16 ?_
  refine V_iload_n F dX5_swapped_17 rfl ?_
  refine V_iconst F dX5_swapped_18 ki_3 ?_
  refine V_isR F is_X5_40 dX5_swapped_19 (As := [_, _]) (c_X5_digit hv (i := 3) (by omega)) rfl rfl rfl ?_
  refine V_iadd F dX5_swapped_22 ?_
  rw [nI_add, nI_add, nI_add]
  refine V_istore_n F dX5_swapped_23 (Nat.le_of_ble_eq_true rfl) ?_
  show V _ _ _ _ _ _ _ _ [_, _, _, _] _
  refine V_iload_n F dX5_swapped_24 rfl ?_
  refine V_iload_n F dX5_swapped_25 rfl ?_
  refine V_isR F is_X5_40 dX5_swapped_26 (As := [_, _]) (c_X5_digit hv hi) rfl rfl rfl ?_
  refine V_istore_n F dX5_swapped_29 (Nat.le_of_ble_eq_true rfl) ?_
  show V _ _ _ _ _ _ _ _ [_, _, _, _] _
  refine V_iload_n F dX5_swapped_30 rfl ?_
  refine V_gets F dX5_swapped_31 fs_X5_21 ?_
  refine V_iload_n F dX5_swapped_34 rfl ?_
  refine V_taldN F dX5_swapped_35 _ (by first | (simp only [pk_mul, nI_add, nI_1, nI_inc]; done) | (simp only [pk_mul, nI_add, nI_1, nI_inc]; rfl) | rfl) (by omega) ?_
  refine V_iconst F dX5_swapped_36 ki_2 ?_
  refine V_iload_n F dX5_swapped_37 rfl ?_
  refine V_imul F dX5_swapped_38 ?_
  refine V_iconst F dX5_swapped_39 ki_3 ?_
  refine V_iload_n F dX5_swapped_40 rfl ?_
  refine V_imul F dX5_swapped_41 ?_
  refine V_isub F dX5_swapped_42 ?_
  rw [pk_mul, pk_mul]
  refine V_bipush F dX5_swapped_43 kb_24 ?_
  refine V_isR F is_X5_47 dX5_swapped_45 (As := [_, _]) (c_J9_floorMod_7cf53 _ _ (by decide)) rfl rfl rfl ?_
  rw [fm_sub (by omega) (by omega)]
  refine V_iload_n F dX5_swapped_48 rfl ?_
  refine V_isub F dX5_swapped_49 ?_
  refine V_imul F dX5_swapped_50 ?_
  refine V_iadd F dX5_swapped_51 ?_
  rw [show (2 * (dg v 0 + dg v 1 + dg v 2 + dg v 3) + 72 - 3 * dg v i) % 24 = nd v i from rfl, swp_I hi hv]
  exact V_iret F rfl dX5_swapped_52 rfl ⟨rfl, rfl, rfl⟩
theorem c_X5_enter (h : isRem G M a p l) {v : Nat} (hv : v < 331776) : Con G yX5_enter cX5_enter 3 none 0 0 0 [.ref a, .int (nI v)] M n (fun x M' n' => x = none ∧ isRem G M' a p (ent1 l v) ∧ (∀ z, z ≠ a → z ≠ p → M' z = M z) ∧ n' = n) := by
  have hh := h
  obtain ⟨h0, ⟨fo, h1, h2⟩, h3, h4⟩ := h
  have hap := ne_oj h0 h1
  refine Con.of (by decide +kernel) (Nat.le_of_ble_eq_true rfl) (fun X F hnm => ?_)
  show V G X 0 0 _ M _ 0 [some (.ref a), some (.int (nI v)), none] []
  generalize hQ : BQ G X _ 0 0 = Q
  have loop : ∀ m k : Nat, m + k = l.length → (∀ j, j < k → l[j]? ≠ some v) → V G X 0 0 Q M n 2 [some (.ref a), some (.int (nI v)), some (.int (nI k))] [] := by
    intro m
    induction m with
    | zero =>
      intro k hk hno
      have hk : k = l.length := by omega
      subst hk
      have hn : v ∉ l := fun z => by
        obtain ⟨j, hj⟩ := List.getElem?_of_mem z
        exact hno j (List.getElem?_eq_some_iff.mp hj).1 hj
      refine V_iload_n F dX5_enter_2 rfl ?_
      refine V_aload_n F dX5_enter_3 rfl ?_
      refine V_get F fl_X5_15 dX5_enter_4 (by assumption) rfl ?_
      refine V_icmp_ge F 27 dX5_enter_7 (by decide) (fun c7 => ?_) (fun c7 => absurd (nI_le (by omega) (by omega)) c7)
      refine V_aload_n F dX5_enter_27 rfl ?_
      refine V_get F fl_X5_15 dX5_enter_28 (by assumption) rfl ?_
      refine V_sipush F dX5_enter_31 ks_3840 ?_
      refine V_icmp_ge F 57 dX5_enter_34 (by decide) (fun c34 => ?_) (fun c34 => ?_)
      · have c34 : ¬ l.length < 3840 := fun z => absurd c34 (nI_ge z (by omega))
        subst hQ
        exact V_vret F rfl dX5_enter_57 ⟨rfl, by unfold ent1; rw [if_neg hn, if_neg c34]; exact hh, fun _ _ _ => rfl, rfl⟩
      · have c34 : l.length < 3840 := Nat.lt_of_not_le (fun z => c34 (nI_le z (by omega)))
        refine V_aload_n F dX5_enter_37 rfl ?_
        refine V_get F fl_X5_9 dX5_enter_38 (by assumption) rfl ?_
        refine V_aload_n F dX5_enter_41 rfl ?_
        refine V_get F fl_X5_15 dX5_enter_42 (by assumption) rfl ?_
        refine V_iload_n F dX5_enter_45 rfl ?_
        refine V_iastN F dX5_enter_46 (by assumption) _ (by first | (simp only [pk_mul, nI_add, nI_1, nI_inc]; done) | (simp only [pk_mul, nI_add, nI_1, nI_inc]; rfl) | rfl) (by omega) (by omega) ?_
        refine V_aload_n F dX5_enter_47 rfl ?_
        refine V_dup F dX5_enter_48 rfl ?_
        refine V_get F fl_X5_15 dX5_enter_49 ((mset_ne _ _ hap).trans h0) rfl ?_
        refine V_iconst F dX5_enter_52 ki_1 ?_
        refine V_iadd F dX5_enter_53 ?_
        rw [nI_add]
        subst hQ
        refine V_put F fl_X5_15 dX5_enter_54 ((mset_ne _ _ hap).trans h0) rfl rfl (Nat.le_of_ble_eq_true rfl) ?_
        refine V_vret F rfl dX5_enter_57 ⟨rfl, ?fin, fun z z1 z2 => by rw [mset_ne _ _ z1, mset_ne _ _ z2], rfl⟩
        unfold ent1
        rw [if_neg hn, if_pos c34]
        refine ⟨?_, ⟨_, (mset_ne _ _ hap.symm).trans (mset_eq _ _ _), fun k u hk => ?_⟩, ?_, ?_⟩
        · rw [mset_eq, List.length_append]
          rfl
        · by_cases q1 : k < l.length
          · rw [List.getElem?_append_left q1] at hk
            rw [va_up_ne _ _ (by omega)]
            exact h2 k u hk
          · rw [List.getElem?_append_right (by omega)] at hk
            have q2 : k - l.length < 1 := (List.getElem?_eq_some_iff.mp hk).1
            have q3 : k = l.length := by omega
            subst q3
            rw [Nat.sub_self] at hk
            cases hk
            rw [va_up_self]
        · rw [List.length_append, List.length_singleton]; omega
        · intro u hu
          rcases List.mem_append.mp hu with q1 | q1
          · exact h4 u q1
          · rw [List.mem_singleton.mp q1]; exact hv
    | succ m ih =>
      intro k hk hno
      have hkl : k < l.length := by omega
      have hg : l[k]? = some l[k] := List.getElem?_eq_getElem hkl
      have hlt := h4 _ (List.getElem_mem hkl)
      refine V_iload_n F dX5_enter_2 rfl ?_
      refine V_aload_n F dX5_enter_3 rfl ?_
      refine V_get F fl_X5_15 dX5_enter_4 (by assumption) rfl ?_
      refine V_icmp_ge F 27 dX5_enter_7 (by decide) (fun c7 => absurd c7 (nI_ge (by omega) (by omega))) (fun c7 => ?_)
      refine V_aload_n F dX5_enter_10 rfl ?_
      refine V_get F fl_X5_9 dX5_enter_11 (by assumption) rfl ?_
      refine V_iload_n F dX5_enter_14 rfl ?_
      refine V_ialdN F dX5_enter_15 (by assumption) _ (by first | (simp only [pk_mul, nI_add, nI_1, nI_inc]; done) | (simp only [pk_mul, nI_add, nI_1, nI_inc]; rfl) | rfl) (by omega) (by omega) ?_
      rw [h2 k _ hg]
      refine V_iload_n F dX5_enter_16 rfl ?_
      refine V_icmp_ne F 21 dX5_enter_17 (by decide) (fun c17 => ?_) (fun c17 => ?_)
      · rw [nI_eq (by omega) (by omega)] at c17
        refine V_iinc1 F dX5_enter_21 rfl ?_
        show V _ _ _ _ _ _ _ _ [_, _, _] _
        refine V_goto F 2 dX5_enter_24 (by decide) ?_
        exact ih (k + 1) (by omega) (fun j hj => by
          by_cases q1 : j = k
          · subst q1; rw [hg]; exact fun z => c17 (Option.some.inj z)
          · exact hno j (by omega))
      · rw [nI_eq (by omega) (by omega)] at c17
        subst hQ
        exact V_vret F rfl dX5_enter_20 ⟨rfl, by unfold ent1; rw [if_pos (by rw [← c17]; exact List.getElem_mem hkl)]; exact hh, fun _ _ _ => rfl, rfl⟩
  refine V_iconst F dX5_enter_0 ki_0 ?_
  refine V_istore_n F dX5_enter_1 (Nat.le_of_ble_eq_true rfl) ?_
  show V _ _ _ _ _ _ _ _ [_, _, _] _
  exact loop l.length 0 (by omega) (fun j hj => by omega)
end REM
