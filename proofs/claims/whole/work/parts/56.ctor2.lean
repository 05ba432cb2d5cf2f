def seaI (G : GP) (M M' : Mem) (a h k : Nat) : Prop := M' a = some (eO 3 [.ref h, .ref (h + 1), .ref (h + 2), .int (nI 0)]) ∧ (∃ g, M' h = some (eQ (gT G) 4 241 g) ∧ ∀ j, j < k → g j = some (h + 4 + 2 * j)) ∧ (∃ f, M' (h + 1) = some (eI (gT G) 241 f)) ∧ M' (h + 2) = some (eO 1 [.ref (h + 3)]) ∧ (∃ c, M' (h + 3) = some (eJ (gT G) 12 (fc c))) ∧ (∀ j, j < k → M' (h + 4 + 2 * j) = some (eO 1 [.ref (h + 5 + 2 * j)]) ∧ M' (h + 5 + 2 * j) = some (eJ (gT G) 12 (fun _ => 0))) ∧ (∀ z, z < h → z ≠ a → M' z = M z) ∧ fresh M' (h + 4 + 2 * k)
def seaP (G : GP) (M : Mem) (a h : Nat) : Option Value → Mem → Option Nat → Prop := fun v M' n' => v = none ∧ n' = some (h + 486) ∧ isSea G M' a h (h + 1) (h + 2) (h + 3) (fun k => h + 4 + 2 * k) (fun k => h + 5 + 2 * k) [] ∧ (∀ z, z < h → z ≠ a → M' z = M z) ∧ fresh M' (h + 486)
section CTOR2
variable {G : GP} {M : Mem} {a h : Nat}
theorem c_X3_init (hO : M a = some (eO 3 [.null, .null, .null, .int 0])) (ha : a < h) (hF : fresh M h) : Con G yX3_init cX3_init 2 none 2 486 3628 [.ref a] M (some h) (seaP G M a h) := by
  refine Con.of (by decide +kernel) (Nat.le_of_ble_eq_true rfl) (fun X F hnm => ?_)
  show V G X 0 0 _ M _ 0 [some (.ref a), none] []
  have loop : ∀ m k M', k + m = 241 → seaI G M M' a h k → V G X (4 + 2 * k) (495 + 13 * k) (BQ G X (seaP G M a h) 486 3628) M' (some (h + 4 + 2 * k)) 41 [some (.ref a), some (.int (nI k))] [] := by
    intro m
    induction m with
    | zero =>
      intro k M' hk hi
      have hk : k = 241 := by omega
      subst hk
      obtain ⟨i1, ⟨g, i2, i2'⟩, ⟨f, i3⟩, i4, i5, i6, i7, i8⟩ := hi
      rw [show h + 4 + 2 * 241 = h + 486 by omega] at i8 ⊢
      refine V_iload_n F dX3_init_41 rfl ?_
      refine V_sipush F dX3_init_42 ks_241 ?_
      refine V_icmp_ge F 67 dX3_init_45 (by decide) (fun c45 => ?_) (fun c45 => absurd (by decide) c45)
      refine V_vret F rfl dX3_init_67 ⟨rfl, rfl, ⟨i1, ⟨g, i2, i2'⟩, ⟨f, i3, fun k x hx => by simp at hx⟩, i4, i5, fun k hk => ⟨(i6 k hk).1, fun _ _ => 0, (i6 k hk).2, fun x hx => by simp at hx⟩, Nat.zero_le _⟩, i7, i8⟩
    | succ m ih =>
      intro k M' hk hi
      have hk2 : k < 241 := by omega
      obtain ⟨i1, ⟨g, i2, i2'⟩, ⟨f, i3⟩, i4, ⟨c, i5⟩, i6, i7, i8⟩ := hi
      refine V_iload_n F dX3_init_41 rfl ?_
      refine V_sipush F dX3_init_42 ks_241 ?_
      refine V_icmp_ge F 67 dX3_init_45 (by decide) (fun c45 => absurd c45 (nI_ge hk2 (by omega))) (fun c45 => ?_)
      refine V_aload_n F dX3_init_48 rfl ?_
      refine V_get F fl_X3_13 dX3_init_49 (by assumption) rfl ?_
      refine V_iload_n F dX3_init_52 rfl ?_
      refine V_new F (ci := 1) (fs := [.null]) rfl tyX1_ok cl_X3_11 it_X1 ii_X1 (by intro j hj; match j, hj with | 0, _ => rfl) dX3_init_53 (by omega) (by omega) (i8 _ (by omega)) ?_
      refine V_dup F dX3_init_56 rfl ?_
      refine V_ik F ik_X3_21 dX3_init_57 (As := []) (c_X1_init (mset_eq _ _ _) (by omega)) rfl rfl (Nat.le_of_ble_eq_true rfl) (Nat.le_of_ble_eq_true rfl) (by omega) (by omega) (Nat.le_of_ble_eq_true rfl) ?_
      rintro _ _ _ ⟨rfl, rfl, rfl⟩
      refine V_aastN F 4 dX3_init_60 (by (repeat rw [mset_ne _ _ (by omega)]); exact i2) rfl (mset_eq _ _ _) rfl k rfl hk2 (by omega) ?_
      refine V_iinc1 F dX3_init_61 rfl ?_
      show V _ _ _ _ _ _ _ _ [_, _] _
      refine V_goto F 41 dX3_init_64 (by decide) ?_
      refine V_widen (k1 := 4 + 2 * (k + 1)) (k2 := 495 + 13 * (k + 1)) (by omega) (by omega) ?_
      rw [show h + 4 + 2 * k + 1 + 1 = h + 4 + 2 * (k + 1) by omega]
      refine ih (k + 1) _ (by omega) ⟨?_, ⟨_, mset_eq _ _ _, fun j hj => ?_⟩, ⟨f, ?_⟩, ?_, ⟨c, ?_⟩, fun j hj => ?_, fun z z1 z2 => ?_, fun z hz => ?_⟩
      · repeat rw [mset_ne _ _ (by omega)]
        exact i1
      · by_cases e : j = k
        · subst e
          simp [va_up]
        · simp only [va_up, if_neg e]
          exact i2' j (by omega)
      · repeat rw [mset_ne _ _ (by omega)]
        exact i3
      · repeat rw [mset_ne _ _ (by omega)]
        exact i4
      · repeat rw [mset_ne _ _ (by omega)]
        exact i5
      · by_cases e : j = k
        · subst e
          refine ⟨?_, ?_⟩
          · rw [mset_ne _ _ (by omega), mset_eq, show h + 4 + 2 * j + 1 = h + 5 + 2 * j by omega]
          · rw [mset_ne _ _ (by omega), mset_ne _ _ (by omega), show h + 4 + 2 * j + 1 = h + 5 + 2 * j by omega, mset_eq]
        · refine ⟨?_, ?_⟩
          · repeat rw [mset_ne _ _ (by omega)]
            exact (i6 j (by omega)).1
          · repeat rw [mset_ne _ _ (by omega)]
            exact (i6 j (by omega)).2
      · repeat rw [mset_ne _ _ (by omega)]
        exact i7 z z1 z2
      · repeat rw [mset_ne _ _ (by omega)]
        exact i8 z (by omega)
  refine V_aload_n F dX3_init_0 rfl ?_
  refine V_oi F oi_X3_3 w_oiI w_oiC dX3_init_1 (Nat.le_of_ble_eq_true rfl) (Nat.le_of_ble_eq_true rfl) ?_
  refine V_aload_n F dX3_init_4 rfl ?_
  refine V_sipush F dX3_init_5 ks_241 ?_
  refine V_newQ F 4 cl_X3_11 F.n.2.2.2.1 rfl dX3_init_8 (nI_pos (by omega)) (nI_clamp (by omega)) (Nat.le_of_ble_eq_true rfl) (Nat.le_of_ble_eq_true rfl) (Nat.le_of_ble_eq_true rfl) ?_
  refine V_putF F hnm fl_X3_13 rfl dX3_init_11 ((mset_ne _ _ (by omega)).trans hO) rfl rfl (Nat.le_of_ble_eq_true rfl) ?_
  refine V_aload_n F dX3_init_14 rfl ?_
  refine V_sipush F dX3_init_15 ks_241 ?_
  refine V_newA F (at_ := .int) (ty := .int) (N := 241) (a0 := (241, .inl (fun _ => 0))) 0 w_aI rfl rfl (fun _ _ h => h) (fun _ => rfl) dX3_init_18 (nI_pos (by omega)) (nI_clamp (by omega)) (Nat.le_of_ble_eq_true rfl) (Nat.le_of_ble_eq_true rfl) (Nat.le_of_ble_eq_true rfl) ?_
  refine V_putF F hnm fl_X3_17 rfl dX3_init_20 (by (repeat rw [mset_ne _ _ (by omega)]); exact mset_eq _ _ _) rfl rfl (Nat.le_of_ble_eq_true rfl) ?_
  refine V_aload_n F dX3_init_23 rfl ?_
  refine V_new F (ci := 1) (fs := [.null]) rfl tyX1_ok cl_X3_11 it_X1 ii_X1 (by intro j hj; match j, hj with | 0, _ => rfl) dX3_init_24 (Nat.le_of_ble_eq_true rfl) (Nat.le_of_ble_eq_true rfl) (by (repeat rw [mset_ne _ _ (by omega)]); exact hF _ (by omega)) ?_
  refine V_dup F dX3_init_27 rfl ?_
  refine V_ik F ik_X3_21 dX3_init_28 (As := []) (c_X1_init (mset_eq _ _ _) (by omega)) rfl rfl (Nat.le_of_ble_eq_true rfl) (Nat.le_of_ble_eq_true rfl) (Nat.le_of_ble_eq_true rfl) (Nat.le_of_ble_eq_true rfl) (Nat.le_of_ble_eq_true rfl) ?_
  rintro _ _ _ ⟨rfl, rfl, rfl⟩
  refine V_putF F hnm fl_X3_22 rfl dX3_init_31 (by (repeat rw [mset_ne _ _ (by omega)]); exact mset_eq _ _ _) rfl rfl (Nat.le_of_ble_eq_true rfl) ?_
  refine V_aload_n F dX3_init_34 rfl ?_
  refine V_iconst F dX3_init_35 ki_0 ?_
  refine V_put F fl_X3_26 dX3_init_36 (mset_eq _ _ _) rfl rfl (Nat.le_of_ble_eq_true rfl) ?_
  refine V_iconst F dX3_init_39 ki_0 ?_
  refine V_istore_n F dX3_init_40 (Nat.le_of_ble_eq_true rfl) ?_
  show V _ _ _ _ _ _ _ _ [_, _] _
  rw [show h + 1 + 1 + 1 + 1 = h + 4 + 2 * 0 by omega]
  refine loop 241 0 _ (by omega) ⟨?_, ⟨fun _ => none, ?_, fun j hj => absurd hj (Nat.not_lt_zero _)⟩, ⟨fun _ => 0, ?_⟩, ?_, ⟨fun _ _ => 0, ?_⟩, fun j hj => absurd hj (Nat.not_lt_zero _), fun z z1 z2 => ?_, fun z hz => ?_⟩
  · exact mset_eq _ _ _
  · repeat rw [mset_ne _ _ (by omega)]
    exact mset_eq _ _ _
  · repeat rw [mset_ne _ _ (by omega)]
    exact mset_eq _ _ _
  · repeat rw [mset_ne _ _ (by omega)]
    exact mset_eq _ _ _
  · repeat rw [mset_ne _ _ (by omega)]
    exact mset_eq _ _ _
  · repeat rw [mset_ne _ _ (by omega)]
  · repeat rw [mset_ne _ _ (by omega)]
    exact hF z (by omega)
end CTOR2
