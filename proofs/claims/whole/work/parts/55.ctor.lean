def fresh (M : Mem) (h : Nat) : Prop := ∀ z, h ≤ z → M z = none
theorem l_mna : Cond.classLink RX2 9 ("[" ++ (FieldType.array .long).toString) ∈ gtbl := by
  have e : ("[" ++ (FieldType.array .long).toString) = "[[J" := by decide +kernel
  rw [e]
  exact cl_X2_9
section CTOR
variable {G : GP} {M : Mem} {a h : Nat}
theorem c_X1_init (hO : M a = some (eO 1 [.null])) (ha : a < h) : Con G yX1_init cX1_init 1 none 1 1 12 [.ref a] M (some h) (R1 none (mset (mset M h (eJ (gT G) 12 (fun _ => 0))) a (eO 1 [.ref h])) (some (h + 1))) := by
  refine Con.of (by decide +kernel) (Nat.le_of_ble_eq_true rfl) (fun X F hnm => ?_)
  show V G X 0 0 _ M _ 0 [some (.ref a)] []
  refine V_aload_n F dX1_init_0 rfl ?_
  refine V_oi F oi_X1_3 w_oiI w_oiC dX1_init_1 (Nat.le_of_ble_eq_true rfl) (Nat.le_of_ble_eq_true rfl) ?_
  refine V_aload_n F dX1_init_4 rfl ?_
  refine V_bipush F dX1_init_5 kb_12 ?_
  refine V_newA F (at_ := .long) (ty := .long) (N := 12) (a0 := (12, .inr (.inl (fun _ => 0)))) 1 w_aJ rfl rfl (fun _ _ h => h) (fun _ => rfl) dX1_init_7 (nI_pos (by omega)) (nI_clamp (by omega)) (Nat.le_of_ble_eq_true rfl) (Nat.le_of_ble_eq_true rfl) (Nat.le_of_ble_eq_true rfl) ?_
  refine V_putF F hnm fl_X1_11 rfl dX1_init_9 ((mset_ne _ _ (by omega)).trans hO) rfl rfl (Nat.le_of_ble_eq_true rfl) ?_
  exact V_vret F rfl dX1_init_12 ⟨rfl, rfl, rfl⟩
theorem c_X5_init (hO : M a = some (eO 5 [.null, .int 0])) (ha : a < h) : Con G yX5_init cX5_init 1 none 1 1 3840 [.ref a] M (some h) (R1 none (mset (mset M h (eI (gT G) 3840 (fun _ => 0))) a (eO 5 [.ref h, .int (nI 0)])) (some (h + 1))) := by
  refine Con.of (by decide +kernel) (Nat.le_of_ble_eq_true rfl) (fun X F hnm => ?_)
  show V G X 0 0 _ M _ 0 [some (.ref a)] []
  refine V_aload_n F dX5_init_0 rfl ?_
  refine V_oi F oi_X5_3 w_oiI w_oiC dX5_init_1 (Nat.le_of_ble_eq_true rfl) (Nat.le_of_ble_eq_true rfl) ?_
  refine V_aload_n F dX5_init_4 rfl ?_
  refine V_sipush F dX5_init_5 ks_3840 ?_
  refine V_newA F (at_ := .int) (ty := .int) (N := 3840) (a0 := (3840, .inl (fun _ => 0))) 0 w_aI rfl rfl (fun _ _ h => h) (fun _ => rfl) dX5_init_8 (nI_pos (by omega)) (nI_clamp (by omega)) (Nat.le_of_ble_eq_true rfl) (Nat.le_of_ble_eq_true rfl) (Nat.le_of_ble_eq_true rfl) ?_
  refine V_putF F hnm fl_X5_9 rfl dX5_init_10 ((mset_ne _ _ (by omega)).trans hO) rfl rfl (Nat.le_of_ble_eq_true rfl) ?_
  refine V_aload_n F dX5_init_13 rfl ?_
  refine V_iconst F dX5_init_14 ki_0 ?_
  refine V_put F fl_X5_15 dX5_init_15 (mset_eq _ _ _) rfl rfl (Nat.le_of_ble_eq_true rfl) ?_
  exact V_vret F rfl dX5_init_18 ⟨rfl, by rw [mset_mset] <;> rfl, rfl⟩
theorem c_X0_init (hO : M a = some (eO 0 [.null, .int 0, .int 0])) (ha : a < h) : Con G yX0_init cX0_init 1 none 1 1 24 [.ref a] M (some h) (R1 none (mset (mset M h (eJ (gT G) 24 (fun _ => 0))) a (eO 0 [.ref h, .int (-1), .int (nI 0)])) (some (h + 1))) := by
  refine Con.of (by decide +kernel) (Nat.le_of_ble_eq_true rfl) (fun X F hnm => ?_)
  show V G X 0 0 _ M _ 0 [some (.ref a)] []
  refine V_aload_n F dX0_init_0 rfl ?_
  refine V_oi F oi_X0_3 w_oiI w_oiC dX0_init_1 (Nat.le_of_ble_eq_true rfl) (Nat.le_of_ble_eq_true rfl) ?_
  refine V_aload_n F dX0_init_4 rfl ?_
  refine V_bipush F dX0_init_5 kb_24 ?_
  refine V_newA F (at_ := .long) (ty := .long) (N := 24) (a0 := (24, .inr (.inl (fun _ => 0)))) 1 w_aJ rfl rfl (fun _ _ h => h) (fun _ => rfl) dX0_init_7 (nI_pos (by omega)) (nI_clamp (by omega)) (Nat.le_of_ble_eq_true rfl) (Nat.le_of_ble_eq_true rfl) (Nat.le_of_ble_eq_true rfl) ?_
  refine V_putF F hnm fl_X0_9 rfl dX0_init_9 ((mset_ne _ _ (by omega)).trans hO) rfl rfl (Nat.le_of_ble_eq_true rfl) ?_
  refine V_aload_n F dX0_init_12 rfl ?_
  refine V_iconst F dX0_init_13 ki_m1 ?_
  refine V_put F fl_X0_15 dX0_init_14 (mset_eq _ _ _) rfl rfl (Nat.le_of_ble_eq_true rfl) ?_
  refine V_aload_n F dX0_init_17 rfl ?_
  refine V_iconst F dX0_init_18 ki_0 ?_
  refine V_put F fl_X0_19 dX0_init_19 (mset_eq _ _ _) rfl rfl (Nat.le_of_ble_eq_true rfl) ?_
  exact V_vret F rfl dX0_init_22 ⟨rfl, by rw [mset_mset, mset_mset] <;> rfl, rfl⟩
def lstP (G : GP) (M : Mem) (a h : Nat) : Option Value → Mem → Option Nat → Prop := fun v M' n' => v = none ∧ n' = some (h + 4) ∧ isLst G M' a h (fun w => h + 1 + w) (fun _ _ => 0) 0 (nI 0) (nI 0) ∧ ∀ z, z ≠ a → (z < h ∨ h + 4 ≤ z) → M' z = M z
theorem c_X2_init (hO : M a = some (eO 2 [.null, .int 0, .int 0, .int 0])) (ha : a < h) : Con G yX2_init cX2_init 1 none 1 4 723 [.ref a] M (some h) (lstP G M a h) := by
  refine Con.of (by decide +kernel) (Nat.le_of_ble_eq_true rfl) (fun X F hnm => ?_)
  show V G X 0 0 _ M _ 0 [some (.ref a)] []
  refine V_aload_n F dX2_init_0 rfl ?_
  refine V_oi F oi_X2_3 w_oiI w_oiC dX2_init_1 (Nat.le_of_ble_eq_true rfl) (Nat.le_of_ble_eq_true rfl) ?_
  refine V_aload_n F dX2_init_4 rfl ?_
  refine V_iconst F dX2_init_5 ki_3 ?_
  refine V_sipush F dX2_init_6 ks_240 ?_
  refine V_mna (N := 3) (K := 240) F l_mna dX2_init_9 rfl rfl (by omega) (by omega) (Nat.le_of_ble_eq_true rfl) (Nat.le_of_ble_eq_true rfl) ?_
  have e1 : mrow M h 3 (eQ (gT G) 5 3 (fun j => if j < 3 then some (h + 1 + j) else none)) (eJ (gT G) 240 (fun _ => 0)) h = some (eQ (gT G) 5 3 (fun j => if j < 3 then some (h + 1 + j) else none)) := by
    unfold mrow
    rw [if_pos rfl]
  have e2 : ∀ w, w < 3 → mrow M h 3 (eQ (gT G) 5 3 (fun j => if j < 3 then some (h + 1 + j) else none)) (eJ (gT G) 240 (fun _ => 0)) (h + 1 + w) = some (eJ (gT G) 240 (fun _ => 0)) := fun w hw => by
    unfold mrow
    rw [if_neg (by omega), if_pos (by omega)]
  have e3 : ∀ z, (z < h ∨ h + 4 ≤ z) → mrow M h 3 (eQ (gT G) 5 3 (fun j => if j < 3 then some (h + 1 + j) else none)) (eJ (gT G) 240 (fun _ => 0)) z = M z := fun z hz => by
    unfold mrow
    rw [if_neg (by omega), if_neg (by omega)]
  generalize mrow M h 3 (eQ (gT G) 5 3 (fun j => if j < 3 then some (h + 1 + j) else none)) (eJ (gT G) 240 (fun _ => 0)) = M1 at e1 e2 e3 ⊢
  refine V_putF F hnm fl_X2_11 rfl dX2_init_13 ((e3 _ (by omega)).trans hO) rfl rfl (Nat.le_of_ble_eq_true rfl) ?_
  refine V_aload_n F dX2_init_16 rfl ?_
  refine V_iconst F dX2_init_17 ki_0 ?_
  refine V_put F fl_X2_16 dX2_init_18 (mset_eq _ _ _) rfl rfl (Nat.le_of_ble_eq_true rfl) ?_
  refine V_aload_n F dX2_init_21 rfl ?_
  refine V_iconst F dX2_init_22 ki_0 ?_
  refine V_put F fl_X2_20 dX2_init_23 (mset_eq _ _ _) rfl rfl (Nat.le_of_ble_eq_true rfl) ?_
  refine V_aload_n F dX2_init_26 rfl ?_
  refine V_iconst F dX2_init_27 ki_0 ?_
  refine V_put F fl_X2_23 dX2_init_28 (mset_eq _ _ _) rfl rfl (Nat.le_of_ble_eq_true rfl) ?_
  rw [mset_mset, mset_mset, mset_mset]
  refine V_vret F rfl dX2_init_31 ⟨rfl, rfl, ⟨mset_eq _ _ _, ⟨_, (mset_ne _ _ (by omega)).trans e1, fun w hw => if_pos hw⟩, fun w hw => (mset_ne _ _ (show h + 1 + w ≠ a by omega)).trans (e2 w hw)⟩, fun z hz hz2 => (mset_ne _ _ hz).trans (e3 z hz2)⟩
def quadP (G : GP) (M : Mem) (a h : Nat) : Option Value → Mem → Option Nat → Prop := fun v M' n' => v = none ∧ n' = some (h + 4) ∧ M' a = some (eO 4 [.ref h, .ref (h + 2), .int (-3), .int (nI 0), .int (nI 0)]) ∧ M' h = some (eO 1 [.ref (h + 1)]) ∧ M' (h + 1) = some (eJ (gT G) 12 (fun _ => 0)) ∧ M' (h + 2) = some (eO 1 [.ref (h + 3)]) ∧ M' (h + 3) = some (eJ (gT G) 12 (fun _ => 0)) ∧ ∀ z, z ≠ a → (z < h ∨ h + 4 ≤ z) → M' z = M z
theorem c_X4_init (hO : M a = some (eO 4 [.null, .null, .int 0, .int 0, .int 0])) (ha : a < h) (hF : fresh M h) : Con G yX4_init cX4_init 1 none 2 4 26 [.ref a] M (some h) (quadP G M a h) := by
  refine Con.of (by decide +kernel) (Nat.le_of_ble_eq_true rfl) (fun X F hnm => ?_)
  show V G X 0 0 _ M _ 0 [some (.ref a)] []
  refine V_aload_n F dX4_init_0 rfl ?_
  refine V_oi F oi_X4_3 w_oiI w_oiC dX4_init_1 (Nat.le_of_ble_eq_true rfl) (Nat.le_of_ble_eq_true rfl) ?_
  refine V_aload_n F dX4_init_4 rfl ?_
  refine V_new F (ci := 1) (fs := [.null]) rfl tyX1_ok cl_X4_9 it_X1 ii_X1 (by intro j hj; match j, hj with | 0, _ => rfl) dX4_init_5 (Nat.le_of_ble_eq_true rfl) (Nat.le_of_ble_eq_true rfl) (hF _ (by omega)) ?_
  refine V_dup F dX4_init_8 rfl ?_
  refine V_ik F ik_X4_11 dX4_init_9 (As := []) (c_X1_init (mset_eq _ _ _) (by omega)) rfl rfl (Nat.le_of_ble_eq_true rfl) (Nat.le_of_ble_eq_true rfl) (Nat.le_of_ble_eq_true rfl) (Nat.le_of_ble_eq_true rfl) (Nat.le_of_ble_eq_true rfl) ?_
  rintro _ _ _ ⟨rfl, rfl, rfl⟩
  refine V_putF F hnm fl_X4_12 rfl dX4_init_12 (by (repeat rw [mset_ne _ _ (by omega)]); exact hO) rfl rfl (Nat.le_of_ble_eq_true rfl) ?_
  refine V_aload_n F dX4_init_15 rfl ?_
  refine V_new F (ci := 1) (fs := [.null]) rfl tyX1_ok cl_X4_9 it_X1 ii_X1 (by intro j hj; match j, hj with | 0, _ => rfl) dX4_init_16 (Nat.le_of_ble_eq_true rfl) (Nat.le_of_ble_eq_true rfl) (by (repeat rw [mset_ne _ _ (by omega)]); exact hF _ (by omega)) ?_
  refine V_dup F dX4_init_19 rfl ?_
  refine V_ik F ik_X4_11 dX4_init_20 (As := []) (c_X1_init (mset_eq _ _ _) (by omega)) rfl rfl (Nat.le_of_ble_eq_true rfl) (Nat.le_of_ble_eq_true rfl) (Nat.le_of_ble_eq_true rfl) (Nat.le_of_ble_eq_true rfl) (Nat.le_of_ble_eq_true rfl) ?_
  rintro _ _ _ ⟨rfl, rfl, rfl⟩
  refine V_putF F hnm fl_X4_18 rfl dX4_init_23 (by (repeat rw [mset_ne _ _ (by omega)]); exact mset_eq _ _ _) rfl rfl (Nat.le_of_ble_eq_true rfl) ?_
  refine V_aload_n F dX4_init_26 rfl ?_
  refine V_bipush F dX4_init_27 kb_m3 ?_
  refine V_put F fl_X4_21 dX4_init_29 (mset_eq _ _ _) rfl rfl (Nat.le_of_ble_eq_true rfl) ?_
  refine V_aload_n F dX4_init_32 rfl ?_
  refine V_iconst F dX4_init_33 ki_0 ?_
  refine V_put F fl_X4_25 dX4_init_34 (mset_eq _ _ _) rfl rfl (Nat.le_of_ble_eq_true rfl) ?_
  refine V_aload_n F dX4_init_37 rfl ?_
  refine V_iconst F dX4_init_38 ki_0 ?_
  refine V_put F fl_X4_28 dX4_init_39 (mset_eq _ _ _) rfl rfl (Nat.le_of_ble_eq_true rfl) ?_
  refine V_vret F rfl dX4_init_42 ⟨rfl, rfl, ?_, ?_, ?_, ?_, ?_, fun z hz hz2 => ?_⟩
  · exact mset_eq _ _ _
  · repeat rw [mset_ne _ _ (by omega)]
    exact mset_eq _ _ _
  · repeat rw [mset_ne _ _ (by omega)]
    exact mset_eq _ _ _
  · repeat rw [mset_ne _ _ (by omega)]
    exact mset_eq _ _ _
  · repeat rw [mset_ne _ _ (by omega)]
    exact mset_eq _ _ _
  · repeat rw [mset_ne _ _ (by omega)]
end CTOR
