section START
variable {G : GP} {X : CX} {Q : State → Prop} {M : Mem} {b N : Nat} {sc : Nat → Int32}
set_option maxRecDepth 100000 in
theorem law_step (F : FX G X RL cL_law (some .boolean) 10 600000 7302249) (hX : scr G X b N sc) (fin : ∀ M t, V G X 832 382631 Q M none 924 (LL G b t) []) {t : Nat} {s : Sg} {lq : Int32} (I : Inv G M s lq) (ht : 6 * t < 10000) (next : 6 * t + 6 ≤ N → ∀ M2 s2 lq2, Inv G M2 s2 lq2 → V G X 832 382631 Q M2 none 18 (LL G b (t + 1)) []) : V G X 832 382631 Q M none 18 (LL G b t) [] := by
  have hN := hX.2.2
  refine V_iload_n F dL_law_18 rfl ?_
  refine V_aload_n F dL_law_19 rfl ?_
  refine V_slen F hX dL_law_20 ?_
  refine V_bipush F dL_law_21 kb_6 ?_
  refine V_isub F dL_law_23 ?_
  refine V_icmp_gt F 924 dL_law_24 (by decide) (fun _ => fin M t) (fun c => ?_)
  have hb : 6 * t + 6 ≤ N := by
    rw [Int32.lt_iff_toInt_lt, Int32.toInt_sub, nI_toInt (by omega), nI_toInt (by omega), nI_toInt (by omega), bm32 (by omega) (by omega)] at c
    omega
  have tail : ∀ M2 s2 lq2, Inv G M2 s2 lq2 → V G X 832 382631 Q M2 none 918 (LL G b t) [] := by
    intro M2 s2 lq2 I2
    refine V_iinc F dL_law_918 rfl ?_
    refine V_goto F 18 dL_law_921 (by decide) ?_
    have e : nI (6 * t) + Int32.ofInt 6 = nI (6 * (t + 1)) := by
      rw [show Int32.ofInt 6 = nI 6 by decide, nI_add, show 6 * t + 6 = 6 * (t + 1) by omega]
    have k := next hb M2 s2 lq2 I2
    unfold LL at k
    rw [← e] at k
    exact k
  refine V_aload_n F dL_law_27 rfl ?_
  refine V_iload_n F dL_law_28 rfl ?_
  refine V_sld F hX dL_law_29 (6 * t) rfl (by omega) ?_
  refine V_bipush F dL_law_30 kb_31 ?_
  refine V_iand F dL_law_32 ?_
  obtain ⟨j, hj, e⟩ := and31 (sc (6 * t))
  rw [e]
  rcases (show j = 0 ∨ j = 1 ∨ j = 2 ∨ j = 3 ∨ j = 4 ∨ j = 5 ∨ j = 6 ∨ j = 7 ∨ j = 8 ∨ j = 9 ∨ j = 10 ∨ j = 11 ∨ j = 12 ∨ j = 13 ∨ j = 14 ∨ j = 15 ∨ j = 16 ∨ j = 17 ∨ j = 18 ∨ j = 19 ∨ 20 ≤ j by omega) with rfl | rfl | rfl | rfl | rfl | rfl | rfl | rfl | rfl | rfl | rfl | rfl | rfl | rfl | rfl | rfl | rfl | rfl | rfl | rfl | h
  · exact V_tableIn F 128 dL_law_33 (by decide) (by decide) rfl (by decide) (law_c0 F hX hb I tail)
  · exact V_tableIn F 171 dL_law_33 (by decide) (by decide) rfl (by decide) (law_c1 F hX hb I tail)
  · exact V_tableIn F 244 dL_law_33 (by decide) (by decide) rfl (by decide) (law_c2 F hX hb I tail)
  · exact V_tableIn F 307 dL_law_33 (by decide) (by decide) rfl (by decide) (law_c3 F hX hb I tail)
  · exact V_tableIn F 380 dL_law_33 (by decide) (by decide) rfl (by decide) (law_c4 F hX hb I tail)
  · exact V_tableIn F 413 dL_law_33 (by decide) (by decide) rfl (by decide) (law_c5 F hX hb I tail)
  · exact V_tableIn F 446 dL_law_33 (by decide) (by decide) rfl (by decide) (law_c6 F hX hb I tail)
  · exact V_tableIn F 489 dL_law_33 (by decide) (by decide) rfl (by decide) (law_c7 F hX hb I tail)
  · exact V_tableIn F 512 dL_law_33 (by decide) (by decide) rfl (by decide) (law_c8 F hX hb I tail)
  · exact V_tableIn F 535 dL_law_33 (by decide) (by decide) rfl (by decide) (law_c9 F hX hb I tail)
  · exact V_tableIn F 568 dL_law_33 (by decide) (by decide) rfl (by decide) (law_c10 F hX hb I tail)
  · exact V_tableIn F 611 dL_law_33 (by decide) (by decide) rfl (by decide) (law_c11 F hX hb I tail)
  · exact V_tableIn F 644 dL_law_33 (by decide) (by decide) rfl (by decide) (law_c12 F hX hb I tail)
  · exact V_tableIn F 697 dL_law_33 (by decide) (by decide) rfl (by decide) (law_c13 F hX hb I tail)
  · exact V_tableIn F 730 dL_law_33 (by decide) (by decide) rfl (by decide) (law_c14 F hX hb I tail)
  · exact V_tableIn F 763 dL_law_33 (by decide) (by decide) rfl (by decide) (law_c15 F hX hb I tail)
  · exact V_tableIn F 786 dL_law_33 (by decide) (by decide) rfl (by decide) (law_c16 F hX hb I tail)
  · exact V_tableIn F 809 dL_law_33 (by decide) (by decide) rfl (by decide) (law_c17 F hX hb I tail)
  · exact V_tableIn F 832 dL_law_33 (by decide) (by decide) rfl (by decide) (law_c18 F hX hb I tail)
  · exact V_tableIn F 895 dL_law_33 (by decide) (by decide) rfl (by decide) (law_c19 F hX hb I tail)
  · exact V_tableOut F 918 dL_law_33 (Or.inr (by rw [nI_toInt (by omega)]; omega)) (by decide) (tail M s lq I)
theorem law_loop (F : FX G X RL cL_law (some .boolean) 10 600000 7302249) (hX : scr G X b N sc) (fin : ∀ M t, V G X 832 382631 Q M none 924 (LL G b t) []) : ∀ (m t : Nat) (M : Mem) (s : Sg) (lq : Int32), N < 6 * t + 6 * m → 6 * t < 10000 → Inv G M s lq → V G X 832 382631 Q M none 18 (LL G b t) [] := by
  intro m
  have hN := hX.2.2
  induction m with
  | zero => exact fun t M s lq h h2 I => law_step F hX fin I h2 (fun z => absurd z (by omega))
  | succ m ih => exact fun t M s lq h h2 I => law_step F hX fin I h2 (fun z M2 s2 lq2 I2 => ih (t + 1) M2 s2 lq2 (by omega) (by omega) I2)
theorem KG0 : KG s0 (-3) := ⟨fun k hk => absurd hk (Nat.not_lt_zero _), fun i j _ hj => absurd hj (Nat.not_lt_zero _), Or.inl ⟨rfl, rfl⟩⟩
set_option maxRecDepth 100000 in
theorem law_all (F : FX G X RL cL_law (some .boolean) 10 600000 7302249) (hX : scr G X b N sc) (fin : ∀ M t, V G X 832 382631 Q M none 924 (LL G b t) []) : V G X 0 0 Q (fun _ => none) (some (gB G)) 0 [some (.ref b), none, none, none] [] := by
  have hN := hX.2.2
  refine V_new F (ci := 6) (fs := [.null, .null, .int 0, .null, .null, .null, .null, .null]) rfl tyX6_ok cl_L_7 it_X6 ii_X6 (by intro j hj; match j, hj with | 0, _ => rfl | 1, _ => rfl | 2, _ => rfl | 3, _ => rfl | 4, _ => rfl | 5, _ => rfl | 6, _ => rfl | 7, _ => rfl) dL_law_0 (Nat.le_of_ble_eq_true rfl) (Nat.le_of_ble_eq_true rfl) rfl ?_
  refine V_dup F dL_law_3 rfl ?_
  refine V_ic F ic_L_9 dL_law_4 (As := []) (c_X6_init (mset_eq _ _ _) (fun z hz => mset_ne _ _ (by omega))) rfl rfl (Nat.le_of_ble_eq_true rfl) (Nat.le_of_ble_eq_true rfl) (Nat.le_of_ble_eq_true rfl) (Nat.le_of_ble_eq_true rfl) (Nat.le_of_ble_eq_true rfl) ?_
  rintro _ M1 _ ⟨rfl, rfl, hC, h1, h2⟩
  refine V_astore_n F dL_law_7 (Nat.le_of_ble_eq_true rfl) ?_
  show V _ _ _ _ _ _ _ _ [_, _, _, _] _
  refine V_new F (ci := 7) (fs := [.null, .null, .null, .int (nI 0), .null, .null, .null, .int (nI 0), .null, .int (nI 0), .int (nI 0), .int (nI 0), .null, .null, .null, .int (nI 0), .null, .null, .int (nI 0), .null, .null, .null]) rfl tyX7_ok cl_L_10 it_X7 ii_X7 (by intro j hj; match j, hj with | 0, _ => rfl | 1, _ => rfl | 2, _ => rfl | 3, _ => rfl | 4, _ => rfl | 5, _ => rfl | 6, _ => rfl | 7, _ => rfl | 8, _ => rfl | 9, _ => rfl | 10, _ => rfl | 11, _ => rfl | 12, _ => rfl | 13, _ => rfl | 14, _ => rfl | 15, _ => rfl | 16, _ => rfl | 17, _ => rfl | 18, _ => rfl | 19, _ => rfl | 20, _ => rfl | 21, _ => rfl | k + 22, hj => exact absurd hj (by omega)) dL_law_8 (Nat.le_of_ble_eq_true rfl) (Nat.le_of_ble_eq_true rfl) (h2 _ (Nat.le_refl _)) ?_
  refine V_dup F dL_law_11 rfl ?_
  refine V_ic F ic_L_12 dL_law_12 (As := []) (c_X7_init (mset_eq _ _ _) (fun z hz => (mset_ne _ _ (by omega)).trans (h2 z (by omega)))) rfl rfl (Nat.le_of_ble_eq_true rfl) (Nat.le_of_ble_eq_true rfl) (Nat.le_of_ble_eq_true rfl) (Nat.le_of_ble_eq_true rfl) (Nat.le_of_ble_eq_true rfl) ?_
  rintro _ M2 n2 ⟨rfl, hM, h3⟩
  refine V_astore_n F dL_law_15 (Nat.le_of_ble_eq_true rfl) ?_
  show V _ _ _ _ _ _ _ _ [_, _, _, _] _
  refine V_iconst F dL_law_16 ki_0 ?_
  refine V_istore_n F dL_law_17 (Nat.le_of_ble_eq_true rfl) ?_
  show V _ _ _ _ _ _ _ _ [_, _, _, _] _
  refine V_none ?_
  exact law_loop F hX fin 600 0 M2 s0 (-3) (by omega) (by omega) ⟨hC.frame (fun z z1 z2 => (h3 z z2).trans (mset_ne _ _ (by omega))), hM, KG0⟩
end START
