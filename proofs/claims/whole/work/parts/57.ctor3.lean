theorem V_abs {G : GP} {X : CX} {cells slots : Nat} {Q : State → Prop} {M : Mem} {n : Option Nat} {pc : Nat} {L : List (Option Value)} {st : List Value} (P : Mem → Prop) (hP : P M) (k : ∀ M', P M' → V G X cells slots Q M' n pc L st) : V G X cells slots Q M n pc L st := k M hP
/-- the class's object and what stands before the search, while it is made -/
def mk7 (G : GP) (M M' : Mem) (v5 v6 v7 : Value) (top : Nat) : Prop := M' (gB G) = some (eO 6 [.ref (gB G + 1), .ref (gB G + 2), .int (nI 0), .ref (gB G + 3), .ref (gB G + 5), v5, v6, v7]) ∧ M' (gB G + 1) = some (eQ (gT G) 2 6 (fun _ => none)) ∧ M' (gB G + 2) = some (eQ (gT G) 3 60 (fun _ => none)) ∧ M' (gB G + 3) = some (eO 1 [.ref (gB G + 4)]) ∧ M' (gB G + 4) = some (eJ (gT G) 12 (fun _ => 0)) ∧ M' (gB G + 5) = some (eO 5 [.ref (gB G + 6), .int (nI 0)]) ∧ M' (gB G + 6) = some (eI (gT G) 3840 (fun _ => 0)) ∧ (∀ z, z < gB G → M' z = M z) ∧ fresh M' (gB G + top)
theorem mk7.next {G : GP} {M M' M'' : Mem} {v5 v6 v7 w5 w6 w7 : Value} {top t2 : Nat} (h : mk7 G M M' v5 v6 v7 top) (e : ∀ z, z < gB G + 7 → z ≠ gB G → M'' z = M' z) (e0 : M'' (gB G) = some (eO 6 [.ref (gB G + 1), .ref (gB G + 2), .int (nI 0), .ref (gB G + 3), .ref (gB G + 5), w5, w6, w7])) (f : fresh M'' (gB G + t2)) : mk7 G M M'' w5 w6 w7 t2 := by
  obtain ⟨-, k1, k2, k3, k4, k5, k6, k7, -⟩ := h
  exact ⟨e0, (e _ (by omega) (by omega)).trans k1, (e _ (by omega) (by omega)).trans k2, (e _ (by omega) (by omega)).trans k3, (e _ (by omega) (by omega)).trans k4, (e _ (by omega) (by omega)).trans k5, (e _ (by omega) (by omega)).trans k6, fun z hz => (e z (by omega) (by omega)).trans (k7 z hz), f⟩
def bagsI (G : GP) (M M' : Mem) (k : Nat) : Prop := (∀ z, z < gB G + 504 → z ≠ gB G + 1 → M' z = M z) ∧ (∃ g, M' (gB G + 1) = some (eQ (gT G) 2 6 g) ∧ ∀ r, r < k → g r = some (gB G + 504 + 2 * r)) ∧ (∀ r, r < k → M' (gB G + 504 + 2 * r) = some (eO 0 [.ref (gB G + 505 + 2 * r), .int (-1), .int (nI 0)]) ∧ M' (gB G + 505 + 2 * r) = some (eJ (gT G) 24 (fun _ => 0))) ∧ fresh M' (gB G + 504 + 2 * k)
def quadsI (G : GP) (M M' : Mem) (k : Nat) : Prop := (∀ z, z < gB G + 516 → z ≠ gB G + 2 → M' z = M z) ∧ (∃ g, M' (gB G + 2) = some (eQ (gT G) 3 60 g) ∧ ∀ j, j < k → g j = some (gB G + 516 + 5 * j)) ∧ (∀ j, j < k → quadO G M' j (fun _ _ => 0) (fun _ _ => 0) (.int (-3)) (.int (nI 0)) (.int (nI 0))) ∧ fresh M' (gB G + 516 + 5 * k)
def s0 : Sg := (fun _ => -1, fun _ => 0, fun _ _ => 0, 0, fun _ _ _ => 0, fun _ => 0, fun _ => 0, fun _ _ => 0, 0, 0, nI 0)
def newP (G : GP) (M : Mem) : Option Value → Mem → Option Nat → Prop := fun v M' n' => v = none ∧ n' = some (gB G + 816) ∧ InvC G M' s0 ∧ (∀ z, z < gB G → M' z = M z) ∧ fresh M' (gB G + 816)
theorem newP.of {G : GP} {M M1 M2 M3 : Mem} (h1 : mk7 G M M1 (.ref (gB G + 7)) (.ref (gB G + 494)) (.ref (gB G + 499)) 504) (hs : seaA G M1 []) (hl : lstA G 494 M1 (fun _ _ => 0) 0 (nI 0) (nI 0)) (hd : lstA G 499 M1 (fun _ _ => 0) 0 (nI 0) (nI 0)) (h2 : bagsI G M1 M2 6) (h3 : quadsI G M2 M3 60) : newP G M none M3 (some (gB G + 816)) := by
  obtain ⟨k0, k1, k2, k3, k4, k5, k6, k7, -⟩ := h1
  obtain ⟨b0, ⟨g, b1, b2⟩, b3, -⟩ := h2
  obtain ⟨q0, ⟨g2, q1, q2⟩, q3, q4⟩ := h3
  have e : ∀ z, z < gB G + 504 → z ≠ gB G + 1 → z ≠ gB G + 2 → M3 z = M1 z := fun z z1 z2 z3 => (q0 z (by omega) z3).trans (b0 z z1 z2)
  refine ⟨rfl, rfl, ⟨494, 499, Or.inl ⟨rfl, rfl⟩, (e _ (by omega) (by omega) (by omega)).trans k0, ⟨⟨g, (q0 _ (by omega) (by omega)).trans b1, b2⟩, ⟨g2, q1, q2⟩, (e _ (by omega) (by omega) (by omega)).trans k3, ⟨fun _ _ => 0, (e _ (by omega) (by omega) (by omega)).trans k4⟩, ⟨_, _, (e _ (by omega) (by omega) (by omega)).trans k5, (e _ (by omega) (by omega) (by omega)).trans k6⟩, ⟨[], hs.frame (fun z z1 z2 => e z (by omega) (by omega) (by omega))⟩⟩, ⟨hl.frame (fun z z1 z2 => e z (by omega) (by omega) (by omega)), Nat.zero_le _, Nat.zero_le _, _, _, _, _, hd.frame (fun z z1 z2 => e z (by omega) (by omega) (by omega))⟩, fun r hr => ?_, fun k hk => ⟨fun z => absurd z (Nat.not_lt_zero _), _, _, _, _, _, q3 k hk⟩, Nat.zero_le _⟩, fun z hz => (e z (by omega) (by omega) (by omega)).trans (k7 z hz), fun z hz => q4 z (by omega)⟩
  exact ⟨(q0 _ (by omega) (by omega)).trans (b3 r hr).1, (q0 _ (by omega) (by omega)).trans (b3 r hr).2, Nat.zero_le _⟩
section CTOR3
variable {G : GP} {M : Mem}
theorem c_X6_init (hO : M (gB G) = some (eO 6 [.null, .null, .int 0, .null, .null, .null, .null, .null])) (hF : fresh M (gB G + 1)) : Con G yX6_init cX6_init 2 none 3 815 11029 [.ref (gB G)] M (some (gB G + 1)) (newP G M) := by
  refine Con.of (by decide +kernel) (Nat.le_of_ble_eq_true rfl) (fun X F hnm => ?_)
  show V G X 0 0 _ M _ 0 [some (.ref (gB G)), none] []
  have loop2 : ∀ m k M1 M2 M', k + m = 60 → mk7 G M M1 (.ref (gB G + 7)) (.ref (gB G + 494)) (.ref (gB G + 499)) 504 → seaA G M1 [] → lstA G 494 M1 (fun _ _ => 0) 0 (nI 0) (nI 0) → lstA G 499 M1 (fun _ _ => 0) 0 (nI 0) (nI 0) → bagsI G M1 M2 6 → quadsI G M2 M' k → V G X (515 + 5 * k) (9169 + 31 * k) (BQ G X (newP G M) 815 11029) M' (some (gB G + 516 + 5 * k)) 111 [some (.ref (gB G)), some (.int (nI k))] [] := by
    intro m
    induction m with
    | zero =>
      intro k M1 M2 M' hk h1 hs hl hd h2 hi
      have hk : k = 60 := by omega
      subst hk
      rw [show gB G + 516 + 5 * 60 = gB G + 816 by omega]
      refine V_iload_n F dX6_init_111 rfl ?_
      refine V_bipush F dX6_init_112 kb_60 ?_
      refine V_icmp_ge F 136 dX6_init_114 (by decide) (fun c114 => ?_) (fun c114 => absurd (by decide) c114)
      exact V_vret F rfl dX6_init_136 (newP.of h1 hs hl hd h2 hi)
    | succ m ih =>
      intro k M1 M2 M' hk h1 hs hl hd h2 hi
      have hk2 : k < 60 := by omega
      obtain ⟨q0, ⟨g, q1, q2⟩, q3, q4⟩ := hi
      have hO' : M' (gB G) = some (eO 6 [.ref (gB G + 1), .ref (gB G + 2), .int (nI 0), .ref (gB G + 3), .ref (gB G + 5), .ref (gB G + 7), .ref (gB G + 494), .ref (gB G + 499)]) := (q0 _ (by omega) (by omega)).trans ((h2.1 _ (by omega) (by omega)).trans h1.1)
      refine V_iload_n F dX6_init_111 rfl ?_
      refine V_bipush F dX6_init_112 kb_60 ?_
      refine V_icmp_ge F 136 dX6_init_114 (by decide) (fun c114 => absurd c114 (nI_ge hk2 (by omega))) (fun c114 => ?_)
      refine V_aload_n F dX6_init_117 rfl ?_
      refine V_get F fl_X6_17 dX6_init_118 hO' rfl ?_
      refine V_iload_n F dX6_init_121 rfl ?_
      refine V_new F (ci := 4) (fs := [.null, .null, .int 0, .int 0, .int 0]) rfl tyX4_ok cl_X6_15 it_X4 ii_X4 (by intro j hj; match j, hj with | 0, _ => rfl | 1, _ => rfl | 2, _ => rfl | 3, _ => rfl | 4, _ => rfl) dX6_init_122 (by omega) (by omega) (q4 _ (by omega)) ?_
      refine V_dup F dX6_init_125 rfl ?_
      refine V_ik F ik_X6_57 dX6_init_126 (As := []) (c_X4_init (mset_eq _ _ _) (by omega) (fun z hz => (mset_ne _ _ (by omega)).trans (q4 z (by omega)))) rfl rfl (Nat.le_of_ble_eq_true rfl) (Nat.le_of_ble_eq_true rfl) (by omega) (by omega) (Nat.le_of_ble_eq_true rfl) ?_
      rintro _ M5 _ ⟨rfl, rfl, p1, p2, p3, p4, p5, p6⟩
      refine V_aastN F 3 dX6_init_129 ((p6 _ (by omega) (by omega)).trans ((mset_ne _ _ (by omega)).trans q1)) rfl p1 rfl k rfl hk2 (by omega) ?_
      refine V_iinc1 F dX6_init_130 rfl ?_
      show V _ _ _ _ _ _ _ _ [_, _] _
      refine V_goto F 111 dX6_init_133 (by decide) ?_
      refine V_widen (k1 := 515 + 5 * (k + 1)) (k2 := 9169 + 31 * (k + 1)) (by omega) (by omega) ?_
      rw [show gB G + 516 + 5 * k + 1 + 4 = gB G + 516 + 5 * (k + 1) by omega]
      have e5 : ∀ z, z < gB G + 516 + 5 * k → z ≠ gB G + 2 → mset M5 (gB G + 2) (eQ (gT G) 3 60 (va_up g k (some (gB G + 516 + 5 * k)))) z = M' z := fun z z1 z2 => (mset_ne _ _ z2).trans ((p6 z (by omega) (by omega)).trans (mset_ne _ _ (by omega)))
      refine ih (k + 1) M1 M2 _ (by omega) h1 hs hl hd h2 ⟨fun z z1 z2 => (e5 z (by omega) z2).trans (q0 z z1 z2), ⟨_, mset_eq _ _ _, fun j hj => ?_⟩, fun j hj => ?_, fun z hz => ?_⟩
      · by_cases e : j = k
        · subst e
          simp [va_up]
        · simp only [va_up, if_neg e]
          exact q2 j (by omega)
      · by_cases e : j = k
        · subst e
          refine ⟨(mset_ne _ _ (by omega)).trans ?_, (mset_ne _ _ (by omega)).trans ?_, (mset_ne _ _ (by omega)).trans ?_, (mset_ne _ _ (by omega)).trans ?_, (mset_ne _ _ (by omega)).trans ?_⟩
          · rw [show gB G + 517 + 5 * j = gB G + 516 + 5 * j + 1 by omega, show gB G + 519 + 5 * j = gB G + 516 + 5 * j + 1 + 2 by omega]
            exact p1
          · rw [show gB G + 517 + 5 * j = gB G + 516 + 5 * j + 1 by omega, show gB G + 518 + 5 * j = gB G + 516 + 5 * j + 1 + 1 by omega]
            exact p2
          · rw [show gB G + 518 + 5 * j = gB G + 516 + 5 * j + 1 + 1 by omega]
            exact p3
          · rw [show gB G + 519 + 5 * j = gB G + 516 + 5 * j + 1 + 2 by omega, show gB G + 520 + 5 * j = gB G + 516 + 5 * j + 1 + 3 by omega]
            exact p4
          · rw [show gB G + 520 + 5 * j = gB G + 516 + 5 * j + 1 + 3 by omega]
            exact p5
        · exact (q3 j (by omega)).frame (fun z z1 z2 => e5 z (by omega) (by omega))
      · exact (mset_ne _ _ (by omega)).trans ((p6 z (by omega) (by omega)).trans ((mset_ne _ _ (by omega)).trans (q4 z (by omega))))
  have loop1 : ∀ m k M1 M', k + m = 6 → mk7 G M M1 (.ref (gB G + 7)) (.ref (gB G + 494)) (.ref (gB G + 499)) 504 → seaA G M1 [] → lstA G 494 M1 (fun _ _ => 0) 0 (nI 0) (nI 0) → lstA G 499 M1 (fun _ _ => 0) 0 (nI 0) (nI 0) → bagsI G M1 M' k → V G X (503 + 2 * k) (9007 + 27 * k) (BQ G X (newP G M) 815 11029) M' (some (gB G + 504 + 2 * k)) 84 [some (.ref (gB G)), some (.int (nI k))] [] := by
    intro m
    induction m with
    | zero =>
      intro k M1 M' hk h1 hs hl hd h2
      have hk : k = 6 := by omega
      subst hk
      refine V_iload_n F dX6_init_84 rfl ?_
      refine V_bipush F dX6_init_85 kb_6 ?_
      refine V_icmp_ge F 109 dX6_init_87 (by decide) (fun c87 => ?_) (fun c87 => absurd (by decide) c87)
      refine V_iconst F dX6_init_109 ki_0 ?_
      refine V_istore_n F dX6_init_110 (Nat.le_of_ble_eq_true rfl) ?_
      show V _ _ _ _ _ _ _ _ [_, _] _
      rw [show gB G + 504 + 2 * 6 = gB G + 516 + 5 * 0 by omega]
      refine loop2 60 0 M1 M' M' (by omega) h1 hs hl hd h2 ⟨fun z z1 z2 => rfl, ⟨fun _ => none, (h2.1 _ (by omega) (by omega)).trans h1.2.2.1, fun j hj => absurd hj (Nat.not_lt_zero _)⟩, fun j hj => absurd hj (Nat.not_lt_zero _), fun z hz => h2.2.2.2 z (by omega)⟩
    | succ m ih =>
      intro k M1 M' hk h1 hs hl hd hi
      have hk2 : k < 6 := by omega
      obtain ⟨q0, ⟨g, q1, q2⟩, q3, q4⟩ := hi
      have hO' : M' (gB G) = some (eO 6 [.ref (gB G + 1), .ref (gB G + 2), .int (nI 0), .ref (gB G + 3), .ref (gB G + 5), .ref (gB G + 7), .ref (gB G + 494), .ref (gB G + 499)]) := (q0 _ (by omega) (by omega)).trans h1.1
      refine V_iload_n F dX6_init_84 rfl ?_
      refine V_bipush F dX6_init_85 kb_6 ?_
      refine V_icmp_ge F 109 dX6_init_87 (by decide) (fun c87 => absurd c87 (nI_ge hk2 (by omega))) (fun c87 => ?_)
      refine V_aload_n F dX6_init_90 rfl ?_
      refine V_get F fl_X6_11 dX6_init_91 hO' rfl ?_
      refine V_iload_n F dX6_init_94 rfl ?_
      refine V_new F (ci := 0) (fs := [.null, .int 0, .int 0]) rfl tyX0_ok cl_X6_9 it_X0 ii_X0 (by intro j hj; match j, hj with | 0, _ => rfl | 1, _ => rfl | 2, _ => rfl) dX6_init_95 (by omega) (by omega) (q4 _ (by omega)) ?_
      refine V_dup F dX6_init_98 rfl ?_
      refine V_ik F ik_X6_56 dX6_init_99 (As := []) (c_X0_init (mset_eq _ _ _) (by omega)) rfl rfl (Nat.le_of_ble_eq_true rfl) (Nat.le_of_ble_eq_true rfl) (by omega) (by omega) (Nat.le_of_ble_eq_true rfl) ?_
      rintro _ _ _ ⟨rfl, rfl, rfl⟩
      refine V_aastN F 2 dX6_init_102 (by (repeat rw [mset_ne _ _ (by omega)]); exact q1) rfl (mset_eq _ _ _) rfl k rfl hk2 (by omega) ?_
      refine V_iinc1 F dX6_init_103 rfl ?_
      show V _ _ _ _ _ _ _ _ [_, _] _
      refine V_goto F 84 dX6_init_106 (by decide) ?_
      refine V_widen (k1 := 503 + 2 * (k + 1)) (k2 := 9007 + 27 * (k + 1)) (by omega) (by omega) ?_
      rw [show gB G + 504 + 2 * k + 1 + 1 = gB G + 504 + 2 * (k + 1) by omega]
      refine ih (k + 1) M1 _ (by omega) h1 hs hl hd ⟨fun z z1 z2 => ?_, ⟨_, mset_eq _ _ _, fun j hj => ?_⟩, fun j hj => ?_, fun z hz => ?_⟩
      · repeat rw [mset_ne _ _ (by omega)]
        exact q0 z z1 z2
      · by_cases e : j = k
        · subst e
          simp [va_up]
        · simp only [va_up, if_neg e]
          exact q2 j (by omega)
      · by_cases e : j = k
        · subst e
          refine ⟨?_, ?_⟩
          · rw [mset_ne _ _ (by omega), mset_eq, show gB G + 504 + 2 * j + 1 = gB G + 505 + 2 * j by omega]
          · rw [mset_ne _ _ (by omega), mset_ne _ _ (by omega), show gB G + 504 + 2 * j + 1 = gB G + 505 + 2 * j by omega, mset_eq]
        · refine ⟨?_, ?_⟩
          · repeat rw [mset_ne _ _ (by omega)]
            exact (q3 j (by omega)).1
          · repeat rw [mset_ne _ _ (by omega)]
            exact (q3 j (by omega)).2
      · repeat rw [mset_ne _ _ (by omega)]
        exact q4 z (by omega)
  refine V_aload_n F dX6_init_0 rfl ?_
  refine V_oi F oi_X6_1 w_oiI w_oiC dX6_init_1 (Nat.le_of_ble_eq_true rfl) (Nat.le_of_ble_eq_true rfl) ?_
  refine V_aload_n F dX6_init_4 rfl ?_
  refine V_bipush F dX6_init_5 kb_6 ?_
  refine V_newQ F 2 cl_X6_9 F.n.2.1 rfl dX6_init_7 (nI_pos (by omega)) (nI_clamp (by omega)) (Nat.le_of_ble_eq_true rfl) (Nat.le_of_ble_eq_true rfl) (Nat.le_of_ble_eq_true rfl) ?_
  refine V_putF F hnm fl_X6_11 rfl dX6_init_10 ((mset_ne _ _ (by omega)).trans hO) rfl rfl (Nat.le_of_ble_eq_true rfl) ?_
  refine V_aload_n F dX6_init_13 rfl ?_
  refine V_bipush F dX6_init_14 kb_60 ?_
  refine V_newQ F 3 cl_X6_15 F.n.2.2.1 rfl dX6_init_16 (nI_pos (by omega)) (nI_clamp (by omega)) (Nat.le_of_ble_eq_true rfl) (Nat.le_of_ble_eq_true rfl) (Nat.le_of_ble_eq_true rfl) ?_
  refine V_putF F hnm fl_X6_17 rfl dX6_init_19 ((mset_ne _ _ (by omega)).trans (mset_eq _ _ _)) rfl rfl (Nat.le_of_ble_eq_true rfl) ?_
  refine V_aload_n F dX6_init_22 rfl ?_
  refine V_iconst F dX6_init_23 ki_0 ?_
  refine V_put F fl_X6_21 dX6_init_24 (mset_eq _ _ _) rfl rfl (Nat.le_of_ble_eq_true rfl) ?_
  refine V_aload_n F dX6_init_27 rfl ?_
  refine V_new F (ci := 1) (fs := [.null]) rfl tyX1_ok cl_X6_25 it_X1 ii_X1 (by intro j hj; match j, hj with | 0, _ => rfl) dX6_init_28 (Nat.le_of_ble_eq_true rfl) (Nat.le_of_ble_eq_true rfl) (by (repeat rw [mset_ne _ _ (by omega)]); exact hF _ (by omega)) ?_
  refine V_dup F dX6_init_31 rfl ?_
  refine V_ik F ik_X6_27 dX6_init_32 (As := []) (c_X1_init (mset_eq _ _ _) (by omega)) rfl rfl (Nat.le_of_ble_eq_true rfl) (Nat.le_of_ble_eq_true rfl) (Nat.le_of_ble_eq_true rfl) (Nat.le_of_ble_eq_true rfl) (Nat.le_of_ble_eq_true rfl) ?_
  rintro _ _ _ ⟨rfl, rfl, rfl⟩
  refine V_putF F hnm fl_X6_28 rfl dX6_init_35 (by (repeat rw [mset_ne _ _ (by omega)]); exact mset_eq _ _ _) rfl rfl (Nat.le_of_ble_eq_true rfl) ?_
  refine V_aload_n F dX6_init_38 rfl ?_
  refine V_new F (ci := 5) (fs := [.null, .int 0]) rfl tyX5_ok cl_X6_32 it_X5 ii_X5 (by intro j hj; match j, hj with | 0, _ => rfl | 1, _ => rfl) dX6_init_39 (Nat.le_of_ble_eq_true rfl) (Nat.le_of_ble_eq_true rfl) (by (repeat rw [mset_ne _ _ (by omega)]); exact hF _ (by omega)) ?_
  refine V_dup F dX6_init_42 rfl ?_
  refine V_ik F ik_X6_34 dX6_init_43 (As := []) (c_X5_init (mset_eq _ _ _) (by omega)) rfl rfl (Nat.le_of_ble_eq_true rfl) (Nat.le_of_ble_eq_true rfl) (Nat.le_of_ble_eq_true rfl) (Nat.le_of_ble_eq_true rfl) (Nat.le_of_ble_eq_true rfl) ?_
  rintro _ _ _ ⟨rfl, rfl, rfl⟩
  refine V_putF F hnm fl_X6_35 rfl dX6_init_46 (by (repeat rw [mset_ne _ _ (by omega)]); exact mset_eq _ _ _) rfl rfl (Nat.le_of_ble_eq_true rfl) ?_
  refine V_aload_n F dX6_init_49 rfl ?_
  show V G X _ _ _ _ (some (gB G + 7)) _ _ _
  refine V_abs (fun M' => mk7 G M M' .null .null .null 7) ⟨?_, ?_, ?_, ?_, ?_, ?_, ?_, fun z hz => ?_, fun z hz => ?_⟩ ?_
  · exact mset_eq _ _ _
  · repeat rw [mset_ne _ _ (by omega)]
    exact mset_eq _ _ _
  · repeat rw [mset_ne _ _ (by omega)]
    exact mset_eq _ _ _
  · repeat rw [mset_ne _ _ (by omega)]
    exact mset_eq _ _ _
  · repeat rw [mset_ne _ _ (by omega)]
    exact mset_eq _ _ _
  · repeat rw [mset_ne _ _ (by omega)]
    exact mset_eq _ _ _
  · repeat rw [mset_ne _ _ (by omega)]
    exact mset_eq _ _ _
  · repeat rw [mset_ne _ _ (by omega)]
  · repeat rw [mset_ne _ _ (by omega)]
    exact hF z (by omega)
  rintro M7 h7
  refine V_new F (ci := 3) (fs := [.null, .null, .null, .int 0]) rfl tyX3_ok cl_X6_39 it_X3 ii_X3 (by intro j hj; match j, hj with | 0, _ => rfl | 1, _ => rfl | 2, _ => rfl | 3, _ => rfl) dX6_init_50 (Nat.le_of_ble_eq_true rfl) (Nat.le_of_ble_eq_true rfl) (h7.2.2.2.2.2.2.2.2 _ (by omega)) ?_
  refine V_dup F dX6_init_53 rfl ?_
  refine V_ic F ic_X6_41 dX6_init_54 (As := []) (c_X3_init (a := gB G + 7) (h := gB G + 8) (mset_eq _ _ _) (by omega) (fun z hz => (mset_ne _ _ (by omega)).trans (h7.2.2.2.2.2.2.2.2 z (by omega)))) rfl rfl (Nat.le_of_ble_eq_true rfl) (Nat.le_of_ble_eq_true rfl) (Nat.le_of_ble_eq_true rfl) (Nat.le_of_ble_eq_true rfl) (Nat.le_of_ble_eq_true rfl) ?_
  rintro _ M8 _ ⟨rfl, rfl, s1, s2, s3⟩
  have t2 : ∀ z, z < gB G + 7 → M8 z = M7 z := fun z z1 => (s2 z (by omega) (by omega)).trans (mset_ne _ _ (by omega))
  refine V_putF F hnm fl_X6_42 rfl dX6_init_57 ((t2 _ (by omega)).trans h7.1) rfl rfl (Nat.le_of_ble_eq_true rfl) ?_
  refine V_aload_n F dX6_init_60 rfl ?_
  show V G X _ _ _ _ (some (gB G + 494)) _ _ _
  have h8 := h7.next (M'' := mset M8 (gB G) (eO 6 [.ref (gB G + 1), .ref (gB G + 2), .int (nI 0), .ref (gB G + 3), .ref (gB G + 5), .ref (gB G + 7), .null, .null])) (w5 := .ref (gB G + 7)) (w6 := .null) (w7 := .null) (t2 := 494) (fun z z1 z2 => (mset_ne _ _ z2).trans (t2 z z1)) (mset_eq _ _ _) (fun z hz => (mset_ne _ _ (by omega)).trans (s3 z (by omega)))
  have s1 : seaA G M8 [] := s1
  have s8 : seaA G (mset M8 (gB G) (eO 6 [.ref (gB G + 1), .ref (gB G + 2), .int (nI 0), .ref (gB G + 3), .ref (gB G + 5), .ref (gB G + 7), .null, .null])) [] := s1.frame (fun z z1 z2 => mset_ne _ _ (by omega))
  refine V_abs (fun M' => mk7 G M M' (.ref (gB G + 7)) .null .null 494 ∧ seaA G M' []) ⟨h8, s8⟩ ?_
  rintro M9 ⟨h9, s9⟩
  refine V_new F (ci := 2) (fs := [.null, .int 0, .int 0, .int 0]) rfl tyX2_ok cl_X6_46 it_X2 ii_X2 (by intro j hj; match j, hj with | 0, _ => rfl | 1, _ => rfl | 2, _ => rfl | 3, _ => rfl) dX6_init_61 (Nat.le_of_ble_eq_true rfl) (Nat.le_of_ble_eq_true rfl) (h9.2.2.2.2.2.2.2.2 _ (by omega)) ?_
  refine V_dup F dX6_init_64 rfl ?_
  refine V_ik F ik_X6_48 dX6_init_65 (As := []) (c_X2_init (a := gB G + 494) (h := gB G + 495) (mset_eq _ _ _) (by omega)) rfl rfl (Nat.le_of_ble_eq_true rfl) (Nat.le_of_ble_eq_true rfl) (Nat.le_of_ble_eq_true rfl) (Nat.le_of_ble_eq_true rfl) (Nat.le_of_ble_eq_true rfl) ?_
  rintro _ MA _ ⟨rfl, rfl, u1, u2⟩
  have u3 : ∀ z, (z < gB G + 494 ∨ gB G + 499 ≤ z) → MA z = M9 z := fun z z1 => (u2 z (by omega) (by omega)).trans (mset_ne _ _ (by omega))
  refine V_put F fl_X6_49 dX6_init_68 ((u3 _ (by omega)).trans h9.1) rfl rfl (Nat.le_of_ble_eq_true rfl) ?_
  refine V_aload_n F dX6_init_71 rfl ?_
  show V G X _ _ _ _ (some (gB G + 499)) _ _ _
  have hA := h9.next (M'' := mset MA (gB G) (eO 6 [.ref (gB G + 1), .ref (gB G + 2), .int (nI 0), .ref (gB G + 3), .ref (gB G + 5), .ref (gB G + 7), .ref (gB G + 494), .null])) (w5 := .ref (gB G + 7)) (w6 := .ref (gB G + 494)) (w7 := .null) (t2 := 499) (fun z z1 z2 => (mset_ne _ _ z2).trans (u3 z (by omega))) (mset_eq _ _ _) (fun z hz => (mset_ne _ _ (by omega)).trans ((u3 z (by omega)).trans (h9.2.2.2.2.2.2.2.2 z (by omega))))
  have u1 : lstA G 494 MA (fun _ _ => 0) 0 (nI 0) (nI 0) := u1
  have lA : lstA G 494 (mset MA (gB G) (eO 6 [.ref (gB G + 1), .ref (gB G + 2), .int (nI 0), .ref (gB G + 3), .ref (gB G + 5), .ref (gB G + 7), .ref (gB G + 494), .null])) (fun _ _ => 0) 0 (nI 0) (nI 0) := u1.frame (fun z z1 z2 => mset_ne _ _ (by omega))
  have sA : seaA G (mset MA (gB G) (eO 6 [.ref (gB G + 1), .ref (gB G + 2), .int (nI 0), .ref (gB G + 3), .ref (gB G + 5), .ref (gB G + 7), .ref (gB G + 494), .null])) [] := s9.frame (fun z z1 z2 => (mset_ne _ _ (by omega)).trans (u3 z (by omega)))
  refine V_abs (fun M' => mk7 G M M' (.ref (gB G + 7)) (.ref (gB G + 494)) .null 499 ∧ seaA G M' [] ∧ lstA G 494 M' (fun _ _ => 0) 0 (nI 0) (nI 0)) ⟨hA, sA, lA⟩ ?_
  rintro MB ⟨hB, sB, lB⟩
  refine V_new F (ci := 2) (fs := [.null, .int 0, .int 0, .int 0]) rfl tyX2_ok cl_X6_46 it_X2 ii_X2 (by intro j hj; match j, hj with | 0, _ => rfl | 1, _ => rfl | 2, _ => rfl | 3, _ => rfl) dX6_init_72 (Nat.le_of_ble_eq_true rfl) (Nat.le_of_ble_eq_true rfl) (hB.2.2.2.2.2.2.2.2 _ (by omega)) ?_
  refine V_dup F dX6_init_75 rfl ?_
  refine V_ik F ik_X6_48 dX6_init_76 (As := []) (c_X2_init (a := gB G + 499) (h := gB G + 500) (mset_eq _ _ _) (by omega)) rfl rfl (Nat.le_of_ble_eq_true rfl) (Nat.le_of_ble_eq_true rfl) (Nat.le_of_ble_eq_true rfl) (Nat.le_of_ble_eq_true rfl) (Nat.le_of_ble_eq_true rfl) ?_
  rintro _ MC _ ⟨rfl, rfl, u1, u2⟩
  have u3 : ∀ z, (z < gB G + 499 ∨ gB G + 504 ≤ z) → MC z = MB z := fun z z1 => (u2 z (by omega) (by omega)).trans (mset_ne _ _ (by omega))
  refine V_put F fl_X6_53 dX6_init_79 ((u3 _ (by omega)).trans hB.1) rfl rfl (Nat.le_of_ble_eq_true rfl) ?_
  show V G X _ _ _ _ (some (gB G + 504)) _ _ _
  have hC := hB.next (M'' := mset MC (gB G) (eO 6 [.ref (gB G + 1), .ref (gB G + 2), .int (nI 0), .ref (gB G + 3), .ref (gB G + 5), .ref (gB G + 7), .ref (gB G + 494), .ref (gB G + 499)])) (w5 := .ref (gB G + 7)) (w6 := .ref (gB G + 494)) (w7 := .ref (gB G + 499)) (t2 := 504) (fun z z1 z2 => (mset_ne _ _ z2).trans (u3 z (by omega))) (mset_eq _ _ _) (fun z hz => (mset_ne _ _ (by omega)).trans ((u3 z (by omega)).trans (hB.2.2.2.2.2.2.2.2 z (by omega))))
  have u1 : lstA G 499 MC (fun _ _ => 0) 0 (nI 0) (nI 0) := u1
  have dC : lstA G 499 (mset MC (gB G) (eO 6 [.ref (gB G + 1), .ref (gB G + 2), .int (nI 0), .ref (gB G + 3), .ref (gB G + 5), .ref (gB G + 7), .ref (gB G + 494), .ref (gB G + 499)])) (fun _ _ => 0) 0 (nI 0) (nI 0) := u1.frame (fun z z1 z2 => mset_ne _ _ (by omega))
  have lC : lstA G 494 (mset MC (gB G) (eO 6 [.ref (gB G + 1), .ref (gB G + 2), .int (nI 0), .ref (gB G + 3), .ref (gB G + 5), .ref (gB G + 7), .ref (gB G + 494), .ref (gB G + 499)])) (fun _ _ => 0) 0 (nI 0) (nI 0) := lB.frame (fun z z1 z2 => (mset_ne _ _ (by omega)).trans (u3 z (by omega)))
  have sC : seaA G (mset MC (gB G) (eO 6 [.ref (gB G + 1), .ref (gB G + 2), .int (nI 0), .ref (gB G + 3), .ref (gB G + 5), .ref (gB G + 7), .ref (gB G + 494), .ref (gB G + 499)])) [] := sB.frame (fun z z1 z2 => (mset_ne _ _ (by omega)).trans (u3 z (by omega)))
  refine V_abs (fun M' => mk7 G M M' (.ref (gB G + 7)) (.ref (gB G + 494)) (.ref (gB G + 499)) 504 ∧ seaA G M' [] ∧ lstA G 494 M' (fun _ _ => 0) 0 (nI 0) (nI 0) ∧ lstA G 499 M' (fun _ _ => 0) 0 (nI 0) (nI 0)) ⟨hC, sC, lC, dC⟩ ?_
  rintro MD ⟨hD, sD, lD, dD⟩
  refine V_iconst F dX6_init_82 ki_0 ?_
  refine V_istore_n F dX6_init_83 (Nat.le_of_ble_eq_true rfl) ?_
  show V _ _ _ _ _ _ _ _ [_, _] _
  rw [show gB G + 504 = gB G + 504 + 2 * 0 by omega]
  exact loop1 6 0 MD MD (by omega) hD sD lD dD ⟨fun z z1 z2 => rfl, ⟨fun _ => none, hD.2.1, fun j hj => absurd hj (Nat.not_lt_zero _)⟩, fun j hj => absurd hj (Nat.not_lt_zero _), fun z hz => hD.2.2.2.2.2.2.2.2 z (by omega)⟩
end CTOR3
