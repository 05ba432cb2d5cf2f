def mE (G : GP) : Nat → va_E
  | 0 => eI (gT G) 6 (fun _ => 0)
  | 1 => eI (gT G) 6 (fun _ => 0)
  | 2 => eJ (gT G) 144 (fun _ => 0)
  | 3 => eI (gT G) 60 (fun _ => 0)
  | 4 => eI (gT G) 720 (fun _ => 0)
  | 5 => eJ (gT G) 12 (fun _ => 0)
  | 6 => eI (gT G) 1000 (fun _ => 0)
  | 7 => eI (gT G) 720 (fun _ => 0)
  | 8 => eJ (gT G) 24 (fun _ => 0)
  | 9 => eJ (gT G) 4 (fun _ => 0)
  | 10 => eJ (gT G) 24000 (fun _ => 0)
  | 11 => eI (gT G) 2000 (fun _ => 0)
  | 12 => eJ (gT G) 732 (fun _ => 0)
  | 13 => eI (gT G) 10368 (fun _ => 0)
  | _ => eI (gT G) 331776 (fun _ => 0)
def mk9 (G : GP) (M M' : Mem) (k : Nat) (fs : List Value) : Prop := M' (gB G + 816) = some (eO 7 fs) ∧ (∀ i, i < k → M' (gB G + 817 + i) = some (mE G i)) ∧ (∀ z, z < gB G + 816 → M' z = M z) ∧ fresh M' (gB G + 817 + k)
theorem mk9.step {G : GP} {M M' : Mem} {k : Nat} {fs : List Value} (h : mk9 G M M' k fs) (fs' : List Value) : mk9 G M (mset (mset M' (gB G + 817 + k) (mE G k)) (gB G + 816) (eO 7 fs')) (k + 1) fs' := by
  obtain ⟨h1, h2, h3, h4⟩ := h
  refine ⟨mset_eq _ _ _, fun i hi => ?_, fun z hz => ?_, fun z hz => ?_⟩
  · by_cases e : i = k
    · subst e
      rw [mset_ne _ _ (by omega), mset_eq]
    · rw [mset_ne _ _ (by omega), mset_ne _ _ (by omega)]
      exact h2 i (by omega)
  · rw [mset_ne _ _ (by omega), mset_ne _ _ (by omega)]
    exact h3 z hz
  · rw [mset_ne _ _ (by omega), mset_ne _ _ (by omega)]
    exact h4 z (by omega)
theorem mk9.put {G : GP} {M M' : Mem} {k : Nat} {fs : List Value} (h : mk9 G M M' k fs) (fs' : List Value) : mk9 G M (mset M' (gB G + 816) (eO 7 fs')) k fs' := by
  obtain ⟨h1, h2, h3, h4⟩ := h
  exact ⟨mset_eq _ _ _, fun i hi => (mset_ne _ _ (by omega)).trans (h2 i hi), fun z hz => (mset_ne _ _ (by omega)).trans (h3 z hz), fun z hz => (mset_ne _ _ (by omega)).trans (h4 z hz)⟩
def newM (G : GP) (M : Mem) : Option Value → Mem → Option Nat → Prop := fun v M' _ => v = none ∧ InvM G M' s0 (-3) ∧ ∀ z, z < gB G + 816 → M' z = M z
theorem newM.of {G : GP} {M M1 M2 : Mem} {n : Option Nat} {f : Nat → Int32} (h : mk9 G M M1 15 [.ref (gB G + 817), .ref (gB G + 818), .ref (gB G + 819), .int (nI 0), .ref (gB G + 820), .ref (gB G + 821), .ref (gB G + 822), .int (nI 0), .ref (gB G + 823), .int (nI 0), .int (nI 0), .int (-3), .ref (gB G + 824), .ref (gB G + 825), .ref (gB G + 826), .int (nI 0), .ref (gB G + 827), .ref (gB G + 828), .int (nI 0), .ref (gB G + 829), .ref (gB G + 830), .ref (gB G + 831)]) (h1 : M2 (gB G + 817) = some (eI (gT G) 6 f)) (h2 : ∀ r, r < 6 → f r = -1) (e : ∀ z, z ≠ gB G + 817 → M2 z = M1 z) : newM G M none M2 n := by
  obtain ⟨k0, k1, k2, k3⟩ := h
  have q : ∀ i, 0 < i → i < 15 → M2 (gB G + 817 + i) = some (mE G i) := fun i h1 h2 => (e _ (by omega)).trans (k1 i h2)
  refine ⟨rfl, ⟨⟨nI 0, nI 0, nI 0, (e _ (by omega)).trans k0⟩, ⟨⟨f, h1, h2⟩, ⟨_, q 1 (by omega) (by omega), fun r hr => rfl⟩, ⟨_, q 2 (by omega) (by omega), fun r j hr hj => rfl⟩, ⟨_, q 3 (by omega) (by omega), fun k hk => absurd hk (Nat.not_lt_zero _)⟩, ⟨_, q 4 (by omega) (by omega), fun k j w hk => absurd hk (Nat.not_lt_zero _)⟩, ⟨_, q 7 (by omega) (by omega), fun k w hk => absurd hk (Nat.not_lt_zero _)⟩⟩, ⟨fun i hi => ?_, fun i hi => ?_⟩, ⟨fun r hr => ⟨Or.inl rfl, Nat.zero_le _⟩, Nat.zero_le _, Nat.zero_le _, Nat.zero_le _, fun k hk => absurd hk (Nat.not_lt_zero _), fun k w hk => absurd hk (Nat.not_lt_zero _)⟩⟩, fun z hz => (e _ (by omega)).trans (k2 z hz)⟩
  · rcases jl_c hi with rfl | rfl | rfl | rfl | rfl
    · exact ⟨_, q 5 (by omega) (by omega)⟩
    · exact ⟨_, q 8 (by omega) (by omega)⟩
    · exact ⟨_, q 9 (by omega) (by omega)⟩
    · exact ⟨_, q 10 (by omega) (by omega)⟩
    · exact ⟨_, q 12 (by omega) (by omega)⟩
  · rcases il_c hi with rfl | rfl | rfl | rfl
    · exact ⟨_, q 6 (by omega) (by omega)⟩
    · exact ⟨_, q 11 (by omega) (by omega)⟩
    · exact ⟨_, q 13 (by omega) (by omega)⟩
    · exact ⟨_, q 14 (by omega) (by omega)⟩
section CTOR4
variable {G : GP} {M : Mem}
theorem c_X7_init (hO : M (gB G + 816) = some (eO 7 [.null, .null, .null, .int (nI 0), .null, .null, .null, .int (nI 0), .null, .int (nI 0), .int (nI 0), .int (nI 0), .null, .null, .null, .int (nI 0), .null, .null, .int (nI 0), .null, .null, .null])) (hF : fresh M (gB G + 817)) : Con G yX7_init cX7_init 2 none 1 15 371572 [.ref (gB G + 816)] M (some (gB G + 817)) (newM G M) := by
  refine Con.of (by decide +kernel) (Nat.le_of_ble_eq_true rfl) (fun X F hnm => ?_)
  show V G X 0 0 _ M _ 0 [some (.ref (gB G + 816)), none] []
  have loop : ∀ m k n M1 M' f, k + m = 6 → mk9 G M M1 15 [.ref (gB G + 817), .ref (gB G + 818), .ref (gB G + 819), .int (nI 0), .ref (gB G + 820), .ref (gB G + 821), .ref (gB G + 822), .int (nI 0), .ref (gB G + 823), .int (nI 0), .int (nI 0), .int (-3), .ref (gB G + 824), .ref (gB G + 825), .ref (gB G + 826), .int (nI 0), .ref (gB G + 827), .ref (gB G + 828), .int (nI 0), .ref (gB G + 829), .ref (gB G + 830), .ref (gB G + 831)] → M' (gB G + 817) = some (eI (gT G) 6 f) → (∀ r, r < k → f r = -1) → (∀ z, z ≠ gB G + 817 → M' z = M1 z) → V G X 15 371572 (BQ G X (newM G M) 15 371572) M' n 139 [some (.ref (gB G + 816)), some (.int (nI k))] [] := by
    intro m
    induction m with
    | zero =>
      intro k n M1 M' f hk h1 h2 h3 h4
      have hk : k = 6 := by omega
      subst hk
      refine V_iload_n F dX7_init_139 rfl ?_
      refine V_bipush F dX7_init_140 kb_6 ?_
      refine V_icmp_ge F 158 dX7_init_142 (by decide) (fun c142 => ?_) (fun c142 => absurd (by decide) c142)
      exact V_vret F rfl dX7_init_158 (newM.of h1 h2 h3 h4)
    | succ m ih =>
      intro k n M1 M' f hk h1 h2 h3 h4
      have hk2 : k < 6 := by omega
      refine V_iload_n F dX7_init_139 rfl ?_
      refine V_bipush F dX7_init_140 kb_6 ?_
      refine V_icmp_ge F 158 dX7_init_142 (by decide) (fun c142 => absurd c142 (nI_ge hk2 (by omega))) (fun c142 => ?_)
      refine V_aload_n F dX7_init_145 rfl ?_
      refine V_get F fl_X7_7 dX7_init_146 ((h4 _ (by omega)).trans h1.1) rfl ?_
      refine V_iload_n F dX7_init_149 rfl ?_
      refine V_iconst F dX7_init_150 ki_m1 ?_
      refine V_iastN F dX7_init_151 h2 k rfl hk2 (by omega) ?_
      refine V_iinc1 F dX7_init_152 rfl ?_
      show V _ _ _ _ _ _ _ _ [_, _] _
      refine V_goto F 139 dX7_init_155 (by decide) ?_
      refine ih (k + 1) n M1 _ _ (by omega) h1 (mset_eq _ _ _) (fun r hr => ?_) (fun z hz => (mset_ne _ _ hz).trans (h4 z hz))
      by_cases e : r = k
      · subst e
        simp [va_up]
      · simp only [va_up, if_neg e]
        exact h3 r (by omega)
  have h0 : mk9 G M M 0 [.null, .null, .null, .int (nI 0), .null, .null, .null, .int (nI 0), .null, .int (nI 0), .int (nI 0), .int (nI 0), .null, .null, .null, .int (nI 0), .null, .null, .int (nI 0), .null, .null, .null] := ⟨hO, fun i hi => absurd hi (Nat.not_lt_zero _), fun z hz => rfl, hF⟩
  refine V_aload_n F dX7_init_0 rfl ?_
  refine V_oi F oi_X7_1 w_oiI w_oiC dX7_init_1 (Nat.le_of_ble_eq_true rfl) (Nat.le_of_ble_eq_true rfl) ?_
  show V G X _ _ _ _ (some (gB G + 817 + 0)) _ _ _
  refine V_aload_n F dX7_init_4 rfl ?_
  refine V_bipush F dX7_init_5 kb_6 ?_
  refine V_newA F (at_ := .int) (ty := .int) (N := 6) (a0 := (6, .inl (fun _ => 0))) 0 w_aI rfl rfl (fun _ _ h => h) (fun _ => rfl) dX7_init_7 (nI_pos (by omega)) (nI_clamp (by omega)) (Nat.le_of_ble_eq_true rfl) (Nat.le_of_ble_eq_true rfl) (Nat.le_of_ble_eq_true rfl) ?_
  refine V_putF F hnm fl_X7_7 rfl dX7_init_9 ((mset_ne _ _ (by omega)).trans h0.1) rfl rfl (Nat.le_of_ble_eq_true rfl) ?_
  show V G X _ _ _ _ (some (gB G + 817 + 1)) _ _ _
  refine V_abs (fun M' => mk9 G M M' 1 [.ref (gB G + 817), .null, .null, .int (nI 0), .null, .null, .null, .int (nI 0), .null, .int (nI 0), .int (nI 0), .int (nI 0), .null, .null, .null, .int (nI 0), .null, .null, .int (nI 0), .null, .null, .null]) (h0.step _) ?_
  rintro M1 h1
  refine V_aload_n F dX7_init_12 rfl ?_
  refine V_bipush F dX7_init_13 kb_6 ?_
  refine V_newA F (at_ := .int) (ty := .int) (N := 6) (a0 := (6, .inl (fun _ => 0))) 0 w_aI rfl rfl (fun _ _ h => h) (fun _ => rfl) dX7_init_15 (nI_pos (by omega)) (nI_clamp (by omega)) (Nat.le_of_ble_eq_true rfl) (Nat.le_of_ble_eq_true rfl) (Nat.le_of_ble_eq_true rfl) ?_
  refine V_putF F hnm fl_X7_13 rfl dX7_init_17 ((mset_ne _ _ (by omega)).trans h1.1) rfl rfl (Nat.le_of_ble_eq_true rfl) ?_
  show V G X _ _ _ _ (some (gB G + 817 + 2)) _ _ _
  refine V_abs (fun M' => mk9 G M M' 2 [.ref (gB G + 817), .ref (gB G + 818), .null, .int (nI 0), .null, .null, .null, .int (nI 0), .null, .int (nI 0), .int (nI 0), .int (nI 0), .null, .null, .null, .int (nI 0), .null, .null, .int (nI 0), .null, .null, .null]) (h1.step _) ?_
  rintro M2 h2
  refine V_aload_n F dX7_init_20 rfl ?_
  refine V_sipush F dX7_init_21 ks_144 ?_
  refine V_newA F (at_ := .long) (ty := .long) (N := 144) (a0 := (144, .inr (.inl (fun _ => 0)))) 1 w_aJ rfl rfl (fun _ _ h => h) (fun _ => rfl) dX7_init_24 (nI_pos (by omega)) (nI_clamp (by omega)) (Nat.le_of_ble_eq_true rfl) (Nat.le_of_ble_eq_true rfl) (Nat.le_of_ble_eq_true rfl) ?_
  refine V_putF F hnm fl_X7_16 rfl dX7_init_26 ((mset_ne _ _ (by omega)).trans h2.1) rfl rfl (Nat.le_of_ble_eq_true rfl) ?_
  show V G X _ _ _ _ (some (gB G + 817 + 3)) _ _ _
  refine V_abs (fun M' => mk9 G M M' 3 [.ref (gB G + 817), .ref (gB G + 818), .ref (gB G + 819), .int (nI 0), .null, .null, .null, .int (nI 0), .null, .int (nI 0), .int (nI 0), .int (nI 0), .null, .null, .null, .int (nI 0), .null, .null, .int (nI 0), .null, .null, .null]) (h2.step _) ?_
  rintro M3 h3
  refine V_aload_n F dX7_init_29 rfl ?_
  refine V_bipush F dX7_init_30 kb_60 ?_
  refine V_newA F (at_ := .int) (ty := .int) (N := 60) (a0 := (60, .inl (fun _ => 0))) 0 w_aI rfl rfl (fun _ _ h => h) (fun _ => rfl) dX7_init_32 (nI_pos (by omega)) (nI_clamp (by omega)) (Nat.le_of_ble_eq_true rfl) (Nat.le_of_ble_eq_true rfl) (Nat.le_of_ble_eq_true rfl) ?_
  refine V_putF F hnm fl_X7_20 rfl dX7_init_34 ((mset_ne _ _ (by omega)).trans h3.1) rfl rfl (Nat.le_of_ble_eq_true rfl) ?_
  show V G X _ _ _ _ (some (gB G + 817 + 4)) _ _ _
  refine V_abs (fun M' => mk9 G M M' 4 [.ref (gB G + 817), .ref (gB G + 818), .ref (gB G + 819), .int (nI 0), .ref (gB G + 820), .null, .null, .int (nI 0), .null, .int (nI 0), .int (nI 0), .int (nI 0), .null, .null, .null, .int (nI 0), .null, .null, .int (nI 0), .null, .null, .null]) (h3.step _) ?_
  rintro M4 h4
  refine V_aload_n F dX7_init_37 rfl ?_
  refine V_sipush F dX7_init_38 ks_720 ?_
  refine V_newA F (at_ := .int) (ty := .int) (N := 720) (a0 := (720, .inl (fun _ => 0))) 0 w_aI rfl rfl (fun _ _ h => h) (fun _ => rfl) dX7_init_41 (nI_pos (by omega)) (nI_clamp (by omega)) (Nat.le_of_ble_eq_true rfl) (Nat.le_of_ble_eq_true rfl) (Nat.le_of_ble_eq_true rfl) ?_
  refine V_putF F hnm fl_X7_23 rfl dX7_init_43 ((mset_ne _ _ (by omega)).trans h4.1) rfl rfl (Nat.le_of_ble_eq_true rfl) ?_
  show V G X _ _ _ _ (some (gB G + 817 + 5)) _ _ _
  refine V_abs (fun M' => mk9 G M M' 5 [.ref (gB G + 817), .ref (gB G + 818), .ref (gB G + 819), .int (nI 0), .ref (gB G + 820), .ref (gB G + 821), .null, .int (nI 0), .null, .int (nI 0), .int (nI 0), .int (nI 0), .null, .null, .null, .int (nI 0), .null, .null, .int (nI 0), .null, .null, .null]) (h4.step _) ?_
  rintro M5 h5
  refine V_aload_n F dX7_init_46 rfl ?_
  refine V_bipush F dX7_init_47 kb_12 ?_
  refine V_newA F (at_ := .long) (ty := .long) (N := 12) (a0 := (12, .inr (.inl (fun _ => 0)))) 1 w_aJ rfl rfl (fun _ _ h => h) (fun _ => rfl) dX7_init_49 (nI_pos (by omega)) (nI_clamp (by omega)) (Nat.le_of_ble_eq_true rfl) (Nat.le_of_ble_eq_true rfl) (Nat.le_of_ble_eq_true rfl) ?_
  refine V_putF F hnm fl_X7_26 rfl dX7_init_51 ((mset_ne _ _ (by omega)).trans h5.1) rfl rfl (Nat.le_of_ble_eq_true rfl) ?_
  show V G X _ _ _ _ (some (gB G + 817 + 6)) _ _ _
  refine V_abs (fun M' => mk9 G M M' 6 [.ref (gB G + 817), .ref (gB G + 818), .ref (gB G + 819), .int (nI 0), .ref (gB G + 820), .ref (gB G + 821), .ref (gB G + 822), .int (nI 0), .null, .int (nI 0), .int (nI 0), .int (nI 0), .null, .null, .null, .int (nI 0), .null, .null, .int (nI 0), .null, .null, .null]) (h5.step _) ?_
  rintro M6 h6
  refine V_aload_n F dX7_init_54 rfl ?_
  refine V_sipush F dX7_init_55 ks_1000 ?_
  refine V_newA F (at_ := .int) (ty := .int) (N := 1000) (a0 := (1000, .inl (fun _ => 0))) 0 w_aI rfl rfl (fun _ _ h => h) (fun _ => rfl) dX7_init_58 (nI_pos (by omega)) (nI_clamp (by omega)) (Nat.le_of_ble_eq_true rfl) (Nat.le_of_ble_eq_true rfl) (Nat.le_of_ble_eq_true rfl) ?_
  refine V_putF F hnm fl_X7_29 rfl dX7_init_60 ((mset_ne _ _ (by omega)).trans h6.1) rfl rfl (Nat.le_of_ble_eq_true rfl) ?_
  show V G X _ _ _ _ (some (gB G + 817 + 7)) _ _ _
  refine V_abs (fun M' => mk9 G M M' 7 [.ref (gB G + 817), .ref (gB G + 818), .ref (gB G + 819), .int (nI 0), .ref (gB G + 820), .ref (gB G + 821), .ref (gB G + 822), .int (nI 0), .ref (gB G + 823), .int (nI 0), .int (nI 0), .int (nI 0), .null, .null, .null, .int (nI 0), .null, .null, .int (nI 0), .null, .null, .null]) (h6.step _) ?_
  rintro M7 h7
  refine V_aload_n F dX7_init_63 rfl ?_
  refine V_bipush F dX7_init_64 kb_m3 ?_
  refine V_put F fl_X7_32 dX7_init_66 h7.1 rfl rfl (Nat.le_of_ble_eq_true rfl) ?_
  refine V_abs (fun M' => mk9 G M M' 7 [.ref (gB G + 817), .ref (gB G + 818), .ref (gB G + 819), .int (nI 0), .ref (gB G + 820), .ref (gB G + 821), .ref (gB G + 822), .int (nI 0), .ref (gB G + 823), .int (nI 0), .int (nI 0), .int (-3), .null, .null, .null, .int (nI 0), .null, .null, .int (nI 0), .null, .null, .null]) (h7.put _) ?_
  rintro MM h7
  refine V_aload_n F dX7_init_69 rfl ?_
  refine V_sipush F dX7_init_70 ks_720 ?_
  refine V_newA F (at_ := .int) (ty := .int) (N := 720) (a0 := (720, .inl (fun _ => 0))) 0 w_aI rfl rfl (fun _ _ h => h) (fun _ => rfl) dX7_init_73 (nI_pos (by omega)) (nI_clamp (by omega)) (Nat.le_of_ble_eq_true rfl) (Nat.le_of_ble_eq_true rfl) (Nat.le_of_ble_eq_true rfl) ?_
  refine V_putF F hnm fl_X7_36 rfl dX7_init_75 ((mset_ne _ _ (by omega)).trans h7.1) rfl rfl (Nat.le_of_ble_eq_true rfl) ?_
  show V G X _ _ _ _ (some (gB G + 817 + 8)) _ _ _
  refine V_abs (fun M' => mk9 G M M' 8 [.ref (gB G + 817), .ref (gB G + 818), .ref (gB G + 819), .int (nI 0), .ref (gB G + 820), .ref (gB G + 821), .ref (gB G + 822), .int (nI 0), .ref (gB G + 823), .int (nI 0), .int (nI 0), .int (-3), .ref (gB G + 824), .null, .null, .int (nI 0), .null, .null, .int (nI 0), .null, .null, .null]) (h7.step _) ?_
  rintro M8 h8
  refine V_aload_n F dX7_init_78 rfl ?_
  refine V_bipush F dX7_init_79 kb_24 ?_
  refine V_newA F (at_ := .long) (ty := .long) (N := 24) (a0 := (24, .inr (.inl (fun _ => 0)))) 1 w_aJ rfl rfl (fun _ _ h => h) (fun _ => rfl) dX7_init_81 (nI_pos (by omega)) (nI_clamp (by omega)) (Nat.le_of_ble_eq_true rfl) (Nat.le_of_ble_eq_true rfl) (Nat.le_of_ble_eq_true rfl) ?_
  refine V_putF F hnm fl_X7_39 rfl dX7_init_83 ((mset_ne _ _ (by omega)).trans h8.1) rfl rfl (Nat.le_of_ble_eq_true rfl) ?_
  show V G X _ _ _ _ (some (gB G + 817 + 9)) _ _ _
  refine V_abs (fun M' => mk9 G M M' 9 [.ref (gB G + 817), .ref (gB G + 818), .ref (gB G + 819), .int (nI 0), .ref (gB G + 820), .ref (gB G + 821), .ref (gB G + 822), .int (nI 0), .ref (gB G + 823), .int (nI 0), .int (nI 0), .int (-3), .ref (gB G + 824), .ref (gB G + 825), .null, .int (nI 0), .null, .null, .int (nI 0), .null, .null, .null]) (h8.step _) ?_
  rintro M9 h9
  refine V_aload_n F dX7_init_86 rfl ?_
  refine V_iconst F dX7_init_87 ki_4 ?_
  refine V_newA F (at_ := .long) (ty := .long) (N := 4) (a0 := (4, .inr (.inl (fun _ => 0)))) 1 w_aJ rfl rfl (fun _ _ h => h) (fun _ => rfl) dX7_init_88 (nI_pos (by omega)) (nI_clamp (by omega)) (Nat.le_of_ble_eq_true rfl) (Nat.le_of_ble_eq_true rfl) (Nat.le_of_ble_eq_true rfl) ?_
  refine V_putF F hnm fl_X7_42 rfl dX7_init_90 ((mset_ne _ _ (by omega)).trans h9.1) rfl rfl (Nat.le_of_ble_eq_true rfl) ?_
  show V G X _ _ _ _ (some (gB G + 817 + 10)) _ _ _
  refine V_abs (fun M' => mk9 G M M' 10 [.ref (gB G + 817), .ref (gB G + 818), .ref (gB G + 819), .int (nI 0), .ref (gB G + 820), .ref (gB G + 821), .ref (gB G + 822), .int (nI 0), .ref (gB G + 823), .int (nI 0), .int (nI 0), .int (-3), .ref (gB G + 824), .ref (gB G + 825), .ref (gB G + 826), .int (nI 0), .null, .null, .int (nI 0), .null, .null, .null]) (h9.step _) ?_
  rintro M10 h10
  refine V_aload_n F dX7_init_93 rfl ?_
  refine V_sipush F dX7_init_94 ks_24000 ?_
  refine V_newA F (at_ := .long) (ty := .long) (N := 24000) (a0 := (24000, .inr (.inl (fun _ => 0)))) 1 w_aJ rfl rfl (fun _ _ h => h) (fun _ => rfl) dX7_init_97 (nI_pos (by omega)) (nI_clamp (by omega)) (Nat.le_of_ble_eq_true rfl) (Nat.le_of_ble_eq_true rfl) (Nat.le_of_ble_eq_true rfl) ?_
  refine V_putF F hnm fl_X7_45 rfl dX7_init_99 ((mset_ne _ _ (by omega)).trans h10.1) rfl rfl (Nat.le_of_ble_eq_true rfl) ?_
  show V G X _ _ _ _ (some (gB G + 817 + 11)) _ _ _
  refine V_abs (fun M' => mk9 G M M' 11 [.ref (gB G + 817), .ref (gB G + 818), .ref (gB G + 819), .int (nI 0), .ref (gB G + 820), .ref (gB G + 821), .ref (gB G + 822), .int (nI 0), .ref (gB G + 823), .int (nI 0), .int (nI 0), .int (-3), .ref (gB G + 824), .ref (gB G + 825), .ref (gB G + 826), .int (nI 0), .ref (gB G + 827), .null, .int (nI 0), .null, .null, .null]) (h10.step _) ?_
  rintro M11 h11
  refine V_aload_n F dX7_init_102 rfl ?_
  refine V_sipush F dX7_init_103 ks_2000 ?_
  refine V_newA F (at_ := .int) (ty := .int) (N := 2000) (a0 := (2000, .inl (fun _ => 0))) 0 w_aI rfl rfl (fun _ _ h => h) (fun _ => rfl) dX7_init_106 (nI_pos (by omega)) (nI_clamp (by omega)) (Nat.le_of_ble_eq_true rfl) (Nat.le_of_ble_eq_true rfl) (Nat.le_of_ble_eq_true rfl) ?_
  refine V_putF F hnm fl_X7_48 rfl dX7_init_108 ((mset_ne _ _ (by omega)).trans h11.1) rfl rfl (Nat.le_of_ble_eq_true rfl) ?_
  show V G X _ _ _ _ (some (gB G + 817 + 12)) _ _ _
  refine V_abs (fun M' => mk9 G M M' 12 [.ref (gB G + 817), .ref (gB G + 818), .ref (gB G + 819), .int (nI 0), .ref (gB G + 820), .ref (gB G + 821), .ref (gB G + 822), .int (nI 0), .ref (gB G + 823), .int (nI 0), .int (nI 0), .int (-3), .ref (gB G + 824), .ref (gB G + 825), .ref (gB G + 826), .int (nI 0), .ref (gB G + 827), .ref (gB G + 828), .int (nI 0), .null, .null, .null]) (h11.step _) ?_
  rintro M12 h12
  refine V_aload_n F dX7_init_111 rfl ?_
  refine V_sipush F dX7_init_112 ks_732 ?_
  refine V_newA F (at_ := .long) (ty := .long) (N := 732) (a0 := (732, .inr (.inl (fun _ => 0)))) 1 w_aJ rfl rfl (fun _ _ h => h) (fun _ => rfl) dX7_init_115 (nI_pos (by omega)) (nI_clamp (by omega)) (Nat.le_of_ble_eq_true rfl) (Nat.le_of_ble_eq_true rfl) (Nat.le_of_ble_eq_true rfl) ?_
  refine V_putF F hnm fl_X7_51 rfl dX7_init_117 ((mset_ne _ _ (by omega)).trans h12.1) rfl rfl (Nat.le_of_ble_eq_true rfl) ?_
  show V G X _ _ _ _ (some (gB G + 817 + 13)) _ _ _
  refine V_abs (fun M' => mk9 G M M' 13 [.ref (gB G + 817), .ref (gB G + 818), .ref (gB G + 819), .int (nI 0), .ref (gB G + 820), .ref (gB G + 821), .ref (gB G + 822), .int (nI 0), .ref (gB G + 823), .int (nI 0), .int (nI 0), .int (-3), .ref (gB G + 824), .ref (gB G + 825), .ref (gB G + 826), .int (nI 0), .ref (gB G + 827), .ref (gB G + 828), .int (nI 0), .ref (gB G + 829), .null, .null]) (h12.step _) ?_
  rintro M13 h13
  refine V_aload_n F dX7_init_120 rfl ?_
  refine V_sipush F dX7_init_121 ks_10368 ?_
  refine V_newA F (at_ := .int) (ty := .int) (N := 10368) (a0 := (10368, .inl (fun _ => 0))) 0 w_aI rfl rfl (fun _ _ h => h) (fun _ => rfl) dX7_init_124 (nI_pos (by omega)) (nI_clamp (by omega)) (Nat.le_of_ble_eq_true rfl) (Nat.le_of_ble_eq_true rfl) (Nat.le_of_ble_eq_true rfl) ?_
  refine V_putF F hnm fl_X7_54 rfl dX7_init_126 ((mset_ne _ _ (by omega)).trans h13.1) rfl rfl (Nat.le_of_ble_eq_true rfl) ?_
  show V G X _ _ _ _ (some (gB G + 817 + 14)) _ _ _
  refine V_abs (fun M' => mk9 G M M' 14 [.ref (gB G + 817), .ref (gB G + 818), .ref (gB G + 819), .int (nI 0), .ref (gB G + 820), .ref (gB G + 821), .ref (gB G + 822), .int (nI 0), .ref (gB G + 823), .int (nI 0), .int (nI 0), .int (-3), .ref (gB G + 824), .ref (gB G + 825), .ref (gB G + 826), .int (nI 0), .ref (gB G + 827), .ref (gB G + 828), .int (nI 0), .ref (gB G + 829), .ref (gB G + 830), .null]) (h13.step _) ?_
  rintro M14 h14
  refine V_aload_n F dX7_init_129 rfl ?_
  refine V_ldc F dX7_init_130 kc_X7_57 ?_
  refine V_newA F (at_ := .int) (ty := .int) (N := 331776) (a0 := (331776, .inl (fun _ => 0))) 0 w_aI rfl rfl (fun _ _ h => h) (fun _ => rfl) dX7_init_132 (by decide) (by decide) (Nat.le_of_ble_eq_true rfl) (Nat.le_of_ble_eq_true rfl) (Nat.le_of_ble_eq_true rfl) ?_
  refine V_putF F hnm fl_X7_58 rfl dX7_init_134 ((mset_ne _ _ (by omega)).trans h14.1) rfl rfl (Nat.le_of_ble_eq_true rfl) ?_
  show V G X _ _ _ _ (some (gB G + 817 + 15)) _ _ _
  refine V_abs (fun M' => mk9 G M M' 15 [.ref (gB G + 817), .ref (gB G + 818), .ref (gB G + 819), .int (nI 0), .ref (gB G + 820), .ref (gB G + 821), .ref (gB G + 822), .int (nI 0), .ref (gB G + 823), .int (nI 0), .int (nI 0), .int (-3), .ref (gB G + 824), .ref (gB G + 825), .ref (gB G + 826), .int (nI 0), .ref (gB G + 827), .ref (gB G + 828), .int (nI 0), .ref (gB G + 829), .ref (gB G + 830), .ref (gB G + 831)]) (h14.step _) ?_
  rintro M15 h15
  refine V_iconst F dX7_init_137 ki_0 ?_
  refine V_istore_n F dX7_init_138 (Nat.le_of_ble_eq_true rfl) ?_
  show V _ _ _ _ _ _ _ _ [_, _] _
  exact loop 6 0 _ M15 M15 _ (by omega) h15 (h15.2.1 0 (by omega)) (fun r hr => absurd hr (Nat.not_lt_zero _)) (fun z hz => rfl)
end CTOR4
