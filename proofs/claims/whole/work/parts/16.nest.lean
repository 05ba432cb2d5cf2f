section QUAD
variable {G : GP} {M : Mem} {a a1 r1 a2 r2 b q : Nat} {c c1 c2 : Qd}
theorem c_X4_become {v2 v3 v4 : Value} (h0 : M a = some (eO 4 [.ref a1, .ref a2, v2, v3, v4])) (h1 : M a1 = some (eO 1 [.ref r1])) (g1 : M r1 = some (eJ (gT G) 12 (fc c1))) (h2 : M a2 = some (eO 1 [.ref r2])) (g2 : M r2 = some (eJ (gT G) 12 (fc c2))) (hb : M b = some (eO 1 [.ref q])) (hq : M q = some (eJ (gT G) 12 (fc c))) (d1 : r1 ≠ r2) (d2 : q ≠ r1) (fr se : Int32) : Con G yX4_become cX4_become 4 none 5 0 0 [.ref a, .ref b, .int fr, .int se] M none (R1 none (mset (mset (mset M r1 (eJ (gT G) 12 (fc c))) r2 (eJ (gT G) 12 (fc (gd 100000 c).2))) a (eO 4 [.ref a1, .ref a2, .int fr, .int (nI (gd 100000 c).1), .int se])) none) := by
  refine Con.of (by decide +kernel) (Nat.le_of_ble_eq_true rfl) (fun X F hnm => ?_)
  show V G X 0 0 _ M _ 0 [some (.ref a), some (.ref b), some (.int fr), some (.int se)] []
  have n1 := ne_oj h0 g1
  have n2 := ne_oj h0 g2
  have n3 := ne_oj h1 g1
  have n4 := ne_oj h2 g1
  have n5 := ne_oj hb g1
  have n6 := ne_oj h2 g2
  have k0 : ∀ e, mset M r1 e a = _ := fun e => (mset_ne _ _ n1).trans h0
  have k2 : ∀ e, mset M r1 e a2 = _ := fun e => (mset_ne _ _ n4).trans h2
  have kb : ∀ e, mset M r1 e b = _ := fun e => (mset_ne _ _ n5).trans hb
  have kq : ∀ e, mset M r1 e q = _ := fun e => (mset_ne _ _ d2).trans hq
  have kr : ∀ e, mset M r1 e r2 = _ := fun e => (mset_ne _ _ d1.symm).trans g2
  refine V_aload_n F dX4_become_0 rfl ?_
  refine V_get F fl_X4_12 dX4_become_1 (by assumption) rfl ?_
  refine V_aload_n F dX4_become_4 rfl ?_
  refine V_ivR F iv_X4_31 dX4_become_5 (As := [_]) (c_X1_take h1 g1 hb hq) (by assumption) rfl rfl rfl rfl ?_
  refine V_aload_n F dX4_become_8 rfl ?_
  refine V_get F fl_X4_18 dX4_become_9 (k0 _) rfl ?_
  refine V_aload_n F dX4_become_12 rfl ?_
  refine V_ivR F iv_X4_31 dX4_become_13 (As := [_]) (c_X1_take (k2 _) (kr _) (kb _) (kq _)) (k2 _) rfl rfl rfl rfl ?_
  refine V_aload_n F dX4_become_16 rfl ?_
  refine V_aload_n F dX4_become_17 rfl ?_
  refine V_get F fl_X4_18 dX4_become_18 ((mset_ne _ _ n2).trans (k0 _)) rfl ?_
  refine V_ldc F dX4_become_21 kc_X4_35 ?_
  refine V_ivR F iv_X4_36 dX4_become_23 (As := [_]) (c_X1_goDown 100000 (by decide) _ _ ((mset_ne _ _ n6).trans (k2 _)) (mset_eq _ _ _)) ((mset_ne _ _ n6).trans (k2 _)) rfl rfl rfl rfl ?_
  rw [mset_mset]
  refine V_put F fl_X4_25 dX4_become_26 ((mset_ne _ _ n2).trans (k0 _)) rfl rfl (Nat.le_of_ble_eq_true rfl) ?_
  refine V_aload_n F dX4_become_29 rfl ?_
  refine V_iload_n F dX4_become_30 rfl ?_
  refine V_put F fl_X4_21 dX4_become_31 (mset_eq _ _ _) rfl rfl (Nat.le_of_ble_eq_true rfl) ?_
  refine V_aload_n F dX4_become_34 rfl ?_
  refine V_iload_n F dX4_become_35 rfl ?_
  refine V_put F fl_X4_28 dX4_become_36 (mset_eq _ _ _) rfl rfl (Nat.le_of_ble_eq_true rfl) ?_
  rw [mset_mset, mset_mset]
  exact V_vret F rfl dX4_become_39 ⟨rfl, rfl, rfl⟩
end QUAD
abbrev Wt : Type := List (Qd × Int32)
def isSea (G : GP) (M : Mem) (a pw pb nx rn : Nat) (aw rw : Nat → Nat) (ws : Wt) : Prop :=
  M a = some (eO 3 [.ref pw, .ref pb, .ref nx, .int (nI ws.length)]) ∧ (∃ g, M pw = some (eQ (gT G) 4 241 g) ∧ ∀ k, k < 241 → g k = some (aw k)) ∧ (∃ bk, M pb = some (eI (gT G) 241 bk) ∧ ∀ (k : Nat) (x : Qd × Int32), ws[k]? = some x → bk k = x.2) ∧ M nx = some (eO 1 [.ref rn]) ∧ (∃ c, M rn = some (eJ (gT G) 12 (fc c))) ∧ (∀ k, k < 241 → M (aw k) = some (eO 1 [.ref (rw k)]) ∧ ∃ c, M (rw k) = some (eJ (gT G) 12 (fc c)) ∧ ∀ (x : Qd × Int32), ws[k]? = some x → c = x.1) ∧ ws.length ≤ 241
def seaOk (pw pb rn : Nat) (aw rw : Nat → Nat) : Prop := (∀ k j, k < 241 → j < 241 → rw k = rw j → k = j) ∧ (∀ k, k < 241 → rw k ≠ rn)
section SEA
variable {G : GP} {M : Mem} {a pw pb nx rn : Nat} {aw rw : Nat → Nat} {ws : Wt} {b q : Nat} {c : Qd}
theorem c_X3_addWaiting (hs : isSea G M a pw pb nx rn aw rw ws) (ok : seaOk pw pb rn aw rw) (hb : M b = some (eO 1 [.ref q])) (hq : M q = some (eJ (gT G) 12 (fc c))) (hqw : ∀ k, k < 241 → q ≠ rw k) (s : Int32) : Con G yX3_addWaiting cX3_addWaiting 3 (some .boolean) 2 0 0 [.ref a, .ref b, .int s] M none (fun v M' n' => v = some (.int (bI (decide (ws.length < 241)))) ∧ (ws.length < 241 → isSea G M' a pw pb nx rn aw rw (ws ++ [(c, s)])) ∧ (¬ ws.length < 241 → isSea G M' a pw pb nx rn aw rw ws) ∧ (∀ z, z ≠ a → z ≠ pb → (∀ k, k < 241 → z ≠ rw k) → M' z = M z) ∧ n' = none) := by
  have hs0 := hs
  obtain ⟨h0, ⟨g, h1, h2⟩, ⟨bk, h3, h4⟩, h5, ⟨cn, h6⟩, h7, h8⟩ := hs
  refine Con.of (by decide +kernel) (Nat.le_of_ble_eq_true rfl) (fun X F hnm => ?_)
  show V G X 0 0 _ M _ 0 [some (.ref a), some (.ref b), some (.int s)] []
  refine V_aload_n F dX3_addWaiting_0 rfl ?_
  refine V_get F fl_X3_26 dX3_addWaiting_1 (by assumption) rfl ?_
  refine V_sipush F dX3_addWaiting_4 ks_241 ?_
  refine V_icmp_lt F 12 dX3_addWaiting_7 (by decide) (fun c7 => ?_) (fun c7 => ?_)
  · have c7 := (nI_ltI (by omega) (by omega)).mp c7
    obtain ⟨w1, cw, w2, w3⟩ := h7 ws.length c7
    have n1 := ne_oj h0 w2
    have n2 := ne_oj h0 h3
    have n3 : pb ≠ rw ws.length := fun e => by rw [e, w2] at h3; exact absurd (show (12 : Nat) = 241 from congrArg elen h3) (by decide)
    refine V_aload_n F dX3_addWaiting_12 rfl ?_
    refine V_get F fl_X3_13 dX3_addWaiting_13 (by assumption) rfl ?_
    refine V_aload_n F dX3_addWaiting_16 rfl ?_
    refine V_get F fl_X3_26 dX3_addWaiting_17 (by assumption) rfl ?_
    refine V_aaldN F 4 dX3_addWaiting_20 (by assumption) rfl rfl _ (by first | (simp only [pk_mul, nI_add, nI_1, nI_inc]; done) | (simp only [pk_mul, nI_add, nI_1, nI_inc]; rfl) | rfl) (by omega) (by omega) (h2 _ c7) ?_
    refine V_aload_n F dX3_addWaiting_21 rfl ?_
    refine V_ivR F iv_X3_58 dX3_addWaiting_22 (As := [_]) (c_X1_take w1 w2 hb hq) (by assumption) rfl rfl rfl rfl ?_
    refine V_aload_n F dX3_addWaiting_25 rfl ?_
    refine V_get F fl_X3_17 dX3_addWaiting_26 ((mset_ne _ _ n1).trans h0) rfl ?_
    refine V_aload_n F dX3_addWaiting_29 rfl ?_
    refine V_get F fl_X3_26 dX3_addWaiting_30 ((mset_ne _ _ n1).trans h0) rfl ?_
    refine V_iload_n F dX3_addWaiting_33 rfl ?_
    refine V_iastN F dX3_addWaiting_34 ((mset_ne _ _ n3).trans h3) _ (by first | (simp only [pk_mul, nI_add, nI_1, nI_inc]; done) | (simp only [pk_mul, nI_add, nI_1, nI_inc]; rfl) | rfl) (by omega) (by omega) ?_
    refine V_aload_n F dX3_addWaiting_35 rfl ?_
    refine V_dup F dX3_addWaiting_36 rfl ?_
    refine V_get F fl_X3_26 dX3_addWaiting_37 ((mset_ne _ _ n2).trans ((mset_ne _ _ n1).trans h0)) rfl ?_
    refine V_iconst F dX3_addWaiting_40 ki_1 ?_
    refine V_iadd F dX3_addWaiting_41 ?_
    rw [nI_add]
    refine V_put F fl_X3_26 dX3_addWaiting_42 ((mset_ne _ _ n2).trans ((mset_ne _ _ n1).trans h0)) rfl rfl (Nat.le_of_ble_eq_true rfl) ?_
    refine V_iconst F dX3_addWaiting_45 ki_1 ?_
    refine V_iret F rfl dX3_addWaiting_46 rfl ⟨rt (decide_eq_true c7), fun _ => ?fin, fun z => absurd c7 z, fun z z1 z2 z3 => by rw [mset_ne _ _ z1, mset_ne _ _ z2, mset_ne _ _ (z3 _ c7)], rfl⟩
    have n4 := ne_oj h5 w2
    have n5 := ne_oj h5 h3
    have n6 : rn ≠ rw ws.length := (ok.2 _ c7).symm
    have n7 : rn ≠ pb := fun e => by rw [e, h3] at h6; exact absurd (show (241 : Nat) = 12 from congrArg elen h6) (by decide)
    have n8 : ∀ k, k < 241 → aw k ≠ rw ws.length := fun k hk => ne_oj (h7 k hk).1 w2
    have n9 : ∀ k, k < 241 → aw k ≠ pb := fun k hk => ne_oj (h7 k hk).1 h3
    have m1 : nx ≠ a := fun e => by rw [e, h0] at h5; cases h5
    have m2 : rn ≠ a := (ne_oj h0 h6).symm
    have m3 : ∀ k, k < 241 → aw k ≠ a := fun k hk e => by have := (h7 k hk).1; rw [e, h0] at this; cases this
    have m4 : ∀ k, k < 241 → rw k ≠ a := fun k hk e => by obtain ⟨-, cc, w, -⟩ := h7 k hk; rw [e, h0] at w; cases w
    have m5 : ∀ k, k < 241 → rw k ≠ pb := fun k hk e => by obtain ⟨-, cc, w, -⟩ := h7 k hk; rw [e, h3] at w; exact absurd (show (241 : Nat) = 12 from congrArg elen w) (by decide)
    have m6 : pw ≠ rw ws.length := fun e => by rw [e, w2] at h1; exact absurd (show (12 : Nat) = 241 from congrArg elen h1) (by decide)
    have m7 : pw ≠ pb := fun e => by rw [e, h3] at h1; exact absurd (show (1 : Nat) = 3 from congrArg ekd h1) (by decide)
    have m8 : pw ≠ a := (ne_oj h0 h1).symm
    have app : ∀ (k : Nat) (x : Qd × Int32), (ws ++ [(c, s)])[k]? = some x → ws[k]? = some x ∨ (k = ws.length ∧ x = (c, s)) := fun k x hx => by
      by_cases q1 : k < ws.length
      · rw [List.getElem?_append_left q1] at hx; exact Or.inl hx
      · rw [List.getElem?_append_right (by omega)] at hx
        have q2 : k - ws.length < 1 := (List.getElem?_eq_some_iff.mp hx).1
        have q3 : k = ws.length := by omega
        subst q3
        rw [Nat.sub_self] at hx
        cases hx
        exact Or.inr ⟨rfl, rfl⟩
    refine ⟨by rw [mset_eq, List.length_append]; rfl, ⟨g, ?_, h2⟩, ⟨_, (mset_ne _ _ n2.symm).trans (mset_eq _ _ _), fun k x hx => ?_⟩, ?_, ⟨cn, ?_⟩, fun k hk => ⟨?_, ?_⟩, by rw [List.length_append, List.length_singleton]; omega⟩
    · rw [mset_ne _ _ m8, mset_ne _ _ m7, mset_ne _ _ m6]; exact h1
    · rcases app k x hx with q1 | ⟨q1, q2⟩
      · have : k < ws.length := (List.getElem?_eq_some_iff.mp q1).1
        rw [va_up_ne _ _ (by omega)]
        exact h4 k x q1
      · subst q1 q2
        rw [va_up_self]
    · rw [mset_ne _ _ m1, mset_ne _ _ n5, mset_ne _ _ n4]; exact h5
    · rw [mset_ne _ _ m2, mset_ne _ _ n7, mset_ne _ _ n6]; exact h6
    · rw [mset_ne _ _ (m3 k hk), mset_ne _ _ (n9 k hk), mset_ne _ _ (n8 k hk)]; exact (h7 k hk).1
    · by_cases q0 : k = ws.length
      · subst q0
        refine ⟨c, ?_, fun x hx => ?_⟩
        · rw [mset_ne _ _ (m4 _ c7), mset_ne _ _ (m5 _ c7), mset_eq]
        · rcases app _ x hx with q1 | ⟨q1, q2⟩
          · exact absurd (List.getElem?_eq_some_iff.mp q1).1 (by omega)
          · subst q2; rfl
      · obtain ⟨-, cc, w, w'⟩ := h7 k hk
        refine ⟨cc, ?_, fun x hx => ?_⟩
        · rw [mset_ne _ _ (m4 _ hk), mset_ne _ _ (m5 _ hk), mset_ne _ _ (fun e => q0 (ok.1 _ _ hk c7 e))]; exact w
        · rcases app _ x hx with q1 | ⟨q1, q2⟩
          · exact w' x q1
          · exact absurd q1 q0
  · have c7 : ¬ ws.length < 241 := fun z => c7 ((nI_ltI (b := 241) (by omega) (by omega)).mpr z)
    refine V_iconst F dX3_addWaiting_10 ki_0 ?_
    exact V_iret F rfl dX3_addWaiting_11 rfl ⟨rf (decide_eq_false c7), fun z => absurd z c7, fun _ => hs0, fun _ _ _ _ => rfl, rfl⟩
end SEA
