theorem InvM.went {G : GP} {M M' : Mem} {s : Sg} {lq pd gd' : Int32} {m : Nat} {c : Qd} (h : InvM G M s lq) (w : wentDown G M M' (nI (sNq s)) (nI (sS s)) (nI (sMo s)) lq pd gd' m c) : InvM G M' s lq := by
  obtain ⟨-, hA, hJ, hg⟩ := h
  obtain ⟨w1, w2, ⟨f, w3, -⟩, w4⟩ := w
  refine ⟨⟨_, pd, gd', w1⟩, hA.frame (fun i hi => w4 _ (by omega) (by omega) (by omega)), ⟨fun i hi => ?_, fun i hi => ?_⟩, hg⟩
  · by_cases q : i = 822
    · subst q; exact ⟨_, w2⟩
    · obtain ⟨f', hf⟩ := hJ.1 i hi
      have := jl_c hi
      exact ⟨f', (w4 _ (by omega) (by omega) (by omega)).trans hf⟩
  · by_cases q : i = 823
    · subst q; exact ⟨_, w3⟩
    · obtain ⟨f', hf⟩ := hJ.2 i hi
      have := il_c hi
      exact ⟨f', (w4 _ (by omega) (by omega) (by omega)).trans hf⟩
def stOk (s : Sg) : Prop := ∀ k, k < sNq s → (gd 100000 (sQc s k)).1 ≤ 1000
theorem mA.quad {G : GP} {M M' : Mem} {s : Sg} (h : mA G M s) {c : Qd} {fr se : Int32} {g4 g5 : Nat → Int32} (h4 : M' (gB G + 820) = some (eI (gT G) 60 g4)) (e4 : ∀ k, k < sNq s + 1 → g4 k = if k = sNq s then fr else sQf s k) (h5 : M' (gB G + 821) = some (eI (gT G) 720 g5)) (e5 : ∀ k j w, k < sNq s + 1 → j < 4 → w < 3 → g5 (12 * k + 3 * j + w) = if k = sNq s then (c j w).toInt32 else (sQc s k j w).toInt32) (e : ∀ i, i = 817 ∨ i = 818 ∨ i = 819 ∨ i = 824 → M' (gB G + i) = M (gB G + i)) : mA G M' (uquad s c fr se) := by
  obtain ⟨⟨f1, a1, b1⟩, ⟨f2, a2, b2⟩, ⟨f3, a3, b3⟩, -, -, ⟨f6, a6, b6⟩⟩ := h
  refine ⟨⟨f1, (e _ (by omega)).trans a1, b1⟩, ⟨f2, (e _ (by omega)).trans a2, b2⟩, ⟨f3, (e _ (by omega)).trans a3, b3⟩, ⟨g4, h4, fun k hk => (e4 k hk).trans ?_⟩, ⟨g5, h5, fun k j w hk hj hw => (e5 k j w hk hj hw).trans ?_⟩, ⟨f6, (e _ (by omega)).trans a6, b6⟩⟩
  · simp only [uquad, sQf]
  · simp only [uquad, sQc]; split <;> rfl
section MOD6
variable {G : GP} {M : Mem} {n : Option Nat} {s : Sg} {lq : Int32}
theorem c_X7_newQuad (h : InvM G M s lq) {c : Qd} (h6 : M (gB G + 822) = some (eJ (gT G) 12 (mc c))) (hn : sNq s < 60) (hin : qIn c) (fr se : Int32) : Con G yX7_newQuad cX7_newQuad 3 (some .int) 0 0 0 [.ref (gB G + 816), .int fr] M none (PM G M (nI (sNq s)) (uquad s c fr se) lq) := by
  obtain ⟨⟨st, pd, gd, hO⟩, hA, hJ, hg⟩ := h
  have hA0 := hA
  obtain ⟨-, -, -, ⟨f4, a4, b4⟩, ⟨f5, a5, b5⟩, -⟩ := hA
  refine Con.of (by decide +kernel) (Nat.le_of_ble_eq_true rfl) (fun X F hnm => ?_)
  show V G X 0 0 _ M _ 0 [some (.ref (gB G + 816)), some (.int fr), none] []
  generalize hQ : BQ G X _ 0 0 = Q
  have loop : ∀ m k : Nat, m + k = 12 → ∀ f : Nat → Int32, (∀ j, j < k → f (12 * sNq s + j) = (mc c j).toInt32) → (∀ z, z < 12 * sNq s → f z = f5 z) → V G X 0 0 Q (mset M (gB G + 821) (eI (gT G) 720 f)) none 2 [some (.ref (gB G + 816)), some (.int fr), some (.int (nI k))] [] := by
    intro m
    induction m with
    | zero =>
      intro k hk f hf hf2
      have hk : k = 12 := by omega
      subst hk
      have O1 := (mset_ne M (b := gB G + 816) (eI (gT G) 720 f) (show gB G + 816 ≠ gB G + 821 by omega)).trans hO
      refine V_iload_n F dX7_newQuad_2 rfl ?_
      refine V_bipush F dX7_newQuad_3 kb_12 ?_
      refine V_icmp_ge F 35 dX7_newQuad_5 (by decide) (fun c5 => ?_) (fun c5 => absurd (by decide) c5)
      refine V_aload_n F dX7_newQuad_35 rfl ?_
      refine V_get F fl_X7_20 dX7_newQuad_36 O1 rfl ?_
      refine V_aload_n F dX7_newQuad_39 rfl ?_
      refine V_get F fl_X7_79 dX7_newQuad_40 O1 rfl ?_
      refine V_iload_n F dX7_newQuad_43 rfl ?_
      refine V_iastN F dX7_newQuad_44 ((mset_ne _ _ (by omega)).trans a4) _ (by first | (simp only [pk_mul, nI_add, nI_1, nI_inc]; done) | (simp only [pk_mul, nI_add, nI_1, nI_inc]; rfl) | rfl) (by omega) (by omega) ?_
      refine V_aload_n F dX7_newQuad_45 rfl ?_
      refine V_dup F dX7_newQuad_46 rfl ?_
      refine V_get F fl_X7_79 dX7_newQuad_47 ((mset_ne _ _ (by omega)).trans O1) rfl ?_
      refine V_iconst F dX7_newQuad_50 ki_1 ?_
      refine V_iadd F dX7_newQuad_51 ?_
      rw [nI_add]
      refine V_put F fl_X7_79 dX7_newQuad_52 ((mset_ne _ _ (by omega)).trans O1) rfl rfl (Nat.le_of_ble_eq_true rfl) ?_
      refine V_aload_n F dX7_newQuad_55 rfl ?_
      refine V_get F fl_X7_79 dX7_newQuad_56 (mset_eq _ _ _) rfl ?_
      refine V_iconst F dX7_newQuad_59 ki_1 ?_
      refine V_isub F dX7_newQuad_60 ?_
      rw [pk_sub (by omega), Nat.add_sub_cancel]
      have hs : InvM G (mset (mset (mset M (gB G + 821) (eI (gT G) 720 f)) (gB G + 820) (eI (gT G) 60 (va_up f4 (sNq s) fr))) (gB G + 816) (objM G (nI (sNq s + 1)) st (nI (sS s)) (nI (sMo s)) lq pd gd)) (uquad s c fr se) lq := by
        refine ⟨⟨st, pd, gd, mset_eq _ _ _⟩, hA0.quad (g4 := va_up f4 (sNq s) fr) (g5 := f) ((mset_ne _ _ (by omega)).trans (mset_eq _ _ _)) (fun k hk => ?_) (by rw [mset_ne _ _ (by omega), mset_ne _ _ (by omega), mset_eq]) (fun k j w hk hj hw => ?_) (fun i hi => by rw [mset_ne _ _ (by omega), mset_ne _ _ (by omega), mset_ne _ _ (by omega)]), ?_, ?_⟩
        · unfold va_up
          split
          · rfl
          · exact b4 k (by omega)
        · by_cases q : k = sNq s
          · subst q
            rw [if_pos rfl, show 12 * sNq s + 3 * j + w = 12 * sNq s + (3 * j + w) by omega, hf _ (by omega), mc_at hw]
          · rw [if_neg q, hf2 _ (by omega)]
            exact b5 k j w (by omega) hj hw
        · refine (mJ.frame hJ (fun i hi => ?_))
          rcases hi with hi | hi
          · have := jl_c hi; rw [mset_ne _ _ (by omega), mset_ne _ _ (by omega), mset_ne _ _ (by omega)]
          · have := il_c hi; rw [mset_ne _ _ (by omega), mset_ne _ _ (by omega), mset_ne _ _ (by omega)]
        · obtain ⟨h1, h2, h3, h4, h5, h6⟩ := hg
          refine ⟨h1, by show sNq s + 1 ≤ 60; omega, h3, h4, fun k hk => ?_, h6⟩
          have hk : k < sNq s + 1 := hk
          simp only [uquad, sQc]
          split
          · exact hin
          · exact h5 k (by omega)
      subst hQ
      exact V_iret F rfl dX7_newQuad_61 rfl ⟨rfl, hs, fun z hz => by rw [mset_ne _ _ (by omega), mset_ne _ _ (by omega), mset_ne _ _ (by omega)], rfl⟩
    | succ m ih =>
      intro k hk f hf hf2
      have O1 := (mset_ne M (b := gB G + 816) (eI (gT G) 720 f) (show gB G + 816 ≠ gB G + 821 by omega)).trans hO
      refine V_iload_n F dX7_newQuad_2 rfl ?_
      refine V_bipush F dX7_newQuad_3 kb_12 ?_
      refine V_icmp_ge F 35 dX7_newQuad_5 (by decide) (fun c5 => absurd c5 (nI_ge (by omega) (by omega))) (fun c5 => ?_)
      refine V_aload_n F dX7_newQuad_8 rfl ?_
      refine V_get F fl_X7_23 dX7_newQuad_9 O1 rfl ?_
      refine V_bipush F dX7_newQuad_12 kb_12 ?_
      refine V_aload_n F dX7_newQuad_14 rfl ?_
      refine V_get F fl_X7_79 dX7_newQuad_15 O1 rfl ?_
      refine V_imul F dX7_newQuad_18 ?_
      rw [pk_mul]
      refine V_iload_n F dX7_newQuad_19 rfl ?_
      refine V_iadd F dX7_newQuad_20 ?_
      rw [nI_add]
      refine V_aload_n F dX7_newQuad_21 rfl ?_
      refine V_get F fl_X7_26 dX7_newQuad_22 O1 rfl ?_
      refine V_iload_n F dX7_newQuad_25 rfl ?_
      refine V_laldN F dX7_newQuad_26 ((mset_ne _ _ (by omega)).trans h6) _ (by first | (simp only [pk_mul, nI_add, nI_1, nI_inc]; done) | (simp only [pk_mul, nI_add, nI_1, nI_inc]; rfl) | rfl) (by omega) (by omega) ?_
      refine V_l2i F dX7_newQuad_27 ?_
      refine V_iastN F dX7_newQuad_28 (mset_eq _ _ _) _ (by first | (simp only [pk_mul, nI_add, nI_1, nI_inc]; done) | (simp only [pk_mul, nI_add, nI_1, nI_inc]; rfl) | rfl) (by omega) (by omega) ?_
      rw [mset_mset]
      refine V_iinc1 F dX7_newQuad_29 rfl ?_
      show V _ _ _ _ _ _ _ _ [_, _, _] _
      refine V_goto F 2 dX7_newQuad_32 (by decide) ?_
      refine ih (k + 1) (by omega) _ (fun j hj => ?_) (fun z hz => ?_)
      · unfold va_up
        by_cases q1 : j = k
        · subst q1; rw [if_pos rfl]
        · rw [if_neg (by omega)]; exact hf j (by omega)
      · unfold va_up
        rw [if_neg (by omega)]
        exact hf2 z hz
  refine V_iconst F dX7_newQuad_0 ki_0 ?_
  refine V_istore_n F dX7_newQuad_1 (Nat.le_of_ble_eq_true rfl) ?_
  show V _ _ _ _ _ _ _ _ [_, _, _] _
  have := loop 12 0 rfl f5 (fun j hj => by omega) (fun _ _ => rfl)
  rw [mset_self a5] at this
  exact this
theorem c_X7_coin (h : InvM G M s lq) (q i w : Int32) : Con G yX7_coin cX7_coin 4 (some .int) 2 0 0 [.ref (gB G + 816), .int q, .int i, .int w] M none (PM G M (S_coin s q i w) s lq) := by
  have hI := h
  obtain ⟨⟨st, pd, gd, hO⟩, hA, hJ, hg⟩ := h
  obtain ⟨-, -, -, ⟨f4, a4, b4⟩, ⟨f5, a5, b5⟩, -⟩ := hA
  have h60 := hg.2.1
  generalize hR : S_coin s q i w = R
  unfold S_coin at hR
  refine Con.of (by decide +kernel) (Nat.le_of_ble_eq_true rfl) (fun X F hnm => ?_)
  show V G X 0 0 _ M _ 0 [some (.ref (gB G + 816)), some (.int q), some (.int i), some (.int w)] []
  have bad : ¬ (inR q (sNq s) = true ∧ inR i 4 = true ∧ inR w 3 = true) → V G X 0 0 (BQ G X (PM G M R s lq) 0 0) M none 34 [some (.ref (gB G + 816)), some (.int q), some (.int i), some (.int w)] [] := by
    intro z
    rw [if_neg z] at hR
    subst hR
    refine V_ldc F dX7_coin_34 kc_X7_131 ?_
    exact V_iret F rfl dX7_coin_36 rfl ⟨rfl, hI, fun _ _ => rfl, rfl⟩
  refine V_aload_n F dX7_coin_0 rfl ?_
  refine V_iload_n F dX7_coin_1 rfl ?_
  refine V_ivR F iv_X7_115 dX7_coin_2 (As := [_]) (c_X7_isQuad h60 hO _) (by assumption) rfl rfl rfl rfl ?_
  refine V_if_eq F 34 dX7_coin_5 (by decide) (fun c5 => ?_) (fun c5 => ?_)
  · rw [bI_0] at c5
    exact bad (fun z => by rw [c5] at z; cases z.1)
  · rw [bI_n] at c5
    refine V_iload_n F dX7_coin_8 rfl ?_
    refine V_iload_n F dX7_coin_9 rfl ?_
    refine V_isR F is_X7_127 dX7_coin_10 (As := [_, _]) (c_X7_isCoin _ _) rfl rfl rfl ?_
    refine V_if_eq F 34 dX7_coin_13 (by decide) (fun c13 => ?_) (fun c13 => ?_)
    · rw [bI_0, Bool.and_eq_false_iff] at c13
      exact bad (fun z => by rcases c13 with q | q <;> rw [q] at z <;> simp at z)
    · rw [bI_n, Bool.and_eq_true] at c13
      rw [if_pos ⟨c5, c13.1, c13.2⟩] at hR
      obtain ⟨k, hk, rfl⟩ := inR_t (by omega) c5
      obtain ⟨j, hj, rfl⟩ := inR_t (by omega) c13.1
      obtain ⟨v, hv, rfl⟩ := inR_t (by omega) c13.2
      rw [ix_nI (by omega), ix_nI (by omega), ix_nI (by omega)] at hR
      subst hR
      refine V_aload_n F dX7_coin_16 rfl ?_
      refine V_get F fl_X7_23 dX7_coin_17 (by assumption) rfl ?_
      refine V_bipush F dX7_coin_20 kb_12 ?_
      refine V_iload_n F dX7_coin_22 rfl ?_
      refine V_imul F dX7_coin_23 ?_
      rw [pk_mul]
      refine V_iconst F dX7_coin_24 ki_3 ?_
      refine V_iload_n F dX7_coin_25 rfl ?_
      refine V_imul F dX7_coin_26 ?_
      rw [pk_mul]
      refine V_iadd F dX7_coin_27 ?_
      refine V_iload_n F dX7_coin_28 rfl ?_
      refine V_iadd F dX7_coin_29 ?_
      rw [nI_add, nI_add]
      refine V_ialdN F dX7_coin_30 (by assumption) _ (by first | (simp only [pk_mul, nI_add, nI_1, nI_inc]; done) | (simp only [pk_mul, nI_add, nI_1, nI_inc]; rfl) | rfl) (by omega) (by omega) ?_
      rw [b5 k j v hk hj hv]
      refine V_goto F 36 dX7_coin_31 (by decide) ?_
      exact V_iret F rfl dX7_coin_36 rfl ⟨rfl, hI, fun _ _ => rfl, rfl⟩
theorem c_X7_from (h : InvM G M s lq) (q : Int32) : Con G yX7_from cX7_from 2 (some .int) 2 0 0 [.ref (gB G + 816), .int q] M none (PM G M (S_from s q) s lq) := by
  have hI := h
  obtain ⟨⟨st, pd, gd, hO⟩, hA, hJ, hg⟩ := h
  obtain ⟨-, -, -, ⟨f4, a4, b4⟩, -⟩ := hA
  have h60 := hg.2.1
  generalize hR : S_from s q = R
  unfold S_from at hR
  refine Con.of (by decide +kernel) (Nat.le_of_ble_eq_true rfl) (fun X F hnm => ?_)
  show V G X 0 0 _ M _ 0 [some (.ref (gB G + 816)), some (.int q)] []
  refine V_aload_n F dX7_from_0 rfl ?_
  refine V_iload_n F dX7_from_1 rfl ?_
  refine V_ivR F iv_X7_115 dX7_from_2 (As := [_]) (c_X7_isQuad h60 hO _) (by assumption) rfl rfl rfl rfl ?_
  refine V_if_eq F 17 dX7_from_5 (by decide) (fun c5 => ?_) (fun c5 => ?_)
  · rw [bI_0] at c5
    rw [if_neg (by rw [c5]; decide)] at hR
    subst hR
    refine V_iconst F dX7_from_17 ki_m1 ?_
    exact V_iret F rfl dX7_from_18 rfl ⟨rfl, hI, fun _ _ => rfl, rfl⟩
  · rw [bI_n] at c5
    rw [if_pos c5] at hR
    obtain ⟨k, hk, rfl⟩ := inR_t (by omega) c5
    rw [ix_nI (by omega)] at hR
    subst hR
    refine V_aload_n F dX7_from_8 rfl ?_
    refine V_get F fl_X7_20 dX7_from_9 (by assumption) rfl ?_
    refine V_iload_n F dX7_from_12 rfl ?_
    refine V_ialdN F dX7_from_13 (by assumption) _ (by first | (simp only [pk_mul, nI_add, nI_1, nI_inc]; done) | (simp only [pk_mul, nI_add, nI_1, nI_inc]; rfl) | rfl) (by omega) (by omega) ?_
    rw [b4 k hk]
    refine V_goto F 18 dX7_from_14 (by decide) ?_
    exact V_iret F rfl dX7_from_18 rfl ⟨rfl, hI, fun _ _ => rfl, rfl⟩
theorem c_X7_touch (h : InvM G M s lq) (q i r j : Int32) : Con G yX7_touch cX7_touch 7 (some .int) 2 0 0 [.ref (gB G + 816), .int q, .int i, .int r, .int j] M none (PM G M (S_touch s q i r j) s lq) := by
  have hI := h
  obtain ⟨⟨st, pd, gd, hO⟩, hA, hJ, hg⟩ := h
  obtain ⟨-, -, -, -, ⟨f5, a5, b5⟩, -⟩ := hA
  have h60 := hg.2.1
  have hin := hg.2.2.2.2.1
  generalize hR : S_touch s q i r j = R
  unfold S_touch at hR
  refine Con.of (by decide +kernel) (Nat.le_of_ble_eq_true rfl) (fun X F hnm => ?_)
  show V G X 0 0 _ M _ 0 [some (.ref (gB G + 816)), some (.int q), some (.int i), some (.int r), some (.int j), none, none] []
  have bad : ¬ (inR q (sNq s) = true ∧ inR i 4 = true ∧ inR r (sNq s) = true ∧ inR j 4 = true) → V G X 0 0 (BQ G X (PM G M R s lq) 0 0) M none 41 [some (.ref (gB G + 816)), some (.int q), some (.int i), some (.int r), some (.int j), none, none] [] := by
    intro z
    rw [if_neg z] at hR
    subst hR
    refine V_iconst F dX7_touch_41 ki_m1 ?_
    exact V_iret F rfl dX7_touch_42 rfl ⟨rfl, hI, fun _ _ => rfl, rfl⟩
  refine V_aload_n F dX7_touch_0 rfl ?_
  refine V_iload_n F dX7_touch_1 rfl ?_
  refine V_ivR F iv_X7_115 dX7_touch_2 (As := [_]) (c_X7_isQuad h60 hO _) (by assumption) rfl rfl rfl rfl ?_
  refine V_if_eq F 41 dX7_touch_5 (by decide) (fun c5 => ?_) (fun c5 => ?_)
  · rw [bI_0] at c5
    exact bad (fun z => by rw [c5] at z; cases z.1)
  · rw [bI_n] at c5
    refine V_iload_n F dX7_touch_8 rfl ?_
    refine V_i2l F dX7_touch_9 ?_
    refine V_lconst F dX7_touch_10 (v := 0) (by decide) ?_
    refine V_ldc2 F dX7_touch_11 kl_X7_118 ?_
    refine V_isR F is_X7_63 dX7_touch_14 (As := [_, _, _]) (c_X7_in _ _ _) rfl rfl rfl ?_
    refine V_if_eq F 41 dX7_touch_17 (by decide) (fun c17 => ?_) (fun c17 => ?_)
    · rw [bI_0, inL_R (m := 4) (by omega) (by decide)] at c17
      exact bad (fun z => by rw [c17] at z; cases z.2.1)
    · rw [bI_n, inL_R (m := 4) (by omega) (by decide)] at c17
      refine V_aload_n F dX7_touch_20 rfl ?_
      refine V_iload_n F dX7_touch_21 rfl ?_
      refine V_ivR F iv_X7_115 dX7_touch_22 (As := [_]) (c_X7_isQuad h60 hO _) (by assumption) rfl rfl rfl rfl ?_
      refine V_if_eq F 41 dX7_touch_25 (by decide) (fun c25 => ?_) (fun c25 => ?_)
      · rw [bI_0] at c25
        exact bad (fun z => by rw [c25] at z; cases z.2.2.1)
      · rw [bI_n] at c25
        refine V_iload F dX7_touch_28 rfl ?_
        refine V_i2l F dX7_touch_30 ?_
        refine V_lconst F dX7_touch_31 (v := 0) (by decide) ?_
        refine V_ldc2 F dX7_touch_32 kl_X7_118 ?_
        refine V_isR F is_X7_63 dX7_touch_35 (As := [_, _, _]) (c_X7_in _ _ _) rfl rfl rfl ?_
        refine V_if_ne F 43 dX7_touch_38 (by decide) (fun c38 => ?_) (fun c38 => ?_)
        · rw [bI_n, inL_R (m := 4) (by omega) (by decide)] at c38
          rw [if_pos ⟨c5, c17, c25, c38⟩] at hR
          obtain ⟨a, ha, rfl⟩ := inR_t (by omega) c5
          obtain ⟨b, hb, rfl⟩ := inR_t (by omega) c17
          obtain ⟨d, hd, rfl⟩ := inR_t (by omega) c25
          obtain ⟨e, he, rfl⟩ := inR_t (by omega) c38
          rw [ix_nI (by omega), ix_nI (by omega), ix_nI (by omega), ix_nI (by omega)] at hR
          have v : ∀ k i w, k < sNq s → i < 4 → w < 3 → (f5 (12 * k + 3 * i + w)).toInt64 = sQc s k i w := fun k i w hk hi hw => by rw [b5 k i w hk hi hw]; exact hin k hk i w hi hw
          have v0 : ∀ k i, k < sNq s → i < 4 → (f5 (12 * k + 3 * i)).toInt64 = sQc s k i 0 := fun k i hk hi => v k i 0 hk hi (by omega)
          refine V_bipush F dX7_touch_43 kb_12 ?_
          refine V_iload_n F dX7_touch_45 rfl ?_
          refine V_imul F dX7_touch_46 ?_
          refine V_iconst F dX7_touch_47 ki_3 ?_
          refine V_iload_n F dX7_touch_48 rfl ?_
          refine V_imul F dX7_touch_49 ?_
          rw [pk_mul, pk_mul]
          refine V_iadd F dX7_touch_50 ?_
          rw [nI_add]
          refine V_istore F dX7_touch_51 (Nat.le_of_ble_eq_true rfl) ?_
          show V _ _ _ _ _ _ _ _ [_, _, _, _, _, _, _] _
          refine V_bipush F dX7_touch_53 kb_12 ?_
          refine V_iload_n F dX7_touch_55 rfl ?_
          refine V_imul F dX7_touch_56 ?_
          refine V_iconst F dX7_touch_57 ki_3 ?_
          refine V_iload F dX7_touch_58 rfl ?_
          refine V_imul F dX7_touch_60 ?_
          rw [pk_mul, pk_mul]
          refine V_iadd F dX7_touch_61 ?_
          rw [nI_add]
          refine V_istore F dX7_touch_62 (Nat.le_of_ble_eq_true rfl) ?_
          show V _ _ _ _ _ _ _ _ [_, _, _, _, _, _, _] _
          refine V_aload_n F dX7_touch_64 rfl ?_
          refine V_get F fl_X7_23 dX7_touch_65 (by assumption) rfl ?_
          refine V_iload F dX7_touch_68 rfl ?_
          refine V_ialdN F dX7_touch_70 (by assumption) _ (by first | (simp only [pk_mul, nI_add, nI_1, nI_inc]; done) | (simp only [pk_mul, nI_add, nI_1, nI_inc]; rfl) | rfl) (by omega) (by omega) ?_
          refine V_i2l F dX7_touch_71 ?_
          refine V_aload_n F dX7_touch_72 rfl ?_
          refine V_get F fl_X7_23 dX7_touch_73 (by assumption) rfl ?_
          refine V_iload F dX7_touch_76 rfl ?_
          refine V_iconst F dX7_touch_78 ki_1 ?_
          refine V_iadd F dX7_touch_79 ?_
          refine V_ialdN F dX7_touch_80 (by assumption) _ (by first | (simp only [pk_mul, nI_add, nI_1, nI_inc]; done) | (simp only [pk_mul, nI_add, nI_1, nI_inc]; rfl) | rfl) (by omega) (by omega) ?_
          refine V_i2l F dX7_touch_81 ?_
          refine V_aload_n F dX7_touch_82 rfl ?_
          refine V_get F fl_X7_23 dX7_touch_83 (by assumption) rfl ?_
          refine V_iload F dX7_touch_86 rfl ?_
          refine V_iconst F dX7_touch_88 ki_2 ?_
          refine V_iadd F dX7_touch_89 ?_
          refine V_ialdN F dX7_touch_90 (by assumption) _ (by first | (simp only [pk_mul, nI_add, nI_1, nI_inc]; done) | (simp only [pk_mul, nI_add, nI_1, nI_inc]; rfl) | rfl) (by omega) (by omega) ?_
          refine V_i2l F dX7_touch_91 ?_
          refine V_aload_n F dX7_touch_92 rfl ?_
          refine V_get F fl_X7_23 dX7_touch_93 (by assumption) rfl ?_
          refine V_iload F dX7_touch_96 rfl ?_
          refine V_ialdN F dX7_touch_98 (by assumption) _ (by first | (simp only [pk_mul, nI_add, nI_1, nI_inc]; done) | (simp only [pk_mul, nI_add, nI_1, nI_inc]; rfl) | rfl) (by omega) (by omega) ?_
          refine V_i2l F dX7_touch_99 ?_
          refine V_aload_n F dX7_touch_100 rfl ?_
          refine V_get F fl_X7_23 dX7_touch_101 (by assumption) rfl ?_
          refine V_iload F dX7_touch_104 rfl ?_
          refine V_iconst F dX7_touch_106 ki_1 ?_
          refine V_iadd F dX7_touch_107 ?_
          refine V_ialdN F dX7_touch_108 (by assumption) _ (by first | (simp only [pk_mul, nI_add, nI_1, nI_inc]; done) | (simp only [pk_mul, nI_add, nI_1, nI_inc]; rfl) | rfl) (by omega) (by omega) ?_
          refine V_i2l F dX7_touch_109 ?_
          refine V_aload_n F dX7_touch_110 rfl ?_
          refine V_get F fl_X7_23 dX7_touch_111 (by assumption) rfl ?_
          refine V_iload F dX7_touch_114 rfl ?_
          refine V_iconst F dX7_touch_116 ki_2 ?_
          refine V_iadd F dX7_touch_117 ?_
          refine V_ialdN F dX7_touch_118 (by assumption) _ (by first | (simp only [pk_mul, nI_add, nI_1, nI_inc]; done) | (simp only [pk_mul, nI_add, nI_1, nI_inc]; rfl) | rfl) (by omega) (by omega) ?_
          refine V_i2l F dX7_touch_119 ?_
          rw [v0 a b ha hb, v0 d e hd he, v a b 1 ha hb (by omega), v a b 2 ha hb (by omega), v d e 1 hd he (by omega), v d e 2 hd he (by omega)]
          subst hR
          refine V_isR F is_X7_101 dX7_touch_120 (As := [_, _, _, _, _, _]) (c_X7_areTouching _ _ _ _ _ _) rfl rfl rfl ?_
          refine V_if_eq F 130 dX7_touch_123 (by decide) (fun c123 => ?_) (fun c123 => ?_)
          · rw [bI_0] at c123
            refine V_iconst F dX7_touch_130 ki_0 ?_
            exact V_iret F rfl dX7_touch_131 rfl ⟨rf c123, hI, fun _ _ => rfl, rfl⟩
          · rw [bI_n] at c123
            refine V_iconst F dX7_touch_126 ki_1 ?_
            refine V_goto F 131 dX7_touch_127 (by decide) ?_
            exact V_iret F rfl dX7_touch_131 rfl ⟨rt c123, hI, fun _ _ => rfl, rfl⟩
        · rw [bI_0, inL_R (m := 4) (by omega) (by decide)] at c38
          exact bad (fun z => by rw [c38] at z; cases z.2.2.2)
theorem c_X7_steps (h : InvM G M s lq) (hst : stOk s) (q : Int32) : Con G yX7_steps cX7_steps 2 (some .int) 2 0 0 [.ref (gB G + 816), .int q] M none (PM G M (S_steps s q) s lq) := by
  have hI := h
  obtain ⟨⟨st, pd, gd', hO⟩, hA, hJ, hg⟩ := h
  obtain ⟨-, -, -, -, ⟨f5, a5, b5⟩, -⟩ := hA
  obtain ⟨f6, a6⟩ := hJ.1 822 (by decide)
  obtain ⟨f7, a7⟩ := hJ.2 823 (by decide)
  have h60 := hg.2.1
  have hin := hg.2.2.2.2.1
  generalize hR : S_steps s q = R
  unfold S_steps at hR
  refine Con.of (by decide +kernel) (Nat.le_of_ble_eq_true rfl) (fun X F hnm => ?_)
  show V G X 0 0 _ M _ 0 [some (.ref (gB G + 816)), some (.int q)] []
  refine V_aload_n F dX7_steps_0 rfl ?_
  refine V_iload_n F dX7_steps_1 rfl ?_
  refine V_ivR F iv_X7_115 dX7_steps_2 (As := [_]) (c_X7_isQuad h60 hO _) (by assumption) rfl rfl rfl rfl ?_
  refine V_if_ne F 10 dX7_steps_5 (by decide) (fun c5 => ?_) (fun c5 => ?_)
  · rw [bI_n] at c5
    rw [if_pos c5] at hR
    obtain ⟨k, hk, rfl⟩ := inR_t (by omega) c5
    rw [ix_nI (by omega)] at hR
    have hs := hst k hk
    refine V_aload_n F dX7_steps_10 rfl ?_
    refine V_iload_n F dX7_steps_11 rfl ?_
    refine V_ivP F iv_X7_138 dX7_steps_12 (As := [_]) (c_X7_goDown (m := 100000) hO a5 a6 a7 (by omega) (fun j w hj hw => b5 k j w hk hj hw) (hin k hk) (by decide) (by omega)) (by assumption) rfl rfl rfl rfl ?_
    rintro v M1 n1 ⟨rfl, w, rfl⟩
    subst hR
    refine V_aload_n F dX7_steps_15 rfl ?_
    refine V_get F fl_X7_132 dX7_steps_16 w.1 rfl ?_
    exact V_iret F rfl dX7_steps_19 rfl ⟨rfl, hI.went w, fun z hz => w.2.2.2 z (by omega) (by omega) (by omega), rfl⟩
  · rw [bI_0] at c5
    rw [if_neg (by rw [c5]; decide)] at hR
    subst hR
    refine V_iconst F dX7_steps_8 ki_m1 ?_
    exact V_iret F rfl dX7_steps_9 rfl ⟨rfl, hI, fun _ _ => rfl, rfl⟩
theorem c_X7_root (h : InvM G M s lq) (hst : stOk s) (q i w : Int32) : Con G yX7_root cX7_root 4 (some .int) 2 0 0 [.ref (gB G + 816), .int q, .int i, .int w] M none (PM G M (S_root s q i w) s lq) := by
  have hI := h
  obtain ⟨⟨st, pd, gd', hO⟩, hA, hJ, hg⟩ := h
  obtain ⟨-, -, -, -, ⟨f5, a5, b5⟩, -⟩ := hA
  obtain ⟨f6, a6⟩ := hJ.1 822 (by decide)
  obtain ⟨f7, a7⟩ := hJ.2 823 (by decide)
  have h60 := hg.2.1
  have hin := hg.2.2.2.2.1
  generalize hR : S_root s q i w = R
  unfold S_root at hR
  refine Con.of (by decide +kernel) (Nat.le_of_ble_eq_true rfl) (fun X F hnm => ?_)
  show V G X 0 0 _ M _ 0 [some (.ref (gB G + 816)), some (.int q), some (.int i), some (.int w)] []
  have bad : ¬ (inR q (sNq s) = true ∧ inR i 4 = true ∧ inR w 3 = true) → V G X 0 0 (BQ G X (PM G M R s lq) 0 0) M none 16 [some (.ref (gB G + 816)), some (.int q), some (.int i), some (.int w)] [] := by
    intro z
    rw [if_neg z] at hR
    subst hR
    refine V_ldc F dX7_root_16 kc_X7_131 ?_
    exact V_iret F rfl dX7_root_18 rfl ⟨rfl, hI, fun _ _ => rfl, rfl⟩
  refine V_aload_n F dX7_root_0 rfl ?_
  refine V_iload_n F dX7_root_1 rfl ?_
  refine V_ivR F iv_X7_115 dX7_root_2 (As := [_]) (c_X7_isQuad h60 hO _) (by assumption) rfl rfl rfl rfl ?_
  refine V_if_eq F 16 dX7_root_5 (by decide) (fun c5 => ?_) (fun c5 => ?_)
  · rw [bI_0] at c5
    exact bad (fun z => by rw [c5] at z; cases z.1)
  · rw [bI_n] at c5
    refine V_iload_n F dX7_root_8 rfl ?_
    refine V_iload_n F dX7_root_9 rfl ?_
    refine V_isR F is_X7_127 dX7_root_10 (As := [_, _]) (c_X7_isCoin _ _) rfl rfl rfl ?_
    refine V_if_ne F 19 dX7_root_13 (by decide) (fun c13 => ?_) (fun c13 => ?_)
    · rw [bI_n, Bool.and_eq_true] at c13
      rw [if_pos ⟨c5, c13.1, c13.2⟩] at hR
      obtain ⟨k, hk, rfl⟩ := inR_t (by omega) c5
      obtain ⟨j, hj, rfl⟩ := inR_t (by omega) c13.1
      obtain ⟨v, hv, rfl⟩ := inR_t (by omega) c13.2
      rw [ix_nI (by omega), ix_nI (by omega), ix_nI (by omega)] at hR
      have hs := hst k hk
      refine V_aload_n F dX7_root_19 rfl ?_
      refine V_iload_n F dX7_root_20 rfl ?_
      refine V_ivP F iv_X7_138 dX7_root_21 (As := [_]) (c_X7_goDown (m := 100000) hO a5 a6 a7 (by omega) (fun j w hj hw => b5 k j w hk hj hw) (hin k hk) (by decide) (by omega)) (by assumption) rfl rfl rfl rfl ?_
      rintro v1 M1 n1 ⟨rfl, w, rfl⟩
      refine V_aload_n F dX7_root_24 rfl ?_
      refine V_get F fl_X7_26 dX7_root_25 w.1 rfl ?_
      refine V_iconst F dX7_root_28 ki_3 ?_
      refine V_iload_n F dX7_root_29 rfl ?_
      refine V_imul F dX7_root_30 ?_
      refine V_iload_n F dX7_root_31 rfl ?_
      refine V_iadd F dX7_root_32 ?_
      refine V_laldN F dX7_root_33 w.2.1 (3 * j + v) (by first | (simp only [pk_mul, nI_add, nI_1, nI_inc]; done) | (simp only [pk_mul, nI_add, nI_1, nI_inc]; rfl) | rfl) (by omega) (by omega) ?_
      rw [mc_at hv]
      subst hR
      refine V_l2i F dX7_root_34 ?_
      exact V_iret F rfl dX7_root_35 rfl ⟨rfl, hI.went w, fun z hz => w.2.2.2 z (by omega) (by omega) (by omega), rfl⟩
    · rw [bI_0, Bool.and_eq_false_iff] at c13
      exact bad (fun z => by rcases c13 with q | q <;> rw [q] at z <;> simp at z)
theorem c_X7_step (h : InvM G M s lq) (hst : stOk s) (q k : Int32) : Con G yX7_step cX7_step 3 (some .int) 2 0 0 [.ref (gB G + 816), .int q, .int k] M none (PM G M (S_step s q k) s lq) := by
  have hI := h
  obtain ⟨⟨st, pd, gd', hO⟩, hA, hJ, hg⟩ := h
  obtain ⟨-, -, -, -, ⟨f5, a5, b5⟩, -⟩ := hA
  obtain ⟨f6, a6⟩ := hJ.1 822 (by decide)
  obtain ⟨f7, a7⟩ := hJ.2 823 (by decide)
  have h60 := hg.2.1
  have hin := hg.2.2.2.2.1
  generalize hR : S_step s q k = R
  unfold S_step at hR
  refine Con.of (by decide +kernel) (Nat.le_of_ble_eq_true rfl) (fun X F hnm => ?_)
  show V G X 0 0 _ M _ 0 [some (.ref (gB G + 816)), some (.int q), some (.int k)] []
  have bad : (inR q (sNq s) = false ∨ k < 0) → V G X 0 0 (BQ G X (PM G M R s lq) 0 0) M none 12 [some (.ref (gB G + 816)), some (.int q), some (.int k)] [] := by
    intro z
    rw [if_pos z] at hR
    subst hR
    refine V_iconst F dX7_step_12 ki_m1 ?_
    exact V_iret F rfl dX7_step_13 rfl ⟨rfl, hI, fun _ _ => rfl, rfl⟩
  refine V_aload_n F dX7_step_0 rfl ?_
  refine V_iload_n F dX7_step_1 rfl ?_
  refine V_ivR F iv_X7_115 dX7_step_2 (As := [_]) (c_X7_isQuad h60 hO _) (by assumption) rfl rfl rfl rfl ?_
  refine V_if_eq F 12 dX7_step_5 (by decide) (fun c5 => ?_) (fun c5 => ?_)
  · rw [bI_0] at c5
    exact bad (Or.inl c5)
  · rw [bI_n] at c5
    refine V_iload_n F dX7_step_8 rfl ?_
    refine V_if_ge F 14 dX7_step_9 (by decide) (fun c9 => ?_) (fun c9 => ?_)
    · have c9' : ¬ k < 0 := Int32.not_lt.mpr c9
      rw [if_neg (fun z => by
          rcases z with z | z
          · rw [c5] at z; cases z
          · exact c9' z)] at hR
      obtain ⟨j, hj, rfl⟩ := inR_t (by omega) c5
      rw [ix_nI (by omega)] at hR
      have hs := hst j hj
      refine V_aload_n F dX7_step_14 rfl ?_
      refine V_iload_n F dX7_step_15 rfl ?_
      refine V_ivP F iv_X7_138 dX7_step_16 (As := [_]) (c_X7_goDown (m := 100000) hO a5 a6 a7 (by omega) (fun i w hi hw => b5 j i w hj hi hw) (hin j hj) (by decide) (by omega)) (by assumption) rfl rfl rfl rfl ?_
      rintro v1 M1 n1 ⟨rfl, w, rfl⟩
      have w0 := w
      obtain ⟨w1, w2, ⟨f, w3, w4⟩, w5⟩ := w
      refine V_iload_n F dX7_step_19 rfl ?_
      refine V_aload_n F dX7_step_20 rfl ?_
      refine V_get F fl_X7_132 dX7_step_21 w1 rfl ?_
      refine V_icmp_ge F 36 dX7_step_24 (by decide) (fun c24 => ?_) (fun c24 => ?_)
      · rw [if_pos c24] at hR
        subst hR
        refine V_bipush F dX7_step_36 kb_m3 ?_
        exact V_iret F rfl dX7_step_38 rfl ⟨rfl, hI.went w0, fun z hz => w5 z (by omega) (by omega) (by omega), rfl⟩
      · rw [if_neg c24] at hR
        obtain ⟨a, ha, rfl⟩ := nI_of c9'
        have ha2 : a < (gd 100000 (sQc s j)).1 := Nat.lt_of_not_le (fun z => c24 (nI_le z (by omega)))
        rw [ix_nI ha] at hR
        refine V_aload_n F dX7_step_27 rfl ?_
        refine V_get F fl_X7_29 dX7_step_28 w1 rfl ?_
        refine V_iload_n F dX7_step_31 rfl ?_
        refine V_ialdN F dX7_step_32 w3 a rfl (by omega) (by omega) ?_
        rw [w4 a ha2 (by omega)]
        subst hR
        refine V_goto F 38 dX7_step_33 (by decide) ?_
        exact V_iret F rfl dX7_step_38 rfl ⟨rfl, hI.went w0, fun z hz => w5 z (by omega) (by omega) (by omega), rfl⟩
    · exact bad (Or.inr (Int32.not_le.mp c9))
end MOD6
