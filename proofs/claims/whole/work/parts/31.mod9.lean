section MOD9
variable {G : GP} {M : Mem} {s : Sg} {lq : Int32}
theorem c_X7_swap (h : InvM G M s lq) (q i : Int32) : Con G yX7_swap cX7_swap 3 (some .int) 4 0 0 [.ref (gB G + 816), .int q, .int i] M none (PM G M (S_swap s q i).1 (S_swap s q i).2 lq) := by
  have hI := h
  obtain ⟨⟨st, pd, gd', hO⟩, hA, hJ, hg⟩ := h
  obtain ⟨-, -, -, -, ⟨f5, a5, b5⟩, -⟩ := hA
  obtain ⟨f6, a6⟩ := hJ.1 822 (by decide)
  have h60 := hg.2.1
  have hin := hg.2.2.2.2.1
  generalize hR : S_swap s q i = R
  unfold S_swap at hR
  refine Con.of (by decide +kernel) (Nat.le_of_ble_eq_true rfl) (fun X F hnm => ?_)
  show V G X 0 0 _ M _ 0 [some (.ref (gB G + 816)), some (.int q), some (.int i)] []
  have bad : (inR q (sNq s) = false ∨ inR i 4 = false) → V G X 0 0 (BQ G X (PM G M R.1 R.2 lq) 0 0) M none 20 [some (.ref (gB G + 816)), some (.int q), some (.int i)] [] := by
    intro z
    rw [if_pos z] at hR
    subst hR
    refine V_iconst F dX7_swap_20 ki_m1 ?_
    exact V_iret F rfl dX7_swap_21 rfl ⟨rfl, hI, fun _ _ => rfl, rfl⟩
  refine V_aload_n F dX7_swap_0 rfl ?_
  refine V_iload_n F dX7_swap_1 rfl ?_
  refine V_ivR F iv_X7_115 dX7_swap_2 (As := [_]) (c_X7_isQuad h60 hO _) (by assumption) rfl rfl rfl rfl ?_
  refine V_if_eq F 20 dX7_swap_5 (by decide) (fun c5 => ?_) (fun c5 => ?_)
  · rw [bI_0] at c5
    exact bad (Or.inl c5)
  · rw [bI_n] at c5
    refine V_iload_n F dX7_swap_8 rfl ?_
    refine V_i2l F dX7_swap_9 ?_
    refine V_lconst F dX7_swap_10 (v := 0) (by decide) ?_
    refine V_ldc2 F dX7_swap_11 kl_X7_118 ?_
    refine V_isR F is_X7_63 dX7_swap_14 (As := [_, _, _]) (c_X7_in _ _ _) rfl rfl rfl ?_
    refine V_if_ne F 22 dX7_swap_17 (by decide) (fun c17 => ?_) (fun c17 => ?_)
    · rw [bI_n, inL_R (m := 4) (by omega) (by decide)] at c17
      rw [if_neg (fun z => by
          rcases z with z | z
          · rw [c5] at z; cases z
          · rw [c17] at z; cases z)] at hR
      obtain ⟨k, hk, rfl⟩ := inR_t (by omega) c5
      obtain ⟨j, hj, rfl⟩ := inR_t (by omega) c17
      rw [ix_nI (by omega), ix_nI (by omega)] at hR
      refine V_aload_n F dX7_swap_22 rfl ?_
      refine V_iload_n F dX7_swap_23 rfl ?_
      refine V_ivR F iv_X7_120 dX7_swap_24 (As := [_]) (c_X7_take hO a5 a6 (by omega) (fun j w hj hw => b5 k j w hk hj hw) (hin k hk)) (by assumption) rfl rfl rfl rfl ?_
      refine V_aload_n F dX7_swap_27 rfl ?_
      refine V_iload_n F dX7_swap_28 rfl ?_
      refine V_ivR F iv_X7_124 dX7_swap_29 (As := [_]) (c_X7_swapAt ((mset_ne _ _ (by omega)).trans hO) (mset_eq _ _ _) hj) ((mset_ne _ _ (by omega)).trans hO) rfl rfl rfl rfl ?_
      rw [mset_mset]
      have hC := @qIn_turn (sQc s k) j (hin k hk)
      have hI1 := hI.setJ 822 (n := 12) rfl (by omega) (mc (turnc (sQc s k) j))
      generalize turnc (sQc s k) j = C at hR hC hI1 ⊢
      have e6 := mset_eq M (gB G + 822) (eJ (gT G) 12 (mc C))
      have fr1 : ∀ z, z ≠ gB G + 822 → mset M (gB G + 822) (eJ (gT G) 12 (mc C)) z = M z := fun z hz => mset_ne _ _ hz
      generalize mset M (gB G + 822) (eJ (gT G) 12 (mc C)) = M1 at hI1 e6 fr1 ⊢
      have O1 := (fr1 (gB G + 816) (by omega)).trans hO
      have m3 : ∀ z, mc C (3 * z) = C z 0 := fun z => mc_at (c := C) (i := z) (w := 0) (by omega)
      have bad16 : bRef (C j 0) = false → plR C j = true → V G X 0 0 (BQ G X (PM G M R.1 R.2 lq) 0 0) M1 none 81 [some (.ref (gB G + 816)), some (.int (nI k)), some (.int (nI j))] [] := by
        intro z1 z2
        have e : cRef C j = -16 := by unfold cRef; rw [z1, z2]; rfl
        rw [e, if_neg (by decide)] at hR
        subst hR
        refine V_bipush F dX7_swap_81 kb_m16 ?_
        exact V_iret F rfl dX7_swap_83 rfl ⟨rfl, hI1, fun z hz => fr1 z (by omega), rfl⟩
      refine V_aload_n F dX7_swap_32 rfl ?_
      refine V_get F fl_X7_26 dX7_swap_33 (by assumption) rfl ?_
      refine V_iconst F dX7_swap_36 ki_3 ?_
      refine V_iload_n F dX7_swap_37 rfl ?_
      refine V_imul F dX7_swap_38 ?_
      refine V_laldN F dX7_swap_39 (by assumption) (3 * j) (by first | (simp only [pk_mul, nI_add, nI_1, nI_inc]; done) | (simp only [pk_mul, nI_add, nI_1, nI_inc]; rfl) | rfl) (by omega) (by omega) ?_
      rw [m3]
      refine V_isR F is_X7_90 dX7_swap_40 (As := [_]) (c_X7_isBend _) rfl rfl rfl ?_
      refine V_if_ne F 49 dX7_swap_43 (by decide) (fun c43 => ?_) (fun c43 => ?_)
      · rw [bI_n] at c43
        have c43 : bRef (C j 0) = false := by simpa using c43
        refine V_aload_n F dX7_swap_49 rfl ?_
        refine V_get F fl_X7_26 dX7_swap_50 (by assumption) rfl ?_
        refine V_iconst F dX7_swap_53 ki_3 ?_
        refine V_iload_n F dX7_swap_54 rfl ?_
        refine V_imul F dX7_swap_55 ?_
        refine V_iconst F dX7_swap_56 ki_1 ?_
        refine V_iadd F dX7_swap_57 ?_
        refine V_laldN F dX7_swap_58 (by assumption) (3 * j + 1) (by first | (simp only [pk_mul, nI_add, nI_1, nI_inc]; done) | (simp only [pk_mul, nI_add, nI_1, nI_inc]; rfl) | rfl) (by omega) (by omega) ?_
        rw [mc_at (by omega)]
        refine V_isR F is_X7_94 dX7_swap_59 (As := [_]) (c_X7_isPlace _) rfl rfl rfl ?_
        refine V_if_eq F 81 dX7_swap_62 (by decide) (fun c62 => ?_) (fun c62 => ?_)
        · rw [bI_0] at c62
          exact bad16 c43 (by unfold plR; simp at c62; rw [c62]; rfl)
        · rw [bI_n] at c62
          refine V_aload_n F dX7_swap_65 rfl ?_
          refine V_get F fl_X7_26 dX7_swap_66 (by assumption) rfl ?_
          refine V_iconst F dX7_swap_69 ki_3 ?_
          refine V_iload_n F dX7_swap_70 rfl ?_
          refine V_imul F dX7_swap_71 ?_
          refine V_iconst F dX7_swap_72 ki_2 ?_
          refine V_iadd F dX7_swap_73 ?_
          refine V_laldN F dX7_swap_74 (by assumption) (3 * j + 2) (by first | (simp only [pk_mul, nI_add, nI_1, nI_inc]; done) | (simp only [pk_mul, nI_add, nI_1, nI_inc]; rfl) | rfl) (by omega) (by omega) ?_
          rw [mc_at (by omega)]
          refine V_isR F is_X7_94 dX7_swap_75 (As := [_]) (c_X7_isPlace _) rfl rfl rfl ?_
          refine V_if_ne F 84 dX7_swap_78 (by decide) (fun c78 => ?_) (fun c78 => ?_)
          · rw [bI_n] at c78
            have hp : plR C j = false := by unfold plR; simp at c62 c78; rw [c62, c78]; rfl
            have e : cRef C j = 0 := by unfold cRef; rw [c43, hp]; rfl
            rw [if_pos e] at hR
            refine V_aload_n F dX7_swap_84 rfl ?_
            refine V_get F fl_X7_79 dX7_swap_85 (by assumption) rfl ?_
            refine V_bipush F dX7_swap_88 kb_60 ?_
            refine V_icmp_ne F 98 dX7_swap_90 (by decide) (fun c90 => ?_) (fun c90 => ?_)
            · have c90 : sNq s < 60 := by
                have : sNq s ≠ 60 := fun q => c90 (by rw [q])
                omega
              rw [if_pos c90] at hR
              refine V_aload_n F dX7_swap_98 rfl ?_
              refine V_iload_n F dX7_swap_99 rfl ?_
              refine V_ivP F iv_X7_111 dX7_swap_100 (As := [_]) (c_X7_newQuad hI1 e6 c90 (hC e) (nI k) (sQs s k)) O1 rfl rfl rfl rfl ?_
              rintro v M3 n3 ⟨rfl, hI3, hf3, rfl⟩
              subst hR
              exact V_iret F rfl dX7_swap_103 rfl ⟨rfl, hI3, fun z hz => (hf3 z hz).trans (fr1 z (by omega)), rfl⟩
            · have c90 : ¬ sNq s < 60 := by have := (nI_eq (b := 60) (by omega) (by omega)).mp c90; omega
              rw [if_neg c90] at hR
              subst hR
              refine V_bipush F dX7_swap_93 kb_m2 ?_
              refine V_goto F 103 dX7_swap_95 (by decide) ?_
              exact V_iret F rfl dX7_swap_103 rfl ⟨rfl, hI1, fun z hz => fr1 z (by omega), rfl⟩
          · rw [bI_0] at c78
            exact bad16 c43 (by unfold plR; simp at c78; rw [c78]; exact Bool.or_true _)
      · rw [bI_0] at c43
        have c43 : bRef (C j 0) = true := by simpa using c43
        have e : cRef C j = -15 := by unfold cRef; rw [c43]; rfl
        rw [e, if_neg (by decide)] at hR
        subst hR
        refine V_bipush F dX7_swap_46 kb_m15 ?_
        exact V_iret F rfl dX7_swap_48 rfl ⟨rfl, hI1, fun z hz => fr1 z (by omega), rfl⟩
    · rw [bI_0, inL_R (m := 4) (by omega) (by decide)] at c17
      exact bad (Or.inr c17)
theorem c_X7_count (h : InvM G M s lq) (w : Int32) : Con G yX7_count cX7_count 2 (some .int) 0 0 0 [.ref (gB G + 816), .int w] M none (PM G M (S_count s w) s lq) := by
  have hI := h
  obtain ⟨⟨st, pd, gd', hO⟩, hA, hJ, hg⟩ := h
  generalize hR : S_count s w = R
  unfold S_count at hR
  rw [show (1 : Int32) = nI 1 from rfl, show (2 : Int32) = nI 2 from rfl] at hR
  refine Con.of (by decide +kernel) (Nat.le_of_ble_eq_true rfl) (fun X F hnm => ?_)
  show V G X 0 0 _ M _ 0 [some (.ref (gB G + 816)), some (.int w)] []
  refine V_iload_n F dX7_count_0 rfl ?_
  refine V_if_ne F 11 dX7_count_1 (by decide) (fun c1 => ?_) (fun c1 => ?_)
  · rw [if_neg c1] at hR
    refine V_iload_n F dX7_count_11 rfl ?_
    refine V_iconst F dX7_count_12 ki_1 ?_
    refine V_icmp_ne F 23 dX7_count_13 (by decide) (fun c13 => ?_) (fun c13 => ?_)
    · rw [if_neg c13] at hR
      refine V_iload_n F dX7_count_23 rfl ?_
      refine V_iconst F dX7_count_24 ki_2 ?_
      refine V_icmp_ne F 35 dX7_count_25 (by decide) (fun c25 => ?_) (fun c25 => ?_)
      · rw [if_neg c25] at hR
        subst hR
        refine V_iconst F dX7_count_35 ki_m1 ?_
        exact V_iret F rfl dX7_count_36 rfl ⟨rfl, hI, fun _ _ => rfl, rfl⟩
      · rw [if_pos c25] at hR
        subst hR
        refine V_aload_n F dX7_count_28 rfl ?_
        refine V_get F fl_X7_174 dX7_count_29 (by assumption) rfl ?_
        refine V_goto F 36 dX7_count_32 (by decide) ?_
        exact V_iret F rfl dX7_count_36 rfl ⟨rfl, hI, fun _ _ => rfl, rfl⟩
    · rw [if_pos c13] at hR
      subst hR
      refine V_aload_n F dX7_count_16 rfl ?_
      refine V_get F fl_X7_171 dX7_count_17 (by assumption) rfl ?_
      refine V_goto F 36 dX7_count_20 (by decide) ?_
      exact V_iret F rfl dX7_count_36 rfl ⟨rfl, hI, fun _ _ => rfl, rfl⟩
  · rw [if_pos c1] at hR
    subst hR
    refine V_aload_n F dX7_count_4 rfl ?_
    refine V_get F fl_X7_79 dX7_count_5 (by assumption) rfl ?_
    refine V_goto F 36 dX7_count_8 (by decide) ?_
    exact V_iret F rfl dX7_count_36 rfl ⟨rfl, hI, fun _ _ => rfl, rfl⟩
theorem c_X7_listed (h : InvM G M s lq) (i w : Int32) : Con G yX7_listed cX7_listed 3 (some .int) 1 0 0 [.ref (gB G + 816), .int i, .int w] M none (PM G M (S_listed s i w) s lq) := by
  have hI := h
  obtain ⟨⟨st, pd, gd', hO⟩, hA, hJ, hg⟩ := h
  obtain ⟨-, -, -, -, -, ⟨f6, a6, b6⟩⟩ := hA
  have h240 := hg.2.2.1
  generalize hR : S_listed s i w = R
  unfold S_listed at hR
  refine Con.of (by decide +kernel) (Nat.le_of_ble_eq_true rfl) (fun X F hnm => ?_)
  show V G X 0 0 _ M _ 0 [some (.ref (gB G + 816)), some (.int i), some (.int w)] []
  refine V_iload_n F dX7_listed_0 rfl ?_
  refine V_i2l F dX7_listed_1 ?_
  refine V_lconst F dX7_listed_2 (v := 0) (by decide) ?_
  refine V_ldc2 F dX7_listed_3 kl_X7_73 ?_
  refine V_isR F is_X7_63 dX7_listed_6 (As := [_, _, _]) (c_X7_in _ _ _) rfl rfl rfl ?_
  refine V_if_ne F 15 dX7_listed_9 (by decide) (fun c9 => ?_) (fun c9 => ?_)
  · rw [bI_n, inL_R (m := 3) (by omega) (by decide)] at c9
    rw [if_neg (by rw [c9]; decide)] at hR
    have e : (nI (sS s) - nI 1).toInt64.toInt = (sS s : Int) - 1 := by
      rw [Int32.toInt_toInt64, pk_sub_toInt (by omega) (by omega)]
      rfl
    refine V_iload_n F dX7_listed_15 rfl ?_
    refine V_i2l F dX7_listed_16 ?_
    refine V_lconst F dX7_listed_17 (v := 0) (by decide) ?_
    refine V_aload_n F dX7_listed_18 rfl ?_
    refine V_get F fl_X7_171 dX7_listed_19 (by assumption) rfl ?_
    refine V_iconst F dX7_listed_22 ki_1 ?_
    refine V_isub F dX7_listed_23 ?_
    refine V_i2l F dX7_listed_24 ?_
    refine V_isR F is_X7_63 dX7_listed_25 (As := [_, _, _]) (c_X7_in _ _ _) rfl rfl rfl ?_
    refine V_if_eq F 44 dX7_listed_28 (by decide) (fun c28 => ?_) (fun c28 => ?_)
    · rw [bI_0, inL_R (m := sS s) (by omega) e] at c28
      rw [if_neg (by rw [c28]; decide)] at hR
      subst hR
      refine V_ldc F dX7_listed_44 kc_X7_177 ?_
      exact V_iret F rfl dX7_listed_46 rfl ⟨rfl, hI, fun _ _ => rfl, rfl⟩
    · rw [bI_n, inL_R (m := sS s) (by omega) e] at c28
      rw [if_pos c28] at hR
      obtain ⟨k, hk, rfl⟩ := inR_t (by omega) c28
      obtain ⟨v, hv, rfl⟩ := inR_t (by omega) c9
      rw [ix_nI (by omega), ix_nI (by omega)] at hR
      refine V_aload_n F dX7_listed_31 rfl ?_
      refine V_get F fl_X7_36 dX7_listed_32 (by assumption) rfl ?_
      refine V_iconst F dX7_listed_35 ki_3 ?_
      refine V_iload_n F dX7_listed_36 rfl ?_
      refine V_imul F dX7_listed_37 ?_
      refine V_iload_n F dX7_listed_38 rfl ?_
      refine V_iadd F dX7_listed_39 ?_
      refine V_ialdN F dX7_listed_40 (by assumption) (3 * k + v) (by first | (simp only [pk_mul, nI_add, nI_1, nI_inc]; done) | (simp only [pk_mul, nI_add, nI_1, nI_inc]; rfl) | rfl) (by omega) (by omega) ?_
      rw [b6 k v hk hv]
      subst hR
      refine V_goto F 46 dX7_listed_41 (by decide) ?_
      exact V_iret F rfl dX7_listed_46 rfl ⟨rfl, hI, fun _ _ => rfl, rfl⟩
  · rw [bI_0, inL_R (m := 3) (by omega) (by decide)] at c9
    rw [if_pos c9] at hR
    subst hR
    refine V_ldc F dX7_listed_12 kc_X7_131 ?_
    exact V_iret F rfl dX7_listed_14 rfl ⟨rfl, hI, fun _ _ => rfl, rfl⟩
theorem c_X7_find {n : Option Nat} (h : InvM G M s lq) (b : Int32) : Con G yX7_find cX7_find 4 (some .int) 0 0 0 [.ref (gB G + 816), .int b] M n (R1 (some (.int (S_find s b))) M n) := by
  have hI := h
  obtain ⟨⟨st, pd, gd', hO⟩, hA, hJ, hg⟩ := h
  obtain ⟨-, -, -, -, -, ⟨f6, a6, b6⟩⟩ := hA
  have h240 := hg.2.2.1
  have hin := hg.2.2.2.2.2
  refine Con.of (by decide +kernel) (Nat.le_of_ble_eq_true rfl) (fun X F hnm => ?_)
  show V G X 0 0 _ M _ 0 [some (.ref (gB G + 816)), some (.int b), none, none] []
  have loop : ∀ m k : Nat, m + k = sS s → V G X 0 0 (BQ G X (R1 (some (.int (S_find s b))) M n) 0 0) M n 4 [some (.ref (gB G + 816)), some (.int b), some (.int (nI (fnd (sLst s) b k))), some (.int (nI k))] [] := by
    intro m
    induction m with
    | zero =>
      intro k hk
      have hk : k = sS s := by omega
      subst hk
      refine V_iload_n F dX7_find_4 rfl ?_
      refine V_aload_n F dX7_find_5 rfl ?_
      refine V_get F fl_X7_171 dX7_find_6 (by assumption) rfl ?_
      refine V_icmp_ge F 38 dX7_find_9 (by decide) (fun c9 => ?_) (fun c9 => absurd (nI_le (Nat.le_refl _) (by omega)) c9)
      refine V_iload_n F dX7_find_38 rfl ?_
      exact V_iret F rfl dX7_find_39 rfl ⟨rfl, rfl, rfl⟩
    | succ m ih =>
      intro k hk
      have hle := fnd_le (sLst s) b k
      have ih := ih (k + 1) (by omega)
      rw [show fnd (sLst s) b (k + 1) = fnd (sLst s) b k + if sLst s k 0 = b.toInt64 then 1 else 0 from rfl] at ih
      have h0 := hin k 0 (by omega) (by omega)
      have b0 : f6 (3 * k) = (sLst s k 0).toInt32 := b6 k 0 (by omega) (by omega)
      refine V_iload_n F dX7_find_4 rfl ?_
      refine V_aload_n F dX7_find_5 rfl ?_
      refine V_get F fl_X7_171 dX7_find_6 (by assumption) rfl ?_
      refine V_icmp_ge F 38 dX7_find_9 (by decide) (fun c9 => absurd c9 (nI_ge (by omega) (by omega))) (fun c9 => ?_)
      refine V_iload_n F dX7_find_12 rfl ?_
      refine V_aload_n F dX7_find_13 rfl ?_
      refine V_get F fl_X7_36 dX7_find_14 (by assumption) rfl ?_
      refine V_iconst F dX7_find_17 ki_3 ?_
      refine V_iload_n F dX7_find_18 rfl ?_
      refine V_imul F dX7_find_19 ?_
      refine V_ialdN F dX7_find_20 (by assumption) (3 * k) (by first | (simp only [pk_mul, nI_add, nI_1, nI_inc]; done) | (simp only [pk_mul, nI_add, nI_1, nI_inc]; rfl) | rfl) (by omega) (by omega) ?_
      rw [b0]
      refine V_iload_n F dX7_find_21 rfl ?_
      refine V_icmp_ne F 29 dX7_find_22 (by decide) (fun c22 => ?_) (fun c22 => ?_)
      · rw [if_neg (fun z => c22 (by rw [z, Int32.toInt32_toInt64]))] at ih
        refine V_iconst F dX7_find_29 ki_0 ?_
        refine V_iadd F dX7_find_30 ?_
        rw [nI_add]
        refine V_istore_n F dX7_find_31 (Nat.le_of_ble_eq_true rfl) ?_
        show V _ _ _ _ _ _ _ _ [_, _, _, _] _
        refine V_iinc1 F dX7_find_32 rfl ?_
        show V _ _ _ _ _ _ _ _ [_, _, _, _] _
        refine V_goto F 4 dX7_find_35 (by decide) ?_
        exact ih
      · rw [if_pos (by rw [← h0, c22])] at ih
        refine V_iconst F dX7_find_25 ki_1 ?_
        refine V_goto F 30 dX7_find_26 (by decide) ?_
        refine V_iadd F dX7_find_30 ?_
        rw [nI_add]
        refine V_istore_n F dX7_find_31 (Nat.le_of_ble_eq_true rfl) ?_
        show V _ _ _ _ _ _ _ _ [_, _, _, _] _
        refine V_iinc1 F dX7_find_32 rfl ?_
        show V _ _ _ _ _ _ _ _ [_, _, _, _] _
        refine V_goto F 4 dX7_find_35 (by decide) ?_
        exact ih
  refine V_iconst F dX7_find_0 ki_0 ?_
  refine V_istore_n F dX7_find_1 (Nat.le_of_ble_eq_true rfl) ?_
  show V _ _ _ _ _ _ _ _ [_, _, _, _] _
  refine V_iconst F dX7_find_2 ki_0 ?_
  refine V_istore_n F dX7_find_3 (Nat.le_of_ble_eq_true rfl) ?_
  show V _ _ _ _ _ _ _ _ [_, _, _, _] _
  exact loop (sS s) 0 (by omega)
end MOD9
