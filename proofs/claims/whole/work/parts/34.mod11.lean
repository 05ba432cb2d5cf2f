section MOD11
variable {G : GP} {M : Mem} {n : Option Nat} {s : Sg} {nq st lm lmo lq pd gd' : Int32} {c : Qd}
theorem c_X7_layBends {f : Nat → Int64} (hO : M (gB G + 816) = some (objM G nq st lm lmo lq pd gd')) (h6 : M (gB G + 822) = some (eJ (gT G) 12 (mc c))) (hb : M (gB G + 826) = some (eJ (gT G) 4 f)) : Con G yX7_layBends cX7_layBends 3 none 0 0 0 [.ref (gB G + 816)] M n (R1 none (mset M (gB G + 826) (eJ (gT G) 4 (lay c f 4))) n) := by
  have m3 : ∀ z, mc c (3 * z) = c z 0 := fun z => mc_at (c := c) (i := z) (w := 0) (by omega)
  refine Con.of (by decide +kernel) (Nat.le_of_ble_eq_true rfl) (fun X F hnm => ?_)
  show V G X 0 0 _ M _ 0 [some (.ref (gB G + 816)), none, none] []
  generalize hQ : BQ G X _ 0 0 = Q
  have O1 : ∀ E, mset M (gB G + 826) (eJ (gT G) 4 E) (gB G + 816) = _ := fun E => (mset_ne _ _ (by omega)).trans hO
  have F1 : ∀ E, mset M (gB G + 826) (eJ (gT G) 4 E) (gB G + 822) = _ := fun E => (mset_ne _ _ (by omega)).trans h6
  have B1 : ∀ E, mset M (gB G + 826) (eJ (gT G) 4 E) (gB G + 826) = _ := fun E => mset_eq _ _ _
  have fin : ∀ i k E, i < 4 → k ≤ i → V G X 0 0 Q (mset M (gB G + 826) (eJ (gT G) 4 (va_up E k (c i 0)))) n 2 [some (.ref (gB G + 816)), some (.int (nI (i + 1))), none] [] → V G X 0 0 Q (mset M (gB G + 826) (eJ (gT G) 4 E)) n 53 [some (.ref (gB G + 816)), some (.int (nI i)), some (.int (nI k))] [] := by
    intro i k E hi hk kk
    refine V_aload_n F dX7_layBends_53 rfl ?_
    refine V_get F fl_X7_42 dX7_layBends_54 (O1 E) rfl ?_
    refine V_iload_n F dX7_layBends_57 rfl ?_
    refine V_aload_n F dX7_layBends_58 rfl ?_
    refine V_get F fl_X7_26 dX7_layBends_59 (O1 E) rfl ?_
    refine V_iconst F dX7_layBends_62 ki_3 ?_
    refine V_iload_n F dX7_layBends_63 rfl ?_
    refine V_imul F dX7_layBends_64 ?_
    refine V_laldN F dX7_layBends_65 (F1 E) (3 * i) (by first | (simp only [pk_mul, nI_add, nI_1, nI_inc]; done) | (simp only [pk_mul, nI_add, nI_1, nI_inc]; rfl) | rfl) (by omega) (by omega) ?_
    rw [m3]
    refine V_lastN F dX7_layBends_66 (B1 E) k rfl (by omega) (by omega) ?_
    rw [mset_mset]
    refine V_iinc1 F dX7_layBends_67 rfl ?_
    show V _ _ _ _ _ _ _ _ [_, _, _] _
    refine V_goto F 2 dX7_layBends_70 (by decide) ?_
    exact V_drop 2 kk
  have inner : ∀ i k E, i < 4 → k ≤ i → V G X 0 0 Q (mset M (gB G + 826) (eJ (gT G) 4 (insb E (c i 0) k))) n 2 [some (.ref (gB G + 816)), some (.int (nI (i + 1))), none] [] → V G X 0 0 Q (mset M (gB G + 826) (eJ (gT G) 4 E)) n 9 [some (.ref (gB G + 816)), some (.int (nI i)), some (.int (nI k))] [] := by
    intro i k
    induction k with
    | zero =>
      intro E hi hk kk
      refine V_iload_n F dX7_layBends_9 rfl ?_
      refine V_if_le F 53 dX7_layBends_10 (by decide) (fun c10 => ?_) (fun c10 => absurd (by decide) c10)
      exact fin i 0 E hi hk kk
    | succ k ih =>
      intro E hi hk kk
      have hpos : ¬ nI (k + 1) ≤ 0 := fun z => by have := (nI_leI (b := 0) (by omega) (by omega)).mp z; omega
      refine V_iload_n F dX7_layBends_9 rfl ?_
      refine V_if_le F 53 dX7_layBends_10 (by decide) (fun c10 => absurd c10 hpos) (fun c10 => ?_)
      refine V_aload_n F dX7_layBends_13 rfl ?_
      refine V_get F fl_X7_42 dX7_layBends_14 (O1 E) rfl ?_
      refine V_iload_n F dX7_layBends_17 rfl ?_
      refine V_iconst F dX7_layBends_18 ki_1 ?_
      refine V_isub F dX7_layBends_19 ?_
      rw [pk_sub (by omega), Nat.add_sub_cancel]
      refine V_laldN F dX7_layBends_20 (B1 E) k rfl (by omega) (by omega) ?_
      refine V_aload_n F dX7_layBends_21 rfl ?_
      refine V_get F fl_X7_26 dX7_layBends_22 (O1 E) rfl ?_
      refine V_iconst F dX7_layBends_25 ki_3 ?_
      refine V_iload_n F dX7_layBends_26 rfl ?_
      refine V_imul F dX7_layBends_27 ?_
      refine V_laldN F dX7_layBends_28 (F1 E) (3 * i) (by first | (simp only [pk_mul, nI_add, nI_1, nI_inc]; done) | (simp only [pk_mul, nI_add, nI_1, nI_inc]; rfl) | rfl) (by omega) (by omega) ?_
      rw [m3]
      refine V_lcmp F dX7_layBends_29 ?_
      refine V_if_le F 53 dX7_layBends_30 (by decide) (fun c30 => ?_) (fun c30 => ?_)
      · rw [lcmp_le] at c30
        rw [show insb E (c i 0) (k + 1) = va_up E (k + 1) (c i 0) by unfold insb; rw [if_neg (Int64.not_lt.mpr c30)]] at kk
        exact fin i (k + 1) E hi hk kk
      · rw [lcmp_le] at c30
        rw [show insb E (c i 0) (k + 1) = insb (va_up E (k + 1) (E k)) (c i 0) k by rw [show insb E (c i 0) (k + 1) = (if c i 0 < E k then insb (va_up E (k + 1) (E k)) (c i 0) k else va_up E (k + 1) (c i 0)) from rfl, if_pos (Int64.not_le.mp c30)]] at kk
        refine V_aload_n F dX7_layBends_33 rfl ?_
        refine V_get F fl_X7_42 dX7_layBends_34 (O1 E) rfl ?_
        refine V_iload_n F dX7_layBends_37 rfl ?_
        refine V_aload_n F dX7_layBends_38 rfl ?_
        refine V_get F fl_X7_42 dX7_layBends_39 (O1 E) rfl ?_
        refine V_iload_n F dX7_layBends_42 rfl ?_
        refine V_iconst F dX7_layBends_43 ki_1 ?_
        refine V_isub F dX7_layBends_44 ?_
        rw [pk_sub (by omega), Nat.add_sub_cancel]
        refine V_laldN F dX7_layBends_45 (B1 E) k rfl (by omega) (by omega) ?_
        refine V_lastN F dX7_layBends_46 (B1 E) (k + 1) rfl (by omega) (by omega) ?_
        rw [mset_mset]
        refine V_iincm F dX7_layBends_47 rfl ?_
        show V _ _ _ _ _ _ _ _ [_, _, _] _
        refine V_goto F 9 dX7_layBends_50 (by decide) ?_
        exact ih _ hi (by omega) kk
  have outer : ∀ i, i < 4 → V G X 0 0 Q (mset M (gB G + 826) (eJ (gT G) 4 (lay c f (i + 1)))) n 2 [some (.ref (gB G + 816)), some (.int (nI (i + 1))), none] [] → V G X 0 0 Q (mset M (gB G + 826) (eJ (gT G) 4 (lay c f i))) n 2 [some (.ref (gB G + 816)), some (.int (nI i)), none] [] := by
    intro i hi kk
    refine V_iload_n F dX7_layBends_2 rfl ?_
    refine V_iconst F dX7_layBends_3 ki_4 ?_
    refine V_icmp_ge F 73 dX7_layBends_4 (by decide) (fun c4 => absurd c4 (nI_ge hi (by omega))) (fun c4 => ?_)
    refine V_iload_n F dX7_layBends_7 rfl ?_
    refine V_istore_n F dX7_layBends_8 (Nat.le_of_ble_eq_true rfl) ?_
    show V _ _ _ _ _ _ _ _ [_, _, _] _
    exact inner i i _ hi (Nat.le_refl _) kk
  refine V_iconst F dX7_layBends_0 ki_0 ?_
  refine V_istore_n F dX7_layBends_1 (Nat.le_of_ble_eq_true rfl) ?_
  show V _ _ _ _ _ _ _ _ [_, _, _] _
  have := outer 0 (by omega) (outer 1 (by omega) (outer 2 (by omega) (outer 3 (by omega) ?_)))
  · rw [show lay c f 0 = f from rfl, mset_self hb] at this
    exact this
  · subst hQ
    refine V_iload_n F dX7_layBends_2 rfl ?_
    refine V_iconst F dX7_layBends_3 ki_4 ?_
    refine V_icmp_ge F 73 dX7_layBends_4 (by decide) (fun c4 => ?_) (fun c4 => absurd (by decide) c4)
    exact V_vret F rfl dX7_layBends_73 ⟨rfl, rfl, rfl⟩
theorem c_X7_same (h : InvM G M s lq) (hst : stOk s) (q r : Int32) : Con G yX7_same cX7_same 11 (some .int) 3 0 0 [.ref (gB G + 816), .int q, .int r] M none (PM G M (S_same s q r) s lq) := by
  have hI := h
  obtain ⟨⟨st, pd, gd', hO⟩, hA, hJ, hg⟩ := h
  obtain ⟨-, -, -, -, ⟨f5, a5, b5⟩, -⟩ := hA
  obtain ⟨f6, a6⟩ := hJ.1 822 (by decide)
  obtain ⟨f7, a7⟩ := hJ.2 823 (by decide)
  obtain ⟨f8, a8⟩ := hJ.1 826 (by decide)
  have h60 := hg.2.1
  have hin := hg.2.2.2.2.1
  generalize hR : S_same s q r = R
  unfold S_same at hR
  refine Con.of (by decide +kernel) (Nat.le_of_ble_eq_true rfl) (fun X F hnm => ?_)
  show V G X 0 0 _ M _ 0 [some (.ref (gB G + 816)), some (.int q), some (.int r), none, none, none, none, none, none, none, none] []
  generalize hQ : BQ G X _ 0 0 = Q
  have bad : (inR q (sNq s) = false ∨ inR r (sNq s) = false) → V G X 0 0 Q M none 16 [some (.ref (gB G + 816)), some (.int q), some (.int r), none, none, none, none, none, none, none, none] [] := by
    intro z
    rw [if_pos z] at hR
    subst hR hQ
    refine V_iconst F dX7_same_16 ki_m1 ?_
    exact V_iret F rfl dX7_same_17 rfl ⟨rfl, hI, fun _ _ => rfl, rfl⟩
  refine V_aload_n F dX7_same_0 rfl ?_
  refine V_iload_n F dX7_same_1 rfl ?_
  refine V_ivR F iv_X7_115 dX7_same_2 (As := [_]) (c_X7_isQuad h60 hO _) (by assumption) rfl rfl rfl rfl ?_
  refine V_if_eq F 16 dX7_same_5 (by decide) (fun c5 => ?_) (fun c5 => ?_)
  · rw [bI_0] at c5
    exact bad (Or.inl c5)
  · rw [bI_n] at c5
    refine V_aload_n F dX7_same_8 rfl ?_
    refine V_iload_n F dX7_same_9 rfl ?_
    refine V_ivR F iv_X7_115 dX7_same_10 (As := [_]) (c_X7_isQuad h60 hO _) (by assumption) rfl rfl rfl rfl ?_
    refine V_if_ne F 18 dX7_same_13 (by decide) (fun c13 => ?_) (fun c13 => ?_)
    · rw [bI_n] at c13
      rw [if_neg (fun z => by
          rcases z with z | z
          · rw [c5] at z; cases z
          · rw [c13] at z; cases z)] at hR
      obtain ⟨k, hk, rfl⟩ := inR_t (by omega) c5
      obtain ⟨l, hl, rfl⟩ := inR_t (by omega) c13
      rw [ix_nI (by omega), ix_nI (by omega)] at hR
      have s1 := hst k hk
      have s2 := hst l hl
      refine V_aload_n F dX7_same_18 rfl ?_
      refine V_iload_n F dX7_same_19 rfl ?_
      refine V_ivP F iv_X7_138 dX7_same_20 (As := [_]) (c_X7_goDown (m := 100000) hO a5 a6 a7 (by omega) (fun j w hj hw => b5 k j w hk hj hw) (hin k hk) (by decide) (by omega)) (by assumption) rfl rfl rfl rfl ?_
      rintro v1 M1 n1 ⟨rfl, w, rfl⟩
      have I1 := hI.went w
      obtain ⟨w1, w2, ⟨f', w3, -⟩, w4⟩ := w
      generalize (gd 100000 (sQc s k)).2 = C at hR w2
      have e8 := (w4 (gB G + 826) (by omega) (by omega) (by omega)).trans a8
      refine V_aload_n F dX7_same_23 rfl ?_
      refine V_ivR F iv_X7_141 dX7_same_24 (As := []) (c_X7_layBends w1 w2 e8) w1 rfl rfl rfl rfl ?_
      refine V_aload_n F dX7_same_27 rfl ?_
      refine V_get F fl_X7_42 dX7_same_28 ((mset_ne _ _ (by omega)).trans w1) rfl ?_
      refine V_iconst F dX7_same_31 ki_0 ?_
      have I2 := I1.setJ 826 (n := 4) rfl (by omega) (lay C f8 4)
      have fr : ∀ z, z ≠ gB G + 816 → z ≠ gB G + 822 → z ≠ gB G + 823 → z ≠ gB G + 826 → mset M1 (gB G + 826) (eJ (gT G) 4 (lay C f8 4)) z = M z := fun z h1 h2 h3 h4 => by rw [mset_ne _ _ h4, w4 z h1 h2 h3]
      have O2 : mset M1 (gB G + 826) (eJ (gT G) 4 (lay C f8 4)) (gB G + 816) = _ := (mset_ne _ _ (by omega)).trans w1
      have B2 := mset_eq M1 (gB G + 826) (eJ (gT G) 4 (lay C f8 4))
      have W2 : mset M1 (gB G + 826) (eJ (gT G) 4 (lay C f8 4)) (gB G + 822) = _ := (mset_ne _ _ (by omega)).trans w2
      have W3 : mset M1 (gB G + 826) (eJ (gT G) 4 (lay C f8 4)) (gB G + 823) = _ := (mset_ne _ _ (by omega)).trans w3
      generalize mset M1 (gB G + 826) (eJ (gT G) 4 (lay C f8 4)) = M2 at I2 fr O2 B2 W2 W3 ⊢
      refine V_laldN F dX7_same_32 B2 0 rfl (by omega) (by omega) ?_
      refine V_lstore_n F dX7_same_33 (Nat.le_of_ble_eq_true rfl) ?_
      show V _ _ _ _ _ _ _ _ [_, _, _, _, _, _, _, _, _, _, _] _
      refine V_aload_n F dX7_same_34 rfl ?_
      refine V_get F fl_X7_42 dX7_same_35 (by assumption) rfl ?_
      refine V_iconst F dX7_same_38 ki_1 ?_
      refine V_laldN F dX7_same_39 B2 1 rfl (by omega) (by omega) ?_
      refine V_lstore F dX7_same_40 (Nat.le_of_ble_eq_true rfl) ?_
      show V _ _ _ _ _ _ _ _ [_, _, _, _, _, _, _, _, _, _, _] _
      refine V_aload_n F dX7_same_42 rfl ?_
      refine V_get F fl_X7_42 dX7_same_43 (by assumption) rfl ?_
      refine V_iconst F dX7_same_46 ki_2 ?_
      refine V_laldN F dX7_same_47 B2 2 rfl (by omega) (by omega) ?_
      refine V_lstore F dX7_same_48 (Nat.le_of_ble_eq_true rfl) ?_
      show V _ _ _ _ _ _ _ _ [_, _, _, _, _, _, _, _, _, _, _] _
      refine V_aload_n F dX7_same_50 rfl ?_
      refine V_get F fl_X7_42 dX7_same_51 (by assumption) rfl ?_
      refine V_iconst F dX7_same_54 ki_3 ?_
      refine V_laldN F dX7_same_55 B2 3 rfl (by omega) (by omega) ?_
      refine V_lstore F dX7_same_56 (Nat.le_of_ble_eq_true rfl) ?_
      show V _ _ _ _ _ _ _ _ [_, _, _, _, _, _, _, _, _, _, _] _
      refine V_aload_n F dX7_same_58 rfl ?_
      refine V_iload_n F dX7_same_59 rfl ?_
      refine V_ivP F iv_X7_138 dX7_same_60 (As := [_]) (c_X7_goDown (m := 100000) O2 ((fr _ (by omega) (by omega) (by omega) (by omega)).trans a5) W2 W3 (by omega) (fun j w hj hw => b5 l j w hl hj hw) (hin l hl) (by decide) (by omega)) O2 rfl rfl rfl rfl ?_
      rintro v3 M3 n3 ⟨rfl, w, rfl⟩
      have I3 := I2.went w
      obtain ⟨x1, x2, ⟨f'', x3, -⟩, x4⟩ := w
      generalize (gd 100000 (sQc s l)).2 = D at hR x2
      have e9 := (x4 (gB G + 826) (by omega) (by omega) (by omega)).trans B2
      generalize hFE : lay C f8 4 = FE at e9 ⊢
      refine V_aload_n F dX7_same_63 rfl ?_
      refine V_ivR F iv_X7_141 dX7_same_64 (As := []) (c_X7_layBends x1 x2 e9) x1 rfl rfl rfl rfl ?_
      have I4 := I3.setJ 826 (n := 4) rfl (by omega) (lay D FE 4)
      have fr4 : ∀ z, z < gB G + 816 → mset M3 (gB G + 826) (eJ (gT G) 4 (lay D FE 4)) z = M z := fun z hz => by rw [mset_ne _ _ (by omega), x4 z (by omega) (by omega) (by omega), fr z (by omega) (by omega) (by omega) (by omega)]
      have O4 : mset M3 (gB G + 826) (eJ (gT G) 4 (lay D FE 4)) (gB G + 816) = _ := (mset_ne _ _ (by omega)).trans x1
      have B4 := mset_eq M3 (gB G + 826) (eJ (gT G) 4 (lay D FE 4))
      generalize mset M3 (gB G + 826) (eJ (gT G) 4 (lay D FE 4)) = M4 at I4 fr4 O4 B4 ⊢
      have key := hbo_iff C D f8 FE
      rw [hFE] at key
      have no : ∀ j, j < 4 → ¬ FE j = lay D FE 4 j → V G X 0 0 Q M4 none 118 [some (.ref (gB G + 816)), some (.int (nI k)), some (.int (nI l)), some (.long (FE 0)), none, some (.long (FE 1)), none, some (.long (FE 2)), none, some (.long (FE 3)), none] [] := by
        intro j hj hne
        have : hbo C D 4 = false := by
          cases e : hbo C D 4 with
          | false => rfl
          | true => exact absurd (key.mp e j hj) hne
        rw [this] at hR
        subst hR hQ
        refine V_iconst F dX7_same_118 ki_0 ?_
        exact V_iret F rfl dX7_same_119 rfl ⟨rfl, I4, fr4, rfl⟩
      refine V_lload_n F dX7_same_67 rfl ?_
      refine V_aload_n F dX7_same_68 rfl ?_
      refine V_get F fl_X7_42 dX7_same_69 O4 rfl ?_
      refine V_iconst F dX7_same_72 ki_0 ?_
      refine V_laldN F dX7_same_73 B4 0 rfl (by omega) (by omega) ?_
      refine V_lcmp F dX7_same_74 ?_
      refine V_if_ne F 118 dX7_same_75 (by decide) (fun c75 => ?_) (fun c75 => ?_)
      · rw [lcmp_eq] at c75
        exact no 0 (by omega) c75
      · rw [lcmp_eq] at c75
        refine V_lload F dX7_same_78 rfl ?_
        refine V_aload_n F dX7_same_80 rfl ?_
        refine V_get F fl_X7_42 dX7_same_81 O4 rfl ?_
        refine V_iconst F dX7_same_84 ki_1 ?_
        refine V_laldN F dX7_same_85 B4 1 rfl (by omega) (by omega) ?_
        refine V_lcmp F dX7_same_86 ?_
        refine V_if_ne F 118 dX7_same_87 (by decide) (fun c87 => ?_) (fun c87 => ?_)
        · rw [lcmp_eq] at c87
          exact no 1 (by omega) c87
        · rw [lcmp_eq] at c87
          refine V_lload F dX7_same_90 rfl ?_
          refine V_aload_n F dX7_same_92 rfl ?_
          refine V_get F fl_X7_42 dX7_same_93 O4 rfl ?_
          refine V_iconst F dX7_same_96 ki_2 ?_
          refine V_laldN F dX7_same_97 B4 2 rfl (by omega) (by omega) ?_
          refine V_lcmp F dX7_same_98 ?_
          refine V_if_ne F 118 dX7_same_99 (by decide) (fun c99 => ?_) (fun c99 => ?_)
          · rw [lcmp_eq] at c99
            exact no 2 (by omega) c99
          · rw [lcmp_eq] at c99
            refine V_lload F dX7_same_102 rfl ?_
            refine V_aload_n F dX7_same_104 rfl ?_
            refine V_get F fl_X7_42 dX7_same_105 O4 rfl ?_
            refine V_iconst F dX7_same_108 ki_3 ?_
            refine V_laldN F dX7_same_109 B4 3 rfl (by omega) (by omega) ?_
            refine V_lcmp F dX7_same_110 ?_
            refine V_if_ne F 118 dX7_same_111 (by decide) (fun c111 => ?_) (fun c111 => ?_)
            · rw [lcmp_eq] at c111
              exact no 3 (by omega) c111
            · rw [lcmp_eq] at c111
              have : hbo C D 4 = true := key.mpr (fun j hj => by
                have hj' : j = 0 ∨ j = 1 ∨ j = 2 ∨ j = 3 := by omega
                rcases hj' with rfl | rfl | rfl | rfl <;> assumption)
              rw [this] at hR
              subst hR hQ
              refine V_iconst F dX7_same_114 ki_1 ?_
              refine V_goto F 119 dX7_same_115 (by decide) ?_
              exact V_iret F rfl dX7_same_119 rfl ⟨rfl, I4, fr4, rfl⟩
    · rw [bI_0] at c13
      exact bad (Or.inr c13)
end MOD11
