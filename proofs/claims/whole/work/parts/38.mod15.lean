theorem mo_in {k : Int32} : inL k.toInt64 1 2000 = true ↔ ¬ (k < nI 1 ∨ nI 2000 < k) := by
  unfold inL
  simp only [Bool.and_eq_true, decide_eq_true_eq]
  rw [Int64.le_iff_toInt_le, Int64.le_iff_toInt_le, Int32.lt_iff_toInt_lt, Int32.lt_iff_toInt_lt, Int32.toInt_toInt64, nI_toInt (by omega), nI_toInt (by omega), show (1 : Int64).toInt = 1 by decide, show (2000 : Int64).toInt = 2000 by decide]
  omega
def S_listM (s : Sg) (q mo : Int32) (r : St) : Int32 × Sg := if inR q (sNq s) = false ∨ mo < nI 1 ∨ nI 2000 < mo then (-1, s) else CLres s q mo r
def lqM (s : Sg) (q mo : Int32) (r : St) (lq : Int32) : Int32 := if inR q (sNq s) = false ∨ mo < nI 1 ∨ nI 2000 < mo then lq else if r.1 = false then lq else q
theorem InvM.ds {G : GP} {M M1 M2 : Mem} {s : Sg} {lq st : Int32} {r : St} (h : InvM G M s lq) (f : ∀ z, z ≠ gB G + 816 → z ≠ gB G + 822 → z ≠ gB G + 823 → M1 z = M z) (f3 : ∃ g, M1 (gB G + 823) = some (eI (gT G) 1000 g)) (f6 : ∃ g, M2 (gB G + 822) = some (eJ (gT G) 12 g)) (d : DS G M1 M2 (nI (sNq s)) st (nI (sS s)) (nI (sMo s)) lq r) : InvM G M2 s lq := by
  obtain ⟨-, hA, hJ, hg⟩ := h
  obtain ⟨d1, ⟨g, d2, -⟩, ⟨p, pb, d4, d5, -⟩, d7, d8, d9⟩ := d
  have e : ∀ z, z ≠ gB G + 816 → z ≠ gB G + 822 → z ≠ gB G + 823 → z ≠ gB G + 827 → z ≠ gB G + 828 → z ≠ gB G + 829 → M2 z = M z := fun z h1 h2 h3 h4 h5 h6 => (d9 z h1 h2 h4 h5 h6).trans (f z h1 h2 h3)
  refine ⟨⟨_, _, _, d1⟩, hA.frame (fun i hi => e _ (by omega) (by omega) (by omega) (by omega) (by omega) (by omega)), ⟨fun i hi => ?_, fun i hi => ?_⟩, hg⟩
  · by_cases q2 : i = 822
    · subst q2; exact f6
    · by_cases q7 : i = 827
      · subst q7; exact ⟨p, d4⟩
      · by_cases q9 : i = 829
        · subst q9; exact ⟨g, d2⟩
        · obtain ⟨f', hf⟩ := hJ.1 i hi
          have := jl_c hi
          exact ⟨f', (e _ (by omega) (by omega) (by omega) (by omega) (by omega) (by omega)).trans hf⟩
  · by_cases q3 : i = 823
    · subst q3
      obtain ⟨g3, h3⟩ := f3
      exact ⟨g3, (d9 _ (by omega) (by omega) (by omega) (by omega) (by omega)).trans h3⟩
    · by_cases q8 : i = 828
      · subst q8; exact ⟨pb, d5⟩
      · obtain ⟨f', hf⟩ := hJ.2 i hi
        have := il_c hi
        exact ⟨f', (e _ (by omega) (by omega) (by omega) (by omega) (by omega) (by omega)).trans hf⟩
section MOD15
variable {G : GP} {M : Mem} {s : Sg} {lq : Int32}
theorem c_X7_list (h : InvM G M s lq) (hst : stOk s) (q mo : Int32) {m : Nat} {lst : Nat → Nat → Int64} {r : St} (H : inR q (sNq s) = true → ¬ (mo < nI 1 ∨ nI 2000 < mo) → mgth m (rootq s (ix q)) mo lst = some r ∧ (r.1 = true → ∀ k w, k < r.2.1 → w < 3 → (r.2.2.1 k w).toInt32.toInt64 = r.2.2.1 k w)) : Con G yX7_list cX7_list 4 (some .int) 4 0 0 [.ref (gB G + 816), .int q, .int mo] M none (PM G M (S_listM s q mo r).1 (S_listM s q mo r).2 (lqM s q mo r lq)) := by
  have hI := h
  obtain ⟨⟨st, pd, gd', hO⟩, hA, hJ, hg⟩ := h
  obtain ⟨a1, a2, a3, a4, ⟨f5, a5, b5⟩, ⟨f9, a9, b9⟩⟩ := hA
  obtain ⟨f6, a6⟩ := hJ.1 822 (by decide)
  obtain ⟨f7, a7⟩ := hJ.2 823 (by decide)
  obtain ⟨p, a8⟩ := hJ.1 827 (by decide)
  obtain ⟨pb, a10⟩ := hJ.2 828 (by decide)
  obtain ⟨g, a11⟩ := hJ.1 829 (by decide)
  have h60 := hg.2.1
  have hin := hg.2.2.2.2.1
  refine Con.of (by decide +kernel) (Nat.le_of_ble_eq_true rfl) (fun X F hnm => ?_)
  show V G X 0 0 _ M _ 0 [some (.ref (gB G + 816)), some (.int q), some (.int mo), none] []
  generalize hQ : BQ G X _ 0 0 = Q
  have bad : (inR q (sNq s) = false ∨ mo < nI 1 ∨ nI 2000 < mo) → V G X 0 0 Q M none 20 [some (.ref (gB G + 816)), some (.int q), some (.int mo), none] [] := by
    intro z
    have e1 : S_listM s q mo r = (-1, s) := by unfold S_listM; rw [if_pos z]
    have e2 : lqM s q mo r lq = lq := by unfold lqM; rw [if_pos z]
    rw [e1, e2] at hQ
    subst hQ
    refine V_iconst F dX7_list_20 ki_m1 ?_
    exact V_iret F rfl dX7_list_21 rfl ⟨rfl, hI, fun _ _ => rfl, rfl⟩
  refine V_aload_n F dX7_list_0 rfl ?_
  refine V_iload_n F dX7_list_1 rfl ?_
  refine V_ivR F iv_X7_115 dX7_list_2 (As := [_]) (c_X7_isQuad h60 hO _) (by assumption) rfl rfl rfl rfl ?_
  refine V_if_eq F 20 dX7_list_5 (by decide) (fun c5 => ?_) (fun c5 => ?_)
  · rw [bI_0] at c5
    exact bad (Or.inl c5)
  · rw [bI_n] at c5
    refine V_iload_n F dX7_list_8 rfl ?_
    refine V_i2l F dX7_list_9 ?_
    refine V_lconst F dX7_list_10 (v := 1) (by decide) ?_
    refine V_ldc2 F dX7_list_11 kl_X7_166 ?_
    refine V_isR F is_X7_63 dX7_list_14 (As := [_, _, _]) (c_X7_in _ _ _) rfl rfl rfl ?_
    refine V_if_ne F 22 dX7_list_17 (by decide) (fun c17 => ?_) (fun c17 => ?_)
    · rw [bI_n] at c17
      have cm := mo_in.mp c17
      have hno : ¬ (inR q (sNq s) = false ∨ mo < nI 1 ∨ nI 2000 < mo) := fun z => by
        rcases z with z | z
        · rw [c5] at z; cases z
        · exact cm z
      obtain ⟨hr, hrange⟩ := H c5 cm
      obtain ⟨k, hk, rfl⟩ := inR_t (by omega) c5
      have hmo : ∃ m, m ≤ 2000 ∧ mo = nI m := by
        refine nI_of2 (M := nI 2000) (nI_toInt (by omega)) (fun z => cm (Or.inl ?_)) (Int32.not_lt.mp (fun z => cm (Or.inr z)))
        rw [Int32.lt_iff_toInt_lt] at z ⊢
        rw [nI_toInt (by omega)]
        have : (0 : Int32).toInt = 0 := by decide
        omega
      obtain ⟨mm, hmm, rfl⟩ := hmo
      rw [ix_nI (by omega)] at hr
      have hs := hst k hk
      have e1 : S_listM s (nI k) (nI mm) r = if r.1 = false then (-4, s) else (nI r.2.1, ulist s r.2.2.1 r.2.1 mm (sQs s k)) := by unfold S_listM CLres; rw [if_neg hno, ix_nI (by omega), ix_nI (by omega)]
      have e2 : lqM s (nI k) (nI mm) r lq = if r.1 = false then lq else nI k := by unfold lqM; rw [if_neg hno]
      rw [e1, e2] at hQ
      refine V_aload_n F dX7_list_22 rfl ?_
      refine V_iload_n F dX7_list_23 rfl ?_
      refine V_ivP F iv_X7_138 dX7_list_24 (As := [_]) (c_X7_goDown (m := 100000) hO a5 a6 a7 (by omega) (fun j w hj hw => b5 k j w hk hj hw) (hin k hk) (by decide) (by omega)) (by assumption) rfl rfl rfl rfl ?_
      rintro v1 M1 n1 ⟨rfl, w, rfl⟩
      obtain ⟨w1, w2, ⟨f', w3, -⟩, w4⟩ := w
      refine V_aload_n F dX7_list_27 rfl ?_
      refine V_iload_n F dX7_list_28 rfl ?_
      refine V_ivP F iv_X7_168 dX7_list_29 (As := [_]) (c_X7_gathers w1 w2 ((w4 _ (by omega) (by omega) (by omega)).trans a8) ((w4 _ (by omega) (by omega) (by omega)).trans a10) ((w4 _ (by omega) (by omega) (by omega)).trans a11) (nI mm) hr) w1 rfl rfl rfl rfl ?_
      rintro v2 M2 n2 ⟨rfl, ⟨y6, ds⟩, rfl⟩
      have I2 := hI.ds w4 ⟨_, w3⟩ y6 ds
      obtain ⟨d1, ⟨g2, d2, d3⟩, -, d7, d8, d9⟩ := ds
      have fr : ∀ z, z < gB G + 816 → M2 z = M z := fun z hz => (d9 z (by omega) (by omega) (by omega) (by omega) (by omega)).trans (w4 z (by omega) (by omega) (by omega))
      refine V_if_ne F 38 dX7_list_32 (by decide) (fun c32 => ?_) (fun c32 => ?_)
      · rw [bI_n] at c32
        rw [if_neg (by rw [c32]; decide), if_neg (by rw [c32]; decide)] at hQ
        obtain ⟨-, ⟨q1, q2, q3, q4, q5, ⟨f10, q6, -⟩⟩, J2, g2ok⟩ := I2
        have rr : ∀ z, z < 3 * r.2.1 → g2 z = r.2.2.1 (z / 3) (z % 3) := fun z hz => by
          rw [← d3 (z / 3) (z % 3) (by omega) (by omega)]
          congr 1
          omega
        have loop : ∀ t z : Nat, t + z = 3 * r.2.1 → ∀ f : Nat → Int32, (∀ j, j < z → f j = (g2 j).toInt32) → V G X 0 0 Q (mset M2 (gB G + 824) (eI (gT G) 720 f)) none 40 [some (.ref (gB G + 816)), some (.int (nI k)), some (.int (nI mm)), some (.int (nI z))] [] := by
          intro t
          induction t with
          | zero =>
            intro z hz f hf
            have hz : z = 3 * r.2.1 := by omega
            subst hz
            have O1 := (mset_ne M2 (b := gB G + 816) (eI (gT G) 720 f) (show gB G + 816 ≠ gB G + 824 by omega)).trans d1
            refine V_iload_n F dX7_list_40 rfl ?_
            refine V_iconst F dX7_list_41 ki_3 ?_
            refine V_aload_n F dX7_list_42 rfl ?_
            refine V_get F fl_X7_144 dX7_list_43 O1 rfl ?_
            refine V_imul F dX7_list_46 ?_
            rw [pk_mul]
            refine V_icmp_ge F 69 dX7_list_47 (by decide) (fun c47 => ?_) (fun c47 => absurd (nI_le (Nat.le_refl _) (by omega)) c47)
            refine V_aload_n F dX7_list_69 rfl ?_
            refine V_aload_n F dX7_list_70 rfl ?_
            refine V_get F fl_X7_144 dX7_list_71 O1 rfl ?_
            refine V_put F fl_X7_171 dX7_list_74 O1 rfl rfl (Nat.le_of_ble_eq_true rfl) ?_
            refine V_aload_n F dX7_list_77 rfl ?_
            refine V_iload_n F dX7_list_78 rfl ?_
            refine V_put F fl_X7_174 dX7_list_79 (mset_eq _ _ _) rfl rfl (Nat.le_of_ble_eq_true rfl) ?_
            refine V_aload_n F dX7_list_82 rfl ?_
            refine V_iload_n F dX7_list_83 rfl ?_
            refine V_put F fl_X7_32 dX7_list_84 (mset_eq _ _ _) rfl rfl (Nat.le_of_ble_eq_true rfl) ?_
            refine V_aload_n F dX7_list_87 rfl ?_
            refine V_get F fl_X7_171 dX7_list_88 (mset_eq _ _ _) rfl ?_
            subst hQ
            refine V_iret F rfl dX7_list_91 rfl ⟨rfl, ⟨⟨nI (gd 100000 (sQc s k)).1, nI r.2.2.2.length, nI r.2.1, ?obj⟩, ?arr, ?junk, ?good⟩, fun z hz => ?frame, rfl⟩
            case obj => exact mset_eq _ _ _
            case arr =>
              have e : ∀ i, i ≠ 816 → i ≠ 824 → M2 (gB G + i) = M2 (gB G + i) := fun _ _ _ => rfl
              obtain ⟨f1, u1, v1⟩ := q1
              obtain ⟨f2, u2, v2⟩ := q2
              obtain ⟨f3, u3, v3⟩ := q3
              obtain ⟨f4, u4, v4⟩ := q4
              obtain ⟨f5', u5, v5⟩ := q5
              refine ⟨⟨f1, ?_, v1⟩, ⟨f2, ?_, v2⟩, ⟨f3, ?_, v3⟩, ⟨f4, ?_, v4⟩, ⟨f5', ?_, v5⟩, ⟨f, ?_, fun k w hk hw => ?_⟩⟩
              · rw [mset_ne _ _ (by omega), mset_ne _ _ (by omega), mset_ne _ _ (by omega), mset_ne _ _ (by omega)]; exact u1
              · rw [mset_ne _ _ (by omega), mset_ne _ _ (by omega), mset_ne _ _ (by omega), mset_ne _ _ (by omega)]; exact u2
              · rw [mset_ne _ _ (by omega), mset_ne _ _ (by omega), mset_ne _ _ (by omega), mset_ne _ _ (by omega)]; exact u3
              · rw [mset_ne _ _ (by omega), mset_ne _ _ (by omega), mset_ne _ _ (by omega), mset_ne _ _ (by omega)]; exact u4
              · rw [mset_ne _ _ (by omega), mset_ne _ _ (by omega), mset_ne _ _ (by omega), mset_ne _ _ (by omega)]; exact u5
              · rw [mset_ne _ _ (by omega), mset_ne _ _ (by omega), mset_ne _ _ (by omega), mset_eq]
              · have hk : k < r.2.1 := hk
                show f (3 * k + w) = (r.2.2.1 k w).toInt32
                rw [hf _ (by omega), d3 k w hk hw]
            case junk =>
              refine J2.frame (fun i hi => ?_)
              have hi' : i ≠ 816 ∧ i ≠ 824 := by
                rcases hi with hi | hi
                · have := jl_c hi; omega
                · have := il_c hi; omega
              rw [mset_ne _ _ (by omega), mset_ne _ _ (by omega), mset_ne _ _ (by omega), mset_ne _ _ (by omega)]
            case good =>
              obtain ⟨o1, o2, o3, o4, o5, o6⟩ := g2ok
              exact ⟨o1, o2, d7, hmm, o5, hrange c32⟩
            case frame =>
              rw [mset_ne _ _ (by omega), mset_ne _ _ (by omega), mset_ne _ _ (by omega), mset_ne _ _ (by omega)]
              exact fr z hz
          | succ t ih =>
            intro z hz f hf
            have O1 := (mset_ne M2 (b := gB G + 816) (eI (gT G) 720 f) (show gB G + 816 ≠ gB G + 824 by omega)).trans d1
            refine V_iload_n F dX7_list_40 rfl ?_
            refine V_iconst F dX7_list_41 ki_3 ?_
            refine V_aload_n F dX7_list_42 rfl ?_
            refine V_get F fl_X7_144 dX7_list_43 O1 rfl ?_
            refine V_imul F dX7_list_46 ?_
            rw [pk_mul]
            refine V_icmp_ge F 69 dX7_list_47 (by decide) (fun c47 => absurd c47 (nI_ge (by omega) (by omega))) (fun c47 => ?_)
            refine V_aload_n F dX7_list_50 rfl ?_
            refine V_get F fl_X7_36 dX7_list_51 O1 rfl ?_
            refine V_iload_n F dX7_list_54 rfl ?_
            refine V_aload_n F dX7_list_55 rfl ?_
            refine V_get F fl_X7_51 dX7_list_56 O1 rfl ?_
            refine V_iload_n F dX7_list_59 rfl ?_
            refine V_laldN F dX7_list_60 ((mset_ne _ _ (by omega)).trans d2) z rfl (by omega) (by omega) ?_
            refine V_l2i F dX7_list_61 ?_
            refine V_iastN F dX7_list_62 (mset_eq _ _ _) z rfl (by omega) (by omega) ?_
            rw [mset_mset]
            refine V_iinc1 F dX7_list_63 rfl ?_
            show V _ _ _ _ _ _ _ _ [_, _, _, _] _
            refine V_goto F 40 dX7_list_66 (by decide) ?_
            refine ih (z + 1) (by omega) _ (fun j hj => ?_)
            unfold va_up
            by_cases q1 : j = z
            · rw [if_pos q1, q1]
            · rw [if_neg q1]; exact hf j (by omega)
        refine V_iconst F dX7_list_38 ki_0 ?_
        refine V_istore_n F dX7_list_39 (Nat.le_of_ble_eq_true rfl) ?_
        show V _ _ _ _ _ _ _ _ [_, _, _, _] _
        have := loop (3 * r.2.1) 0 (by omega) f10 (fun j hj => by omega)
        rw [mset_self q6] at this
        exact this
      · rw [bI_0] at c32
        rw [if_pos c32, if_pos c32] at hQ
        subst hQ
        refine V_bipush F dX7_list_35 kb_m4 ?_
        exact V_iret F rfl dX7_list_37 rfl ⟨rfl, I2, fr, rfl⟩
    · rw [bI_0] at c17
      have : mo < nI 1 ∨ nI 2000 < mo := by
        by_cases z : mo < nI 1 ∨ nI 2000 < mo
        · exact z
        · rw [mo_in.mpr z] at c17; cases c17
      exact bad (Or.inr this)
end MOD15
