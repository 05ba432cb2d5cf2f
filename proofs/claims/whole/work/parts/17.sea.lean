abbrev St : Type := Bool × Nat × (Nat → Nat → Int64) × Wt
theorem isLst.frame {G : GP} {M M' : Mem} {a ro : Nat} {r : Nat → Nat} {lst : Nat → Nat → Int64} {S : Nat} {mo se : Int32} (h : isLst G M a ro r lst S mo se) (e1 : M' a = M a) (e2 : M' ro = M ro) (e3 : ∀ w, w < 3 → M' (r w) = M (r w)) : isLst G M' a ro r lst S mo se := by
  obtain ⟨l0, ⟨g, l1, l2⟩, l3⟩ := h
  exact ⟨e1.trans l0, ⟨g, e2.trans l1, l2⟩, fun w hw => (e3 w hw).trans (l3 w hw)⟩
theorem isSea.frame {G : GP} {M M' : Mem} {a pw pb nx rn : Nat} {aw rw : Nat → Nat} {ws : Wt} (h : isSea G M a pw pb nx rn aw rw ws) (e1 : M' a = M a) (e2 : M' pw = M pw) (e3 : M' pb = M pb) (e4 : M' nx = M nx) (e5 : ∃ c, M' rn = some (eJ (gT G) 12 (fc c))) (e6 : ∀ k, k < 241 → M' (aw k) = M (aw k) ∧ M' (rw k) = M (rw k)) : isSea G M' a pw pb nx rn aw rw ws := by
  obtain ⟨h0, ⟨g, h1, h2⟩, ⟨bk, h3, h4⟩, h5, ⟨cn, h6⟩, h7, h8⟩ := h
  exact ⟨e1.trans h0, ⟨g, e2.trans h1, h2⟩, ⟨bk, e3.trans h3, h4⟩, e4.trans h5, e5, fun k hk => ⟨(e6 k hk).1.trans (h7 k hk).1, by
    obtain ⟨-, cc, w, w'⟩ := h7 k hk
    exact ⟨cc, (e6 k hk).2.trans w, w'⟩⟩, h8⟩
def lstA (G : GP) (la : Nat) (M : Mem) (lst : Nat → Nat → Int64) (S : Nat) (mo se : Int32) : Prop := isLst G M (gB G + la) (gB G + la + 1) (fun w => gB G + la + 2 + w) lst S mo se
def seaA (G : GP) (M : Mem) (ws : Wt) : Prop := isSea G M (gB G + 7) (gB G + 8) (gB G + 9) (gB G + 10) (gB G + 11) (fun k => gB G + 12 + 2 * k) (fun k => gB G + 13 + 2 * k) ws
theorem lstA.frame {G : GP} {la : Nat} {M M' : Mem} {lst : Nat → Nat → Int64} {S : Nat} {mo se : Int32} (h : lstA G la M lst S mo se) (e : ∀ z, gB G + la ≤ z → z < gB G + la + 5 → M' z = M z) : lstA G la M' lst S mo se := isLst.frame h (e _ (by omega) (by omega)) (e _ (by omega) (by omega)) (fun w hw => e _ (by omega) (by omega))
theorem seaA.frame {G : GP} {M M' : Mem} {ws : Wt} (h : seaA G M ws) (e : ∀ z, gB G + 7 ≤ z → z < gB G + 494 → M' z = M z) : seaA G M' ws := isSea.frame h (e _ (by omega) (by omega)) (e _ (by omega) (by omega)) (e _ (by omega) (by omega)) (e _ (by omega) (by omega)) (by rw [e _ (by omega) (by omega)]; exact h.2.2.2.2.1) (fun k hk => ⟨e _ (by omega) (by omega), e _ (by omega) (by omega)⟩)
theorem seaA.next {G : GP} {M : Mem} {ws : Wt} {c : Qd} (h : seaA G M ws) : seaA G (mset M (gB G + 11) (eJ (gT G) 12 (fc c))) ws := isSea.frame h (mset_ne _ _ (by omega)) (mset_ne _ _ (by omega)) (mset_ne _ _ (by omega)) (mset_ne _ _ (by omega)) ⟨c, mset_eq _ _ _⟩ (fun k hk => ⟨mset_ne _ _ (by omega), mset_ne _ _ (by omega)⟩)
theorem ent_S {lst : Nat → Nat → Int64} {S : Nat} {c : Qd} {i : Nat} (h : S ≤ 240) : (ent lst S c i).2.1 ≤ 240 := by
  unfold ent
  split
  · split
    · exact h
    · split
      · exact h
      · show S + 1 ≤ 240; omega
  · exact h
def sw1 (u : Qd) (bk mo : Int32) (i : Nat) (s : St) : St :=
  if s.1 = false then s else if nI i = bk then s else if mo.toInt64 < trn u i 0 then s else
  if (ent s.2.2.1 s.2.1 (turnc u i) i).1 = false then (false, (ent s.2.2.1 s.2.1 (turnc u i) i).2.1, (ent s.2.2.1 s.2.1 (turnc u i) i).2.2, s.2.2.2)
  else if s.2.2.2.length < 241 then (true, (ent s.2.2.1 s.2.1 (turnc u i) i).2.1, (ent s.2.2.1 s.2.1 (turnc u i) i).2.2, s.2.2.2 ++ [(turnc u i, nI i)])
  else (false, (ent s.2.2.1 s.2.1 (turnc u i) i).2.1, (ent s.2.2.1 s.2.1 (turnc u i) i).2.2, s.2.2.2)
def sw4 (u : Qd) (bk mo : Int32) (s : St) : St := sw1 u bk mo 3 (sw1 u bk mo 2 (sw1 u bk mo 1 (sw1 u bk mo 0 s)))
theorem sw1_f {u : Qd} {bk mo : Int32} {i : Nat} {s : St} (h : s.1 = false) : sw1 u bk mo i s = s := by unfold sw1; rw [if_pos h]
theorem sw1_pre {u : Qd} {bk mo : Int32} {i : Nat} {s : St} {k : Nat} (h : k < s.2.2.2.length) : (sw1 u bk mo i s).2.2.2[k]? = s.2.2.2[k]? ∧ k < (sw1 u bk mo i s).2.2.2.length := by
  unfold sw1
  split
  · exact ⟨rfl, h⟩
  · split
    · exact ⟨rfl, h⟩
    · split
      · exact ⟨rfl, h⟩
      · split
        · exact ⟨rfl, h⟩
        · split
          · exact ⟨List.getElem?_append_left h, by simp; omega⟩
          · exact ⟨rfl, h⟩
/-- the machine's memory holds the search's state s -/
def SS (G : GP) (la : Nat) (mo se : Int32) (M0 M : Mem) (s : St) : Prop := seaA G M s.2.2.2 ∧ lstA G la M s.2.2.1 s.2.1 mo se ∧ s.2.1 ≤ 240 ∧ ∀ z, (z < gB G + 7 ∨ gB G + 494 ≤ z) → (z < gB G + la ∨ gB G + la + 5 ≤ z) → M z = M0 z
section SEA2
variable {G : GP} {M : Mem} {la : Nat} {mo se : Int32} {b q : Nat} {c : Qd}
theorem c_enterA {lst : Nat → Nat → Int64} {S : Nat} (hl : lstA G la M lst S mo se) (hS : S ≤ 240) (h0 : M b = some (eO 1 [.ref q])) (h1 : M q = some (eJ (gT G) 12 (fc c))) {i : Nat} (hi : i < 4) : Con G yX2_enter cX2_enter 5 (some .boolean) 3 0 0 [.ref (gB G + la), .ref b, .int (nI i)] M none (fun v M' n' => v = some (.int (bI (ent lst S c i).1)) ∧ lstA G la M' (ent lst S c i).2.2 (ent lst S c i).2.1 mo se ∧ (∀ z, (z < gB G + la ∨ gB G + la + 5 ≤ z) → M' z = M z) ∧ n' = none) := by
  refine (c_X2_enter hl hS (fun w v _ _ e => by omega) h0 h1 hi).imp ?_
  rintro v M' n' ⟨e1, e2, e3, e4⟩
  exact ⟨e1, e2, fun z hz => e3 z (by omega) (fun w hw => by omega), e4⟩
theorem c_addW {ws : Wt} (hs : seaA G M ws) (hb : M b = some (eO 1 [.ref q])) (hq : M q = some (eJ (gT G) 12 (fc c))) (hqw : ∀ k, k < 241 → q ≠ gB G + 13 + 2 * k) (s : Int32) : Con G yX3_addWaiting cX3_addWaiting 3 (some .boolean) 2 0 0 [.ref (gB G + 7), .ref b, .int s] M none (fun v M' n' => v = some (.int (bI (decide (ws.length < 241)))) ∧ (ws.length < 241 → seaA G M' (ws ++ [(c, s)])) ∧ (¬ ws.length < 241 → seaA G M' ws) ∧ (∀ z, (z < gB G + 7 ∨ gB G + 494 ≤ z) → M' z = M z) ∧ n' = none) := by
  refine (c_X3_addWaiting hs ⟨fun k j _ _ e => by have e : gB G + 13 + 2 * k = gB G + 13 + 2 * j := e; omega, fun k _ => by show gB G + 13 + 2 * k ≠ gB G + 11; omega⟩ hb hq hqw s).imp ?_
  rintro v M' n' ⟨e1, e2, e3, e4, e5⟩
  exact ⟨e1, e2, e3, fun z hz => e4 z (by omega) (by omega) (fun k hk => by omega), e5⟩
theorem c_X3_swapEachWay (hla : la = 494 ∨ la = 499) {M0 : Mem} {s0 : St} (h : SS G la mo se M0 M s0) (hok : s0.1 = true) {k : Nat} {u : Qd} {bk : Int32} (hk : s0.2.2.2[k]? = some (u, bk)) : Con G yX3_swapEachWay cX3_swapEachWay 4 (some .boolean) 4 0 0 [.ref (gB G + 7), .int (nI k), .ref (gB G + la)] M none (fun v M' n' => v = some (.int (bI (sw4 u bk mo s0).1)) ∧ SS G la mo se M0 M' (sw4 u bk mo s0) ∧ n' = none) := by
  generalize hF : sw4 u bk mo s0 = fin
  refine Con.of (by decide +kernel) (Nat.le_of_ble_eq_true rfl) (fun X F hnm => ?_)
  show V G X 0 0 _ M _ 0 [some (.ref (gB G + 7)), some (.int (nI k)), some (.ref (gB G + la)), none] []
  generalize hQ : BQ G X _ 0 0 = Q
  have hkl := (List.getElem?_eq_some_iff.mp hk).1
  have k241 : k < 241 := by have := h.1.2.2.2.2.2.2; omega
  have step : ∀ (i : Nat) (s : St) (M : Mem), i < 4 → s.1 = true → SS G la mo se M0 M s → s.2.2.2[k]? = some (u, bk) → ((sw1 u bk mo i s).1 = false → fin = sw1 u bk mo i s) → (∀ M', (sw1 u bk mo i s).1 = true → SS G la mo se M0 M' (sw1 u bk mo i s) → V G X 0 0 Q M' none 2 [some (.ref (gB G + 7)), some (.int (nI k)), some (.ref (gB G + la)), some (.int (nI (i + 1)))] []) → V G X 0 0 Q M none 2 [some (.ref (gB G + 7)), some (.int (nI k)), some (.ref (gB G + la)), some (.int (nI i))] [] := by
    intro i s M hi hok hs hsk kf kk
    have hs0 := hs
    obtain ⟨hsea, hlst, hS, hfr⟩ := hs
    have hsea0 := hsea
    obtain ⟨h0, ⟨g, h1, h2⟩, ⟨bb, h3, h4⟩, h5, ⟨cn, h6⟩, h7, h8⟩ := hsea
    obtain ⟨w1, cw, w2, w3⟩ := h7 k k241
    have hcw : cw = u := w3 _ hsk
    subst hcw
    have hbk : bb k = bk := h4 k _ hsk
    have hnok : ¬ s.1 = false := by rw [hok]; decide
    unfold sw1 at kf kk
    rw [if_neg hnok] at kf kk
    refine V_iload_n F dX3_swapEachWay_2 rfl ?_
    refine V_iconst F dX3_swapEachWay_3 ki_4 ?_
    refine V_icmp_ge F 93 dX3_swapEachWay_4 (by decide) (fun c4 => absurd c4 (nI_ge hi (by omega))) (fun c4 => ?_)
    refine V_iload_n F dX3_swapEachWay_7 rfl ?_
    refine V_aload_n F dX3_swapEachWay_8 rfl ?_
    refine V_get F fl_X3_17 dX3_swapEachWay_9 (by assumption) rfl ?_
    refine V_iload_n F dX3_swapEachWay_12 rfl ?_
    refine V_ialdN F dX3_swapEachWay_13 (by assumption) _ (by first | (simp only [pk_mul, nI_add, nI_1, nI_inc]; done) | (simp only [pk_mul, nI_add, nI_1, nI_inc]; rfl) | rfl) (by omega) (by omega) ?_
    rw [hbk]
    refine V_icmp_eq F 87 dX3_swapEachWay_14 (by decide) (fun c14 => ?_) (fun c14 => ?_)
    · rw [if_pos c14] at kk
      refine V_iinc1 F dX3_swapEachWay_87 rfl ?_
      show V _ _ _ _ _ _ _ _ [_, _, _, _] _
      refine V_goto F 2 dX3_swapEachWay_90 (by decide) ?_
      exact kk M hok hs0
    · rw [if_neg c14] at kf kk
      refine V_aload_n F dX3_swapEachWay_17 rfl ?_
      refine V_get F fl_X3_13 dX3_swapEachWay_18 (by assumption) rfl ?_
      refine V_iload_n F dX3_swapEachWay_21 rfl ?_
      refine V_aaldN F 4 dX3_swapEachWay_22 (by assumption) rfl rfl _ (by first | (simp only [pk_mul, nI_add, nI_1, nI_inc]; done) | (simp only [pk_mul, nI_add, nI_1, nI_inc]; rfl) | rfl) (by omega) (by omega) (h2 k k241) ?_
      refine V_iload_n F dX3_swapEachWay_23 rfl ?_
      refine V_iconst F dX3_swapEachWay_24 ki_0 ?_
      refine V_ivR F iv_X3_54 dX3_swapEachWay_25 (As := [_, _]) (c_X1_turned w1 w2 hi (w := 0) (by omega)) (by assumption) rfl rfl rfl rfl ?_
      refine V_aload_n F dX3_swapEachWay_28 rfl ?_
      refine V_get F fl_X3_34 dX3_swapEachWay_29 hlst.1 rfl ?_
      refine V_i2l F dX3_swapEachWay_32 ?_
      refine V_lcmp F dX3_swapEachWay_33 ?_
      refine V_if_le F 40 dX3_swapEachWay_34 (by decide) (fun c34 => ?_) (fun c34 => ?_)
      · rw [lcmp_le] at c34
        rw [if_neg (by rw [Int64.not_lt]; exact c34)] at kf kk
        refine V_aload_n F dX3_swapEachWay_40 rfl ?_
        refine V_get F fl_X3_22 dX3_swapEachWay_41 (by assumption) rfl ?_
        refine V_aload_n F dX3_swapEachWay_44 rfl ?_
        refine V_get F fl_X3_13 dX3_swapEachWay_45 (by assumption) rfl ?_
        refine V_iload_n F dX3_swapEachWay_48 rfl ?_
        refine V_aaldN F 4 dX3_swapEachWay_49 (by assumption) rfl rfl _ (by first | (simp only [pk_mul, nI_add, nI_1, nI_inc]; done) | (simp only [pk_mul, nI_add, nI_1, nI_inc]; rfl) | rfl) (by omega) (by omega) (h2 k k241) ?_
        refine V_ivR F iv_X3_58 dX3_swapEachWay_50 (As := [_]) (c_X1_take h5 h6 w1 w2) (by assumption) rfl rfl rfl rfl ?_
        have hsea1 := seaA.next (c := cw) hsea0
        refine V_aload_n F dX3_swapEachWay_53 rfl ?_
        refine V_get F fl_X3_22 dX3_swapEachWay_54 hsea1.1 rfl ?_
        refine V_iload_n F dX3_swapEachWay_57 rfl ?_
        refine V_ivR F iv_X3_62 dX3_swapEachWay_58 (As := [_]) (c_X1_turn hsea1.2.2.2.1 (mset_eq _ _ _) hi) hsea1.2.2.2.1 rfl rfl rfl rfl ?_
        rw [mset_mset]
        have hsea2 := seaA.next (c := turnc cw i) hsea0
        have hlst2 : lstA G la (mset M (gB G + 11) (eJ (gT G) 12 (fc (turnc cw i)))) s.2.2.1 s.2.1 mo se := hlst.frame (fun z z1 z2 => mset_ne _ _ (by omega))
        refine V_aload_n F dX3_swapEachWay_61 rfl ?_
        refine V_aload_n F dX3_swapEachWay_62 rfl ?_
        refine V_get F fl_X3_22 dX3_swapEachWay_63 hsea2.1 rfl ?_
        refine V_iload_n F dX3_swapEachWay_66 rfl ?_
        refine V_ivP F iv_X3_39 dX3_swapEachWay_67 (As := [_, _]) (c_enterA hlst2 hS hsea2.2.2.2.1 (mset_eq _ _ _) hi) hlst2.1 rfl rfl rfl rfl ?_
        rintro v M3 n3 ⟨rfl, hl3, hf3, rfl⟩
        have hS3 := ent_S (lst := s.2.2.1) (S := s.2.1) (c := turnc cw i) (i := i) hS
        generalize ent s.2.2.1 s.2.1 (turnc cw i) i = E at hl3 kf kk hS3 ⊢
        have hsea3 : seaA G M3 s.2.2.2 := hsea2.frame (fun z z1 z2 => hf3 z (by omega))
        have e3 : M3 (gB G + 11) = some (eJ (gT G) 12 (fc (turnc cw i))) := (hf3 _ (by omega)).trans (mset_eq _ _ _)
        have fr3 : ∀ z, (z < gB G + 7 ∨ gB G + 494 ≤ z) → (z < gB G + la ∨ gB G + la + 5 ≤ z) → M3 z = M0 z := fun z z1 z2 => ((hf3 z z2).trans (mset_ne _ _ (by omega))).trans (hfr z z1 z2)
        refine V_if_eq F 85 dX3_swapEachWay_70 (by decide) (fun c70 => ?_) (fun c70 => ?_)
        · rw [bI_0] at c70
          rw [if_pos c70] at kf
          have := kf rfl
          subst hQ
          refine V_iconst F dX3_swapEachWay_85 ki_0 ?_
          exact V_iret F rfl dX3_swapEachWay_86 rfl ⟨rf (by rw [this]), by rw [this]; exact ⟨hsea3, hl3, hS3, fr3⟩, rfl⟩
        · rw [bI_n] at c70
          have c70' : ¬ E.1 = false := by rw [c70]; decide
          rw [if_neg c70'] at kf kk
          refine V_aload_n F dX3_swapEachWay_73 rfl ?_
          refine V_aload_n F dX3_swapEachWay_74 rfl ?_
          refine V_get F fl_X3_22 dX3_swapEachWay_75 hsea3.1 rfl ?_
          refine V_iload_n F dX3_swapEachWay_78 rfl ?_
          refine V_ivP F iv_X3_47 dX3_swapEachWay_79 (As := [_, _]) (c_addW hsea3 hsea3.2.2.2.1 e3 (fun k hk => by omega) _) hsea3.1 rfl rfl rfl rfl ?_
          rintro v M4 n4 ⟨rfl, ha4, hb4, hf4, rfl⟩
          have hl4 : lstA G la M4 E.2.2 E.2.1 mo se := hl3.frame (fun z z1 z2 => hf4 z (by omega))
          have fr4 : ∀ z, (z < gB G + 7 ∨ gB G + 494 ≤ z) → (z < gB G + la ∨ gB G + la + 5 ≤ z) → M4 z = M0 z := fun z z1 z2 => (hf4 z z1).trans (fr3 z z1 z2)
          refine V_if_ne F 87 dX3_swapEachWay_82 (by decide) (fun c82 => ?_) (fun c82 => ?_)
          · rw [bI_n, decide_eq_true_eq] at c82
            rw [if_pos c82] at kk
            refine V_iinc1 F dX3_swapEachWay_87 rfl ?_
            show V _ _ _ _ _ _ _ _ [_, _, _, _] _
            refine V_goto F 2 dX3_swapEachWay_90 (by decide) ?_
            exact kk M4 rfl ⟨ha4 c82, hl4, hS3, fr4⟩
          · rw [bI_0, decide_eq_false_iff_not] at c82
            rw [if_neg c82] at kf
            have := kf rfl
            subst hQ
            refine V_iconst F dX3_swapEachWay_85 ki_0 ?_
            exact V_iret F rfl dX3_swapEachWay_86 rfl ⟨rf (by rw [this]), by rw [this]; exact ⟨hb4 c82, hl4, hS3, fr4⟩, rfl⟩
      · rw [lcmp_le] at c34
        rw [if_pos (Int64.not_le.mp c34)] at kk
        refine V_goto F 87 dX3_swapEachWay_37 (by decide) ?_
        refine V_iinc1 F dX3_swapEachWay_87 rfl ?_
        show V _ _ _ _ _ _ _ _ [_, _, _, _] _
        refine V_goto F 2 dX3_swapEachWay_90 (by decide) ?_
        exact kk M hok hs0
  have fp : ∀ {i s}, sw1 u bk mo i s = sw1 u bk mo i s := rfl
  refine V_iconst F dX3_swapEachWay_0 ki_0 ?_
  refine V_istore_n F dX3_swapEachWay_1 (Nat.le_of_ble_eq_true rfl) ?_
  show V _ _ _ _ _ _ _ _ [_, _, _, _] _
  unfold sw4 at hF
  refine step 0 s0 M (by omega) hok h hk (fun z => by rw [← hF, sw1_f (i := 1) z, sw1_f (i := 2) z, sw1_f (i := 3) z]) (fun M1 q1 p1 => ?_)
  have g1 := sw1_pre (u := u) (bk := bk) (mo := mo) (i := 0) hkl
  refine step 1 _ M1 (by omega) q1 p1 (g1.1.trans hk) (fun z => by rw [← hF, sw1_f (i := 2) z, sw1_f (i := 3) z]) (fun M2 q2 p2 => ?_)
  have g2 := sw1_pre (u := u) (bk := bk) (mo := mo) (i := 1) g1.2
  refine step 2 _ M2 (by omega) q2 p2 (g2.1.trans (g1.1.trans hk)) (fun z => by rw [← hF, sw1_f (i := 3) z]) (fun M3 q3 p3 => ?_)
  have g3 := sw1_pre (u := u) (bk := bk) (mo := mo) (i := 2) g2.2
  refine step 3 _ M3 (by omega) q3 p3 (g3.1.trans (g2.1.trans (g1.1.trans hk))) (fun z => hF.symm) (fun M4 q4 p4 => ?_)
  rw [hF] at q4 p4
  subst hQ
  refine V_iload_n F dX3_swapEachWay_2 rfl ?_
  refine V_iconst F dX3_swapEachWay_3 ki_4 ?_
  refine V_icmp_ge F 93 dX3_swapEachWay_4 (by decide) (fun c4 => ?_) (fun c4 => absurd (by decide) c4)
  refine V_iconst F dX3_swapEachWay_93 ki_1 ?_
  exact V_iret F rfl dX3_swapEachWay_94 rfl ⟨rt q4, p4, rfl⟩
end SEA2
