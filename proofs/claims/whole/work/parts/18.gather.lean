def g1 (c : Qd) (mo : Int32) (i : Nat) (s : St) : St := if s.1 = false then s else if mo.toInt64 < c i 0 then s else ((ent s.2.2.1 s.2.1 c i).1, (ent s.2.2.1 s.2.1 c i).2.1, (ent s.2.2.1 s.2.1 c i).2.2, s.2.2.2)
def glp (mo : Int32) : Nat → Nat → St → St
  | 0, _, s => s
  | m + 1, n, s => if s.1 = false then s else match s.2.2.2[n]? with
    | none => s
    | some x => glp mo m (n + 1) (sw4 x.1 x.2 mo s)
def g4 (c : Qd) (mo : Int32) (s : St) : St := g1 c mo 3 (g1 c mo 2 (g1 c mo 1 (g1 c mo 0 s)))
def ws0 (c : Qd) (mo : Int32) : Wt := if mo.toInt64 < c (grt c) 0 then [] else [(c, -3)]
def gth (c : Qd) (mo : Int32) (lst : Nat → Nat → Int64) (S : Nat) : St :=
  if (g4 c mo (true, S, lst, [])).1 = false then g4 c mo (true, S, lst, []) else glp mo 241 0 (true, (g4 c mo (true, S, lst, [])).2.1, (g4 c mo (true, S, lst, [])).2.2.1, ws0 c mo)
theorem g1_f {c : Qd} {mo : Int32} {i : Nat} {s : St} (h : s.1 = false) : g1 c mo i s = s := by unfold g1; rw [if_pos h]
theorem glp_f {mo : Int32} {m n : Nat} {s : St} (h : s.1 = false) : glp mo m n s = s := by
  cases m with
  | zero => rfl
  | succ m => unfold glp; rw [if_pos h]
theorem g1_ws {c : Qd} {mo : Int32} {i : Nat} {s : St} : (g1 c mo i s).2.2.2 = s.2.2.2 := by
  unfold g1
  split
  · rfl
  · split <;> rfl
section GATHER
variable {G : GP} {M : Mem} {la : Nat} {mo se : Int32} {b q : Nat} {c : Qd}
theorem c_X3_gather (hla : la = 494 ∨ la = 499) {ws : Wt} {lst : Nat → Nat → Int64} {S : Nat} (hsea : seaA G M ws) (hlst : lstA G la M lst S mo se) (hS : S ≤ 240) (hb : M b = some (eO 1 [.ref q])) (hq : M q = some (eJ (gT G) 12 (fc c))) (hb2 : gB G + 516 ≤ b) (hq2 : gB G + 516 ≤ q) : Con G yX3_gather cX3_gather 4 (some .boolean) 5 0 0 [.ref (gB G + 7), .ref b, .ref (gB G + la)] M none (fun v M' n' => v = some (.int (bI (gth c mo lst S).1)) ∧ (∃ ws', seaA G M' ws') ∧ lstA G la M' (gth c mo lst S).2.2.1 (gth c mo lst S).2.1 mo se ∧ (gth c mo lst S).2.1 ≤ 240 ∧ (∀ z, (z < gB G + 7 ∨ gB G + 494 ≤ z) → (z < gB G + la ∨ gB G + la + 5 ≤ z) → M' z = M z) ∧ n' = none) := by
  generalize hF : gth c mo lst S = fin
  refine Con.of (by decide +kernel) (Nat.le_of_ble_eq_true rfl) (fun X F hnm => ?_)
  show V G X 0 0 _ M _ 0 [some (.ref (gB G + 7)), some (.ref b), some (.ref (gB G + la)), none] []
  generalize hQ : BQ G X _ 0 0 = Q
  have step : ∀ (i : Nat) (s : St) (M1 : Mem), i < 4 → s.1 = true → (seaA G M1 ws ∧ lstA G la M1 s.2.2.1 s.2.1 mo se ∧ s.2.1 ≤ 240 ∧ ∀ z, (z < gB G + la ∨ gB G + la + 5 ≤ z) → M1 z = M z) → ((g1 c mo i s).1 = false → fin.1 = false ∧ fin.2.1 = (g1 c mo i s).2.1 ∧ fin.2.2.1 = (g1 c mo i s).2.2.1) → (∀ M', (g1 c mo i s).1 = true → (seaA G M' ws ∧ lstA G la M' (g1 c mo i s).2.2.1 (g1 c mo i s).2.1 mo se ∧ (g1 c mo i s).2.1 ≤ 240 ∧ ∀ z, (z < gB G + la ∨ gB G + la + 5 ≤ z) → M' z = M z) → V G X 0 0 Q M' none 2 [some (.ref (gB G + 7)), some (.ref b), some (.ref (gB G + la)), some (.int (nI (i + 1)))] []) → V G X 0 0 Q M1 none 2 [some (.ref (gB G + 7)), some (.ref b), some (.ref (gB G + la)), some (.int (nI i))] [] := by
    intro i s M1 hi hok hs kf kk
    have hs0 := hs
    obtain ⟨k1, k2, k3, k4⟩ := hs
    have hb1 := (k4 b (by omega)).trans hb
    have hq1 := (k4 q (by omega)).trans hq
    have hnok : ¬ s.1 = false := by rw [hok]; decide
    unfold g1 at kf kk
    rw [if_neg hnok] at kf kk
    refine V_iload_n F dX3_gather_2 rfl ?_
    refine V_iconst F dX3_gather_3 ki_4 ?_
    refine V_icmp_ge F 38 dX3_gather_4 (by decide) (fun c4 => absurd c4 (nI_ge hi (by omega))) (fun c4 => ?_)
    refine V_aload_n F dX3_gather_7 rfl ?_
    refine V_iload_n F dX3_gather_8 rfl ?_
    refine V_ivR F iv_X3_30 dX3_gather_9 (As := [_]) (c_X1_bend hb1 hq1 hi) (by assumption) rfl rfl rfl rfl ?_
    refine V_aload_n F dX3_gather_12 rfl ?_
    refine V_get F fl_X3_34 dX3_gather_13 k2.1 rfl ?_
    refine V_i2l F dX3_gather_16 ?_
    refine V_lcmp F dX3_gather_17 ?_
    refine V_if_gt F 32 dX3_gather_18 (by decide) (fun c18 => ?_) (fun c18 => ?_)
    · rw [lcmp_gt] at c18
      rw [if_pos c18] at kk
      refine V_iinc1 F dX3_gather_32 rfl ?_
      show V _ _ _ _ _ _ _ _ [_, _, _, _] _
      refine V_goto F 2 dX3_gather_35 (by decide) ?_
      exact kk M1 hok hs0
    · rw [lcmp_gt] at c18
      rw [if_neg c18] at kf kk
      have hS3 := ent_S (lst := s.2.2.1) (S := s.2.1) (c := c) (i := i) k3
      refine V_aload_n F dX3_gather_21 rfl ?_
      refine V_aload_n F dX3_gather_22 rfl ?_
      refine V_iload_n F dX3_gather_23 rfl ?_
      refine V_ivP F iv_X3_39 dX3_gather_24 (As := [_, _]) (c_enterA k2 k3 hb1 hq1 hi) k2.1 rfl rfl rfl rfl ?_
      rintro v M3 n3 ⟨rfl, hl3, hf3, rfl⟩
      generalize ent s.2.2.1 s.2.1 c i = E at hl3 kf kk hS3 ⊢
      have hsea3 : seaA G M3 ws := k1.frame (fun z z1 z2 => hf3 z (by omega))
      have fr3 : ∀ z, (z < gB G + la ∨ gB G + la + 5 ≤ z) → M3 z = M z := fun z z1 => (hf3 z z1).trans (k4 z z1)
      refine V_if_ne F 32 dX3_gather_27 (by decide) (fun c27 => ?_) (fun c27 => ?_)
      · rw [bI_n] at c27
        refine V_iinc1 F dX3_gather_32 rfl ?_
        show V _ _ _ _ _ _ _ _ [_, _, _, _] _
        refine V_goto F 2 dX3_gather_35 (by decide) ?_
        exact kk M3 c27 ⟨hsea3, hl3, hS3, fr3⟩
      · rw [bI_0] at c27
        obtain ⟨f1, f2, f3⟩ := kf c27
        subst hQ
        refine V_iconst F dX3_gather_30 ki_0 ?_
        exact V_iret F rfl dX3_gather_31 rfl ⟨rf f1, ⟨ws, hsea3⟩, by rw [f2, f3]; exact hl3, by rw [f2]; exact hS3, fun z z1 z2 => fr3 z z2, rfl⟩
  have main : ∀ (m n : Nat) (s : St) (M1 : Mem), m + n = 241 → s.1 = true → SS G la mo se M M1 s → glp mo m n s = fin → V G X 0 0 Q M1 none 70 [some (.ref (gB G + 7)), some (.ref b), some (.ref (gB G + la)), some (.int (nI n))] [] := by
    intro m
    induction m with
    | zero =>
      intro n s M1 hm hok hs hg
      have hg : s = fin := hg
      subst hg
      have hlen := hs.1.2.2.2.2.2.2
      obtain ⟨k1, k2, k3, k4⟩ := hs
      subst hQ
      refine V_iload_n F dX3_gather_70 rfl ?_
      refine V_aload_n F dX3_gather_71 rfl ?_
      refine V_get F fl_X3_26 dX3_gather_72 k1.1 rfl ?_
      refine V_icmp_ge F 102 dX3_gather_75 (by decide) (fun c75 => ?_) (fun c75 => absurd (nI_le (by omega) (by omega)) c75)
      refine V_iconst F dX3_gather_102 ki_1 ?_
      exact V_iret F rfl dX3_gather_103 rfl ⟨rt hok, ⟨_, k1⟩, k2, k3, k4, rfl⟩
    | succ m ih =>
      intro n s M1 hm hok hs hg
      have hs0 := hs
      have hlen := hs.1.2.2.2.2.2.2
      obtain ⟨k1, k2, k3, k4⟩ := hs
      have hnok : ¬ s.1 = false := by rw [hok]; decide
      unfold glp at hg
      rw [if_neg hnok] at hg
      refine V_iload_n F dX3_gather_70 rfl ?_
      refine V_aload_n F dX3_gather_71 rfl ?_
      refine V_get F fl_X3_26 dX3_gather_72 k1.1 rfl ?_
      refine V_icmp_ge F 102 dX3_gather_75 (by decide) (fun c75 => ?_) (fun c75 => ?_)
      · have hn : s.2.2.2[n]? = none := by
          rcases Nat.lt_or_ge n s.2.2.2.length with q1 | q1
          · exact absurd c75 (nI_ge q1 (by omega))
          · exact List.getElem?_eq_none q1
        rw [hn] at hg
        subst hg
        subst hQ
        refine V_iconst F dX3_gather_102 ki_1 ?_
        exact V_iret F rfl dX3_gather_103 rfl ⟨rt hok, ⟨_, k1⟩, k2, k3, k4, rfl⟩
      · have hn : n < s.2.2.2.length := Nat.lt_of_not_le (fun z => c75 (nI_le z (by omega)))
        have hu : s.2.2.2[n]? = some s.2.2.2[n] := List.getElem?_eq_getElem hn
        generalize s.2.2.2[n] = x at hu
        obtain ⟨u, bk⟩ := x
        rw [hu] at hg
        have hg : glp mo m (n + 1) (sw4 u bk mo s) = fin := hg
        refine V_iload_n F dX3_gather_78 rfl ?_
        refine V_sipush F dX3_gather_79 ks_241 ?_
        refine V_icmp_ge F 102 dX3_gather_82 (by decide) (fun c82 => absurd c82 (nI_ge (by omega) (by omega))) (fun c82 => ?_)
        refine V_aload_n F dX3_gather_85 rfl ?_
        refine V_iload_n F dX3_gather_86 rfl ?_
        refine V_aload_n F dX3_gather_87 rfl ?_
        refine V_ivP F iv_X3_50 dX3_gather_88 (As := [_, _]) (c_X3_swapEachWay hla hs0 hok hu) k1.1 rfl rfl rfl rfl ?_
        rintro v M2 n2 ⟨rfl, h2, rfl⟩
        refine V_if_ne F 96 dX3_gather_91 (by decide) (fun c91 => ?_) (fun c91 => ?_)
        · rw [bI_n] at c91
          refine V_iinc1 F dX3_gather_96 rfl ?_
          show V _ _ _ _ _ _ _ _ [_, _, _, _] _
          refine V_goto F 70 dX3_gather_99 (by decide) ?_
          exact ih (n + 1) _ M2 (by omega) c91 h2 hg
        · rw [bI_0] at c91
          rw [glp_f c91] at hg
          subst hg
          obtain ⟨j1, j2, j3, j4⟩ := h2
          subst hQ
          refine V_iconst F dX3_gather_94 ki_0 ?_
          exact V_iret F rfl dX3_gather_95 rfl ⟨rf c91, ⟨_, j1⟩, j2, j3, j4, rfl⟩
  have fin4 : (g4 c mo (true, S, lst, [])).1 = false → fin = g4 c mo (true, S, lst, []) := fun z => by rw [← hF]; unfold gth; rw [if_pos z]
  have ff : ∀ s : St, g4 c mo (true, S, lst, []) = s → s.1 = false → fin.1 = false ∧ fin.2.1 = s.2.1 ∧ fin.2.2.1 = s.2.2.1 := fun s e z => by
    subst e
    rw [fin4 z]
    exact ⟨z, rfl, rfl⟩
  refine V_iconst F dX3_gather_0 ki_0 ?_
  refine V_istore_n F dX3_gather_1 (Nat.le_of_ble_eq_true rfl) ?_
  show V _ _ _ _ _ _ _ _ [_, _, _, _] _
  refine step 0 (true, S, lst, []) M (by omega) rfl ⟨hsea, hlst, hS, fun _ _ => rfl⟩ (fun z => ff _ (by unfold g4; rw [g1_f (i := 1) z, g1_f (i := 2) z, g1_f (i := 3) z]) z) (fun M1 q1 p1 => ?_)
  refine step 1 _ M1 (by omega) q1 p1 (fun z => ff _ (by unfold g4; rw [g1_f (i := 2) z, g1_f (i := 3) z]) z) (fun M2 q2 p2 => ?_)
  refine step 2 _ M2 (by omega) q2 p2 (fun z => ff _ (by unfold g4; rw [g1_f (i := 3) z]) z) (fun M3 q3 p3 => ?_)
  refine step 3 _ M3 (by omega) q3 p3 (fun z => ff _ rfl z) (fun M4 q4 p4 => ?_)
  have q4 : (g4 c mo (true, S, lst, [])).1 = true := q4
  have p4 : seaA G M4 ws ∧ lstA G la M4 (g4 c mo (true, S, lst, [])).2.2.1 (g4 c mo (true, S, lst, [])).2.1 mo se ∧ (g4 c mo (true, S, lst, [])).2.1 ≤ 240 ∧ ∀ z, (z < gB G + la ∨ gB G + la + 5 ≤ z) → M4 z = M z := p4
  unfold gth at hF
  rw [if_neg (by rw [q4]; decide)] at hF
  generalize g4 c mo (true, S, lst, []) = s4 at hF p4
  obtain ⟨e1, e2, e3, e4⟩ := p4
  have hb1 := (e4 b (by omega)).trans hb
  have hq1 := (e4 q (by omega)).trans hq
  have hgr := grt_lt c
  refine V_iload_n F dX3_gather_2 rfl ?_
  refine V_iconst F dX3_gather_3 ki_4 ?_
  refine V_icmp_ge F 38 dX3_gather_4 (by decide) (fun c4 => ?_) (fun c4 => absurd (by decide) c4)
  have sea0 : seaA G (mset M4 (gB G + 7) (eO 3 [.ref (gB G + 8), .ref (gB G + 9), .ref (gB G + 10), .int (nI 0)])) [] := by
    obtain ⟨h0, ⟨g, h1, h2⟩, ⟨bb, h3, h4⟩, h5, ⟨cn, h6⟩, h7, h8⟩ := e1
    exact ⟨mset_eq _ _ _, ⟨g, (mset_ne _ _ (by omega)).trans h1, h2⟩, ⟨bb, (mset_ne _ _ (by omega)).trans h3, fun k x hx => by simp at hx⟩, (mset_ne _ _ (by omega)).trans h5, ⟨cn, (mset_ne _ _ (by omega)).trans h6⟩, fun k hk => ⟨(mset_ne _ _ (by show gB G + 12 + 2 * k ≠ gB G + 7; omega)).trans (h7 k hk).1, by
      obtain ⟨-, cc, w, w'⟩ := h7 k hk
      exact ⟨cc, (mset_ne _ _ (by show gB G + 13 + 2 * k ≠ gB G + 7; omega)).trans w, fun x hx => by simp at hx⟩⟩, by simp⟩
  have lst0 : lstA G la (mset M4 (gB G + 7) (eO 3 [.ref (gB G + 8), .ref (gB G + 9), .ref (gB G + 10), .int (nI 0)])) s4.2.2.1 s4.2.1 mo se := e2.frame (fun z z1 z2 => mset_ne _ _ (by omega))
  have fr0 : ∀ z, (z < gB G + 7 ∨ gB G + 494 ≤ z) → (z < gB G + la ∨ gB G + la + 5 ≤ z) → mset M4 (gB G + 7) (eO 3 [.ref (gB G + 8), .ref (gB G + 9), .ref (gB G + 10), .int (nI 0)]) z = M z := fun z z1 z2 => (mset_ne _ _ (by omega)).trans (e4 z z2)
  refine V_aload_n F dX3_gather_38 rfl ?_
  refine V_iconst F dX3_gather_39 ki_0 ?_
  refine V_put F fl_X3_26 dX3_gather_40 e1.1 rfl rfl (Nat.le_of_ble_eq_true rfl) ?_
  show V _ _ _ _ _ (mset M4 (gB G + 7) (eO 3 [.ref (gB G + 8), .ref (gB G + 9), .ref (gB G + 10), .int (nI 0)])) _ _ _ _
  generalize mset M4 (gB G + 7) (eO 3 [.ref (gB G + 8), .ref (gB G + 9), .ref (gB G + 10), .int (nI 0)]) = M5 at sea0 lst0 fr0
  have hb5 := (fr0 b (by omega) (by omega)).trans hb
  have hq5 := (fr0 q (by omega) (by omega)).trans hq
  unfold ws0 at hF
  refine V_aload_n F dX3_gather_43 rfl ?_
  refine V_aload_n F dX3_gather_44 rfl ?_
  refine V_ivR F iv_X3_43 dX3_gather_45 (As := []) (c_X1_greatest hb5 hq5) (by assumption) rfl rfl rfl rfl ?_
  refine V_ivR F iv_X3_30 dX3_gather_48 (As := [_]) (c_X1_bend hb5 hq5 hgr) (by assumption) rfl rfl rfl rfl ?_
  refine V_aload_n F dX3_gather_51 rfl ?_
  refine V_get F fl_X3_34 dX3_gather_52 lst0.1 rfl ?_
  refine V_i2l F dX3_gather_55 ?_
  refine V_lcmp F dX3_gather_56 ?_
  refine V_if_gt F 68 dX3_gather_57 (by decide) (fun c57 => ?_) (fun c57 => ?_)
  · rw [lcmp_gt] at c57
    rw [if_pos c57] at hF
    refine V_iconst F dX3_gather_68 ki_0 ?_
    refine V_istore_n F dX3_gather_69 (Nat.le_of_ble_eq_true rfl) ?_
    show V _ _ _ _ _ _ _ _ [_, _, _, _] _
    exact main 241 0 (true, s4.2.1, s4.2.2.1, []) M5 rfl rfl ⟨sea0, lst0, e3, fr0⟩ hF
  · rw [lcmp_gt] at c57
    rw [if_neg c57] at hF
    refine V_aload_n F dX3_gather_60 rfl ?_
    refine V_aload_n F dX3_gather_61 rfl ?_
    refine V_bipush F dX3_gather_62 kb_m3 ?_
    refine V_ivP F iv_X3_47 dX3_gather_64 (As := [_, _]) (c_addW sea0 hb5 hq5 (fun k hk => by omega) _) sea0.1 rfl rfl rfl rfl ?_
    rintro v M6 n6 ⟨rfl, a1, -, a3, rfl⟩
    refine V_pop F dX3_gather_67 rfl ?_
    refine V_iconst F dX3_gather_68 ki_0 ?_
    refine V_istore_n F dX3_gather_69 (Nat.le_of_ble_eq_true rfl) ?_
    show V _ _ _ _ _ _ _ _ [_, _, _, _] _
    exact main 241 0 (true, s4.2.1, s4.2.2.1, [(c, -3)]) M6 rfl rfl ⟨a1 (by simp), lst0.frame (fun z z1 z2 => a3 z (by omega)), e3, fun z z1 z2 => (a3 z z1).trans (fr0 z z1 z2)⟩ hF
end GATHER
