def mw1 (u : Qd) (bk mo : Int32) (i : Nat) (s : St) : St :=
  if s.1 = false then s else if nI i = bk then s else if mo.toInt64 < trn u i 0 then s else
  if (ent s.2.2.1 s.2.1 (turnc u i) i).1 = false then (false, (ent s.2.2.1 s.2.1 (turnc u i) i).2.1, (ent s.2.2.1 s.2.1 (turnc u i) i).2.2, s.2.2.2)
  else if s.2.2.2.length < 2000 then (true, (ent s.2.2.1 s.2.1 (turnc u i) i).2.1, (ent s.2.2.1 s.2.1 (turnc u i) i).2.2, (turnc u i, nI i) :: s.2.2.2)
  else (false, (ent s.2.2.1 s.2.1 (turnc u i) i).2.1, (ent s.2.2.1 s.2.1 (turnc u i) i).2.2, s.2.2.2)
def mw4 (u : Qd) (bk mo : Int32) (s : St) : St := mw1 u bk mo 3 (mw1 u bk mo 2 (mw1 u bk mo 1 (mw1 u bk mo 0 s)))
theorem mw1_f {u : Qd} {bk mo : Int32} {i : Nat} {s : St} (h : s.1 = false) : mw1 u bk mo i s = s := by unfold mw1; rw [if_pos h]
def mstep (mo : Int32) (x : Qd × Int32) (s : St) : St := if upTo x.1 mo = true then mw4 x.1 x.2 mo s else s
def mlp (mo : Int32) : Nat → St → Option St
  | 0, s => if s.1 = false ∨ s.2.2.2 = [] then some s else none
  | m + 1, s => if s.1 = false then some s else match s.2.2.2 with
    | [] => some s
    | x :: t => mlp mo m (mstep mo x (s.1, s.2.1, s.2.2.1, t))
def mgth (m : Nat) (c : Qd) (mo : Int32) (lst : Nat → Nat → Int64) : Option St :=
  if (g4 c mo (true, 0, lst, [])).1 = false then some (g4 c mo (true, 0, lst, [])) else mlp mo m (true, (g4 c mo (true, 0, lst, [])).2.1, (g4 c mo (true, 0, lst, [])).2.2.1, [(c, -3)])
theorem mlp_f {mo : Int32} {m : Nat} {s : St} (h : s.1 = false) : mlp mo m s = some s := by
  cases m with
  | zero => unfold mlp; rw [if_pos (Or.inl h)]
  | succ m => unfold mlp; rw [if_pos h]
theorem mlp_e {mo : Int32} {m : Nat} {s : St} (h : s.2.2.2 = []) : mlp mo m s = some s := by
  cases m with
  | zero => unfold mlp; rw [if_pos (Or.inr h)]
  | succ m =>
    unfold mlp
    split
    · rfl
    · rw [h]
theorem mlp_c {mo : Int32} {m : Nat} {s r : St} {x : Qd × Int32} {t : List (Qd × Int32)} (h : mlp mo m s = some r) (h1 : s.1 = true) (h2 : s.2.2.2 = x :: t) : ∃ k, m = k + 1 ∧ mlp mo k (mstep mo x (true, s.2.1, s.2.2.1, t)) = some r := by
  cases m with
  | zero =>
    unfold mlp at h
    rw [if_neg (fun z => by
      rcases z with z | z
      · rw [h1] at z; cases z
      · rw [h2] at z; cases z)] at h
    cases h
  | succ m =>
    unfold mlp at h
    rw [if_neg (by rw [h1]; decide), h2, h1] at h
    exact ⟨m, rfl, h⟩
def DS (G : GP) (M0 M : Mem) (nq st lm lmo lq : Int32) (s : St) : Prop := M (gB G + 816) = some (objM G nq st lm lmo lq (nI s.2.2.2.length) (nI s.2.1)) ∧ (∃ g, M (gB G + 829) = some (eJ (gT G) 732 g) ∧ relG g s.2.2.1 s.2.1) ∧ (∃ p pb, M (gB G + 827) = some (eJ (gT G) 24000 p) ∧ M (gB G + 828) = some (eI (gT G) 2000 pb) ∧ relP p pb s.2.2.2) ∧ s.2.1 ≤ 240 ∧ s.2.2.2.length ≤ 2000 ∧ ∀ z, z ≠ gB G + 816 → z ≠ gB G + 822 → z ≠ gB G + 827 → z ≠ gB G + 828 → z ≠ gB G + 829 → M z = M0 z
theorem DS.four {G : GP} {M0 M : Mem} {nq st lm lmo lq : Int32} {s : St} (h : DS G M0 M nq st lm lmo lq s) (f : Nat → Int64) : DS G M0 (mset M (gB G + 822) (eJ (gT G) 12 f)) nq st lm lmo lq s := by
  obtain ⟨d1, ⟨g, d2, d3⟩, ⟨p, pb, d4, d5, d6⟩, d7, d8, d9⟩ := h
  exact ⟨(mset_ne _ _ (by omega)).trans d1, ⟨g, (mset_ne _ _ (by omega)).trans d2, d3⟩, ⟨p, pb, (mset_ne _ _ (by omega)).trans d4, (mset_ne _ _ (by omega)).trans d5, d6⟩, d7, d8, fun z h1 h2 h3 h4 h5 => (mset_ne _ _ h2).trans (d9 z h1 h2 h3 h4 h5)⟩
theorem DS.lists {G : GP} {M0 M M' : Mem} {nq st lm lmo lq : Int32} {s : St} {e : Bool × Nat × (Nat → Nat → Int64)} (b : Bool) (h : DS G M0 M nq st lm lmo lq s) (he : e.2.1 ≤ 240) (w : listsP G M M' nq st lm lmo lq (nI s.2.2.2.length) e) : DS G M0 M' nq st lm lmo lq (b, e.2.1, e.2.2, s.2.2.2) ∧ M' (gB G + 822) = M (gB G + 822) := by
  obtain ⟨d1, -, ⟨p, pb, d4, d5, d6⟩, d7, d8, d9⟩ := h
  obtain ⟨w1, w2, w3⟩ := w
  exact ⟨⟨w1, w2, ⟨p, pb, (w3 _ (by omega) (by omega)).trans d4, (w3 _ (by omega) (by omega)).trans d5, d6⟩, he, d8, fun z h1 h2 h3 h4 h5 => (w3 z h1 h5).trans (d9 z h1 h2 h3 h4 h5)⟩, w3 _ (by omega) (by omega)⟩
section MOD14
variable {G : GP} {M : Mem} {n : Option Nat} {nq st lm lmo lq pd gd' : Int32} {c : Qd} {p : Nat → Int64} {pb : Nat → Int32} {g : Nat → Int64} {lst : Nat → Nat → Int64} {m : Nat} {r : St}
theorem c_X7_gathers (hO : M (gB G + 816) = some (objM G nq st lm lmo lq pd gd')) (h6 : M (gB G + 822) = some (eJ (gT G) 12 (mc c))) (h7 : M (gB G + 827) = some (eJ (gT G) 24000 p)) (h8 : M (gB G + 828) = some (eI (gT G) 2000 pb)) (h9 : M (gB G + 829) = some (eJ (gT G) 732 g)) (mo : Int32) (hr : mgth m c mo lst = some r) : Con G yX7_gathers cX7_gathers 5 (some .boolean) 3 0 0 [.ref (gB G + 816), .int mo] M n (fun v M' n' => v = some (.int (bI r.1)) ∧ ((∃ f, M' (gB G + 822) = some (eJ (gT G) 12 f)) ∧ DS G M M' nq st lm lmo lq r) ∧ n' = n) := by
  refine Con.of (by decide +kernel) (Nat.le_of_ble_eq_true rfl) (fun X F hnm => ?_)
  show V G X 0 0 _ M _ 0 [some (.ref (gB G + 816)), some (.int mo), none, none, none] []
  generalize hQ : BQ G X _ 0 0 = Q
  -- the root's coins
  have first : ∀ (i : Nat) (s : St) (M1 : Mem), i < 4 → s.1 = true → M1 (gB G + 822) = some (eJ (gT G) 12 (mc c)) → DS G M M1 nq st lm lmo lq s → ((g1 c mo i s).1 = false → r = g1 c mo i s) → (∀ M2, (g1 c mo i s).1 = true → M2 (gB G + 822) = some (eJ (gT G) 12 (mc c)) → DS G M M2 nq st lm lmo lq (g1 c mo i s) → V G X 0 0 Q M2 n 12 [some (.ref (gB G + 816)), some (.int mo), some (.int (nI (i + 1))), none, none] []) → V G X 0 0 Q M1 n 12 [some (.ref (gB G + 816)), some (.int mo), some (.int (nI i)), none, none] [] := by
    intro i s M1 hi hs e6 d kf kk
    have d0 := d
    obtain ⟨d1, ⟨g, d2, d3⟩, d4, d7, d8, d9⟩ := d
    have hg1 : g1 c mo i s = if mo.toInt64 < c i 0 then s else ((ent s.2.2.1 s.2.1 c i).1, (ent s.2.2.1 s.2.1 c i).2.1, (ent s.2.2.1 s.2.1 c i).2.2, s.2.2.2) := by
      unfold g1; rw [if_neg (by rw [hs]; decide)]
    rw [hg1] at kf kk
    refine V_iload_n F dX7_gathers_12 rfl ?_
    refine V_iconst F dX7_gathers_13 ki_4 ?_
    refine V_icmp_ge F 47 dX7_gathers_14 (by decide) (fun c14 => absurd c14 (nI_ge hi (by omega))) (fun c14 => ?_)
    refine V_aload_n F dX7_gathers_17 rfl ?_
    refine V_get F fl_X7_26 dX7_gathers_18 (by assumption) rfl ?_
    refine V_iconst F dX7_gathers_21 ki_3 ?_
    refine V_iload_n F dX7_gathers_22 rfl ?_
    refine V_imul F dX7_gathers_23 ?_
    refine V_laldN F dX7_gathers_24 (by assumption) (3 * i) (by first | (simp only [pk_mul, nI_add, nI_1, nI_inc]; done) | (simp only [pk_mul, nI_add, nI_1, nI_inc]; rfl) | rfl) (by omega) (by omega) ?_
    rw [show mc c (3 * i) = c i 0 from mc_at (c := c) (i := i) (w := 0) (by omega)]
    refine V_iload_n F dX7_gathers_25 rfl ?_
    refine V_i2l F dX7_gathers_26 ?_
    refine V_lcmp F dX7_gathers_27 ?_
    refine V_if_gt F 41 dX7_gathers_28 (by decide) (fun c28 => ?_) (fun c28 => ?_)
    · rw [lcmp_gt] at c28
      rw [if_pos c28] at kk
      refine V_iinc1 F dX7_gathers_41 rfl ?_
      show V _ _ _ _ _ _ _ _ [_, _, _, _, _] _
      refine V_goto F 12 dX7_gathers_44 (by decide) ?_
      exact kk M1 hs e6 d0
    · rw [lcmp_gt] at c28
      rw [if_neg c28] at kf kk
      refine V_aload_n F dX7_gathers_31 rfl ?_
      refine V_iload_n F dX7_gathers_32 rfl ?_
      refine V_ivP F iv_X7_154 dX7_gathers_33 (As := [_]) (c_X7_lists d1 e6 d2 d3 d7 hi) (by assumption) rfl rfl rfl rfl ?_
      rintro v M2 n2 ⟨rfl, w, rfl⟩
      obtain ⟨x1, x2⟩ := DS.lists (ent s.2.2.1 s.2.1 c i).1 d0 (ent_S d7) w
      refine V_if_ne F 41 dX7_gathers_36 (by decide) (fun c36 => ?_) (fun c36 => ?_)
      · rw [bI_n] at c36
        refine V_iinc1 F dX7_gathers_41 rfl ?_
        show V _ _ _ _ _ _ _ _ [_, _, _, _, _] _
        refine V_goto F 12 dX7_gathers_44 (by decide) ?_
        exact kk M2 c36 (x2.trans e6) x1
      · rw [bI_0] at c36
        have := kf c36
        subst hQ
        refine V_iconst F dX7_gathers_39 ki_0 ?_
        exact V_iret F rfl dX7_gathers_40 rfl ⟨by rw [this]; exact rf c36, ⟨⟨_, x2.trans e6⟩, by rw [this]; exact x1⟩, rfl⟩
  -- one swap
  have one : ∀ (u : Qd) (bk : Int32) (i : Nat) (s : St) (M1 : Mem), i < 4 → s.1 = true → M1 (gB G + 822) = some (eJ (gT G) 12 (mc u)) → DS G M M1 nq st lm lmo lq s → ((mw1 u bk mo i s).1 = false → r = mw1 u bk mo i s) → (∀ M2, (mw1 u bk mo i s).1 = true → M2 (gB G + 822) = some (eJ (gT G) 12 (mc u)) → DS G M M2 nq st lm lmo lq (mw1 u bk mo i s) → V G X 0 0 Q M2 n 77 [some (.ref (gB G + 816)), some (.int mo), some (.int (nI 1)), some (.int bk), some (.int (nI (i + 1)))] []) → V G X 0 0 Q M1 n 77 [some (.ref (gB G + 816)), some (.int mo), some (.int (nI 1)), some (.int bk), some (.int (nI i))] [] := by
    intro u bk i s M1 hi hs e6 d kf kk
    have hmw : mw1 u bk mo i s = if nI i = bk then s else if mo.toInt64 < trn u i 0 then s else
  if (ent s.2.2.1 s.2.1 (turnc u i) i).1 = false then (false, (ent s.2.2.1 s.2.1 (turnc u i) i).2.1, (ent s.2.2.1 s.2.1 (turnc u i) i).2.2, s.2.2.2)
  else if s.2.2.2.length < 2000 then (true, (ent s.2.2.1 s.2.1 (turnc u i) i).2.1, (ent s.2.2.1 s.2.1 (turnc u i) i).2.2, (turnc u i, nI i) :: s.2.2.2)
  else (false, (ent s.2.2.1 s.2.1 (turnc u i) i).2.1, (ent s.2.2.1 s.2.1 (turnc u i) i).2.2, s.2.2.2) := by
      unfold mw1; rw [if_neg (by rw [hs]; decide)]
    rw [hmw] at kf kk
    refine V_iload F dX7_gathers_77 rfl ?_
    refine V_iconst F dX7_gathers_79 ki_4 ?_
    refine V_icmp_ge F 142 dX7_gathers_80 (by decide) (fun c80 => absurd c80 (nI_ge hi (by omega))) (fun c80 => ?_)
    refine V_iload F dX7_gathers_83 rfl ?_
    refine V_iload_n F dX7_gathers_85 rfl ?_
    refine V_icmp_eq F 136 dX7_gathers_86 (by decide) (fun c86 => ?_) (fun c86 => ?_)
    · rw [if_pos c86] at kk
      refine V_iinc1 F dX7_gathers_136 rfl ?_
      show V _ _ _ _ _ _ _ _ [_, _, _, _, _] _
      refine V_goto F 77 dX7_gathers_139 (by decide) ?_
      exact kk M1 hs e6 d
    · rw [if_neg c86] at kf kk
      have d1 := d.1
      refine V_aload_n F dX7_gathers_89 rfl ?_
      refine V_iload F dX7_gathers_90 rfl ?_
      refine V_ivR F iv_X7_124 dX7_gathers_92 (As := [_]) (c_X7_swapAt d1 e6 hi) (by assumption) rfl rfl rfl rfl ?_
      have dd := d.four (mc (turnc u i))
      have E6 := mset_eq M1 (gB G + 822) (eJ (gT G) 12 (mc (turnc u i)))
      generalize mset M1 (gB G + 822) (eJ (gT G) 12 (mc (turnc u i))) = M2 at dd E6 ⊢
      have dd0 := dd
      obtain ⟨f1, ⟨g, f2, f3⟩, ⟨p, pb, f4, f5, f6⟩, f7, f8, f9⟩ := dd
      have back : ∀ (s2 : St) (M3 : Mem), DS G M M3 nq st lm lmo lq s2 → M3 (gB G + 822) = some (eJ (gT G) 12 (mc (turnc u i))) → (∀ M4, M4 (gB G + 822) = some (eJ (gT G) 12 (mc u)) → DS G M M4 nq st lm lmo lq s2 → V G X 0 0 Q M4 n 77 [some (.ref (gB G + 816)), some (.int mo), some (.int (nI 1)), some (.int bk), some (.int (nI (i + 1)))] []) → V G X 0 0 Q M3 n 130 [some (.ref (gB G + 816)), some (.int mo), some (.int (nI 1)), some (.int bk), some (.int (nI i))] [] := by
        intro s2 M3 q1 q2 q3
        have q0 := q1.1
        refine V_aload_n F dX7_gathers_130 rfl ?_
        refine V_iload F dX7_gathers_131 rfl ?_
        refine V_ivR F iv_X7_124 dX7_gathers_133 (As := [_]) (c_X7_swapAt q0 q2 hi) (by assumption) rfl rfl rfl rfl ?_
        rw [turn_turn u hi]
        refine V_iinc1 F dX7_gathers_136 rfl ?_
        show V _ _ _ _ _ _ _ _ [_, _, _, _, _] _
        refine V_goto F 77 dX7_gathers_139 (by decide) ?_
        exact q3 _ (mset_eq _ _ _) (q1.four _)
      refine V_aload_n F dX7_gathers_95 rfl ?_
      refine V_get F fl_X7_26 dX7_gathers_96 (by assumption) rfl ?_
      refine V_iconst F dX7_gathers_99 ki_3 ?_
      refine V_iload F dX7_gathers_100 rfl ?_
      refine V_imul F dX7_gathers_102 ?_
      refine V_laldN F dX7_gathers_103 (by assumption) (3 * i) (by first | (simp only [pk_mul, nI_add, nI_1, nI_inc]; done) | (simp only [pk_mul, nI_add, nI_1, nI_inc]; rfl) | rfl) (by omega) (by omega) ?_
      rw [show mc (turnc u i) (3 * i) = turnc u i i 0 from mc_at (c := turnc u i) (i := i) (w := 0) (by omega), show turnc u i i 0 = trn u i 0 by unfold turnc; rw [if_pos ⟨rfl, by omega⟩]]
      refine V_iload_n F dX7_gathers_104 rfl ?_
      refine V_i2l F dX7_gathers_105 ?_
      refine V_lcmp F dX7_gathers_106 ?_
      refine V_if_gt F 130 dX7_gathers_107 (by decide) (fun c107 => ?_) (fun c107 => ?_)
      · rw [lcmp_gt] at c107
        rw [if_pos c107] at kk
        exact back s M2 dd0 E6 (fun M4 z1 z2 => kk M4 hs z1 z2)
      · rw [lcmp_gt] at c107
        rw [if_neg c107] at kf kk
        refine V_aload_n F dX7_gathers_110 rfl ?_
        refine V_iload F dX7_gathers_111 rfl ?_
        refine V_ivP F iv_X7_154 dX7_gathers_113 (As := [_]) (c_X7_lists f1 E6 f2 f3 f7 hi) (by assumption) rfl rfl rfl rfl ?_
        rintro v M3 n3 ⟨rfl, w, rfl⟩
        have xx := fun b => DS.lists b dd0 (ent_S f7) w
        have fail : ∀ (s2 : St) (M5 : Mem), r = s2 → s2.1 = false → DS G M M5 nq st lm lmo lq s2 → M5 (gB G + 822) = some (eJ (gT G) 12 (mc (turnc u i))) → V G X 0 0 Q M5 n3 128 [some (.ref (gB G + 816)), some (.int mo), some (.int (nI 1)), some (.int bk), some (.int (nI i))] [] := by
          intro s2 M5 q1 q2 q3 q4
          subst hQ
          refine V_iconst F dX7_gathers_128 ki_0 ?_
          exact V_iret F rfl dX7_gathers_129 rfl ⟨by rw [q1, q2]; rfl, ⟨⟨_, q4⟩, by rw [q1]; exact q3⟩, rfl⟩
        refine V_if_eq F 128 dX7_gathers_116 (by decide) (fun c116 => ?_) (fun c116 => ?_)
        · rw [bI_0] at c116
          rw [if_pos c116] at kf
          exact fail _ M3 (kf rfl) rfl (xx false).1 ((xx false).2.trans E6)
        · rw [bI_n] at c116
          rw [if_neg (by rw [c116]; decide)] at kf kk
          by_cases hl : s.2.2.2.length < 2000
          · rw [if_pos hl] at kk
            obtain ⟨x1, ⟨g2, x2, x3⟩, ⟨p2, pb2, x4, x5, x6⟩, x7, x8, x9⟩ := (xx true).1
            have y6 := (xx true).2.trans E6
            refine V_aload_n F dX7_gathers_119 rfl ?_
            refine V_iload F dX7_gathers_120 rfl ?_
            refine V_ivP F iv_X7_157 dX7_gathers_122 (As := [_]) (c_X7_push x1 y6 x4 x5 x6 hl (nI i)) (by assumption) rfl rfl rfl rfl ?_
            rintro v M4 n4 ⟨rfl, ⟨p1, ⟨p', pb', p2, p3, p4⟩, p5⟩, rfl⟩
            refine V_if_ne F 130 dX7_gathers_125 (by decide) (fun c125 => ?_) (fun c125 => absurd c125 (by decide))
            exact back (true, (ent s.2.2.1 s.2.1 (turnc u i) i).2.1, (ent s.2.2.1 s.2.1 (turnc u i) i).2.2, (turnc u i, nI i) :: s.2.2.2) M4 ⟨p1, ⟨g2, (p5 _ (by omega) (by omega) (by omega)).trans x2, x3⟩, ⟨p', pb', p2, p3, p4⟩, x7, by show s.2.2.2.length + 1 ≤ 2000; omega, fun z h1 h2 h3 h4 h5 => (p5 z h1 h3 h4).trans (x9 z h1 h2 h3 h4 h5)⟩ ((p5 _ (by omega) (by omega) (by omega)).trans y6) (fun M5 z1 z2 => kk M5 rfl z1 z2)
          · rw [if_neg hl] at kf
            have hl2 : s.2.2.2.length = 2000 := by omega
            have x1 := (xx true).1.1
            rw [show (true, (ent s.2.2.1 s.2.1 (turnc u i) i).2.1, (ent s.2.2.1 s.2.1 (turnc u i) i).2.2, s.2.2.2).2.2.2.length = 2000 from hl2] at x1
            refine V_aload_n F dX7_gathers_119 rfl ?_
            refine V_iload F dX7_gathers_120 rfl ?_
            refine V_ivR F iv_X7_157 dX7_gathers_122 (As := [_]) (c_X7_pushF x1 (nI i)) (by assumption) rfl rfl rfl rfl ?_
            refine V_if_ne F 130 dX7_gathers_125 (by decide) (fun c125 => absurd rfl c125) (fun c125 => ?_)
            exact fail _ M3 (kf rfl) rfl (xx false).1 ((xx false).2.trans E6)
  -- the pile
  have loop : ∀ (m : Nat) (s : St) (M1 : Mem), mlp mo m s = some r → s.1 = true → (∃ f, M1 (gB G + 822) = some (eJ (gT G) 12 f)) → DS G M M1 nq st lm lmo lq s → V G X 0 0 Q M1 n 54 [some (.ref (gB G + 816)), some (.int mo), some (.int (nI 1)), none, none] [] := by
    intro m
    induction m with
    | zero =>
      intro s M1 hm hs e6 d
      have d1 := d.1
      cases hst : s.2.2.2 with
      | nil =>
        have e := mlp_e (mo := mo) (m := 0) hst
        rw [hm] at e
        have e : r = s := by injection e
        rw [hst] at d1
        refine V_aload_n F dX7_gathers_54 rfl ?_
        refine V_get F fl_X7_151 dX7_gathers_55 (by assumption) rfl ?_
        refine V_if_le F 145 dX7_gathers_58 (by decide) (fun c58 => ?_) (fun c58 => absurd (by decide) c58)
        subst hQ
        refine V_iload_n F dX7_gathers_145 rfl ?_
        exact V_iret F rfl dX7_gathers_146 rfl ⟨by rw [e, hs]; rfl, ⟨e6, by rw [e]; exact d⟩, rfl⟩
      | cons x t =>
        obtain ⟨k, hk, -⟩ := mlp_c hm hs hst
        omega
    | succ m ih =>
      intro s M1 hm hs e6 d
      have d0 := d
      obtain ⟨d1, ⟨g, d2, d3⟩, ⟨p, pb, d4, d5, d6⟩, d7, d8, d9⟩ := d
      cases hst : s.2.2.2 with
      | nil =>
        have e := mlp_e (mo := mo) (m := m + 1) hst
        rw [hm] at e
        have e : r = s := by injection e
        rw [hst] at d1
        refine V_aload_n F dX7_gathers_54 rfl ?_
        refine V_get F fl_X7_151 dX7_gathers_55 (by assumption) rfl ?_
        refine V_if_le F 145 dX7_gathers_58 (by decide) (fun c58 => ?_) (fun c58 => absurd (by decide) c58)
        subst hQ
        refine V_iload_n F dX7_gathers_145 rfl ?_
        exact V_iret F rfl dX7_gathers_146 rfl ⟨by rw [e, hs]; rfl, ⟨e6, by rw [e]; exact d0⟩, rfl⟩
      | cons x t =>
        obtain ⟨k, hk, hm2⟩ := mlp_c hm hs hst
        have hk : m = k := by omega
        subst hk
        rw [hst] at d1 d6 d8
        rw [List.length_cons] at d1 d8
        obtain ⟨f, e6⟩ := e6
        refine V_aload_n F dX7_gathers_54 rfl ?_
        refine V_get F fl_X7_151 dX7_gathers_55 (by assumption) rfl ?_
        refine V_if_le F 145 dX7_gathers_58 (by decide) (fun c58 => absurd c58 (nI_nle (by omega) (by omega))) (fun c58 => ?_)
        refine V_aload_n F dX7_gathers_61 rfl ?_
        refine V_ivR F iv_X7_160 dX7_gathers_62 (As := []) (c_X7_pop d1 e6 d4 d5 d6 (by omega)) (by assumption) rfl rfl rfl rfl ?_
        refine V_istore_n F dX7_gathers_65 (Nat.le_of_ble_eq_true rfl) ?_
        show V _ _ _ _ _ _ _ _ [_, _, _, _, _] _
        have s1 : DS G M (mset (mset M1 (gB G + 816) (objM G nq st lm lmo lq (nI t.length) (nI s.2.1))) (gB G + 822) (eJ (gT G) 12 (mc x.1))) nq st lm lmo lq (true, s.2.1, s.2.2.1, t) := by
          refine DS.four (s := (true, s.2.1, s.2.2.1, t)) ⟨mset_eq _ _ _, ⟨g, (mset_ne _ _ (by omega)).trans d2, d3⟩, ⟨p, pb, (mset_ne _ _ (by omega)).trans d4, (mset_ne _ _ (by omega)).trans d5, d6.2.2⟩, d7, by show t.length ≤ 2000; omega, fun z h1 h2 h3 h4 h5 => (mset_ne _ _ h1).trans (d9 z h1 h2 h3 h4 h5)⟩ _
        have e6' := mset_eq (mset M1 (gB G + 816) (objM G nq st lm lmo lq (nI t.length) (nI s.2.1))) (gB G + 822) (eJ (gT G) 12 (mc x.1))
        generalize mset (mset M1 (gB G + 816) (objM G nq st lm lmo lq (nI t.length) (nI s.2.1))) (gB G + 822) (eJ (gT G) 12 (mc x.1)) = M2 at s1 e6' ⊢
        generalize hs2 : (true, s.2.1, s.2.2.1, t) = s2 at s1 hm2
        have hs2t : s2.1 = true := by rw [← hs2]
        have o2 := s1.1
        refine V_aload_n F dX7_gathers_66 rfl ?_
        refine V_iload_n F dX7_gathers_67 rfl ?_
        refine V_ivR F iv_X7_163 dX7_gathers_68 (As := [_]) (c_X7_areUpTo o2 e6' mo) (by assumption) rfl rfl rfl rfl ?_
        unfold mstep at hm2
        refine V_if_eq F 142 dX7_gathers_71 (by decide) (fun c71 => ?_) (fun c71 => ?_)
        · rw [bI_0] at c71
          rw [if_neg (by rw [c71]; decide)] at hm2
          refine V_goto F 54 dX7_gathers_142 (by decide) ?_
          exact V_drop 3 (ih s2 M2 hm2 hs2t ⟨_, e6'⟩ s1)
        · rw [bI_n] at c71
          rw [if_pos c71] at hm2
          unfold mw4 at hm2
          refine V_iconst F dX7_gathers_74 ki_0 ?_
          refine V_istore F dX7_gathers_75 (Nat.le_of_ble_eq_true rfl) ?_
          show V _ _ _ _ _ _ _ _ [_, _, _, _, _] _
          refine one x.1 x.2 0 s2 M2 (by omega) hs2t e6' s1 (fun q => ?_) (fun M3 q0 e60 x0 => ?_)
          · rw [mw1_f q, mw1_f q, mw1_f q, mlp_f q] at hm2
            exact (Option.some.inj hm2).symm
          · refine one x.1 x.2 1 _ M3 (by omega) q0 e60 x0 (fun q => ?_) (fun M4 q1 e61 x1 => ?_)
            · rw [mw1_f q, mw1_f q, mlp_f q] at hm2
              exact (Option.some.inj hm2).symm
            · refine one x.1 x.2 2 _ M4 (by omega) q1 e61 x1 (fun q => ?_) (fun M5 q2 e62 x2 => ?_)
              · rw [mw1_f q, mlp_f q] at hm2
                exact (Option.some.inj hm2).symm
              · refine one x.1 x.2 3 _ M5 (by omega) q2 e62 x2 (fun q => ?_) (fun M6 q3 e63 x3 => ?_)
                · rw [mlp_f q] at hm2
                  exact (Option.some.inj hm2).symm
                · refine V_iload F dX7_gathers_77 rfl ?_
                  refine V_iconst F dX7_gathers_79 ki_4 ?_
                  refine V_icmp_ge F 142 dX7_gathers_80 (by decide) (fun c80 => ?_) (fun c80 => absurd (by decide) c80)
                  refine V_goto F 54 dX7_gathers_142 (by decide) ?_
                  exact V_drop 3 (V_drop 4 (ih _ M6 hm2 q3 ⟨_, e63⟩ x3))
  refine V_aload_n F dX7_gathers_0 rfl ?_
  refine V_iconst F dX7_gathers_1 ki_0 ?_
  refine V_put F fl_X7_144 dX7_gathers_2 (by assumption) rfl rfl (Nat.le_of_ble_eq_true rfl) ?_
  refine V_aload_n F dX7_gathers_5 rfl ?_
  refine V_iconst F dX7_gathers_6 ki_0 ?_
  refine V_put F fl_X7_151 dX7_gathers_7 (mset_eq _ _ _) rfl rfl (Nat.le_of_ble_eq_true rfl) ?_
  refine V_iconst F dX7_gathers_10 ki_0 ?_
  refine V_istore_n F dX7_gathers_11 (Nat.le_of_ble_eq_true rfl) ?_
  show V _ _ _ _ _ _ _ _ [_, _, _, _, _] _
  have D0 : DS G M (mset (mset M (gB G + 816) (objM G nq st lm lmo lq pd (nI 0))) (gB G + 816) (objM G nq st lm lmo lq (nI 0) (nI 0))) nq st lm lmo lq (true, 0, lst, []) := by
    rw [mset_mset]
    exact ⟨mset_eq _ _ _, ⟨g, (mset_ne _ _ (by omega)).trans h9, fun k w hk => absurd hk (Nat.not_lt_zero _)⟩, ⟨p, pb, (mset_ne _ _ (by omega)).trans h7, (mset_ne _ _ (by omega)).trans h8, trivial⟩, Nat.zero_le _, Nat.zero_le _, fun z h1 _ _ _ _ => mset_ne _ _ h1⟩
  have E0 : mset (mset M (gB G + 816) (objM G nq st lm lmo lq pd (nI 0))) (gB G + 816) (objM G nq st lm lmo lq (nI 0) (nI 0)) (gB G + 822) = some (eJ (gT G) 12 (mc c)) := by
    rw [mset_ne _ _ (by omega), mset_ne _ _ (by omega)]; exact h6
  unfold mgth g4 at hr
  refine first 0 _ _ (by omega) rfl E0 D0 (fun q => ?_) (fun M1 q0 e60 x0 => ?_)
  · rw [g1_f q, g1_f q, g1_f q, if_pos q] at hr
    exact (Option.some.inj hr).symm
  · refine first 1 _ M1 (by omega) q0 e60 x0 (fun q => ?_) (fun M2 q1 e61 x1 => ?_)
    · rw [g1_f q, g1_f q, if_pos q] at hr
      exact (Option.some.inj hr).symm
    · refine first 2 _ M2 (by omega) q1 e61 x1 (fun q => ?_) (fun M3 q2 e62 x2 => ?_)
      · rw [g1_f q, if_pos q] at hr
        exact (Option.some.inj hr).symm
      · refine first 3 _ M3 (by omega) q2 e62 x2 (fun q => ?_) (fun M4 q3 e63 x3 => ?_)
        · rw [if_pos q] at hr
          exact (Option.some.inj hr).symm
        · rw [if_neg (by rw [q3]; decide)] at hr
          have hws : (g1 c mo 3 (g1 c mo 2 (g1 c mo 1 (g1 c mo 0 (true, 0, lst, []))))).2.2.2 = [] := by rw [g1_ws, g1_ws, g1_ws, g1_ws]
          generalize g1 c mo 3 (g1 c mo 2 (g1 c mo 1 (g1 c mo 0 (true, 0, lst, [])))) = s at hr q3 x3 hws
          obtain ⟨d1, ⟨g, d2, d3⟩, ⟨p, pb, d4, d5, d6⟩, d7, d8, d9⟩ := x3
          refine V_iload_n F dX7_gathers_12 rfl ?_
          refine V_iconst F dX7_gathers_13 ki_4 ?_
          refine V_icmp_ge F 47 dX7_gathers_14 (by decide) (fun c14 => ?_) (fun c14 => absurd (by decide) c14)
          rw [hws] at d1 d6
          refine V_aload_n F dX7_gathers_47 rfl ?_
          refine V_bipush F dX7_gathers_48 kb_m3 ?_
          refine V_ivP F iv_X7_157 dX7_gathers_50 (As := [_]) (c_X7_push (l := []) d1 e63 d4 d5 d6 (by decide) (-3)) (by assumption) rfl rfl rfl rfl ?_
          rintro v M5 n5 ⟨rfl, ⟨p1, ⟨p', pb', p2, p3, p4⟩, p5⟩, rfl⟩
          refine V_istore_n F dX7_gathers_53 (Nat.le_of_ble_eq_true rfl) ?_
          show V _ _ _ _ _ _ _ _ [_, _, _, _, _] _
          exact loop m _ M5 hr rfl ⟨_, (p5 _ (by omega) (by omega) (by omega)).trans e63⟩ ⟨p1, ⟨g, (p5 _ (by omega) (by omega) (by omega)).trans d2, d3⟩, ⟨p', pb', p2, p3, p4⟩, d7, by show 1 ≤ 2000; omega, fun z h1 h2 h3 h4 h5 => (p5 z h1 h3 h4).trans (d9 z h1 h2 h3 h4 h5)⟩
end MOD14
