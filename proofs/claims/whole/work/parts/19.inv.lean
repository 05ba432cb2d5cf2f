def inR (x : Int32) (m : Nat) : Bool := decide (0 ≤ x) && decide (x < nI m)
theorem inR_t {x : Int32} {m : Nat} (hm : m < 2 ^ 31) (h : inR x m = true) : ∃ k, k < m ∧ x = nI k := by
  unfold inR at h
  simp only [Bool.and_eq_true, decide_eq_true_eq] at h
  rcases pk_ix x hm with q | q | q
  · exact absurd q (Int32.not_lt.mpr h.1)
  · exact absurd q (Int32.not_le.mpr h.2)
  · exact q
theorem inR_nI {k m : Nat} (hm : m < 2 ^ 31) (h : k < m) : inR (nI k) m = true := by
  unfold inR
  simp only [Bool.and_eq_true, decide_eq_true_eq]
  exact ⟨nI_pos' (by omega), nI_lt h hm⟩
theorem inR_not {x : Int32} {m : Nat} (hm : m < 2 ^ 31) (h : ¬ ∃ k, k < m ∧ x = nI k) : inR x m = false := by
  cases e : inR x m with
  | false => rfl
  | true => exact absurd (inR_t hm e) h
def ix (x : Int32) : Nat := x.toNatClampNeg
theorem ix_nI {k : Nat} (h : k < 2 ^ 31) : ix (nI k) = k := nI_clamp h
abbrev Sg : Type := (Nat → Int32) × (Nat → Nat) × (Nat → Nat → Int64) × Nat × (Nat → Qd) × (Nat → Int32) × (Nat → Int32) × (Nat → Nat → Int64) × Nat × Nat × Int32
abbrev sKd (s : Sg) : Nat → Int32 := s.1
abbrev sLn (s : Sg) : Nat → Nat := s.2.1
abbrev sPl (s : Sg) : Nat → Nat → Int64 := s.2.2.1
abbrev sNq (s : Sg) : Nat := s.2.2.2.1
abbrev sQc (s : Sg) : Nat → Qd := s.2.2.2.2.1
abbrev sQf (s : Sg) : Nat → Int32 := s.2.2.2.2.2.1
abbrev sQs (s : Sg) : Nat → Int32 := s.2.2.2.2.2.2.1
abbrev sLst (s : Sg) : Nat → Nat → Int64 := s.2.2.2.2.2.2.2.1
abbrev sS (s : Sg) : Nat := s.2.2.2.2.2.2.2.2.1
abbrev sMo (s : Sg) : Nat := s.2.2.2.2.2.2.2.2.2.1
abbrev sSe (s : Sg) : Int32 := s.2.2.2.2.2.2.2.2.2.2
def bkA (G : GP) (M : Mem) (nq la lb : Nat) : Prop := M (gB G) = some (eO 6 [.ref (gB G + 1), .ref (gB G + 2), .int (nI nq), .ref (gB G + 3), .ref (gB G + 5), .ref (gB G + 7), .ref (gB G + la), .ref (gB G + lb)])
def bkJ (G : GP) (M : Mem) : Prop := (∃ g, M (gB G + 1) = some (eQ (gT G) 2 6 g) ∧ ∀ r, r < 6 → g r = some (gB G + 504 + 2 * r)) ∧ (∃ g, M (gB G + 2) = some (eQ (gT G) 3 60 g) ∧ ∀ k, k < 60 → g k = some (gB G + 516 + 5 * k)) ∧ M (gB G + 3) = some (eO 1 [.ref (gB G + 4)]) ∧ (∃ c, M (gB G + 4) = some (eJ (gT G) 12 (fc c))) ∧ (∃ e f, M (gB G + 5) = some (eO 5 [.ref (gB G + 6), e]) ∧ M (gB G + 6) = some (eI (gT G) 3840 f)) ∧ ∃ ws, seaA G M ws
def bkL (G : GP) (M : Mem) (la lb : Nat) (lst : Nat → Nat → Int64) (S mo : Nat) (se : Int32) : Prop := lstA G la M lst S (nI mo) se ∧ S ≤ 240 ∧ mo ≤ 2000 ∧ ∃ lst' S' mo' se', lstA G lb M lst' S' mo' se'
def bagO (G : GP) (M : Mem) (kd : Nat → Int32) (ln : Nat → Nat) (pl : Nat → Nat → Int64) (r : Nat) : Prop := M (gB G + 504 + 2 * r) = some (eO 0 [.ref (gB G + 505 + 2 * r), .int (kd r), .int (nI (ln r))]) ∧ M (gB G + 505 + 2 * r) = some (eJ (gT G) 24 (pl r)) ∧ ln r ≤ 24
def bkG (G : GP) (M : Mem) (kd : Nat → Int32) (ln : Nat → Nat) (pl : Nat → Nat → Int64) : Prop := ∀ r, r < 6 → bagO G M kd ln pl r
def quadO (G : GP) (M : Mem) (k : Nat) (c d : Qd) (v2 v3 v4 : Value) : Prop := M (gB G + 516 + 5 * k) = some (eO 4 [.ref (gB G + 517 + 5 * k), .ref (gB G + 519 + 5 * k), v2, v3, v4]) ∧ M (gB G + 517 + 5 * k) = some (eO 1 [.ref (gB G + 518 + 5 * k)]) ∧ M (gB G + 518 + 5 * k) = some (eJ (gT G) 12 (fc c)) ∧ M (gB G + 519 + 5 * k) = some (eO 1 [.ref (gB G + 520 + 5 * k)]) ∧ M (gB G + 520 + 5 * k) = some (eJ (gT G) 12 (fc d))
def bkQ (G : GP) (M : Mem) (nq : Nat) (qc : Nat → Qd) (qf qs : Nat → Int32) : Prop := ∀ k, k < 60 → (k < nq → quadO G M k (qc k) (gd 100000 (qc k)).2 (.int (qf k)) (.int (nI (gd 100000 (qc k)).1)) (.int (qs k))) ∧ ∃ c d v2 v3 v4, quadO G M k c d v2 v3 v4
def InvC (G : GP) (M : Mem) (s : Sg) : Prop := ∃ la lb, ((la = 494 ∧ lb = 499) ∨ (la = 499 ∧ lb = 494)) ∧ bkA G M (sNq s) la lb ∧ bkJ G M ∧ bkL G M la lb (sLst s) (sS s) (sMo s) (sSe s) ∧ bkG G M (sKd s) (sLn s) (sPl s) ∧ bkQ G M (sNq s) (sQc s) (sQf s) (sQs s) ∧ sNq s ≤ 60
theorem bkJ.frame {G : GP} {M M' : Mem} (h : bkJ G M) (e : ∀ z, gB G + 1 ≤ z → z < gB G + 494 → M' z = M z) : bkJ G M' := by
  obtain ⟨⟨g1, a1, a2⟩, ⟨g2, b1, b2⟩, c1, ⟨c, c2⟩, ⟨x, f, d1, d2⟩, ⟨ws, w⟩⟩ := h
  exact ⟨⟨g1, (e _ (by omega) (by omega)).trans a1, a2⟩, ⟨g2, (e _ (by omega) (by omega)).trans b1, b2⟩, (e _ (by omega) (by omega)).trans c1, ⟨c, (e _ (by omega) (by omega)).trans c2⟩, ⟨x, f, (e _ (by omega) (by omega)).trans d1, (e _ (by omega) (by omega)).trans d2⟩, ⟨ws, w.frame (fun z z1 z2 => e z (by omega) z2)⟩⟩
theorem bkL.frame {G : GP} {M M' : Mem} {la lb : Nat} {lst : Nat → Nat → Int64} {S mo : Nat} {se : Int32} (hl : (la = 494 ∧ lb = 499) ∨ (la = 499 ∧ lb = 494)) (h : bkL G M la lb lst S mo se) (e : ∀ z, gB G + 494 ≤ z → z < gB G + 504 → M' z = M z) : bkL G M' la lb lst S mo se := by
  obtain ⟨h1, h2, h3, l', S', m', s', h4⟩ := h
  exact ⟨h1.frame (fun z z1 z2 => e z (by omega) (by omega)), h2, h3, l', S', m', s', h4.frame (fun z z1 z2 => e z (by omega) (by omega))⟩
theorem bkG.frame {G : GP} {M M' : Mem} {kd : Nat → Int32} {ln : Nat → Nat} {pl : Nat → Nat → Int64} (h : bkG G M kd ln pl) (e : ∀ z, gB G + 504 ≤ z → z < gB G + 516 → M' z = M z) : bkG G M' kd ln pl := fun r hr => ⟨(e _ (by omega) (by omega)).trans (h r hr).1, (e _ (by omega) (by omega)).trans (h r hr).2.1, (h r hr).2.2⟩
theorem quadO.frame {G : GP} {M M' : Mem} {k : Nat} {c d : Qd} {v2 v3 v4 : Value} (h : quadO G M k c d v2 v3 v4) (e : ∀ z, gB G + 516 + 5 * k ≤ z → z < gB G + 521 + 5 * k → M' z = M z) : quadO G M' k c d v2 v3 v4 := ⟨(e _ (by omega) (by omega)).trans h.1, (e _ (by omega) (by omega)).trans h.2.1, (e _ (by omega) (by omega)).trans h.2.2.1, (e _ (by omega) (by omega)).trans h.2.2.2.1, (e _ (by omega) (by omega)).trans h.2.2.2.2⟩
theorem bkQ.frame {G : GP} {M M' : Mem} {nq : Nat} {qc : Nat → Qd} {qf qs : Nat → Int32} (h : bkQ G M nq qc qf qs) (e : ∀ z, gB G + 516 ≤ z → z < gB G + 816 → M' z = M z) : bkQ G M' nq qc qf qs := fun k hk => by
  obtain ⟨h1, c, d, v2, v3, v4, h2⟩ := h k hk
  exact ⟨fun q => (h1 q).frame (fun z z1 z2 => e z (by omega) (by omega)), c, d, v2, v3, v4, h2.frame (fun z z1 z2 => e z (by omega) (by omega))⟩
/-- the post of a method of the class: answer, next state, nothing else changed -/
def PC (G : GP) (M : Mem) (v : Int32) (s : Sg) : Option Value → Mem → Option Nat → Prop := fun v' M' n' => v' = some (.int v) ∧ InvC G M' s ∧ (∀ z, z < gB G ∨ gB G + 816 ≤ z → M' z = M z) ∧ n' = none
section CLS
variable {G : GP} {M : Mem} {n : Option Nat} {s : Sg}
theorem c_X6_isBag (x : Int32) : Con G yX6_isBag cX6_isBag 1 (some .boolean) 0 0 0 [.int x] M n (R1 (some (.int (bI (inR x 6)))) M n) := by
  refine Con.of (by decide +kernel) (Nat.le_of_ble_eq_true rfl) (fun X F hnm => ?_)
  show V G X 0 0 _ M _ 0 [some (.int x)] []
  refine V_iload_n F dX6_isBag_0 rfl ?_
  refine V_if_lt F 14 dX6_isBag_1 (by decide) (fun c1 => ?_) (fun c1 => ?_)
  · refine V_iconst F dX6_isBag_14 ki_0 ?_
    exact V_iret F rfl dX6_isBag_15 rfl ⟨rf (by simp only [inR, Bool.and_eq_false_iff]; exact Or.inl (decide_eq_false (Int32.not_le.mpr c1))), rfl, rfl⟩
  · refine V_iload_n F dX6_isBag_4 rfl ?_
    refine V_bipush F dX6_isBag_5 kb_6 ?_
    refine V_icmp_ge F 14 dX6_isBag_7 (by decide) (fun c7 => ?_) (fun c7 => ?_)
    · refine V_iconst F dX6_isBag_14 ki_0 ?_
      exact V_iret F rfl dX6_isBag_15 rfl ⟨rf (by simp only [inR, Bool.and_eq_false_iff]; exact Or.inr (decide_eq_false (Int32.not_lt.mpr c7))), rfl, rfl⟩
    · refine V_iconst F dX6_isBag_10 ki_1 ?_
      refine V_goto F 15 dX6_isBag_11 (by decide) ?_
      exact V_iret F rfl dX6_isBag_15 rfl ⟨rt (by simp only [inR, Bool.and_eq_true]; exact ⟨decide_eq_true (Int32.not_lt.mp c1), decide_eq_true (Int32.not_le.mp c7)⟩), rfl, rfl⟩
theorem c_X6_isCoin (x : Int32) : Con G yX6_isCoin cX6_isCoin 1 (some .boolean) 0 0 0 [.int x] M n (R1 (some (.int (bI (inR x 4)))) M n) := by
  refine Con.of (by decide +kernel) (Nat.le_of_ble_eq_true rfl) (fun X F hnm => ?_)
  show V G X 0 0 _ M _ 0 [some (.int x)] []
  refine V_iload_n F dX6_isCoin_0 rfl ?_
  refine V_if_lt F 13 dX6_isCoin_1 (by decide) (fun c1 => ?_) (fun c1 => ?_)
  · refine V_iconst F dX6_isCoin_13 ki_0 ?_
    exact V_iret F rfl dX6_isCoin_14 rfl ⟨rf (by simp only [inR, Bool.and_eq_false_iff]; exact Or.inl (decide_eq_false (Int32.not_le.mpr c1))), rfl, rfl⟩
  · refine V_iload_n F dX6_isCoin_4 rfl ?_
    refine V_iconst F dX6_isCoin_5 ki_4 ?_
    refine V_icmp_ge F 13 dX6_isCoin_6 (by decide) (fun c6 => ?_) (fun c6 => ?_)
    · refine V_iconst F dX6_isCoin_13 ki_0 ?_
      exact V_iret F rfl dX6_isCoin_14 rfl ⟨rf (by simp only [inR, Bool.and_eq_false_iff]; exact Or.inr (decide_eq_false (Int32.not_lt.mpr c6))), rfl, rfl⟩
    · refine V_iconst F dX6_isCoin_9 ki_1 ?_
      refine V_goto F 14 dX6_isCoin_10 (by decide) ?_
      exact V_iret F rfl dX6_isCoin_14 rfl ⟨rt (by simp only [inR, Bool.and_eq_true]; exact ⟨decide_eq_true (Int32.not_lt.mp c1), decide_eq_true (Int32.not_le.mp c6)⟩), rfl, rfl⟩
theorem lt3 (x : Int32) : x < nI 3 ↔ ¬ nI 2 < x := by
  rw [Int32.lt_iff_toInt_lt, Int32.lt_iff_toInt_lt, nI_toInt (by omega), nI_toInt (by omega)]
  omega
theorem c_X6_isWhat (x : Int32) : Con G yX6_isWhat cX6_isWhat 1 (some .boolean) 0 0 0 [.int x] M n (R1 (some (.int (bI (inR x 3)))) M n) := by
  refine Con.of (by decide +kernel) (Nat.le_of_ble_eq_true rfl) (fun X F hnm => ?_)
  show V G X 0 0 _ M _ 0 [some (.int x)] []
  refine V_iload_n F dX6_isWhat_0 rfl ?_
  refine V_if_lt F 13 dX6_isWhat_1 (by decide) (fun c1 => ?_) (fun c1 => ?_)
  · refine V_iconst F dX6_isWhat_13 ki_0 ?_
    exact V_iret F rfl dX6_isWhat_14 rfl ⟨rf (by simp only [inR, Bool.and_eq_false_iff]; exact Or.inl (decide_eq_false (Int32.not_le.mpr c1))), rfl, rfl⟩
  · refine V_iload_n F dX6_isWhat_4 rfl ?_
    refine V_iconst F dX6_isWhat_5 ki_2 ?_
    refine V_icmp_gt F 13 dX6_isWhat_6 (by decide) (fun c6 => ?_) (fun c6 => ?_)
    · refine V_iconst F dX6_isWhat_13 ki_0 ?_
      exact V_iret F rfl dX6_isWhat_14 rfl ⟨rf (by simp only [inR, Bool.and_eq_false_iff]; exact Or.inr (decide_eq_false (fun z => (lt3 x).mp z c6))), rfl, rfl⟩
    · refine V_iconst F dX6_isWhat_9 ki_1 ?_
      refine V_goto F 14 dX6_isWhat_10 (by decide) ?_
      exact V_iret F rfl dX6_isWhat_14 rfl ⟨rt (by simp only [inR, Bool.and_eq_true]; exact ⟨decide_eq_true (Int32.not_lt.mp c1), decide_eq_true ((lt3 x).mpr c6)⟩), rfl, rfl⟩
theorem c_X6_isQuad {nq la lb : Nat} (h : bkA G M nq la lb) (x : Int32) : Con G yX6_isQuad cX6_isQuad 2 (some .boolean) 0 0 0 [.ref (gB G), .int x] M n (R1 (some (.int (bI (inR x nq)))) M n) := by
  unfold bkA at h
  refine Con.of (by decide +kernel) (Nat.le_of_ble_eq_true rfl) (fun X F hnm => ?_)
  show V G X 0 0 _ M _ 0 [some (.ref (gB G)), some (.int x)] []
  refine V_iload_n F dX6_isQuad_0 rfl ?_
  refine V_if_lt F 16 dX6_isQuad_1 (by decide) (fun c1 => ?_) (fun c1 => ?_)
  · refine V_iconst F dX6_isQuad_16 ki_0 ?_
    exact V_iret F rfl dX6_isQuad_17 rfl ⟨rf (by simp only [inR, Bool.and_eq_false_iff]; exact Or.inl (decide_eq_false (Int32.not_le.mpr c1))), rfl, rfl⟩
  · refine V_iload_n F dX6_isQuad_4 rfl ?_
    refine V_aload_n F dX6_isQuad_5 rfl ?_
    refine V_get F fl_X6_21 dX6_isQuad_6 (by assumption) rfl ?_
    refine V_icmp_ge F 16 dX6_isQuad_9 (by decide) (fun c9 => ?_) (fun c9 => ?_)
    · refine V_iconst F dX6_isQuad_16 ki_0 ?_
      exact V_iret F rfl dX6_isQuad_17 rfl ⟨rf (by simp only [inR, Bool.and_eq_false_iff]; exact Or.inr (decide_eq_false (Int32.not_lt.mpr c9))), rfl, rfl⟩
    · refine V_iconst F dX6_isQuad_12 ki_1 ?_
      refine V_goto F 17 dX6_isQuad_13 (by decide) ?_
      exact V_iret F rfl dX6_isQuad_17 rfl ⟨rt (by simp only [inR, Bool.and_eq_true]; exact ⟨decide_eq_true (Int32.not_lt.mp c1), decide_eq_true (Int32.not_le.mp c9)⟩), rfl, rfl⟩
def fbt (i j : Nat) : Nat := if 0 ≠ i ∧ 0 ≠ j then 0 else if 1 ≠ i ∧ 1 ≠ j then 1 else 2
theorem c_X6_firstBut {i j : Nat} (hi : i < 4) (hj : j < 4) : Con G yX6_firstBut cX6_firstBut 3 (some .int) 0 0 0 [.int (nI i), .int (nI j)] M n (R1 (some (.int (nI (fbt i j)))) M n) := by
  refine Con.of (by decide +kernel) (Nat.le_of_ble_eq_true rfl) (fun X F hnm => ?_)
  show V G X 0 0 _ M _ 0 [some (.int (nI i)), some (.int (nI j)), none] []
  have step : ∀ k : Nat, k < 2 → (¬ (k ≠ i ∧ k ≠ j) → V G X 0 0 (BQ G X (R1 (some (.int (nI (fbt i j)))) M n) 0 0) M n 2 [some (.int (nI i)), some (.int (nI j)), some (.int (nI (k + 1)))] []) → (k ≠ i ∧ k ≠ j → fbt i j = k) → V G X 0 0 (BQ G X (R1 (some (.int (nI (fbt i j)))) M n) 0 0) M n 2 [some (.int (nI i)), some (.int (nI j)), some (.int (nI k))] [] := by
    intro k hk kk kf
    refine V_iload_n F dX6_firstBut_2 rfl ?_
    refine V_iconst F dX6_firstBut_3 ki_2 ?_
    refine V_icmp_ge F 25 dX6_firstBut_4 (by decide) (fun c4 => absurd c4 (nI_ge hk (by omega))) (fun c4 => ?_)
    refine V_iload_n F dX6_firstBut_7 rfl ?_
    refine V_iload_n F dX6_firstBut_8 rfl ?_
    refine V_icmp_eq F 19 dX6_firstBut_9 (by decide) (fun c9 => ?_) (fun c9 => ?_)
    · rw [nI_eq (by omega) (by omega)] at c9
      refine V_iinc1 F dX6_firstBut_19 rfl ?_
      show V _ _ _ _ _ _ _ _ [_, _, _] _
      refine V_goto F 2 dX6_firstBut_22 (by decide) ?_
      exact kk (fun z => z.1 c9)
    · rw [nI_eq (by omega) (by omega)] at c9
      refine V_iload_n F dX6_firstBut_12 rfl ?_
      refine V_iload_n F dX6_firstBut_13 rfl ?_
      refine V_icmp_eq F 19 dX6_firstBut_14 (by decide) (fun c14 => ?_) (fun c14 => ?_)
      · rw [nI_eq (by omega) (by omega)] at c14
        refine V_iinc1 F dX6_firstBut_19 rfl ?_
        show V _ _ _ _ _ _ _ _ [_, _, _] _
        refine V_goto F 2 dX6_firstBut_22 (by decide) ?_
        exact kk (fun z => z.2 c14)
      · rw [nI_eq (by omega) (by omega)] at c14
        refine V_iload_n F dX6_firstBut_17 rfl ?_
        exact V_iret F rfl dX6_firstBut_18 rfl ⟨by rw [kf ⟨c9, c14⟩], rfl, rfl⟩
  refine V_iconst F dX6_firstBut_0 ki_0 ?_
  refine V_istore_n F dX6_firstBut_1 (Nat.le_of_ble_eq_true rfl) ?_
  show V _ _ _ _ _ _ _ _ [_, _, _] _
  refine step 0 (by omega) (fun q0 => step 1 (by omega) (fun q1 => ?_) (fun z => ?_)) (fun z => ?_)
  · refine V_iload_n F dX6_firstBut_2 rfl ?_
    refine V_iconst F dX6_firstBut_3 ki_2 ?_
    refine V_icmp_ge F 25 dX6_firstBut_4 (by decide) (fun c4 => ?_) (fun c4 => absurd (by decide) c4)
    refine V_iconst F dX6_firstBut_25 ki_2 ?_
    exact V_iret F rfl dX6_firstBut_26 rfl ⟨by unfold fbt; rw [if_neg q0, if_neg q1], rfl, rfl⟩
  · unfold fbt; rw [if_neg q0, if_pos z]
  · unfold fbt; rw [if_pos z]
end CLS
