def S_listed (s : Sg) (i w : Int32) : Int32 := if inR w 3 = false then -20000000 else if inR i (sS s) = true then (sLst s (ix i) (ix w)).toInt32 else -20000001
def fnd (lst : Nat → Nat → Int64) (b : Int32) : Nat → Nat
  | 0 => 0
  | k + 1 => fnd lst b k + if lst k 0 = b.toInt64 then 1 else 0
theorem fnd_le (lst : Nat → Nat → Int64) (b : Int32) : ∀ k, fnd lst b k ≤ k
  | 0 => Nat.le_refl _
  | k + 1 => by unfold fnd; have := fnd_le lst b k; split <;> omega
def S_find (s : Sg) (b : Int32) : Int32 := nI (fnd (sLst s) b (sS s))
def S_left (s : Sg) (i : Int32) : Int32 := if i < 0 then -1 else bl (sLst s) (sS s) (sSe s) (ix i) (sMo s) 1 0 0
def S_count (s : Sg) (w : Int32) : Int32 := if w = 0 then nI (sNq s) else if w = 1 then nI (sS s) else if w = 2 then nI (sMo s) else -1
def ulist (s : Sg) (lst : Nat → Nat → Int64) (S mo : Nat) (se : Int32) : Sg := (s.1, s.2.1, s.2.2.1, s.2.2.2.1, s.2.2.2.2.1, s.2.2.2.2.2.1, s.2.2.2.2.2.2.1, lst, S, mo, se)
def rootq (s : Sg) (q : Nat) : Qd := (gd 100000 (sQc s q)).2
def CLres (s : Sg) (q mo : Int32) (g : St) : Int32 × Sg := if g.1 = false then (-4, s) else (nI g.2.1, ulist s g.2.2.1 g.2.1 (ix mo) (sQs s (ix q)))
/-- the class's list(): from some junk list (j, S0 = 0) on -/
def S_list (s : Sg) (q mo : Int32) (j : Nat → Nat → Int64) : Int32 × Sg := if inR q (sNq s) = false ∨ mo < nI 1 ∨ nI 2000 < mo then (-1, s) else CLres s q mo (gth (rootq s (ix q)) mo j 0)
def kOk (k : Int32) : Prop := -100 ≤ k ∧ k ≤ nI 100
def chn (c : Qd) (i j : Nat) (k : Int32) (w : Nat) : Int32 :=
  if 0 ≤ k then
    (if (ga (ix k - 1) (fbt i j) (6 - i - j - fbt i j) c).1 = false then -20000002 else ((ga (ix k - 1) (fbt i j) (6 - i - j - fbt i j) c).2 (if ix k % 2 = 0 then fbt i j else 6 - i - j - fbt i j) w).toInt32)
  else
    (if (ga (ix (-k)) (6 - i - j - fbt i j) (fbt i j) c).1 = false then -20000002 else ((ga (ix (-k)) (6 - i - j - fbt i j) (fbt i j) c).2 (if ix (-k) % 2 = 0 then fbt i j else 6 - i - j - fbt i j) w).toInt32)
def S_chain (s : Sg) (q i j k w : Int32) : Int32 := if inR q (sNq s) = true ∧ inR i 4 = true ∧ inR j 4 = true ∧ i ≠ j ∧ (-100 ≤ k ∧ k ≤ nI 100) ∧ inR w 3 = true then chn (sQc s (ix q)) (ix i) (ix j) k (ix w) else -20000000
section CLS3
variable {G : GP} {M : Mem} {s : Sg}
theorem c_X6_count (h : InvC G M s) (w : Int32) : Con G yX6_count cX6_count 2 (some .int) 0 0 0 [.ref (gB G), .int w] M none (PC G M (S_count s w) s) := by
  have hI := h
  obtain ⟨la, lb, hlab, hA, hJ, ⟨l1, l2, l3, -⟩, hG, hQ, h60⟩ := h
  unfold bkA at hA
  generalize hR : S_count s w = R
  unfold S_count at hR
  refine Con.of (by decide +kernel) (Nat.le_of_ble_eq_true rfl) (fun X F hnm => ?_)
  show V G X 0 0 _ M _ 0 [some (.ref (gB G)), some (.int w)] []
  refine V_iload_n F dX6_count_0 rfl ?_
  have e0 : (0 : Int32).toInt = 0 := by decide
  have e1 : (1 : Int32).toInt = 1 := by decide
  have e2 : (2 : Int32).toInt = 2 := by decide
  by_cases w0 : w = 0
  · subst w0
    rw [if_pos rfl] at hR
    subst hR
    refine V_tableIn F (off := 27) 28 dX6_count_1 (by decide) (by decide) (by decide) (by decide) ?_
    refine V_aload_n F dX6_count_28 rfl ?_
    refine V_get F fl_X6_21 dX6_count_29 (by assumption) rfl ?_
    exact V_iret F rfl dX6_count_32 rfl ⟨rfl, hI, fun _ _ => rfl, rfl⟩
  · rw [if_neg w0] at hR
    by_cases w1 : w = 1
    · subst w1
      rw [if_pos rfl] at hR
      subst hR
      refine V_tableIn F (off := 32) 33 dX6_count_1 (by decide) (by decide) (by decide) (by decide) ?_
      refine V_aload_n F dX6_count_33 rfl ?_
      refine V_get F fl_X6_49 dX6_count_34 (by assumption) rfl ?_
      refine V_get F fl_X6_167 dX6_count_37 l1.1 rfl ?_
      exact V_iret F rfl dX6_count_40 rfl ⟨rfl, hI, fun _ _ => rfl, rfl⟩
    · rw [if_neg w1] at hR
      by_cases w2 : w = 2
      · subst w2
        rw [if_pos rfl] at hR
        subst hR
        refine V_tableIn F (off := 40) 41 dX6_count_1 (by decide) (by decide) (by decide) (by decide) ?_
        refine V_aload_n F dX6_count_41 rfl ?_
        refine V_get F fl_X6_49 dX6_count_42 (by assumption) rfl ?_
        refine V_get F fl_X6_186 dX6_count_45 l1.1 rfl ?_
        exact V_iret F rfl dX6_count_48 rfl ⟨rfl, hI, fun _ _ => rfl, rfl⟩
      · rw [if_neg w2] at hR
        subst hR
        refine V_tableOut F 49 dX6_count_1 ?_ (by decide) ?_
        · have a0 : ¬ w.toInt = 0 := fun z => w0 (Int32.toInt_inj.mp (z.trans e0.symm))
          have a1 : ¬ w.toInt = 1 := fun z => w1 (Int32.toInt_inj.mp (z.trans e1.symm))
          have a2 : ¬ w.toInt = 2 := fun z => w2 (Int32.toInt_inj.mp (z.trans e2.symm))
          omega
        · refine V_iconst F dX6_count_49 ki_m1 ?_
          exact V_iret F rfl dX6_count_50 rfl ⟨rfl, hI, fun _ _ => rfl, rfl⟩
theorem c_X6_listed (h : InvC G M s) (i w : Int32) : Con G yX6_listed cX6_listed 3 (some .int) 1 0 0 [.ref (gB G), .int i, .int w] M none (PC G M (S_listed s i w) s) := by
  have hI := h
  obtain ⟨la, lb, hlab, hA, hJ, ⟨l1, l2, l3, -⟩, hG, hQ, h60⟩ := h
  unfold bkA at hA
  obtain ⟨m0, ⟨g, m1, m2⟩, m3⟩ := l1
  generalize hR : S_listed s i w = R
  unfold S_listed at hR
  refine Con.of (by decide +kernel) (Nat.le_of_ble_eq_true rfl) (fun X F hnm => ?_)
  show V G X 0 0 _ M _ 0 [some (.ref (gB G)), some (.int i), some (.int w)] []
  refine V_iload_n F dX6_listed_0 rfl ?_
  refine V_isR F is_X6_130 dX6_listed_1 (As := [_]) (c_X6_isWhat _) rfl rfl rfl ?_
  refine V_if_ne F 10 dX6_listed_4 (by decide) (fun c4 => ?_) (fun c4 => ?_)
  · rw [bI_n] at c4
    rw [if_neg (by rw [c4]; decide)] at hR
    obtain ⟨v, hv, rfl⟩ := inR_t (by omega) c4
    rw [ix_nI (by omega)] at hR
    have no : inR i (sS s) = false → V G X 0 0 (BQ G X (PC G M R s) 0 0) M none 25 [some (.ref (gB G)), some (.int i), some (.int (nI v))] [] := by
      intro z
      rw [if_neg (by rw [z]; decide)] at hR
      subst hR
      refine V_ldc F dX6_listed_25 kc_X6_170 ?_
      exact V_iret F rfl dX6_listed_27 rfl ⟨rfl, hI, fun _ _ => rfl, rfl⟩
    refine V_iload_n F dX6_listed_10 rfl ?_
    refine V_if_lt F 25 dX6_listed_11 (by decide) (fun c11 => ?_) (fun c11 => ?_)
    · exact no (by simp only [inR, Bool.and_eq_false_iff]; exact Or.inl (decide_eq_false (Int32.not_le.mpr c11)))
    · refine V_iload_n F dX6_listed_14 rfl ?_
      refine V_aload_n F dX6_listed_15 rfl ?_
      refine V_get F fl_X6_49 dX6_listed_16 (by assumption) rfl ?_
      refine V_get F fl_X6_167 dX6_listed_19 (by assumption) rfl ?_
      refine V_icmp_lt F 28 dX6_listed_22 (by decide) (fun c22 => ?_) (fun c22 => ?_)
      · have hin : inR i (sS s) = true := by simp only [inR, Bool.and_eq_true]; exact ⟨decide_eq_true (Int32.not_lt.mp c11), decide_eq_true c22⟩
        rw [if_pos hin] at hR
        obtain ⟨k, hk, rfl⟩ := inR_t (by omega) hin
        rw [ix_nI (by omega)] at hR
        subst hR
        refine V_aload_n F dX6_listed_28 rfl ?_
        refine V_get F fl_X6_49 dX6_listed_29 (by assumption) rfl ?_
        refine V_get F fl_X6_171 dX6_listed_32 (by assumption) rfl ?_
        refine V_iload_n F dX6_listed_35 rfl ?_
        refine V_aaldN F 5 dX6_listed_36 (by assumption) rfl rfl _ (by first | (simp only [pk_mul, nI_add, nI_1, nI_inc]; done) | (simp only [pk_mul, nI_add, nI_1, nI_inc]; rfl) | rfl) (by omega) (by omega) (m2 v hv) ?_
        refine V_iload_n F dX6_listed_37 rfl ?_
        refine V_laldN F dX6_listed_38 (m3 v hv) _ (by first | (simp only [pk_mul, nI_add, nI_1, nI_inc]; done) | (simp only [pk_mul, nI_add, nI_1, nI_inc]; rfl) | rfl) (by omega) (by omega) ?_
        refine V_l2i F dX6_listed_39 ?_
        exact V_iret F rfl dX6_listed_40 rfl ⟨rfl, hI, fun _ _ => rfl, rfl⟩
      · exact no (by simp only [inR, Bool.and_eq_false_iff]; exact Or.inr (decide_eq_false c22))
  · rw [bI_0] at c4
    rw [if_pos c4] at hR
    subst hR
    refine V_ldc F dX6_listed_7 kc_X6_133 ?_
    exact V_iret F rfl dX6_listed_9 rfl ⟨rfl, hI, fun _ _ => rfl, rfl⟩
theorem c_X6_find (h : InvC G M s) (b : Int32) : Con G yX6_find cX6_find 4 (some .int) 0 0 0 [.ref (gB G), .int b] M none (PC G M (S_find s b) s) := by
  have hI := h
  obtain ⟨la, lb, hlab, hA, hJ, ⟨l1, l2, l3, -⟩, hG, hQ, h60⟩ := h
  unfold bkA at hA
  obtain ⟨m0, ⟨g, m1, m2⟩, m3⟩ := l1
  unfold S_find
  have hle := fnd_le (sLst s) b
  refine Con.of (by decide +kernel) (Nat.le_of_ble_eq_true rfl) (fun X F hnm => ?_)
  show V G X 0 0 _ M _ 0 [some (.ref (gB G)), some (.int b), none, none] []
  generalize hQ : BQ G X _ 0 0 = Q
  have loop : ∀ m k : Nat, m + k = sS s → V G X 0 0 Q M none 4 [some (.ref (gB G)), some (.int b), some (.int (nI (fnd (sLst s) b k))), some (.int (nI k))] [] := by
    intro m
    induction m with
    | zero =>
      intro k hk
      have hk : k = sS s := by omega
      subst hk
      subst hQ
      refine V_iload_n F dX6_find_4 rfl ?_
      refine V_aload_n F dX6_find_5 rfl ?_
      refine V_get F fl_X6_49 dX6_find_6 (by assumption) rfl ?_
      refine V_get F fl_X6_167 dX6_find_9 (by assumption) rfl ?_
      refine V_icmp_ge F 41 dX6_find_12 (by decide) (fun c12 => ?_) (fun c12 => absurd (nI_le (by omega) (by omega)) c12)
      refine V_iload_n F dX6_find_41 rfl ?_
      exact V_iret F rfl dX6_find_42 rfl ⟨rfl, hI, fun _ _ => rfl, rfl⟩
    | succ m ih =>
      intro k hk
      have hk1 := hle k
      have ih := ih (k + 1) (by omega)
      rw [show fnd (sLst s) b (k + 1) = fnd (sLst s) b k + (if sLst s k 0 = b.toInt64 then 1 else 0) from rfl] at ih
      refine V_iload_n F dX6_find_4 rfl ?_
      refine V_aload_n F dX6_find_5 rfl ?_
      refine V_get F fl_X6_49 dX6_find_6 (by assumption) rfl ?_
      refine V_get F fl_X6_167 dX6_find_9 (by assumption) rfl ?_
      refine V_icmp_ge F 41 dX6_find_12 (by decide) (fun c12 => absurd c12 (nI_ge (by omega) (by omega))) (fun c12 => ?_)
      refine V_aload_n F dX6_find_15 rfl ?_
      refine V_get F fl_X6_49 dX6_find_16 (by assumption) rfl ?_
      refine V_get F fl_X6_171 dX6_find_19 (by assumption) rfl ?_
      refine V_iconst F dX6_find_22 ki_0 ?_
      refine V_aaldN F 5 dX6_find_23 (by assumption) rfl rfl _ (by first | (simp only [pk_mul, nI_add, nI_1, nI_inc]; done) | (simp only [pk_mul, nI_add, nI_1, nI_inc]; rfl) | rfl) (by omega) (by omega) (m2 0 (by omega)) ?_
      refine V_iload_n F dX6_find_24 rfl ?_
      refine V_laldN F dX6_find_25 (m3 0 (by omega)) _ (by first | (simp only [pk_mul, nI_add, nI_1, nI_inc]; done) | (simp only [pk_mul, nI_add, nI_1, nI_inc]; rfl) | rfl) (by omega) (by omega) ?_
      refine V_iload_n F dX6_find_26 rfl ?_
      refine V_i2l F dX6_find_27 ?_
      refine V_lcmp F dX6_find_28 ?_
      refine V_if_ne F 35 dX6_find_29 (by decide) (fun c29 => ?_) (fun c29 => ?_)
      · rw [lcmp_eq] at c29
        rw [if_neg c29] at ih
        refine V_iinc1 F dX6_find_35 rfl ?_
        show V _ _ _ _ _ _ _ _ [_, _, _, _] _
        refine V_goto F 4 dX6_find_38 (by decide) ?_
        exact ih
      · rw [lcmp_eq] at c29
        rw [if_pos c29] at ih
        refine V_iinc1 F dX6_find_32 rfl ?_
        show V _ _ _ _ _ _ _ _ [_, _, _, _] _
        refine V_iinc1 F dX6_find_35 rfl ?_
        show V _ _ _ _ _ _ _ _ [_, _, _, _] _
        refine V_goto F 4 dX6_find_38 (by decide) ?_
        exact ih
  refine V_iconst F dX6_find_0 ki_0 ?_
  refine V_istore_n F dX6_find_1 (Nat.le_of_ble_eq_true rfl) ?_
  show V _ _ _ _ _ _ _ _ [_, _, _, _] _
  refine V_iconst F dX6_find_2 ki_0 ?_
  refine V_istore_n F dX6_find_3 (Nat.le_of_ble_eq_true rfl) ?_
  show V _ _ _ _ _ _ _ _ [_, _, _, _] _
  exact loop (sS s) 0 (by omega)
theorem c_X6_left (h : InvC G M s) (i : Int32) : Con G yX6_left cX6_left 2 (some .int) 1 0 0 [.ref (gB G), .int i] M none (PC G M (S_left s i) s) := by
  have hI := h
  obtain ⟨la, lb, hlab, hA, hJ, ⟨l1, l2, l3, -⟩, hG, hQ, h60⟩ := h
  unfold bkA at hA
  generalize hR : S_left s i = R
  unfold S_left at hR
  refine Con.of (by decide +kernel) (Nat.le_of_ble_eq_true rfl) (fun X F hnm => ?_)
  show V G X 0 0 _ M _ 0 [some (.ref (gB G)), some (.int i)] []
  refine V_iload_n F dX6_left_0 rfl ?_
  refine V_if_ge F 8 dX6_left_1 (by decide) (fun c1 => ?_) (fun c1 => ?_)
  · rw [if_neg (Int32.not_lt.mpr c1)] at hR
    obtain ⟨k, hk, rfl⟩ := nI_of (Int32.not_lt.mpr c1)
    rw [ix_nI hk] at hR
    subst hR
    refine V_aload_n F dX6_left_8 rfl ?_
    refine V_get F fl_X6_49 dX6_left_9 (by assumption) rfl ?_
    refine V_iload_n F dX6_left_12 rfl ?_
    refine V_ivR F iv_X6_175 dX6_left_13 (As := [_]) (c_X2_bendLeft l1 l2 l3 hk) l1.1 rfl rfl rfl rfl ?_
    exact V_iret F rfl dX6_left_16 rfl ⟨rfl, hI, fun _ _ => rfl, rfl⟩
  · rw [if_pos (Int32.not_le.mp c1)] at hR
    subst hR
    refine V_iconst F dX6_left_4 ki_m1 ?_
    refine V_goto F 16 dX6_left_5 (by decide) ?_
    exact V_iret F rfl dX6_left_16 rfl ⟨rfl, hI, fun _ _ => rfl, rfl⟩
theorem c_X6_list (h : InvC G M s) (q mo : Int32) : Con G yX6_list cX6_list 4 (some .int) 6 0 0 [.ref (gB G), .int q, .int mo] M none (fun v M' n' => ∃ j, PC G M (S_list s q mo j).1 (S_list s q mo j).2 v M' n') := by
  have hI := h
  obtain ⟨la, lb, hlab, hA, hJ, hL, hG, hQ, h60⟩ := h
  have hA0 := hA
  have hL0 := hL
  have hJ0 := hJ
  obtain ⟨⟨gb, j1, j2⟩, ⟨gq, j3, j4⟩, j5, ⟨cd, j6⟩, ⟨xe, xf, j7, j8⟩, ⟨ws, j9⟩⟩ := hJ
  obtain ⟨l1, l2, l3, lst', S', mo', se', d1⟩ := hL
  unfold bkA at hA
  refine Con.of (by decide +kernel) (Nat.le_of_ble_eq_true rfl) (fun X F hnm => ?_)
  show V G X 0 0 _ M _ 0 [some (.ref (gB G)), some (.int q), some (.int mo), none] []
  generalize hQ1 : BQ G X _ 0 0 = Q
  have bad : (inR q (sNq s) = false ∨ mo < nI 1 ∨ nI 2000 < mo) → V G X 0 0 Q M none 20 [some (.ref (gB G)), some (.int q), some (.int mo), none] [] := by
    intro z
    subst hQ1
    have hR : S_list s q mo lst' = (-1, s) := by unfold S_list; rw [if_pos z]
    refine V_iconst F dX6_list_20 ki_m1 ?_
    exact V_iret F rfl dX6_list_21 rfl ⟨lst', by rw [hR], by rw [hR]; exact hI, fun _ _ => rfl, rfl⟩
  refine V_aload_n F dX6_list_0 rfl ?_
  refine V_iload_n F dX6_list_1 rfl ?_
  refine V_ivR F iv_X6_106 dX6_list_2 (As := [_]) (c_X6_isQuad hA0 _) (by assumption) rfl rfl rfl rfl ?_
  refine V_if_eq F 20 dX6_list_5 (by decide) (fun c5 => ?_) (fun c5 => ?_)
  · rw [bI_0] at c5
    exact bad (Or.inl c5)
  · rw [bI_n] at c5
    refine V_iload_n F dX6_list_8 rfl ?_
    refine V_iconst F dX6_list_9 ki_1 ?_
    refine V_icmp_lt F 20 dX6_list_10 (by decide) (fun c10 => ?_) (fun c10 => ?_)
    · exact bad (Or.inr (Or.inl c10))
    · refine V_iload_n F dX6_list_13 rfl ?_
      refine V_sipush F dX6_list_14 ks_2000 ?_
      refine V_icmp_le F 22 dX6_list_17 (by decide) (fun c17 => ?_) (fun c17 => ?_)
      · have hno : ¬ (inR q (sNq s) = false ∨ mo < nI 1 ∨ nI 2000 < mo) := fun z => by
          rcases z with z | z | z
          · rw [c5] at z; cases z
          · exact c10 z
          · exact absurd z (Int32.not_lt.mpr c17)
        obtain ⟨k, hk, rfl⟩ := inR_t (by omega) c5
        have hmo : ∃ m, m ≤ 2000 ∧ mo = nI m := by
          refine nI_of2 (M := nI 2000) (nI_toInt (by omega)) (fun z => c10 ?_) c17
          rw [Int32.lt_iff_toInt_lt] at z ⊢
          rw [nI_toInt (by omega)]
          have : (0 : Int32).toInt = 0 := by decide
          omega
        obtain ⟨m, hm, rfl⟩ := hmo
        obtain ⟨p1, p2, p3, p4, p5⟩ := (hQ k (by omega)).1 hk
        have hlb : lb = 494 ∨ lb = 499 := by omega
        refine V_aload_n F dX6_list_22 rfl ?_
        refine V_get F fl_X6_53 dX6_list_23 (by assumption) rfl ?_
        refine V_iload_n F dX6_list_26 rfl ?_
        refine V_aload_n F dX6_list_27 rfl ?_
        refine V_get F fl_X6_17 dX6_list_28 (by assumption) rfl ?_
        refine V_iload_n F dX6_list_31 rfl ?_
        refine V_aaldN F 3 dX6_list_32 (by assumption) rfl rfl _ (by first | (simp only [pk_mul, nI_add, nI_1, nI_inc]; done) | (simp only [pk_mul, nI_add, nI_1, nI_inc]; rfl) | rfl) (by omega) (by omega) (j4 k (by omega)) ?_
        refine V_get F fl_X6_127 dX6_list_33 (by assumption) rfl ?_
        refine V_ivR F iv_X6_161 dX6_list_36 (As := [_, _]) (c_X2_begin d1.1 _ _) d1.1 rfl rfl rfl rfl ?_
        have d2 : lstA G lb (mset M (gB G + lb) (eO 2 [.ref (gB G + lb + 1), .int (nI 0), .int (nI m), .int (sQs s k)])) lst' 0 (nI m) (sQs s k) := by
          obtain ⟨-, ⟨g, m1, m2⟩, m3⟩ := d1
          exact ⟨mset_eq _ _ _, ⟨g, (mset_ne _ _ (by omega)).trans m1, m2⟩, fun w hw => (mset_ne _ _ (by show gB G + lb + 2 + w ≠ gB G + lb; omega)).trans (m3 w hw)⟩
        have fr1 : ∀ z, z ≠ gB G + lb → mset M (gB G + lb) (eO 2 [.ref (gB G + lb + 1), .int (nI 0), .int (nI m), .int (sQs s k)]) z = M z := fun z hz => mset_ne _ _ hz
        generalize mset M (gB G + lb) (eO 2 [.ref (gB G + lb + 1), .int (nI 0), .int (nI m), .int (sQs s k)]) = M1 at d2 fr1 ⊢
        have A1 := (fr1 (gB G) (by omega)).trans hA
        have sea1 : seaA G M1 ws := j9.frame (fun z z1 z2 => fr1 z (by omega))
        refine V_aload_n F dX6_list_39 rfl ?_
        refine V_get F fl_X6_42 dX6_list_40 A1 rfl ?_
        refine V_aload_n F dX6_list_43 rfl ?_
        refine V_get F fl_X6_17 dX6_list_44 A1 rfl ?_
        refine V_iload_n F dX6_list_47 rfl ?_
        refine V_aaldN F 3 dX6_list_48 ((fr1 _ (by omega)).trans j3) rfl rfl _ (by first | (simp only [pk_mul, nI_add, nI_1, nI_inc]; done) | (simp only [pk_mul, nI_add, nI_1, nI_inc]; rfl) | rfl) (by omega) (by omega) (j4 k (by omega)) ?_
        refine V_get F fl_X6_150 dX6_list_49 ((fr1 _ (by omega)).trans p1) rfl ?_
        refine V_aload_n F dX6_list_52 rfl ?_
        refine V_get F fl_X6_53 dX6_list_53 A1 rfl ?_
        refine V_ivP F iv_X6_164 dX6_list_56 (As := [_, _]) (c_X3_gather hlb sea1 d2 (by omega) ((fr1 _ (by omega)).trans p4) ((fr1 _ (by omega)).trans p5) (by omega) (by omega)) sea1.1 rfl rfl rfl rfl ?_
        rintro v M2 n2 ⟨rfl, ⟨ws2, sea2⟩, lst2, hS2, fr2, rfl⟩
        have hE : S_list s (nI k) (nI m) lst' = CLres s (nI k) (nI m) (gth (rootq s k) (nI m) lst' 0) := by
          unfold S_list
          rw [if_neg hno, ix_nI (by omega)]
        have eqr : rootq s k = (gd 100000 (sQc s k)).2 := rfl
        rw [eqr] at hE
        generalize gth (gd 100000 (sQc s k)).2 (nI m) lst' 0 = g at hE lst2 hS2 ⊢
        have fr : ∀ z, (z < gB G + 7 ∨ gB G + 494 ≤ z) → (z < gB G + lb ∨ gB G + lb + 5 ≤ z) → M2 z = M z := fun z z1 z2 => (fr2 z z1 z2).trans (fr1 z (by omega))
        have A2 := (fr (gB G) (by omega) (by omega)).trans hA
        have J2 : bkJ G M2 := ⟨⟨gb, (fr _ (by omega) (by omega)).trans j1, j2⟩, ⟨gq, (fr _ (by omega) (by omega)).trans j3, j4⟩, (fr _ (by omega) (by omega)).trans j5, ⟨cd, (fr _ (by omega) (by omega)).trans j6⟩, ⟨xe, xf, (fr _ (by omega) (by omega)).trans j7, (fr _ (by omega) (by omega)).trans j8⟩, ⟨ws2, sea2⟩⟩
        have l1' : lstA G la M2 (sLst s) (sS s) (nI (sMo s)) (sSe s) := l1.frame (fun z z1 z2 => fr z (by omega) (by omega))
        refine V_if_ne F 65 dX6_list_59 (by decide) (fun c59 => ?_) (fun c59 => ?_)
        · rw [bI_n] at c59
          unfold CLres at hE
          rw [if_neg (by rw [c59]; decide), ix_nI (by omega), ix_nI (by omega)] at hE
          refine V_aload_n F dX6_list_65 rfl ?_
          refine V_get F fl_X6_49 dX6_list_66 A2 rfl ?_
          refine V_astore_n F dX6_list_69 (Nat.le_of_ble_eq_true rfl) ?_
          show V _ _ _ _ _ _ _ _ [_, _, _, _] _
          refine V_aload_n F dX6_list_70 rfl ?_
          refine V_aload_n F dX6_list_71 rfl ?_
          refine V_get F fl_X6_53 dX6_list_72 A2 rfl ?_
          refine V_put F fl_X6_49 dX6_list_75 A2 rfl rfl (Nat.le_of_ble_eq_true rfl) ?_
          refine V_aload_n F dX6_list_78 rfl ?_
          refine V_aload_n F dX6_list_79 rfl ?_
          refine V_put F fl_X6_53 dX6_list_80 (mset_eq _ _ _) rfl rfl (Nat.le_of_ble_eq_true rfl) ?_
          rw [mset_mset]
          show V _ _ _ _ _ (mset M2 (gB G) (eO 6 [.ref (gB G + 1), .ref (gB G + 2), .int (nI (sNq s)), .ref (gB G + 3), .ref (gB G + 5), .ref (gB G + 7), .ref (gB G + lb), .ref (gB G + la)])) _ _ _ _
          have fr3 : ∀ z, z ≠ gB G → mset M2 (gB G) (eO 6 [.ref (gB G + 1), .ref (gB G + 2), .int (nI (sNq s)), .ref (gB G + 3), .ref (gB G + 5), .ref (gB G + 7), .ref (gB G + lb), .ref (gB G + la)]) z = M2 z := fun z hz => mset_ne _ _ hz
          have A3 := mset_eq M2 (gB G) (eO 6 [.ref (gB G + 1), .ref (gB G + 2), .int (nI (sNq s)), .ref (gB G + 3), .ref (gB G + 5), .ref (gB G + 7), .ref (gB G + lb), .ref (gB G + la)])
          generalize mset M2 (gB G) (eO 6 [.ref (gB G + 1), .ref (gB G + 2), .int (nI (sNq s)), .ref (gB G + 3), .ref (gB G + 5), .ref (gB G + 7), .ref (gB G + lb), .ref (gB G + la)]) = M3 at fr3 A3 ⊢
          have lst3 : lstA G lb M3 g.2.2.1 g.2.1 (nI m) (sQs s k) := lst2.frame (fun z z1 z2 => fr3 z (by omega))
          have l13 : lstA G la M3 (sLst s) (sS s) (nI (sMo s)) (sSe s) := l1'.frame (fun z z1 z2 => fr3 z (by omega))
          subst hQ1
          refine V_aload_n F dX6_list_83 rfl ?_
          refine V_get F fl_X6_49 dX6_list_84 (by assumption) rfl ?_
          refine V_get F fl_X6_167 dX6_list_87 lst3.1 rfl ?_
          exact V_iret F rfl dX6_list_90 rfl ⟨lst', by rw [hE], by rw [hE]; exact ⟨lb, la, by omega, A3, J2.frame (fun z z1 z2 => fr3 z (by omega)), ⟨lst3, hS2, hm, _, _, _, _, l13⟩, hG.frame (fun z z1 z2 => (fr3 z (by omega)).trans (fr z (by omega) (by omega))), hQ.frame (fun z z1 z2 => (fr3 z (by omega)).trans (fr z (by omega) (by omega))), h60⟩, fun z hz => (fr3 z (by omega)).trans (fr z (by omega) (by omega)), rfl⟩
        · rw [bI_0] at c59
          unfold CLres at hE
          rw [if_pos c59] at hE
          subst hQ1
          refine V_bipush F dX6_list_62 kb_m4 ?_
          exact V_iret F rfl dX6_list_64 rfl ⟨lst', by rw [hE], by rw [hE]; exact ⟨la, lb, hlab, A2, J2, ⟨l1', l2, l3, _, _, _, _, lst2⟩, hG.frame (fun z z1 z2 => fr z (by omega) (by omega)), hQ.frame (fun z z1 z2 => fr z (by omega) (by omega)), h60⟩, fun z hz => fr z (by omega) (by omega), rfl⟩
      · exact bad (Or.inr (Or.inr (Int32.not_le.mp c17)))
theorem fbt_lt {i j : Nat} : fbt i j < 3 := by unfold fbt; split <;> (try split) <;> omega
theorem odd_lt {i j : Nat} (hi : i < 4) (hj : j < 4) (h : i ≠ j) : 6 - i - j - fbt i j < 4 ∧ i + j + fbt i j ≤ 6 := by
  unfold fbt; split <;> (try split) <;> omega
theorem c_X6_chain (h : InvC G M s) (q i j k w : Int32) : Con G yX6_chain cX6_chain 8 (some .int) 6 0 0 [.ref (gB G), .int q, .int i, .int j, .int k, .int w] M none (PC G M (S_chain s q i j k w) s) := by
  have hI := h
  obtain ⟨la, lb, hlab, hA, hJ, hL, hG, hQ, h60⟩ := h
  have hA0 := hA
  obtain ⟨⟨gb, j1, j2⟩, ⟨gq, j3, j4⟩, j5, ⟨cd, j6⟩, ⟨xe, xf, j7, j8⟩, ⟨ws, j9⟩⟩ := hJ
  unfold bkA at hA
  generalize hR : S_chain s q i j k w = R
  unfold S_chain at hR
  refine Con.of (by decide +kernel) (Nat.le_of_ble_eq_true rfl) (fun X F hnm => ?_)
  show V G X 0 0 _ M _ 0 [some (.ref (gB G)), some (.int q), some (.int i), some (.int j), some (.int k), some (.int w), none, none] []
  have bad1 : ¬ (inR q (sNq s) = true ∧ inR i 4 = true ∧ inR j 4 = true ∧ i ≠ j ∧ (-100 ≤ k ∧ k ≤ nI 100) ∧ inR w 3 = true) → V G X 0 0 (BQ G X (PC G M R s) 0 0) M none 27 [some (.ref (gB G)), some (.int q), some (.int i), some (.int j), some (.int k), some (.int w), none, none] [] := by
    intro z
    rw [if_neg z] at hR
    subst hR
    refine V_ldc F dX6_chain_27 kc_X6_133 ?_
    exact V_iret F rfl dX6_chain_29 rfl ⟨rfl, hI, fun _ _ => rfl, rfl⟩
  have bad2 : ¬ (inR q (sNq s) = true ∧ inR i 4 = true ∧ inR j 4 = true ∧ i ≠ j ∧ (-100 ≤ k ∧ k ≤ nI 100) ∧ inR w 3 = true) → V G X 0 0 (BQ G X (PC G M R s) 0 0) M none 52 [some (.ref (gB G)), some (.int q), some (.int i), some (.int j), some (.int k), some (.int w), none, none] [] := by
    intro z
    rw [if_neg z] at hR
    subst hR
    refine V_ldc F dX6_chain_52 kc_X6_133 ?_
    exact V_iret F rfl dX6_chain_54 rfl ⟨rfl, hI, fun _ _ => rfl, rfl⟩
  refine V_aload_n F dX6_chain_0 rfl ?_
  refine V_iload_n F dX6_chain_1 rfl ?_
  refine V_ivR F iv_X6_106 dX6_chain_2 (As := [_]) (c_X6_isQuad hA0 _) (by assumption) rfl rfl rfl rfl ?_
  refine V_if_eq F 27 dX6_chain_5 (by decide) (fun c5 => ?_) (fun c5 => ?_)
  · rw [bI_0] at c5
    exact bad1 (fun z => by rw [c5] at z; cases z.1)
  · rw [bI_n] at c5
    refine V_iload_n F dX6_chain_8 rfl ?_
    refine V_isR F is_X6_109 dX6_chain_9 (As := [_]) (c_X6_isCoin _) rfl rfl rfl ?_
    refine V_if_eq F 27 dX6_chain_12 (by decide) (fun c12 => ?_) (fun c12 => ?_)
    · rw [bI_0] at c12
      exact bad1 (fun z => by rw [c12] at z; cases z.2.1)
    · rw [bI_n] at c12
      refine V_iload_n F dX6_chain_15 rfl ?_
      refine V_isR F is_X6_109 dX6_chain_16 (As := [_]) (c_X6_isCoin _) rfl rfl rfl ?_
      refine V_if_eq F 27 dX6_chain_19 (by decide) (fun c19 => ?_) (fun c19 => ?_)
      · rw [bI_0] at c19
        exact bad1 (fun z => by rw [c19] at z; cases z.2.2.1)
      · rw [bI_n] at c19
        refine V_iload_n F dX6_chain_22 rfl ?_
        refine V_iload_n F dX6_chain_23 rfl ?_
        refine V_icmp_ne F 30 dX6_chain_24 (by decide) (fun c24 => ?_) (fun c24 => ?_)
        · refine V_iload F dX6_chain_30 rfl ?_
          refine V_bipush F dX6_chain_32 kb_m100 ?_
          refine V_icmp_lt F 52 dX6_chain_34 (by decide) (fun c34 => ?_) (fun c34 => ?_)
          · exact bad2 (fun z => absurd c34 (Int32.not_lt.mpr z.2.2.2.2.1.1))
          · refine V_iload F dX6_chain_37 rfl ?_
            refine V_bipush F dX6_chain_39 kb_100 ?_
            refine V_icmp_gt F 52 dX6_chain_41 (by decide) (fun c41 => ?_) (fun c41 => ?_)
            · exact bad2 (fun z => absurd c41 (Int32.not_lt.mpr z.2.2.2.2.1.2))
            · refine V_iload F dX6_chain_44 rfl ?_
              refine V_isR F is_X6_130 dX6_chain_46 (As := [_]) (c_X6_isWhat _) rfl rfl rfl ?_
              refine V_if_ne F 55 dX6_chain_49 (by decide) (fun c49 => ?_) (fun c49 => ?_)
              · rw [bI_n] at c49
                rw [if_pos ⟨c5, c12, c19, c24, ⟨Int32.not_lt.mp c34, Int32.not_lt.mp c41⟩, c49⟩] at hR
                obtain ⟨a, ha, rfl⟩ := inR_t (by omega) c5
                obtain ⟨ci, hci, rfl⟩ := inR_t (by omega) c12
                obtain ⟨cj, hcj, rfl⟩ := inR_t (by omega) c19
                obtain ⟨v, hv, rfl⟩ := inR_t (by omega) c49
                have hne : ci ≠ cj := fun z => c24 (by rw [z])
                obtain ⟨o1, o2⟩ := odd_lt hci hcj hne
                have f3 := @fbt_lt ci cj
                rw [ix_nI (by omega), ix_nI (by omega), ix_nI (by omega), ix_nI (by omega)] at hR
                obtain ⟨p1, p2, p3, p4, p5⟩ := (hQ a (by omega)).1 ha
                refine V_iload_n F dX6_chain_55 rfl ?_
                refine V_iload_n F dX6_chain_56 rfl ?_
                refine V_isR F is_X6_178 dX6_chain_57 (As := [_, _]) (c_X6_firstBut hci hcj) rfl rfl rfl ?_
                refine V_istore F dX6_chain_60 (Nat.le_of_ble_eq_true rfl) ?_
                show V _ _ _ _ _ _ _ _ [_, _, _, _, _, _, _, _] _
                refine V_bipush F dX6_chain_62 kb_6 ?_
                refine V_iload_n F dX6_chain_64 rfl ?_
                refine V_isub F dX6_chain_65 ?_
                rw [pk_sub (by omega)]
                refine V_iload_n F dX6_chain_66 rfl ?_
                refine V_isub F dX6_chain_67 ?_
                rw [pk_sub (by omega)]
                refine V_iload F dX6_chain_68 rfl ?_
                refine V_isub F dX6_chain_70 ?_
                rw [pk_sub (by omega)]
                unfold chn at hR
                generalize fbt ci cj = fe at hR f3 o1 o2 ⊢
                generalize hod : 6 - ci - cj - fe = od at hR o1 ⊢
                refine V_istore F dX6_chain_71 (Nat.le_of_ble_eq_true rfl) ?_
                show V _ _ _ _ _ _ _ _ [_, _, _, _, _, _, _, _] _
                refine V_aload_n F dX6_chain_73 rfl ?_
                refine V_get F fl_X6_28 dX6_chain_74 (by assumption) rfl ?_
                refine V_aload_n F dX6_chain_77 rfl ?_
                refine V_get F fl_X6_17 dX6_chain_78 (by assumption) rfl ?_
                refine V_iload_n F dX6_chain_81 rfl ?_
                refine V_aaldN F 3 dX6_chain_82 (by assumption) rfl rfl _ (by first | (simp only [pk_mul, nI_add, nI_1, nI_inc]; done) | (simp only [pk_mul, nI_add, nI_1, nI_inc]; rfl) | rfl) (by omega) (by omega) (j4 a (by omega)) ?_
                refine V_get F fl_X6_112 dX6_chain_83 (by assumption) rfl ?_
                refine V_ivR F iv_X6_115 dX6_chain_86 (As := [_]) (c_X1_take j5 j6 p2 p3) (by assumption) rfl rfl rfl rfl ?_
                have k3 : ∀ e, mset M (gB G + 4) e (gB G + 3) = _ := fun e => (mset_ne _ _ (by omega)).trans j5
                have kA : ∀ e, mset M (gB G + 4) e (gB G) = _ := fun e => (mset_ne _ _ (by omega)).trans hA
                by_cases hk0 : 0 ≤ k
                · rw [if_pos hk0] at hR
                  obtain ⟨kk, hkk, rfl⟩ := nI_of2 (M := nI 100) (nI_toInt (by omega)) (Int32.not_lt.mpr hk0) (Int32.not_lt.mp c41)
                  rw [ix_nI (by omega)] at hR
                  refine V_aload_n F dX6_chain_89 rfl ?_
                  refine V_get F fl_X6_28 dX6_chain_90 (kA _) rfl ?_
                  refine V_iload F dX6_chain_93 rfl ?_
                  refine V_iload F dX6_chain_95 rfl ?_
                  refine V_iload F dX6_chain_97 rfl ?_
                  refine V_ivR F iv_X6_181 dX6_chain_99 (As := [_, _, _]) (c_X1_goAlong (k3 _) (mset_eq _ _ _) (by omega) o1 hkk) (k3 _) rfl rfl rfl rfl ?_
                  refine V_if_ne F 108 dX6_chain_102 (by decide) (fun c102 => ?_) (fun c102 => ?_)
                  · rw [bI_n] at c102
                    rw [mset_mset]
                    rw [if_neg (by rw [c102]; decide)] at hR
                    refine V_aload_n F dX6_chain_108 rfl ?_
                    refine V_get F fl_X6_28 dX6_chain_109 (kA _) rfl ?_
                    refine V_iload F dX6_chain_112 rfl ?_
                    refine V_iconst F dX6_chain_114 ki_1 ?_
                    refine V_iand F dX6_chain_115 ?_
                    rw [pos_and kk (by omega)]
                    refine V_if_ne F 124 dX6_chain_116 (by decide) (fun c116 => ?_) (fun c116 => ?_)
                    · have hz : ¬ kk % 2 = 0 := fun z => c116 (by rw [z]; rfl)
                      rw [if_neg hz] at hR
                      subst hR
                      refine V_iload F dX6_chain_124 rfl ?_
                      refine V_iload F dX6_chain_126 rfl ?_
                      refine V_ivR F iv_X6_134 dX6_chain_128 (As := [_, _]) (c_X1_told (k3 _) (mset_eq _ _ _) o1 hv) (k3 _) rfl rfl rfl rfl ?_
                      refine V_l2i F dX6_chain_131 ?_
                      exact V_iret F rfl dX6_chain_132 rfl ⟨rfl, hI.desk _, fun z hz => mset_ne _ _ (by omega), rfl⟩
                    · have hz : kk % 2 = 0 := (nI_eq (b := 0) (by omega) (by omega)).mp c116
                      rw [if_pos hz] at hR
                      subst hR
                      refine V_iload F dX6_chain_119 rfl ?_
                      refine V_goto F 126 dX6_chain_121 (by decide) ?_
                      refine V_iload F dX6_chain_126 rfl ?_
                      refine V_ivR F iv_X6_134 dX6_chain_128 (As := [_, _]) (c_X1_told (k3 _) (mset_eq _ _ _) (by omega) hv) (k3 _) rfl rfl rfl rfl ?_
                      refine V_l2i F dX6_chain_131 ?_
                      exact V_iret F rfl dX6_chain_132 rfl ⟨rfl, hI.desk _, fun z hz => mset_ne _ _ (by omega), rfl⟩
                  · rw [bI_0] at c102
                    rw [mset_mset]
                    rw [if_pos c102] at hR
                    subst hR
                    refine V_ldc F dX6_chain_105 kc_X6_185 ?_
                    exact V_iret F rfl dX6_chain_107 rfl ⟨rfl, hI.desk _, fun z hz => mset_ne _ _ (by omega), rfl⟩
                · rw [if_neg hk0] at hR
                  have hneg : ∃ kk, kk ≤ 100 ∧ 1 ≤ kk ∧ k = -nI kk := by
                    refine ⟨(-k.toInt).toNat, ?_, ?_, ?_⟩
                    · have := Int32.not_lt.mp c34
                      rw [Int32.le_iff_toInt_le] at this
                      have e : (-100 : Int32).toInt = -100 := by decide
                      omega
                    · rw [Int32.le_iff_toInt_le] at hk0
                      have e : (0 : Int32).toInt = 0 := by decide
                      omega
                    · have := Int32.not_lt.mp c34
                      rw [Int32.le_iff_toInt_le] at this
                      have e : (-100 : Int32).toInt = -100 := by decide
                      have e0 : (0 : Int32).toInt = 0 := by decide
                      rw [Int32.le_iff_toInt_le] at hk0
                      apply Int32.toInt_inj.mp
                      rw [sb_negT (by omega)]
                      omega
                  obtain ⟨kk, hkk, hk1, rfl⟩ := hneg
                  rw [Int32.neg_neg, ix_nI (by omega)] at hR
                  refine V_aload_n F dX6_chain_89 rfl ?_
                  refine V_get F fl_X6_28 dX6_chain_90 (kA _) rfl ?_
                  refine V_iload F dX6_chain_93 rfl ?_
                  refine V_iload F dX6_chain_95 rfl ?_
                  refine V_iload F dX6_chain_97 rfl ?_
                  refine V_ivR F iv_X6_181 dX6_chain_99 (As := [_, _, _]) (c_X1_goAlongN (k3 _) (mset_eq _ _ _) (by omega) o1 hkk hk1) (k3 _) rfl rfl rfl rfl ?_
                  refine V_if_ne F 108 dX6_chain_102 (by decide) (fun c102 => ?_) (fun c102 => ?_)
                  · rw [bI_n] at c102
                    rw [mset_mset]
                    rw [if_neg (by rw [c102]; decide)] at hR
                    refine V_aload_n F dX6_chain_108 rfl ?_
                    refine V_get F fl_X6_28 dX6_chain_109 (kA _) rfl ?_
                    refine V_iload F dX6_chain_112 rfl ?_
                    refine V_iconst F dX6_chain_114 ki_1 ?_
                    refine V_iand F dX6_chain_115 ?_
                    rw [neg_and kk (by omega)]
                    refine V_if_ne F 124 dX6_chain_116 (by decide) (fun c116 => ?_) (fun c116 => ?_)
                    · have hz : ¬ kk % 2 = 0 := fun z => c116 (by rw [z]; rfl)
                      rw [if_neg hz] at hR
                      subst hR
                      refine V_iload F dX6_chain_124 rfl ?_
                      refine V_iload F dX6_chain_126 rfl ?_
                      refine V_ivR F iv_X6_134 dX6_chain_128 (As := [_, _]) (c_X1_told (k3 _) (mset_eq _ _ _) o1 hv) (k3 _) rfl rfl rfl rfl ?_
                      refine V_l2i F dX6_chain_131 ?_
                      exact V_iret F rfl dX6_chain_132 rfl ⟨rfl, hI.desk _, fun z hz => mset_ne _ _ (by omega), rfl⟩
                    · have hz : kk % 2 = 0 := (nI_eq (b := 0) (by omega) (by omega)).mp c116
                      rw [if_pos hz] at hR
                      subst hR
                      refine V_iload F dX6_chain_119 rfl ?_
                      refine V_goto F 126 dX6_chain_121 (by decide) ?_
                      refine V_iload F dX6_chain_126 rfl ?_
                      refine V_ivR F iv_X6_134 dX6_chain_128 (As := [_, _]) (c_X1_told (k3 _) (mset_eq _ _ _) (by omega) hv) (k3 _) rfl rfl rfl rfl ?_
                      refine V_l2i F dX6_chain_131 ?_
                      exact V_iret F rfl dX6_chain_132 rfl ⟨rfl, hI.desk _, fun z hz => mset_ne _ _ (by omega), rfl⟩
                  · rw [bI_0] at c102
                    rw [mset_mset]
                    rw [if_pos c102] at hR
                    subst hR
                    refine V_ldc F dX6_chain_105 kc_X6_185 ?_
                    exact V_iret F rfl dX6_chain_107 rfl ⟨rfl, hI.desk _, fun z hz => mset_ne _ _ (by omega), rfl⟩
              · rw [bI_0] at c49
                exact bad2 (fun z => by rw [c49] at z; cases z.2.2.2.2.2)
        · exact bad1 (fun z => z.2.2.2.1 c24)
end CLS3
