def rsd (x : Int64) : Nat := (x.toInt % 24).toNat
theorem rsd_lt (x : Int64) : rsd x < 24 := by unfold rsd; omega
theorem bm64 {x : Int} (h1 : -9223372036854775808 ≤ x) (h2 : x < 9223372036854775808) : x.bmod (2 ^ 64) = x := Int.bmod_eq_of_le_mul_two (by omega) (by omega)
theorem bm32 {x : Int} (h1 : -2147483648 ≤ x) (h2 : x < 2147483648) : x.bmod (2 ^ 32) = x := Int.bmod_eq_of_le_mul_two (by omega) (by omega)
theorem xor_neg (x : Int64) : (x ^^^ 24) < 0 ↔ x < 0 := by
  have h1 : ∀ y : Int64, y < 0 ↔ y.toBitVec.msb = true := fun y => by
    rw [Int64.lt_iff_toInt_lt, BitVec.msb_eq_toInt]
    simp
  rw [h1, h1, Int64.toBitVec_xor, BitVec.msb_xor, show (24 : Int64).toBitVec.msb = false by decide]
  simp
theorem tdv (x : Int) : x = 24 * x.tdiv 24 + x.tmod 24 ∧ (0 ≤ x → 0 ≤ x.tmod 24 ∧ x.tmod 24 < 24) ∧ (x ≤ 0 → -24 < x.tmod 24 ∧ x.tmod 24 ≤ 0) := by
  refine ⟨(Int.mul_tdiv_add_tmod x 24).symm, fun h => ⟨Int.tmod_nonneg _ h, Int.tmod_lt_of_pos _ (by decide)⟩, fun h => ?_⟩
  have h1 := Int.neg_tmod x 24
  have h2 := Int.tmod_nonneg 24 (show 0 ≤ -x by omega)
  have h3 := Int.tmod_lt_of_pos (-x) (show (0 : Int) < 24 by decide)
  omega
theorem fmL_24 (x : Int64) : (fmL x 24).toInt32 = nI (rsd x) := by
  have hx1 : (-9223372036854775808 : Int) ≤ x.toInt := Int64.le_toInt x
  have hx2 : x.toInt < 9223372036854775808 := Int64.toInt_lt x
  obtain ⟨t1, t2, t3⟩ := tdv x.toInt
  have hq : (x / 24).toInt = x.toInt.tdiv 24 := Int64.toInt_div_of_ne_right x 24 (by decide)
  have hm : (x / 24 * 24).toInt = x.toInt.tdiv 24 * 24 := by
    rw [Int64.toInt_mul, hq]
    show (x.toInt.tdiv 24 * 24).bmod (2 ^ 64) = _
    exact bm64 (by omega) (by omega)
  have hr : (x - x / 24 * 24).toInt = x.toInt.tmod 24 := by
    rw [Int64.toInt_sub, hm, show x.toInt - x.toInt.tdiv 24 * 24 = x.toInt.tmod 24 by omega]
    exact bm64 (by omega) (by omega)
  have hlt : x < 0 ↔ x.toInt < 0 := by rw [Int64.lt_iff_toInt_lt]; rfl
  have key : (fmL x 24).toInt = x.toInt % 24 := by
    unfold fmL
    by_cases hn : x < 0
    · have h4 := hlt.mp hn
      by_cases h0 : x - x / 24 * 24 = 0
      · rw [if_neg (fun z => z.2 h0)]
        have : (x - x / 24 * 24).toInt = 0 := by rw [h0]; rfl
        omega
      · rw [if_pos ⟨(xor_neg x).mpr hn, h0⟩, Int64.toInt_add, hr]
        have h3 : ¬ x.toInt.tmod 24 = 0 := fun z => h0 (Int64.toInt_inj.mp (by rw [hr, z]; rfl))
        show (x.toInt.tmod 24 + 24).bmod (2 ^ 64) = _
        rw [bm64 (by omega) (by omega)]
        omega
    · rw [if_neg (fun z => hn ((xor_neg x).mp z.1)), hr]
      have h4 : ¬ x.toInt < 0 := fun z => hn (hlt.mpr z)
      omega
  apply Int32.toInt_inj.mp
  have hl := rsd_lt x
  rw [nI_toInt (by omega), Int64.toInt_toInt32, key]
  unfold rsd
  rw [bm32 (by omega) (by omega)]
  omega
def cod (c : Qd) : Nat → Nat
  | 0 => 0
  | k + 1 => cod c k + wtN k * rsd (c k 0)
theorem cod_lt (c : Qd) : cod c 4 < 331776 := by
  have h0 := rsd_lt (c 0 0)
  have h1 := rsd_lt (c 1 0)
  have h2 := rsd_lt (c 2 0)
  have h3 := rsd_lt (c 3 0)
  simp only [cod, wtN]
  simp
  omega
def orb (s : Int32) (d : Nat) : Int32 := s ||| (nI 1 <<< (nI d &&& 31))
def orb4 (s : Int32) (u : Nat) : Nat → Int32
  | 0 => s
  | k + 1 => orb (orb4 s u k) (dg u k)
def ent4 (l : List Nat) (u : Nat) : Nat → List Nat
  | 0 => l
  | k + 1 => ent1 (ent4 l u k) (swp u k)
theorem ent1_get {l : List Nat} {v k : Nat} (h : k < l.length) : (ent1 l v)[k]? = l[k]? := by
  unfold ent1
  split
  · rfl
  · split
    · exact List.getElem?_append_left h
    · rfl
theorem ent1_len (l : List Nat) (v : Nat) : l.length ≤ (ent1 l v).length := by
  unfold ent1
  split
  · exact Nat.le_refl _
  · split
    · simp
    · exact Nat.le_refl _
theorem ent4_get {l : List Nat} {u k : Nat} (h : k < l.length) : ∀ j, (ent4 l u j)[k]? = l[k]? ∧ k < (ent4 l u j).length
  | 0 => ⟨rfl, h⟩
  | j + 1 => by
    obtain ⟨h1, h2⟩ := ent4_get h j
    exact ⟨(ent1_get h2).trans h1, Nat.lt_of_lt_of_le h2 (ent1_len _ _)⟩
def gat : Nat → Nat → List Nat → Int32 → Int32
  | 0, _, _, s => s
  | m + 1, k, l, s => match l[k]? with
    | none => s
    | some u => gat m (k + 1) (ent4 l u 4) (orb4 s u 4)
section REM2
variable {G : GP} {M : Mem} {n : Option Nat} {a p : Nat} {l : List Nat} {b q : Nat} {c : Qd}
theorem c_X5_gather {e0 : Value} {fo0 : Nat → Int32} (ha : M a = some (eO 5 [.ref p, e0])) (hp : M p = some (eI (gT G) 3840 fo0)) (h0 : M b = some (eO 1 [.ref q])) (h1 : M q = some (eJ (gT G) 12 (fc c))) : Con G yX5_gather cX5_gather 6 (some .int) 2 0 0 [.ref a, .ref b] M n (fun v M' n' => v = some (.int (gat 3840 0 [cod c 4] (nI 0))) ∧ (∃ l', isRem G M' a p l') ∧ (∀ z, z ≠ a → z ≠ p → M' z = M z) ∧ n' = n) := by
  have hap := ne_oj ha hp
  have hbp := ne_oj h0 hp
  have hba : b ≠ a := fun e => by rw [e, ha] at h0; cases h0
  have hqa : q ≠ a := (ne_oj ha h1).symm
  have hqp : q ≠ p := fun e => by rw [e, hp] at h1; exact absurd (show (3840 : Nat) = 12 from congrArg elen h1) (by decide)
  refine Con.of (by decide +kernel) (Nat.le_of_ble_eq_true rfl) (fun X F hnm => ?_)
  show V G X 0 0 _ M _ 0 [some (.ref a), some (.ref b), none, none, none, none] []
  generalize hR : gat 3840 0 [cod c 4] (nI 0) = res
  generalize hQ : BQ G X _ 0 0 = Q
  have code : ∀ k : Nat, k < 4 → V G X 0 0 Q M n 4 [some (.ref a), some (.ref b), some (.int (nI (cod c (k + 1)))), some (.int (nI (k + 1))), none, none] [] → V G X 0 0 Q M n 4 [some (.ref a), some (.ref b), some (.int (nI (cod c k))), some (.int (nI k)), none, none] [] := by
    intro k hk kk
    have hr := rsd_lt (c k 0)
    refine V_iload_n F dX5_gather_4 rfl ?_
    refine V_iconst F dX5_gather_5 ki_4 ?_
    refine V_icmp_ge F 36 dX5_gather_6 (by decide) (fun c6 => absurd c6 (nI_ge hk (by omega))) (fun c6 => ?_)
    refine V_iload_n F dX5_gather_9 rfl ?_
    refine V_gets F dX5_gather_10 fs_X5_21 ?_
    refine V_iload_n F dX5_gather_13 rfl ?_
    refine V_taldN F dX5_gather_14 _ (by first | (simp only [pk_mul, nI_add, nI_1, nI_inc]; done) | (simp only [pk_mul, nI_add, nI_1, nI_inc]; rfl) | rfl) (by omega) ?_
    refine V_aload_n F dX5_gather_15 rfl ?_
    refine V_iload_n F dX5_gather_16 rfl ?_
    refine V_ivR F iv_X5_24 dX5_gather_17 (As := [_]) (c_X1_bend h0 h1 hk) (by assumption) rfl rfl rfl rfl ?_
    refine V_ldc2 F dX5_gather_20 kl_X5_28 ?_
    refine V_isR F is_X5_30 dX5_gather_23 (As := [_, _]) (c_J9_floorMod_f86c9 _ _ (by decide)) rfl rfl rfl ?_
    refine V_l2i F dX5_gather_26 ?_
    rw [fmL_24, wt_N k hk]
    refine V_imul F dX5_gather_27 ?_
    rw [pk_mul]
    refine V_iadd F dX5_gather_28 ?_
    rw [nI_add]
    refine V_istore_n F dX5_gather_29 (Nat.le_of_ble_eq_true rfl) ?_
    show V _ _ _ _ _ _ _ _ [_, _, _, _, _, _] _
    refine V_iinc1 F dX5_gather_30 rfl ?_
    show V _ _ _ _ _ _ _ _ [_, _, _, _, _, _] _
    refine V_goto F 4 dX5_gather_33 (by decide) ?_
    exact kk
  refine V_iconst F dX5_gather_0 ki_0 ?_
  refine V_istore_n F dX5_gather_1 (Nat.le_of_ble_eq_true rfl) ?_
  show V _ _ _ _ _ _ _ _ [_, _, _, _, _, _] _
  refine V_iconst F dX5_gather_2 ki_0 ?_
  refine V_istore_n F dX5_gather_3 (Nat.le_of_ble_eq_true rfl) ?_
  show V _ _ _ _ _ _ _ _ [_, _, _, _, _, _] _
  refine code 0 (by omega) (code 1 (by omega) (code 2 (by omega) (code 3 (by omega) ?_)))
  have hc := cod_lt c
  refine V_iload_n F dX5_gather_4 rfl ?_
  refine V_iconst F dX5_gather_5 ki_4 ?_
  refine V_icmp_ge F 36 dX5_gather_6 (by decide) (fun c6 => ?_) (fun c6 => absurd (by decide) c6)
  refine V_aload_n F dX5_gather_36 rfl ?_
  refine V_iconst F dX5_gather_37 ki_0 ?_
  refine V_put F fl_X5_15 dX5_gather_38 ha rfl rfl (Nat.le_of_ble_eq_true rfl) ?_
  refine V_aload_n F dX5_gather_41 rfl ?_
  refine V_iload_n F dX5_gather_42 rfl ?_
  have hr0 : isRem G (mset M a (eO 5 [.ref p, .int (nI 0)])) a p [] := ⟨mset_eq _ _ _, ⟨fo0, (mset_ne _ _ hap.symm).trans hp, fun k v hk => by simp at hk⟩, by simp, by simp⟩
  refine V_ivP F iv_X5_36 dX5_gather_43 (As := [_]) (c_X5_enter hr0 hc) (mset_eq _ _ _) rfl rfl rfl rfl ?_
  rintro v M1 n1 ⟨rfl, hr1, hf1, rfl⟩
  have hfa : ∀ z, z ≠ a → z ≠ p → M1 z = M z := fun z z1 z2 => (hf1 z z1 z2).trans (mset_ne _ _ z1)
  clear hf1
  rw [show ent1 [] (cod c 4) = [cod c 4] by simp [ent1]] at hr1
  have inner : ∀ (j : Nat) (l : List Nat) (M1 : Mem) (s : Int32) (k u : Nat), j < 4 → l[k]? = some u → isRem G M1 a p l → (∀ z, z ≠ a → z ≠ p → M1 z = M z) → (∀ M2, isRem G M2 a p (ent1 l (swp u j)) → (∀ z, z ≠ a → z ≠ p → M2 z = M z) → V G X 0 0 Q M2 n1 71 [some (.ref a), some (.ref b), some (.int (nI (cod c 4))), some (.int (orb s (dg u j))), some (.int (nI k)), some (.int (nI (j + 1)))] []) → V G X 0 0 Q M1 n1 71 [some (.ref a), some (.ref b), some (.int (nI (cod c 4))), some (.int s), some (.int (nI k)), some (.int (nI j))] [] := by
    intro j l M1 s k u hj hu hr hf kk
    have hr' := hr
    obtain ⟨g0, ⟨fo, g1, g2⟩, g3, g4⟩ := hr
    have hk := (List.getElem?_eq_some_iff.mp hu).1
    have hul := g4 u (List.mem_of_getElem? hu)
    refine V_iload F dX5_gather_71 rfl ?_
    refine V_iconst F dX5_gather_73 ki_4 ?_
    refine V_icmp_ge F 116 dX5_gather_74 (by decide) (fun c74 => absurd c74 (nI_ge hj (by omega))) (fun c74 => ?_)
    refine V_iload_n F dX5_gather_77 rfl ?_
    refine V_iconst F dX5_gather_78 ki_1 ?_
    refine V_aload_n F dX5_gather_79 rfl ?_
    refine V_get F fl_X5_9 dX5_gather_80 (by assumption) rfl ?_
    refine V_iload F dX5_gather_83 rfl ?_
    refine V_ialdN F dX5_gather_85 (by assumption) _ (by first | (simp only [pk_mul, nI_add, nI_1, nI_inc]; done) | (simp only [pk_mul, nI_add, nI_1, nI_inc]; rfl) | rfl) (by omega) (by omega) ?_
    rw [g2 k u hu]
    refine V_iload F dX5_gather_86 rfl ?_
    refine V_isR F is_X5_40 dX5_gather_88 (As := [_, _]) (c_X5_digit hul hj) rfl rfl rfl ?_
    refine V_ishl F dX5_gather_91 ?_
    refine V_ior F dX5_gather_92 ?_
    refine V_istore_n F dX5_gather_93 (Nat.le_of_ble_eq_true rfl) ?_
    show V _ _ _ _ _ _ _ _ [_, _, _, _, _, _] _
    refine V_aload_n F dX5_gather_94 rfl ?_
    refine V_aload_n F dX5_gather_95 rfl ?_
    refine V_get F fl_X5_9 dX5_gather_96 (by assumption) rfl ?_
    refine V_iload F dX5_gather_99 rfl ?_
    refine V_ialdN F dX5_gather_101 (by assumption) _ (by first | (simp only [pk_mul, nI_add, nI_1, nI_inc]; done) | (simp only [pk_mul, nI_add, nI_1, nI_inc]; rfl) | rfl) (by omega) (by omega) ?_
    rw [g2 k u hu]
    refine V_iload F dX5_gather_102 rfl ?_
    refine V_isR F is_X5_44 dX5_gather_104 (As := [_, _]) (c_X5_swapped hul hj) rfl rfl rfl ?_
    refine V_ivP F iv_X5_36 dX5_gather_107 (As := [_]) (c_X5_enter hr' (swp_lt hj hul).1) (by assumption) rfl rfl rfl rfl ?_
    rintro v M2 n2 ⟨rfl, hr2, hf2, rfl⟩
    refine V_iinc1 F dX5_gather_110 rfl ?_
    show V _ _ _ _ _ _ _ _ [_, _, _, _, _, _] _
    refine V_goto F 71 dX5_gather_113 (by decide) ?_
    exact kk M2 hr2 (fun z z1 z2 => (hf2 z z1 z2).trans (hf z z1 z2))
  have outer : ∀ (m k : Nat) (l : List Nat) (M1 : Mem) (s : Int32), m + k = 3840 → k ≤ l.length → isRem G M1 a p l → (∀ z, z ≠ a → z ≠ p → M1 z = M z) → gat m k l s = res → V G X 0 0 Q M1 n1 51 [some (.ref a), some (.ref b), some (.int (nI (cod c 4))), some (.int s), some (.int (nI k)), none] [] := by
    intro m
    induction m with
    | zero =>
      intro k l M1 s hk hkl hr hf hg
      have hr' := hr
      obtain ⟨g0, ⟨fo, g1, g2⟩, g3, g4⟩ := hr
      subst hQ
      refine V_iload F dX5_gather_51 rfl ?_
      refine V_aload_n F dX5_gather_53 rfl ?_
      refine V_get F fl_X5_15 dX5_gather_54 (by assumption) rfl ?_
      refine V_icmp_ge F 122 dX5_gather_57 (by decide) (fun c57 => ?_) (fun c57 => absurd (nI_le (by omega) (by omega)) c57)
      refine V_iload_n F dX5_gather_122 rfl ?_
      exact V_iret F rfl dX5_gather_123 rfl ⟨by rw [← hg]; rfl, ⟨l, hr'⟩, hf, rfl⟩
    | succ m ih =>
      intro k l M1 s hk hkl hr hf hg
      have hr' := hr
      obtain ⟨g0, ⟨fo, g1, g2⟩, g3, g4⟩ := hr
      unfold gat at hg
      refine V_iload F dX5_gather_51 rfl ?_
      refine V_aload_n F dX5_gather_53 rfl ?_
      refine V_get F fl_X5_15 dX5_gather_54 (by assumption) rfl ?_
      refine V_icmp_ge F 122 dX5_gather_57 (by decide) (fun c57 => ?_) (fun c57 => ?_)
      · have hkl2 : l[k]? = none := by
          rcases Nat.lt_or_ge k l.length with q1 | q1
          · exact absurd c57 (nI_ge q1 (by omega))
          · exact List.getElem?_eq_none q1
        rw [hkl2] at hg
        subst hQ
        refine V_iload_n F dX5_gather_122 rfl ?_
        exact V_iret F rfl dX5_gather_123 rfl ⟨by rw [← hg], ⟨l, hr'⟩, hf, rfl⟩
      · have hkl2 : k < l.length := Nat.lt_of_not_le (fun z => c57 (nI_le z (by omega)))
        have hu : l[k]? = some l[k] := List.getElem?_eq_getElem hkl2
        generalize l[k] = u at hu
        rw [hu] at hg
        refine V_iload F dX5_gather_60 rfl ?_
        refine V_sipush F dX5_gather_62 ks_3840 ?_
        refine V_icmp_ge F 122 dX5_gather_65 (by decide) (fun c65 => absurd c65 (nI_ge (by omega) (by omega))) (fun c65 => ?_)
        refine V_iconst F dX5_gather_68 ki_0 ?_
        refine V_istore F dX5_gather_69 (Nat.le_of_ble_eq_true rfl) ?_
        show V _ _ _ _ _ _ _ _ [_, _, _, _, _, _] _
        refine inner 0 l M1 s k u (by omega) hu hr' hf (fun M2 hr2 hf2 => inner 1 _ M2 _ k u (by omega) (ent4_get hkl2 1 |>.1.trans hu) hr2 hf2 (fun M3 hr3 hf3 => inner 2 _ M3 _ k u (by omega) (ent4_get hkl2 2 |>.1.trans hu) hr3 hf3 (fun M4 hr4 hf4 => inner 3 _ M4 _ k u (by omega) (ent4_get hkl2 3 |>.1.trans hu) hr4 hf4 (fun M5 hr5 hf5 => ?_))))
        refine V_iload F dX5_gather_71 rfl ?_
        refine V_iconst F dX5_gather_73 ki_4 ?_
        refine V_icmp_ge F 116 dX5_gather_74 (by decide) (fun c74 => ?_) (fun c74 => absurd (by decide) c74)
        refine V_iinc1 F dX5_gather_116 rfl ?_
        show V _ _ _ _ _ _ _ _ [_, _, _, _, _, _] _
        refine V_goto F 51 dX5_gather_119 (by decide) ?_
        exact V_drop 5 (ih (k + 1) _ M5 _ (by omega) (ent4_get (u := u) hkl2 4).2 hr5 hf5 hg)
  refine V_iconst F dX5_gather_46 ki_0 ?_
  refine V_istore_n F dX5_gather_47 (Nat.le_of_ble_eq_true rfl) ?_
  show V _ _ _ _ _ _ _ _ [_, _, _, _, _, _] _
  refine V_iconst F dX5_gather_48 ki_0 ?_
  refine V_istore F dX5_gather_49 (Nat.le_of_ble_eq_true rfl) ?_
  show V _ _ _ _ _ _ _ _ [_, _, _, _, _, _] _
  exact outer 3840 0 [cod c 4] M1 _ rfl (by simp) hr1 hfa hR
end REM2
