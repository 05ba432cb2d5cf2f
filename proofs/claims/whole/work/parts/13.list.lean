def elen : Option va_E → Nat
  | some (.inl x) => x.2.1
  | _ => 0
def ekd : Option va_E → Nat
  | some (.inl (_, _, .inl _)) => 1
  | some (.inl (_, _, .inr (.inl _))) => 2
  | some (.inl _) => 3
  | _ => 0
def sbit (se : Int32) (k : Nat) : Bool := ((se >>> (nI k &&& 31)) &&& nI 1) == nI 1
def adv (lst : Nat → Nat → Int64) (S wh : Nat) : Nat → Nat → Nat
  | 0, p => p
  | m + 1, p => if p < S ∧ lst p 0 < lN wh then adv lst S wh m (p + 1) else p
theorem adv_le (lst : Nat → Nat → Int64) (S wh : Nat) : ∀ m p, p ≤ S → adv lst S wh m p ≤ S
  | 0, p, h => h
  | m + 1, p, h => by
    unfold adv
    split
    · exact adv_le lst S wh m (p + 1) (by omega)
    · exact h
def lis (lst : Nat → Nat → Int64) (S wh p : Nat) : Bool := decide (p < S) && lst p 0 == lN wh
def bl (lst : Nat → Nat → Int64) (S : Nat) (se : Int32) (ii : Nat) : Nat → Nat → Nat → Nat → Int32
  | 0, _, _, _ => -3
  | m + 1, wh, ps, p => if lis lst S wh (adv lst S wh (S - p) p) = false ∧ sbit se (wh % 24) = true then (if ps = ii then nI wh else bl lst S se ii m (wh + 1) (ps + 1) (adv lst S wh (S - p) p)) else bl lst S se ii m (wh + 1) ps (adv lst S wh (S - p) p)
section LST2
variable {G : GP} {M : Mem} {n : Option Nat} {a ro : Nat} {r : Nat → Nat} {lst : Nat → Nat → Int64} {S : Nat} {mo se : Int32} {b q : Nat} {c : Qd}
theorem c_X2_enter (hl : isLst G M a ro r lst S mo se) (hS : S ≤ 240) (hr : ∀ w v, w < 3 → v < 3 → r w = r v → w = v) (h0 : M b = some (eO 1 [.ref q])) (h1 : M q = some (eJ (gT G) 12 (fc c))) {i : Nat} (hi : i < 4) : Con G yX2_enter cX2_enter 5 (some .boolean) 3 0 0 [.ref a, .ref b, .int (nI i)] M none (fun v M' n' => v = some (.int (bI (ent lst S c i).1)) ∧ isLst G M' a ro r (ent lst S c i).2.2 (ent lst S c i).2.1 mo se ∧ (∀ z, z ≠ a → (∀ w, w < 3 → z ≠ r w) → M' z = M z) ∧ n' = none) := by
  have hl0 := hl
  obtain ⟨l0, ⟨g, l1, l2⟩, l3⟩ := hl
  generalize hE : ent lst S c i = E
  unfold ent at hE
  refine Con.of (by decide +kernel) (Nat.le_of_ble_eq_true rfl) (fun X F hnm => ?_)
  show V G X 0 0 _ M _ 0 [some (.ref a), some (.ref b), some (.int (nI i)), none, none] []
  generalize hQ : BQ G X _ 0 0 = Q
  refine V_aload_n F dX2_enter_0 rfl ?_
  refine V_iload_n F dX2_enter_1 rfl ?_
  refine V_ivR F iv_X2_26 dX2_enter_2 (As := [_]) (c_X1_refusalOfCoin h0 h1 hi) (by assumption) rfl rfl rfl rfl ?_
  refine V_if_eq F 10 dX2_enter_5 (by decide) (fun c5 => ?_) (fun c5 => ?_)
  case refine_2 =>
    rw [if_neg c5] at hE
    subst hE hQ
    refine V_iconst F dX2_enter_8 ki_0 ?_
    exact V_iret F rfl dX2_enter_9 rfl ⟨rfl, hl0, fun _ _ _ => rfl, rfl⟩
  rw [if_pos c5] at hE
  have p0 := posl_le lst (c i) S
  generalize hp : posl lst (c i) S = p at hE p0
  have mid : V G X 0 0 Q M none 37 [some (.ref a), some (.ref b), some (.int (nI i)), some (.int (nI p)), none] [] := by
    have late : ¬ (0 < p ∧ ordv (lst (p - 1)) (c i) = 0) → V G X 0 0 Q M none 55 [some (.ref a), some (.ref b), some (.int (nI i)), some (.int (nI p)), none] [] := by
      intro hno
      rw [if_neg hno] at hE
      refine V_aload_n F dX2_enter_55 rfl ?_
      refine V_get F fl_X2_16 dX2_enter_56 (by assumption) rfl ?_
      refine V_sipush F dX2_enter_59 ks_240 ?_
      refine V_icmp_lt F 67 dX2_enter_62 (by decide) (fun c62 => ?_) (fun c62 => ?_)
      · have c62 := (nI_ltI (by omega) (by omega)).mp c62
        rw [if_neg (show ¬ 240 ≤ S by omega)] at hE
        have hra : ∀ w, w < 3 → a ≠ r w := fun w hw => ne_oj l0 (l3 w hw)
        have hrb : ∀ w, w < 3 → b ≠ r w := fun w hw => ne_oj h0 (l3 w hw)
        have hro : ∀ w, w < 3 → ro ≠ r w := fun w hw e => by
          have := l3 w hw
          rw [← e, l1] at this
          exact absurd (show (3 : Nat) = 240 from congrArg elen this) (by decide)
        have hrq : ∀ w, w < 3 → q ≠ r w := fun w hw e => by
          have := l3 w hw
          rw [← e, h1] at this
          cases this
        have step : ∀ (w : Nat) (M' : Mem), w < 3 → M' a = M a → M' ro = M ro → M' b = M b → M' q = M q → M' (r w) = M (r w) → V G X 0 0 Q (mset M' (r w) (eJ (gT G) 240 (fun k => lins lst p S (c i) k w))) none 70 [some (.ref a), some (.ref b), some (.int (nI i)), some (.int (nI p)), some (.int (nI (w + 1)))] [] → V G X 0 0 Q M' none 70 [some (.ref a), some (.ref b), some (.int (nI i)), some (.int (nI p)), some (.int (nI w))] [] := by
          intro w M' hw e1 e2 e3 e4 e5 kk
          have l0' := e1.trans l0
          have l1' := e2.trans l1
          have l3' := e5.trans (l3 w hw)
          refine V_iload F dX2_enter_70 rfl ?_
          refine V_iconst F dX2_enter_72 ki_2 ?_
          refine V_icmp_gt F 125 dX2_enter_73 (by decide) (fun c73 => absurd c73 (nI_nlt (by omega) (by omega))) (fun c73 => ?_)
          refine V_aload_n F dX2_enter_76 rfl ?_
          refine V_get F fl_X2_11 dX2_enter_77 (by assumption) rfl ?_
          refine V_iload F dX2_enter_80 rfl ?_
          refine V_aaldN F 5 dX2_enter_82 (by assumption) rfl rfl _ (by first | (simp only [pk_mul, nI_add, nI_1, nI_inc]; done) | (simp only [pk_mul, nI_add, nI_1, nI_inc]; rfl) | rfl) (by omega) (by omega) (l2 w hw) ?_
          refine V_iload_n F dX2_enter_83 rfl ?_
          refine V_aload_n F dX2_enter_84 rfl ?_
          refine V_get F fl_X2_11 dX2_enter_85 (by assumption) rfl ?_
          refine V_iload F dX2_enter_88 rfl ?_
          refine V_aaldN F 5 dX2_enter_90 (by assumption) rfl rfl _ (by first | (simp only [pk_mul, nI_add, nI_1, nI_inc]; done) | (simp only [pk_mul, nI_add, nI_1, nI_inc]; rfl) | rfl) (by omega) (by omega) (l2 w hw) ?_
          refine V_iload_n F dX2_enter_91 rfl ?_
          refine V_iconst F dX2_enter_92 ki_1 ?_
          refine V_iadd F dX2_enter_93 ?_
          refine V_aload_n F dX2_enter_94 rfl ?_
          refine V_get F fl_X2_16 dX2_enter_95 (by assumption) rfl ?_
          refine V_iload_n F dX2_enter_98 rfl ?_
          refine V_isub F dX2_enter_99 ?_
          rw [nI_add, pk_sub p0]
          refine V_acopy F ac_X2_36 dX2_enter_100 l3' l3' p (p + 1) (S - p) rfl rfl rfl (by omega) (by omega) (by omega) (by omega) (by decide) (Nat.le_of_ble_eq_true rfl) ?_
          refine V_aload_n F dX2_enter_103 rfl ?_
          refine V_get F fl_X2_11 dX2_enter_104 ((mset_ne _ _ (hra w hw)).trans l0') rfl ?_
          refine V_iload F dX2_enter_107 rfl ?_
          refine V_aaldN F 5 dX2_enter_109 ((mset_ne _ _ (hro w hw)).trans l1') rfl rfl _ (by first | (simp only [pk_mul, nI_add, nI_1, nI_inc]; done) | (simp only [pk_mul, nI_add, nI_1, nI_inc]; rfl) | rfl) (by omega) (by omega) (l2 w hw) ?_
          refine V_iload_n F dX2_enter_110 rfl ?_
          refine V_aload_n F dX2_enter_111 rfl ?_
          refine V_iload_n F dX2_enter_112 rfl ?_
          refine V_iload F dX2_enter_113 rfl ?_
          refine V_ivR F iv_X2_42 dX2_enter_115 (As := [_, _]) (c_X1_told ((mset_ne _ _ (hrb w hw)).trans (e3.trans h0)) ((mset_ne _ _ (hrq w hw)).trans (e4.trans h1)) hi hw) ((mset_ne _ _ (hrb w hw)).trans (e3.trans h0)) rfl rfl rfl rfl ?_
          refine V_lastN F dX2_enter_118 (mset_eq _ _ _) _ (by first | (simp only [pk_mul, nI_add, nI_1, nI_inc]; done) | (simp only [pk_mul, nI_add, nI_1, nI_inc]; rfl) | rfl) (by omega) (by omega) ?_
          rw [mset_mset]
          refine V_mem (fun H hm => mem_J (g := fun k => lins lst p S (c i) k w) ?_ hm) ?_
          · intro k hk
            unfold va_up va_cpy lins
            by_cases q1 : k = p
            · rw [if_pos q1, if_pos q1]
            · rw [if_neg q1, if_neg q1]
              by_cases q2 : p < k ∧ k ≤ S
              · rw [if_pos (by omega), if_pos q2, show p + (k - (p + 1)) = k - 1 by omega]
              · rw [if_neg (by omega), if_neg q2]
          refine V_iinc1 F dX2_enter_119 rfl ?_
          show V _ _ _ _ _ _ _ _ [_, _, _, _, _] _
          refine V_goto F 70 dX2_enter_122 (by decide) ?_
          exact kk
        refine V_iconst F dX2_enter_67 ki_0 ?_
        refine V_istore F dX2_enter_68 (Nat.le_of_ble_eq_true rfl) ?_
        show V _ _ _ _ _ _ _ _ [_, _, _, _, _] _
        have d01 : r 1 ≠ r 0 := fun e => by have := hr 1 0 (by omega) (by omega) e; omega
        have d02 : r 2 ≠ r 0 := fun e => by have := hr 2 0 (by omega) (by omega) e; omega
        have d12 : r 2 ≠ r 1 := fun e => by have := hr 2 1 (by omega) (by omega) e; omega
        refine step 0 M (by omega) rfl rfl rfl rfl rfl (step 1 _ (by omega) (mset_ne _ _ (hra 0 (by omega))) (mset_ne _ _ (hro 0 (by omega))) (mset_ne _ _ (hrb 0 (by omega))) (mset_ne _ _ (hrq 0 (by omega))) (mset_ne _ _ d01) (step 2 _ (by omega) ((mset_ne _ _ (hra 1 (by omega))).trans (mset_ne _ _ (hra 0 (by omega)))) ((mset_ne _ _ (hro 1 (by omega))).trans (mset_ne _ _ (hro 0 (by omega)))) ((mset_ne _ _ (hrb 1 (by omega))).trans (mset_ne _ _ (hrb 0 (by omega)))) ((mset_ne _ _ (hrq 1 (by omega))).trans (mset_ne _ _ (hrq 0 (by omega)))) ((mset_ne _ _ d12).trans (mset_ne _ _ d02)) ?_))
        have la : mset (mset (mset M (r 0) (eJ (gT G) 240 (fun k => lins lst p S (c i) k 0))) (r 1) (eJ (gT G) 240 (fun k => lins lst p S (c i) k 1))) (r 2) (eJ (gT G) 240 (fun k => lins lst p S (c i) k 2)) a = some (eO 2 [.ref ro, .int (nI S), .int mo, .int se]) := by
          rw [mset_ne _ _ (hra 2 (by omega)), mset_ne _ _ (hra 1 (by omega)), mset_ne _ _ (hra 0 (by omega))]
          exact l0
        refine V_iload F dX2_enter_70 rfl ?_
        refine V_iconst F dX2_enter_72 ki_2 ?_
        refine V_icmp_gt F 125 dX2_enter_73 (by decide) (fun c73 => ?_) (fun c73 => absurd (by decide) c73)
        refine V_aload_n F dX2_enter_125 rfl ?_
        refine V_dup F dX2_enter_126 rfl ?_
        refine V_get F fl_X2_16 dX2_enter_127 (by assumption) rfl ?_
        refine V_iconst F dX2_enter_130 ki_1 ?_
        refine V_iadd F dX2_enter_131 ?_
        rw [nI_add]
        subst hE hQ
        refine V_put F fl_X2_16 dX2_enter_132 (by assumption) rfl rfl (Nat.le_of_ble_eq_true rfl) ?_
        refine V_iconst F dX2_enter_135 ki_1 ?_
        refine V_iret F rfl dX2_enter_136 rfl ⟨rfl, ?fin, ?frame, rfl⟩
        case fin =>
          refine ⟨mset_eq _ _ _, ⟨g, ?_, l2⟩, fun w hw => ?_⟩
          · rw [mset_ne _ _ (fun e => by rw [e, l0] at l1; cases l1), mset_ne _ _ (hro 2 (by omega)), mset_ne _ _ (hro 1 (by omega)), mset_ne _ _ (hro 0 (by omega))]
            exact l1
          · rw [mset_ne _ _ (hra w hw).symm]
            match w, hw with
            | 0, _ => rw [mset_ne _ _ d02.symm, mset_ne _ _ d01.symm, mset_eq]
            | 1, _ => rw [mset_ne _ _ d12.symm, mset_eq]
            | 2, _ => rw [mset_eq]
        case frame =>
          intro z z1 z2
          rw [mset_ne _ _ z1, mset_ne _ _ (z2 2 (by omega)), mset_ne _ _ (z2 1 (by omega)), mset_ne _ _ (z2 0 (by omega))]
      · have c62 : ¬ S < 240 := fun z => c62 ((nI_ltI (a := S) (b := 240) (by omega) (by omega)).mpr z)
        rw [if_pos (show 240 ≤ S by omega)] at hE
        subst hE hQ
        refine V_iconst F dX2_enter_65 ki_0 ?_
        exact V_iret F rfl dX2_enter_66 rfl ⟨rfl, hl0, fun _ _ _ => rfl, rfl⟩
    refine V_iload_n F dX2_enter_37 rfl ?_
    refine V_if_le F 55 dX2_enter_38 (by decide) (fun c38 => ?_) (fun c38 => ?_)
    · have c38 : p = 0 := by
        rcases Nat.eq_zero_or_pos p with z | z
        · exact z
        · exact absurd c38 (nI_nle z (by omega))
      exact late (fun z => by omega)
    · have c38 : 0 < p := by
        rcases Nat.eq_zero_or_pos p with z | z
        · subst z; exact absurd (by decide) c38
        · exact z
      refine V_aload_n F dX2_enter_41 rfl ?_
      refine V_iload_n F dX2_enter_42 rfl ?_
      refine V_iconst F dX2_enter_43 ki_1 ?_
      refine V_isub F dX2_enter_44 ?_
      refine V_aload_n F dX2_enter_45 rfl ?_
      refine V_iload_n F dX2_enter_46 rfl ?_
      rw [pk_sub (by omega)]
      refine V_ivR F iv_X2_32 dX2_enter_47 (As := [_, _, _]) (c_X2_order hl0 h0 h1 (j := p - 1) (by omega) hi) (by assumption) rfl rfl rfl rfl ?_
      refine V_if_ne F 55 dX2_enter_50 (by decide) (fun c50 => ?_) (fun c50 => ?_)
      · exact late (fun z => c50 z.2)
      · rw [if_pos ⟨c38, c50⟩] at hE
        subst hE hQ
        refine V_iconst F dX2_enter_53 ki_1 ?_
        exact V_iret F rfl dX2_enter_54 rfl ⟨rfl, hl0, fun _ _ _ => rfl, rfl⟩
  have loop : ∀ k : Nat, k ≤ S → posl lst (c i) k = p → V G X 0 0 Q M none 15 [some (.ref a), some (.ref b), some (.int (nI i)), some (.int (nI k)), none] [] := by
    intro k
    induction k with
    | zero =>
      intro hk hp
      have hp : p = 0 := hp.symm
      subst hp
      refine V_iload_n F dX2_enter_15 rfl ?_
      refine V_if_le F 37 dX2_enter_16 (by decide) (fun c16 => ?_) (fun c16 => absurd (by decide) c16)
      exact mid
    | succ k ih =>
      intro hk hp
      unfold posl at hp
      refine V_iload_n F dX2_enter_15 rfl ?_
      refine V_if_le F 37 dX2_enter_16 (by decide) (fun c16 => absurd c16 (nI_nle (by omega) (by omega))) (fun c16 => ?_)
      refine V_aload_n F dX2_enter_19 rfl ?_
      refine V_iload_n F dX2_enter_20 rfl ?_
      refine V_iconst F dX2_enter_21 ki_1 ?_
      refine V_isub F dX2_enter_22 ?_
      refine V_aload_n F dX2_enter_23 rfl ?_
      refine V_iload_n F dX2_enter_24 rfl ?_
      rw [pk_sub (by omega), Nat.add_sub_cancel]
      refine V_ivR F iv_X2_32 dX2_enter_25 (As := [_, _, _]) (c_X2_order hl0 h0 h1 (j := k) (by omega) hi) (by assumption) rfl rfl rfl rfl ?_
      refine V_if_le F 37 dX2_enter_28 (by decide) (fun c28 => ?_) (fun c28 => ?_)
      · rw [if_neg (by rw [Int32.not_lt]; exact c28)] at hp
        subst hp
        exact mid
      · rw [if_pos (Int32.not_le.mp c28)] at hp
        refine V_iincm F dX2_enter_31 rfl ?_
        show V _ _ _ _ _ _ _ _ [_, _, _, _, _] _
        refine V_goto F 15 dX2_enter_34 (by decide) ?_
        exact ih (by omega) hp
  refine V_aload_n F dX2_enter_10 rfl ?_
  refine V_get F fl_X2_16 dX2_enter_11 (by assumption) rfl ?_
  refine V_istore_n F dX2_enter_14 (Nat.le_of_ble_eq_true rfl) ?_
  show V _ _ _ _ _ _ _ _ [_, _, _, _, _] _
  exact loop S (Nat.le_refl _) hp
theorem c_X2_bendLeft {m0 : Nat} (hl : isLst G M a ro r lst S (nI m0) se) (hS : S ≤ 240) (hm : m0 ≤ 2000) {ii : Nat} (hi : ii < 2 ^ 31) : Con G yX2_bendLeft cX2_bendLeft 6 (some .int) 0 0 0 [.ref a, .int (nI ii)] M n (R1 (some (.int (bl lst S se ii m0 1 0 0))) M n) := by
  obtain ⟨l0, ⟨g, l1, l2⟩, l3⟩ := hl
  generalize hR : bl lst S se ii m0 1 0 0 = res
  refine Con.of (by decide +kernel) (Nat.le_of_ble_eq_true rfl) (fun X F hnm => ?_)
  show V G X 0 0 _ M _ 0 [some (.ref a), some (.int (nI ii)), none, none, none, none] []
  generalize hQ : BQ G X _ 0 0 = Q
  have scan : ∀ (m p wh ps : Nat), m = S - p → p ≤ S → wh < 2 ^ 31 → V G X 0 0 Q M n 45 [some (.ref a), some (.int (nI ii)), some (.int (nI ps)), some (.int (nI (adv lst S wh m p))), some (.int (nI wh)), none] [] → V G X 0 0 Q M n 16 [some (.ref a), some (.int (nI ii)), some (.int (nI ps)), some (.int (nI p)), some (.int (nI wh)), none] [] := by
    intro m
    induction m with
    | zero =>
      intro p wh ps hm hp hw kk
      refine V_iload_n F dX2_bendLeft_16 rfl ?_
      refine V_aload_n F dX2_bendLeft_17 rfl ?_
      refine V_get F fl_X2_16 dX2_bendLeft_18 (by assumption) rfl ?_
      refine V_icmp_ge F 45 dX2_bendLeft_21 (by decide) (fun c21 => ?_) (fun c21 => absurd (nI_le (by omega) (by omega)) c21)
      exact kk
    | succ m ih =>
      intro p wh ps hm hp hw kk
      unfold adv at kk
      refine V_iload_n F dX2_bendLeft_16 rfl ?_
      refine V_aload_n F dX2_bendLeft_17 rfl ?_
      refine V_get F fl_X2_16 dX2_bendLeft_18 (by assumption) rfl ?_
      refine V_icmp_ge F 45 dX2_bendLeft_21 (by decide) (fun c21 => absurd c21 (nI_ge (by omega) (by omega))) (fun c21 => ?_)
      refine V_aload_n F dX2_bendLeft_24 rfl ?_
      refine V_get F fl_X2_11 dX2_bendLeft_25 (by assumption) rfl ?_
      refine V_iconst F dX2_bendLeft_28 ki_0 ?_
      refine V_aaldN F 5 dX2_bendLeft_29 (by assumption) rfl rfl _ (by first | (simp only [pk_mul, nI_add, nI_1, nI_inc]; done) | (simp only [pk_mul, nI_add, nI_1, nI_inc]; rfl) | rfl) (by omega) (by omega) (l2 0 (by omega)) ?_
      refine V_iload_n F dX2_bendLeft_30 rfl ?_
      refine V_laldN F dX2_bendLeft_31 (l3 0 (by omega)) _ (by first | (simp only [pk_mul, nI_add, nI_1, nI_inc]; done) | (simp only [pk_mul, nI_add, nI_1, nI_inc]; rfl) | rfl) (by omega) (by omega) ?_
      refine V_iload F dX2_bendLeft_32 rfl ?_
      refine V_i2l F dX2_bendLeft_34 ?_
      rw [nI_l hw]
      refine V_lcmp F dX2_bendLeft_35 ?_
      refine V_if_ge F 45 dX2_bendLeft_36 (by decide) (fun c36 => ?_) (fun c36 => ?_)
      · rw [lcmp_ge] at c36
        rw [if_neg (fun z => absurd z.2 (by rw [Int64.not_lt]; exact c36))] at kk
        exact kk
      · rw [lcmp_ge] at c36
        rw [if_pos ⟨by omega, Int64.not_le.mp c36⟩] at kk
        refine V_iinc1 F dX2_bendLeft_39 rfl ?_
        show V _ _ _ _ _ _ _ _ [_, _, _, _, _, _] _
        refine V_goto F 16 dX2_bendLeft_42 (by decide) ?_
        exact ih (p + 1) wh ps (by omega) (by omega) hw kk
  have loop : ∀ (m wh ps p : Nat), m + wh = m0 + 1 → ps < wh → p ≤ S → bl lst S se ii m wh ps p = res → V G X 0 0 Q M n 7 [some (.ref a), some (.int (nI ii)), some (.int (nI ps)), some (.int (nI p)), some (.int (nI wh)), none] [] := by
    intro m
    induction m with
    | zero =>
      intro wh ps p hm1 hps hp hE
      subst hQ
      refine V_iload F dX2_bendLeft_7 rfl ?_
      refine V_aload_n F dX2_bendLeft_9 rfl ?_
      refine V_get F fl_X2_20 dX2_bendLeft_10 (by assumption) rfl ?_
      refine V_icmp_gt F 113 dX2_bendLeft_13 (by decide) (fun c13 => ?_) (fun c13 => absurd (nI_lt (by omega) (by omega)) c13)
      refine V_bipush F dX2_bendLeft_113 kb_m3 ?_
      exact V_iret F rfl dX2_bendLeft_115 rfl ⟨by rw [← hE]; rfl, rfl, rfl⟩
    | succ m ih =>
      intro wh ps p hm1 hps hp hE
      refine V_iload F dX2_bendLeft_7 rfl ?_
      refine V_aload_n F dX2_bendLeft_9 rfl ?_
      refine V_get F fl_X2_20 dX2_bendLeft_10 (by assumption) rfl ?_
      refine V_icmp_gt F 113 dX2_bendLeft_13 (by decide) (fun c13 => absurd c13 (nI_nlt (by omega) (by omega))) (fun c13 => ?_)
      refine scan (S - p) p wh ps rfl hp (by omega) ?_
      have ha := adv_le lst S wh (S - p) p hp
      unfold bl at hE
      generalize adv lst S wh (S - p) p = p' at ha hE ⊢
      have last : V G X 0 0 Q M n 73 [some (.ref a), some (.int (nI ii)), some (.int (nI ps)), some (.int (nI p')), some (.int (nI wh)), none] [.int (bI (lis lst S wh p'))] := by
        refine V_istore F dX2_bendLeft_73 (Nat.le_of_ble_eq_true rfl) ?_
        show V _ _ _ _ _ _ _ _ [_, _, _, _, _, _] _
        refine V_iload F dX2_bendLeft_75 rfl ?_
        refine V_if_ne F 107 dX2_bendLeft_77 (by decide) (fun c77 => ?_) (fun c77 => ?_)
        · rw [bI_n] at c77
          rw [if_neg (fun z => by rw [c77] at z; cases z.1)] at hE
          refine V_iinc1 F dX2_bendLeft_107 rfl ?_
          show V _ _ _ _ _ _ _ _ [_, _, _, _, _, _] _
          refine V_goto F 7 dX2_bendLeft_110 (by decide) ?_
          exact V_drop 5 (ih (wh + 1) ps p' (by omega) (by omega) ha hE)
        · rw [bI_0] at c77
          refine V_aload_n F dX2_bendLeft_80 rfl ?_
          refine V_get F fl_X2_23 dX2_bendLeft_81 (by assumption) rfl ?_
          refine V_iload F dX2_bendLeft_84 rfl ?_
          refine V_bipush F dX2_bendLeft_86 kb_24 ?_
          refine V_irem F dX2_bendLeft_88 (by decide) ?_
          rw [pk_rem (by omega) (by omega) (by omega)]
          refine V_ishr F dX2_bendLeft_89 ?_
          refine V_iconst F dX2_bendLeft_90 ki_1 ?_
          refine V_iand F dX2_bendLeft_91 ?_
          refine V_iconst F dX2_bendLeft_92 ki_1 ?_
          refine V_icmp_ne F 107 dX2_bendLeft_93 (by decide) (fun c93 => ?_) (fun c93 => ?_)
          · rw [if_neg (fun z => c93 (by have := z.2; unfold sbit at this; simpa using this))] at hE
            refine V_iinc1 F dX2_bendLeft_107 rfl ?_
            show V _ _ _ _ _ _ _ _ [_, _, _, _, _, _] _
            refine V_goto F 7 dX2_bendLeft_110 (by decide) ?_
            exact V_drop 5 (ih (wh + 1) ps p' (by omega) (by omega) ha hE)
          · rw [if_pos ⟨c77, by unfold sbit; simpa using c93⟩] at hE
            refine V_iload_n F dX2_bendLeft_96 rfl ?_
            refine V_iload_n F dX2_bendLeft_97 rfl ?_
            refine V_icmp_ne F 104 dX2_bendLeft_98 (by decide) (fun c98 => ?_) (fun c98 => ?_)
            · rw [nI_eq (by omega) hi] at c98
              rw [if_neg c98] at hE
              refine V_iinc1 F dX2_bendLeft_104 rfl ?_
              show V _ _ _ _ _ _ _ _ [_, _, _, _, _, _] _
              refine V_iinc1 F dX2_bendLeft_107 rfl ?_
              show V _ _ _ _ _ _ _ _ [_, _, _, _, _, _] _
              refine V_goto F 7 dX2_bendLeft_110 (by decide) ?_
              exact V_drop 5 (ih (wh + 1) (ps + 1) p' (by omega) (by omega) ha hE)
            · rw [nI_eq (by omega) hi] at c98
              rw [if_pos c98] at hE
              subst hQ
              refine V_iload F dX2_bendLeft_101 rfl ?_
              exact V_iret F rfl dX2_bendLeft_103 rfl ⟨by rw [← hE], rfl, rfl⟩
      refine V_iload_n F dX2_bendLeft_45 rfl ?_
      refine V_aload_n F dX2_bendLeft_46 rfl ?_
      refine V_get F fl_X2_16 dX2_bendLeft_47 (by assumption) rfl ?_
      refine V_icmp_ge F 72 dX2_bendLeft_50 (by decide) (fun c50 => ?_) (fun c50 => ?_)
      · have c50 : ¬ p' < S := fun z => absurd c50 (nI_ge z (by omega))
        have hf : lis lst S wh p' = false := by unfold lis; simp only [Bool.and_eq_false_iff]; exact Or.inl (decide_eq_false c50)
        rw [hf] at last
        refine V_iconst F dX2_bendLeft_72 ki_0 ?_
        exact last
      · have c50 : p' < S := Nat.lt_of_not_le (fun z => c50 (nI_le z (by omega)))
        refine V_aload_n F dX2_bendLeft_53 rfl ?_
        refine V_get F fl_X2_11 dX2_bendLeft_54 (by assumption) rfl ?_
        refine V_iconst F dX2_bendLeft_57 ki_0 ?_
        refine V_aaldN F 5 dX2_bendLeft_58 (by assumption) rfl rfl _ (by first | (simp only [pk_mul, nI_add, nI_1, nI_inc]; done) | (simp only [pk_mul, nI_add, nI_1, nI_inc]; rfl) | rfl) (by omega) (by omega) (l2 0 (by omega)) ?_
        refine V_iload_n F dX2_bendLeft_59 rfl ?_
        refine V_laldN F dX2_bendLeft_60 (l3 0 (by omega)) _ (by first | (simp only [pk_mul, nI_add, nI_1, nI_inc]; done) | (simp only [pk_mul, nI_add, nI_1, nI_inc]; rfl) | rfl) (by omega) (by omega) ?_
        refine V_iload F dX2_bendLeft_61 rfl ?_
        refine V_i2l F dX2_bendLeft_63 ?_
        rw [nI_l (by omega)]
        refine V_lcmp F dX2_bendLeft_64 ?_
        refine V_if_ne F 72 dX2_bendLeft_65 (by decide) (fun c65 => ?_) (fun c65 => ?_)
        · rw [lcmp_eq] at c65
          have hf : lis lst S wh p' = false := by unfold lis; simp only [Bool.and_eq_false_iff]; exact Or.inr (by simpa using c65)
          rw [hf] at last
          refine V_iconst F dX2_bendLeft_72 ki_0 ?_
          exact last
        · rw [lcmp_eq] at c65
          have hf : lis lst S wh p' = true := by unfold lis; simp only [Bool.and_eq_true]; exact ⟨decide_eq_true c50, by simpa using c65⟩
          rw [hf] at last
          refine V_iconst F dX2_bendLeft_68 ki_1 ?_
          refine V_goto F 73 dX2_bendLeft_69 (by decide) ?_
          exact last
  refine V_iconst F dX2_bendLeft_0 ki_0 ?_
  refine V_istore_n F dX2_bendLeft_1 (Nat.le_of_ble_eq_true rfl) ?_
  show V _ _ _ _ _ _ _ _ [_, _, _, _, _, _] _
  refine V_iconst F dX2_bendLeft_2 ki_0 ?_
  refine V_istore_n F dX2_bendLeft_3 (Nat.le_of_ble_eq_true rfl) ?_
  show V _ _ _ _ _ _ _ _ [_, _, _, _, _, _] _
  refine V_iconst F dX2_bendLeft_4 ki_1 ?_
  refine V_istore F dX2_bendLeft_5 (Nat.le_of_ble_eq_true rfl) ?_
  show V _ _ _ _ _ _ _ _ [_, _, _, _, _, _] _
  exact loop m0 1 0 0 (by omega) (by omega) (by omega) hR
end LST2
