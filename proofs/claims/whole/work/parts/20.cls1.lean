theorem hasP_t {i m : Int32} {len : Nat} (hl : len < 2 ^ 31) (h : hasP i m (nI len) = true) : ∃ a b, i = nI a ∧ m = nI b ∧ a + b ≤ len := by
  unfold hasP at h
  simp only [Bool.and_eq_true, decide_eq_true_eq] at h
  obtain ⟨h1, h2, h3⟩ := h
  obtain ⟨a, ha, rfl⟩ := nI_of (Int32.not_lt.mpr h1)
  obtain ⟨b, hb, rfl⟩ := nI_of (Int32.not_lt.mpr h2)
  refine ⟨a, b, rfl, rfl, ?_⟩
  rw [nI_l ha, nI_l hb, nI_l hl, lN_add, Int64.le_iff_toInt_le, pk_lT (by omega), pk_lT (by omega)] at h3
  omega
def rop (s : Sg) (r i m : Int32) : Int32 := if inR r 6 = false then -1 else if sKd s (ix r) = -1 then -11 else if hasP i m (nI (sLn s (ix r))) = true then nI 0 else -12
def ubag (s : Sg) (j : Nat) (k : Int32) (len : Nat) (f : Nat → Int64) : Sg := (fun r => if r = j then k else sKd s r, fun r => if r = j then len else sLn s r, fun r => if r = j then f else sPl s r, s.2.2.2)
theorem InvC.bag {G : GP} {M : Mem} {s : Sg} (h : InvC G M s) {j : Nat} (hj : j < 6) (k : Int32) {len : Nat} (hl : len ≤ 24) (f : Nat → Int64) : InvC G (mset (mset M (gB G + 504 + 2 * j) (eO 0 [.ref (gB G + 505 + 2 * j), .int k, .int (nI len)])) (gB G + 505 + 2 * j) (eJ (gT G) 24 f)) (ubag s j k len f) := by
  obtain ⟨la, lb, hlab, hA, hJ, hL, hG, hQ, h60⟩ := h
  have fr : ∀ z, (z < gB G + 504 ∨ gB G + 516 ≤ z) → mset (mset M (gB G + 504 + 2 * j) (eO 0 [.ref (gB G + 505 + 2 * j), .int k, .int (nI len)])) (gB G + 505 + 2 * j) (eJ (gT G) 24 f) z = M z := fun z hz => by rw [mset_ne _ _ (by omega), mset_ne _ _ (by omega)]
  refine ⟨la, lb, hlab, (fr _ (by omega)).trans hA, hJ.frame (fun z z1 z2 => fr z (by omega)), hL.frame hlab (fun z z1 z2 => fr z (by omega)), fun r hr => ?_, hQ.frame (fun z z1 z2 => fr z (by omega)), h60⟩
  by_cases q : r = j
  · subst q
    refine ⟨?_, ?_, ?_⟩
    · rw [mset_ne _ _ (by omega), mset_eq]
      simp [ubag, sKd, sLn, sPl]
    · rw [mset_eq]
      simp [ubag, sKd, sLn, sPl]
    · simp only [ubag, sLn, if_pos]; exact hl
  · obtain ⟨b1, b2, b3⟩ := hG r hr
    refine ⟨?_, ?_, ?_⟩
    · rw [mset_ne _ _ (by omega), mset_ne _ _ (by omega), b1]
      simp [ubag, sKd, sLn, sPl, q]
    · rw [mset_ne _ _ (by omega), mset_ne _ _ (by omega), b2]
      simp [ubag, sKd, sLn, sPl, q]
    · simp only [ubag, sLn, if_neg q]; exact b3
theorem InvC.pl {G : GP} {M : Mem} {s : Sg} (h : InvC G M s) {j : Nat} (hj : j < 6) (f : Nat → Int64) : InvC G (mset M (gB G + 505 + 2 * j) (eJ (gT G) 24 f)) (ubag s j (sKd s j) (sLn s j) f) := by
  have h0 := h
  obtain ⟨la, lb, hlab, hA, hJ, hL, hG, hQ, h60⟩ := h
  obtain ⟨b1, b2, b3⟩ := hG j hj
  have := h0.bag hj (sKd s j) b3 f
  rw [mset_self b1] at this
  exact this
def S_bag (s : Sg) (r k m : Int32) : Int32 × Sg :=
  if inR r 6 = false ∨ k < -1 ∨ nI 2 < k then (-1, s) else if k = -1 then (nI 0, ubag s (ix r) (-1) 0 (fun _ => 0)) else if nI 24 < m then (-1, s) else if m < 0 then (-13, s) else (nI 0, ubag s (ix r) k (ix m) (fun _ => 0))
def S_put (s : Sg) (r i : Int32) (v : Int64) : Int32 × Sg :=
  if rop s r i (nI 1) = 0 then (nI 0, ubag s (ix r) (sKd s (ix r)) (sLn s (ix r)) (va_up (sPl s (ix r)) (ix i) (cutv (sKd s (ix r)) v))) else (rop s r i (nI 1), s)
def S_holds (s : Sg) (r i : Int32) (v : Int64) : Int32 := if rop s r i (nI 1) = 0 then bI (sPl s (ix r) (ix i) == v) else rop s r i (nI 1)
def S_copy (s : Sg) (r i t j m : Int32) : Int32 × Sg :=
  if inR r 6 = false ∨ inR t 6 = false then (-1, s) else if sKd s (ix r) = -1 ∨ sKd s (ix t) = -1 then (-11, s) else if sKd s (ix r) ≠ sKd s (ix t) then (-14, s) else
  if hasP i m (nI (sLn s (ix r))) = true ∧ hasP j m (nI (sLn s (ix t))) = true then (nI 0, ubag s (ix t) (sKd s (ix t)) (sLn s (ix t)) (va_cpy (sPl s (ix r)) (sPl s (ix t)) (ix i) (ix j) (ix m))) else (-12, s)
section CLS1
variable {G : GP} {M : Mem} {s : Sg}
theorem c_X6_refusalOfPlaces {n : Option Nat} (h : InvC G M s) (r i m : Int32) : Con G yX6_refusalOfPlaces cX6_refusalOfPlaces 4 (some .int) 1 0 0 [.ref (gB G), .int r, .int i, .int m] M n (R1 (some (.int (rop s r i m))) M n) := by
  obtain ⟨la, lb, hlab, hA, ⟨⟨gb, j1, j2⟩, -⟩, hL, hG, hQ, h60⟩ := h
  unfold bkA at hA
  generalize hR : rop s r i m = R
  unfold rop at hR
  refine Con.of (by decide +kernel) (Nat.le_of_ble_eq_true rfl) (fun X F hnm => ?_)
  show V G X 0 0 _ M _ 0 [some (.ref (gB G)), some (.int r), some (.int i), some (.int m)] []
  refine V_iload_n F dX6_refusalOfPlaces_0 rfl ?_
  refine V_isR F is_X6_58 dX6_refusalOfPlaces_1 (As := [_]) (c_X6_isBag _) rfl rfl rfl ?_
  refine V_if_ne F 9 dX6_refusalOfPlaces_4 (by decide) (fun c4 => ?_) (fun c4 => ?_)
  · rw [bI_n] at c4
    rw [if_neg (by rw [c4]; decide)] at hR
    obtain ⟨k, hk, rfl⟩ := inR_t (by omega) c4
    obtain ⟨b1, b2, b3⟩ := hG k hk
    rw [ix_nI (by omega)] at hR
    refine V_aload_n F dX6_refusalOfPlaces_9 rfl ?_
    refine V_get F fl_X6_11 dX6_refusalOfPlaces_10 (by assumption) rfl ?_
    refine V_iload_n F dX6_refusalOfPlaces_13 rfl ?_
    refine V_aaldN F 2 dX6_refusalOfPlaces_14 (by assumption) rfl rfl _ (by first | (simp only [pk_mul, nI_add, nI_1, nI_inc]; done) | (simp only [pk_mul, nI_add, nI_1, nI_inc]; rfl) | rfl) (by omega) (by omega) (j2 k hk) ?_
    refine V_get F fl_X6_74 dX6_refusalOfPlaces_15 (by assumption) rfl ?_
    refine V_iconst F dX6_refusalOfPlaces_18 ki_m1 ?_
    refine V_icmp_ne F 25 dX6_refusalOfPlaces_19 (by decide) (fun c19 => ?_) (fun c19 => ?_)
    · rw [if_neg c19] at hR
      refine V_aload_n F dX6_refusalOfPlaces_25 rfl ?_
      refine V_get F fl_X6_11 dX6_refusalOfPlaces_26 (by assumption) rfl ?_
      refine V_iload_n F dX6_refusalOfPlaces_29 rfl ?_
      refine V_aaldN F 2 dX6_refusalOfPlaces_30 (by assumption) rfl rfl _ (by first | (simp only [pk_mul, nI_add, nI_1, nI_inc]; done) | (simp only [pk_mul, nI_add, nI_1, nI_inc]; rfl) | rfl) (by omega) (by omega) (j2 k hk) ?_
      refine V_iload_n F dX6_refusalOfPlaces_31 rfl ?_
      refine V_iload_n F dX6_refusalOfPlaces_32 rfl ?_
      refine V_ivR F iv_X6_77 dX6_refusalOfPlaces_33 (As := [_, _]) (c_X0_hasPlaces b1 _ _) (by assumption) rfl rfl rfl rfl ?_
      refine V_if_eq F 43 dX6_refusalOfPlaces_36 (by decide) (fun c36 => ?_) (fun c36 => ?_)
      · rw [bI_0] at c36
        rw [if_neg (by rw [c36]; decide)] at hR
        subst hR
        refine V_bipush F dX6_refusalOfPlaces_43 kb_m12 ?_
        exact V_iret F rfl dX6_refusalOfPlaces_45 rfl ⟨rfl, rfl, rfl⟩
      · rw [bI_n] at c36
        rw [if_pos c36] at hR
        subst hR
        refine V_iconst F dX6_refusalOfPlaces_39 ki_0 ?_
        refine V_goto F 45 dX6_refusalOfPlaces_40 (by decide) ?_
        exact V_iret F rfl dX6_refusalOfPlaces_45 rfl ⟨rfl, rfl, rfl⟩
    · rw [if_pos c19] at hR
      subst hR
      refine V_bipush F dX6_refusalOfPlaces_22 kb_m11 ?_
      exact V_iret F rfl dX6_refusalOfPlaces_24 rfl ⟨rfl, rfl, rfl⟩
  · rw [bI_0] at c4
    rw [if_pos c4] at hR
    subst hR
    refine V_iconst F dX6_refusalOfPlaces_7 ki_m1 ?_
    exact V_iret F rfl dX6_refusalOfPlaces_8 rfl ⟨rfl, rfl, rfl⟩
theorem rop_0 {s : Sg} {r i m : Int32} (hb : ∀ k, k < 6 → sLn s k ≤ 24) (h : rop s r i m = 0) : ∃ k a b, k < 6 ∧ r = nI k ∧ i = nI a ∧ m = nI b ∧ a + b ≤ sLn s k ∧ a + b ≤ 24 := by
  unfold rop at h
  by_cases h1 : inR r 6 = false
  · rw [if_pos h1] at h; exact absurd h (by decide)
  · rw [if_neg h1] at h
    by_cases h2 : sKd s (ix r) = -1
    · rw [if_pos h2] at h; exact absurd h (by decide)
    · rw [if_neg h2] at h
      by_cases h3 : hasP i m (nI (sLn s (ix r))) = true
      · obtain ⟨k, hk, rfl⟩ := inR_t (x := r) (m := 6) (by omega) (by simpa using h1)
        rw [ix_nI (by omega)] at h3
        have := hb k hk
        obtain ⟨a, b, h4, h5, h6⟩ := hasP_t (by omega) h3
        exact ⟨k, a, b, hk, rfl, h4, h5, h6, by omega⟩
      · rw [if_neg h3] at h; exact absurd h (by decide)
theorem InvC.ln {G : GP} {M : Mem} {s : Sg} (h : InvC G M s) : ∀ k, k < 6 → sLn s k ≤ 24 := fun k hk => by
  obtain ⟨la, lb, hlab, hA, hJ, hL, hG, hQ, h60⟩ := h
  exact (hG k hk).2.2
theorem c_X6_put (h : InvC G M s) (r i : Int32) (v : Int64) : Con G yX6_put cX6_put 6 (some .int) 2 0 0 [.ref (gB G), .int r, .int i, .long v] M none (PC G M (S_put s r i v).1 (S_put s r i v).2) := by
  have hI := h
  obtain ⟨la, lb, hlab, hA, ⟨⟨gb, j1, j2⟩, -⟩, hL, hG, hQ, h60⟩ := h
  unfold bkA at hA
  generalize hR : S_put s r i v = R
  unfold S_put at hR
  refine Con.of (by decide +kernel) (Nat.le_of_ble_eq_true rfl) (fun X F hnm => ?_)
  show V G X 0 0 _ M _ 0 [some (.ref (gB G)), some (.int r), some (.int i), some (.long v), none, none] []
  refine V_aload_n F dX6_put_0 rfl ?_
  refine V_iload_n F dX6_put_1 rfl ?_
  refine V_iload_n F dX6_put_2 rfl ?_
  refine V_iconst F dX6_put_3 ki_1 ?_
  refine V_ivR F iv_X6_66 dX6_put_4 (As := [_, _, _]) (c_X6_refusalOfPlaces hI _ _ _) (by assumption) rfl rfl rfl rfl ?_
  refine V_istore F dX6_put_7 (Nat.le_of_ble_eq_true rfl) ?_
  show V _ _ _ _ _ _ _ _ [_, _, _, _, _, _] _
  refine V_iload F dX6_put_9 rfl ?_
  refine V_if_eq F 17 dX6_put_11 (by decide) (fun c11 => ?_) (fun c11 => ?_)
  · rw [if_pos c11] at hR
    obtain ⟨k, a, b, hk, rfl, rfl, hb, hab, hab2⟩ := rop_0 hI.ln c11
    have hb1 : 1 = b := (nI_eq (by omega) (by omega)).mp hb
    rw [ix_nI (by omega), ix_nI (by omega)] at hR
    obtain ⟨b1, b2, b3⟩ := hG k hk
    subst hR
    refine V_aload_n F dX6_put_17 rfl ?_
    refine V_get F fl_X6_11 dX6_put_18 (by assumption) rfl ?_
    refine V_iload_n F dX6_put_21 rfl ?_
    refine V_aaldN F 2 dX6_put_22 (by assumption) rfl rfl _ (by first | (simp only [pk_mul, nI_add, nI_1, nI_inc]; done) | (simp only [pk_mul, nI_add, nI_1, nI_inc]; rfl) | rfl) (by omega) (by omega) (j2 k hk) ?_
    refine V_iload_n F dX6_put_23 rfl ?_
    refine V_lload_n F dX6_put_24 rfl ?_
    refine V_ivR F iv_X6_70 dX6_put_25 (As := [_, _]) (c_X0_keep b1 b2 (by omega) v) (by assumption) rfl rfl rfl rfl ?_
    refine V_iconst F dX6_put_28 ki_0 ?_
    exact V_iret F rfl dX6_put_29 rfl ⟨rfl, hI.pl hk _, fun z hz => mset_ne _ _ (by omega), rfl⟩
  · rw [if_neg c11] at hR
    subst hR
    refine V_iload F dX6_put_14 rfl ?_
    exact V_iret F rfl dX6_put_16 rfl ⟨rfl, hI, fun _ _ => rfl, rfl⟩
theorem c_X6_holds (h : InvC G M s) (r i : Int32) (v : Int64) : Con G yX6_holds cX6_holds 6 (some .int) 2 0 0 [.ref (gB G), .int r, .int i, .long v] M none (PC G M (S_holds s r i v) s) := by
  have hI := h
  obtain ⟨la, lb, hlab, hA, ⟨⟨gb, j1, j2⟩, -⟩, hL, hG, hQ, h60⟩ := h
  unfold bkA at hA
  generalize hR : S_holds s r i v = R
  unfold S_holds at hR
  refine Con.of (by decide +kernel) (Nat.le_of_ble_eq_true rfl) (fun X F hnm => ?_)
  show V G X 0 0 _ M _ 0 [some (.ref (gB G)), some (.int r), some (.int i), some (.long v), none, none] []
  refine V_aload_n F dX6_holds_0 rfl ?_
  refine V_iload_n F dX6_holds_1 rfl ?_
  refine V_iload_n F dX6_holds_2 rfl ?_
  refine V_iconst F dX6_holds_3 ki_1 ?_
  refine V_ivR F iv_X6_66 dX6_holds_4 (As := [_, _, _]) (c_X6_refusalOfPlaces hI _ _ _) (by assumption) rfl rfl rfl rfl ?_
  refine V_istore F dX6_holds_7 (Nat.le_of_ble_eq_true rfl) ?_
  show V _ _ _ _ _ _ _ _ [_, _, _, _, _, _] _
  refine V_iload F dX6_holds_9 rfl ?_
  refine V_if_eq F 17 dX6_holds_11 (by decide) (fun c11 => ?_) (fun c11 => ?_)
  · rw [if_pos c11] at hR
    obtain ⟨k, a, b, hk, rfl, rfl, hb, hab, hab2⟩ := rop_0 hI.ln c11
    have hb1 : 1 = b := (nI_eq (by omega) (by omega)).mp hb
    rw [ix_nI (by omega), ix_nI (by omega)] at hR
    obtain ⟨b1, b2, b3⟩ := hG k hk
    refine V_aload_n F dX6_holds_17 rfl ?_
    refine V_get F fl_X6_11 dX6_holds_18 (by assumption) rfl ?_
    refine V_iload_n F dX6_holds_21 rfl ?_
    refine V_aaldN F 2 dX6_holds_22 (by assumption) rfl rfl _ (by first | (simp only [pk_mul, nI_add, nI_1, nI_inc]; done) | (simp only [pk_mul, nI_add, nI_1, nI_inc]; rfl) | rfl) (by omega) (by omega) (j2 k hk) ?_
    refine V_get F fl_X6_81 dX6_holds_23 (by assumption) rfl ?_
    refine V_iload_n F dX6_holds_26 rfl ?_
    refine V_laldN F dX6_holds_27 (by assumption) _ (by first | (simp only [pk_mul, nI_add, nI_1, nI_inc]; done) | (simp only [pk_mul, nI_add, nI_1, nI_inc]; rfl) | rfl) (by omega) (by omega) ?_
    refine V_lload_n F dX6_holds_28 rfl ?_
    refine V_lcmp F dX6_holds_29 ?_
    refine V_if_ne F 37 dX6_holds_30 (by decide) (fun c30 => ?_) (fun c30 => ?_)
    · rw [lcmp_eq] at c30
      subst hR
      refine V_iconst F dX6_holds_37 ki_0 ?_
      exact V_iret F rfl dX6_holds_38 rfl ⟨rf (by simpa using c30), hI, fun _ _ => rfl, rfl⟩
    · rw [lcmp_eq] at c30
      subst hR
      refine V_iconst F dX6_holds_33 ki_1 ?_
      refine V_goto F 38 dX6_holds_34 (by decide) ?_
      exact V_iret F rfl dX6_holds_38 rfl ⟨rt (by simpa using c30), hI, fun _ _ => rfl, rfl⟩
  · rw [if_neg c11] at hR
    subst hR
    refine V_iload F dX6_holds_14 rfl ?_
    exact V_iret F rfl dX6_holds_16 rfl ⟨rfl, hI, fun _ _ => rfl, rfl⟩
theorem c_X6_bag (h : InvC G M s) (r k m : Int32) : Con G yX6_bag cX6_bag 4 (some .int) 2 0 0 [.ref (gB G), .int r, .int k, .int m] M none (PC G M (S_bag s r k m).1 (S_bag s r k m).2) := by
  have hI := h
  obtain ⟨la, lb, hlab, hA, ⟨⟨gb, j1, j2⟩, -⟩, hL, hG, hQ, h60⟩ := h
  unfold bkA at hA
  generalize hR : S_bag s r k m = R
  unfold S_bag at hR
  refine Con.of (by decide +kernel) (Nat.le_of_ble_eq_true rfl) (fun X F hnm => ?_)
  show V G X 0 0 _ M _ 0 [some (.ref (gB G)), some (.int r), some (.int k), some (.int m)] []
  have bad : (inR r 6 = false ∨ k < -1 ∨ nI 2 < k) → V G X 0 0 (BQ G X (PC G M R.1 R.2) 0 0) M none 17 [some (.ref (gB G)), some (.int r), some (.int k), some (.int m)] [] := by
    intro z
    rw [if_pos z] at hR
    subst hR
    refine V_iconst F dX6_bag_17 ki_m1 ?_
    exact V_iret F rfl dX6_bag_18 rfl ⟨rfl, hI, fun _ _ => rfl, rfl⟩
  refine V_iload_n F dX6_bag_0 rfl ?_
  refine V_isR F is_X6_58 dX6_bag_1 (As := [_]) (c_X6_isBag _) rfl rfl rfl ?_
  refine V_if_eq F 17 dX6_bag_4 (by decide) (fun c4 => ?_) (fun c4 => ?_)
  · rw [bI_0] at c4
    exact bad (Or.inl c4)
  · rw [bI_n] at c4
    obtain ⟨j, hj, rfl⟩ := inR_t (by omega) c4
    obtain ⟨b1, b2, b3⟩ := hG j hj
    refine V_iload_n F dX6_bag_7 rfl ?_
    refine V_iconst F dX6_bag_8 ki_m1 ?_
    refine V_icmp_lt F 17 dX6_bag_9 (by decide) (fun c9 => ?_) (fun c9 => ?_)
    · exact bad (Or.inr (Or.inl c9))
    · refine V_iload_n F dX6_bag_12 rfl ?_
      refine V_iconst F dX6_bag_13 ki_2 ?_
      refine V_icmp_le F 19 dX6_bag_14 (by decide) (fun c14 => ?_) (fun c14 => ?_)
      · rw [if_neg (fun z => by
          rcases z with z | z | z
          · rw [c4] at z; cases z
          · exact c9 z
          · exact absurd z (Int32.not_lt.mpr c14)), ix_nI (by omega)] at hR
        refine V_iload_n F dX6_bag_19 rfl ?_
        refine V_iconst F dX6_bag_20 ki_m1 ?_
        refine V_icmp_ne F 37 dX6_bag_21 (by decide) (fun c21 => ?_) (fun c21 => ?_)
        · rw [if_neg c21] at hR
          refine V_iload_n F dX6_bag_37 rfl ?_
          refine V_bipush F dX6_bag_38 kb_24 ?_
          refine V_icmp_le F 45 dX6_bag_40 (by decide) (fun c40 => ?_) (fun c40 => ?_)
          · rw [if_neg (Int32.not_lt.mpr c40)] at hR
            refine V_iload_n F dX6_bag_45 rfl ?_
            refine V_if_ge F 52 dX6_bag_46 (by decide) (fun c46 => ?_) (fun c46 => ?_)
            · rw [if_neg (Int32.not_lt.mpr c46)] at hR
              obtain ⟨q, hq, rfl⟩ := nI_of (Int32.not_lt.mpr c46)
              have hq2 : q ≤ 24 := (nI_leI (b := 24) (by omega) (by omega)).mp c40
              rw [ix_nI hq] at hR
              subst hR
              refine V_aload_n F dX6_bag_52 rfl ?_
              refine V_get F fl_X6_11 dX6_bag_53 (by assumption) rfl ?_
              refine V_iload_n F dX6_bag_56 rfl ?_
              refine V_aaldN F 2 dX6_bag_57 (by assumption) rfl rfl _ (by first | (simp only [pk_mul, nI_add, nI_1, nI_inc]; done) | (simp only [pk_mul, nI_add, nI_1, nI_inc]; rfl) | rfl) (by omega) (by omega) (j2 j hj) ?_
              refine V_iload_n F dX6_bag_58 rfl ?_
              refine V_iload_n F dX6_bag_59 rfl ?_
              refine V_ivR F iv_X6_62 dX6_bag_60 (As := [_, _]) (c_X0_become b1 b2 _ _) (by assumption) rfl rfl rfl rfl ?_
              refine V_iconst F dX6_bag_63 ki_0 ?_
              exact V_iret F rfl dX6_bag_64 rfl ⟨rfl, hI.bag hj k hq2 _, fun z hz => by rw [mset_ne _ _ (by omega), mset_ne _ _ (by omega)], rfl⟩
            · rw [if_pos (Int32.not_le.mp c46)] at hR
              subst hR
              refine V_bipush F dX6_bag_49 kb_m13 ?_
              exact V_iret F rfl dX6_bag_51 rfl ⟨rfl, hI, fun _ _ => rfl, rfl⟩
          · rw [if_pos (Int32.not_le.mp c40)] at hR
            subst hR
            refine V_iconst F dX6_bag_43 ki_m1 ?_
            exact V_iret F rfl dX6_bag_44 rfl ⟨rfl, hI, fun _ _ => rfl, rfl⟩
        · subst c21
          rw [if_pos rfl] at hR
          subst hR
          refine V_aload_n F dX6_bag_24 rfl ?_
          refine V_get F fl_X6_11 dX6_bag_25 (by assumption) rfl ?_
          refine V_iload_n F dX6_bag_28 rfl ?_
          refine V_aaldN F 2 dX6_bag_29 (by assumption) rfl rfl _ (by first | (simp only [pk_mul, nI_add, nI_1, nI_inc]; done) | (simp only [pk_mul, nI_add, nI_1, nI_inc]; rfl) | rfl) (by omega) (by omega) (j2 j hj) ?_
          refine V_iconst F dX6_bag_30 ki_m1 ?_
          refine V_iconst F dX6_bag_31 ki_0 ?_
          refine V_ivR F iv_X6_62 dX6_bag_32 (As := [_, _]) (c_X0_become b1 b2 _ _) (by assumption) rfl rfl rfl rfl ?_
          refine V_iconst F dX6_bag_35 ki_0 ?_
          exact V_iret F rfl dX6_bag_36 rfl ⟨rfl, hI.bag hj (-1) (Nat.zero_le _) _, fun z hz => by rw [mset_ne _ _ (by omega), mset_ne _ _ (by omega)], rfl⟩
      · exact bad (Or.inr (Or.inr (Int32.not_le.mp c14)))
theorem c_X6_copy (h : InvC G M s) (r i t j m : Int32) : Con G yX6_copy cX6_copy 8 (some .int) 1 0 0 [.ref (gB G), .int r, .int i, .int t, .int j, .int m] M none (PC G M (S_copy s r i t j m).1 (S_copy s r i t j m).2) := by
  have hI := h
  obtain ⟨la, lb, hlab, hA, ⟨⟨gb, j1, j2⟩, -⟩, hL, hG, hQ, h60⟩ := h
  unfold bkA at hA
  generalize hR : S_copy s r i t j m = R
  unfold S_copy at hR
  refine Con.of (by decide +kernel) (Nat.le_of_ble_eq_true rfl) (fun X F hnm => ?_)
  show V G X 0 0 _ M _ 0 [some (.ref (gB G)), some (.int r), some (.int i), some (.int t), some (.int j), some (.int m), none, none] []
  have bad : (inR r 6 = false ∨ inR t 6 = false) → V G X 0 0 (BQ G X (PC G M R.1 R.2) 0 0) M none 14 [some (.ref (gB G)), some (.int r), some (.int i), some (.int t), some (.int j), some (.int m), none, none] [] := by
    intro z
    rw [if_pos z] at hR
    subst hR
    refine V_iconst F dX6_copy_14 ki_m1 ?_
    exact V_iret F rfl dX6_copy_15 rfl ⟨rfl, hI, fun _ _ => rfl, rfl⟩
  refine V_iload_n F dX6_copy_0 rfl ?_
  refine V_isR F is_X6_58 dX6_copy_1 (As := [_]) (c_X6_isBag _) rfl rfl rfl ?_
  refine V_if_eq F 14 dX6_copy_4 (by decide) (fun c4 => ?_) (fun c4 => ?_)
  · rw [bI_0] at c4
    exact bad (Or.inl c4)
  · rw [bI_n] at c4
    refine V_iload_n F dX6_copy_7 rfl ?_
    refine V_isR F is_X6_58 dX6_copy_8 (As := [_]) (c_X6_isBag _) rfl rfl rfl ?_
    refine V_if_ne F 16 dX6_copy_11 (by decide) (fun c11 => ?_) (fun c11 => ?_)
    · rw [bI_n] at c11
      rw [if_neg (fun z => by
          rcases z with z | z
          · rw [c4] at z; cases z
          · rw [c11] at z; cases z)] at hR
      obtain ⟨a, ha, rfl⟩ := inR_t (by omega) c4
      obtain ⟨b, hb, rfl⟩ := inR_t (by omega) c11
      obtain ⟨b1, b2, b3⟩ := hG a ha
      obtain ⟨d1, d2, d3⟩ := hG b hb
      rw [ix_nI (by omega), ix_nI (by omega)] at hR
      have null : (sKd s a = -1 ∨ sKd s b = -1) → V G X 0 0 (BQ G X (PC G M R.1 R.2) 0 0) M none 50 [some (.ref (gB G)), some (.int (nI a)), some (.int i), some (.int (nI b)), some (.int j), some (.int m), some (.ref (gB G + 504 + 2 * a)), some (.ref (gB G + 504 + 2 * b))] [] := by
        intro z
        rw [if_pos z] at hR
        subst hR
        refine V_bipush F dX6_copy_50 kb_m11 ?_
        exact V_iret F rfl dX6_copy_52 rfl ⟨rfl, hI, fun _ _ => rfl, rfl⟩
      refine V_aload_n F dX6_copy_16 rfl ?_
      refine V_get F fl_X6_11 dX6_copy_17 (by assumption) rfl ?_
      refine V_iload_n F dX6_copy_20 rfl ?_
      refine V_aaldN F 2 dX6_copy_21 (by assumption) rfl rfl _ (by first | (simp only [pk_mul, nI_add, nI_1, nI_inc]; done) | (simp only [pk_mul, nI_add, nI_1, nI_inc]; rfl) | rfl) (by omega) (by omega) (j2 a ha) ?_
      refine V_astore F dX6_copy_22 (Nat.le_of_ble_eq_true rfl) ?_
      show V _ _ _ _ _ _ _ _ [_, _, _, _, _, _, _, _] _
      refine V_aload_n F dX6_copy_24 rfl ?_
      refine V_get F fl_X6_11 dX6_copy_25 (by assumption) rfl ?_
      refine V_iload_n F dX6_copy_28 rfl ?_
      refine V_aaldN F 2 dX6_copy_29 (by assumption) rfl rfl _ (by first | (simp only [pk_mul, nI_add, nI_1, nI_inc]; done) | (simp only [pk_mul, nI_add, nI_1, nI_inc]; rfl) | rfl) (by omega) (by omega) (j2 b hb) ?_
      refine V_astore F dX6_copy_30 (Nat.le_of_ble_eq_true rfl) ?_
      show V _ _ _ _ _ _ _ _ [_, _, _, _, _, _, _, _] _
      refine V_aload F dX6_copy_32 rfl ?_
      refine V_get F fl_X6_74 dX6_copy_34 (by assumption) rfl ?_
      refine V_iconst F dX6_copy_37 ki_m1 ?_
      refine V_icmp_eq F 50 dX6_copy_38 (by decide) (fun c38 => ?_) (fun c38 => ?_)
      · exact null (Or.inl c38)
      · refine V_aload F dX6_copy_41 rfl ?_
        refine V_get F fl_X6_74 dX6_copy_43 (by assumption) rfl ?_
        refine V_iconst F dX6_copy_46 ki_m1 ?_
        refine V_icmp_ne F 53 dX6_copy_47 (by decide) (fun c47 => ?_) (fun c47 => ?_)
        · rw [if_neg (fun z => z.elim c38 c47)] at hR
          refine V_aload F dX6_copy_53 rfl ?_
          refine V_get F fl_X6_74 dX6_copy_55 (by assumption) rfl ?_
          refine V_aload F dX6_copy_58 rfl ?_
          refine V_get F fl_X6_74 dX6_copy_60 (by assumption) rfl ?_
          refine V_icmp_eq F 69 dX6_copy_63 (by decide) (fun c63 => ?_) (fun c63 => ?_)
          · rw [if_neg (fun z => z c63)] at hR
            have out : ¬ (hasP i m (nI (sLn s a)) = true ∧ hasP j m (nI (sLn s b)) = true) → V G X 0 0 (BQ G X (PC G M R.1 R.2) 0 0) M none 92 [some (.ref (gB G)), some (.int (nI a)), some (.int i), some (.int (nI b)), some (.int j), some (.int m), some (.ref (gB G + 504 + 2 * a)), some (.ref (gB G + 504 + 2 * b))] [] := by
              intro z
              rw [if_neg z] at hR
              subst hR
              refine V_bipush F dX6_copy_92 kb_m12 ?_
              exact V_iret F rfl dX6_copy_94 rfl ⟨rfl, hI, fun _ _ => rfl, rfl⟩
            refine V_aload F dX6_copy_69 rfl ?_
            refine V_iload_n F dX6_copy_71 rfl ?_
            refine V_iload F dX6_copy_72 rfl ?_
            refine V_ivR F iv_X6_77 dX6_copy_74 (As := [_, _]) (c_X0_hasPlaces b1 _ _) (by assumption) rfl rfl rfl rfl ?_
            refine V_if_eq F 92 dX6_copy_77 (by decide) (fun c77 => ?_) (fun c77 => ?_)
            · rw [bI_0] at c77
              exact out (fun z => by rw [c77] at z; cases z.1)
            · rw [bI_n] at c77
              refine V_aload F dX6_copy_80 rfl ?_
              refine V_iload F dX6_copy_82 rfl ?_
              refine V_iload F dX6_copy_84 rfl ?_
              refine V_ivR F iv_X6_77 dX6_copy_86 (As := [_, _]) (c_X0_hasPlaces d1 _ _) (by assumption) rfl rfl rfl rfl ?_
              refine V_if_ne F 95 dX6_copy_89 (by decide) (fun c89 => ?_) (fun c89 => ?_)
              · rw [bI_n] at c89
                rw [if_pos ⟨c77, c89⟩] at hR
                obtain ⟨i', m', rfl, rfl, h1⟩ := hasP_t (by omega) c77
                obtain ⟨j', m2, rfl, hmm, h2⟩ := hasP_t (by omega) c89
                have hmm : m' = m2 := (nI_eq (by omega) (by omega)).mp hmm
                subst hmm
                rw [ix_nI (by omega), ix_nI (by omega), ix_nI (by omega)] at hR
                subst hR
                refine V_aload F dX6_copy_95 rfl ?_
                refine V_get F fl_X6_81 dX6_copy_97 (by assumption) rfl ?_
                refine V_iload_n F dX6_copy_100 rfl ?_
                refine V_aload F dX6_copy_101 rfl ?_
                refine V_get F fl_X6_81 dX6_copy_103 (by assumption) rfl ?_
                refine V_iload F dX6_copy_106 rfl ?_
                refine V_iload F dX6_copy_108 rfl ?_
                refine V_acopy F ac_X6_85 dX6_copy_110 b2 d2 i' j' m' rfl rfl rfl (by omega) (by omega) (by omega) (by omega) (by decide) (Nat.le_of_ble_eq_true rfl) ?_
                refine V_iconst F dX6_copy_113 ki_0 ?_
                exact V_iret F rfl dX6_copy_114 rfl ⟨rfl, hI.pl hb _, fun z hz => mset_ne _ _ (by omega), rfl⟩
              · rw [bI_0] at c89
                exact out (fun z => by rw [c89] at z; cases z.2)
          · rw [if_pos c63] at hR
            subst hR
            refine V_bipush F dX6_copy_66 kb_m14 ?_
            exact V_iret F rfl dX6_copy_68 rfl ⟨rfl, hI, fun _ _ => rfl, rfl⟩
        · exact null (Or.inr c47)
    · rw [bI_0] at c11
      exact bad (Or.inr c11)
end CLS1
