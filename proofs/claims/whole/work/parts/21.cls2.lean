theorem InvC.junk {G : GP} {M M' : Mem} {s : Sg} (h : InvC G M s) (hJ' : bkJ G M') (e : ∀ z, (z < gB G + 1 ∨ gB G + 494 ≤ z) → M' z = M z) : InvC G M' s := by
  obtain ⟨la, lb, hlab, hA, hJ, hL, hG, hQ, h60⟩ := h
  exact ⟨la, lb, hlab, (e _ (by omega)).trans hA, hJ', hL.frame hlab (fun z z1 z2 => e z (by omega)), hG.frame (fun z z1 z2 => e z (by omega)), hQ.frame (fun z z1 z2 => e z (by omega)), h60⟩
theorem InvC.desk {G : GP} {M : Mem} {s : Sg} (h : InvC G M s) (c : Qd) : InvC G (mset M (gB G + 4) (eJ (gT G) 12 (fc c))) s := by
  refine h.junk ?_ (fun z hz => mset_ne _ _ (by omega))
  obtain ⟨la, lb, hlab, hA, ⟨⟨g1, a1, a2⟩, ⟨g2, b1, b2⟩, c1, ⟨c0, c2⟩, ⟨x, f, d1, d2⟩, ⟨ws, w⟩⟩, hL, hG, hQ, h60⟩ := h
  exact ⟨⟨g1, (mset_ne _ _ (by omega)).trans a1, a2⟩, ⟨g2, (mset_ne _ _ (by omega)).trans b1, b2⟩, (mset_ne _ _ (by omega)).trans c1, ⟨c, mset_eq _ _ _⟩, ⟨x, f, (mset_ne _ _ (by omega)).trans d1, (mset_ne _ _ (by omega)).trans d2⟩, ⟨ws, w.frame (fun z z1 z2 => mset_ne _ _ (by omega))⟩⟩
def uquad (s : Sg) (c : Qd) (fr se : Int32) : Sg := (s.1, s.2.1, s.2.2.1, sNq s + 1, fun k => if k = sNq s then c else sQc s k, fun k => if k = sNq s then fr else sQf s k, fun k => if k = sNq s then se else sQs s k, s.2.2.2.2.2.2.2)
def cof (f : Nat → Int64) (i : Nat) : Qd := fun j w => f (i + (4 * w + j))
def sn (c : Qd) : Int32 := gat 3840 0 [cod c 4] (nI 0)
def S_quad (s : Sg) (r i : Int32) : Int32 × Sg :=
  if rop s r i (nI 12) = 0 then
    if rfs (cof (sPl s (ix r)) (ix i)) = 0 then
      if sNq s < 60 then (nI (sNq s), uquad s (cof (sPl s (ix r)) (ix i)) (-3) (sn (cof (sPl s (ix r)) (ix i)))) else (-2, s)
    else (rfs (cof (sPl s (ix r)) (ix i)), s)
  else (rop s r i (nI 12), s)
def S_swap (s : Sg) (q i : Int32) : Int32 × Sg :=
  if inR q (sNq s) = false ∨ inR i 4 = false then (-1, s) else
  if cRef (turnc (sQc s (ix q)) (ix i)) (ix i) = 0 then
    if sNq s < 60 then (nI (sNq s), uquad s (turnc (sQc s (ix q)) (ix i)) q (sQs s (ix q))) else (-2, s)
  else (cRef (turnc (sQc s (ix q)) (ix i)) (ix i), s)
def S_coin (s : Sg) (q i w : Int32) : Int32 := if inR q (sNq s) = true ∧ inR i 4 = true ∧ inR w 3 = true then (sQc s (ix q) (ix i) (ix w)).toInt32 else -20000000
def S_root (s : Sg) (q i w : Int32) : Int32 := if inR q (sNq s) = true ∧ inR i 4 = true ∧ inR w 3 = true then ((gd 100000 (sQc s (ix q))).2 (ix i) (ix w)).toInt32 else -20000000
def S_from (s : Sg) (q : Int32) : Int32 := if inR q (sNq s) = true then sQf s (ix q) else -1
def S_seen (s : Sg) (q : Int32) : Int32 := if inR q (sNq s) = true then sQs s (ix q) else -1
def S_steps (s : Sg) (q : Int32) : Int32 := if inR q (sNq s) = true then nI (gd 100000 (sQc s (ix q))).1 else -1
def S_step (s : Sg) (q k : Int32) : Int32 := if inR q (sNq s) = false ∨ k < 0 then -1 else if nI (gd 100000 (sQc s (ix q))).1 ≤ k then -3 else nI (grt (gd (ix k) (sQc s (ix q))).2)
def S_same (s : Sg) (q r : Int32) : Int32 := if inR q (sNq s) = false ∨ inR r (sNq s) = false then -1 else bI (hbo (gd 100000 (sQc s (ix q))).2 (gd 100000 (sQc s (ix r))).2 4)
def S_touch (s : Sg) (q i r j : Int32) : Int32 := if inR q (sNq s) = true ∧ inR i 4 = true ∧ inR r (sNq s) = true ∧ inR j 4 = true then bI (tch (sQc s (ix q)) (ix i) (sQc s (ix r)) (ix j)) else -1
theorem gd_le (m : Nat) (c : Qd) : (gd m c).1 ≤ m := by
  induction m generalizing c with
  | zero => exact Nat.le_refl _
  | succ m ih =>
    unfold gd
    split
    · exact Nat.succ_le_succ (ih _)
    · exact Nat.zero_le _
theorem bI_r {b : Bool} {P : Int32 → Prop} (h1 : b = true → P (nI 1)) (h0 : b = false → P (nI 0)) : P (bI b) := by
  cases b
  · exact h0 rfl
  · exact h1 rfl
section CLS2
variable {G : GP} {M : Mem} {s : Sg}
theorem c_X6_keepDesk (h : InvC G M s) {c : Qd} (hd : M (gB G + 4) = some (eJ (gT G) 12 (fc c))) (hn : sNq s < 60) (fr se : Int32) : Con G yX6_keepDesk cX6_keepDesk 3 (some .int) 6 0 0 [.ref (gB G), .int fr, .int se] M none (PC G M (nI (sNq s)) (uquad s c fr se)) := by
  have hI := h
  obtain ⟨la, lb, hlab, hA, hJ, hL, hG, hQ, h60⟩ := h
  have hJ0 := hJ
  obtain ⟨⟨gb, j1, j2⟩, ⟨gq, j3, j4⟩, j5, ⟨cd, j6⟩, j7⟩ := hJ
  unfold bkA at hA
  obtain ⟨-, c1, c2, v2, v3, v4, q1, q2, q3, q4, q5⟩ := hQ (sNq s) hn
  refine Con.of (by decide +kernel) (Nat.le_of_ble_eq_true rfl) (fun X F hnm => ?_)
  show V G X 0 0 _ M _ 0 [some (.ref (gB G)), some (.int fr), some (.int se)] []
  refine V_aload_n F dX6_keepDesk_0 rfl ?_
  refine V_get F fl_X6_17 dX6_keepDesk_1 (by assumption) rfl ?_
  refine V_aload_n F dX6_keepDesk_4 rfl ?_
  refine V_get F fl_X6_21 dX6_keepDesk_5 (by assumption) rfl ?_
  refine V_aaldN F 3 dX6_keepDesk_8 (by assumption) rfl rfl _ (by first | (simp only [pk_mul, nI_add, nI_1, nI_inc]; done) | (simp only [pk_mul, nI_add, nI_1, nI_inc]; rfl) | rfl) (by omega) (by omega) (j4 _ hn) ?_
  refine V_aload_n F dX6_keepDesk_9 rfl ?_
  refine V_get F fl_X6_28 dX6_keepDesk_10 (by assumption) rfl ?_
  refine V_iload_n F dX6_keepDesk_13 rfl ?_
  refine V_iload_n F dX6_keepDesk_14 rfl ?_
  refine V_ivR F iv_X6_189 dX6_keepDesk_15 (As := [_, _, _]) (c_X4_become q1 q2 q3 q4 q5 j5 hd (by omega) (by omega) fr se) (by assumption) rfl rfl rfl rfl ?_
  generalize hM' : mset (mset (mset M (gB G + 518 + 5 * sNq s) (eJ (gT G) 12 (fc c))) (gB G + 520 + 5 * sNq s) (eJ (gT G) 12 (fc (gd 100000 c).2))) (gB G + 516 + 5 * sNq s) (eO 4 [.ref (gB G + 517 + 5 * sNq s), .ref (gB G + 519 + 5 * sNq s), .int fr, .int (nI (gd 100000 c).1), .int se]) = M'
  have fr' : ∀ z, z ≠ gB G + 518 + 5 * sNq s → z ≠ gB G + 520 + 5 * sNq s → z ≠ gB G + 516 + 5 * sNq s → M' z = M z := fun z z1 z2 z3 => by rw [← hM', mset_ne _ _ z3, mset_ne _ _ z2, mset_ne _ _ z1]
  have hA' := (fr' (gB G) (by omega) (by omega) (by omega)).trans hA
  refine V_aload_n F dX6_keepDesk_18 rfl ?_
  refine V_dup F dX6_keepDesk_19 rfl ?_
  refine V_get F fl_X6_21 dX6_keepDesk_20 (by assumption) rfl ?_
  refine V_iconst F dX6_keepDesk_23 ki_1 ?_
  refine V_iadd F dX6_keepDesk_24 ?_
  rw [nI_add]
  refine V_put F fl_X6_21 dX6_keepDesk_25 (by assumption) rfl rfl (Nat.le_of_ble_eq_true rfl) ?_
  refine V_aload_n F dX6_keepDesk_28 rfl ?_
  refine V_get F fl_X6_21 dX6_keepDesk_29 (mset_eq _ _ _) rfl ?_
  refine V_iconst F dX6_keepDesk_32 ki_1 ?_
  refine V_isub F dX6_keepDesk_33 ?_
  rw [pk_sub (by omega), Nat.add_sub_cancel]
  refine V_iret F rfl dX6_keepDesk_34 rfl ⟨rfl, ?fin, fun z hz => by rw [mset_ne _ _ (by omega), fr' z (by omega) (by omega) (by omega)], rfl⟩
  have e : ∀ z, gB G + 1 ≤ z → (z < gB G + 516 + 5 * sNq s ∨ gB G + 521 + 5 * sNq s ≤ z) → mset M' (gB G) (eO 6 ([.ref (gB G + 1), .ref (gB G + 2), .int (nI (sNq s)), .ref (gB G + 3), .ref (gB G + 5), .ref (gB G + 7), .ref (gB G + la), .ref (gB G + lb)].set 2 (.int (nI (sNq s + 1))))) z = M z := fun z z1 z2 => by rw [mset_ne _ _ (by omega), fr' z (by omega) (by omega) (by omega)]
  refine ⟨la, lb, hlab, mset_eq _ _ _, hJ0.frame (fun z z1 z2 => e z (by omega) (by omega)), hL.frame hlab (fun z z1 z2 => e z (by omega) (by omega)), hG.frame (fun z z1 z2 => e z (by omega) (by omega)), fun k hk => ?_, by show sNq s + 1 ≤ 60; omega⟩
  by_cases hkq : k = sNq s
  · subst hkq
    have hq : quadO G (mset M' (gB G) (eO 6 ([.ref (gB G + 1), .ref (gB G + 2), .int (nI (sNq s)), .ref (gB G + 3), .ref (gB G + 5), .ref (gB G + 7), .ref (gB G + la), .ref (gB G + lb)].set 2 (.int (nI (sNq s + 1)))))) (sNq s) c (gd 100000 c).2 (.int fr) (.int (nI (gd 100000 c).1)) (.int se) := by
      refine ⟨?_, ?_, ?_, ?_, ?_⟩
      · rw [mset_ne _ _ (by omega), ← hM', mset_eq]
      · rw [mset_ne _ _ (by omega), fr' _ (by omega) (by omega) (by omega)]; exact q2
      · rw [mset_ne _ _ (by omega), ← hM', mset_ne _ _ (by omega), mset_ne _ _ (by omega), mset_eq]
      · rw [mset_ne _ _ (by omega), fr' _ (by omega) (by omega) (by omega)]; exact q4
      · rw [mset_ne _ _ (by omega), ← hM', mset_ne _ _ (by omega), mset_eq]
    refine ⟨fun _ => ?_, c, _, _, _, _, hq⟩
    simp only [uquad, sQc, sQf, sQs, if_pos]
    exact hq
  · obtain ⟨p1, p2, p3, p4, p5, p6, p7⟩ := hQ k hk
    refine ⟨fun hk2 => ?_, p2, p3, p4, p5, p6, p7.frame (fun z z1 z2 => e z (by omega) (by omega))⟩
    have hk2 : k < sNq s + 1 := hk2
    simp only [uquad, sQc, sQf, sQs, if_neg hkq]
    exact (p1 (by omega)).frame (fun z z1 z2 => e z (by omega) (by omega))
theorem c_X6_quad (h : InvC G M s) (r i : Int32) : Con G yX6_quad cX6_quad 4 (some .int) 7 0 0 [.ref (gB G), .int r, .int i] M none (PC G M (S_quad s r i).1 (S_quad s r i).2) := by
  have hI := h
  obtain ⟨la, lb, hlab, hA, hJ, hL, hG, hQ, h60⟩ := h
  have hJ0 := hJ
  obtain ⟨⟨gb, j1, j2⟩, ⟨gq, j3, j4⟩, j5, ⟨cd, j6⟩, ⟨xe, xf, j7, j8⟩, ⟨ws, j9⟩⟩ := hJ
  unfold bkA at hA
  generalize hR : S_quad s r i = R
  unfold S_quad at hR
  refine Con.of (by decide +kernel) (Nat.le_of_ble_eq_true rfl) (fun X F hnm => ?_)
  show V G X 0 0 _ M _ 0 [some (.ref (gB G)), some (.int r), some (.int i), none] []
  refine V_aload_n F dX6_quad_0 rfl ?_
  refine V_iload_n F dX6_quad_1 rfl ?_
  refine V_iload_n F dX6_quad_2 rfl ?_
  refine V_bipush F dX6_quad_3 kb_12 ?_
  refine V_ivR F iv_X6_66 dX6_quad_5 (As := [_, _, _]) (c_X6_refusalOfPlaces hI _ _ _) (by assumption) rfl rfl rfl rfl ?_
  refine V_istore_n F dX6_quad_8 (Nat.le_of_ble_eq_true rfl) ?_
  show V _ _ _ _ _ _ _ _ [_, _, _, _] _
  refine V_iload_n F dX6_quad_9 rfl ?_
  refine V_if_eq F 15 dX6_quad_10 (by decide) (fun c10 => ?_) (fun c10 => ?_)
  · rw [if_pos c10] at hR
    obtain ⟨k, a, b, hk, rfl, rfl, hb, hab, hab2⟩ := rop_0 hI.ln c10
    have hb1 : 12 = b := (nI_eq (by omega) (by omega)).mp hb
    rw [ix_nI (by omega), ix_nI (by omega)] at hR
    obtain ⟨b1, b2, b3⟩ := hG k hk
    refine V_aload_n F dX6_quad_15 rfl ?_
    refine V_get F fl_X6_11 dX6_quad_16 (by assumption) rfl ?_
    refine V_iload_n F dX6_quad_19 rfl ?_
    refine V_aaldN F 2 dX6_quad_20 (by assumption) rfl rfl _ (by first | (simp only [pk_mul, nI_add, nI_1, nI_inc]; done) | (simp only [pk_mul, nI_add, nI_1, nI_inc]; rfl) | rfl) (by omega) (by omega) (j2 k hk) ?_
    refine V_get F fl_X6_81 dX6_quad_21 (by assumption) rfl ?_
    refine V_iload_n F dX6_quad_24 rfl ?_
    refine V_aload_n F dX6_quad_25 rfl ?_
    refine V_get F fl_X6_28 dX6_quad_26 (by assumption) rfl ?_
    refine V_get F fl_X6_91 dX6_quad_29 (by assumption) rfl ?_
    refine V_iconst F dX6_quad_32 ki_0 ?_
    refine V_bipush F dX6_quad_33 kb_12 ?_
    refine V_acopy F ac_X6_85 dX6_quad_35 b2 j6 a 0 12 rfl rfl rfl (by omega) (by omega) (by omega) (by omega) (by decide) (Nat.le_of_ble_eq_true rfl) ?_
    refine V_mem (fun H hm => mem_J (g := fc (cof (sPl s k) a)) ?_ hm) ?_
    · intro z hz
      unfold va_cpy fc cof
      rw [if_pos ⟨by omega, by omega⟩]
      congr 1
      omega
    have hI1 := hI.desk (cof (sPl s k) a)
    generalize cof (sPl s k) a = c at hI1 hR ⊢
    have fr1 : ∀ z, z ≠ gB G + 4 → mset M (gB G + 4) (eJ (gT G) 12 (fc c)) z = M z := fun z hz => mset_ne _ _ hz
    have e4 := mset_eq M (gB G + 4) (eJ (gT G) 12 (fc c))
    generalize mset M (gB G + 4) (eJ (gT G) 12 (fc c)) = M1 at hI1 fr1 e4 ⊢
    have A1 := (fr1 (gB G) (by omega)).trans hA
    have A3 := (fr1 (gB G + 3) (by omega)).trans j5
    refine V_aload_n F dX6_quad_38 rfl ?_
    refine V_get F fl_X6_28 dX6_quad_39 (by assumption) rfl ?_
    refine V_ivR F iv_X6_94 dX6_quad_42 (As := []) (c_X1_refusal A3 e4) (by assumption) rfl rfl rfl rfl ?_
    refine V_istore_n F dX6_quad_45 (Nat.le_of_ble_eq_true rfl) ?_
    show V _ _ _ _ _ _ _ _ [_, _, _, _] _
    refine V_iload_n F dX6_quad_46 rfl ?_
    refine V_if_eq F 52 dX6_quad_47 (by decide) (fun c47 => ?_) (fun c47 => ?_)
    · rw [if_pos c47] at hR
      refine V_aload_n F dX6_quad_52 rfl ?_
      refine V_get F fl_X6_21 dX6_quad_53 (by assumption) rfl ?_
      refine V_bipush F dX6_quad_56 kb_60 ?_
      refine V_icmp_lt F 64 dX6_quad_58 (by decide) (fun c58 => ?_) (fun c58 => ?_)
      · have c58 : sNq s < 60 := (nI_ltI (b := 60) (by omega) (by omega)).mp c58
        rw [if_pos c58] at hR
        refine V_aload_n F dX6_quad_64 rfl ?_
        refine V_bipush F dX6_quad_65 kb_m3 ?_
        refine V_aload_n F dX6_quad_67 rfl ?_
        refine V_get F fl_X6_35 dX6_quad_68 (by assumption) rfl ?_
        refine V_aload_n F dX6_quad_71 rfl ?_
        refine V_get F fl_X6_28 dX6_quad_72 (by assumption) rfl ?_
        refine V_ivP F iv_X6_98 dX6_quad_75 (As := [_]) (c_X5_gather ((fr1 _ (by omega)).trans j7) ((fr1 _ (by omega)).trans j8) A3 e4) ((fr1 _ (by omega)).trans j7) rfl rfl rfl rfl ?_
        rintro v M2 n2 ⟨rfl, ⟨l', hr'⟩, hf2, rfl⟩
        have hI2 : InvC G M2 s := by
          refine hI1.junk ?_ (fun z hz => hf2 z (by omega) (by omega))
          obtain ⟨g0, ⟨fo, g1, -⟩, -⟩ := hr'
          exact ⟨⟨gb, (hf2 _ (by omega) (by omega)).trans ((fr1 _ (by omega)).trans j1), j2⟩, ⟨gq, (hf2 _ (by omega) (by omega)).trans ((fr1 _ (by omega)).trans j3), j4⟩, (hf2 _ (by omega) (by omega)).trans A3, ⟨c, (hf2 _ (by omega) (by omega)).trans e4⟩, ⟨_, fo, g0, g1⟩, ⟨ws, j9.frame (fun z z1 z2 => (hf2 z (by omega) (by omega)).trans (fr1 z (by omega)))⟩⟩
        have A2 := (hf2 (gB G) (by omega) (by omega)).trans A1
        refine V_ivP F iv_X6_102 dX6_quad_78 (As := [_, _]) (c_X6_keepDesk hI2 ((hf2 _ (by omega) (by omega)).trans e4) c58 _ _) A2 rfl rfl rfl rfl ?_
        rintro v M3 n3 ⟨rfl, hI3, hf3, rfl⟩
        subst hR
        exact V_iret F rfl dX6_quad_81 rfl ⟨rfl, hI3, fun z hz => (hf3 z hz).trans ((hf2 z (by omega) (by omega)).trans (fr1 z (by omega))), rfl⟩
      · have c58 : ¬ sNq s < 60 := fun z => c58 ((nI_ltI (b := 60) (by omega) (by omega)).mpr z)
        rw [if_neg c58] at hR
        subst hR
        refine V_bipush F dX6_quad_61 kb_m2 ?_
        exact V_iret F rfl dX6_quad_63 rfl ⟨rfl, hI1, fun z hz => fr1 z (by omega), rfl⟩
    · rw [if_neg c47] at hR
      subst hR
      refine V_iload_n F dX6_quad_50 rfl ?_
      exact V_iret F rfl dX6_quad_51 rfl ⟨rfl, hI1, fun z hz => fr1 z (by omega), rfl⟩
  · rw [if_neg c10] at hR
    subst hR
    refine V_iload_n F dX6_quad_13 rfl ?_
    exact V_iret F rfl dX6_quad_14 rfl ⟨rfl, hI, fun _ _ => rfl, rfl⟩
theorem c_X6_swap (h : InvC G M s) (q i : Int32) : Con G yX6_swap cX6_swap 4 (some .int) 7 0 0 [.ref (gB G), .int q, .int i] M none (PC G M (S_swap s q i).1 (S_swap s q i).2) := by
  have hI := h
  obtain ⟨la, lb, hlab, hA, hJ, hL, hG, hQ, h60⟩ := h
  have hA0 := hA
  obtain ⟨⟨gb, j1, j2⟩, ⟨gq, j3, j4⟩, j5, ⟨cd, j6⟩, ⟨xe, xf, j7, j8⟩, ⟨ws, j9⟩⟩ := hJ
  unfold bkA at hA
  generalize hR : S_swap s q i = R
  unfold S_swap at hR
  refine Con.of (by decide +kernel) (Nat.le_of_ble_eq_true rfl) (fun X F hnm => ?_)
  show V G X 0 0 _ M _ 0 [some (.ref (gB G)), some (.int q), some (.int i), none] []
  have bad : (inR q (sNq s) = false ∨ inR i 4 = false) → V G X 0 0 (BQ G X (PC G M R.1 R.2) 0 0) M none 15 [some (.ref (gB G)), some (.int q), some (.int i), none] [] := by
    intro z
    rw [if_pos z] at hR
    subst hR
    refine V_iconst F dX6_swap_15 ki_m1 ?_
    exact V_iret F rfl dX6_swap_16 rfl ⟨rfl, hI, fun _ _ => rfl, rfl⟩
  refine V_aload_n F dX6_swap_0 rfl ?_
  refine V_iload_n F dX6_swap_1 rfl ?_
  refine V_ivR F iv_X6_106 dX6_swap_2 (As := [_]) (c_X6_isQuad hA0 _) (by assumption) rfl rfl rfl rfl ?_
  refine V_if_eq F 15 dX6_swap_5 (by decide) (fun c5 => ?_) (fun c5 => ?_)
  · rw [bI_0] at c5
    exact bad (Or.inl c5)
  · rw [bI_n] at c5
    refine V_iload_n F dX6_swap_8 rfl ?_
    refine V_isR F is_X6_109 dX6_swap_9 (As := [_]) (c_X6_isCoin _) rfl rfl rfl ?_
    refine V_if_ne F 17 dX6_swap_12 (by decide) (fun c12 => ?_) (fun c12 => ?_)
    · rw [bI_n] at c12
      rw [if_neg (fun z => by
          rcases z with z | z
          · rw [c5] at z; cases z
          · rw [c12] at z; cases z)] at hR
      obtain ⟨k, hk, rfl⟩ := inR_t (by omega) c5
      obtain ⟨j, hj, rfl⟩ := inR_t (by omega) c12
      rw [ix_nI (by omega), ix_nI (by omega)] at hR
      obtain ⟨p1, p2, p3, p4, p5⟩ := (hQ k (by omega)).1 hk
      refine V_aload_n F dX6_swap_17 rfl ?_
      refine V_get F fl_X6_28 dX6_swap_18 (by assumption) rfl ?_
      refine V_aload_n F dX6_swap_21 rfl ?_
      refine V_get F fl_X6_17 dX6_swap_22 (by assumption) rfl ?_
      refine V_iload_n F dX6_swap_25 rfl ?_
      refine V_aaldN F 3 dX6_swap_26 (by assumption) rfl rfl _ (by first | (simp only [pk_mul, nI_add, nI_1, nI_inc]; done) | (simp only [pk_mul, nI_add, nI_1, nI_inc]; rfl) | rfl) (by omega) (by omega) (j4 k (by omega)) ?_
      refine V_get F fl_X6_112 dX6_swap_27 (by assumption) rfl ?_
      refine V_ivR F iv_X6_115 dX6_swap_30 (As := [_]) (c_X1_take j5 j6 p2 p3) (by assumption) rfl rfl rfl rfl ?_
      have k3 : ∀ e, mset M (gB G + 4) e (gB G + 3) = _ := fun e => (mset_ne _ _ (by omega)).trans j5
      have kA : ∀ e, mset M (gB G + 4) e (gB G) = _ := fun e => (mset_ne _ _ (by omega)).trans hA
      refine V_aload_n F dX6_swap_33 rfl ?_
      refine V_get F fl_X6_28 dX6_swap_34 (kA _) rfl ?_
      refine V_iload_n F dX6_swap_37 rfl ?_
      refine V_ivR F iv_X6_119 dX6_swap_38 (As := [_]) (c_X1_turn (k3 _) (mset_eq _ _ _) hj) (k3 _) rfl rfl rfl rfl ?_
      rw [mset_mset]
      have hI1 := hI.desk (turnc (sQc s k) j)
      generalize turnc (sQc s k) j = c at hI1 hR ⊢
      have fr1 : ∀ z, z ≠ gB G + 4 → mset M (gB G + 4) (eJ (gT G) 12 (fc c)) z = M z := fun z hz => mset_ne _ _ hz
      have e4 := mset_eq M (gB G + 4) (eJ (gT G) 12 (fc c))
      generalize mset M (gB G + 4) (eJ (gT G) 12 (fc c)) = M1 at hI1 fr1 e4 ⊢
      have A1 := (fr1 (gB G) (by omega)).trans hA
      have A3 := (fr1 (gB G + 3) (by omega)).trans j5
      refine V_aload_n F dX6_swap_41 rfl ?_
      refine V_get F fl_X6_28 dX6_swap_42 (by assumption) rfl ?_
      refine V_iload_n F dX6_swap_45 rfl ?_
      refine V_ivR F iv_X6_123 dX6_swap_46 (As := [_]) (c_X1_refusalOfCoin A3 e4 hj) (by assumption) rfl rfl rfl rfl ?_
      refine V_istore_n F dX6_swap_49 (Nat.le_of_ble_eq_true rfl) ?_
      show V _ _ _ _ _ _ _ _ [_, _, _, _] _
      refine V_iload_n F dX6_swap_50 rfl ?_
      refine V_if_eq F 56 dX6_swap_51 (by decide) (fun c51 => ?_) (fun c51 => ?_)
      · rw [if_pos c51] at hR
        refine V_aload_n F dX6_swap_56 rfl ?_
        refine V_get F fl_X6_21 dX6_swap_57 (by assumption) rfl ?_
        refine V_bipush F dX6_swap_60 kb_60 ?_
        refine V_icmp_lt F 68 dX6_swap_62 (by decide) (fun c62 => ?_) (fun c62 => ?_)
        · have c62 : sNq s < 60 := (nI_ltI (b := 60) (by omega) (by omega)).mp c62
          rw [if_pos c62] at hR
          refine V_aload_n F dX6_swap_68 rfl ?_
          refine V_iload_n F dX6_swap_69 rfl ?_
          refine V_aload_n F dX6_swap_70 rfl ?_
          refine V_get F fl_X6_17 dX6_swap_71 A1 rfl ?_
          refine V_iload_n F dX6_swap_74 rfl ?_
          refine V_aaldN F 3 dX6_swap_75 ((fr1 _ (by omega)).trans j3) rfl rfl _ (by first | (simp only [pk_mul, nI_add, nI_1, nI_inc]; done) | (simp only [pk_mul, nI_add, nI_1, nI_inc]; rfl) | rfl) (by omega) (by omega) (j4 k (by omega)) ?_
          refine V_get F fl_X6_127 dX6_swap_76 ((fr1 _ (by omega)).trans p1) rfl ?_
          refine V_ivP F iv_X6_102 dX6_swap_79 (As := [_, _]) (c_X6_keepDesk hI1 e4 c62 _ _) A1 rfl rfl rfl rfl ?_
          rintro v M3 n3 ⟨rfl, hI3, hf3, rfl⟩
          subst hR
          exact V_iret F rfl dX6_swap_82 rfl ⟨rfl, hI3, fun z hz => (hf3 z hz).trans (fr1 z (by omega)), rfl⟩
        · have c62 : ¬ sNq s < 60 := fun z => c62 ((nI_ltI (b := 60) (by omega) (by omega)).mpr z)
          rw [if_neg c62] at hR
          subst hR
          refine V_bipush F dX6_swap_65 kb_m2 ?_
          exact V_iret F rfl dX6_swap_67 rfl ⟨rfl, hI1, fun z hz => fr1 z (by omega), rfl⟩
      · rw [if_neg c51] at hR
        subst hR
        refine V_iload_n F dX6_swap_54 rfl ?_
        exact V_iret F rfl dX6_swap_55 rfl ⟨rfl, hI1, fun z hz => fr1 z (by omega), rfl⟩
    · rw [bI_0] at c12
      exact bad (Or.inr c12)
theorem c_X6_coin (h : InvC G M s) (q i w : Int32) : Con G yX6_coin cX6_coin 4 (some .int) 1 0 0 [.ref (gB G), .int q, .int i, .int w] M none (PC G M (S_coin s q i w) s) := by
  have hI := h
  obtain ⟨la, lb, hlab, hA, hJ, hL, hG, hQ, h60⟩ := h
  have hA0 := hA
  obtain ⟨⟨gb, j1, j2⟩, ⟨gq, j3, j4⟩, -⟩ := hJ
  unfold bkA at hA
  generalize hR : S_coin s q i w = R
  unfold S_coin at hR
  refine Con.of (by decide +kernel) (Nat.le_of_ble_eq_true rfl) (fun X F hnm => ?_)
  show V G X 0 0 _ M _ 0 [some (.ref (gB G)), some (.int q), some (.int i), some (.int w)] []
  have bad : ¬ (inR q (sNq s) = true ∧ inR i 4 = true ∧ inR w 3 = true) → V G X 0 0 (BQ G X (PC G M R s) 0 0) M none 22 [some (.ref (gB G)), some (.int q), some (.int i), some (.int w)] [] := by
    intro z
    rw [if_neg z] at hR
    subst hR
    refine V_ldc F dX6_coin_22 kc_X6_133 ?_
    exact V_iret F rfl dX6_coin_24 rfl ⟨rfl, hI, fun _ _ => rfl, rfl⟩
  refine V_aload_n F dX6_coin_0 rfl ?_
  refine V_iload_n F dX6_coin_1 rfl ?_
  refine V_ivR F iv_X6_106 dX6_coin_2 (As := [_]) (c_X6_isQuad hA0 _) (by assumption) rfl rfl rfl rfl ?_
  refine V_if_eq F 22 dX6_coin_5 (by decide) (fun c5 => ?_) (fun c5 => ?_)
  · rw [bI_0] at c5
    exact bad (fun z => by rw [c5] at z; cases z.1)
  · rw [bI_n] at c5
    refine V_iload_n F dX6_coin_8 rfl ?_
    refine V_isR F is_X6_109 dX6_coin_9 (As := [_]) (c_X6_isCoin _) rfl rfl rfl ?_
    refine V_if_eq F 22 dX6_coin_12 (by decide) (fun c12 => ?_) (fun c12 => ?_)
    · rw [bI_0] at c12
      exact bad (fun z => by rw [c12] at z; cases z.2.1)
    · rw [bI_n] at c12
      refine V_iload_n F dX6_coin_15 rfl ?_
      refine V_isR F is_X6_130 dX6_coin_16 (As := [_]) (c_X6_isWhat _) rfl rfl rfl ?_
      refine V_if_ne F 25 dX6_coin_19 (by decide) (fun c19 => ?_) (fun c19 => ?_)
      · rw [bI_n] at c19
        rw [if_pos ⟨c5, c12, c19⟩] at hR
        obtain ⟨k, hk, rfl⟩ := inR_t (by omega) c5
        obtain ⟨j, hj, rfl⟩ := inR_t (by omega) c12
        obtain ⟨v, hv, rfl⟩ := inR_t (by omega) c19
        rw [ix_nI (by omega), ix_nI (by omega), ix_nI (by omega)] at hR
        obtain ⟨p1, p2, p3, p4, p5⟩ := (hQ k (by omega)).1 hk
        subst hR
        refine V_aload_n F dX6_coin_25 rfl ?_
        refine V_get F fl_X6_17 dX6_coin_26 (by assumption) rfl ?_
        refine V_iload_n F dX6_coin_29 rfl ?_
        refine V_aaldN F 3 dX6_coin_30 (by assumption) rfl rfl _ (by first | (simp only [pk_mul, nI_add, nI_1, nI_inc]; done) | (simp only [pk_mul, nI_add, nI_1, nI_inc]; rfl) | rfl) (by omega) (by omega) (j4 k (by omega)) ?_
        refine V_get F fl_X6_112 dX6_coin_31 (by assumption) rfl ?_
        refine V_iload_n F dX6_coin_34 rfl ?_
        refine V_iload_n F dX6_coin_35 rfl ?_
        refine V_ivR F iv_X6_134 dX6_coin_36 (As := [_, _]) (c_X1_told p2 p3 hj hv) (by assumption) rfl rfl rfl rfl ?_
        refine V_l2i F dX6_coin_39 ?_
        exact V_iret F rfl dX6_coin_40 rfl ⟨rfl, hI, fun _ _ => rfl, rfl⟩
      · rw [bI_0] at c19
        exact bad (fun z => by rw [c19] at z; cases z.2.2)
theorem c_X6_root (h : InvC G M s) (q i w : Int32) : Con G yX6_root cX6_root 4 (some .int) 1 0 0 [.ref (gB G), .int q, .int i, .int w] M none (PC G M (S_root s q i w) s) := by
  have hI := h
  obtain ⟨la, lb, hlab, hA, hJ, hL, hG, hQ, h60⟩ := h
  have hA0 := hA
  obtain ⟨⟨gb, j1, j2⟩, ⟨gq, j3, j4⟩, -⟩ := hJ
  unfold bkA at hA
  generalize hR : S_root s q i w = R
  unfold S_root at hR
  refine Con.of (by decide +kernel) (Nat.le_of_ble_eq_true rfl) (fun X F hnm => ?_)
  show V G X 0 0 _ M _ 0 [some (.ref (gB G)), some (.int q), some (.int i), some (.int w)] []
  have bad : ¬ (inR q (sNq s) = true ∧ inR i 4 = true ∧ inR w 3 = true) → V G X 0 0 (BQ G X (PC G M R s) 0 0) M none 22 [some (.ref (gB G)), some (.int q), some (.int i), some (.int w)] [] := by
    intro z
    rw [if_neg z] at hR
    subst hR
    refine V_ldc F dX6_root_22 kc_X6_133 ?_
    exact V_iret F rfl dX6_root_24 rfl ⟨rfl, hI, fun _ _ => rfl, rfl⟩
  refine V_aload_n F dX6_root_0 rfl ?_
  refine V_iload_n F dX6_root_1 rfl ?_
  refine V_ivR F iv_X6_106 dX6_root_2 (As := [_]) (c_X6_isQuad hA0 _) (by assumption) rfl rfl rfl rfl ?_
  refine V_if_eq F 22 dX6_root_5 (by decide) (fun c5 => ?_) (fun c5 => ?_)
  · rw [bI_0] at c5
    exact bad (fun z => by rw [c5] at z; cases z.1)
  · rw [bI_n] at c5
    refine V_iload_n F dX6_root_8 rfl ?_
    refine V_isR F is_X6_109 dX6_root_9 (As := [_]) (c_X6_isCoin _) rfl rfl rfl ?_
    refine V_if_eq F 22 dX6_root_12 (by decide) (fun c12 => ?_) (fun c12 => ?_)
    · rw [bI_0] at c12
      exact bad (fun z => by rw [c12] at z; cases z.2.1)
    · rw [bI_n] at c12
      refine V_iload_n F dX6_root_15 rfl ?_
      refine V_isR F is_X6_130 dX6_root_16 (As := [_]) (c_X6_isWhat _) rfl rfl rfl ?_
      refine V_if_ne F 25 dX6_root_19 (by decide) (fun c19 => ?_) (fun c19 => ?_)
      · rw [bI_n] at c19
        rw [if_pos ⟨c5, c12, c19⟩] at hR
        obtain ⟨k, hk, rfl⟩ := inR_t (by omega) c5
        obtain ⟨j, hj, rfl⟩ := inR_t (by omega) c12
        obtain ⟨v, hv, rfl⟩ := inR_t (by omega) c19
        rw [ix_nI (by omega), ix_nI (by omega), ix_nI (by omega)] at hR
        obtain ⟨p1, p2, p3, p4, p5⟩ := (hQ k (by omega)).1 hk
        subst hR
        refine V_aload_n F dX6_root_25 rfl ?_
        refine V_get F fl_X6_17 dX6_root_26 (by assumption) rfl ?_
        refine V_iload_n F dX6_root_29 rfl ?_
        refine V_aaldN F 3 dX6_root_30 (by assumption) rfl rfl _ (by first | (simp only [pk_mul, nI_add, nI_1, nI_inc]; done) | (simp only [pk_mul, nI_add, nI_1, nI_inc]; rfl) | rfl) (by omega) (by omega) (j4 k (by omega)) ?_
        refine V_get F fl_X6_150 dX6_root_31 (by assumption) rfl ?_
        refine V_iload_n F dX6_root_34 rfl ?_
        refine V_iload_n F dX6_root_35 rfl ?_
        refine V_ivR F iv_X6_134 dX6_root_36 (As := [_, _]) (c_X1_told p4 p5 hj hv) (by assumption) rfl rfl rfl rfl ?_
        refine V_l2i F dX6_root_39 ?_
        exact V_iret F rfl dX6_root_40 rfl ⟨rfl, hI, fun _ _ => rfl, rfl⟩
      · rw [bI_0] at c19
        exact bad (fun z => by rw [c19] at z; cases z.2.2)
theorem c_X6_from (h : InvC G M s) (q : Int32) : Con G yX6_from cX6_from 2 (some .int) 1 0 0 [.ref (gB G), .int q] M none (PC G M (S_from s q) s) := by
  have hI := h
  obtain ⟨la, lb, hlab, hA, hJ, hL, hG, hQ, h60⟩ := h
  have hA0 := hA
  obtain ⟨⟨gb, j1, j2⟩, ⟨gq, j3, j4⟩, -⟩ := hJ
  unfold bkA at hA
  generalize hR : S_from s q = R
  unfold S_from at hR
  refine Con.of (by decide +kernel) (Nat.le_of_ble_eq_true rfl) (fun X F hnm => ?_)
  show V G X 0 0 _ M _ 0 [some (.ref (gB G)), some (.int q)] []
  refine V_aload_n F dX6_from_0 rfl ?_
  refine V_iload_n F dX6_from_1 rfl ?_
  refine V_ivR F iv_X6_106 dX6_from_2 (As := [_]) (c_X6_isQuad hA0 _) (by assumption) rfl rfl rfl rfl ?_
  refine V_if_eq F 20 dX6_from_5 (by decide) (fun c5 => ?_) (fun c5 => ?_)
  · rw [bI_0] at c5
    rw [if_neg (by rw [c5]; decide)] at hR
    subst hR
    refine V_iconst F dX6_from_20 ki_m1 ?_
    exact V_iret F rfl dX6_from_21 rfl ⟨rfl, hI, fun _ _ => rfl, rfl⟩
  · rw [bI_n] at c5
    rw [if_pos c5] at hR
    obtain ⟨k, hk, rfl⟩ := inR_t (by omega) c5
    rw [ix_nI (by omega)] at hR
    obtain ⟨p1, p2, p3, p4, p5⟩ := (hQ k (by omega)).1 hk
    subst hR
    refine V_aload_n F dX6_from_8 rfl ?_
    refine V_get F fl_X6_17 dX6_from_9 (by assumption) rfl ?_
    refine V_iload_n F dX6_from_12 rfl ?_
    refine V_aaldN F 3 dX6_from_13 (by assumption) rfl rfl _ (by first | (simp only [pk_mul, nI_add, nI_1, nI_inc]; done) | (simp only [pk_mul, nI_add, nI_1, nI_inc]; rfl) | rfl) (by omega) (by omega) (j4 k (by omega)) ?_
    refine V_get F fl_X6_138 dX6_from_14 (by assumption) rfl ?_
    refine V_goto F 21 dX6_from_17 (by decide) ?_
    exact V_iret F rfl dX6_from_21 rfl ⟨rfl, hI, fun _ _ => rfl, rfl⟩
theorem c_X6_seen (h : InvC G M s) (q : Int32) : Con G yX6_seen cX6_seen 2 (some .int) 1 0 0 [.ref (gB G), .int q] M none (PC G M (S_seen s q) s) := by
  have hI := h
  obtain ⟨la, lb, hlab, hA, hJ, hL, hG, hQ, h60⟩ := h
  have hA0 := hA
  obtain ⟨⟨gb, j1, j2⟩, ⟨gq, j3, j4⟩, -⟩ := hJ
  unfold bkA at hA
  generalize hR : S_seen s q = R
  unfold S_seen at hR
  refine Con.of (by decide +kernel) (Nat.le_of_ble_eq_true rfl) (fun X F hnm => ?_)
  show V G X 0 0 _ M _ 0 [some (.ref (gB G)), some (.int q)] []
  refine V_aload_n F dX6_seen_0 rfl ?_
  refine V_iload_n F dX6_seen_1 rfl ?_
  refine V_ivR F iv_X6_106 dX6_seen_2 (As := [_]) (c_X6_isQuad hA0 _) (by assumption) rfl rfl rfl rfl ?_
  refine V_if_eq F 20 dX6_seen_5 (by decide) (fun c5 => ?_) (fun c5 => ?_)
  · rw [bI_0] at c5
    rw [if_neg (by rw [c5]; decide)] at hR
    subst hR
    refine V_iconst F dX6_seen_20 ki_m1 ?_
    exact V_iret F rfl dX6_seen_21 rfl ⟨rfl, hI, fun _ _ => rfl, rfl⟩
  · rw [bI_n] at c5
    rw [if_pos c5] at hR
    obtain ⟨k, hk, rfl⟩ := inR_t (by omega) c5
    rw [ix_nI (by omega)] at hR
    obtain ⟨p1, p2, p3, p4, p5⟩ := (hQ k (by omega)).1 hk
    subst hR
    refine V_aload_n F dX6_seen_8 rfl ?_
    refine V_get F fl_X6_17 dX6_seen_9 (by assumption) rfl ?_
    refine V_iload_n F dX6_seen_12 rfl ?_
    refine V_aaldN F 3 dX6_seen_13 (by assumption) rfl rfl _ (by first | (simp only [pk_mul, nI_add, nI_1, nI_inc]; done) | (simp only [pk_mul, nI_add, nI_1, nI_inc]; rfl) | rfl) (by omega) (by omega) (j4 k (by omega)) ?_
    refine V_get F fl_X6_127 dX6_seen_14 (by assumption) rfl ?_
    refine V_goto F 21 dX6_seen_17 (by decide) ?_
    exact V_iret F rfl dX6_seen_21 rfl ⟨rfl, hI, fun _ _ => rfl, rfl⟩
theorem c_X6_steps (h : InvC G M s) (q : Int32) : Con G yX6_steps cX6_steps 2 (some .int) 1 0 0 [.ref (gB G), .int q] M none (PC G M (S_steps s q) s) := by
  have hI := h
  obtain ⟨la, lb, hlab, hA, hJ, hL, hG, hQ, h60⟩ := h
  have hA0 := hA
  obtain ⟨⟨gb, j1, j2⟩, ⟨gq, j3, j4⟩, -⟩ := hJ
  unfold bkA at hA
  generalize hR : S_steps s q = R
  unfold S_steps at hR
  refine Con.of (by decide +kernel) (Nat.le_of_ble_eq_true rfl) (fun X F hnm => ?_)
  show V G X 0 0 _ M _ 0 [some (.ref (gB G)), some (.int q)] []
  refine V_aload_n F dX6_steps_0 rfl ?_
  refine V_iload_n F dX6_steps_1 rfl ?_
  refine V_ivR F iv_X6_106 dX6_steps_2 (As := [_]) (c_X6_isQuad hA0 _) (by assumption) rfl rfl rfl rfl ?_
  refine V_if_eq F 20 dX6_steps_5 (by decide) (fun c5 => ?_) (fun c5 => ?_)
  · rw [bI_0] at c5
    rw [if_neg (by rw [c5]; decide)] at hR
    subst hR
    refine V_iconst F dX6_steps_20 ki_m1 ?_
    exact V_iret F rfl dX6_steps_21 rfl ⟨rfl, hI, fun _ _ => rfl, rfl⟩
  · rw [bI_n] at c5
    rw [if_pos c5] at hR
    obtain ⟨k, hk, rfl⟩ := inR_t (by omega) c5
    rw [ix_nI (by omega)] at hR
    obtain ⟨p1, p2, p3, p4, p5⟩ := (hQ k (by omega)).1 hk
    subst hR
    refine V_aload_n F dX6_steps_8 rfl ?_
    refine V_get F fl_X6_17 dX6_steps_9 (by assumption) rfl ?_
    refine V_iload_n F dX6_steps_12 rfl ?_
    refine V_aaldN F 3 dX6_steps_13 (by assumption) rfl rfl _ (by first | (simp only [pk_mul, nI_add, nI_1, nI_inc]; done) | (simp only [pk_mul, nI_add, nI_1, nI_inc]; rfl) | rfl) (by omega) (by omega) (j4 k (by omega)) ?_
    refine V_get F fl_X6_141 dX6_steps_14 (by assumption) rfl ?_
    refine V_goto F 21 dX6_steps_17 (by decide) ?_
    exact V_iret F rfl dX6_steps_21 rfl ⟨rfl, hI, fun _ _ => rfl, rfl⟩
theorem c_X6_step (h : InvC G M s) (q k : Int32) : Con G yX6_step cX6_step 3 (some .int) 5 0 0 [.ref (gB G), .int q, .int k] M none (PC G M (S_step s q k) s) := by
  have hI := h
  obtain ⟨la, lb, hlab, hA, hJ, hL, hG, hQ, h60⟩ := h
  have hA0 := hA
  obtain ⟨⟨gb, j1, j2⟩, ⟨gq, j3, j4⟩, j5, ⟨cd, j6⟩, ⟨xe, xf, j7, j8⟩, ⟨ws, j9⟩⟩ := hJ
  unfold bkA at hA
  generalize hR : S_step s q k = R
  unfold S_step at hR
  refine Con.of (by decide +kernel) (Nat.le_of_ble_eq_true rfl) (fun X F hnm => ?_)
  show V G X 0 0 _ M _ 0 [some (.ref (gB G)), some (.int q), some (.int k)] []
  have bad : (inR q (sNq s) = false ∨ k < 0) → V G X 0 0 (BQ G X (PC G M R s) 0 0) M none 12 [some (.ref (gB G)), some (.int q), some (.int k)] [] := by
    intro z
    rw [if_pos z] at hR
    subst hR
    refine V_iconst F dX6_step_12 ki_m1 ?_
    exact V_iret F rfl dX6_step_13 rfl ⟨rfl, hI, fun _ _ => rfl, rfl⟩
  refine V_aload_n F dX6_step_0 rfl ?_
  refine V_iload_n F dX6_step_1 rfl ?_
  refine V_ivR F iv_X6_106 dX6_step_2 (As := [_]) (c_X6_isQuad hA0 _) (by assumption) rfl rfl rfl rfl ?_
  refine V_if_eq F 12 dX6_step_5 (by decide) (fun c5 => ?_) (fun c5 => ?_)
  · rw [bI_0] at c5
    exact bad (Or.inl c5)
  · rw [bI_n] at c5
    refine V_iload_n F dX6_step_8 rfl ?_
    refine V_if_ge F 14 dX6_step_9 (by decide) (fun c9 => ?_) (fun c9 => ?_)
    · have c9' : ¬ k < 0 := Int32.not_lt.mpr c9
      rw [if_neg (fun z => by
          rcases z with z | z
          · rw [c5] at z; cases z
          · exact c9' z)] at hR
      obtain ⟨j, hj, rfl⟩ := inR_t (by omega) c5
      rw [ix_nI (by omega)] at hR
      obtain ⟨p1, p2, p3, p4, p5⟩ := (hQ j (by omega)).1 hj
      refine V_iload_n F dX6_step_14 rfl ?_
      refine V_aload_n F dX6_step_15 rfl ?_
      refine V_get F fl_X6_17 dX6_step_16 (by assumption) rfl ?_
      refine V_iload_n F dX6_step_19 rfl ?_
      refine V_aaldN F 3 dX6_step_20 (by assumption) rfl rfl _ (by first | (simp only [pk_mul, nI_add, nI_1, nI_inc]; done) | (simp only [pk_mul, nI_add, nI_1, nI_inc]; rfl) | rfl) (by omega) (by omega) (j4 j (by omega)) ?_
      refine V_get F fl_X6_141 dX6_step_21 (by assumption) rfl ?_
      refine V_icmp_lt F 30 dX6_step_24 (by decide) (fun c24 => ?_) (fun c24 => ?_)
      · rw [if_neg (Int32.not_le.mpr c24)] at hR
        obtain ⟨a, ha, rfl⟩ := nI_of c9'
        rw [ix_nI ha] at hR
        refine V_aload_n F dX6_step_30 rfl ?_
        refine V_get F fl_X6_28 dX6_step_31 (by assumption) rfl ?_
        refine V_aload_n F dX6_step_34 rfl ?_
        refine V_get F fl_X6_17 dX6_step_35 (by assumption) rfl ?_
        refine V_iload_n F dX6_step_38 rfl ?_
        refine V_aaldN F 3 dX6_step_39 (by assumption) rfl rfl _ (by first | (simp only [pk_mul, nI_add, nI_1, nI_inc]; done) | (simp only [pk_mul, nI_add, nI_1, nI_inc]; rfl) | rfl) (by omega) (by omega) (j4 j (by omega)) ?_
        refine V_get F fl_X6_112 dX6_step_40 (by assumption) rfl ?_
        refine V_ivR F iv_X6_115 dX6_step_43 (As := [_]) (c_X1_take j5 j6 p2 p3) (by assumption) rfl rfl rfl rfl ?_
        have k3 : ∀ e, mset M (gB G + 4) e (gB G + 3) = _ := fun e => (mset_ne _ _ (by omega)).trans j5
        have kA : ∀ e, mset M (gB G + 4) e (gB G) = _ := fun e => (mset_ne _ _ (by omega)).trans hA
        refine V_aload_n F dX6_step_46 rfl ?_
        refine V_get F fl_X6_28 dX6_step_47 (kA _) rfl ?_
        refine V_iload_n F dX6_step_50 rfl ?_
        refine V_ivR F iv_X6_144 dX6_step_51 (As := [_]) (c_X1_goDown a ha _ _ (k3 _) (mset_eq _ _ _)) (k3 _) rfl rfl rfl rfl ?_
        rw [mset_mset]
        subst hR
        refine V_pop F dX6_step_54 rfl ?_
        refine V_aload_n F dX6_step_55 rfl ?_
        refine V_get F fl_X6_28 dX6_step_56 (kA _) rfl ?_
        refine V_ivR F iv_X6_147 dX6_step_59 (As := []) (c_X1_greatest (k3 _) (mset_eq _ _ _)) (k3 _) rfl rfl rfl rfl ?_
        exact V_iret F rfl dX6_step_62 rfl ⟨rfl, hI.desk _, fun z hz => mset_ne _ _ (by omega), rfl⟩
      · rw [if_pos (Int32.not_lt.mp c24)] at hR
        subst hR
        refine V_bipush F dX6_step_27 kb_m3 ?_
        exact V_iret F rfl dX6_step_29 rfl ⟨rfl, hI, fun _ _ => rfl, rfl⟩
    · exact bad (Or.inr (Int32.not_le.mp c9))
theorem c_X6_same (h : InvC G M s) (q r : Int32) : Con G yX6_same cX6_same 3 (some .int) 3 0 0 [.ref (gB G), .int q, .int r] M none (PC G M (S_same s q r) s) := by
  have hI := h
  obtain ⟨la, lb, hlab, hA, hJ, hL, hG, hQ, h60⟩ := h
  have hA0 := hA
  obtain ⟨⟨gb, j1, j2⟩, ⟨gq, j3, j4⟩, -⟩ := hJ
  unfold bkA at hA
  generalize hR : S_same s q r = R
  unfold S_same at hR
  refine Con.of (by decide +kernel) (Nat.le_of_ble_eq_true rfl) (fun X F hnm => ?_)
  show V G X 0 0 _ M _ 0 [some (.ref (gB G)), some (.int q), some (.int r)] []
  have bad : (inR q (sNq s) = false ∨ inR r (sNq s) = false) → V G X 0 0 (BQ G X (PC G M R s) 0 0) M none 16 [some (.ref (gB G)), some (.int q), some (.int r)] [] := by
    intro z
    rw [if_pos z] at hR
    subst hR
    refine V_iconst F dX6_same_16 ki_m1 ?_
    exact V_iret F rfl dX6_same_17 rfl ⟨rfl, hI, fun _ _ => rfl, rfl⟩
  refine V_aload_n F dX6_same_0 rfl ?_
  refine V_iload_n F dX6_same_1 rfl ?_
  refine V_ivR F iv_X6_106 dX6_same_2 (As := [_]) (c_X6_isQuad hA0 _) (by assumption) rfl rfl rfl rfl ?_
  refine V_if_eq F 16 dX6_same_5 (by decide) (fun c5 => ?_) (fun c5 => ?_)
  · rw [bI_0] at c5
    exact bad (Or.inl c5)
  · rw [bI_n] at c5
    refine V_aload_n F dX6_same_8 rfl ?_
    refine V_iload_n F dX6_same_9 rfl ?_
    refine V_ivR F iv_X6_106 dX6_same_10 (As := [_]) (c_X6_isQuad hA0 _) (by assumption) rfl rfl rfl rfl ?_
    refine V_if_ne F 18 dX6_same_13 (by decide) (fun c13 => ?_) (fun c13 => ?_)
    · rw [bI_n] at c13
      rw [if_neg (fun z => by
          rcases z with z | z
          · rw [c5] at z; cases z
          · rw [c13] at z; cases z)] at hR
      obtain ⟨a, ha, rfl⟩ := inR_t (by omega) c5
      obtain ⟨b, hb, rfl⟩ := inR_t (by omega) c13
      rw [ix_nI (by omega), ix_nI (by omega)] at hR
      obtain ⟨p1, p2, p3, p4, p5⟩ := (hQ a (by omega)).1 ha
      obtain ⟨r1, r2, r3, r4, r5⟩ := (hQ b (by omega)).1 hb
      subst hR
      refine V_aload_n F dX6_same_18 rfl ?_
      refine V_get F fl_X6_17 dX6_same_19 (by assumption) rfl ?_
      refine V_iload_n F dX6_same_22 rfl ?_
      refine V_aaldN F 3 dX6_same_23 (by assumption) rfl rfl _ (by first | (simp only [pk_mul, nI_add, nI_1, nI_inc]; done) | (simp only [pk_mul, nI_add, nI_1, nI_inc]; rfl) | rfl) (by omega) (by omega) (j4 a (by omega)) ?_
      refine V_get F fl_X6_150 dX6_same_24 (by assumption) rfl ?_
      refine V_aload_n F dX6_same_27 rfl ?_
      refine V_get F fl_X6_17 dX6_same_28 (by assumption) rfl ?_
      refine V_iload_n F dX6_same_31 rfl ?_
      refine V_aaldN F 3 dX6_same_32 (by assumption) rfl rfl _ (by first | (simp only [pk_mul, nI_add, nI_1, nI_inc]; done) | (simp only [pk_mul, nI_add, nI_1, nI_inc]; rfl) | rfl) (by omega) (by omega) (j4 b (by omega)) ?_
      refine V_get F fl_X6_150 dX6_same_33 (by assumption) rfl ?_
      refine V_ivR F iv_X6_153 dX6_same_36 (As := [_]) (c_X1_hasBendsOf p4 p5 r4 r5) (by assumption) rfl rfl rfl rfl ?_
      refine V_if_eq F 46 dX6_same_39 (by decide) (fun c39 => ?_) (fun c39 => ?_)
      · rw [bI_0] at c39
        refine V_iconst F dX6_same_46 ki_0 ?_
        exact V_iret F rfl dX6_same_47 rfl ⟨rf c39, hI, fun _ _ => rfl, rfl⟩
      · rw [bI_n] at c39
        refine V_iconst F dX6_same_42 ki_1 ?_
        refine V_goto F 47 dX6_same_43 (by decide) ?_
        exact V_iret F rfl dX6_same_47 rfl ⟨rt c39, hI, fun _ _ => rfl, rfl⟩
    · rw [bI_0] at c13
      exact bad (Or.inr c13)
theorem c_X6_touch (h : InvC G M s) (q i r j : Int32) : Con G yX6_touch cX6_touch 5 (some .int) 2 0 0 [.ref (gB G), .int q, .int i, .int r, .int j] M none (PC G M (S_touch s q i r j) s) := by
  have hI := h
  obtain ⟨la, lb, hlab, hA, hJ, hL, hG, hQ, h60⟩ := h
  have hA0 := hA
  obtain ⟨⟨gb, j1, j2⟩, ⟨gq, j3, j4⟩, -⟩ := hJ
  unfold bkA at hA
  generalize hR : S_touch s q i r j = R
  unfold S_touch at hR
  refine Con.of (by decide +kernel) (Nat.le_of_ble_eq_true rfl) (fun X F hnm => ?_)
  show V G X 0 0 _ M _ 0 [some (.ref (gB G)), some (.int q), some (.int i), some (.int r), some (.int j)] []
  have bad : ¬ (inR q (sNq s) = true ∧ inR i 4 = true ∧ inR r (sNq s) = true ∧ inR j 4 = true) → V G X 0 0 (BQ G X (PC G M R s) 0 0) M none 31 [some (.ref (gB G)), some (.int q), some (.int i), some (.int r), some (.int j)] [] := by
    intro z
    rw [if_neg z] at hR
    subst hR
    refine V_iconst F dX6_touch_31 ki_m1 ?_
    exact V_iret F rfl dX6_touch_32 rfl ⟨rfl, hI, fun _ _ => rfl, rfl⟩
  refine V_aload_n F dX6_touch_0 rfl ?_
  refine V_iload_n F dX6_touch_1 rfl ?_
  refine V_ivR F iv_X6_106 dX6_touch_2 (As := [_]) (c_X6_isQuad hA0 _) (by assumption) rfl rfl rfl rfl ?_
  refine V_if_eq F 31 dX6_touch_5 (by decide) (fun c5 => ?_) (fun c5 => ?_)
  · rw [bI_0] at c5
    exact bad (fun z => by rw [c5] at z; cases z.1)
  · rw [bI_n] at c5
    refine V_iload_n F dX6_touch_8 rfl ?_
    refine V_isR F is_X6_109 dX6_touch_9 (As := [_]) (c_X6_isCoin _) rfl rfl rfl ?_
    refine V_if_eq F 31 dX6_touch_12 (by decide) (fun c12 => ?_) (fun c12 => ?_)
    · rw [bI_0] at c12
      exact bad (fun z => by rw [c12] at z; cases z.2.1)
    · rw [bI_n] at c12
      refine V_aload_n F dX6_touch_15 rfl ?_
      refine V_iload_n F dX6_touch_16 rfl ?_
      refine V_ivR F iv_X6_106 dX6_touch_17 (As := [_]) (c_X6_isQuad hA0 _) (by assumption) rfl rfl rfl rfl ?_
      refine V_if_eq F 31 dX6_touch_20 (by decide) (fun c20 => ?_) (fun c20 => ?_)
      · rw [bI_0] at c20
        exact bad (fun z => by rw [c20] at z; cases z.2.2.1)
      · rw [bI_n] at c20
        refine V_iload F dX6_touch_23 rfl ?_
        refine V_isR F is_X6_109 dX6_touch_25 (As := [_]) (c_X6_isCoin _) rfl rfl rfl ?_
        refine V_if_ne F 33 dX6_touch_28 (by decide) (fun c28 => ?_) (fun c28 => ?_)
        · rw [bI_n] at c28
          rw [if_pos ⟨c5, c12, c20, c28⟩] at hR
          obtain ⟨a, ha, rfl⟩ := inR_t (by omega) c5
          obtain ⟨b, hb, rfl⟩ := inR_t (by omega) c12
          obtain ⟨d, hd, rfl⟩ := inR_t (by omega) c20
          obtain ⟨e, he, rfl⟩ := inR_t (by omega) c28
          rw [ix_nI (by omega), ix_nI (by omega), ix_nI (by omega), ix_nI (by omega)] at hR
          obtain ⟨p1, p2, p3, p4, p5⟩ := (hQ a (by omega)).1 ha
          obtain ⟨r1, r2, r3, r4, r5⟩ := (hQ d (by omega)).1 hd
          subst hR
          refine V_aload_n F dX6_touch_33 rfl ?_
          refine V_get F fl_X6_17 dX6_touch_34 (by assumption) rfl ?_
          refine V_iload_n F dX6_touch_37 rfl ?_
          refine V_aaldN F 3 dX6_touch_38 (by assumption) rfl rfl _ (by first | (simp only [pk_mul, nI_add, nI_1, nI_inc]; done) | (simp only [pk_mul, nI_add, nI_1, nI_inc]; rfl) | rfl) (by omega) (by omega) (j4 a (by omega)) ?_
          refine V_get F fl_X6_112 dX6_touch_39 (by assumption) rfl ?_
          refine V_iload_n F dX6_touch_42 rfl ?_
          refine V_aload_n F dX6_touch_43 rfl ?_
          refine V_get F fl_X6_17 dX6_touch_44 (by assumption) rfl ?_
          refine V_iload_n F dX6_touch_47 rfl ?_
          refine V_aaldN F 3 dX6_touch_48 (by assumption) rfl rfl _ (by first | (simp only [pk_mul, nI_add, nI_1, nI_inc]; done) | (simp only [pk_mul, nI_add, nI_1, nI_inc]; rfl) | rfl) (by omega) (by omega) (j4 d (by omega)) ?_
          refine V_get F fl_X6_112 dX6_touch_49 (by assumption) rfl ?_
          refine V_iload F dX6_touch_52 rfl ?_
          refine V_ivR F iv_X6_157 dX6_touch_54 (As := [_, _, _]) (c_X1_touches p2 p3 r2 r3 hb he) (by assumption) rfl rfl rfl rfl ?_
          refine V_if_eq F 64 dX6_touch_57 (by decide) (fun c57 => ?_) (fun c57 => ?_)
          · rw [bI_0] at c57
            refine V_iconst F dX6_touch_64 ki_0 ?_
            exact V_iret F rfl dX6_touch_65 rfl ⟨rf c57, hI, fun _ _ => rfl, rfl⟩
          · rw [bI_n] at c57
            refine V_iconst F dX6_touch_60 ki_1 ?_
            refine V_goto F 65 dX6_touch_61 (by decide) ?_
            exact V_iret F rfl dX6_touch_65 rfl ⟨rt c57, hI, fun _ _ => rfl, rfl⟩
        · rw [bI_0] at c28
          exact bad (fun z => by rw [c28] at z; cases z.2.2.2)
end CLS2
