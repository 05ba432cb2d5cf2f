def seOk (s : Sg) : Prop := ∀ k, k < sNq s → ∃ mm, mseen mm (fup (fun _ => nI 0) (codM (sQc s k) 4), [codM (sQc s k) 4]) (nI 0) = some (sQs s k)
def lf (lst : Nat → Nat → Int64) (S : Nat) (se : Int32) : Nat → Nat → Nat → Int32
  | 0, _, _ => -3
  | m + 1, b, mr => if sbit se (b % 24) = true ∧ fnd lst (nI b) S = 0 then (if mr = 0 then nI b else lf lst S se m (b + 1) (mr - 1)) else lf lst S se m (b + 1) mr
def LM (s : Sg) (lq i : Int32) : Int32 := if i < 0 then -1 else if lq = -3 then -3 else lf (sLst s) (sS s) (sSe s) (sMo s) 1 (ix i)
section MOD18
variable {G : GP} {M : Mem} {s : Sg} {lq : Int32}
theorem c_X7_seen (h : InvM G M s lq) (hse : seOk s) (q : Int32) : Con G yX7_seen cX7_seen 16 (some .int) 2 0 0 [.ref (gB G + 816), .int q] M none (PM G M (S_seen s q) s lq) := by
  have hI := h
  obtain ⟨⟨st, pd, gd', hO⟩, hA, hJ, hg⟩ := h
  have h60 := hg.2.1
  by_cases hq : inR q (sNq s) = true
  · obtain ⟨k, hk, rfl⟩ := inR_t (by omega) hq
    obtain ⟨mm, hm⟩ := hse k hk
    have := c_X7_seenK hI hk hm
    unfold S_seen
    rw [if_pos hq, ix_nI (by omega)]
    exact this
  · have hq' : inR q (sNq s) = false := by simpa using hq
    unfold S_seen
    rw [if_neg hq]
    refine Con.of (by decide +kernel) (Nat.le_of_ble_eq_true rfl) (fun X F hnm => ?_)
    show V G X 0 0 _ M _ 0 [some (.ref (gB G + 816)), some (.int q), none, none, none, none, none, none, none, none, none, none, none, none, none, none] []
    refine V_aload_n F dX7_seen_0 rfl ?_
    refine V_iload_n F dX7_seen_1 rfl ?_
    refine V_ivR F iv_X7_115 dX7_seen_2 (As := [_]) (c_X7_isQuad h60 hO _) (by assumption) rfl rfl rfl rfl ?_
    refine V_if_ne F 10 dX7_seen_5 (by decide) (fun c5 => absurd c5 (by rw [hq']; decide)) (fun c5 => ?_)
    refine V_iconst F dX7_seen_8 ki_m1 ?_
    exact V_iret F rfl dX7_seen_9 rfl ⟨rfl, hI, fun _ _ => rfl, rfl⟩
theorem c_X7_left (h : InvM G M s lq) (hlq : lq = -3 ∨ ∃ k mm, k < sNq s ∧ lq = nI k ∧ mseen mm (fup (fun _ => nI 0) (codM (sQc s k) 4), [codM (sQc s k) 4]) (nI 0) = some (sSe s)) (i : Int32) : Con G yX7_left cX7_left 5 (some .int) 3 0 0 [.ref (gB G + 816), .int i] M none (PM G M (LM s lq i) s lq) := by
  have hI := h
  obtain ⟨⟨st, pd, gd', hO⟩, hA, hJ, hg⟩ := h
  have h60 := hg.2.1
  have hmo := hg.2.2.2.1
  generalize hR : LM s lq i = R
  unfold LM at hR
  refine Con.of (by decide +kernel) (Nat.le_of_ble_eq_true rfl) (fun X F hnm => ?_)
  show V G X 0 0 _ M _ 0 [some (.ref (gB G + 816)), some (.int i), none, none, none] []
  refine V_iload_n F dX7_left_0 rfl ?_
  refine V_if_ge F 6 dX7_left_1 (by decide) (fun c1 => ?_) (fun c1 => ?_)
  · rw [if_neg (Int32.not_lt.mpr c1)] at hR
    obtain ⟨ii, hii, rfl⟩ := nI_of (Int32.not_lt.mpr c1)
    rw [ix_nI hii] at hR
    refine V_aload_n F dX7_left_6 rfl ?_
    refine V_get F fl_X7_32 dX7_left_7 (by assumption) rfl ?_
    refine V_bipush F dX7_left_10 kb_m3 ?_
    refine V_icmp_ne F 18 dX7_left_12 (by decide) (fun c12 => ?_) (fun c12 => ?_)
    · rcases hlq with rfl | ⟨k, mm, hk, rfl, hm⟩
      · exact absurd rfl c12
      · rw [if_neg (fun z => c12 z)] at hR
        refine V_aload_n F dX7_left_18 rfl ?_
        refine V_aload_n F dX7_left_19 rfl ?_
        refine V_get F fl_X7_32 dX7_left_20 (by assumption) rfl ?_
        refine V_ivP F iv_X7_178 dX7_left_23 (As := [_]) (c_X7_seenK hI hk hm) (by assumption) rfl rfl rfl rfl ?_
        rintro v M1 n1 ⟨rfl, hI1, fr1, rfl⟩
        have hI1' := hI1
        obtain ⟨⟨st1, pd1, gd1, hO1⟩, hA1, hJ1, hg1⟩ := hI1
        have loop : ∀ t b mr : Nat, t + b = sMo s + 1 → mr < 2 ^ 31 → lf (sLst s) (sS s) (sSe s) t b mr = R → V G X 0 0 (BQ G X (PM G M R s (nI k)) 0 0) M1 none 32 [some (.ref (gB G + 816)), some (.int (nI ii)), some (.int (sSe s)), some (.int (nI mr)), some (.int (nI b))] [] := by
          intro t
          induction t with
          | zero =>
            intro b mr hb hmr e
            have e : R = -3 := e.symm
            subst e
            refine V_iload F dX7_left_32 rfl ?_
            refine V_aload_n F dX7_left_34 rfl ?_
            refine V_get F fl_X7_174 dX7_left_35 (by assumption) rfl ?_
            refine V_icmp_gt F 79 dX7_left_38 (by decide) (fun c38 => ?_) (fun c38 => absurd (nI_lt (by omega) (by omega)) c38)
            refine V_bipush F dX7_left_79 kb_m3 ?_
            exact V_iret F rfl dX7_left_81 rfl ⟨rfl, hI1', fr1, rfl⟩
          | succ t ih =>
            intro b mr hb hmr e
            rw [show lf (sLst s) (sS s) (sSe s) (t + 1) b mr = (if sbit (sSe s) (b % 24) = true ∧ fnd (sLst s) (nI b) (sS s) = 0 then (if mr = 0 then nI b else lf (sLst s) (sS s) (sSe s) t (b + 1) (mr - 1)) else lf (sLst s) (sS s) (sSe s) t (b + 1) mr) from rfl] at e
            have next : ∀ mr', mr' < 2 ^ 31 → lf (sLst s) (sS s) (sSe s) t (b + 1) mr' = R → V G X 0 0 (BQ G X (PM G M R s (nI k)) 0 0) M1 none 73 [some (.ref (gB G + 816)), some (.int (nI ii)), some (.int (sSe s)), some (.int (nI mr')), some (.int (nI b))] [] := by
              intro mr' h1 h2
              refine V_iinc1 F dX7_left_73 rfl ?_
              show V _ _ _ _ _ _ _ _ [_, _, _, _, _] _
              refine V_goto F 32 dX7_left_76 (by decide) ?_
              exact ih (b + 1) mr' (by omega) h1 h2
            refine V_iload F dX7_left_32 rfl ?_
            refine V_aload_n F dX7_left_34 rfl ?_
            refine V_get F fl_X7_174 dX7_left_35 (by assumption) rfl ?_
            refine V_icmp_gt F 79 dX7_left_38 (by decide) (fun c38 => absurd c38 (Int32.not_lt.mpr (nI_le (by omega) (by omega)))) (fun c38 => ?_)
            refine V_iload_n F dX7_left_41 rfl ?_
            refine V_iload F dX7_left_42 rfl ?_
            refine V_bipush F dX7_left_44 kb_24 ?_
            refine V_irem F dX7_left_46 (by decide) ?_
            rw [pk_rem (by omega) (by omega) (by omega)]
            refine V_ishr F dX7_left_47 ?_
            refine V_iconst F dX7_left_48 ki_1 ?_
            refine V_iand F dX7_left_49 ?_
            refine V_iconst F dX7_left_50 ki_1 ?_
            refine V_icmp_ne F 73 dX7_left_51 (by decide) (fun c51 => ?_) (fun c51 => ?_)
            · have hs : sbit (sSe s) (b % 24) = false := by unfold sbit; exact beq_false_of_ne c51
              rw [if_neg (by rw [hs]; intro z; cases z.1)] at e
              exact next mr hmr e
            · have hs : sbit (sSe s) (b % 24) = true := by unfold sbit; exact beq_iff_eq.mpr c51
              refine V_aload_n F dX7_left_54 rfl ?_
              refine V_iload F dX7_left_55 rfl ?_
              refine V_ivR F iv_X7_181 dX7_left_57 (As := [_]) (c_X7_find hI1' _) (by assumption) rfl rfl rfl rfl ?_
              refine V_if_ne F 73 dX7_left_60 (by decide) (fun c60 => ?_) (fun c60 => ?_)
              · rw [if_neg (fun z => c60 (by unfold S_find; rw [z.2]; rfl))] at e
                exact next mr hmr e
              · have hle := fnd_le (sLst s) (nI b) (sS s)
                have hS := hg.2.2.1
                have c60 : fnd (sLst s) (nI b) (sS s) = 0 := (nI_eq (b := 0) (by omega) (by omega)).mp c60
                rw [if_pos ⟨hs, c60⟩] at e
                refine V_iload_n F dX7_left_63 rfl ?_
                refine V_if_ne F 70 dX7_left_64 (by decide) (fun c64 => ?_) (fun c64 => ?_)
                · have hm0 : mr ≠ 0 := fun z => c64 (by rw [z]; rfl)
                  rw [if_neg hm0] at e
                  obtain ⟨u, rfl⟩ : ∃ u, mr = u + 1 := ⟨mr - 1, by omega⟩
                  refine V_iincm F dX7_left_70 rfl ?_
                  show V _ _ _ _ _ _ _ _ [_, _, _, _, _] _
                  exact next u (by omega) e
                · have hm0 : mr = 0 := (nI_eq (b := 0) (by omega) (by omega)).mp c64
                  rw [if_pos hm0] at e
                  subst e
                  refine V_iload F dX7_left_67 rfl ?_
                  exact V_iret F rfl dX7_left_69 rfl ⟨rfl, hI1', fr1, rfl⟩
        refine V_istore_n F dX7_left_26 (Nat.le_of_ble_eq_true rfl) ?_
        show V _ _ _ _ _ _ _ _ [_, _, _, _, _] _
        refine V_iload_n F dX7_left_27 rfl ?_
        refine V_istore_n F dX7_left_28 (Nat.le_of_ble_eq_true rfl) ?_
        show V _ _ _ _ _ _ _ _ [_, _, _, _, _] _
        refine V_iconst F dX7_left_29 ki_1 ?_
        refine V_istore F dX7_left_30 (Nat.le_of_ble_eq_true rfl) ?_
        show V _ _ _ _ _ _ _ _ [_, _, _, _, _] _
        exact loop (sMo s) 1 ii rfl hii hR
    · rw [if_pos c12] at hR
      subst hR
      refine V_bipush F dX7_left_15 kb_m3 ?_
      exact V_iret F rfl dX7_left_17 rfl ⟨rfl, hI, fun _ _ => rfl, rfl⟩
  · rw [if_pos (Int32.not_le.mp c1)] at hR
    subst hR
    refine V_iconst F dX7_left_4 ki_m1 ?_
    exact V_iret F rfl dX7_left_5 rfl ⟨rfl, hI, fun _ _ => rfl, rfl⟩
end MOD18
