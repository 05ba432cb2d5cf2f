theorem srt_le {lst : Nat → Nat → Int64} {S : Nat} (hs : srtL lst S) {i j : Nat} (hij : i ≤ j) (hj : j < S) : lst i 0 ≤ lst j 0 := by
  rw [Int64.le_iff_toInt_le]
  rcases Nat.lt_or_eq_of_le hij with h | rfl
  · rcases hs i j h hj with q | q
    · have q : lst i 0 < lst j 0 := q
      rw [Int64.lt_iff_toInt_lt] at q
      omega
    · have q : lst i 0 = lst j 0 := q.1
      rw [q]
      exact Int.le_refl _
  · exact Int.le_refl _
theorem fnd_0 (lst : Nat → Nat → Int64) (b : Int32) : ∀ k, fnd lst b k = 0 ↔ ∀ j, j < k → lst j 0 ≠ b.toInt64
  | 0 => ⟨fun _ j h => absurd h (Nat.not_lt_zero _), fun _ => rfl⟩
  | k + 1 => by
    unfold fnd
    have ih := fnd_0 lst b k
    by_cases q : lst k 0 = b.toInt64
    · rw [if_pos q]
      exact ⟨fun z => by omega, fun z => absurd q (z k (Nat.lt_succ_self _))⟩
    · rw [if_neg q, Nat.add_zero, ih]
      exact ⟨fun z j hj => by
        by_cases e : j = k
        · subst e; exact q
        · exact z j (by omega), fun z j hj => z j (by omega)⟩
theorem adv_sp (lst : Nat → Nat → Int64) (S wh : Nat) : ∀ m p, S ≤ p + m → p ≤ S → (∀ j, j < p → lst j 0 < lN wh) → (∀ j, j < adv lst S wh m p → lst j 0 < lN wh) ∧ (adv lst S wh m p < S → ¬ lst (adv lst S wh m p) 0 < lN wh)
  | 0, p, h, h1, h2 => ⟨h2, fun z => by
    have z : p < S := z
    omega⟩
  | m + 1, p, h, h1, h2 => by
    unfold adv
    split
    · rename_i q
      refine adv_sp lst S wh m (p + 1) (by omega) (by omega) (fun j hj => ?_)
      by_cases e : j = p
      · subst e; exact q.2
      · exact h2 j (by omega)
    · rename_i q
      exact ⟨h2, fun z w => q ⟨z, w⟩⟩
theorem lis_fnd {lst : Nat → Nat → Int64} {S wh p : Nat} (hs : srtL lst S) (hw : wh < 2 ^ 31) (h1 : ∀ j, j < p → lst j 0 < lN wh) (h2 : p < S → ¬ lst p 0 < lN wh) : lis lst S wh p = false ↔ fnd lst (nI wh) S = 0 := by
  rw [fnd_0, nI_l hw]
  unfold lis
  constructor
  · intro h k hk e
    by_cases q : k < p
    · have := h1 k q
      rw [e, Int64.lt_iff_toInt_lt] at this
      omega
    · have q2 : p < S := by omega
      have h3 := h2 q2
      have h4 := srt_le hs (show p ≤ k by omega) hk
      rw [e] at h4
      have h5 : lst p 0 = lN wh := by
        rw [Int64.lt_iff_toInt_lt] at h3
        rw [Int64.le_iff_toInt_le] at h4
        exact Int64.toInt_inj.mp (by omega)
      rw [decide_eq_true q2, h5] at h
      simp at h
  · intro h
    by_cases q : p < S
    · have := h p q
      rw [decide_eq_true q, Bool.true_and]
      simpa using this
    · rw [decide_eq_false q, Bool.false_and]
theorem bl_lf {lst : Nat → Nat → Int64} {S : Nat} {se : Int32} {ii : Nat} (hs : srtL lst S) : ∀ (m wh ps p : Nat), wh + m < 2 ^ 31 → ps ≤ ii → p ≤ S → (∀ j, j < p → lst j 0 < lN wh) → bl lst S se ii m wh ps p = lf lst S se m wh (ii - ps)
  | 0, wh, ps, p, _, _, _, _ => rfl
  | m + 1, wh, ps, p, hm, hps, hp, hj => by
    obtain ⟨a1, a2⟩ := adv_sp lst S wh (S - p) p (by omega) hp hj
    have a3 := adv_le lst S wh (S - p) p hp
    unfold bl lf
    generalize adv lst S wh (S - p) p = p' at a1 a2 a3 ⊢
    have k := lis_fnd hs (show wh < 2 ^ 31 by omega) a1 a2
    have a4 : ∀ j, j < p' → lst j 0 < lN (wh + 1) := fun j hj => by
      have := a1 j hj
      rw [Int64.lt_iff_toInt_lt, pk_lT (by omega)] at this ⊢
      omega
    by_cases c : lis lst S wh p' = false ∧ sbit se (wh % 24) = true
    · rw [if_pos c, if_pos (show sbit se (wh % 24) = true ∧ fnd lst (nI wh) S = 0 from ⟨c.2, k.mp c.1⟩)]
      by_cases e : ps = ii
      · rw [if_pos e, if_pos (show ii - ps = 0 by omega)]
      · rw [if_neg e, if_neg (show ¬ ii - ps = 0 by omega), bl_lf hs m (wh + 1) (ps + 1) p' (by omega) (by omega) a3 a4, show ii - (ps + 1) = ii - ps - 1 by omega]
    · rw [if_neg c, if_neg (show ¬ (sbit se (wh % 24) = true ∧ fnd lst (nI wh) S = 0) from fun z => c ⟨k.mpr z.2, z.1⟩)]
      exact bl_lf hs m (wh + 1) ps p' (by omega) hps a3 a4
theorem left_eq {s : Sg} {lq : Int32} (hs : srtL (sLst s) (sS s)) (hmo : sMo s ≤ 2000) (hl : lq = -3 → sMo s = 0) (i : Int32) : LM s lq i = S_left s i := by
  unfold LM S_left
  by_cases h : i < 0
  · rw [if_pos h, if_pos h]
  · rw [if_neg h, if_neg h]
    by_cases h2 : lq = -3
    · rw [if_pos h2, hl h2]
      rfl
    · rw [if_neg h2, bl_lf hs (sMo s) 1 0 0 (by omega) (Nat.zero_le _) (Nat.zero_le _) (fun j hj => absurd hj (Nat.not_lt_zero _))]
      rfl
