theorem InvC.frame {G : GP} {M M' : Mem} {s : Sg} (h : InvC G M s) (e : ∀ z, gB G ≤ z → z < gB G + 816 → M' z = M z) : InvC G M' s := by
  obtain ⟨la, lb, hlab, hA, hJ, hL, hG, hQ, h60⟩ := h
  exact ⟨la, lb, hlab, (e _ (by omega) (by omega)).trans hA, hJ.frame (fun z z1 z2 => e z (by omega) (by omega)), hL.frame hlab (fun z z1 z2 => e z (by omega) (by omega)), hG.frame (fun z z1 z2 => e z (by omega) (by omega)), hQ.frame (fun z z1 z2 => e z (by omega) (by omega)), h60⟩
theorem InvM.frame {G : GP} {M M' : Mem} {s : Sg} {lq : Int32} (h : InvM G M s lq) (e : ∀ z, gB G + 816 ≤ z → M' z = M z) : InvM G M' s lq := by
  obtain ⟨⟨st, pd, gd', hO⟩, hA, hJ, hg⟩ := h
  refine ⟨⟨st, pd, gd', (e _ (by omega)).trans hO⟩, hA.frame (fun i hi => e _ (by omega)), hJ.frame (fun i hi => e _ ?_), hg⟩
  rcases hi with z | z
  · have := jl_c z; omega
  · have := il_c z; omega
theorem InvM.lst {G : GP} {M : Mem} {s : Sg} {f g : Nat → Nat → Int64} {S mo : Nat} {se lq : Int32} (h : InvM G M (ulist s f S mo se) lq) (e : ∀ k w, k < S → w < 3 → f k w = g k w) : InvM G M (ulist s g S mo se) lq := by
  obtain ⟨hO, ⟨a1, a2, a3, a4, a5, ⟨f6, b1, b2⟩⟩, hJ, g1, g2, g3, g4, g5, g6⟩ := h
  refine ⟨hO, ⟨a1, a2, a3, a4, a5, f6, b1, fun k w hk hw => ?_⟩, hJ, g1, g2, g3, g4, g5, fun k w hk hw => ?_⟩
  · have := b2 k w hk hw
    have e2 := e k w hk hw
    show f6 (3 * k + w) = (g k w).toInt32
    rw [← e2]
    exact this
  · have := g6 k w hk hw
    have e2 := e k w hk hw
    show (g k w).toInt32.toInt64 = g k w
    rw [← e2]
    exact this
def KG (s : Sg) (lq : Int32) : Prop := (∀ k, k < sNq s → SQ (sQc s k) ∧ sQs s k = sn (sQc s k)) ∧ srtL (sLst s) (sS s) ∧ ((lq = -3 ∧ sMo s = 0) ∨ ∃ k, k < sNq s ∧ lq = nI k ∧ sSe s = sQs s k)
theorem KG.st {s : Sg} {lq : Int32} (h : KG s lq) : stOk s := fun k hk => gd_1000 (h.1 k hk).1.DQ 100000
theorem KG.ms {s : Sg} {lq : Int32} (h : KG s lq) {k : Nat} (hk : k < sNq s) : mseen 1296 (fup (fun _ => nI 0) (codM (sQc s k) 4), [codM (sQc s k) 4]) (nI 0) = some (sQs s k) := by
  rw [(h.1 k hk).2]
  exact seen_eq (h.1 k hk).1.evn
theorem KG.se {s : Sg} {lq : Int32} (h : KG s lq) : seOk s := fun k hk => ⟨1296, h.ms hk⟩
theorem KG.lq {s : Sg} {lq : Int32} (h : KG s lq) : lq = -3 ∨ ∃ k mm, k < sNq s ∧ lq = nI k ∧ mseen mm (fup (fun _ => nI 0) (codM (sQc s k) 4), [codM (sQc s k) 4]) (nI 0) = some (sSe s) := by
  rcases h.2.2 with z | ⟨k, z1, z2, z3⟩
  · exact Or.inl z.1
  · exact Or.inr ⟨k, 1296, z1, z2, by rw [z3]; exact h.ms z1⟩
theorem KG.cleft {s : Sg} {lq : Int32} (h : KG s lq) (h60 : sNq s ≤ 60) (hmo : sMo s ≤ 2000) (i : Int32) : LM s lq i = S_left s i := left_eq h.2.1 hmo (fun z => by
  rcases h.2.2 with w | ⟨k, z1, z2, z3⟩
  · exact w.2
  · rw [z] at z2
    have := nI_pos' (show k < 2 ^ 31 by omega)
    rw [← z2] at this
    exact absurd this (by decide)) i
theorem KG.xbag {s : Sg} {lq : Int32} (h : KG s lq) (j : Nat) (k : Int32) (len : Nat) (f : Nat → Int64) : KG (ubag s j k len f) lq := h
theorem KG.cbag {s : Sg} {lq : Int32} (h : KG s lq) (r k m : Int32) : KG (S_bag s r k m).2 lq := by
  unfold S_bag
  repeat' split
  all_goals exact h
theorem KG.cput {s : Sg} {lq : Int32} (h : KG s lq) (r i : Int32) (v : Int64) : KG (S_put s r i v).2 lq := by
  unfold S_put
  split
  all_goals exact h
theorem KG.ccopy {s : Sg} {lq : Int32} (h : KG s lq) (r i t j m : Int32) : KG (S_copy s r i t j m).2 lq := by
  unfold S_copy
  repeat' split
  all_goals exact h
theorem KG.cuq {s : Sg} {lq : Int32} (h : KG s lq) {c : Qd} {se : Int32} (fr : Int32) (hc : SQ c) (hs : se = sn c) : KG (uquad s c fr se) lq := by
  obtain ⟨h1, h2, h3⟩ := h
  refine ⟨fun k hk => ?_, h2, ?_⟩
  · have hk : k < sNq s + 1 := hk
    show SQ (if k = sNq s then c else sQc s k) ∧ (if k = sNq s then se else sQs s k) = sn (if k = sNq s then c else sQc s k)
    by_cases e : k = sNq s
    · rw [if_pos e, if_pos e]
      exact ⟨hc, hs⟩
    · rw [if_neg e, if_neg e]
      exact h1 k (by omega)
  · rcases h3 with z | ⟨k, z1, z2, z3⟩
    · exact Or.inl z
    · refine Or.inr ⟨k, Nat.lt_succ_of_lt z1, z2, ?_⟩
      show sSe s = if k = sNq s then se else sQs s k
      rw [if_neg (by omega)]
      exact z3
theorem KG.cquad {s : Sg} {lq : Int32} (h : KG s lq) (r i : Int32) : KG (S_quad s r i).2 lq := by
  unfold S_quad
  by_cases h1 : rop s r i (nI 12) = 0
  · rw [if_pos h1]
    by_cases h2 : rfs (cof (sPl s (ix r)) (ix i)) = 0
    · rw [if_pos h2]
      by_cases h3 : sNq s < 60
      · rw [if_pos h3]
        exact h.cuq _ (SQ_rfs h2) rfl
      · rw [if_neg h3]
        exact h
    · rw [if_neg h2]
      exact h
  · rw [if_neg h1]
    exact h
theorem KG.cswap {s : Sg} {lq : Int32} (h : KG s lq) (h60 : sNq s ≤ 60) (q i : Int32) : KG (S_swap s q i).2 lq := by
  unfold S_swap
  by_cases h1 : inR q (sNq s) = false ∨ inR i 4 = false
  · rw [if_pos h1]
    exact h
  · rw [if_neg h1]
    obtain ⟨k, hk, rfl⟩ := inR_t (x := q) (m := sNq s) (by omega) (by
      cases e : inR q (sNq s) with
      | true => rfl
      | false => exact absurd (Or.inl e) h1)
    obtain ⟨j, hj, rfl⟩ := inR_t (x := i) (m := 4) (by omega) (by
      cases e : inR i 4 with
      | true => rfl
      | false => exact absurd (Or.inr e) h1)
    rw [ix_nI (by omega), ix_nI (by omega)]
    by_cases h2 : cRef (turnc (sQc s k) j) j = 0
    · rw [if_pos h2]
      by_cases h3 : sNq s < 60
      · rw [if_pos h3]
        obtain ⟨a1, a2⟩ := h.1 k hk
        exact h.cuq _ (a1.turn hj h2) (by rw [a2, sn_turn a1.qIn hj a1.evn])
      · rw [if_neg h3]
        exact h
    · rw [if_neg h2]
      exact h
theorem at3_w {f g : Nat → Nat → Int64} {k : Nat} (h : at3 f k = at3 g k) : ∀ w, w < 3 → f k w = g k w := by
  unfold at3 at h
  simp only [Prod.mk.injEq] at h
  intro w hw
  match w, hw with
  | 0, _ => exact h.1
  | 1, _ => exact h.2.1
  | 2, _ => exact h.2.2
theorem srtL_congr {f g : Nat → Nat → Int64} {S : Nat} (h : ∀ k, k < S → at3 f k = at3 g k) (hs : srtL g S) : srtL f S := fun i j hij hj => by
  rw [h i (by omega), h j hj]
  exact hs i j hij hj
/-- list(): the model's result r beside the class's, out of the class's own junk list -/
theorem KG.clist {s : Sg} {lq : Int32} (h : KG s lq) (h60 : sNq s ≤ 60) (q mo : Int32) (j : Nat → Nat → Int64) :
    ∃ r, (inR q (sNq s) = true → ¬ (mo < nI 1 ∨ nI 2000 < mo) → mgth 300 (rootq s (ix q)) mo j = some r ∧ (r.1 = true → ∀ k w, k < r.2.1 → w < 3 → (r.2.2.1 k w).toInt32.toInt64 = r.2.2.1 k w)) ∧
      (S_list s q mo j).1 = (S_listM s q mo r).1 ∧ KG (S_list s q mo j).2 (lqM s q mo r lq) ∧ ∀ G M lq', InvM G M (S_listM s q mo r).2 lq' → InvM G M (S_list s q mo j).2 lq' := by
  by_cases c : inR q (sNq s) = false ∨ mo < nI 1 ∨ nI 2000 < mo
  · refine ⟨(false, 0, j, []), fun a b => absurd c (fun z => z.elim (fun w => by rw [a] at w; cases w) b), ?_⟩
    unfold S_list S_listM lqM
    rw [if_pos c, if_pos c, if_pos c]
    exact ⟨rfl, h, fun _ _ _ z => z⟩
  · have hq : inR q (sNq s) = true := by
      cases e : inR q (sNq s) with
      | true => rfl
      | false => exact absurd (Or.inl e) c
    obtain ⟨k, hk, rfl⟩ := inR_t (by omega) hq
    have hi : ix (nI k) = k := ix_nI (by omega)
    obtain ⟨a1, a2⟩ := h.1 k hk
    obtain ⟨r, e1, e2, e3⟩ := list_same (c := rootq s k) (mo := mo) (lst := j) (fun hr => (a1.root 100000 hr).GI)
    refine ⟨r, fun _ _ => ⟨by rw [hi]; exact e1, fun z => (e3 z).2.2.2.2⟩, ?_⟩
    unfold S_list S_listM lqM CLres
    rw [if_neg c, if_neg c, if_neg c, hi, e2]
    by_cases z : r.1 = false
    · rw [if_pos z, if_pos z, if_pos z]
      exact ⟨rfl, h, fun _ _ _ y => y⟩
    · rw [if_neg z, if_neg z, if_neg z]
      obtain ⟨f1, f2, f3, f4, f5⟩ := e3 (by simpa using z)
      rw [f1]
      exact ⟨rfl, ⟨h.1, srtL_congr f2 f3, Or.inr ⟨k, hk, rfl, rfl⟩⟩, fun G M lq' y => y.lst (fun k' w hk' hw => (at3_w (f2 k' hk') w hw).symm)⟩
