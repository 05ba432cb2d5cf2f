def scr (G : GP) (X : CX) (b N : Nat) (sc : Nat → Int32) : Prop := va_X b N sc (xs X) (xs X).heap ∧ b < gB G ∧ N ≤ 3072
theorem and31 (y : Int32) : ∃ j, j < 32 ∧ y &&& nI 31 = nI j := ⟨y.toBitVec.toNat % 32, Nat.mod_lt _ (by decide), by
  apply Int32.toBitVec_inj.mp
  apply BitVec.eq_of_toNat_eq
  rw [Int32.toBitVec_and, BitVec.toNat_and]
  show y.toBitVec.toNat &&& 31 = (y.toBitVec.toNat % 32) % 2 ^ 32
  rw [Nat.mod_eq_of_lt (show y.toBitVec.toNat % 32 < 2 ^ 32 by omega)]
  exact Nat.and_two_pow_sub_one_eq_mod _ 5⟩
abbrev LL (G : GP) (b t : Nat) : List (Option Value) := [some (.ref b), some (.ref (gB G)), some (.ref (gB G + 816)), some (.int (nI (6 * t)))]
def Inv (G : GP) (M : Mem) (s : Sg) (lq : Int32) : Prop := InvC G M s ∧ InvM G M s lq ∧ KG s lq
theorem InvC.obj {G : GP} {M : Mem} {s : Sg} (h : InvC G M s) : ∃ fs, M (gB G) = some (eO 6 fs) := by
  obtain ⟨la, lb, hlab, hA, -⟩ := h
  exact ⟨_, hA⟩
theorem InvM.obj {G : GP} {M : Mem} {s : Sg} {lq : Int32} (h : InvM G M s lq) : ∃ fs, M (gB G + 816) = some (eO 7 fs) := by
  obtain ⟨⟨st, pd, gd', hO⟩, -⟩ := h
  exact ⟨_, hO⟩
section VL
variable {G : GP} {X : CX} {cells slots : Nat} {Q : State → Prop} {M : Mem} {n : Option Nat} {pc : Nat} {L : List (Option Value)} {st : List Value} {own : String} {cc : ByteArray} {ret : Option FieldType} {d rc rs : Nat}
theorem V_sld (F : FX G X own cc ret d rc rs) {b N : Nat} {sc : Nat → Int32} (hX : scr G X b N sc) {i : Int32} (hdg : decode cc pc = .ok (.iaload, 1)) (j : Nat) (hi : i = nI j) (hj : j < N) (k : V G X cells slots Q M n (pc + 1) L (.int (sc j) :: st)) : V G X cells slots Q M n pc L (.int i :: .ref b :: st) := by
  subst hi
  have h3 := hX.2.2
  exact fun H locs ls hm hS hL hz => va_sld F.x F.b hX.1 (Nat.lt_of_lt_of_le hX.2.1 F.B) (Nat.not_le.mpr hX.2.1) hS (vp_in_nI hj (by omega)) hdg (by
    have e : (nI j).toNatClampNeg = j := nI_clamp (by omega)
    rw [e]
    exact k H locs ls hm hS hL hz)
theorem V_slen (F : FX G X own cc ret d rc rs) {b N : Nat} {sc : Nat → Int32} (hX : scr G X b N sc) (hdg : decode cc pc = .ok (.arraylength, 1)) (k : V G X cells slots Q M n (pc + 1) L (.int (nI N) :: st)) : V G X cells slots Q M n pc L (.ref b :: st) := fun H locs ls hm hS hL hz => va_slen F.x F.b hX.1 (Nat.lt_of_lt_of_le hX.2.1 F.B) (Nat.not_le.mpr hX.2.1) hS hdg (k H locs ls hm hS hL hz)
theorem V_none (k : V G X cells slots Q M none pc L st) : V G X cells slots Q M n pc L st := fun H locs ls hm hS hL hz => k H locs ls ⟨fun _ h => absurd h (by simp), hm.2⟩ hS hL hz
end VL
