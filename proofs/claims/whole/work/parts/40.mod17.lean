theorem InvM.seenM {G : GP} {M M' : Mem} {s : Sg} {lq : Int32} (h : InvM G M s lq) {f g : Nat → Int32} (h1 : M' (gB G + 830) = some (eI (gT G) 10368 f)) (h2 : M' (gB G + 831) = some (eI (gT G) 331776 g)) (e : ∀ z, z ≠ gB G + 830 → z ≠ gB G + 831 → M' z = M z) : InvM G M' s lq := by
  obtain ⟨⟨st, pd, gd', hO⟩, hA, hJ, hg⟩ := h
  refine ⟨⟨st, pd, gd', (e _ (by omega) (by omega)).trans hO⟩, hA.frame (fun i hi => e _ (by omega) (by omega)), ⟨fun i hi => ?_, fun i hi => ?_⟩, hg⟩
  · obtain ⟨f', hf⟩ := hJ.1 i hi
    have := jl_c hi
    exact ⟨f', (e _ (by omega) (by omega)).trans hf⟩
  · by_cases q1 : i = 830
    · subst q1; exact ⟨f, h1⟩
    · by_cases q2 : i = 831
      · subst q2; exact ⟨g, h2⟩
      · obtain ⟨f', hf⟩ := hJ.2 i hi
        have := il_c hi
        exact ⟨f', (e _ (by omega) (by omega)).trans hf⟩
def bitI (d : Nat) : Int32 := nI 1 <<< (nI d &&& 31)
def orM (s : Int32) (v : Nat) : Int32 := s ||| (((bitI (dg v 3) ||| bitI (dg v 2)) ||| bitI (dg v 1)) ||| bitI (dg v 0))
def fup (f : Nat → Int32) (v : Nat) : Nat → Int32 := va_up f (v / 32) (orb (f (v / 32)) (v % 32))
def fhs (f : Nat → Int32) (v : Nat) : Bool := sbit (f (v / 32)) (v % 32)
abbrev Sk : Type := (Nat → Int32) × List Nat
def ms1 (v i : Nat) (s : Sk) : Sk := if fhs s.1 (swp v (3 - i)) = true then (fup s.1 (swp v (3 - i)), s.2) else (fup s.1 (swp v (3 - i)), swp v (3 - i) :: s.2)
def ms4 (v : Nat) (s : Sk) : Sk := ms1 v 3 (ms1 v 2 (ms1 v 1 (ms1 v 0 s)))
def mseen : Nat → Sk → Int32 → Option Int32
  | 0, s, m => if s.2 = [] then some m else none
  | k + 1, s, m => match s.2 with
    | [] => some m
    | v :: t => if t.length + 4 ≤ 331776 then mseen k (ms4 v (s.1, t)) (orM m v) else none
def codM (c : Qd) : Nat → Nat
  | 0 => 0
  | k + 1 => 24 * codM c k + rsd (c k 0)
def relO (fo : Nat → Int32) : List Nat → Prop
  | [] => True
  | v :: t => fo t.length = nI v ∧ relO fo t
theorem relO.congr {p p' : Nat → Int32} : ∀ {l : List Nat}, relO p l → (∀ z, z < l.length → p' z = p z) → relO p' l
  | [], _, _ => trivial
  | x :: t, h, e1 => by
    obtain ⟨h1, h3⟩ := h
    rw [List.length_cons] at e1
    exact ⟨(e1 _ (by omega)).trans h1, h3.congr (fun z hz => e1 z (by omega))⟩
theorem codM_lt (c : Qd) : codM c 4 < 331776 := by
  have h0 := rsd_lt (c 0 0)
  have h1 := rsd_lt (c 1 0)
  have h2 := rsd_lt (c 2 0)
  have h3 := rsd_lt (c 3 0)
  simp only [codM]
  omega
theorem rsI_q {c : Qd} (h : qIn c) {i : Nat} (hi : i < 4) : rsI (c i 0).toInt32 = rsd (c i 0) := by
  unfold rsI rsd
  rw [← Int32.toInt_toInt64, h i 0 hi (by omega)]
theorem mod_nd {v j : Nat} (hj : j < 4) : rsI (nI 2 * (nI (dg v 3) + nI (dg v 2) + nI (dg v 1) + nI (dg v 0) - nI (dg v j)) - nI (dg v j)) = nd v j := by
  have d0 := dg_lt v 0
  have d1 := dg_lt v 1
  have d2 := dg_lt v 2
  have d3 := dg_lt v 3
  have dj := dg_lt v j
  have hle : dg v j ≤ dg v 3 + dg v 2 + dg v 1 + dg v 0 := by
    have : j = 0 ∨ j = 1 ∨ j = 2 ∨ j = 3 := by omega
    rcases this with rfl | rfl | rfl | rfl <;> omega
  rw [nI_add, nI_add, nI_add, pk_sub hle, pk_mul]
  unfold rsI nd
  rw [pk_sub_toInt (by omega) (by omega)]
  omega
theorem swp_I2 {v j : Nat} (hj : j < 4) (hv : v < 331776) : nI v + nI (wtN j) * (nI (nd v j) - nI (dg v j)) = nI (swp v j) := by
  rw [← wt_N j hj]
  exact swp_I hj hv
theorem dg3 {v : Nat} (h : v < 331776) : v / 13824 = dg v 3 := by
  show v / 13824 = v / 13824 % 24
  omega
theorem ms1_len (v i : Nat) (s : Sk) : (ms1 v i s).2.length ≤ s.2.length + 1 := by
  unfold ms1
  split
  · exact Nat.le_succ _
  · exact Nat.le_refl _
theorem ms1_all {v i : Nat} {s : Sk} (hi : i < 4) (hv : v < 331776) (h : ∀ x ∈ s.2, x < 331776) : ∀ x ∈ (ms1 v i s).2, x < 331776 := by
  unfold ms1
  split
  · exact h
  · intro x hx
    rcases List.mem_cons.mp hx with rfl | q
    · exact (swp_lt (by omega) hv).1
    · exact h x q
def WS (G : GP) (M0 M : Mem) (s : Sk) : Prop := M (gB G + 830) = some (eI (gT G) 10368 s.1) ∧ (∃ fo, M (gB G + 831) = some (eI (gT G) 331776 fo) ∧ relO fo s.2) ∧ (∀ x ∈ s.2, x < 331776) ∧ ∀ z, z ≠ gB G + 830 → z ≠ gB G + 831 → M z = M0 z
theorem mseen_c {k : Nat} {s : Sk} {m res : Int32} {v : Nat} {t : List Nat} (h : mseen k s m = some res) (h2 : s.2 = v :: t) : ∃ j, k = j + 1 ∧ t.length + 4 ≤ 331776 ∧ mseen j (ms4 v (s.1, t)) (orM m v) = some res := by
  cases k with
  | zero =>
    unfold mseen at h
    rw [if_neg (by rw [h2]; intro z; cases z)] at h
    cases h
  | succ j =>
    unfold mseen at h
    rw [h2] at h
    by_cases q : t.length + 4 ≤ 331776
    · exact ⟨j, rfl, q, by
        have h : (if t.length + 4 ≤ 331776 then mseen j (ms4 v (s.1, t)) (orM m v) else none) = some res := h
        rwa [if_pos q] at h⟩
    · have h : (if t.length + 4 ≤ 331776 then mseen j (ms4 v (s.1, t)) (orM m v) else none) = some res := h
      rw [if_neg q] at h
      cases h
theorem mseen_e {k : Nat} {s : Sk} {m : Int32} (h : s.2 = []) : mseen k s m = some m := by
  cases k with
  | zero => unfold mseen; rw [if_pos h]
  | succ j => unfold mseen; rw [h]
section MOD17
variable {G : GP} {M : Mem} {s : Sg} {lq : Int32}
theorem c_X7_seenK (h : InvM G M s lq) {k : Nat} (hk : k < sNq s) {mm : Nat} {res : Int32} (hm : mseen mm (fup (fun _ => nI 0) (codM (sQc s k) 4), [codM (sQc s k) 4]) (nI 0) = some res) : Con G yX7_seen cX7_seen 16 (some .int) 2 0 0 [.ref (gB G + 816), .int (nI k)] M none (PM G M res s lq) := by
  have hI := h
  obtain ⟨⟨st, pd, gd', hO⟩, hA, hJ, hg⟩ := h
  obtain ⟨-, -, -, -, ⟨f5, a5, b5⟩, -⟩ := hA
  obtain ⟨f8, a8⟩ := hJ.2 830 (by decide)
  obtain ⟨f9, a9⟩ := hJ.2 831 (by decide)
  have a8 : M (gB G + 830) = some (eI (gT G) 10368 f8) := a8
  have a9 : M (gB G + 831) = some (eI (gT G) 331776 f9) := a9
  have h60 := hg.2.1
  have hin := hg.2.2.2.2.1 k hk
  have cl := codM_lt (sQc s k)
  refine Con.of (by decide +kernel) (Nat.le_of_ble_eq_true rfl) (fun X F hnm => ?_)
  show V G X 0 0 _ M _ 0 [some (.ref (gB G + 816)), some (.int (nI k)), none, none, none, none, none, none, none, none, none, none, none, none, none, none] []
  generalize hQ : BQ G X _ 0 0 = Q
  refine V_aload_n F dX7_seen_0 rfl ?_
  refine V_iload_n F dX7_seen_1 rfl ?_
  refine V_ivR F iv_X7_115 dX7_seen_2 (As := [_]) (c_X7_isQuad h60 hO _) (by assumption) rfl rfl rfl rfl ?_
  refine V_if_ne F 10 dX7_seen_5 (by decide) (fun c5 => ?_) (fun c5 => absurd c5 (by rw [inR_nI (by omega) hk]; decide))
  -- the mark of one swap
  have late : ∀ (v i j : Nat) (m : Int32) (x : Sk) (M1 : Mem), v < 331776 → j + i = 3 → x.2.length < 331776 → WS G M M1 x → (∀ M2, WS G M M2 (ms1 v i x) → V G X 0 0 Q M2 none 166 [some (.ref (gB G + 816)), some (.int (nI k)), none, some (.int (nI (ms1 v i x).2.length)), none, some (.int m), some (.int (nI v)), some (.int (nI (dg v 3))), some (.int (nI (dg v 2))), some (.int (nI (dg v 1))), some (.int (nI (dg v 0))), some (.int (nI (i + 1))), none, none, none, none] []) → V G X 0 0 Q M1 none 245 [some (.ref (gB G + 816)), some (.int (nI k)), none, some (.int (nI x.2.length)), none, some (.int m), some (.int (nI v)), some (.int (nI (dg v 3))), some (.int (nI (dg v 2))), some (.int (nI (dg v 1))), some (.int (nI (dg v 0))), some (.int (nI i)), some (.int (nI (wtN j))), some (.int (nI (dg v j))), none, none] [] := by
    intro v i j m x M1 hv hij hx W kk
    obtain ⟨w1, ⟨fo, w2, w3⟩, w4, w5⟩ := W
    have O1 := (w5 (gB G + 816) (by omega) (by omega)).trans hO
    have hs := (swp_lt (show j < 4 by omega) hv).1
    have hms : ms1 v i x = if fhs x.1 (swp v j) = true then (fup x.1 (swp v j), x.2) else (fup x.1 (swp v j), swp v j :: x.2) := by
      unfold ms1; rw [show 3 - i = j by omega]
    refine V_iconst F dX7_seen_245 ki_2 ?_
    refine V_iload F dX7_seen_246 rfl ?_
    refine V_iload F dX7_seen_248 rfl ?_
    refine V_iadd F dX7_seen_250 ?_
    refine V_iload F dX7_seen_251 rfl ?_
    refine V_iadd F dX7_seen_253 ?_
    refine V_iload F dX7_seen_254 rfl ?_
    refine V_iadd F dX7_seen_256 ?_
    refine V_iload F dX7_seen_257 rfl ?_
    refine V_isub F dX7_seen_259 ?_
    refine V_imul F dX7_seen_260 ?_
    refine V_iload F dX7_seen_261 rfl ?_
    refine V_isub F dX7_seen_263 ?_
    refine V_isR F is_X7_184 dX7_seen_264 (As := [_]) (c_X7_restOf _) rfl rfl rfl ?_
    rw [mod_nd (by omega)]
    refine V_istore F dX7_seen_267 (Nat.le_of_ble_eq_true rfl) ?_
    show V _ _ _ _ _ _ _ _ [_, _, _, _, _, _, _, _, _, _, _, _, _, _, _, _] _
    refine V_iload F dX7_seen_269 rfl ?_
    refine V_iload F dX7_seen_271 rfl ?_
    refine V_iload F dX7_seen_273 rfl ?_
    refine V_iload F dX7_seen_275 rfl ?_
    refine V_isub F dX7_seen_277 ?_
    refine V_imul F dX7_seen_278 ?_
    refine V_iadd F dX7_seen_279 ?_
    rw [swp_I2 (by omega) hv]
    refine V_istore F dX7_seen_280 (Nat.le_of_ble_eq_true rfl) ?_
    show V _ _ _ _ _ _ _ _ [_, _, _, _, _, _, _, _, _, _, _, _, _, _, _, _] _
    refine V_aload_n F dX7_seen_282 rfl ?_
    refine V_iload F dX7_seen_283 rfl ?_
    refine V_ivR F iv_X7_187 dX7_seen_285 (As := [_]) (c_X7_see O1 w1 hs) (by assumption) rfl rfl rfl rfl ?_
    have N0 : ∀ e, mset M1 (gB G + 830) e (gB G + 831) = _ := fun e => (mset_ne _ _ (by omega)).trans w2
    refine V_if_eq F 302 dX7_seen_288 (by decide) (fun c288 => ?_) (fun c288 => ?_)
    · rw [bI_0] at c288
      have : fhs x.1 (swp v j) = true := by unfold fhs; simpa using c288
      rw [hms, if_pos this] at kk
      refine V_iinc1 F dX7_seen_302 rfl ?_
      show V _ _ _ _ _ _ _ _ [_, _, _, _, _, _, _, _, _, _, _, _, _, _, _, _] _
      refine V_goto F 166 dX7_seen_305 (by decide) ?_
      exact V_drop 12 (V_drop 13 (V_drop 14 (V_drop 15 (kk _ ⟨mset_eq _ _ _, ⟨fo, N0 _, w3⟩, w4, fun z h1 h2 => (mset_ne _ _ h1).trans (w5 z h1 h2)⟩))))
    · rw [bI_n] at c288
      have : fhs x.1 (swp v j) = false := by unfold fhs; simpa using c288
      rw [hms, if_neg (by rw [this]; decide)] at kk
      refine V_aload_n F dX7_seen_291 rfl ?_
      refine V_get F fl_X7_58 dX7_seen_292 ((mset_ne _ _ (by omega)).trans O1) rfl ?_
      refine V_iload_n F dX7_seen_295 rfl ?_
      refine V_iload F dX7_seen_296 rfl ?_
      refine V_iastN F dX7_seen_298 (N0 _) x.2.length rfl (by omega) (by omega) ?_
      refine V_iinc1 F dX7_seen_299 rfl ?_
      show V _ _ _ _ _ _ _ _ [_, _, _, _, _, _, _, _, _, _, _, _, _, _, _, _] _
      refine V_iinc1 F dX7_seen_302 rfl ?_
      show V _ _ _ _ _ _ _ _ [_, _, _, _, _, _, _, _, _, _, _, _, _, _, _, _] _
      refine V_goto F 166 dX7_seen_305 (by decide) ?_
      refine V_drop 12 (V_drop 13 (V_drop 14 (V_drop 15 (kk _ ⟨(mset_ne _ _ (by omega)).trans (mset_eq _ _ _), ⟨va_up fo x.2.length (nI (swp v j)), mset_eq _ _ _, ?_, w3.congr (fun z hz => ?_)⟩, fun y hy => ?_, fun z h1 h2 => by rw [mset_ne _ _ h2, mset_ne _ _ h1]; exact w5 z h1 h2⟩))))
      · unfold va_up; rw [if_pos rfl]
      · unfold va_up; rw [if_neg (by omega)]
      · rcases List.mem_cons.mp hy with rfl | q
        · exact hs
        · exact w4 y q
  have st0 : ∀ (v : Nat) (m : Int32) (x : Sk) (M1 : Mem), v < 331776 → x.2.length < 331776 → WS G M M1 x → (∀ M2, WS G M M2 (ms1 v 0 x) → V G X 0 0 Q M2 none 166 [some (.ref (gB G + 816)), some (.int (nI k)), none, some (.int (nI (ms1 v 0 x).2.length)), none, some (.int m), some (.int (nI v)), some (.int (nI (dg v 3))), some (.int (nI (dg v 2))), some (.int (nI (dg v 1))), some (.int (nI (dg v 0))), some (.int (nI (0 + 1))), none, none, none, none] []) → V G X 0 0 Q M1 none 166 [some (.ref (gB G + 816)), some (.int (nI k)), none, some (.int (nI x.2.length)), none, some (.int m), some (.int (nI v)), some (.int (nI (dg v 3))), some (.int (nI (dg v 2))), some (.int (nI (dg v 1))), some (.int (nI (dg v 0))), some (.int (nI 0)), none, none, none, none] [] := by
    intro v m x M1 hv hx W kk
    refine V_iload F dX7_seen_166 rfl ?_
    refine V_iconst F dX7_seen_168 ki_4 ?_
    refine V_icmp_ge F 308 dX7_seen_169 (by decide) (fun c169 => absurd c169 (by decide)) (fun c169 => ?_)
    refine V_iload F dX7_seen_172 rfl ?_
    refine V_if_ne F 183 dX7_seen_174 (by decide) (fun c174 => absurd rfl c174) (fun c174 => ?_)
    refine V_sipush F dX7_seen_177 ks_13824 ?_
    refine V_goto F 207 dX7_seen_180 (by decide) ?_
    refine V_istore F dX7_seen_207 (Nat.le_of_ble_eq_true rfl) ?_
    show V _ _ _ _ _ _ _ _ [_, _, _, _, _, _, _, _, _, _, _, _, _, _, _, _] _
    refine V_iload F dX7_seen_209 rfl ?_
    refine V_if_ne F 219 dX7_seen_211 (by decide) (fun c211 => absurd rfl c211) (fun c211 => ?_)
    refine V_iload F dX7_seen_214 rfl ?_
    refine V_goto F 243 dX7_seen_216 (by decide) ?_
    refine V_istore F dX7_seen_243 (Nat.le_of_ble_eq_true rfl) ?_
    show V _ _ _ _ _ _ _ _ [_, _, _, _, _, _, _, _, _, _, _, _, _, _, _, _] _
    exact late v 0 3 m x M1 hv rfl hx W kk
  have st1 : ∀ (v : Nat) (m : Int32) (x : Sk) (M1 : Mem), v < 331776 → x.2.length < 331776 → WS G M M1 x → (∀ M2, WS G M M2 (ms1 v 1 x) → V G X 0 0 Q M2 none 166 [some (.ref (gB G + 816)), some (.int (nI k)), none, some (.int (nI (ms1 v 1 x).2.length)), none, some (.int m), some (.int (nI v)), some (.int (nI (dg v 3))), some (.int (nI (dg v 2))), some (.int (nI (dg v 1))), some (.int (nI (dg v 0))), some (.int (nI (1 + 1))), none, none, none, none] []) → V G X 0 0 Q M1 none 166 [some (.ref (gB G + 816)), some (.int (nI k)), none, some (.int (nI x.2.length)), none, some (.int m), some (.int (nI v)), some (.int (nI (dg v 3))), some (.int (nI (dg v 2))), some (.int (nI (dg v 1))), some (.int (nI (dg v 0))), some (.int (nI 1)), none, none, none, none] [] := by
    intro v m x M1 hv hx W kk
    refine V_iload F dX7_seen_166 rfl ?_
    refine V_iconst F dX7_seen_168 ki_4 ?_
    refine V_icmp_ge F 308 dX7_seen_169 (by decide) (fun c169 => absurd c169 (by decide)) (fun c169 => ?_)
    refine V_iload F dX7_seen_172 rfl ?_
    refine V_if_ne F 183 dX7_seen_174 (by decide) (fun c174 => ?_) (fun c174 => absurd c174 (by decide))
    refine V_iload F dX7_seen_183 rfl ?_
    refine V_iconst F dX7_seen_185 ki_1 ?_
    refine V_icmp_ne F 195 dX7_seen_186 (by decide) (fun c186 => absurd rfl c186) (fun c186 => ?_)
    refine V_sipush F dX7_seen_189 ks_576 ?_
    refine V_goto F 207 dX7_seen_192 (by decide) ?_
    refine V_istore F dX7_seen_207 (Nat.le_of_ble_eq_true rfl) ?_
    show V _ _ _ _ _ _ _ _ [_, _, _, _, _, _, _, _, _, _, _, _, _, _, _, _] _
    refine V_iload F dX7_seen_209 rfl ?_
    refine V_if_ne F 219 dX7_seen_211 (by decide) (fun c211 => ?_) (fun c211 => absurd c211 (by decide))
    refine V_iload F dX7_seen_219 rfl ?_
    refine V_iconst F dX7_seen_221 ki_1 ?_
    refine V_icmp_ne F 230 dX7_seen_222 (by decide) (fun c222 => absurd rfl c222) (fun c222 => ?_)
    refine V_iload F dX7_seen_225 rfl ?_
    refine V_goto F 243 dX7_seen_227 (by decide) ?_
    refine V_istore F dX7_seen_243 (Nat.le_of_ble_eq_true rfl) ?_
    show V _ _ _ _ _ _ _ _ [_, _, _, _, _, _, _, _, _, _, _, _, _, _, _, _] _
    exact late v 1 2 m x M1 hv rfl hx W kk
  have st2 : ∀ (v : Nat) (m : Int32) (x : Sk) (M1 : Mem), v < 331776 → x.2.length < 331776 → WS G M M1 x → (∀ M2, WS G M M2 (ms1 v 2 x) → V G X 0 0 Q M2 none 166 [some (.ref (gB G + 816)), some (.int (nI k)), none, some (.int (nI (ms1 v 2 x).2.length)), none, some (.int m), some (.int (nI v)), some (.int (nI (dg v 3))), some (.int (nI (dg v 2))), some (.int (nI (dg v 1))), some (.int (nI (dg v 0))), some (.int (nI (2 + 1))), none, none, none, none] []) → V G X 0 0 Q M1 none 166 [some (.ref (gB G + 816)), some (.int (nI k)), none, some (.int (nI x.2.length)), none, some (.int m), some (.int (nI v)), some (.int (nI (dg v 3))), some (.int (nI (dg v 2))), some (.int (nI (dg v 1))), some (.int (nI (dg v 0))), some (.int (nI 2)), none, none, none, none] [] := by
    intro v m x M1 hv hx W kk
    refine V_iload F dX7_seen_166 rfl ?_
    refine V_iconst F dX7_seen_168 ki_4 ?_
    refine V_icmp_ge F 308 dX7_seen_169 (by decide) (fun c169 => absurd c169 (by decide)) (fun c169 => ?_)
    refine V_iload F dX7_seen_172 rfl ?_
    refine V_if_ne F 183 dX7_seen_174 (by decide) (fun c174 => ?_) (fun c174 => absurd c174 (by decide))
    refine V_iload F dX7_seen_183 rfl ?_
    refine V_iconst F dX7_seen_185 ki_1 ?_
    refine V_icmp_ne F 195 dX7_seen_186 (by decide) (fun c186 => ?_) (fun c186 => absurd c186 (by decide))
    refine V_iload F dX7_seen_195 rfl ?_
    refine V_iconst F dX7_seen_197 ki_2 ?_
    refine V_icmp_ne F 206 dX7_seen_198 (by decide) (fun c198 => absurd rfl c198) (fun c198 => ?_)
    refine V_bipush F dX7_seen_201 kb_24 ?_
    refine V_goto F 207 dX7_seen_203 (by decide) ?_
    refine V_istore F dX7_seen_207 (Nat.le_of_ble_eq_true rfl) ?_
    show V _ _ _ _ _ _ _ _ [_, _, _, _, _, _, _, _, _, _, _, _, _, _, _, _] _
    refine V_iload F dX7_seen_209 rfl ?_
    refine V_if_ne F 219 dX7_seen_211 (by decide) (fun c211 => ?_) (fun c211 => absurd c211 (by decide))
    refine V_iload F dX7_seen_219 rfl ?_
    refine V_iconst F dX7_seen_221 ki_1 ?_
    refine V_icmp_ne F 230 dX7_seen_222 (by decide) (fun c222 => ?_) (fun c222 => absurd c222 (by decide))
    refine V_iload F dX7_seen_230 rfl ?_
    refine V_iconst F dX7_seen_232 ki_2 ?_
    refine V_icmp_ne F 241 dX7_seen_233 (by decide) (fun c233 => absurd rfl c233) (fun c233 => ?_)
    refine V_iload F dX7_seen_236 rfl ?_
    refine V_goto F 243 dX7_seen_238 (by decide) ?_
    refine V_istore F dX7_seen_243 (Nat.le_of_ble_eq_true rfl) ?_
    show V _ _ _ _ _ _ _ _ [_, _, _, _, _, _, _, _, _, _, _, _, _, _, _, _] _
    exact late v 2 1 m x M1 hv rfl hx W kk
  have st3 : ∀ (v : Nat) (m : Int32) (x : Sk) (M1 : Mem), v < 331776 → x.2.length < 331776 → WS G M M1 x → (∀ M2, WS G M M2 (ms1 v 3 x) → V G X 0 0 Q M2 none 166 [some (.ref (gB G + 816)), some (.int (nI k)), none, some (.int (nI (ms1 v 3 x).2.length)), none, some (.int m), some (.int (nI v)), some (.int (nI (dg v 3))), some (.int (nI (dg v 2))), some (.int (nI (dg v 1))), some (.int (nI (dg v 0))), some (.int (nI (3 + 1))), none, none, none, none] []) → V G X 0 0 Q M1 none 166 [some (.ref (gB G + 816)), some (.int (nI k)), none, some (.int (nI x.2.length)), none, some (.int m), some (.int (nI v)), some (.int (nI (dg v 3))), some (.int (nI (dg v 2))), some (.int (nI (dg v 1))), some (.int (nI (dg v 0))), some (.int (nI 3)), none, none, none, none] [] := by
    intro v m x M1 hv hx W kk
    refine V_iload F dX7_seen_166 rfl ?_
    refine V_iconst F dX7_seen_168 ki_4 ?_
    refine V_icmp_ge F 308 dX7_seen_169 (by decide) (fun c169 => absurd c169 (by decide)) (fun c169 => ?_)
    refine V_iload F dX7_seen_172 rfl ?_
    refine V_if_ne F 183 dX7_seen_174 (by decide) (fun c174 => ?_) (fun c174 => absurd c174 (by decide))
    refine V_iload F dX7_seen_183 rfl ?_
    refine V_iconst F dX7_seen_185 ki_1 ?_
    refine V_icmp_ne F 195 dX7_seen_186 (by decide) (fun c186 => ?_) (fun c186 => absurd c186 (by decide))
    refine V_iload F dX7_seen_195 rfl ?_
    refine V_iconst F dX7_seen_197 ki_2 ?_
    refine V_icmp_ne F 206 dX7_seen_198 (by decide) (fun c198 => ?_) (fun c198 => absurd c198 (by decide))
    refine V_iconst F dX7_seen_206 ki_1 ?_
    refine V_istore F dX7_seen_207 (Nat.le_of_ble_eq_true rfl) ?_
    show V _ _ _ _ _ _ _ _ [_, _, _, _, _, _, _, _, _, _, _, _, _, _, _, _] _
    refine V_iload F dX7_seen_209 rfl ?_
    refine V_if_ne F 219 dX7_seen_211 (by decide) (fun c211 => ?_) (fun c211 => absurd c211 (by decide))
    refine V_iload F dX7_seen_219 rfl ?_
    refine V_iconst F dX7_seen_221 ki_1 ?_
    refine V_icmp_ne F 230 dX7_seen_222 (by decide) (fun c222 => ?_) (fun c222 => absurd c222 (by decide))
    refine V_iload F dX7_seen_230 rfl ?_
    refine V_iconst F dX7_seen_232 ki_2 ?_
    refine V_icmp_ne F 241 dX7_seen_233 (by decide) (fun c233 => ?_) (fun c233 => absurd c233 (by decide))
    refine V_iload F dX7_seen_241 rfl ?_
    refine V_istore F dX7_seen_243 (Nat.le_of_ble_eq_true rfl) ?_
    show V _ _ _ _ _ _ _ _ [_, _, _, _, _, _, _, _, _, _, _, _, _, _, _, _] _
    exact late v 3 0 m x M1 hv rfl hx W kk
  have loop : ∀ (mm : Nat) (m : Int32) (x : Sk) (M1 : Mem), mseen mm x m = some res → WS G M M1 x → x.2.length ≤ 331776 → V G X 0 0 Q M1 none 88 [some (.ref (gB G + 816)), some (.int (nI k)), none, some (.int (nI x.2.length)), none, some (.int m), none, none, none, none, none, none, none, none, none, none] [] := by
    intro mm
    induction mm with
    | zero =>
      intro m x M1 hm W hx
      cases hst : x.2 with
      | nil =>
        have e := mseen_e (k := 0) (m := m) hst
        rw [hm] at e
        have e := Option.some.inj e
        refine V_iload_n F dX7_seen_88 rfl ?_
        refine V_if_le F 311 dX7_seen_89 (by decide) (fun c89 => ?_) (fun c89 => absurd (by decide) c89)
        subst hQ e
        obtain ⟨w1, ⟨fo, w2, -⟩, -, w5⟩ := W
        refine V_iload F dX7_seen_311 rfl ?_
        exact V_iret F rfl dX7_seen_313 rfl ⟨rfl, hI.seenM w1 w2 w5, fun z hz => w5 z (by omega) (by omega), rfl⟩
      | cons v t =>
        obtain ⟨j, hj, -⟩ := mseen_c hm hst
        omega
    | succ mm ih =>
      intro m x M1 hm W hx
      cases hst : x.2 with
      | nil =>
        have e := mseen_e (k := mm + 1) (m := m) hst
        rw [hm] at e
        have e := Option.some.inj e
        refine V_iload_n F dX7_seen_88 rfl ?_
        refine V_if_le F 311 dX7_seen_89 (by decide) (fun c89 => ?_) (fun c89 => absurd (by decide) c89)
        subst hQ e
        obtain ⟨w1, ⟨fo, w2, -⟩, -, w5⟩ := W
        refine V_iload F dX7_seen_311 rfl ?_
        exact V_iret F rfl dX7_seen_313 rfl ⟨rfl, hI.seenM w1 w2 w5, fun z hz => w5 z (by omega) (by omega), rfl⟩
      | cons v t =>
        obtain ⟨j, hj, hlen, hm2⟩ := mseen_c hm hst
        have hj : mm = j := by omega
        subst hj
        obtain ⟨w1, ⟨fo, w2, w3⟩, w4, w5⟩ := W
        rw [hst] at w3 w4 hx
        have hv := w4 v (List.mem_cons_self ..)
        have O1 := (w5 (gB G + 816) (by omega) (by omega)).trans hO
        rw [List.length_cons] at hx ⊢
        refine V_iload_n F dX7_seen_88 rfl ?_
        refine V_if_le F 311 dX7_seen_89 (by decide) (fun c89 => absurd c89 (nI_nle (by omega) (by omega))) (fun c89 => ?_)
        refine V_iincm F dX7_seen_92 rfl ?_
        show V _ _ _ _ _ _ _ _ [_, _, _, _, _, _, _, _, _, _, _, _, _, _, _, _] _
        refine V_aload_n F dX7_seen_95 rfl ?_
        refine V_get F fl_X7_58 dX7_seen_96 O1 rfl ?_
        refine V_iload_n F dX7_seen_99 rfl ?_
        refine V_ialdN F dX7_seen_100 w2 t.length rfl (by omega) (by omega) ?_
        rw [w3.1]
        refine V_istore F dX7_seen_101 (Nat.le_of_ble_eq_true rfl) ?_
        show V _ _ _ _ _ _ _ _ [_, _, _, _, _, _, _, _, _, _, _, _, _, _, _, _] _
        refine V_iload F dX7_seen_103 rfl ?_
        refine V_sipush F dX7_seen_105 ks_13824 ?_
        refine V_idiv F dX7_seen_108 (by decide) ?_
        rw [pk_div (by omega) (by omega) (by omega), dg3 hv]
        refine V_istore F dX7_seen_109 (Nat.le_of_ble_eq_true rfl) ?_
        show V _ _ _ _ _ _ _ _ [_, _, _, _, _, _, _, _, _, _, _, _, _, _, _, _] _
        refine V_iload F dX7_seen_111 rfl ?_
        refine V_sipush F dX7_seen_113 ks_576 ?_
        refine V_idiv F dX7_seen_116 (by decide) ?_
        rw [pk_div (by omega) (by omega) (by omega)]
        refine V_bipush F dX7_seen_117 kb_24 ?_
        refine V_irem F dX7_seen_119 (by decide) ?_
        rw [pk_rem (Nat.lt_of_le_of_lt (Nat.div_le_self _ _) (by omega)) (by omega) (by omega)]
        refine V_istore F dX7_seen_120 (Nat.le_of_ble_eq_true rfl) ?_
        show V _ _ _ _ _ _ _ _ [_, _, _, _, _, _, _, _, _, _, _, _, _, _, _, _] _
        refine V_iload F dX7_seen_122 rfl ?_
        refine V_bipush F dX7_seen_124 kb_24 ?_
        refine V_idiv F dX7_seen_126 (by decide) ?_
        rw [pk_div (by omega) (by omega) (by omega)]
        refine V_bipush F dX7_seen_127 kb_24 ?_
        refine V_irem F dX7_seen_129 (by decide) ?_
        rw [pk_rem (Nat.lt_of_le_of_lt (Nat.div_le_self _ _) (by omega)) (by omega) (by omega)]
        refine V_istore F dX7_seen_130 (Nat.le_of_ble_eq_true rfl) ?_
        show V _ _ _ _ _ _ _ _ [_, _, _, _, _, _, _, _, _, _, _, _, _, _, _, _] _
        refine V_iload F dX7_seen_132 rfl ?_
        refine V_bipush F dX7_seen_134 kb_24 ?_
        refine V_irem F dX7_seen_136 (by decide) ?_
        rw [pk_rem (by omega) (by omega) (by omega)]
        refine V_istore F dX7_seen_137 (Nat.le_of_ble_eq_true rfl) ?_
        show V _ _ _ _ _ _ _ _ [_, _, _, _, _, _, _, _, _, _, _, _, _, _, _, _] _
        rw [show v / 576 % 24 = dg v 2 from rfl, show v / 24 % 24 = dg v 1 from rfl, show v % 24 = dg v 0 by show v % 24 = v / 1 % 24; omega]
        refine V_iload F dX7_seen_139 rfl ?_
        refine V_iconst F dX7_seen_141 ki_1 ?_
        refine V_iload F dX7_seen_142 rfl ?_
        refine V_ishl F dX7_seen_144 ?_
        refine V_iconst F dX7_seen_145 ki_1 ?_
        refine V_iload F dX7_seen_146 rfl ?_
        refine V_ishl F dX7_seen_148 ?_
        refine V_ior F dX7_seen_149 ?_
        refine V_iconst F dX7_seen_150 ki_1 ?_
        refine V_iload F dX7_seen_151 rfl ?_
        refine V_ishl F dX7_seen_153 ?_
        refine V_ior F dX7_seen_154 ?_
        refine V_iconst F dX7_seen_155 ki_1 ?_
        refine V_iload F dX7_seen_156 rfl ?_
        refine V_ishl F dX7_seen_158 ?_
        refine V_ior F dX7_seen_159 ?_
        refine V_ior F dX7_seen_160 ?_
        refine V_istore F dX7_seen_161 (Nat.le_of_ble_eq_true rfl) ?_
        show V _ _ _ _ _ _ _ _ [_, _, _, _, _, _, _, _, _, _, _, _, _, _, _, _] _
        refine V_iconst F dX7_seen_163 ki_0 ?_
        refine V_istore F dX7_seen_164 (Nat.le_of_ble_eq_true rfl) ?_
        show V _ _ _ _ _ _ _ _ [_, _, _, _, _, _, _, _, _, _, _, _, _, _, _, _] _
        have l0 := ms1_len v 0 (x.1, t)
        have l1 := ms1_len v 1 (ms1 v 0 (x.1, t))
        have l2 := ms1_len v 2 (ms1 v 1 (ms1 v 0 (x.1, t)))
        have l3 := ms1_len v 3 (ms1 v 2 (ms1 v 1 (ms1 v 0 (x.1, t))))
        have l00 : (x.1, t).2.length = t.length := rfl
        show V G X 0 0 Q M1 none 166 [some (.ref (gB G + 816)), some (.int (nI k)), none, some (.int (nI t.length)), none, some (.int (orM m v)), some (.int (nI v)), some (.int (nI (dg v 3))), some (.int (nI (dg v 2))), some (.int (nI (dg v 1))), some (.int (nI (dg v 0))), some (.int (nI 0)), none, none, none, none] []
        refine st0 v _ (x.1, t) M1 hv (by omega) ⟨w1, ⟨fo, w2, w3.2⟩, fun y hy => w4 y (List.mem_cons_of_mem _ hy), w5⟩ (fun M2 W2 => st1 v _ _ M2 hv (by omega) W2 (fun M3 W3 => st2 v _ _ M3 hv (by omega) W3 (fun M4 W4 => st3 v _ _ M4 hv (by omega) W4 (fun M5 W5 => ?_))))
        refine V_iload F dX7_seen_166 rfl ?_
        refine V_iconst F dX7_seen_168 ki_4 ?_
        refine V_icmp_ge F 308 dX7_seen_169 (by decide) (fun c169 => ?_) (fun c169 => absurd (by decide) c169)
        refine V_goto F 88 dX7_seen_308 (by decide) ?_
        refine V_drop 6 (V_drop 7 (V_drop 8 (V_drop 9 (V_drop 10 (V_drop 11 (ih _ _ M5 hm2 W5 ?_))))))
        omega
  -- nothing seen
  have zero : ∀ t z : Nat, t + z = 10368 → ∀ f : Nat → Int32, (∀ j, j < z → f j = nI 0) → V G X 0 0 Q (mset M (gB G + 830) (eI (gT G) 10368 f)) none 12 [some (.ref (gB G + 816)), some (.int (nI k)), some (.int (nI z)), none, none, none, none, none, none, none, none, none, none, none, none, none] [] := by
    intro t
    induction t with
    | zero =>
      intro z hz f hf
      have hz : z = 10368 := by omega
      subst hz
      refine V_iload_n F dX7_seen_12 rfl ?_
      refine V_sipush F dX7_seen_13 ks_10368 ?_
      refine V_icmp_ge F 32 dX7_seen_16 (by decide) (fun c16 => ?_) (fun c16 => absurd (nI_le (Nat.le_refl _) (by omega)) c16)
      refine V_mem (fun H hm => mem_I (g := fun _ => nI 0) hf hm) ?_
      have O1 := (mset_ne M (b := gB G + 816) (eI (gT G) 10368 (fun _ => nI 0)) (show gB G + 816 ≠ gB G + 830 by omega)).trans hO
      have A1 := (mset_ne M (b := gB G + 821) (eI (gT G) 10368 (fun _ => nI 0)) (show gB G + 821 ≠ gB G + 830 by omega)).trans a5
      have step : ∀ j : Nat, j < 4 → V G X 0 0 Q (mset M (gB G + 830) (eI (gT G) 10368 (fun _ => nI 0))) none 36 [some (.ref (gB G + 816)), some (.int (nI k)), some (.int (nI (codM (sQc s k) (j + 1)))), some (.int (nI (j + 1))), none, none, none, none, none, none, none, none, none, none, none, none] [] → V G X 0 0 Q (mset M (gB G + 830) (eI (gT G) 10368 (fun _ => nI 0))) none 36 [some (.ref (gB G + 816)), some (.int (nI k)), some (.int (nI (codM (sQc s k) j))), some (.int (nI j)), none, none, none, none, none, none, none, none, none, none, none, none] [] := by
        intro j hj kk
        refine V_iload_n F dX7_seen_36 rfl ?_
        refine V_iconst F dX7_seen_37 ki_4 ?_
        refine V_icmp_ge F 69 dX7_seen_38 (by decide) (fun c38 => absurd c38 (nI_ge hj (by omega))) (fun c38 => ?_)
        refine V_bipush F dX7_seen_41 kb_24 ?_
        refine V_iload_n F dX7_seen_43 rfl ?_
        refine V_imul F dX7_seen_44 ?_
        refine V_aload_n F dX7_seen_45 rfl ?_
        refine V_get F fl_X7_23 dX7_seen_46 O1 rfl ?_
        refine V_bipush F dX7_seen_49 kb_12 ?_
        refine V_iload_n F dX7_seen_51 rfl ?_
        refine V_imul F dX7_seen_52 ?_
        refine V_iconst F dX7_seen_53 ki_3 ?_
        refine V_iload_n F dX7_seen_54 rfl ?_
        refine V_imul F dX7_seen_55 ?_
        refine V_iadd F dX7_seen_56 ?_
        rw [pk_mul, pk_mul, pk_mul, nI_add]
        refine V_ialdN F dX7_seen_57 A1 (12 * k + 3 * j) rfl (by omega) (by omega) ?_
        rw [show f5 (12 * k + 3 * j) = (sQc s k j 0).toInt32 from b5 k j 0 hk hj (by omega)]
        refine V_isR F is_X7_184 dX7_seen_58 (As := [_]) (c_X7_restOf _) rfl rfl rfl ?_
        rw [rsI_q hin hj]
        refine V_iadd F dX7_seen_61 ?_
        rw [nI_add]
        refine V_istore_n F dX7_seen_62 (Nat.le_of_ble_eq_true rfl) ?_
        show V _ _ _ _ _ _ _ _ [_, _, _, _, _, _, _, _, _, _, _, _, _, _, _, _] _
        refine V_iinc1 F dX7_seen_63 rfl ?_
        show V _ _ _ _ _ _ _ _ [_, _, _, _, _, _, _, _, _, _, _, _, _, _, _, _] _
        refine V_goto F 36 dX7_seen_66 (by decide) ?_
        exact kk
      refine V_iconst F dX7_seen_32 ki_0 ?_
      refine V_istore_n F dX7_seen_33 (Nat.le_of_ble_eq_true rfl) ?_
      show V _ _ _ _ _ _ _ _ [_, _, _, _, _, _, _, _, _, _, _, _, _, _, _, _] _
      refine V_iconst F dX7_seen_34 ki_0 ?_
      refine V_istore_n F dX7_seen_35 (Nat.le_of_ble_eq_true rfl) ?_
      show V _ _ _ _ _ _ _ _ [_, _, _, _, _, _, _, _, _, _, _, _, _, _, _, _] _
      refine step 0 (by omega) (step 1 (by omega) (step 2 (by omega) (step 3 (by omega) ?_)))
      refine V_iload_n F dX7_seen_36 rfl ?_
      refine V_iconst F dX7_seen_37 ki_4 ?_
      refine V_icmp_ge F 69 dX7_seen_38 (by decide) (fun c38 => ?_) (fun c38 => absurd (by decide) c38)
      refine V_iconst F dX7_seen_69 ki_1 ?_
      refine V_istore_n F dX7_seen_70 (Nat.le_of_ble_eq_true rfl) ?_
      show V _ _ _ _ _ _ _ _ [_, _, _, _, _, _, _, _, _, _, _, _, _, _, _, _] _
      refine V_aload_n F dX7_seen_71 rfl ?_
      refine V_get F fl_X7_58 dX7_seen_72 O1 rfl ?_
      refine V_iconst F dX7_seen_75 ki_0 ?_
      refine V_iload_n F dX7_seen_76 rfl ?_
      refine V_iastN F dX7_seen_77 ((mset_ne _ _ (by omega)).trans a9) 0 rfl (by omega) (by omega) ?_
      refine V_aload_n F dX7_seen_78 rfl ?_
      refine V_iload_n F dX7_seen_79 rfl ?_
      refine V_ivR F iv_X7_187 dX7_seen_80 (As := [_]) (c_X7_see ((mset_ne _ _ (by omega)).trans O1) ((mset_ne _ _ (by omega)).trans (mset_eq _ _ _)) cl) ((mset_ne _ _ (by omega)).trans O1) rfl rfl rfl rfl ?_
      refine V_istore F dX7_seen_83 (Nat.le_of_ble_eq_true rfl) ?_
      show V _ _ _ _ _ _ _ _ [_, _, _, _, _, _, _, _, _, _, _, _, _, _, _, _] _
      refine V_iconst F dX7_seen_85 ki_0 ?_
      refine V_istore F dX7_seen_86 (Nat.le_of_ble_eq_true rfl) ?_
      show V _ _ _ _ _ _ _ _ [_, _, _, _, _, _, _, _, _, _, _, _, _, _, _, _] _
      refine V_drop 2 (V_drop 4 (loop mm (nI 0) _ _ hm ⟨mset_eq _ _ _, ⟨va_up f9 0 (nI (codM (sQc s k) 4)), ?_, ?_, trivial⟩, fun y hy => ?_, fun z h1 h2 => ?_⟩ (by show 1 ≤ 331776; omega)))
      · rw [mset_ne _ _ (by omega), mset_eq]
      · exact if_pos rfl
      · rw [List.mem_singleton.mp hy]; exact cl
      · rw [mset_ne _ _ h1, mset_ne _ _ h2, mset_ne _ _ h1]
    | succ t ih =>
      intro z hz f hf
      have O1 := (mset_ne M (b := gB G + 816) (eI (gT G) 10368 f) (show gB G + 816 ≠ gB G + 830 by omega)).trans hO
      refine V_iload_n F dX7_seen_12 rfl ?_
      refine V_sipush F dX7_seen_13 ks_10368 ?_
      refine V_icmp_ge F 32 dX7_seen_16 (by decide) (fun c16 => absurd c16 (nI_ge (by omega) (by omega))) (fun c16 => ?_)
      refine V_aload_n F dX7_seen_19 rfl ?_
      refine V_get F fl_X7_54 dX7_seen_20 O1 rfl ?_
      refine V_iload_n F dX7_seen_23 rfl ?_
      refine V_iconst F dX7_seen_24 ki_0 ?_
      refine V_iastN F dX7_seen_25 (mset_eq _ _ _) z rfl (by omega) (by omega) ?_
      rw [mset_mset]
      refine V_iinc1 F dX7_seen_26 rfl ?_
      show V _ _ _ _ _ _ _ _ [_, _, _, _, _, _, _, _, _, _, _, _, _, _, _, _] _
      refine V_goto F 12 dX7_seen_29 (by decide) ?_
      refine ih (z + 1) (by omega) _ (fun j hj => ?_)
      unfold va_up
      by_cases q1 : j = z
      · rw [if_pos q1]
      · rw [if_neg q1]; exact hf j (by omega)
  refine V_iconst F dX7_seen_10 ki_0 ?_
  refine V_istore_n F dX7_seen_11 (Nat.le_of_ble_eq_true rfl) ?_
  show V _ _ _ _ _ _ _ _ [_, _, _, _, _, _, _, _, _, _, _, _, _, _, _, _] _
  have := zero 10368 0 rfl f8 (fun j hj => by omega)
  rw [mset_self a8] at this
  exact this
end MOD17
