def insb (f : Nat → Int64) (b : Int64) : Nat → Nat → Int64
  | 0 => va_up f 0 b
  | k + 1 => if b < f k then insb (va_up f (k + 1) (f k)) b k else va_up f (k + 1) b
def lay (c : Qd) (f : Nat → Int64) : Nat → Nat → Int64
  | 0 => f
  | i + 1 => insb (lay c f i) (c i 0) i
def cnt (f : Nat → Int64) (x : Int64) : Nat → Nat
  | 0 => 0
  | k + 1 => cnt f x k + if f k = x then 1 else 0
theorem cnt_congr {f g : Nat → Int64} {x : Int64} : ∀ k, (∀ z, z < k → f z = g z) → cnt f x k = cnt g x k
  | 0, _ => rfl
  | k + 1, h => by
    unfold cnt
    rw [cnt_congr k (fun z hz => h z (by omega)), h k (by omega)]
theorem insb_up (b : Int64) : ∀ (k : Nat) (f : Nat → Int64) (z : Nat), k < z → insb f b k z = f z
  | 0, f, z, h => by unfold insb va_up; rw [if_neg (by omega)]
  | k + 1, f, z, h => by
    unfold insb
    split
    · rw [insb_up b k _ z (by omega)]; unfold va_up; rw [if_neg (by omega)]
    · unfold va_up; rw [if_neg (by omega)]
theorem insb_cnt (b x : Int64) : ∀ (k : Nat) (f : Nat → Int64), cnt (insb f b k) x (k + 1) = cnt f x k + if b = x then 1 else 0
  | 0, f => by unfold insb cnt cnt va_up; rw [if_pos rfl]
  | k + 1, f => by
    unfold insb
    split
    · rw [show cnt (insb (va_up f (k + 1) (f k)) b k) x (k + 1 + 1) = cnt (insb (va_up f (k + 1) (f k)) b k) x (k + 1) + if insb (va_up f (k + 1) (f k)) b k (k + 1) = x then 1 else 0 from rfl, insb_cnt b x k, insb_up b k _ _ (by omega), show va_up f (k + 1) (f k) (k + 1) = f k by unfold va_up; rw [if_pos rfl], show cnt (va_up f (k + 1) (f k)) x k = cnt f x k from cnt_congr k (fun z hz => by unfold va_up; rw [if_neg (by omega)]), show cnt f x (k + 1) = cnt f x k + if f k = x then 1 else 0 from rfl]
      omega
    · rw [show cnt (va_up f (k + 1) b) x (k + 1 + 1) = cnt (va_up f (k + 1) b) x (k + 1) + if va_up f (k + 1) b (k + 1) = x then 1 else 0 from rfl, show va_up f (k + 1) b (k + 1) = b by unfold va_up; rw [if_pos rfl], show cnt (va_up f (k + 1) b) x (k + 1) = cnt f x (k + 1) from cnt_congr _ (fun z hz => by unfold va_up; rw [if_neg (by omega)])]
theorem insb_of (b : Int64) : ∀ (k : Nat) (f : Nat → Int64) (i : Nat), i < k + 1 → insb f b k i = b ∨ ∃ j, j < k ∧ insb f b k i = f j
  | 0, f, i, h => by
    have : i = 0 := by omega
    subst this
    left; unfold insb va_up; rw [if_pos rfl]
  | k + 1, f, i, h => by
    unfold insb
    split
    · by_cases q : i = k + 1
      · subst q
        right
        refine ⟨k, by omega, ?_⟩
        rw [insb_up b k _ _ (by omega)]; unfold va_up; rw [if_pos rfl]
      · rcases insb_of b k (va_up f (k + 1) (f k)) i (by omega) with e | ⟨j, hj, e⟩
        · exact Or.inl e
        · right
          refine ⟨j, by omega, e.trans ?_⟩
          unfold va_up; rw [if_neg (by omega)]
    · by_cases q : i = k + 1
      · left; unfold va_up; rw [if_pos q]
      · right; refine ⟨i, by omega, ?_⟩; unfold va_up; rw [if_neg q]
def srtd (f : Nat → Int64) (k : Nat) : Prop := ∀ i j, i ≤ j → j < k → f i ≤ f j
theorem insb_srt (b : Int64) : ∀ (k : Nat) (f : Nat → Int64), srtd f k → srtd (insb f b k) (k + 1)
  | 0, f, _ => fun i j hij hj => by
    have : i = j := by omega
    rw [this]; exact Int64.le_refl _
  | k + 1, f, h => by
    unfold insb
    split
    · next hb =>
      intro i j hij hj
      have hs : srtd (va_up f (k + 1) (f k)) k := fun i j hij hj => by
        unfold va_up; rw [if_neg (by omega), if_neg (by omega)]; exact h i j hij (by omega)
      by_cases q : j = k + 1
      · subst q
        rw [insb_up b k _ (k + 1) (by omega), show va_up f (k + 1) (f k) (k + 1) = f k by unfold va_up; rw [if_pos rfl]]
        by_cases q2 : i = k + 1
        · subst q2
          rw [insb_up b k _ (k + 1) (by omega), show va_up f (k + 1) (f k) (k + 1) = f k by unfold va_up; rw [if_pos rfl]]
          exact Int64.le_refl _
        · rcases insb_of b k (va_up f (k + 1) (f k)) i (by omega) with e | ⟨j, hj, e⟩
          · rw [e]; exact Int64.le_of_lt hb
          · rw [e]; unfold va_up; rw [if_neg (by omega)]; exact h j k (by omega) (by omega)
      · exact insb_srt b k _ hs i j hij (by omega)
    · next hb =>
      have hb := Int64.not_lt.mp hb
      intro i j hij hj
      unfold va_up
      by_cases q : j = k + 1
      · rw [if_pos q]
        by_cases q2 : i = k + 1
        · rw [if_pos q2]; exact Int64.le_refl _
        · rw [if_neg q2]; exact Int64.le_trans (h i k (by omega) (by omega)) hb
      · rw [if_neg q, if_neg (by omega)]; exact h i j hij (by omega)
theorem lay_cnt (c : Qd) (f : Nat → Int64) (x : Int64) : ∀ i, cnt (lay c f i) x i = tms c x i
  | 0 => rfl
  | i + 1 => by
    unfold lay tms
    rw [insb_cnt, lay_cnt c f x i]
theorem lay_srt (c : Qd) (f : Nat → Int64) : ∀ i, srtd (lay c f i) i
  | 0 => fun i j _ h => by omega
  | i + 1 => insb_srt _ i _ (lay_srt c f i)
theorem cnt_pos {f : Nat → Int64} {x : Int64} : ∀ k, 0 < cnt f x k → ∃ j, j < k ∧ f j = x
  | 0, h => by unfold cnt at h; omega
  | k + 1, h => by
    unfold cnt at h
    by_cases q : f k = x
    · exact ⟨k, by omega, q⟩
    · rw [if_neg q] at h
      obtain ⟨j, h1, h2⟩ := cnt_pos k (by omega)
      exact ⟨j, by omega, h2⟩
theorem srt_eq {f g : Nat → Int64} : ∀ k, srtd f k → srtd g k → (∀ x, cnt f x k = cnt g x k) → ∀ j, j < k → f j = g j
  | 0, _, _, _ => fun j h => by omega
  | k + 1, hf, hg, hc => by
    have top : f k = g k := by
      have h1 : 0 < cnt g (f k) (k + 1) := by rw [← hc]; unfold cnt; rw [if_pos rfl]; omega
      have h2 : 0 < cnt f (g k) (k + 1) := by rw [hc]; unfold cnt; rw [if_pos rfl]; omega
      obtain ⟨i, hi, ei⟩ := cnt_pos _ h1
      obtain ⟨j, hj, ej⟩ := cnt_pos _ h2
      have a1 := hg i k (by omega) (by omega)
      have a2 := hf j k (by omega) (by omega)
      rw [ei] at a1
      rw [ej] at a2
      exact Int64.le_antisymm a1 a2
    have low := srt_eq k (fun i j h1 h2 => hf i j h1 (by omega)) (fun i j h1 h2 => hg i j h1 (by omega)) (fun x => by
      have := hc x
      unfold cnt at this
      rw [top] at this
      omega)
    intro j hj
    by_cases q : j = k
    · rw [q]; exact top
    · exact low j (by omega)
def lst4 (c : Qd) : List Int64 := [c 3 0, c 2 0, c 1 0, c 0 0]
theorem tms_l (c : Qd) (x : Int64) : tms c x 4 = List.count x (lst4 c) := by
  simp only [tms, lst4, List.count_cons, List.count_nil, beq_iff_eq]
theorem perm_of : ∀ (l1 l2 : List Int64), l1.length = l2.length → (∀ a, a ∈ l1 → l1.count a ≤ l2.count a) → l1.Perm l2
  | [], l2, h, _ => by
    have : l2 = [] := List.eq_nil_of_length_eq_zero h.symm
    rw [this]
  | a :: t, l2, h, hc => by
    have ha : a ∈ l2 := by
      have := hc a (List.mem_cons_self ..)
      rw [List.count_cons_self] at this
      exact List.count_pos_iff.mp (by omega)
    refine List.Perm.trans (List.Perm.cons a (perm_of t (l2.erase a) ?_ (fun b hb => ?_))) (List.perm_cons_erase ha).symm
    · rw [List.length_erase_of_mem ha]
      rw [List.length_cons] at h
      omega
    · have h1 := hc b (List.mem_cons_of_mem _ hb)
      have h2 := (List.perm_cons_erase ha).count_eq b
      rw [List.count_cons] at h1 h2
      omega
theorem hbo_iff (c d : Qd) (f g : Nat → Int64) : hbo c d 4 = true ↔ ∀ j, j < 4 → lay c f 4 j = lay d g 4 j := by
  constructor
  · intro h
    simp only [hbo, Bool.and_eq_true, beq_iff_eq, true_and] at h
    obtain ⟨⟨⟨h0, h1⟩, h2⟩, h3⟩ := h
    simp only [tms_l] at h0 h1 h2 h3
    have hp : (lst4 c).Perm (lst4 d) := by
      refine perm_of _ _ rfl (fun a ha => ?_)
      simp only [lst4, List.mem_cons, List.not_mem_nil, or_false] at ha
      rcases ha with rfl | rfl | rfl | rfl <;> omega
    refine srt_eq 4 (lay_srt c f 4) (lay_srt d g 4) (fun x => ?_)
    rw [lay_cnt, lay_cnt, tms_l, tms_l]
    exact hp.count_eq x
  · intro h
    have e : ∀ x, tms c x 4 = tms d x 4 := fun x => by
      rw [← lay_cnt c f, ← lay_cnt d g]
      exact cnt_congr 4 h
    simp [hbo, e]
