/-! MATHEMATICS of saying, 3: bags of words and their numbers; rows of men and their words. -/
def chN : List Nat := [1, 1, 1, 1, 1, 2, 3, 4, 5, 6, 3, 6, 10, 15, 21, 4, 10, 20, 35, 56, 5, 15, 35, 70, 126, 6, 21, 56, 126, 252, 7, 28, 84, 210, 462, 8, 36, 120, 330, 792, 9, 45, 165, 495, 1287, 10, 55, 220, 715, 2002]
theorem chN_at : ∀ i, i < 50 → tb_choose.getD i 0 = nI (chN.getD i 0) := by decide +kernel
theorem chN_lt : ∀ i, i < 50 → chN.getD i 0 < 2003 := by decide +kernel
/-- the number of a sorted row of words, from the place j on -/
def numL : Nat → List Nat → Nat
  | _, [] => 0
  | j, w :: l => chN.getD (w * 5 + j) 0 + numL (j + 1) l
def colex : Nat → Nat → List (List Nat)
  | 0, _ => [[]]
  | n + 1, hi => [] :: (List.range hi).flatMap (fun t => (colex n (t + 1)).map (fun s => s ++ [t]))
set_option maxRecDepth 100000 in
theorem colex_num : (colex 5 10).map (fun s => numL (5 - s.length) s) = List.range 3003 := by decide +kernel
theorem colex_mem : ∀ (n hi : Nat) (s : List Nat), s.Pairwise (· ≤ ·) → s.length ≤ n → (∀ x ∈ s, x < hi) → s ∈ colex n hi
  | 0, hi, s, _, h2, _ => by
    have : s = [] := List.eq_nil_of_length_eq_zero (by omega)
    rw [this]; exact List.mem_cons_self
  | n + 1, hi, s, h1, h2, h3 => by
    rcases List.eq_nil_or_concat s with rfl | ⟨s', t, rfl⟩
    · exact List.mem_cons_self
    · rw [List.concat_eq_append] at *
      rw [colex]
      refine List.mem_cons_of_mem _ (List.mem_flatMap.mpr ⟨t, List.mem_range.mpr (h3 t (by simp)), List.mem_map.mpr ⟨s', ?_, rfl⟩⟩)
      have hp := List.pairwise_append.mp h1
      refine colex_mem n (t + 1) s' hp.1 (by simp at h2; omega) (fun x hx => ?_)
      have := hp.2.2 x hx t (by simp)
      omega
theorem colex_at {s : List Nat} (h : s ∈ colex 5 10) : (colex 5 10)[numL (5 - s.length) s]? = some s ∧ numL (5 - s.length) s < 3003 := by
  obtain ⟨i, hi, he⟩ := List.getElem_of_mem h
  have h1 : ((colex 5 10).map (fun s => numL (5 - s.length) s))[i]? = some (numL (5 - s.length) s) := by
    rw [List.getElem?_map, List.getElem?_eq_getElem hi, he]; rfl
  have hl : i < 3003 := by
    have : ((colex 5 10).map (fun s => numL (5 - s.length) s)).length = 3003 := by rw [colex_num, List.length_range]
    rw [List.length_map] at this
    omega
  rw [colex_num, List.getElem?_range hl] at h1
  have h2 := Option.some.inj h1
  rw [← h2, List.getElem?_eq_getElem hi, he]
  exact ⟨rfl, hl⟩
/-- the words below k by their counts, sorted -/
def srtK (c : Nat → Nat) : Nat → List Nat
  | 0 => []
  | k + 1 => srtK c k ++ List.replicate (c k) k
theorem srtK_lt (c : Nat → Nat) : ∀ k, ∀ x ∈ srtK c k, x < k
  | 0, x, h => by cases h
  | k + 1, x, h => by
    rcases List.mem_append.mp h with h | h
    · have := srtK_lt c k x h; omega
    · have := (List.mem_replicate.mp h).2; omega
theorem srtK_sorted (c : Nat → Nat) : ∀ k, (srtK c k).Pairwise (· ≤ ·)
  | 0 => List.Pairwise.nil
  | k + 1 => by
    refine List.pairwise_append.mpr ⟨srtK_sorted c k, List.pairwise_replicate.mpr (.inr (Nat.le_refl _)), fun a ha b hb => ?_⟩
    have h1 := srtK_lt c k a ha
    have h2 := (List.mem_replicate.mp hb).2
    omega
theorem srtK_count (c : Nat → Nat) (a : Nat) : ∀ k, (srtK c k).count a = if a < k then c a else 0
  | 0 => rfl
  | k + 1 => by
    rw [srtK, List.count_append, srtK_count c a k, List.count_replicate]
    by_cases h1 : a = k
    · subst h1; simp
    · by_cases h2 : a < k
      · rw [if_pos h2, if_pos (by omega : a < k + 1), if_neg (by simp; omega)]; rfl
      · rw [if_neg h2, if_neg (by omega : ¬ a < k + 1), if_neg (by simp; omega)]
theorem srtK_len (c : Nat → Nat) : ∀ k, (srtK c (k + 1)).length = (srtK c k).length + c k := by
  intro k
  rw [srtK, List.length_append, List.length_replicate]
def cntW (l : List Nat) (w : Nat) : Nat := l.count w
theorem srtK_perm {l : List Nat} (h : ∀ x ∈ l, x < 10) : (srtK (cntW l) 10).Perm l := by
  rw [List.perm_iff_count]
  intro a
  rw [srtK_count]
  by_cases ha : a < 10
  · rw [if_pos ha]; rfl
  · rw [if_neg ha]
    exact (List.count_eq_zero.mpr (fun q => ha (h a q))).symm
/-- the number of a bag -/
def bn (l : List Nat) : Nat := numL (5 - l.length) (srtK (cntW l) 10)
theorem bn_lt {l : List Nat} (h : ∀ x ∈ l, x < 10) (h5 : l.length ≤ 5) : bn l < 3003 := by
  have hp := srtK_perm h
  have := colex_at (colex_mem 5 10 _ (srtK_sorted (cntW l) 10) (by rw [hp.length_eq]; exact h5) (srtK_lt _ _))
  rw [hp.length_eq] at this
  exact this.2
theorem bn_perm {l l' : List Nat} (p : l.Perm l') : bn l = bn l' := by
  unfold bn
  rw [p.length_eq, show cntW l = cntW l' from funext fun a => p.count_eq a]
theorem bn_inj {l l' : List Nat} (h : ∀ x ∈ l, x < 10) (h5 : l.length ≤ 5) (h' : ∀ x ∈ l', x < 10) (h5' : l'.length ≤ 5) (e : bn l = bn l') : l.Perm l' := by
  have hp := srtK_perm h
  have hp' := srtK_perm h'
  have h1 := colex_at (colex_mem 5 10 _ (srtK_sorted (cntW l) 10) (by rw [hp.length_eq]; exact h5) (srtK_lt _ _))
  have h2 := colex_at (colex_mem 5 10 _ (srtK_sorted (cntW l') 10) (by rw [hp'.length_eq]; exact h5') (srtK_lt _ _))
  rw [hp.length_eq] at h1
  rw [hp'.length_eq] at h2
  have h3 : numL (5 - l.length) (srtK (cntW l) 10) = numL (5 - l'.length) (srtK (cntW l') 10) := e
  rw [h3, h2.1] at h1
  have h4 := Option.some.inj h1.1
  exact hp.symm.trans (h4 ▸ hp')
theorem bn_iff {l l' : List Nat} (h : ∀ x ∈ l, x < 10) (h5 : l.length ≤ 5) (h' : ∀ x ∈ l', x < 10) (h5' : l'.length ≤ 5) : bn l = bn l' ↔ l.Perm l' := ⟨bn_inj h h5 h' h5', bn_perm⟩
/-- a bag may be laid in any order -/
theorem perm_lift {α : Type} (f : α → Nat) {w1 w2 : List Nat} (hp : w1.Perm w2) : ∀ p : List α, p.map f = w1 → ∃ p' : List α, p'.Perm p ∧ p'.map f = w2 := by
  induction hp with
  | nil => intro p h; exact ⟨p, List.Perm.refl _, h⟩
  | cons x _ ih =>
    intro p h
    cases p with
    | nil => cases h
    | cons a t =>
      rw [List.map_cons] at h
      obtain ⟨h1, h2⟩ := List.cons.inj h
      obtain ⟨t', h3, h4⟩ := ih t h2
      exact ⟨a :: t', h3.cons a, by rw [List.map_cons, h1, h4]⟩
  | swap x y l =>
    intro p h
    cases p with
    | nil => cases h
    | cons a t =>
      rw [List.map_cons] at h
      obtain ⟨h1, h2⟩ := List.cons.inj h
      cases t with
      | nil => cases h2
      | cons b t =>
        rw [List.map_cons] at h2
        obtain ⟨h3, h4⟩ := List.cons.inj h2
        exact ⟨b :: a :: t, List.Perm.swap a b t, by rw [List.map_cons, List.map_cons, h1, h3, h4]⟩
  | trans _ _ ih1 ih2 =>
    intro p h
    obtain ⟨p1, h1, h2⟩ := ih1 p h
    obtain ⟨p2, h3, h4⟩ := ih2 p1 h2
    exact ⟨p2, h3.trans h1, h4⟩
/-! sets of men as bits -/
def elems (s : Nat) (n : Nat) : List Nat := (List.range n).filter (fun m => s.testBit m)
theorem elems_mem {s n m : Nat} : m ∈ elems s n ↔ m < n ∧ s.testBit m = true := by simp [elems]
theorem elems_nodup (s n : Nat) : (elems s n).Nodup := List.Nodup.sublist List.filter_sublist List.nodup_range
/-- the set of a row -/
def setOf (p : List Nat) : Nat := p.foldr (fun m s => s ||| 2 ^ m) 0
theorem setOf_bit (p : List Nat) (i : Nat) : (setOf p).testBit i = decide (i ∈ p) := by
  induction p with
  | nil => simp [setOf]
  | cons a t ih =>
    show (setOf t ||| 2 ^ a).testBit i = _
    rw [Nat.testBit_or, ih, Nat.testBit_two_pow]
    by_cases h : a = i
    · simp [h]
    · have : ¬ i = a := fun q => h q.symm
      simp [h, this]
theorem setOf_lt {p : List Nat} {n : Nat} (h : ∀ x ∈ p, x < n) : setOf p < 2 ^ n := by
  apply Nat.lt_pow_two_of_testBit
  intro i hi
  rw [setOf_bit]
  exact decide_eq_false (fun q => by have := h i q; omega)
theorem setOf_perm {p q : List Nat} (h : p.Perm q) : setOf p = setOf q := by
  apply Nat.eq_of_testBit_eq
  intro i
  rw [setOf_bit, setOf_bit]
  exact decide_eq_decide.mpr h.mem_iff
theorem setOf_elems {s n : Nat} (h : s < 2 ^ n) : setOf (elems s n) = s := by
  apply Nat.eq_of_testBit_eq
  intro i
  rw [setOf_bit]
  by_cases hi : i < n
  · simp [elems_mem, hi]
  · rw [Nat.testBit_lt_two_pow (Nat.lt_of_lt_of_le h (Nat.pow_le_pow_right (by decide) (by omega)))]
    simp [elems_mem, hi]
/-- a row without repetition is a permutation of its set -/
theorem nodup_perm {p q : List Nat} (hp : p.Nodup) (hq : q.Nodup) (h : ∀ x, x ∈ p ↔ x ∈ q) : p.Perm q := by
  rw [List.perm_iff_count]
  intro a
  rw [hp.count, hq.count]
  simp [h a]
theorem elems_perm {p : List Nat} {n : Nat} (hp : p.Nodup) (h : ∀ x ∈ p, x < n) : (elems (setOf p) n).Perm p := by
  refine nodup_perm (elems_nodup _ _) hp (fun x => ?_)
  rw [elems_mem, setOf_bit]
  constructor
  · rintro ⟨_, h2⟩; exact of_decide_eq_true h2
  · intro hx; exact ⟨h x hx, decide_eq_true hx⟩
/-- a set within another -/
def sub (t s : Nat) : Prop := ∀ i, t.testBit i = true → s.testBit i = true
