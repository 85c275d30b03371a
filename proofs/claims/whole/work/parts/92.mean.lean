/-! MATHEMATICS of saying, 1: what a row of words means; the rows that mean a row. -/
/-- the first n of a row of numbers as a list -/
def tl (g : Nat → Nat) (n : Nat) : List Nat := (List.range n).map g
theorem tl_len (g : Nat → Nat) (n : Nat) : (tl g n).length = n := by simp [tl]
theorem tl_0 (g : Nat → Nat) : tl g 0 = [] := rfl
theorem tl_cons (g : Nat → Nat) (n : Nat) : tl g (n + 1) = g 0 :: tl (fun j => g (j + 1)) n := by
  unfold tl
  rw [List.range_succ_eq_map, List.map_cons, List.map_map]
  rfl
theorem tl_snoc (g : Nat → Nat) (n : Nat) : tl g (n + 1) = tl g n ++ [g n] := by
  unfold tl
  rw [List.range_succ, List.map_append]
  rfl
theorem tl_congr {g g' : Nat → Nat} {n : Nat} (h : ∀ i, i < n → g i = g' i) : tl g n = tl g' n := by
  unfold tl
  apply List.map_congr_left
  intro i hi
  exact h i (List.mem_range.mp hi)
theorem tl_mem {g : Nat → Nat} {n x : Nat} : x ∈ tl g n ↔ ∃ i, i < n ∧ g i = x := by simp [tl]
theorem tl_inj {g g' : Nat → Nat} {n n' : Nat} : tl g n = tl g' n' ↔ n = n' ∧ ∀ i, i < n → g i = g' i := by
  constructor
  · intro h
    have hn : n = n' := by rw [← tl_len g n, h, tl_len]
    subst hn
    refine ⟨rfl, fun i hi => ?_⟩
    have : (tl g n)[i]? = (tl g' n)[i]? := by rw [h]
    simpa [tl, hi] using this
  · rintro ⟨rfl, h⟩
    exact tl_congr h
theorem tl_get (g : Nat → Nat) {n i : Nat} (hi : i < n) : (tl g n)[i]? = some (g i) := by simp [tl, hi]
/-- every list is one -/
theorem tl_of (l : List Nat) : tl (fun i => l.getD i 0) l.length = l := by
  apply List.ext_getElem?
  intro i
  by_cases h : i < l.length
  · rw [tl_get _ h]; simp [h]
  · rw [List.getElem?_eq_none (by rw [tl_len]; omega), List.getElem?_eq_none (by omega)]
section MEAN
variable (mn : Nat → Nat → Option Nat)
/-- the first two that have a meaning become it -/
def mstep : List Nat → Option (List Nat)
  | [] => none
  | [_] => none
  | a :: b :: l => match mn a b with
    | some c => some (c :: l)
    | none => (mstep (b :: l)).map (a :: ·)
theorem mstep_len : ∀ {l l' : List Nat}, mstep mn l = some l' → l.length = l'.length + 1
  | [], _, h => by cases h
  | [_], _, h => by cases h
  | a :: b :: l, l', h => by
    rw [mstep] at h
    split at h
    · cases h; rfl
    · cases hm : mstep mn (b :: l) with
      | none => rw [hm] at h; cases h
      | some q =>
        rw [hm] at h
        cases h
        have := mstep_len hm
        simp only [List.length_cons] at this ⊢
        omega
def mset : Nat → List Nat → List Nat
  | 0, l => l
  | n + 1, l => match mstep mn l with
    | none => l
    | some l' => mset n l'
def meaning (l : List Nat) : List Nat := mset mn l.length l
theorem mean_fix {l : List Nat} (h : mstep mn l = none) : meaning mn l = l := by
  unfold meaning
  cases hl : l.length with
  | zero => rfl
  | succ n => rw [mset, h]
theorem mean_step {l l' : List Nat} (h : mstep mn l = some l') : meaning mn l = meaning mn l' := by
  unfold meaning
  rw [mstep_len mn h, mset, h]
theorem mset_irr : ∀ (n : Nat) (l : List Nat), l.length ≤ n → mstep mn (mset mn n l) = none
  | 0, l, h => by
    have : l = [] := List.eq_nil_of_length_eq_zero (by omega)
    rw [this]; rfl
  | n + 1, l, h => by
    rw [mset]
    cases hm : mstep mn l with
    | none => exact hm
    | some l' => exact mset_irr n l' (by have := mstep_len mn hm; omega)
theorem mean_irr (l : List Nat) : mstep mn (meaning mn l) = none := mset_irr mn _ _ (Nat.le_refl _)
theorem mset_len : ∀ (n : Nat) (l : List Nat), (mset mn n l).length ≤ l.length ∧ (0 < l.length → 0 < (mset mn n l).length)
  | 0, l => ⟨Nat.le_refl _, id⟩
  | n + 1, l => by
    rw [mset]
    cases hm : mstep mn l with
    | none => exact ⟨Nat.le_refl _, id⟩
    | some l' =>
      have h1 := mstep_len mn hm
      have h2 := mset_len n l'
      have h3 : 0 < l'.length := by
        cases l with
        | nil => cases hm
        | cons a t => cases t with
          | nil => cases hm
          | cons b t => simp only [List.length_cons] at h1; omega
      exact ⟨Nat.le_trans h2.1 (by omega), fun _ => h2.2 h3⟩
theorem mean_len (l : List Nat) : (meaning mn l).length ≤ l.length ∧ (0 < l.length → 0 < (meaning mn l).length) := mset_len mn _ _
/-- over rows of numbers -/
theorem mstep_none : ∀ (n : Nat) (g : Nat → Nat), (∀ j, j + 1 < n → mn (g j) (g (j + 1)) = none) → mstep mn (tl g n) = none
  | 0, _, _ => rfl
  | 1, _, _ => rfl
  | n + 2, g, h => by
    rw [tl_cons, tl_cons, mstep, h 0 (by omega)]
    have := mstep_none (n + 1) (fun j => g (j + 1)) (fun j hj => h (j + 1) (by omega))
    rw [tl_cons] at this
    simp only [this, Option.map_none]
theorem mstep_some : ∀ (i n : Nat) (g : Nat → Nat) (c : Nat), i + 1 < n → (∀ j, j < i → mn (g j) (g (j + 1)) = none) → mn (g i) (g (i + 1)) = some c → mstep mn (tl g n) = some (tl (fun j => if j < i then g j else if j = i then c else g (j + 1)) (n - 1))
  | 0, n, g, c, hi, _, hc => by
    obtain ⟨m, rfl⟩ : ∃ m, n = m + 2 := ⟨n - 2, by omega⟩
    rw [tl_cons, tl_cons, mstep, hc, show m + 2 - 1 = m + 1 from rfl, tl_cons]
    simp only [Nat.lt_irrefl, if_true, if_false]
    refine congrArg (fun l => some (c :: l)) ?_
    exact tl_congr (fun j _ => by simp)
  | i + 1, n, g, c, hi, hj, hc => by
    obtain ⟨m, rfl⟩ : ∃ m, n = m + 2 := ⟨n - 2, by omega⟩
    have ih := mstep_some i (m + 1) (fun j => g (j + 1)) c (by omega) (fun j q => hj (j + 1) (by omega)) hc
    rw [tl_cons, tl_cons, mstep, hj 0 (by omega)]
    rw [tl_cons] at ih
    simp only [ih, Option.map_some]
    rw [show m + 2 - 1 = m + 1 from rfl, tl_cons]
    simp only [Nat.zero_lt_succ, if_true]
    refine congrArg (fun l => some (g 0 :: l)) ?_
    rw [show m + 1 - 1 = m from rfl]
    exact tl_congr (fun j _ => by simp only [Nat.add_lt_add_iff_right, Nat.add_right_cancel_iff])
/-- a step is at some place -/
theorem mstep_inv : ∀ (n : Nat) (g : Nat → Nat) (l' : List Nat), mstep mn (tl g n) = some l' → ∃ i c, i + 1 < n ∧ (∀ j, j < i → mn (g j) (g (j + 1)) = none) ∧ mn (g i) (g (i + 1)) = some c := by
  intro n g l' h
  by_cases hx : ∃ i, i + 1 < n ∧ mn (g i) (g (i + 1)) ≠ none
  · obtain ⟨i, h1, h2⟩ := hx
    induction i using Nat.strongRecOn with
    | ind i ih =>
      by_cases hy : ∃ j, j < i ∧ mn (g j) (g (j + 1)) ≠ none
      · obtain ⟨j, h3, h4⟩ := hy
        exact ih j h3 (by omega) h4
      · obtain ⟨c, hc⟩ := Option.ne_none_iff_exists'.mp h2
        exact ⟨i, c, h1, fun j hj => Classical.byContradiction (fun q => hy ⟨j, hj, q⟩), hc⟩
  · rw [mstep_none mn n g (fun j hj => Classical.byContradiction (fun q => hx ⟨j, hj, q⟩))] at h
    cases h
/-- words of a row stay below a bound -/
theorem mstep_bd {W : Nat} (hW : ∀ a b c, mn a b = some c → c < W) : ∀ {l l' : List Nat}, mstep mn l = some l' → (∀ x ∈ l, x < W) → ∀ x ∈ l', x < W
  | [], _, h, _ => by cases h
  | [_], _, h, _ => by cases h
  | a :: b :: l, l', h, hl => by
    rw [mstep] at h
    split at h
    · rename_i c hc
      cases h
      intro x hx
      rcases List.mem_cons.mp hx with rfl | hx
      · exact hW _ _ _ hc
      · exact hl x (by simp [hx])
    · cases hm : mstep mn (b :: l) with
      | none => rw [hm] at h; cases h
      | some q =>
        rw [hm] at h
        cases h
        intro x hx
        rcases List.mem_cons.mp hx with rfl | hx
        · exact hl x (by simp)
        · exact mstep_bd hW hm (fun y hy => hl y (List.mem_cons_of_mem _ hy)) x hx
theorem mean_bd {W : Nat} (hW : ∀ a b c, mn a b = some c → c < W) : ∀ (n : Nat) (l : List Nat), (∀ x ∈ l, x < W) → ∀ x ∈ mset mn n l, x < W
  | 0, l, h => h
  | n + 1, l, h => by
    rw [mset]
    cases hm : mstep mn l with
    | none => exact h
    | some l' => exact mean_bd hW n l' (mstep_bd mn hW hm h)
end MEAN
/-! the rows that mean a row, from it back -/
section DESC
variable (mn : Nat → Nat → Option Nat) (mea : Nat) (one oth thd : Nat → Nat)
/-- row l parted at i by the meaning k -/
def kid (l : List Nat) (i k : Nat) : List Nat := l.take i ++ one k :: oth k :: l.drop (i + 1)
/-- that is the first place of the longer row with a meaning -/
def kidOk (l : List Nat) (i k : Nat) : Bool := decide (thd k = l.getD i 0) && (decide (i = 0) || (mn (l.getD (i - 1) 0) (one k)).isNone) && (List.range (i - 1)).all (fun j => (mn (l.getD j 0) (l.getD (j + 1) 0)).isNone)
/-- all ways to part l, from place i and meaning k on, by places then by meanings -/
def kidsAt (l : List Nat) (i k : Nat) : List (List Nat) := ((List.range' k (mea - k)).filter (fun q => kidOk mn one thd l i q)).map (fun q => kid one oth l i q)
def kidsFrom (l : List Nat) : Nat → Nat → List (List Nat)
  | 0, _ => []
  | d + 1, k => kidsAt mn mea one oth thd l (l.length - (d + 1)) k ++ kidsFrom l d 0
def kids (l : List Nat) : List (List Nat) := kidsFrom mn mea one oth thd l l.length 0
/-- all longer rows, each ahead of those made of it -/
def desc : Nat → List Nat → List (List Nat)
  | 0, _ => []
  | f + 1, l => (kids mn mea one oth thd l).flatMap (fun c => c :: desc f c)
theorem kid_len (l : List Nat) (i k : Nat) (hi : i < l.length) : (kid one oth l i k).length = l.length + 1 := by
  simp [kid]; omega
theorem kidsAt_mem {l : List Nat} {i k : Nat} {c : List Nat} : c ∈ kidsAt mn mea one oth thd l i k ↔ ∃ q, k ≤ q ∧ q < mea ∧ kidOk mn one thd l i q = true ∧ c = kid one oth l i q := by
  simp only [kidsAt, List.mem_map, List.mem_filter, List.mem_range'_1]
  constructor
  · rintro ⟨q, ⟨⟨h1, h2⟩, h3⟩, rfl⟩
    exact ⟨q, h1, by omega, h3, rfl⟩
  · rintro ⟨q, h1, h2, h3, rfl⟩
    exact ⟨q, ⟨⟨h1, by omega⟩, h3⟩, rfl⟩
theorem kidsFrom_mem {l c : List Nat} : ∀ (d : Nat), d ≤ l.length → (c ∈ kidsFrom mn mea one oth thd l d 0 ↔ ∃ i q, l.length - d ≤ i ∧ i < l.length ∧ q < mea ∧ kidOk mn one thd l i q = true ∧ c = kid one oth l i q)
  | 0, _ => by simp [kidsFrom]; intros; omega
  | d + 1, hd => by
    rw [kidsFrom, List.mem_append, kidsAt_mem, kidsFrom_mem d (by omega)]
    constructor
    · rintro (⟨q, _, h2, h3, h4⟩ | ⟨i, q, h1, h2, h3⟩)
      · exact ⟨l.length - (d + 1), q, Nat.le_refl _, by omega, h2, h3, h4⟩
      · exact ⟨i, q, by omega, h2, h3⟩
    · rintro ⟨i, q, h1, h2, h3, h4, h5⟩
      rcases Nat.lt_or_ge (l.length - (d + 1)) i with h | h
      · exact .inr ⟨i, q, by omega, h2, h3, h4, h5⟩
      · have : i = l.length - (d + 1) := by omega
        subst this
        exact .inl ⟨q, Nat.zero_le _, h3, h4, h5⟩
theorem kids_mem {l c : List Nat} : c ∈ kids mn mea one oth thd l ↔ ∃ i q, i < l.length ∧ q < mea ∧ kidOk mn one thd l i q = true ∧ c = kid one oth l i q := by
  rw [kids, kidsFrom_mem mn mea one oth thd _ (Nat.le_refl _)]
  simp
theorem desc_len : ∀ (f : Nat) (l c : List Nat), c ∈ desc mn mea one oth thd f l → l.length < c.length ∧ c.length ≤ l.length + f
  | 0, l, c, h => by simp [desc] at h
  | f + 1, l, c, h => by
    rw [desc, List.mem_flatMap] at h
    obtain ⟨k, hk, hc⟩ := h
    obtain ⟨i, q, h1, _, _, rfl⟩ := (kids_mem mn mea one oth thd).mp hk
    have hl := kid_len one oth l i q h1
    rcases List.mem_cons.mp hc with rfl | hc
    · omega
    · have := desc_len f _ _ hc
      omega
/-- bounds on how many there are -/
theorem kidsFrom_cnt (l : List Nat) : ∀ d, (kidsFrom mn mea one oth thd l d 0).length ≤ d * mea
  | 0 => by simp [kidsFrom]
  | d + 1 => by
    rw [kidsFrom, List.length_append]
    have h1 : (kidsAt mn mea one oth thd l (l.length - (d + 1)) 0).length ≤ mea := by
      rw [kidsAt, List.length_map]
      refine Nat.le_trans (List.length_filter_le _ _) ?_
      simp
    have h2 := kidsFrom_cnt l d
    rw [Nat.succ_mul]
    omega
theorem sum_bd {α : Type} (f : α → Nat) (B : Nat) : ∀ (l : List α), (∀ x ∈ l, f x ≤ B) → (l.map f).sum ≤ l.length * B
  | [], _ => by simp
  | a :: l, h => by
    rw [List.map_cons, List.sum_cons, List.length_cons, Nat.succ_mul]
    have := sum_bd f B l (fun x hx => h x (List.mem_cons_of_mem _ hx))
    have := h a (List.mem_cons_self)
    omega
def descN : Nat → Nat → Nat
  | 0, _ => 0
  | f + 1, n => n * 10 * (1 + descN f (n + 1))
theorem desc_cnt (hm : mea ≤ 10) : ∀ (f : Nat) (l : List Nat), (desc mn mea one oth thd f l).length ≤ descN f l.length
  | 0, l => by simp [desc]
  | f + 1, l => by
    rw [desc, List.length_flatMap, descN]
    have h1 : ∀ c ∈ kids mn mea one oth thd l, (c :: desc mn mea one oth thd f c).length ≤ 1 + descN f (l.length + 1) := by
      intro c hc
      obtain ⟨i, q, h1, _, _, rfl⟩ := (kids_mem mn mea one oth thd).mp hc
      have hl := kid_len one oth l i q h1
      have := desc_cnt hm f (kid one oth l i q)
      rw [hl] at this
      rw [List.length_cons]
      omega
    have h2 : (kids mn mea one oth thd l).length ≤ l.length * 10 := Nat.le_trans (kidsFrom_cnt mn mea one oth thd l _) (Nat.mul_le_mul_left _ hm)
    refine Nat.le_trans (sum_bd (fun c => (c :: desc mn mea one oth thd f c).length) _ _ h1) ?_
    exact Nat.mul_le_mul_right _ h2
end DESC
