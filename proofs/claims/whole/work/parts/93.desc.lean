/-! MATHEMATICS of saying, 2: the rows that mean a row are just those that part it step by step. -/
section DESC2
variable (mn : Nat → Nat → Option Nat) (mea : Nat) (one oth thd : Nat → Nat)
theorem kid_tl (g : Nat → Nat) (n i k : Nat) (hi : i < n) : kid one oth (tl g n) i k = tl (fun j => if j < i then g j else if j = i then one k else if j = i + 1 then oth k else g (j - 1)) (n + 1) := by
  apply List.ext_getElem?
  intro j
  have hl : ((tl g n).take i).length = i := by rw [List.length_take, tl_len]; omega
  rw [kid, List.getElem?_append, hl]
  by_cases h1 : j < i
  · rw [if_pos h1, List.getElem?_take, if_pos h1, tl_get g (by omega), tl_get _ (by omega), if_pos h1]
  · rw [if_neg h1]
    by_cases h2 : j = i
    · subst h2
      rw [Nat.sub_self, tl_get _ (by omega)]
      simp
    · by_cases h3 : j = i + 1
      · subst h3
        rw [show i + 1 - i = 1 from by omega, tl_get _ (by omega)]
        simp [h1]
      · obtain ⟨d, rfl⟩ : ∃ d, j = i + 2 + d := ⟨j - (i + 2), by omega⟩
        rw [show i + 2 + d - i = d + 2 from by omega]
        simp only [List.getElem?_cons_succ, List.getElem?_drop]
        by_cases h4 : i + 2 + d < n + 1
        · rw [tl_get _ h4, show i + 1 + d = i + 2 + d - 1 from by omega, tl_get g (by omega), if_neg h1, if_neg h2, if_neg h3]
        · rw [List.getElem?_eq_none (by rw [tl_len]; omega), List.getElem?_eq_none (by rw [tl_len]; omega)]
theorem tl_getD (g : Nat → Nat) {n i : Nat} (hi : i < n) : (tl g n).getD i 0 = g i := by
  rw [List.getD_eq_getElem?_getD, tl_get g hi]; rfl
theorem kidOk_tl (g : Nat → Nat) (n i k : Nat) (hi : i < n) : kidOk mn one thd (tl g n) i k = true ↔ thd k = g i ∧ (i = 0 ∨ mn (g (i - 1)) (one k) = none) ∧ ∀ j, j + 1 < i → mn (g j) (g (j + 1)) = none := by
  unfold kidOk
  rw [tl_getD g hi, tl_getD g (by omega : i - 1 < n)]
  simp only [Bool.and_eq_true, Bool.or_eq_true, decide_eq_true_eq, Option.isNone_iff_eq_none, List.all_eq_true, List.mem_range, and_assoc]
  constructor
  · rintro ⟨h1, h2, h3⟩
    refine ⟨h1, h2, fun j hj => ?_⟩
    have := h3 j (by omega)
    rwa [tl_getD g (by omega), tl_getD g (by omega)] at this
  · rintro ⟨h1, h2, h3⟩
    refine ⟨h1, h2, fun j hj => ?_⟩
    rw [tl_getD g (by omega), tl_getD g (by omega)]
    exact h3 j (by omega)
/-- the table of meanings, as rows -/
def mtab : Prop := ∀ a b c, mn a b = some c ↔ ∃ k, k < mea ∧ one k = a ∧ oth k = b ∧ thd k = c
theorem kids_iff (ht : mtab mn mea one oth thd) (l w : List Nat) : w ∈ kids mn mea one oth thd l ↔ mstep mn w = some l := by
  rw [kids_mem]
  constructor
  · rintro ⟨i, q, hi, hq, hok, rfl⟩
    rw [← tl_of l] at hok ⊢
    generalize hg : (fun i => l.getD i 0) = g at hok ⊢
    generalize l.length = n at hi hok ⊢
    rw [kid_tl one oth g n i q hi]
    obtain ⟨h1, h2, h3⟩ := (kidOk_tl mn one thd g n i q hi).mp hok
    rw [mstep_some mn i (n + 1) _ (g i) (by omega)]
    · rw [Nat.add_sub_cancel]
      refine congrArg some (tl_congr (fun j hj => ?_))
      by_cases a : j < i
      · simp [a]
      · by_cases b : j = i
        · simp [b]
        · have c1 : ¬ j + 1 < i := by omega
          have c2 : ¬ j + 1 = i := by omega
          have c3 : ¬ j + 1 = i + 1 := by omega
          simp only [a, b, c1, c2, c3, if_false, Nat.add_sub_cancel]
    · intro j hj
      simp only [hj, if_true]
      by_cases a : j + 1 < i
      · simp only [a, if_true]; exact h3 j a
      · have b : j + 1 = i := by omega
        simp only [b, Nat.lt_irrefl, if_true, if_false]
        rcases h2 with h2 | h2
        · omega
        · rwa [show i - 1 = j from by omega] at h2
    · have c1 : ¬ i + 1 < i := by omega
      have c2 : ¬ i + 1 = i := by omega
      simp only [Nat.lt_irrefl, c1, c2, if_true, if_false]
      exact (ht _ _ _).mpr ⟨q, hq, rfl, rfl, h1⟩
  · intro h
    rw [← tl_of w] at h ⊢
    generalize hg : (fun i => w.getD i 0) = g at h ⊢
    generalize w.length = m at h ⊢
    obtain ⟨i, c, hi, hj, hc⟩ := mstep_inv mn m g l h
    have hs := mstep_some mn i m g c hi hj hc
    rw [h] at hs
    obtain ⟨k, hk, ha, hb, hcc⟩ := (ht _ _ _).mp hc
    have hl : l = _ := Option.some.inj hs
    refine ⟨i, k, by rw [hl, tl_len]; omega, hk, ?_, ?_⟩
    · rw [hl, kidOk_tl mn one thd _ _ i k (by omega)]
      refine ⟨by simp [hcc], ?_, fun j hj' => ?_⟩
      · by_cases h0 : i = 0
        · exact .inl h0
        · refine .inr ?_
          have := hj (i - 1) (by omega)
          rw [show i - 1 + 1 = i from by omega] at this
          have c1 : i - 1 < i := by omega
          simp only [c1, if_true, ha]
          exact this
      · have c1 : j < i := by omega
        simp only [c1, hj', if_true]
        exact hj j c1
    · rw [hl, kid_tl one oth _ _ i k (by omega), show m - 1 + 1 = m from by omega]
      refine tl_congr (fun j hjm => ?_)
      by_cases a : j < i
      · simp [a]
      · by_cases b : j = i
        · simp [b, ha]
        · by_cases d : j = i + 1
          · subst d
            simp [hb, a]
          · have e1 : ¬ j - 1 < i := by omega
            have e2 : ¬ j - 1 = i := by omega
            have e3 : j - 1 + 1 = j := by omega
            simp only [a, b, d, e1, e2, e3, if_false]
/-- so many steps -/
def mIter : Nat → List Nat → Option (List Nat)
  | 0, w => some w
  | n + 1, w => (mstep mn w).bind (mIter n)
theorem mIter_mean : ∀ (n : Nat) (w l : List Nat), mIter mn n w = some l → meaning mn w = meaning mn l ∧ w.length = l.length + n
  | 0, w, l, h => by cases h; exact ⟨rfl, rfl⟩
  | n + 1, w, l, h => by
    rw [mIter] at h
    obtain ⟨w', h1, h2⟩ := Option.bind_eq_some_iff.mp h
    have h3 := mIter_mean n w' l h2
    have h4 := mstep_len mn h1
    exact ⟨(mean_step mn h1).trans h3.1, by omega⟩
theorem mIter_all : ∀ (k : Nat) (w : List Nat), w.length ≤ k → mIter mn (w.length - (meaning mn w).length) w = some (meaning mn w)
  | k, w, hk => by
    cases h : mstep mn w with
    | none => rw [mean_fix mn h, Nat.sub_self]; rfl
    | some w' =>
      have h1 := mstep_len mn h
      have h2 := mean_step mn h
      have h3 := mean_len mn w'
      obtain ⟨k', rfl⟩ : ∃ k', k = k' + 1 := ⟨k - 1, by omega⟩
      have ih := mIter_all k' w' (by omega)
      rw [h2, show w.length - (meaning mn w').length = (w'.length - (meaning mn w').length) + 1 from by omega, mIter, h]
      exact ih
theorem mIter_snoc : ∀ (n : Nat) (w c l : List Nat), mIter mn n w = some c → mstep mn c = some l → mIter mn (n + 1) w = some l
  | 0, w, c, l, h1, h2 => by cases h1; rw [mIter, h2]; rfl
  | n + 1, w, c, l, h1, h2 => by
    rw [mIter] at h1 ⊢
    obtain ⟨w', h3, h4⟩ := Option.bind_eq_some_iff.mp h1
    rw [h3]
    exact mIter_snoc n w' c l h4 h2
theorem mIter_last : ∀ (n : Nat) (w l : List Nat), mIter mn (n + 1) w = some l → ∃ c, mIter mn n w = some c ∧ mstep mn c = some l
  | 0, w, l, h => by
    rw [mIter] at h
    obtain ⟨w', h3, h4⟩ := Option.bind_eq_some_iff.mp h
    cases h4
    exact ⟨w, rfl, h3⟩
  | n + 1, w, l, h => by
    rw [mIter] at h
    obtain ⟨w', h3, h4⟩ := Option.bind_eq_some_iff.mp h
    obtain ⟨c, h5, h6⟩ := mIter_last n w' l h4
    exact ⟨c, by rw [mIter, h3]; exact h5, h6⟩
theorem desc_iff (ht : mtab mn mea one oth thd) : ∀ (f : Nat) (l w : List Nat), w ∈ desc mn mea one oth thd f l ↔ ∃ n, 1 ≤ n ∧ n ≤ f ∧ mIter mn n w = some l
  | 0, l, w => by
    simp only [desc, List.not_mem_nil, false_iff]
    rintro ⟨n, h1, h2, _⟩
    omega
  | f + 1, l, w => by
    rw [desc, List.mem_flatMap]
    constructor
    · rintro ⟨c, hc, hw⟩
      have hs := (kids_iff mn mea one oth thd ht l c).mp hc
      rcases List.mem_cons.mp hw with rfl | hw
      · exact ⟨1, Nat.le_refl _, by omega, by rw [mIter, hs]; rfl⟩
      · obtain ⟨n, h1, h2, h3⟩ := (desc_iff ht f c w).mp hw
        refine ⟨n + 1, by omega, by omega, ?_⟩
        exact mIter_snoc mn n w c l h3 hs
    · rintro ⟨n, h1, h2, h3⟩
      obtain ⟨n', rfl⟩ : ∃ n', n = n' + 1 := ⟨n - 1, by omega⟩
      obtain ⟨c, hc1, hc2⟩ := mIter_last mn n' w l h3
      refine ⟨c, (kids_iff mn mea one oth thd ht l c).mpr hc2, ?_⟩
      cases n' with
      | zero => cases hc1; exact List.mem_cons_self
      | succ n'' => exact List.mem_cons_of_mem _ ((desc_iff ht f c w).mpr ⟨n'' + 1, by omega, by omega, hc1⟩)
/-- all rows of up to 5 words that mean r, which has no meaning of its own -/
def enumR (r : List Nat) : List (List Nat) := r :: desc mn mea one oth thd (5 - r.length) r
theorem enumR_iff (ht : mtab mn mea one oth thd) {r : List Nat} (hr : mstep mn r = none) (h5 : r.length ≤ 5) (w : List Nat) : w ∈ enumR mn mea one oth thd r ↔ meaning mn w = r ∧ w.length ≤ 5 := by
  unfold enumR
  rw [List.mem_cons, desc_iff mn mea one oth thd ht]
  constructor
  · rintro (rfl | ⟨n, h1, h2, h3⟩)
    · exact ⟨mean_fix mn hr, h5⟩
    · have := mIter_mean mn n w r h3
      exact ⟨this.1.trans (mean_fix mn hr), by omega⟩
  · rintro ⟨h1, h2⟩
    have h3 := mIter_all mn _ w (Nat.le_refl _)
    rw [h1] at h3
    have h4 := mIter_mean mn _ w r h3
    by_cases h0 : w.length - r.length = 0
    · rw [h0] at h3
      cases h3
      exact .inl rfl
    · exact .inr ⟨w.length - r.length, by omega, by omega, h3⟩
theorem enumR_cnt (hm : mea ≤ 10) {r : List Nat} (h0 : 0 < r.length) (h4 : r.length ≤ 4) : (enumR mn mea one oth thd r).length < 1000000 := by
  have h := desc_cnt mn mea one oth thd hm (5 - r.length) r
  rw [enumR, List.length_cons]
  have h2 : ∀ n, 0 < n → n ≤ 4 → descN (5 - n) n < 999999 := by
    intro n h1 h2
    have : n = 1 ∨ n = 2 ∨ n = 3 ∨ n = 4 := by omega
    rcases this with rfl | rfl | rfl | rfl <;> decide
  have := h2 r.length h0 h4
  omega
end DESC2
