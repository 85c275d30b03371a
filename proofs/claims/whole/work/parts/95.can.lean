/-! MATHEMATICS of saying, 4: by whom an order can be said. -/
section CAN
variable (sy : List Nat → Option Nat) (wf : Nat → Nat)
/-- some row of just these men says o -/
def mks (T o : Nat) : Prop := ∃ p : List Nat, p.Nodup ∧ p.length ≤ 5 ∧ setOf p = T ∧ sy (p.map wf) = some o
/-- some row of some of these men says o -/
def can (S o : Nat) : Prop := ∃ T, sub T S ∧ mks sy wf T o
/-- some order of these words means o -/
def bagHas (l : List Nat) (o : Nat) : Prop := ∃ w : List Nat, w.Perm l ∧ sy w = some o
theorem mem_setOf {p : List Nat} {x : Nat} : x ∈ p ↔ (setOf p).testBit x = true := by rw [setOf_bit]; simp
theorem setOf_mem_lt {p : List Nat} {n : Nat} (h : setOf p < 2 ^ n) : ∀ x ∈ p, x < n := by
  intro x hx
  have h1 := mem_setOf.mp hx
  rcases Nat.lt_or_ge x n with h2 | h2
  · exact h2
  · rw [Nat.testBit_lt_two_pow (Nat.lt_of_lt_of_le h (Nat.pow_le_pow_right (by decide) h2))] at h1
    cases h1
theorem mks_bag {T o n : Nat} (hT : T < 2 ^ n) : mks sy wf T o ↔ (elems T n).length ≤ 5 ∧ bagHas sy ((elems T n).map wf) o := by
  constructor
  · rintro ⟨p, h1, h3, h4, h5⟩
    subst h4
    have hp := elems_perm h1 (setOf_mem_lt hT)
    exact ⟨by rw [hp.length_eq]; exact h3, p.map wf, (hp.map wf).symm, h5⟩
  · rintro ⟨h1, w, h2, h3⟩
    obtain ⟨p, h4, h5⟩ := perm_lift wf h2.symm (elems T n) rfl
    exact ⟨p, h4.nodup_iff.mpr (elems_nodup _ _), by rw [h4.length_eq]; exact h1, by rw [setOf_perm h4, setOf_elems hT], by rw [h5]; exact h3⟩
theorem bagHas_perm {l l' : List Nat} {o : Nat} (h : l.Perm l') : bagHas sy l o ↔ bagHas sy l' o := ⟨fun ⟨w, h1, h2⟩ => ⟨w, h1.trans h, h2⟩, fun ⟨w, h1, h2⟩ => ⟨w, h1.trans h.symm, h2⟩⟩
end CAN
theorem sub_refl (s : Nat) : sub s s := fun _ h => h
theorem sub_trans {a b c : Nat} (h1 : sub a b) (h2 : sub b c) : sub a c := fun i h => h2 i (h1 i h)
theorem sub_lt {t s n : Nat} (h : sub t s) (hs : s < 2 ^ n) : t < 2 ^ n := by
  apply Nat.lt_pow_two_of_testBit
  intro i hi
  cases ht : t.testBit i with
  | false => rfl
  | true =>
    have := h i ht
    rw [Nat.testBit_lt_two_pow (Nat.lt_of_lt_of_le hs (Nat.pow_le_pow_right (by decide) hi))] at this
    cases this
theorem sub_sd (a b : Nat) : sub (sd a b) a := fun i h => by rw [sd_bit] at h; exact (Bool.and_eq_true_iff.mp h).1
set_option maxRecDepth 100000 in
theorem sd_pow : ∀ s, s < 512 → ∀ m, m < 9 → s.testBit m = true → s - 2 ^ m = sd s (2 ^ m) ∧ sd s (2 ^ m) < s := by decide +kernel
/-- closing under more men -/
theorem dp_close {n : Nat} (hn : n ≤ 9) {f R : Nat → Nat} (hR : ∀ s, s < 2 ^ n → ∀ o, (R s).testBit o = true ↔ (f s).testBit o = true ∨ ∃ m, m < n ∧ s.testBit m = true ∧ (R (sd s (2 ^ m))).testBit o = true) : ∀ s, s < 2 ^ n → ∀ o, (R s).testBit o = true ↔ ∃ T, sub T s ∧ (f T).testBit o = true := by
  intro s
  have h9 : 2 ^ n ≤ 512 := Nat.pow_le_pow_right (n := 2) (by decide) hn
  induction s using Nat.strongRecOn with
  | ind s ih =>
    intro hs o
    rw [hR s hs o]
    constructor
    · rintro (h | ⟨m, h1, h2, h3⟩)
      · exact ⟨s, sub_refl s, h⟩
      · have hd := sd_pow s (by omega) m (by omega) h2
        obtain ⟨T, h4, h5⟩ := (ih _ hd.2 (by omega) o).mp h3
        exact ⟨T, sub_trans h4 (sub_sd _ _), h5⟩
    · rintro ⟨T, h1, h2⟩
      by_cases hT : T = s
      · subst hT; exact .inl h2
      · refine .inr ?_
        have hx : ∃ i, s.testBit i = true ∧ T.testBit i = false := by
          apply Classical.byContradiction
          intro hx
          apply hT
          apply Nat.eq_of_testBit_eq
          intro i
          cases hTi : T.testBit i with
          | true => rw [h1 i hTi]
          | false =>
            cases hsi : s.testBit i with
            | false => rfl
            | true => exact (hx ⟨i, hsi, hTi⟩).elim
        obtain ⟨m, h3, h4⟩ := hx
        have hm : m < n := by
          rcases Nat.lt_or_ge m n with q | q
          · exact q
          · rw [Nat.testBit_lt_two_pow (Nat.lt_of_lt_of_le hs (Nat.pow_le_pow_right (by decide) q))] at h3
            cases h3
        have hd := sd_pow s (by omega) m (by omega) h3
        refine ⟨m, hm, h3, (ih _ hd.2 (by omega) o).mpr ⟨T, fun i hi => ?_, h2⟩⟩
        rw [sd_bit, h1 i hi, Nat.testBit_two_pow]
        have : ¬ m = i := fun q => by subst q; rw [h4] at hi; cases hi
        simp [this]
/-- bits by a test -/
def bs (p : Nat → Bool) : Nat → Nat
  | 0 => 0
  | n + 1 => bs p n ||| (if p n = true then 2 ^ n else 0)
theorem bs_bit (p : Nat → Bool) (i : Nat) : ∀ n, (bs p n).testBit i = (decide (i < n) && p i)
  | 0 => by simp [bs]
  | n + 1 => by
    rw [bs, Nat.testBit_or, bs_bit p i n]
    by_cases h : i = n
    · subst h
      cases hp : p i <;> simp [Nat.testBit_two_pow]
    · have h2 : (if p n = true then 2 ^ n else 0).testBit i = false := by
        split
        · rw [Nat.testBit_two_pow]; simp; omega
        · exact Nat.zero_testBit _
      rw [h2, Bool.or_false]
      by_cases h3 : i < n
      · simp [h3, (by omega : i < n + 1)]
      · simp [h3]; intro; omega
theorem bs_lt (p : Nat → Bool) (n : Nat) : bs p n < 2 ^ n := by
  apply Nat.lt_pow_two_of_testBit
  intro i hi
  rw [bs_bit]
  simp; omega
theorem bs_congr {p q : Nat → Bool} {n : Nat} (h : ∀ i, i < n → p i = q i) : bs p n = bs q n := by
  apply Nat.eq_of_testBit_eq
  intro i
  rw [bs_bit, bs_bit]
  by_cases hi : i < n
  · rw [h i hi]
  · simp [hi]
/-- numbers of bits -/
def pc (s : Nat) : Nat := (elems s 32).length
theorem elems_ext {s n m : Nat} (hs : s < 2 ^ n) (h : n ≤ m) : elems s m = elems s n := by
  obtain ⟨d, rfl⟩ : ∃ d, m = n + d := ⟨m - n, by omega⟩
  clear h
  induction d with
  | zero => rfl
  | succ d ih =>
    rw [← ih, elems, show n + (d + 1) = n + d + 1 from rfl, List.range_succ, List.filter_append]
    have : s.testBit (n + d) = false := Nat.testBit_lt_two_pow (Nat.lt_of_lt_of_le hs (Nat.pow_le_pow_right (by decide) (by omega)))
    simp [this, elems]
theorem pc_eq {s n : Nat} (hs : s < 2 ^ n) (h : n ≤ 32) : pc s = (elems s n).length := by rw [pc, elems_ext hs h]
