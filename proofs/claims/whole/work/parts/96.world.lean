/-! THE WORLD as the reference holds it (its row said: A), and how the program's cells stand for it. -/
def an (A : Nat → Int32) (i : Nat) : Nat := (A i).toNatClampNeg
/-- x is a number below b -/
def isN (x : Int32) (b : Nat) : Prop := ∃ n, n < b ∧ x = nI n
theorem isN.get {A : Nat → Int32} {i b : Nat} (h : isN (A i) b) (hb : b ≤ 2147483648) : A i = nI (an A i) ∧ an A i < b := by
  obtain ⟨n, h1, h2⟩ := h
  have : an A i = n := by unfold an; rw [h2, nx_cl (by omega)]
  rw [this]
  exact ⟨h2, h1⟩
theorem isN.mono {x : Int32} {b c : Nat} (h : isN x b) (hc : b ≤ c) : isN x c := by
  obtain ⟨n, h1, h2⟩ := h
  exact ⟨n, by omega, h2⟩
def mnA (A : Nat → Int32) (a b : Nat) : Option Nat := if a < 10 ∧ b < 10 ∧ ¬ A (106 + 10 * a + b) < nI 0 then some (an A (106 + 10 * a + b)) else none
def rowL (A : Nat → Int32) (o : Nat) : List Nat := tl (fun i => an A (58 + 6 * o + 2 + i)) (an A (58 + 6 * o + 1))
def ordOf (A : Nat → Int32) (l : List Nat) : Option Nat := (List.range (an A 2)).find? (fun o => rowL A o == l)
def syA (A : Nat → Int32) (w : List Nat) : Option Nat := ordOf A (meaning (mnA A) w)
def isAw (A : Nat → Int32) (m : Nat) : Bool := decide (A (10 + 6 * m + 2) = nI 1)
def isDd (A : Nat → Int32) (m : Nat) : Bool := decide (A (10 + 6 * m + 4) = nI 1)
def isLe (A : Nat → Int32) (m : Nat) : Bool := decide (¬ A 5 = nI 0 ∧ A (10 + 6 * m + 1) = A 5)
def isFit (A : Nat → Int32) (m : Nat) : Bool := !isDd A m && decide (A (10 + 6 * m + 3) = nI 0) && !isLe A m
def WFA (A : Nat → Int32) : Prop :=
  isN (A 0) 11 ∧ isN (A 1) 9 ∧ isN (A 2) 9 ∧ isN (A 3) 11 ∧ isN (A 4) 2000 ∧ isN (A 5) 3 ∧ (A 6 = ng 1 ∨ isN (A 6) (an A 0)) ∧
  (∀ m, m < an A 1 → isN (A (10 + 6 * m)) (an A 0) ∧ isN (A (10 + 6 * m + 1)) 3 ∧ isN (A (10 + 6 * m + 2)) 2 ∧ isN (A (10 + 6 * m + 3)) 10 ∧ isN (A (10 + 6 * m + 4)) 2) ∧
  (∀ o, o < an A 2 → isN (A (58 + 6 * o)) 100 ∧ isN (A (58 + 6 * o + 1)) 5 ∧ 0 < an A (58 + 6 * o + 1) ∧ ∀ i, i < an A (58 + 6 * o + 1) → isN (A (58 + 6 * o + 2 + i)) (an A 0)) ∧
  (∀ a b, a < 10 → b < 10 → A (106 + 10 * a + b) = ng 1 ∨ (isN (A (106 + 10 * a + b)) (an A 0) ∧ a < an A 0 ∧ b < an A 0)) ∧
  isN (A 226) 11 ∧ (∀ k, k < an A 226 → isN (A (206 + 2 * k)) (an A 2) ∧ isN (A (206 + 2 * k + 1)) 2)
section WF
variable {A : Nat → Int32} (w : WFA A)
theorem WFA.e0 {A : Nat → Int32} (w : WFA A) : A 0 = nI (an A 0) ∧ an A 0 < 11 := w.1.get (by omega)
theorem WFA.e1 {A : Nat → Int32} (w : WFA A) : A 1 = nI (an A 1) ∧ an A 1 < 9 := w.2.1.get (by omega)
theorem WFA.e2 {A : Nat → Int32} (w : WFA A) : A 2 = nI (an A 2) ∧ an A 2 < 9 := w.2.2.1.get (by omega)
theorem WFA.e3 {A : Nat → Int32} (w : WFA A) : A 3 = nI (an A 3) ∧ an A 3 < 11 := w.2.2.2.1.get (by omega)
theorem WFA.e4 {A : Nat → Int32} (w : WFA A) : A 4 = nI (an A 4) ∧ an A 4 < 2000 := w.2.2.2.2.1.get (by omega)
theorem WFA.e5 {A : Nat → Int32} (w : WFA A) : A 5 = nI (an A 5) ∧ an A 5 < 3 := w.2.2.2.2.2.1.get (by omega)
theorem WFA.e6 {A : Nat → Int32} (w : WFA A) : A 6 = ng 1 ∨ (A 6 = nI (an A 6) ∧ an A 6 < an A 0) := w.2.2.2.2.2.2.1.elim .inl (fun q => .inr (q.get (by have := w.e0.2; omega)))
theorem WFA.m0 {A : Nat → Int32} (w : WFA A) {m : Nat} (hm : m < an A 1) : A (10 + 6 * m) = nI (an A (10 + 6 * m)) ∧ an A (10 + 6 * m) < an A 0 := (w.2.2.2.2.2.2.2.1 m hm).1.get (by have := w.e0.2; omega)
theorem WFA.m1 {A : Nat → Int32} (w : WFA A) {m : Nat} (hm : m < an A 1) : A (10 + 6 * m + 1) = nI (an A (10 + 6 * m + 1)) ∧ an A (10 + 6 * m + 1) < 3 := (w.2.2.2.2.2.2.2.1 m hm).2.1.get (by omega)
theorem WFA.m2 {A : Nat → Int32} (w : WFA A) {m : Nat} (hm : m < an A 1) : A (10 + 6 * m + 2) = nI (isAw A m).toNat := by
  obtain ⟨n, h1, h2⟩ := (w.2.2.2.2.2.2.2.1 m hm).2.2.1
  unfold isAw
  rw [h2]
  have : n = 0 ∨ n = 1 := by omega
  rcases this with rfl | rfl <;> simp [nx_eq]
theorem WFA.m3 {A : Nat → Int32} (w : WFA A) {m : Nat} (hm : m < an A 1) : A (10 + 6 * m + 3) = nI (an A (10 + 6 * m + 3)) ∧ an A (10 + 6 * m + 3) < 10 := (w.2.2.2.2.2.2.2.1 m hm).2.2.2.1.get (by omega)
theorem WFA.m4 {A : Nat → Int32} (w : WFA A) {m : Nat} (hm : m < an A 1) : A (10 + 6 * m + 4) = nI (isDd A m).toNat := by
  obtain ⟨n, h1, h2⟩ := (w.2.2.2.2.2.2.2.1 m hm).2.2.2.2
  unfold isDd
  rw [h2]
  have : n = 0 ∨ n = 1 := by omega
  rcases this with rfl | rfl <;> simp [nx_eq]
theorem WFA.o0 {A : Nat → Int32} (w : WFA A) {o : Nat} (ho : o < an A 2) : A (58 + 6 * o) = nI (an A (58 + 6 * o)) ∧ an A (58 + 6 * o) < 100 := (w.2.2.2.2.2.2.2.2.1 o ho).1.get (by omega)
theorem WFA.o1 {A : Nat → Int32} (w : WFA A) {o : Nat} (ho : o < an A 2) : A (58 + 6 * o + 1) = nI (an A (58 + 6 * o + 1)) ∧ an A (58 + 6 * o + 1) < 5 := (w.2.2.2.2.2.2.2.2.1 o ho).2.1.get (by omega)
theorem WFA.o1p {A : Nat → Int32} (w : WFA A) {o : Nat} (ho : o < an A 2) : 0 < an A (58 + 6 * o + 1) := (w.2.2.2.2.2.2.2.2.1 o ho).2.2.1
theorem WFA.o2 {A : Nat → Int32} (w : WFA A) {o i : Nat} (ho : o < an A 2) (hi : i < an A (58 + 6 * o + 1)) : A (58 + 6 * o + 2 + i) = nI (an A (58 + 6 * o + 2 + i)) ∧ an A (58 + 6 * o + 2 + i) < an A 0 := ((w.2.2.2.2.2.2.2.2.1 o ho).2.2.2 i hi).get (by have := w.e0.2; omega)
theorem WFA.mn {A : Nat → Int32} (w : WFA A) {a b : Nat} (ha : a < 10) (hb : b < 10) : (A (106 + 10 * a + b) = ng 1 ∧ mnA A a b = none) ∨ (∃ c, A (106 + 10 * a + b) = nI c ∧ c < an A 0 ∧ a < an A 0 ∧ b < an A 0 ∧ mnA A a b = some c) := by
  rcases w.2.2.2.2.2.2.2.2.2.1 a b ha hb with h | ⟨h1, h2, h3⟩
  · refine .inl ⟨h, ?_⟩
    unfold mnA
    rw [if_neg]
    rintro ⟨_, _, h3⟩
    rw [h, ng_lt_n (by omega) (by omega) (by omega)] at h3
    exact h3 trivial
  · have h4 := h1.get (by have := w.e0.2; omega)
    have h0 := w.e0.2
    refine .inr ⟨_, h4.1, h4.2, h2, h3, ?_⟩
    unfold mnA
    rw [if_pos]
    refine ⟨ha, hb, ?_⟩
    rw [h4.1, nx_lt (by omega) (by omega)]
    omega
theorem WFA.d0 {A : Nat → Int32} (w : WFA A) : A 226 = nI (an A 226) ∧ an A 226 < 11 := w.2.2.2.2.2.2.2.2.2.2.1.get (by omega)
theorem WFA.d1 {A : Nat → Int32} (w : WFA A) {k : Nat} (hk : k < an A 226) : A (206 + 2 * k) = nI (an A (206 + 2 * k)) ∧ an A (206 + 2 * k) < an A 2 := (w.2.2.2.2.2.2.2.2.2.2.2 k hk).1.get (by have := w.e2.2; omega)
theorem WFA.mn_lt {A : Nat → Int32} (w : WFA A) {a b c : Nat} (h : mnA A a b = some c) : c < an A 0 ∧ a < an A 0 ∧ b < an A 0 := by
  have hab : a < 10 ∧ b < 10 := by
    unfold mnA at h
    split at h
    · rename_i q; exact ⟨q.1, q.2.1⟩
    · cases h
  rcases w.mn hab.1 hab.2 with ⟨_, q⟩ | ⟨c', _, h2, h3, h4, h5⟩
  · rw [q] at h; cases h
  · rw [h5] at h
    cases h
    exact ⟨h2, h3, h4⟩
theorem WFA.men0 {A : Nat → Int32} (w : WFA A) (h : an A 0 = 0) : an A 1 = 0 ∧ an A 2 = 0 ∧ A 6 = ng 1 := by
  refine ⟨?_, ?_, ?_⟩
  · apply Classical.byContradiction
    intro q
    have := (w.m0 (m := 0) (by omega)).2
    omega
  · apply Classical.byContradiction
    intro q
    have h1 := w.o1p (o := 0) (by omega)
    have := (w.o2 (o := 0) (i := 0) (by omega) h1).2
    omega
  · rcases w.e6 with q | q
    · exact q
    · omega
end WF
theorem WFA.p2 {A : Nat → Int32} (w : WFA A) {o : Nat} (ho : o < an A 2) : 0 < an A 0 := by
  apply Classical.byContradiction
  intro q
  have := w.men0 (by omega)
  omega
theorem WFA.p1 {A : Nat → Int32} (w : WFA A) {m : Nat} (hm : m < an A 1) : 0 < an A 0 := by
  have := (w.m0 hm).2
  omega
/-- the ship in the cells s to s + 9 -/
def CSh (h : pm_H) (s : Nat) (A : Nat → Int32) : Prop :=
  mi_o s 7 = true ∧ h.2.1 s 0 = A 0 ∧ h.2.1 s 1 = A 1 ∧ h.2.1 s 2 = A 2 ∧ h.2.1 s 3 = A 3 ∧
  (∀ m, m < an A 1 → h.2.1 (s + 1) m = A (10 + 6 * m) ∧ h.2.1 (s + 2) m = A (10 + 6 * m + 1)) ∧
  (∀ o, o < an A 2 → h.2.1 (s + 3) o = A (58 + 6 * o) ∧ h.2.1 (s + 4) o = A (58 + 6 * o + 1) ∧ ∀ i, i < an A (58 + 6 * o + 1) → h.2.1 (s + 5) (o * 4 + i) = A (58 + 6 * o + 2 + i)) ∧
  (∀ a b, a < 10 → b < 10 → 0 < an A 0 → h.2.1 (s + 9) (a * 10 + b) = if A (106 + 10 * a + b) = ng 1 then ng 2 else A (106 + 10 * a + b)) ∧
  (∀ k, k < an A 3 → isN (h.2.1 (s + 6) k) (an A 0) ∧ isN (h.2.1 (s + 7) k) (an A 0) ∧ isN (h.2.1 (s + 8) k) (an A 0)) ∧
  mtab (mnA A) (an A 3) (an (h.2.1 (s + 6))) (an (h.2.1 (s + 7))) (an (h.2.1 (s + 8)))
/-- the hands in the cells c to c + 2 -/
def CHd (h : pm_H) (c : Nat) (A : Nat → Int32) : Prop :=
  mi_o c 3 = true ∧ h.2.1 c 0 = nI (bs (isAw A) (an A 1)) ∧ h.2.1 c 1 = nI (bs (isDd A) (an A 1)) ∧ h.2.1 c 2 = A 4 ∧ h.2.1 c 3 = A 5 ∧ h.2.1 c 4 = A 6 ∧
  ∀ m, m < an A 1 → h.2.1 (c + 1) m = A (10 + 6 * m + 3) ∧ h.2.1 (c + 2) m = A (10 + 6 * m + 5)
/-- what was done, in the cells w and w + 4 -/
def CDn (h : pm_H) (w : Nat) (A : Nat → Int32) : Prop :=
  mi_o w 9 = true ∧ h.2.1 w 2 = A 226 ∧ (∀ k, k < an A 226 → h.2.1 (w + 4) k = A (206 + 2 * k)) ∧
  ∃ d, d < 1024 ∧ h.2.1 w 4 = nI d ∧ ∀ k, k < an A 226 → A (206 + 2 * k + 1) = nI (d.testBit k).toNat
