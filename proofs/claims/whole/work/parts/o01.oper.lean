/-! Rules: the operations, by the reference's signs; the program's codes for them. -/
def opf (s : Nat) (x y : Int64) : Int64 :=
  if s = 2 then x + y else if s = 3 then x - y else if s = 4 then x * y else
  if s = 5 then (if y = 0 then 0 else x / y) else
  if s = 6 then (if 0 ≤ lg_cmp x y then 0 else 1) else
  if s = 7 then (if 0 < lg_cmp x y then 0 else 1) else
  if s = 8 then (if ¬ lg_cmp x y = 0 then 0 else 1) else
  if s = 9 then (if lg_cmp x y < 0 then 0 else 1) else
  if s = 10 then (if lg_cmp x y ≤ 0 then 0 else 1) else
  if s = 12 then x &&& y else if s = 13 then x ||| y else
  (if y = 0 then 0 else x - x / y * y)
/-- the signs of two values -/
def isOp (s : Nat) : Prop := s = 2 ∨ s = 3 ∨ s = 4 ∨ s = 5 ∨ s = 6 ∨ s = 7 ∨ s = 8 ∨ s = 9 ∨ s = 10 ∨ s = 12 ∨ s = 13 ∨ s = 14
/-- a sign's code in the program -/
def opc (s : Nat) : Int32 := if s = 2 then ng 143 else if s = 3 then ng 145 else if s = 4 then ng 142 else if s = 5 then ng 147 else if s = 6 then ng 160 else if s = 7 then ng 416 else if s = 8 then ng 161 else if s = 9 then ng 418 else if s = 10 then ng 162 else if s = 12 then ng 13 else if s = 13 then ng 14 else ng 137
theorem lg_0 (y : Int64) : (¬ lg_cmp y (Int64.ofNat 0) = 0) = ¬ y = 0 := by
  have h1 := lg_cmp_lt y (Int64.ofNat 0)
  have h2 := lg_cmp_gt y (Int64.ofNat 0)
  apply propext
  constructor
  · intro q e
    apply q
    rw [e]
    decide
  · intro q e
    apply q
    have n1 : ¬ y < Int64.ofNat 0 := fun z => by
      have := h1.mpr z
      rw [e] at this
      exact absurd this (by decide)
    have n2 : ¬ Int64.ofNat 0 < y := fun z => by
      have := h2.mpr z
      rw [e] at this
      exact absurd this (by decide)
    rw [Int64.lt_iff_toInt_lt] at n1 n2
    apply Int64.toInt_inj.1
    have e0 : (Int64.ofNat 0).toInt = 0 := by decide
    have e1 : (0 : Int64).toInt = 0 := by decide
    omega
theorem nzl_t {y : Int64} (h : ¬ y = 0) : mi_nzl y = true := by
  unfold mi_nzl
  exact decide_eq_true h
theorem op_dv (y Z : Int64) : (if ¬ lg_cmp y (Int64.ofNat 0) = 0 then (if mi_nzl y = true then some Z else none) else some (Int64.ofNat 0)) = some (if y = 0 then 0 else Z) := by
  by_cases q : y = 0
  · rw [if_neg (by rw [lg_0]; exact fun z => z q), if_pos q]
    rfl
  · rw [if_pos (by rw [lg_0]; exact q), if_pos (nzl_t q), if_neg q]
theorem op_cp {c : Prop} [Decidable c] : (if c then some (Int64.ofNat 0) else some (Int64.ofNat 1)) = some (if c then 0 else 1) := by
  split <;> rfl
theorem m_one_n (h : pm_H) {s : Nat} (x y : Int64) (hs : isOp s) : m_one (nI s) x y h = some (opf s x y) := by
  unfold m_one
  rcases hs with rfl | rfl | rfl | rfl | rfl | rfl | rfl | rfl | rfl | rfl | rfl | rfl <;>
    repeat (first | refine (if_neg (by decide)).trans ?_ | refine (if_pos rfl).trans ?_)
  · rfl
  · rfl
  · rfl
  · exact op_dv y (x / y)
  · exact op_cp
  · exact op_cp
  · exact op_cp
  · exact op_cp
  · exact op_cp
  · rfl
  · rfl
  · exact op_dv y (x - x / y * y)
theorem u_comb_n (h : pm_H) {s : Nat} (x y : Int64) (hs : isOp s) : u_combined (opc s) x y h = some (opf s x y) := by
  unfold u_combined u_combined_12
  rcases hs with rfl | rfl | rfl | rfl | rfl | rfl | rfl | rfl | rfl | rfl | rfl | rfl <;>
    repeat (first | refine (if_neg (by decide)).trans ?_ | refine (if_pos (by decide)).trans ?_)
  · rfl
  · rfl
  · rfl
  · exact op_dv y (x / y)
  · exact op_cp
  · exact op_cp
  · exact op_cp
  · exact op_cp
  · exact op_cp
  · rfl
  · rfl
  · exact op_dv y (x - x / y * y)
/-- a token's code in the program: numbers, letters, not, signs -/
def tkc (t : Nat) : Int32 := if t % 16 = 0 then nI (t / 16) else if t % 16 = 1 then ng (1 + t / 16) else if t % 16 = 11 then ng 12 else opc (t % 16)
/-! values on a stack, its top first -/
def ev1 (W : Nat → Int64) (t : Nat) (st : List Int64) : List Int64 := if t % 16 = 0 then qN (t / 16) :: st else if t % 16 = 1 then W (t / 16) :: st else if t % 16 = 11 then (match st with
  | x :: r => (1 - x) :: r
  | [] => []) else match st with
  | y :: x :: r => opf (t % 16) x y :: r
  | _ => []
/-- kinds of the values on the stack: whether they are facts -/
def ty1 (t : Nat) (ts : List Bool) : Option (List Bool) := if t % 16 = 0 then (if t / 16 < 100000 then some (false :: ts) else none) else if t % 16 = 1 then (if t / 16 < 11 then some (false :: ts) else none) else if t % 16 = 11 then (match ts with
  | true :: r => some (true :: r)
  | _ => none) else if t % 16 = 12 ∨ t % 16 = 13 then (match ts with
  | true :: true :: r => some (true :: r)
  | _ => none) else if 6 ≤ t % 16 ∧ t % 16 ≤ 10 then (match ts with
  | false :: false :: r => some (true :: r)
  | _ => none) else if t % 16 = 15 then none else (match ts with
  | false :: false :: r => some (false :: r)
  | _ => none)
def CM : List Int64 → List Bool → Prop
  | [], [] => True
  | x :: s, b :: t => (b = true → x = 0 ∨ x = 1) ∧ CM s t
  | _, _ => False
theorem CM_len : ∀ {s : List Int64} {t : List Bool}, CM s t → s.length = t.length
  | [], [], _ => rfl
  | _ :: s, _ :: t, h => by rw [List.length_cons, List.length_cons, CM_len h.2]
  | [], _ :: _, h => h.elim
  | _ :: _, [], h => h.elim
theorem op_bool {s : Nat} {x y : Int64} (hs : 6 ≤ s ∧ s ≤ 10) : opf s x y = 0 ∨ opf s x y = 1 := by
  have : s = 6 ∨ s = 7 ∨ s = 8 ∨ s = 9 ∨ s = 10 := by omega
  rcases this with rfl | rfl | rfl | rfl | rfl
  · show (if 0 ≤ lg_cmp x y then (0 : Int64) else 1) = 0 ∨ (if 0 ≤ lg_cmp x y then (0 : Int64) else 1) = 1
    split
    · exact .inl rfl
    · exact .inr rfl
  · show (if 0 < lg_cmp x y then (0 : Int64) else 1) = 0 ∨ (if 0 < lg_cmp x y then (0 : Int64) else 1) = 1
    split
    · exact .inl rfl
    · exact .inr rfl
  · show (if ¬ lg_cmp x y = 0 then (0 : Int64) else 1) = 0 ∨ (if ¬ lg_cmp x y = 0 then (0 : Int64) else 1) = 1
    split
    · exact .inl rfl
    · exact .inr rfl
  · show (if lg_cmp x y < 0 then (0 : Int64) else 1) = 0 ∨ (if lg_cmp x y < 0 then (0 : Int64) else 1) = 1
    split
    · exact .inl rfl
    · exact .inr rfl
  · show (if lg_cmp x y ≤ 0 then (0 : Int64) else 1) = 0 ∨ (if lg_cmp x y ≤ 0 then (0 : Int64) else 1) = 1
    split
    · exact .inl rfl
    · exact .inr rfl
/-- what a token finds on the stack, and what it leaves -/
theorem ty1_cases {t : Nat} {ts ts' : List Bool} {st : List Int64} (h : ty1 t ts = some ts') (c : CM st ts) (W : Nat → Int64) :
    (t % 16 = 0 ∧ t / 16 < 100000 ∧ ts' = false :: ts ∧ ev1 W t st = qN (t / 16) :: st) ∨
    (t % 16 = 1 ∧ t / 16 < 11 ∧ ts' = false :: ts ∧ ev1 W t st = W (t / 16) :: st) ∨
    (t % 16 = 11 ∧ ∃ x r rs, st = x :: r ∧ ts = true :: rs ∧ ts' = true :: rs ∧ (x = 0 ∨ x = 1) ∧ CM r rs ∧ ev1 W t st = (1 - x) :: r) ∨
    (isOp (t % 16) ∧ ∃ x y r b b' rs, st = y :: x :: r ∧ ts = b :: b :: rs ∧ ts' = b' :: rs ∧ CM r rs ∧ (b' = true → opf (t % 16) x y = 0 ∨ opf (t % 16) x y = 1) ∧ ev1 W t st = opf (t % 16) x y :: r) := by
  unfold ty1 at h
  unfold ev1
  by_cases q0 : t % 16 = 0
  · rw [if_pos q0] at h
    split at h
    · cases h
      exact .inl ⟨q0, by assumption, rfl, by rw [if_pos q0]⟩
    · cases h
  rw [if_neg q0] at h
  by_cases q1 : t % 16 = 1
  · rw [if_pos q1] at h
    split at h
    · cases h
      exact .inr (.inl ⟨q1, by assumption, rfl, by rw [if_neg q0, if_pos q1]⟩)
    · cases h
  rw [if_neg q1] at h
  by_cases q2 : t % 16 = 11
  · rw [if_pos q2] at h
    match ts, st, h, c with
    | true :: rs, x :: r, h, c =>
      cases h
      exact .inr (.inr (.inl ⟨q2, x, r, rs, rfl, rfl, rfl, c.1 rfl, c.2, by rw [if_neg q0, if_neg q1, if_pos q2]⟩))
    | true :: rs, [], h, c => exact c.elim
  rw [if_neg q2] at h
  rw [if_neg q0, if_neg q1, if_neg q2]
  by_cases q3 : t % 16 = 12 ∨ t % 16 = 13
  · rw [if_pos q3] at h
    match ts, st, h, c with
    | true :: true :: rs, y :: x :: r, h, c =>
      cases h
      refine .inr (.inr (.inr ⟨by unfold isOp; omega, x, y, r, true, true, rs, rfl, rfl, rfl, c.2.2, fun _ => ?_, rfl⟩))
      have hy := c.1 rfl
      have hx := c.2.1 rfl
      rcases q3 with q3 | q3 <;> rw [q3] <;> rcases hx with rfl | rfl <;> rcases hy with rfl | rfl <;> decide
    | true :: true :: rs, [y], h, c => exact c.2.elim
    | true :: true :: rs, [], h, c => exact c.elim
  rw [if_neg q3] at h
  by_cases q4 : 6 ≤ t % 16 ∧ t % 16 ≤ 10
  · rw [if_pos q4] at h
    match ts, st, h, c with
    | false :: false :: rs, y :: x :: r, h, c =>
      cases h
      exact .inr (.inr (.inr ⟨by unfold isOp; omega, x, y, r, false, true, rs, rfl, rfl, rfl, c.2.2, fun _ => op_bool q4, rfl⟩))
    | false :: false :: rs, [y], h, c => exact c.2.elim
    | false :: false :: rs, [], h, c => exact c.elim
  rw [if_neg q4] at h
  by_cases q5 : t % 16 = 15
  · rw [if_pos q5] at h
    cases h
  rw [if_neg q5] at h
  match ts, st, h, c with
  | false :: false :: rs, y :: x :: r, h, c =>
    cases h
    exact .inr (.inr (.inr ⟨by unfold isOp; omega, x, y, r, false, false, rs, rfl, rfl, rfl, c.2.2, fun q => (by cases q), rfl⟩))
  | false :: false :: rs, [y], h, c => exact c.2.elim
  | false :: false :: rs, [], h, c => exact c.elim
theorem not_bool {x : Int64} (h : x = 0 ∨ x = 1) : (1 - x = 0 ∨ 1 - x = 1) ∧ (if ¬ lg_cmp x (Int64.ofNat 0) = 0 then Int64.ofNat 0 else Int64.ofNat 1) = 1 - x := by
  rcases h with rfl | rfl <;> decide
theorem ev1_cm {t : Nat} {ts ts' : List Bool} {st : List Int64} (h : ty1 t ts = some ts') (c : CM st ts) (W : Nat → Int64) : CM (ev1 W t st) ts' := by
  rcases ty1_cases h c W with ⟨_, _, rfl, e⟩ | ⟨_, _, rfl, e⟩ | ⟨_, x, r, rs, rfl, rfl, rfl, hx, hc, e⟩ | ⟨_, x, y, r, b, b', rs, rfl, rfl, rfl, hc, hb, e⟩
  · rw [e]; exact ⟨fun q => (by cases q), c⟩
  · rw [e]; exact ⟨fun q => (by cases q), c⟩
  · rw [e]; exact ⟨fun _ => (not_bool hx).1, hc⟩
  · rw [e]; exact ⟨hb, hc⟩
