/-! Loops of the reference, by hand over the blocks of part 52. -/
def tenI : Nat → Int32
  | 0 => 1
  | k + 1 => tenI k * 10
theorem k_10 : (Int8.ofInt 10).toInt32 = (10 : Int32) := by decide
theorem k_0 : Int32.ofInt 0 = (0 : Int32) := by decide
theorem k_1 : Int32.ofInt 1 = (1 : Int32) := by decide
theorem k_s (k : Nat) : nI k + Int32.ofInt 1 = nI (k + 1) := nI_1 k
theorem k_n0 : nI 0 = Int32.ofInt 0 := by decide
/-- ten(n): the n-th power of 10 -/
theorem c_ten (b : Bool) (L : Nat) (xs : Nat → Int32) (d : Nat) (h : pm_H) (hI : IM h) (N : Nat) (hN : N < 2 ^ 31) : PC b L xs d 209 [.int (nI N)] h (fun r0 h2 => r0 = some (.int (tenI N)) ∧ h2 = h) := by
  refine pc_in (n := 3) (by decide +kernel) (ls0 := [.int (nI N), .retAddr 0, .retAddr 0]) rfl ?_
  refine l_ten_0 b L xs d (Nat.zero_le d) h hI (nI N) ?_
  have key : ∀ m k, k + m = N → PW b L xs d 209 0 0 4 [.int (nI N), .int (tenI k), .int (nI k)] [] h (fun r0 h2 => r0 = some (.int (tenI N)) ∧ h2 = h) := by
    intro m
    induction m with
    | zero =>
      intro k hk
      have e : k = N := by omega
      subst e
      exact l_ten_4 b L xs d (Nat.zero_le d) h hI (nI k) (tenI k) (nI k) (fun c => absurd (nI_le (Nat.le_refl k) hN) c) (fun _ => ⟨rfl, rfl⟩)
    | succ m ih =>
      intro k hk
      refine l_ten_4 b L xs d (Nat.zero_le d) h hI (nI N) (tenI k) (nI k) (fun _ => ?_) (fun c => absurd c (nI_ge (by omega) hN))
      have e1 : tenI k * (Int8.ofInt 10).toInt32 = tenI (k + 1) := by rw [k_10]; rfl
      rw [e1, k_s]
      exact ih (k + 1) (by omega)
  have := key N 0 (by omega)
  rw [show tenI 0 = Int32.ofInt 1 from k_1.symm, k_n0] at this
  exact this
/-- the bits of a set, as the loop counts them -/
def bitsF : Nat → Int32 → Int32 → Int32
  | 0, _, n => n
  | f + 1, s, n => if s = 0 then n else bitsF f (s &&& (s - 1)) (n + 1)
def bitsI (s : Int32) : Int32 := bitsF s.toBitVec.toNat s 0
theorem bits_lt {s : Int32} (h : ¬ s = 0) : (s &&& (s - 1)).toBitVec.toNat < s.toBitVec.toNat := by
  have h0 : s.toBitVec.toNat ≠ 0 := fun e => h (Int32.toBitVec_inj.mp (BitVec.eq_of_toNat_eq (by rw [e]; rfl)))
  have hl : s.toBitVec.toNat < 2 ^ 32 := s.toBitVec.isLt
  have e1 : (s &&& (s - 1)).toBitVec.toNat = s.toBitVec.toNat &&& (s - 1).toBitVec.toNat := by rw [Int32.toBitVec_and, BitVec.toNat_and]
  have e2 : (s - 1).toBitVec.toNat = s.toBitVec.toNat - 1 := by
    rw [Int32.toBitVec_sub, BitVec.toNat_sub]
    show (2 ^ 32 - 1 + s.toBitVec.toNat) % 2 ^ 32 = _
    omega
  rw [e1, e2]
  have := Nat.and_le_right (n := s.toBitVec.toNat) (m := s.toBitVec.toNat - 1)
  omega
theorem bitsF_more : ∀ (f g : Nat) (s n : Int32), s.toBitVec.toNat ≤ f → s.toBitVec.toNat ≤ g → bitsF f s n = bitsF g s n := by
  intro f
  induction f with
  | zero =>
    intro g s n h1 h2
    have : s = 0 := Int32.toBitVec_inj.mp (BitVec.eq_of_toNat_eq (by rw [Nat.le_zero.mp h1]; rfl))
    cases g with
    | zero => rfl
    | succ g => simp [bitsF, this]
  | succ f ih =>
    intro g s n h1 h2
    by_cases hs : s = 0
    · cases g with
      | zero => simp [bitsF, hs]
      | succ g => simp [bitsF, hs]
    · have hlt := bits_lt hs
      cases g with
      | zero => omega
      | succ g =>
        simp only [bitsF, if_neg hs]
        exact ih g _ _ (by omega) (by omega)
theorem c_bits (b : Bool) (L : Nat) (xs : Nat → Int32) (d : Nat) (h : pm_H) (hI : IM h) (s : Int32) : PC b L xs d 150 [.int s] h (fun r0 h2 => r0 = some (.int (bitsI s)) ∧ h2 = h) := by
  refine pc_in (n := 3) (by decide +kernel) (ls0 := [.int s, .retAddr 0, .retAddr 0]) rfl ?_
  refine l_bits_0 b L xs d (Nat.zero_le d) h hI s ?_
  have key : ∀ (f : Nat) (t n : Int32), t.toBitVec.toNat ≤ f → ∀ {Q : Option Value → pm_H → Prop}, Q (some (.int (bitsF f t n))) h → PW b L xs d 150 0 0 4 [.int s, .int n, .int t] [] h Q := by
    intro f
    induction f with
    | zero =>
      intro t n ht Q hQ
      have e : t = 0 := Int32.toBitVec_inj.mp (BitVec.eq_of_toNat_eq (by rw [Nat.le_zero.mp ht]; rfl))
      exact l_bits_4 b L xs d (Nat.zero_le d) h hI s n t (fun c => absurd e c) (fun _ => hQ)
    | succ f ih =>
      intro t n ht Q hQ
      refine l_bits_4 b L xs d (Nat.zero_le d) h hI s n t (fun c => ?_) (fun c => ?_)
      · have hlt := bits_lt c
        rw [k_1]
        refine ih _ _ (by omega) ?_
        simpa only [bitsF, if_neg c] using hQ
      · simpa only [bitsF, if_pos c] using hQ
  rw [k_0]
  exact key _ s 0 (Nat.le_refl _) ⟨rfl, rfl⟩
/-- a man's cells lie in the row -/
theorem man_in : ∀ k, k < 8 → ∀ j, j < 6 → vp_in (((Int8.ofInt 10).toInt32 + ((Int8.ofInt 6).toInt32 * nI k)) + nI j) 227 := by
  unfold vp_in
  decide
theorem n_2 : Int32.ofInt 2 = nI 2 := by decide
theorem n_4 : Int32.ofInt 4 = nI 4 := by decide
theorem cl_1 : (Int32.ofInt 1).toNatClampNeg = 1 := by decide
/-- who is not dead, as bits -/
def aliveF (h : pm_H) : Nat → Int32
  | 0 => 0
  | k + 1 => aliveF h k ||| (if v_isAlive (nI k) h = 0 then (0 : Int32) else (1 : Int32) <<< (nI k &&& 31))
theorem c_aliveSet (b : Bool) (L : Nat) (xs : Nat → Int32) (d : Nat) (hd : 2 ≤ d) (h : pm_H) (hI : IM h) (K : Nat) (hK : K ≤ 8) (hm : h.2.1 203 1 = nI K) : PC b L xs d 201 [.ref 193] h (fun r0 h2 => r0 = some (.int (aliveF h K)) ∧ h2 = h) := by
  refine pc_in (n := 3) (by decide +kernel) (ls0 := [.ref 193, .retAddr 0, .retAddr 0]) rfl ?_
  refine l_aliveSet_0 b L xs d (Nat.zero_le d) h hI ?_
  have key : ∀ m k, k + m = K → PW b L xs d 201 0 0 4 [.ref 193, .int (aliveF h k), .int (nI k)] [] h (fun r0 h2 => r0 = some (.int (aliveF h K)) ∧ h2 = h) := by
    intro m
    induction m with
    | zero =>
      intro k hk
      have e : k = K := by omega
      subst e
      refine l_aliveSet_4 b L xs d hd h hI (aliveF h k) (nI k) (fun c => ?_) (fun c => ?_) (fun c => ?_) (fun _ => ⟨rfl, rfl⟩)
      all_goals rw [cl_1, hm] at c; exact absurd (nI_le (Nat.le_refl k) (by omega)) c
    | succ m ih =>
      intro k hk
      refine l_aliveSet_4 b L xs d hd h hI (aliveF h k) (nI k) (fun _ _ => ?_) (fun _ ca => ?_) (fun _ ca => ?_) (fun c => ?_)
      · rw [n_4]; exact man_in k (by omega) 4 (by decide)
      · have := ih (k + 1) (by omega)
        rw [aliveF, if_pos ca] at this
        rw [k_0, k_s]; exact this
      · have := ih (k + 1) (by omega)
        rw [aliveF, if_neg ca] at this
        rw [k_s, k_1]; exact this
      · rw [cl_1, hm] at c
        exact absurd c (nI_ge (by omega) (by omega))
  have := key K 0 (by omega)
  rw [show aliveF h 0 = Int32.ofInt 0 from k_0.symm, k_n0] at this
  exact this
/-- who is awake, as bits -/
def awakeF (h : pm_H) : Nat → Int32
  | 0 => 0
  | k + 1 => awakeF h k ||| (v_manOf (nI k) (Int32.ofInt 2) h <<< (nI k &&& 31))
theorem c_awakeSet (b : Bool) (L : Nat) (xs : Nat → Int32) (d : Nat) (hd : 1 ≤ d) (h : pm_H) (hI : IM h) (K : Nat) (hK : K ≤ 8) (hm : h.2.1 203 1 = nI K) : PC b L xs d 202 [.ref 193] h (fun r0 h2 => r0 = some (.int (awakeF h K)) ∧ h2 = h) := by
  refine pc_in (n := 3) (by decide +kernel) (ls0 := [.ref 193, .retAddr 0, .retAddr 0]) rfl ?_
  refine l_awakeSet_0 b L xs d (Nat.zero_le d) h hI ?_
  have key : ∀ m k, k + m = K → PW b L xs d 202 0 0 4 [.ref 193, .int (awakeF h k), .int (nI k)] [] h (fun r0 h2 => r0 = some (.int (awakeF h K)) ∧ h2 = h) := by
    intro m
    induction m with
    | zero =>
      intro k hk
      have e : k = K := by omega
      subst e
      refine l_awakeSet_4 b L xs d hd h hI (awakeF h k) (nI k) (fun c => ?_) (fun c => ?_) (fun _ => ⟨rfl, rfl⟩)
      all_goals rw [cl_1, hm] at c; exact absurd (nI_le (Nat.le_refl k) (by omega)) c
    | succ m ih =>
      intro k hk
      refine l_awakeSet_4 b L xs d hd h hI (awakeF h k) (nI k) (fun _ => ?_) (fun _ => ?_) (fun c => ?_)
      · rw [n_2]; exact man_in k (by omega) 2 (by decide)
      · rw [k_s]
        exact ih (k + 1) (by omega)
      · rw [cl_1, hm] at c
        exact absurd c (nI_ge (by omega) (by omega))
  have := key K 0 (by omega)
  rw [show awakeF h 0 = Int32.ofInt 0 from k_0.symm, k_n0] at this
  exact this
