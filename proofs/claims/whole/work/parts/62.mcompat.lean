/-! The looping methods of the reference in the walker's form. -/
theorem in_nI {x : Int32} {n : Nat} (q : vp_in x n) (hn : n < 2 ^ 31) : x.toNatClampNeg < n ∧ x = nI x.toNatClampNeg := by
  obtain ⟨j, hj, e⟩ := vp_in_of q hn
  have : x.toNatClampNeg = j := by rw [e]; exact nI_clamp (by omega)
  rw [this]
  exact ⟨hj, e⟩
def v_ten (n : Int32) (h : pm_H) : Int32 := tenI n.toNatClampNeg
theorem w_ten (b : Bool) (L : Nat) (xs : Nat → Int32) (d : Nat) (hd : 0 ≤ d) (h : pm_H) (hI : IM h) (n : Int32) (b0 : vp_in n 10) : PC b L xs d 209 [.int n] h (fun r0 h2 => r0 = some (.int (v_ten n h)) ∧ h2 = h) := by
  obtain ⟨h1, h2⟩ := in_nI b0 (by decide)
  have := c_ten b L xs d h hI n.toNatClampNeg (by omega)
  rw [← h2] at this
  exact this
def v_bits (s : Int32) (h : pm_H) : Int32 := bitsI s
theorem w_bits (b : Bool) (L : Nat) (xs : Nat → Int32) (d : Nat) (hd : 0 ≤ d) (h : pm_H) (hI : IM h) (s : Int32) : PC b L xs d 150 [.int s] h (fun r0 h2 => r0 = some (.int (v_bits s h)) ∧ h2 = h) := c_bits b L xs d h hI s
def v_aliveSet (h : pm_H) : Int32 := aliveF h (h.2.1 203 1).toNatClampNeg
theorem w_aliveSet (b : Bool) (L : Nat) (xs : Nat → Int32) (d : Nat) (hd : 2 ≤ d) (h : pm_H) (hI : IM h) (b0 : vp_in (h.2.1 203 1) 9) : PC b L xs d 201 [.ref 193] h (fun r0 h2 => r0 = some (.int (v_aliveSet h)) ∧ h2 = h) := by
  obtain ⟨h1, h2⟩ := in_nI b0 (by decide)
  exact c_aliveSet b L xs d hd h hI _ (by omega) h2
def v_awakeSet (h : pm_H) : Int32 := awakeF h (h.2.1 203 1).toNatClampNeg
theorem w_awakeSet (b : Bool) (L : Nat) (xs : Nat → Int32) (d : Nat) (hd : 1 ≤ d) (h : pm_H) (hI : IM h) (b0 : vp_in (h.2.1 203 1) 9) : PC b L xs d 202 [.ref 193] h (fun r0 h2 => r0 = some (.int (v_awakeSet h)) ∧ h2 = h) := by
  obtain ⟨h1, h2⟩ := in_nI b0 (by decide)
  exact c_awakeSet b L xs d hd h hI _ (by omega) h2
def e_keepsAct (h : pm_H) : pm_H := e_kA (h.2.1 193 28).toNatClampNeg h
theorem e_keepsAct_I {h : pm_H} (hI : IM h) : IM (e_keepsAct h) := e_kA_I hI
theorem w_keepsAct (b : Bool) (L : Nat) (xs : Nat → Int32) (d : Nat) (hd : 0 ≤ d) (h : pm_H) (hI : IM h) (b0 : vp_in (h.2.1 193 28) 21) : PC b L xs d 224 [.ref 193] h (fun r0 h2 => r0 = none ∧ h2 = e_keepsAct h) := by
  obtain ⟨h1, h2⟩ := in_nI b0 (by decide)
  exact c_keepsAct b L xs d h hI _ (by omega) h2
