/-! A rule's text: a fault is never 0. -/
section ERR
variable {L k p : Nat} {B : Nat → Nat} {l : List Nat}
theorem valP_e {e : Nat} (q : valP B L k l p = .inl e) : e % 8 ≠ 0 := by
  unfold valP at q
  split at q
  · split at q
    · cases q; omega
    · split at q
      · cases q
      · cases q; omega
  · split at q
    · cases q; omega
    · split at q
      · cases q
      · cases q; omega
theorem sumL_e : ∀ (f : Nat) (w : Option Nat) (k : Nat) (l : List Nat) (p e : Nat), sumL B L f w k l p = .inl e → e % 8 ≠ 0
  | 0, w, k, l, p, e, q => by rw [sumL] at q; cases q
  | f + 1, w, k, l, p, e, q => by
    rw [sumL] at q
    split at q
    · split at q
      · cases q; rename_i z; exact valP_e z
      · exact sumL_e f _ _ _ _ _ q
    · split at q
      · split at q
        · cases q; rename_i z; exact valP_e z
        · exact sumL_e f _ _ _ _ _ q
      · cases q
theorem sumP_e {e : Nat} (q : sumP B L k l p = .inl e) : e % 8 ≠ 0 := by
  unfold sumP at q
  split at q
  · cases q; rename_i z; exact valP_e z
  · exact sumL_e _ _ _ _ _ _ q
theorem cmpP_e {e : Nat} (q : cmpP B L k l p = .inl e) : e % 8 ≠ 0 := by
  unfold cmpP at q
  split at q
  · cases q; rename_i z; exact sumP_e z
  · split at q
    · split at q
      · split at q
        · cases q; rename_i z; exact sumP_e z
        · cases q
      · cases q; omega
    · cases q; omega
theorem tstL_e {F : Nat → List Nat → Nat → RDO} (hF : ∀ k l p e, F k l p = .inl e → e % 8 ≠ 0) : ∀ (f : Nat) (w : Bool) (k : Nat) (l : List Nat) (p e : Nat), tstL B L F f w k l p = .inl e → e % 8 ≠ 0
  | 0, w, k, l, p, e, q => by rw [tstL] at q; cases q
  | f + 1, w, k, l, p, e, q => by
    rw [tstL] at q
    split at q
    · split at q
      · cases q; rename_i z; exact hF _ _ _ _ z
      · exact tstL_e hF f _ _ _ _ _ q
    · split at q
      · split at q
        · cases q; rename_i z; exact hF _ _ _ _ z
        · exact tstL_e hF f _ _ _ _ _ q
      · cases q
theorem rdP_e : ∀ (n : Nat) (c : Bool) (D k : Nat) (l : List Nat) (p e : Nat), D ≤ 10 → 2 * (11 - D) ≤ n + (if c = true then 0 else 1) → rdP B L n c D k l p = .inl e → e % 8 ≠ 0
  | 0, c, D, k, l, p, e, hD, hn, q => by
    exfalso
    split at hn <;> omega
  | n + 1, true, D, k, l, p, e, hD, hn, q => by
    have hn' : 2 * (11 - D) ≤ n + 1 + 0 := hn
    have ih : ∀ k l p e, rdP B L n false D k l p = .inl e → e % 8 ≠ 0 := fun k l p e q => rdP_e n false D k l p e hD (by show 2 * (11 - D) ≤ n + 1; omega) q
    rw [rdP] at q
    split at q
    · cases q; rename_i z; exact ih _ _ _ _ z
    · exact tstL_e ih _ _ _ _ _ _ q
  | n + 1, false, D, k, l, p, e, hD, hn, q => by
    have hn' : 2 * (11 - D) ≤ n + 1 + 1 := hn
    rw [rdP] at q
    split at q
    · split at q
      · split at q
        · cases q; rename_i z; exact rdP_e n false (D + 1) _ _ _ _ (by omega) (by show 2 * (11 - (D + 1)) ≤ n + 1; omega) z
        · cases q
      · cases q; omega
    · split at q
      · split at q
        · split at q
          · cases q; rename_i z; exact rdP_e n true (D + 1) _ _ _ _ (by omega) (by show 2 * (11 - (D + 1)) ≤ n + 0; omega) z
          · split at q
            · cases q
            · cases q; omega
        · cases q; omega
      · exact cmpP_e q
theorem cluP_e {e : Nat} (q : cluP B L k p = .inl e) : e % 8 ≠ 0 := by
  unfold cluP at q
  split at q
  · cases q; rename_i z; exact sumP_e z
  · split at q
    · split at q
      · cases q; rename_i z; exact rdP_e 30 true 0 _ _ _ _ (by omega) (by decide) z
      · cases q
    · cases q
theorem rulP_e : ∀ (f ln k : Nat) (cls : List (List Nat × Option (List Nat))) (p e : Nat), rulP B L f ln k cls p = .inl e → e % 8 ≠ 0
  | 0, ln, k, cls, p, e, q => by rw [rulP] at q; cases q; omega
  | f + 1, ln, k, cls, p, e, q => by
    rw [rulP] at q
    split at q
    · split at q
      · split at q
        · cases q; rename_i z; exact cluP_e z
        · split at q
          · cases q
          · split at q
            · exact rulP_e f _ _ _ _ _ q
            · cases q; omega
      · cases q; omega
    · cases q; omega
theorem nI_e {e : Nat} (q : e % 8 ≠ 0) : ¬ nI e = nI 0 := by
  intro z
  have z' : (nI e).toInt = (nI 0).toInt := by rw [z]
  have t0 : (nI 0).toInt = 0 := by decide
  rw [t0] at z'
  unfold nI at z'
  first
    | (rw [Int32.toInt_ofNat] at z'; simp only [Int.bmod] at z'; omega)
    | (simp [Int32.toInt_ofInt, Int.bmod] at z'; omega)
end ERR
