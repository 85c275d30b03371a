/-! A rule's text: its clauses. -/
def wWake : List Nat := [119, 97, 107, 101]
def wIf : List Nat := [105, 102]
theorem tx5 : tx_ok 5 = true ∧ tx_l 5 = wWake.map nI ∧ (∀ x ∈ wWake, x < 256) ∧ wWake.length < 1000 := by decide +kernel
theorem tx9 : tx_ok 9 = true ∧ tx_l 9 = wIf.map nI ∧ (∀ x ∈ wIf, x < 256) ∧ wIf.length < 1000 := by decide +kernel
/-- a clause behind its wake: parts, the clause, the place -/
def cluP (B : Nat → Nat) (L k p : Nat) : Nat ⊕ (Nat × (List Nat × Option (List Nat)) × Nat) := match sumP B L k [] p with
  | .inl e => .inl e
  | .inr y => if isW B L y.2.2 wIf = true then (match rdP B L 30 true 0 y.1 [] (skp B L (bh B L y.2.2)) with
      | .inl e => .inl e
      | .inr z => .inr (z.1, (y.2.1, some z.2.1), z.2.2)) else .inr (y.1, (y.2.1, none), y.2.2)
/-- the clauses from the one numbered ln on -/
def rulP (B : Nat → Nat) (L : Nat) : Nat → Nat → Nat → List (List Nat × Option (List Nat)) → Nat → Nat ⊕ List (List Nat × Option (List Nat))
  | 0, _, _, _, p => .inl (1 + 8 * p)
  | f + 1, ln, k, cls, p => if isW B L p wWake = true then (if ln < 12 then (match cluP B L k (skp B L (bh B L p)) with
      | .inl e => .inl e
      | .inr y => if ca B L y.2.2 = 256 then .inr (cls ++ [y.2.1]) else if ca B L y.2.2 = 59 then rulP B L f (ln + 1) y.1 (cls ++ [y.2.1]) (skp B L (bh B L y.2.2)) else .inl (1 + 8 * y.2.2)) else .inl (1 + 8 * p + 4)) else .inl (1 + 8 * p)
section RUL
variable {L k p : Nat} {B : Nat → Nat}
theorem GT.nil {n0 k : Nat} (h : n0 ≤ k) : GT n0 [] k [] := ⟨rfl, fun t ht => (by cases ht), by show 0 + n0 ≤ k; omega⟩
theorem cluP_ok {y : Nat × (List Nat × Option (List Nat)) × Nat} (e : cluP B L k p = .inr y) (hp : p ≤ L) (cp : ca B L p ≠ 32) (hk : k ≤ 60) : clOK y.2.1 ∧ (y.2.1.1.length + (teL y.2.1).length) + p ≤ y.2.2 ∧ p < y.2.2 ∧ y.2.2 ≤ L ∧ ca B L y.2.2 ≠ 32 ∧ y.1 ≤ 60 := by
  unfold cluP at e
  split at e
  · cases e
  · rename_i z ez
    obtain ⟨o1, o2, o3, o4, o5, o6, G1⟩ := sumP_ok (n0 := 0) ez hp (GT.nil (Nat.zero_le k))
    have o1' : z.2.1.length + p ≤ 0 + z.2.2 := o1
    split at e
    · rename_i hi
      obtain ⟨b1, b2, b3, b4⟩ := word_bh o3 hi
      split at e
      · cases e
      · rename_i w ew
        have n1 : npu z.2.1 + 0 ≤ z.1 := G1.2.2
        obtain ⟨p1, p2, p3, p4, p5, p6, G2⟩ := rdP_ok (n0 := npu z.2.1) 30 true 0 z.1 [] _ w [] ew b3 b4 o5 (GT.nil (by omega))
        have p1' : w.2.1.length + skp B L (bh B L z.2.2) ≤ 0 + w.2.2 := p1
        cases e
        have n2 : npu w.2.1 + npu z.2.1 ≤ w.1 := G2.2.2
        refine ⟨⟨G1.1, G1.2.1, by dsimp only; omega, fun l hl => ?_⟩, ?_, by dsimp only; omega, p3, p4, p5⟩
        · cases hl
          exact ⟨G2.1, G2.2.1, by dsimp only; omega⟩
        · show z.2.1.length + w.2.1.length + p ≤ w.2.2
          omega
    · cases e
      have n1 : npu z.2.1 + 0 ≤ z.1 := G1.2.2
      refine ⟨⟨G1.1, G1.2.1, by dsimp only; omega, fun l hl => by cases hl⟩, ?_, o2, o3, o4, o5⟩
      show z.2.1.length + 0 + p ≤ z.2.2
      omega
end RUL
