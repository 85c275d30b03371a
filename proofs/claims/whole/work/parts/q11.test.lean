/-! A rule's text: tests, as they are read. -/
def wNot : List Nat := [110, 111, 116]
def wAnd : List Nat := [97, 110, 100]
def wOrw : List Nat := [111, 114]
def finO (w : Bool) (l : List Nat) : List Nat := if w = true then l ++ [13] else l
/-- facts joined: w whether an or waits -/
def tstL (B : Nat → Nat) (L : Nat) (F : Nat → List Nat → Nat → RDO) : Nat → Bool → Nat → List Nat → Nat → RDO
  | 0, w, k, l, p => .inr (k, finO w l, p)
  | f + 1, w, k, l, p => if isW B L p wAnd = true then (match F k l (skp B L (bh B L p)) with
      | .inl e => .inl e
      | .inr y => tstL B L F f w y.1 (y.2.1 ++ [12]) y.2.2)
    else if isW B L p wOrw = true then (match F k (finO w l) (skp B L (bh B L p)) with
      | .inl e => .inl e
      | .inr y => tstL B L F f true y.1 y.2.1 y.2.2)
    else .inr (k, finO w l, p)
/-- facts (false) and tests (true), so deep -/
def rdP (B : Nat → Nat) (L : Nat) : Nat → Bool → Nat → Nat → List Nat → Nat → RDO
  | 0, _, _, _, _, _ => .inl 0
  | n + 1, true, D, k, l, p => (match rdP B L n false D k l p with
      | .inl e => .inl e
      | .inr y => tstL B L (rdP B L n false D) 400 false y.1 y.2.1 y.2.2)
  | n + 1, false, D, k, l, p => if isW B L p wNot = true then (if D < 10 then (match rdP B L n false (D + 1) k l (skp B L (bh B L p)) with
        | .inl e => .inl e
        | .inr y => .inr (y.1, y.2.1 ++ [11], y.2.2)) else .inl (1 + 8 * p + 2))
      else if ca B L p = 91 then (if D < 10 then (match rdP B L n true (D + 1) k l (skp B L (bh B L p)) with
        | .inl e => .inl e
        | .inr y => if ca B L y.2.2 = 93 then .inr (y.1, y.2.1, skp B L (bh B L y.2.2)) else .inl (1 + 8 * y.2.2)) else .inl (1 + 8 * p + 2))
      else cmpP B L k l p
/-- what a reader that came to an end has kept -/
def RK (B : Nat → Nat) (L n0 k : Nat) (l : List Nat) (p : Nat) (ts : List Bool) (y : Nat × List Nat × Nat) : Prop := y.2.1.length + p ≤ l.length + y.2.2 ∧ p < y.2.2 ∧ y.2.2 ≤ L ∧ ca B L y.2.2 ≠ 32 ∧ y.1 ≤ 60 ∧ k ≤ y.1 ∧ GT n0 ts y.1 y.2.1
section TST
variable {n0 L : Nat} {B : Nat → Nat}
theorem GT.fact {ts : List Bool} {k : Nat} {l : List Nat} (G : GT n0 (true :: true :: ts) k l) {t : Nat} (ht : t = 12 ∨ t = 13) : GT n0 (true :: ts) k (l ++ [t]) := by
  rcases ht with rfl | rfl <;> exact G.add rfl (by decide) (Nat.le_refl k)
def tso (w : Bool) (ts : List Bool) : List Bool := if w = true then true :: true :: ts else true :: ts
theorem GT.finO {w : Bool} {ts : List Bool} {k : Nat} {l : List Nat} (G : GT n0 (tso w ts) k l) : GT n0 (true :: ts) k (finO w l) := by
  cases w with
  | false => exact G
  | true => exact GT.fact G (.inr rfl)
theorem finO_len (w : Bool) (l : List Nat) : (finO w l).length = l.length + w.toNat := by
  cases w with
  | false => rfl
  | true => exact List.length_append
theorem word_bh {p : Nat} {w : List Nat} (hp : p ≤ L) (e : isW B L p w = true) : p < bh B L p ∧ bh B L p ≤ skp B L (bh B L p) ∧ skp B L (bh B L p) ≤ L ∧ ca B L (skp B L (bh B L p)) ≠ 32 := by
  have bg := bh_ge (B := B) hp
  have sg := skp_ge (B := B) bg.2
  exact ⟨bh_gt hp (kd_256 (isW_k2 e) (by omega)), sg.1, sg.2, skp_ca bg.2⟩
theorem tstL_ok {F : Nat → List Nat → Nat → RDO} (hF : ∀ k l p y ts, F k l p = .inr y → p ≤ L → ca B L p ≠ 32 → k ≤ 60 → GT n0 ts k l → RK B L n0 k l p (true :: ts) y) : ∀ (f : Nat) (w : Bool) (k : Nat) (l : List Nat) (p : Nat) (y : Nat × List Nat × Nat) (ts : List Bool), tstL B L F f w k l p = .inr y → p ≤ L → ca B L p ≠ 32 → k ≤ 60 → GT n0 (tso w ts) k l → y.2.1.length + p ≤ l.length + w.toNat + y.2.2 ∧ p ≤ y.2.2 ∧ y.2.2 ≤ L ∧ ca B L y.2.2 ≠ 32 ∧ y.1 ≤ 60 ∧ k ≤ y.1 ∧ GT n0 (true :: ts) y.1 y.2.1
  | 0, w, k, l, p, y, ts, e, hp, cp, hk, G => by
    rw [tstL] at e
    cases e
    have := finO_len w l
    exact ⟨by dsimp only; omega, Nat.le_refl p, hp, cp, hk, Nat.le_refl k, G.finO⟩
  | f + 1, w, k, l, p, y, ts, e, hp, cp, hk, G => by
    rw [tstL] at e
    split at e
    · rename_i hx
      obtain ⟨b1, b2, b3, b4⟩ := word_bh hp hx
      split at e
      · cases e
      · rename_i z ez
        obtain ⟨o1, o2, o3, o4, o5, o6, G1⟩ := hF _ _ _ _ _ ez b3 b4 hk G
        have G2 : GT n0 (tso w ts) z.1 (z.2.1 ++ [12]) := by
          cases w with
          | false => exact GT.fact G1 (.inl rfl)
          | true => exact GT.fact G1 (.inl rfl)
        have ln : (z.2.1 ++ [12]).length = z.2.1.length + 1 := List.length_append
        obtain ⟨i1, i2, i3, i4, i5, i6, i7⟩ := tstL_ok hF f w z.1 (z.2.1 ++ [12]) z.2.2 y ts e o3 o4 o5 G2
        exact ⟨by omega, by omega, i3, i4, i5, by omega, i7⟩
    · split at e
      · rename_i hx
        obtain ⟨b1, b2, b3, b4⟩ := word_bh hp hx
        split at e
        · cases e
        · rename_i z ez
          have fl := finO_len w l
          obtain ⟨o1, o2, o3, o4, o5, o6, G1⟩ := hF _ _ _ _ _ ez b3 b4 hk G.finO
          obtain ⟨i1, i2, i3, i4, i5, i6, i7⟩ := tstL_ok hF f true z.1 z.2.1 z.2.2 y ts e o3 o4 o5 G1
          have i1' : y.2.1.length + z.2.2 ≤ z.2.1.length + 1 + y.2.2 := i1
          exact ⟨by omega, by omega, i3, i4, i5, by omega, i7⟩
      · cases e
        have := finO_len w l
        exact ⟨by dsimp only; omega, Nat.le_refl p, hp, cp, hk, Nat.le_refl k, G.finO⟩
theorem rdP_ok : ∀ (n : Nat) (b : Bool) (D k : Nat) (l : List Nat) (p : Nat) (y : Nat × List Nat × Nat) (ts : List Bool), rdP B L n b D k l p = .inr y → p ≤ L → ca B L p ≠ 32 → k ≤ 60 → GT n0 ts k l → RK B L n0 k l p (true :: ts) y
  | 0, b, D, k, l, p, y, ts, e, _, _, _, _ => by rw [rdP] at e; cases e
  | n + 1, true, D, k, l, p, y, ts, e, hp, cp, hk, G => by
    rw [rdP] at e
    split at e
    · cases e
    · rename_i z ez
      obtain ⟨o1, o2, o3, o4, o5, o6, G1⟩ := rdP_ok n false D k l p z ts ez hp cp hk G
      obtain ⟨i1, i2, i3, i4, i5, i6, i7⟩ := tstL_ok (fun k l p y ts => rdP_ok n false D k l p y ts) 400 false z.1 z.2.1 z.2.2 y ts e o3 o4 o5 G1
      have i1' : y.2.1.length + z.2.2 ≤ z.2.1.length + 0 + y.2.2 := i1
      exact ⟨by omega, by omega, i3, i4, i5, by omega, i7⟩
  | n + 1, false, D, k, l, p, y, ts, e, hp, cp, hk, G => by
    rw [rdP] at e
    split at e
    · rename_i hx
      obtain ⟨b1, b2, b3, b4⟩ := word_bh hp hx
      split at e
      · split at e
        · cases e
        · rename_i z ez
          obtain ⟨o1, o2, o3, o4, o5, o6, G1⟩ := rdP_ok n false (D + 1) k l _ z ts ez b3 b4 hk G
          cases e
          have ln : (z.2.1 ++ [11]).length = z.2.1.length + 1 := List.length_append
          exact ⟨by dsimp only; omega, by dsimp only; omega, o3, o4, o5, o6, G1.add rfl (by decide) (Nat.le_refl _)⟩
      · cases e
    · split at e
      · rename_i hx
        have bg := bh_ge (B := B) hp
        have gt := bh_gt hp (show ca B L p ≠ 256 by omega)
        have sg := skp_ge (B := B) bg.2
        split at e
        · split at e
          · cases e
          · rename_i z ez
            obtain ⟨o1, o2, o3, o4, o5, o6, G1⟩ := rdP_ok n true (D + 1) k l _ z ts ez sg.2 (skp_ca bg.2) hk G
            split at e
            · rename_i h93
              have bg2 := bh_ge (B := B) o3
              have gt2 := bh_gt o3 (show ca B L z.2.2 ≠ 256 by omega)
              have sg2 := skp_ge (B := B) bg2.2
              cases e
              exact ⟨by dsimp only; omega, by dsimp only; omega, sg2.2, skp_ca bg2.2, o5, o6, G1⟩
            · cases e
        · cases e
      · obtain ⟨o1, o2, o3, o4, o5, o6, G1⟩ := cmpP_ok e hp G
        exact ⟨o1, o2, o3, o4, o5, by omega, G1⟩
end TST
