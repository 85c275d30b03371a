/-! Acts: the ship stays as it is. -/
/-- the same ship, other hands -/
def SameS (B A : Nat → Int32) : Prop := (∀ j, j < 4 → B j = A j) ∧ (∀ m, B (10 + 6 * m) = A (10 + 6 * m) ∧ B (10 + 6 * m + 1) = A (10 + 6 * m + 1)) ∧ ∀ j, 58 ≤ j → B j = A j
theorem SameS.refl (A : Nat → Int32) : SameS A A := ⟨fun _ _ => rfl, fun _ => ⟨rfl, rfl⟩, fun _ _ => rfl⟩
theorem SameS.symm {A B : Nat → Int32} (h : SameS B A) : SameS A B := ⟨fun j hj => (h.1 j hj).symm, fun m => ⟨(h.2.1 m).1.symm, (h.2.1 m).2.symm⟩, fun j hj => (h.2.2 j hj).symm⟩
theorem SameS.trans {A B C : Nat → Int32} (h1 : SameS A B) (h2 : SameS B C) : SameS A C := ⟨fun j hj => (h1.1 j hj).trans (h2.1 j hj), fun m => ⟨(h1.2.1 m).1.trans (h2.2.1 m).1, (h1.2.1 m).2.trans (h2.2.1 m).2⟩, fun j hj => (h1.2.2 j hj).trans (h2.2.2 j hj)⟩
section ACT
variable {h : pm_H} {s : Nat} {A B : Nat → Int32}
theorem SameS.n (e : SameS B A) {j : Nat} (hj : j < 4 ∨ 58 ≤ j) : an B j = an A j := by
  unfold an
  rcases hj with q | q
  · rw [e.1 j q]
  · rw [e.2.2 j q]
theorem SameS.mn (e : SameS B A) : mnA B = mnA A := by
  funext a b
  unfold mnA an
  rw [e.2.2 (106 + 10 * a + b) (by omega)]
theorem SameS.row (e : SameS B A) (o : Nat) : rowL B o = rowL A o := by
  unfold rowL
  rw [e.n (by omega : 58 + 6 * o + 1 < 4 ∨ 58 ≤ 58 + 6 * o + 1)]
  refine tl_congr (fun i _ => ?_)
  exact e.n (by omega)
theorem SameS.sy (e : SameS B A) : syA B = syA A := by
  funext v
  unfold syA ordOf
  rw [e.mn, e.n (by omega)]
  exact find_congr (fun o _ => by rw [e.row o])
theorem SameS.wd (e : SameS B A) (b m : Nat) : wfb B b m = wfb A b m := by
  unfold wfb wdA an
  rw [(e.2.1 m).1]
theorem SameS.own (e : SameS B A) (b T o : Nat) : ownb B b T o ↔ ownb A b T o := by
  have hw : wfb B b = wfb A b := funext (e.wd b)
  unfold ownb
  rw [e.sy, hw]
theorem SameS.cn (e : SameS B A) (b S : Nat) : cN B b S = cN A b S := cN_congr e.sy (fun m _ => e.wd b m)
theorem CSh.same (S : CSh h s A) (e : SameS B A) : CSh h s B := by
  obtain ⟨a0, a1, a2, a3, a4, a5, a6, a7, a8, a9⟩ := S
  refine ⟨a0, by rw [e.1 0 (by omega)]; exact a1, by rw [e.1 1 (by omega)]; exact a2, by rw [e.1 2 (by omega)]; exact a3, by rw [e.1 3 (by omega)]; exact a4, fun m hm => ?_, fun o ho => ?_, fun a b ha hb hz => ?_, fun k hk => ?_, ?_⟩
  · rw [e.n (by omega)] at hm
    rw [(e.2.1 m).1, (e.2.1 m).2]
    exact a5 m hm
  · rw [e.n (by omega)] at ho
    rw [e.2.2 (58 + 6 * o) (by omega), e.2.2 (58 + 6 * o + 1) (by omega), e.n (by omega : 58 + 6 * o + 1 < 4 ∨ 58 ≤ 58 + 6 * o + 1)]
    refine ⟨(a6 o ho).1, (a6 o ho).2.1, fun i hi => ?_⟩
    rw [e.2.2 (58 + 6 * o + 2 + i) (by omega)]
    exact (a6 o ho).2.2 i hi
  · rw [e.2.2 (106 + 10 * a + b) (by omega)]
    exact a7 a b ha hb (by rw [e.n (by omega)] at hz; exact hz)
  · rw [e.n (by omega)] at hk
    rw [e.n (by omega)]
    exact a8 k hk
  · rw [e.mn, e.n (by omega)]
    exact a9
theorem CHO.same (C : CHO h s A) (e : SameS B A) : CHO h s B := by
  obtain ⟨c0, c1, f, c2, c3, c4⟩ := C
  refine ⟨c0, ?_, f, c2, c3, fun b hb q => ?_⟩
  · intro i hi
    rw [e.sy]
    exact c1 i hi
  · intro T hT
    rw [e.n (by omega)] at hT
    obtain ⟨x, d1, d2, d3⟩ := c4 b hb q T hT
    refine ⟨x, d1, d2, fun o => ?_⟩
    rw [d3 o]
    constructor
    · rintro ⟨U, u1, u2⟩; exact ⟨U, u1, (e.own b U o).mpr u2⟩
    · rintro ⟨U, u1, u2⟩; exact ⟨U, u1, (e.own b U o).mp u2⟩
theorem CDn.same (D : CDn h 168 A) (e : SameS B A) : CDn h 168 B := by
  obtain ⟨d0, d1, d2, d, d3, d4, d5⟩ := D
  refine ⟨d0, by rw [e.2.2 226 (by omega)]; exact d1, fun k hk => ?_, d, d3, d4, fun k hk => ?_⟩
  · rw [e.n (by omega)] at hk
    rw [e.2.2 (206 + 2 * k) (by omega)]
    exact d2 k hk
  · rw [e.n (by omega)] at hk
    rw [e.2.2 (206 + 2 * k + 1) (by omega)]
    exact d5 k hk
/-- cells that an act of the program may change -/
def AF (c : Nat) : Prop := c = 6 ∨ (8 ≤ c ∧ c ≤ 67) ∨ (169 ≤ c ∧ c ≤ 171)
theorem QI.act {h' : pm_H} (Q : QI h s A) (f : Fr AF h h') (e : SameS B A) (w : WFA B) (H : CHd h' 169 B) : QI h' s B := by
  obtain ⟨R, h1, S, _, D, _, C⟩ := Q
  have hsv := hull_ge S.1
  refine ⟨R.fr f, by rw [f.r]; exact h1, (S.same e).fr f (fun c a b => by unfold AF; omega), H, (D.same e).of (f.2.2 168 (by unfold AF; omega)).1 (f.2.2 172 (by unfold AF; omega)).1, w, fun h0 => ?_⟩
  rw [e.n (by omega)] at h0
  exact ((C h0).same e).fr (by rw [f.r]) (f.2.2 69 (by unfold AF; omega)).1 (f.2.2 74 (by unfold AF; omega)).1 (f.2.2 75 (by unfold AF; omega)).1
/-- the past, told of a world -/
def PW_ (A : Nat → Int32) (n : Nat) (P : Nat → Nat → Int32) : Prop := ∀ i, i < n → SameS (mix (P i) A) A ∧ WFA (mix (P i) A) ∧ an (P i) 4 ≤ 999
theorem mix_self (A : Nat → Int32) : mix A A = A := by
  funext j
  unfold mix
  split <;> rfl
theorem mix_same {P : Nat → Int32} (e : SameS B A) : mix P B = mix P A := by
  funext j
  unfold mix
  by_cases q : j < 58
  · rw [if_pos q, if_pos q]
  · rw [if_neg q, if_neg q, e.2.2 j (by omega)]
theorem PW_.more {n : Nat} {P : Nat → Nat → Int32} (W : PW_ A n P) (w : WFA A) (h4 : an A 4 ≤ 999) (e : SameS B A) : PW_ B (min (n + 1) 20) (push A P) := by
  intro i hi
  rw [mix_same e]
  unfold push
  by_cases q : i = 0
  · rw [if_pos q, mix_self]
    exact ⟨e.symm, w, h4⟩
  · rw [if_neg q]
    obtain ⟨w1, w2, w3⟩ := W (i - 1) (by omega)
    exact ⟨w1.trans e.symm, w2, w3⟩
theorem psA_same (w : WFA A) : SameS (psA A) A := by
  have e1 := w.e1
  refine ⟨fun j hj => psA_out (by omega) (by omega), fun m => ?_, fun j hj => psA_out (by omega) (by omega)⟩
  by_cases q : m < an A 1
  · exact ⟨psA_in (r := 0) q (by omega) (by omega) (by omega), psA_in (r := 1) q (by omega) (by omega) (by omega)⟩
  · exact ⟨psA_out (by omega) (by omega), psA_out (by omega) (by omega)⟩
end ACT
