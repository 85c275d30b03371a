/-! What was done is told: the rest stays as it is. -/
def LowS (B A : Nat → Int32) : Prop := ∀ j, j < 206 → B j = A j
section LO
variable {h : pm_H} {s : Nat} {A B : Nat → Int32}
theorem mks_congr {sy : List Nat → Option Nat} {wf wg : Nat → Nat} {T o : Nat} (e : ∀ m, T.testBit m = true → wf m = wg m) (q : mks sy wf T o) : mks sy wg T o := by
  obtain ⟨p, h2, h3, h4, h5⟩ := q
  refine ⟨p, h2, h3, h4, ?_⟩
  rw [← h5]
  congr 1
  exact List.map_congr_left (fun m hm => (e m (by rw [← h4]; exact mem_setOf.mp hm)).symm)
theorem LowS.symm (e : LowS B A) : LowS A B := fun j hj => (e j hj).symm
theorem LowS.n (e : LowS B A) {j : Nat} (hj : j < 206) : an B j = an A j := by unfold an; rw [e j hj]
theorem LowS.mn (e : LowS B A) : mnA B = mnA A := by
  funext a b
  unfold mnA
  by_cases q : a < 10 ∧ b < 10
  · rw [e.n (by omega), e (106 + 10 * a + b) (by omega)]
  · rw [if_neg (fun z => q ⟨z.1, z.2.1⟩), if_neg (fun z => q ⟨z.1, z.2.1⟩)]
theorem LowS.row (e : LowS B A) (w : WFA A) {o : Nat} (ho : o < an A 2) : rowL B o = rowL A o := by
  have e2 := w.e2
  have o1 := w.o1 ho
  unfold rowL
  rw [e.n (by omega)]
  exact tl_congr (fun i hi => e.n (by omega))
theorem LowS.sy (e : LowS B A) (w : WFA A) : syA B = syA A := by
  funext v
  unfold syA ordOf
  rw [e.mn, e.n (by omega)]
  exact find_congr (fun o ho => by rw [e.row w (List.mem_range.mp ho)])
theorem LowS.wd (e : LowS B A) (b : Nat) {m : Nat} (hm : m < 9) : wfb B b m = wfb A b m := by
  unfold wfb wdA
  rw [e.n (by omega)]
theorem LowS.own (e : LowS B A) (w : WFA A) {b U o : Nat} (hU : U < 256) (q : ownb A b U o) : ownb B b U o := by
  have lt : ∀ m, U.testBit m = true → m < 8 := by
    intro m hm
    apply Classical.byContradiction
    intro z
    have : U < 2 ^ m := Nat.lt_of_lt_of_le hU (Nat.pow_le_pow_right (n := 2) (i := 8) (by omega) (by omega))
    rw [Nat.testBit_lt_two_pow this] at hm
    cases hm
  unfold ownb at *
  rw [e.sy w]
  rcases q with q | ⟨q0, q⟩
  · exact .inl (mks_congr (fun m hm => (e.wd b (by have := lt m hm; omega)).symm) q)
  · refine .inr ⟨q0, mks_congr (fun m hm => (e.wd b ?_).symm) q⟩
    rw [Nat.testBit_or, Bool.or_eq_true] at hm
    rcases hm with z | z
    · have := lt m z; omega
    · rw [bit_256] at z
      have := of_decide_eq_true z
      omega
theorem WFA_low (w : WFA A) (e : LowS B A) (d0 : isN (B 226) 11) (d : ∀ k, k < an B 226 → isN (B (206 + 2 * k)) (an A 2) ∧ isN (B (206 + 2 * k + 1)) 2) : WFA B := by
  have e1 := w.e1
  have e2 := w.e2
  obtain ⟨a0, a1, a2, a3, a4, a5, a6, a7, a8, a9, a10, a11⟩ := w
  unfold WFA
  rw [e.n (by omega : 0 < 206), e.n (by omega : 1 < 206), e.n (by omega : 2 < 206), e 0 (by omega), e 1 (by omega), e 2 (by omega), e 3 (by omega), e 4 (by omega), e 5 (by omega), e 6 (by omega)]
  refine ⟨a0, a1, a2, a3, a4, a5, a6, fun m hm => ?_, fun o ho => ?_, fun a b ha hb => ?_, d0, d⟩
  · rw [e _ (by omega), e _ (by omega), e _ (by omega), e _ (by omega), e _ (by omega)]
    exact a7 m hm
  · have q := a8 o ho
    have q1 := q.2.1.get (by omega)
    rw [e (58 + 6 * o) (by omega), e (58 + 6 * o + 1) (by omega), e.n (by omega : 58 + 6 * o + 1 < 206)]
    refine ⟨q.1, q.2.1, q.2.2.1, fun i hi => ?_⟩
    have q2 : an A (58 + 6 * o + 1) < 5 := q1.2
    rw [e (58 + 6 * o + 2 + i) (by omega)]
    exact q.2.2.2 i hi
  · rw [e (106 + 10 * a + b) (by omega)]; exact a9 a b ha hb
theorem CSh.low (S : CSh h s A) (w : WFA A) (e : LowS B A) : CSh h s B := by
  have e1 := w.e1
  have e2 := w.e2
  have e3 := w.e3
  obtain ⟨a0, a1, a2, a3, a4, a5, a6, a7, a8, a9⟩ := S
  refine ⟨a0, by rw [e 0 (by omega)]; exact a1, by rw [e 1 (by omega)]; exact a2, by rw [e 2 (by omega)]; exact a3, by rw [e 3 (by omega)]; exact a4, fun m hm => ?_, fun o ho => ?_, fun a b ha hb hz => ?_, fun k hk => ?_, ?_⟩
  · rw [e.n (by omega)] at hm
    rw [e (10 + 6 * m) (by omega), e (10 + 6 * m + 1) (by omega)]
    exact a5 m hm
  · rw [e.n (by omega)] at ho
    have o1 := w.o1 ho
    rw [e (58 + 6 * o) (by omega), e (58 + 6 * o + 1) (by omega), e.n (by omega : 58 + 6 * o + 1 < 206)]
    refine ⟨(a6 o ho).1, (a6 o ho).2.1, fun i hi => ?_⟩
    rw [e (58 + 6 * o + 2 + i) (by omega)]
    exact (a6 o ho).2.2 i hi
  · rw [e (106 + 10 * a + b) (by omega)]
    exact a7 a b ha hb (by rw [e.n (by omega)] at hz; exact hz)
  · rw [e.n (by omega)] at hk
    rw [e.n (by omega)]
    exact a8 k hk
  · rw [e.mn, e.n (by omega)]
    exact a9
theorem CHd.low {c : Nat} (H : CHd h c A) (w : WFA A) (e : LowS B A) : CHd h c B := by
  have e1 := w.e1
  obtain ⟨a0, a1, a2, a3, a4, a5, a6⟩ := H
  have n1 : an B 1 = an A 1 := e.n (by omega)
  unfold CHd
  rw [n1, e 4 (by omega), e 5 (by omega), e 6 (by omega)]
  refine ⟨a0, ?_, ?_, a3, a4, a5, fun m hm => ?_⟩
  · rw [a1]
    exact congrArg nI (bs_congr (fun m hm => by unfold isAw; rw [e _ (by omega)]))
  · rw [a2]
    exact congrArg nI (bs_congr (fun m hm => by unfold isDd; rw [e _ (by omega)]))
  · rw [e _ (by omega), e _ (by omega)]
    exact a6 m hm
theorem CHO.low (C : CHO h s A) (w : WFA A) (wB : WFA B) (e : LowS B A) : CHO h s B := by
  have p := p256 w
  obtain ⟨c0, c1, f, c2, c3, c4⟩ := C
  refine ⟨c0, ?_, f, c2, c3, fun b hb q => ?_⟩
  · intro i hi
    rw [e.sy w]
    exact c1 i hi
  · intro T hT
    rw [e.n (by omega)] at hT
    obtain ⟨x, d1, d2, d3⟩ := c4 b hb q T hT
    refine ⟨x, d1, d2, fun o => ?_⟩
    rw [d3 o]
    have lt : ∀ U, sub U T → U < 256 := fun U u => Nat.lt_of_lt_of_le (sub_lt u hT) p
    constructor
    · rintro ⟨U, u1, u2⟩; exact ⟨U, u1, e.own w (lt U u1) u2⟩
    · rintro ⟨U, u1, u2⟩; exact ⟨U, u1, e.symm.own wB (lt U u1) u2⟩
/-- cells that telling may change -/
def DF (c : Nat) : Prop := c = 168 ∨ c = 172
theorem QI.tell {h' : pm_H} (Q : QI h s A) (f : Fr DF h h') (e : LowS B A) (w' : WFA B) (D : CDn h' 168 B) : QI h' s B := by
  obtain ⟨R, h1, S, H, _, w, C⟩ := Q
  have hsv := hull_ge S.1
  refine ⟨R.fr f, by rw [f.r]; exact h1, (S.low w e).fr f (fun c a b => by unfold DF; omega), (H.low w e).of (f.2.2 169 (by unfold DF; omega)).1 (f.2.2 170 (by unfold DF; omega)).1 (f.2.2 171 (by unfold DF; omega)).1, D, w', fun h0 => ?_⟩
  rw [e.n (by omega)] at h0
  exact ((C h0).low w w' e).fr (by rw [f.r]) (f.2.2 69 (by unfold DF; omega)).1 (f.2.2 74 (by unfold DF; omega)).1 (f.2.2 75 (by unfold DF; omega)).1
end LO
