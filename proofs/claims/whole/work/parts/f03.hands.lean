/-! Acts: one thing of the hands becomes another. -/
def upA (A : Nat → Int32) (j : Nat) (v : Int32) : Nat → Int32 := fun i => if i = j then v else A i
section UP
variable {h : pm_H} {A B : Nat → Int32} {v : Int32}
theorem upA_s (A : Nat → Int32) (j : Nat) (v : Int32) : upA A j v j = v := by unfold upA; rw [if_pos rfl]
theorem upA_ne {j i : Nat} (hi : i ≠ j) : upA A j v i = A i := by unfold upA; rw [if_neg hi]
theorem upA_an {j i : Nat} (hi : i ≠ j) : an (upA A j v) i = an A i := by unfold an; rw [upA_ne hi]
theorem WFA_hands (w : WFA A) (e : SameS B A) (b4 : isN (B 4) 2000) (b5 : isN (B 5) 3) (b6 : B 6 = ng 1 ∨ isN (B 6) (an A 0)) (bm : ∀ m, m < an A 1 → isN (B (10 + 6 * m + 2)) 2 ∧ isN (B (10 + 6 * m + 3)) 10 ∧ isN (B (10 + 6 * m + 4)) 2) : WFA B := by
  obtain ⟨a0, a1, a2, a3, a4, a5, a6, a7, a8, a9, a10, a11⟩ := w
  have n0 : an B 0 = an A 0 := e.n (by omega)
  have n1 : an B 1 = an A 1 := e.n (by omega)
  have n2 : an B 2 = an A 2 := e.n (by omega)
  have n226 : an B 226 = an A 226 := e.n (by omega)
  unfold WFA
  rw [n0, n1, n2, n226]
  refine ⟨?_, ?_, ?_, ?_, b4, b5, b6, fun m hm => ?_, fun o ho => ?_, fun a b ha hb => ?_, ?_, fun k hk => ?_⟩
  · rw [e.1 0 (by omega)]; exact a0
  · rw [e.1 1 (by omega)]; exact a1
  · rw [e.1 2 (by omega)]; exact a2
  · rw [e.1 3 (by omega)]; exact a3
  · rw [(e.2.1 m).1, (e.2.1 m).2]
    exact ⟨(a7 m hm).1, (a7 m hm).2.1, (bm m hm).1, (bm m hm).2.1, (bm m hm).2.2⟩
  · rw [e.2.2 (58 + 6 * o) (by omega), e.2.2 (58 + 6 * o + 1) (by omega), e.n (by omega : 58 + 6 * o + 1 < 4 ∨ 58 ≤ 58 + 6 * o + 1)]
    refine ⟨(a8 o ho).1, (a8 o ho).2.1, (a8 o ho).2.2.1, fun i hi => ?_⟩
    rw [e.2.2 (58 + 6 * o + 2 + i) (by omega)]
    exact (a8 o ho).2.2.2 i hi
  · rw [e.2.2 (106 + 10 * a + b) (by omega)]; exact a9 a b ha hb
  · rw [e.2.2 226 (by omega)]; exact a10
  · rw [e.2.2 (206 + 2 * k) (by omega), e.2.2 (206 + 2 * k + 1) (by omega)]; exact a11 k hk
theorem WFA.hm {m : Nat} (w : WFA A) (hm : m < an A 1) : isN (A (10 + 6 * m + 2)) 2 ∧ isN (A (10 + 6 * m + 3)) 10 ∧ isN (A (10 + 6 * m + 4)) 2 := ⟨(w.2.2.2.2.2.2.2.1 m hm).2.2.1, (w.2.2.2.2.2.2.2.1 m hm).2.2.2.1, (w.2.2.2.2.2.2.2.1 m hm).2.2.2.2⟩
theorem upA_same {j : Nat} (hj : j < 58) (h4 : 4 ≤ j) (hm : ∀ m, j ≠ 10 + 6 * m ∧ j ≠ 10 + 6 * m + 1) : SameS (upA A j v) A := ⟨fun i hi => upA_ne (by omega), fun m => ⟨upA_ne (fun q => (hm m).1 q.symm), upA_ne (fun q => (hm m).2 q.symm)⟩, fun i hi => upA_ne (by omega)⟩
theorem up5_wf (w : WFA A) {k : Nat} (hk : k ≤ 2) : SameS (upA A 5 (nI k)) A ∧ WFA (upA A 5 (nI k)) := by
  have e : SameS (upA A 5 (nI k)) A := upA_same (by omega) (by omega) (fun m => by omega)
  refine ⟨e, WFA_hands w e (by rw [upA_ne (by omega)]; exact w.2.2.2.2.1) (by rw [upA_s]; exact ⟨k, by omega, rfl⟩) (by rw [upA_ne (by omega)]; exact w.2.2.2.2.2.2.1) (fun m hm => ?_)⟩
  rw [upA_ne (by omega), upA_ne (by omega), upA_ne (by omega)]
  exact w.hm hm
theorem up6_wf (w : WFA A) {k : Nat} (hk : k < an A 0) : SameS (upA A 6 (nI k)) A ∧ WFA (upA A 6 (nI k)) := by
  have e : SameS (upA A 6 (nI k)) A := upA_same (by omega) (by omega) (fun m => by omega)
  refine ⟨e, WFA_hands w e (by rw [upA_ne (by omega)]; exact w.2.2.2.2.1) (by rw [upA_ne (by omega)]; exact w.2.2.2.2.2.1) (by rw [upA_s]; exact .inr ⟨k, hk, rfl⟩) (fun m hm => ?_)⟩
  rw [upA_ne (by omega), upA_ne (by omega), upA_ne (by omega)]
  exact w.hm hm
theorem up2_wf (w : WFA A) {m : Nat} (hm : m < an A 1) (z : Bool) : SameS (upA A (10 + 6 * m + 2) (nI z.toNat)) A ∧ WFA (upA A (10 + 6 * m + 2) (nI z.toNat)) := by
  have e1 := w.e1
  have e : SameS (upA A (10 + 6 * m + 2) (nI z.toNat)) A := upA_same (by omega) (by omega) (fun m' => by omega)
  refine ⟨e, WFA_hands w e (by rw [upA_ne (by omega)]; exact w.2.2.2.2.1) (by rw [upA_ne (by omega)]; exact w.2.2.2.2.2.1) (by rw [upA_ne (by omega)]; exact w.2.2.2.2.2.2.1) (fun k hk => ?_)⟩
  rw [upA_ne (i := 10 + 6 * k + 3) (by omega), upA_ne (i := 10 + 6 * k + 4) (by omega)]
  refine ⟨?_, (w.hm hk).2⟩
  by_cases q : k = m
  · subst q; rw [upA_s]; exact ⟨z.toNat, by cases z <;> decide, rfl⟩
  · rw [upA_ne (by omega)]; exact (w.hm hk).1
theorem up3_wf (w : WFA A) {m k : Nat} (hm : m < an A 1) (hk : k ≤ 9) : SameS (upA A (10 + 6 * m + 3) (nI k)) A ∧ WFA (upA A (10 + 6 * m + 3) (nI k)) := by
  have e1 := w.e1
  have e : SameS (upA A (10 + 6 * m + 3) (nI k)) A := upA_same (by omega) (by omega) (fun m' => by omega)
  refine ⟨e, WFA_hands w e (by rw [upA_ne (by omega)]; exact w.2.2.2.2.1) (by rw [upA_ne (by omega)]; exact w.2.2.2.2.2.1) (by rw [upA_ne (by omega)]; exact w.2.2.2.2.2.2.1) (fun j hj => ?_)⟩
  rw [upA_ne (i := 10 + 6 * j + 2) (by omega), upA_ne (i := 10 + 6 * j + 4) (by omega)]
  refine ⟨(w.hm hj).1, ?_, (w.hm hj).2.2⟩
  by_cases q : j = m
  · subst q; rw [upA_s]; exact ⟨k, by omega, rfl⟩
  · rw [upA_ne (by omega)]; exact (w.hm hj).2.1
theorem up4_wf (w : WFA A) {m : Nat} (hm : m < an A 1) : SameS (upA A (10 + 6 * m + 4) (nI 1)) A ∧ WFA (upA A (10 + 6 * m + 4) (nI 1)) := by
  have e1 := w.e1
  have e : SameS (upA A (10 + 6 * m + 4) (nI 1)) A := upA_same (by omega) (by omega) (fun m' => by omega)
  refine ⟨e, WFA_hands w e (by rw [upA_ne (by omega)]; exact w.2.2.2.2.1) (by rw [upA_ne (by omega)]; exact w.2.2.2.2.2.1) (by rw [upA_ne (by omega)]; exact w.2.2.2.2.2.2.1) (fun j hj => ?_)⟩
  rw [upA_ne (i := 10 + 6 * j + 2) (by omega), upA_ne (i := 10 + 6 * j + 3) (by omega)]
  refine ⟨(w.hm hj).1, (w.hm hj).2.1, ?_⟩
  by_cases q : j = m
  · subst q; rw [upA_s]; exact ⟨1, by omega, rfl⟩
  · rw [upA_ne (by omega)]; exact (w.hm hj).2.2
/-! the program's hands -/
theorem CHd.set3 (H : CHd h 169 A) : CHd (pm_setI h 169 3 v) 169 (upA A 5 v) := by
  obtain ⟨a0, a1, a2, a3, a4, a5, a6⟩ := H
  unfold CHd
  rw [upA_an (by omega)]
  refine ⟨a0, ?_, ?_, ?_, ?_, ?_, fun m hm => ?_⟩
  · rw [ri_j _ (by omega), a1]
    exact congrArg nI (bs_congr (fun m _ => by unfold isAw; rw [upA_ne (by omega)]))
  · rw [ri_j _ (by omega), a2]
    exact congrArg nI (bs_congr (fun m _ => by unfold isDd; rw [upA_ne (by omega)]))
  · rw [ri_j _ (by omega), a3, upA_ne (by omega)]
  · rw [ri_s, upA_s]
  · rw [ri_j _ (by omega), a5, upA_ne (by omega)]
  · rw [ri_c _ (by omega), ri_c _ (by omega), upA_ne (by omega), upA_ne (by omega)]
    exact a6 m hm
theorem CHd.set4 (H : CHd h 169 A) : CHd (pm_setI h 169 4 v) 169 (upA A 6 v) := by
  obtain ⟨a0, a1, a2, a3, a4, a5, a6⟩ := H
  unfold CHd
  rw [upA_an (by omega)]
  refine ⟨a0, ?_, ?_, ?_, ?_, ?_, fun m hm => ?_⟩
  · rw [ri_j _ (by omega), a1]
    exact congrArg nI (bs_congr (fun m _ => by unfold isAw; rw [upA_ne (by omega)]))
  · rw [ri_j _ (by omega), a2]
    exact congrArg nI (bs_congr (fun m _ => by unfold isDd; rw [upA_ne (by omega)]))
  · rw [ri_j _ (by omega), a3, upA_ne (by omega)]
  · rw [ri_j _ (by omega), a4, upA_ne (by omega)]
  · rw [ri_s, upA_s]
  · rw [ri_c _ (by omega), ri_c _ (by omega), upA_ne (by omega), upA_ne (by omega)]
    exact a6 m hm
theorem CHd.setS (H : CHd h 169 A) {m : Nat} (hm : m < an A 1) : CHd (pm_setI h 170 m v) 169 (upA A (10 + 6 * m + 3) v) := by
  obtain ⟨a0, a1, a2, a3, a4, a5, a6⟩ := H
  unfold CHd
  rw [upA_an (by omega)]
  refine ⟨a0, ?_, ?_, ?_, ?_, ?_, fun k hk => ⟨?_, ?_⟩⟩
  · rw [ri_c _ (by omega), a1]
    exact congrArg nI (bs_congr (fun m _ => by unfold isAw; rw [upA_ne (by omega)]))
  · rw [ri_c _ (by omega), a2]
    exact congrArg nI (bs_congr (fun m _ => by unfold isDd; rw [upA_ne (by omega)]))
  · rw [ri_c _ (by omega), a3, upA_ne (by omega)]
  · rw [ri_c _ (by omega), a4, upA_ne (by omega)]
  · rw [ri_c _ (by omega), a5, upA_ne (by omega)]
  · by_cases q : k = m
    · subst q; rw [ri_s, upA_s]
    · rw [ri_j _ q, upA_ne (by omega)]; exact (a6 k hk).1
  · rw [ri_c _ (by omega), upA_ne (by omega)]; exact (a6 k hk).2
theorem bs_up {p : Nat → Bool} {n m : Nat} (hm : m < n) (z : Bool) : bs (fun i => if i = m then z else p i) n = if z = true then bs p n ||| 2 ^ m else sd (bs p n) (2 ^ m) := by
  apply Nat.eq_of_testBit_eq
  intro i
  rw [bs_bit]
  cases z with
  | true =>
    rw [if_pos rfl, Nat.testBit_or, bs_bit, Nat.testBit_two_pow]
    by_cases q : i = m
    · subst q; simp [hm]
    · have : ¬ m = i := fun z => q z.symm
      simp [q, this]
  | false =>
    rw [if_neg (show ¬ (false = true) from Bool.false_ne_true), sd_bit, bs_bit, Nat.testBit_two_pow]
    by_cases q : i = m
    · subst q; simp
    · have : ¬ m = i := fun z => q z.symm
      simp [q, this]
theorem CHd.setW (H : CHd h 169 A) {m : Nat} (hm : m < an A 1) (z : Bool) : CHd (pm_setI h 169 0 (nI (if z = true then bs (isAw A) (an A 1) ||| 2 ^ m else sd (bs (isAw A) (an A 1)) (2 ^ m)))) 169 (upA A (10 + 6 * m + 2) (nI z.toNat)) := by
  obtain ⟨a0, a1, a2, a3, a4, a5, a6⟩ := H
  unfold CHd
  rw [upA_an (by omega)]
  refine ⟨a0, ?_, ?_, ?_, ?_, ?_, fun k hk => ?_⟩
  · rw [ri_s, ← bs_up hm]
    refine congrArg nI (bs_congr (fun i _ => ?_))
    unfold isAw
    by_cases q : i = m
    · subst q; rw [if_pos rfl, upA_s]; cases z <;> decide
    · rw [if_neg q, upA_ne (by omega)]
  · rw [ri_j _ (by omega), a2]
    exact congrArg nI (bs_congr (fun m _ => by unfold isDd; rw [upA_ne (by omega)]))
  · rw [ri_j _ (by omega), a3, upA_ne (by omega)]
  · rw [ri_j _ (by omega), a4, upA_ne (by omega)]
  · rw [ri_j _ (by omega), a5, upA_ne (by omega)]
  · rw [ri_c _ (by omega), ri_c _ (by omega), upA_ne (by omega), upA_ne (by omega)]
    exact a6 k hk
theorem CHd.setD (H : CHd h 169 A) {m : Nat} (hm : m < an A 1) : CHd (pm_setI h 169 1 (nI (bs (isDd A) (an A 1) ||| 2 ^ m))) 169 (upA A (10 + 6 * m + 4) (nI 1)) := by
  obtain ⟨a0, a1, a2, a3, a4, a5, a6⟩ := H
  unfold CHd
  rw [upA_an (by omega)]
  refine ⟨a0, ?_, ?_, ?_, ?_, ?_, fun k hk => ?_⟩
  · rw [ri_j _ (by omega), a1]
    exact congrArg nI (bs_congr (fun m _ => by unfold isAw; rw [upA_ne (by omega)]))
  · have e := bs_up (p := isDd A) hm true
    rw [if_pos rfl] at e
    rw [ri_s, ← e]
    refine congrArg nI (bs_congr (fun i _ => ?_))
    unfold isDd
    by_cases q : i = m
    · subst q; rw [if_pos rfl, upA_s]; decide
    · rw [if_neg q, upA_ne (by omega)]
  · rw [ri_j _ (by omega), a3, upA_ne (by omega)]
  · rw [ri_j _ (by omega), a4, upA_ne (by omega)]
  · rw [ri_j _ (by omega), a5, upA_ne (by omega)]
  · rw [ri_c _ (by omega), ri_c _ (by omega), upA_ne (by omega), upA_ne (by omega)]
    exact a6 k hk
/-- the reference's row -/
theorem set203 (hA : h.2.1 203 = A) (j : Nat) (v : Int32) : (pm_setI h 203 j v).2.1 203 = upA A j v := by
  funext i
  rw [ri, if_pos rfl, hA]
  rfl
end UP
