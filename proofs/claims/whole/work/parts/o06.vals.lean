/-! Rules: what the letters of a rule stand for, by both. -/
def awN (A : Nat → Int32) : Nat := bs (isAw A) (an A 1)
def smN (A : Nat → Int32) (m : Nat) : Nat → Nat
  | 0 => 0
  | i + 1 => smN A m i + (if i ≠ m ∧ isDd A i = false ∧ A (10 + 6 * i) = A (10 + 6 * m) then 1 else 0)
def gnN (A : Nat → Int32) (x : Nat) : Nat → Nat
  | 0 => 0
  | i + 1 => if x ∈ rowL A i ∧ gnN A x i < an A (58 + 6 * i) then an A (58 + 6 * i) else gnN A x i
theorem gnN_lt {A : Nat → Int32} (w : WFA A) (x : Nat) : ∀ i, i ≤ an A 2 → gnN A x i < 100
  | 0, _ => by show 0 < 100; omega
  | i + 1, hi => by
    have ih := gnN_lt w x i (by omega)
    rw [gnN]
    split
    · exact (w.o0 (by omega)).2
    · exact ih
def WV (A : Nat → Int32) (m w : Nat) : Int32 := if w = 0 then nI m else if w = 1 then A (10 + 6 * m) else if w = 2 then A (10 + 6 * m + 1) else if w = 3 then A 4 else if w = 4 then A 5 else if w = 5 then nI (pc (sd (awN A) (2 ^ m))) else if w = 6 then A (10 + 6 * m + 3) else if w = 7 then A (10 + 6 * m + 5) else if w = 8 then nI (smN A m (an A 1)) else if w = 9 then nI (gnN A (an A (10 + 6 * m)) (an A 2)) else nI (pc (alvN A))
section VA
variable {h : pm_H} {s c m : Nat} {A : Nat → Int32}
theorem u_others_n (S : CSh h s A) (H : CHd h c A) (w : WFA A) (R : RF h) (hm : m < an A 1) : u_others s c (nI m) h = some (nI (smN A m (an A 1))) := by
  have e1 := w.e1
  have b9 := bs9 w (isDd A)
  unfold u_others
  have key : wh (fun z : (Int32 × Int32) => u_others_5 s c (nI m) z.1 z.2 h) (Int32.ofInt 0, Int32.ofInt 0) = some (nI (smN A m (an A 1))) := by
    rw [kc_i0]
    refine wh_for (fun i => (nI (smN A m i), nI i)) (an A 1) 0 (by omega) (fun i _ hi => ?_) ?_
    · dsimp only
      unfold u_others_5 u_others_37
      rw [S.2.2.1, e1.1]
      refine (if_neg (by rw [nx_le (by omega) (by omega)]; omega)).trans ?_
      rw [smN]
      by_cases q : i = m
      · refine (if_pos (by rw [q])).trans ((if_pos kc_i0).trans ?_)
        rw [kc_i1, nx_add, if_neg (fun z => z.1 q)]
        rfl
      · refine (if_neg (by rw [nx_eq (by omega) (by omega)]; exact q)).trans ?_
        rw [H.2.2.1, x_bit_n (by omega) (by omega), Option.bind_some, bs_bit, dec_t hi, Bool.true_and]
        cases dd : isDd A i with
        | true =>
          refine (if_pos (by decide)).trans ((if_pos kc_i0).trans ?_)
          rw [kc_i1, nx_add, if_neg (fun z => by cases z.2.1)]
          rfl
        | false =>
          refine (if_neg (fun z => z rfl)).trans ((if_neg (by decide)).trans ?_)
          rw [c_wordOf S w R hi, Option.bind_some, c_wordOf S w R hm, Option.bind_some]
          by_cases q2 : A (10 + 6 * i) = A (10 + 6 * m)
          · refine (if_neg (fun z => z q2)).trans ?_
            rw [kc_i1, nx_add, nx_add, if_pos ⟨q, rfl, q2⟩]
          · refine (if_pos q2).trans ?_
            rw [kc_i1, nx_add, if_neg (fun z => q2 z.2.2)]
            rfl
    · dsimp only
      unfold u_others_5
      rw [S.2.2.1, e1.1]
      exact if_pos (by rw [nx_le (by omega) (by omega)]; omega)
  rw [key, Option.bind_some]
theorem row_any {x o : Nat} (n : Nat) : (∃ i, i < n + 1 ∧ an A (58 + 6 * o + 2 + i) = x) ↔ (∃ i, i < n ∧ an A (58 + 6 * o + 2 + i) = x) ∨ an A (58 + 6 * o + 2 + n) = x := by
  constructor
  · rintro ⟨i, hi, e⟩
    by_cases q : i = n
    · exact .inr (q ▸ e)
    · exact .inl ⟨i, by omega, e⟩
  · rintro (⟨i, hi, e⟩ | e)
    · exact ⟨i, by omega, e⟩
    · exact ⟨n, by omega, e⟩
/-- the greatest need so far, an order's row read up to i -/
noncomputable def gnI (A : Nat → Int32) (x o g i : Nat) : Nat := @ite Nat ((∃ j, j < i ∧ an A (58 + 6 * o + 2 + j) = x) ∧ g < an A (58 + 6 * o)) (Classical.propDecidable _) (an A (58 + 6 * o)) g
theorem u_need_n (S : CSh h s A) (w : WFA A) (R : RF h) {x : Nat} (hx : x < 10) : u_greatestNeed s (nI x) h = some (nI (gnN A x (an A 2))) := by
  have e2 := w.e2
  unfold u_greatestNeed
  have key : wh (fun z : (Int32 × Int32) => u_greatestNeed_4 s (nI x) z.1 z.2 h) (Int32.ofInt 0, Int32.ofInt 0) = some (nI (gnN A x (an A 2))) := by
    rw [kc_i0]
    refine wh_for (fun i => (nI (gnN A x i), nI i)) (an A 2) 0 (by omega) (fun o _ ho => ?_) ?_
    · dsimp only
      have gl := gnN_lt w x o (by omega)
      have o0 := w.o0 ho
      have o1 := w.o1 ho
      have inner : wh (fun z : (Int32 × Int32) => u_greatestNeed_21 s (nI x) z.1 (nI o) z.2 h) (nI (gnN A x o), nI 0) = some (nI (gnI A x o (gnN A x o) (an A (58 + 6 * o + 1)))) := by
        have st0 : nI (gnN A x o) = nI (gnI A x o (gnN A x o) 0) := by
          unfold gnI
          rw [if_neg (by rintro ⟨⟨j, hj, _⟩, _⟩; omega)]
        rw [st0]
        refine wh_for (fun i => (nI (gnI A x o (gnN A x o) i), nI i)) (an A (58 + 6 * o + 1)) 0 (by omega) (fun i _ hi => ?_) ?_
        · dsimp only
          have o2 := w.o2 ho hi
          have e0 := w.e0
          have gi : gnI A x o (gnN A x o) i < 100 := by
            unfold gnI
            split
            · exact o0.2
            · exact gl
          unfold u_greatestNeed_21
          rw [rf_s7 R S.1, Option.bind_some, ln_s7 S.1, gi_n (by omega), nx_cl (by omega), (S.2.2.2.2.2.2.1 o ho).2.1, o1.1]
          refine (if_pos (dec_t (by omega))).trans ((if_neg (by rw [nx_le (by omega) (by omega)]; omega)).trans ?_)
          rw [c_rowWord S w R ho hi, Option.bind_some, o2.1]
          by_cases q : an A (58 + 6 * o + 2 + i) = x
          · refine (if_neg (by rw [nx_eq (by omega) (by omega)]; exact fun z => z q)).trans ?_
            rw [rf_s6 R S.1, Option.bind_some, ln_s6 S.1, gi_n (by omega), (S.2.2.2.2.2.2.1 o ho).1, o0.1]
            refine (if_pos (dec_t (by omega))).trans ?_
            rw [kc_i1, nx_add]
            have : (if nI (gnI A x o (gnN A x o) i) < nI (an A (58 + 6 * o)) then nI (an A (58 + 6 * o)) else nI (gnI A x o (gnN A x o) i)) = nI (gnI A x o (gnN A x o) (i + 1)) := by
              have e3 : gnI A x o (gnN A x o) (i + 1) = if gnN A x o < an A (58 + 6 * o) then an A (58 + 6 * o) else gnN A x o := by
                unfold gnI
                by_cases q2 : gnN A x o < an A (58 + 6 * o)
                · rw [if_pos ⟨(row_any i).mpr (.inr q), q2⟩, if_pos q2]
                · rw [if_neg (fun z => q2 z.2), if_neg q2]
              rw [e3]
              by_cases q1 : (∃ j, j < i ∧ an A (58 + 6 * o + 2 + j) = x) ∧ gnN A x o < an A (58 + 6 * o)
              · have e4 : gnI A x o (gnN A x o) i = an A (58 + 6 * o) := by unfold gnI; rw [if_pos q1]
                rw [e4, if_neg (by rw [nx_lt (by omega) (by omega)]; omega), if_pos q1.2]
              · have e4 : gnI A x o (gnN A x o) i = gnN A x o := by unfold gnI; rw [if_neg q1]
                rw [e4]
                by_cases q2 : gnN A x o < an A (58 + 6 * o)
                · rw [if_pos (by rw [nx_lt (by omega) (by omega)]; exact q2), if_pos q2]
                · rw [if_neg (by rw [nx_lt (by omega) (by omega)]; exact q2), if_neg q2]
            rw [this]
          · refine (if_pos (by rw [nx_eq (by omega) (by omega)]; exact q)).trans ?_
            rw [kc_i1, nx_add]
            have e3 : gnI A x o (gnN A x o) (i + 1) = gnI A x o (gnN A x o) i := by
              unfold gnI
              by_cases q1 : (∃ j, j < i ∧ an A (58 + 6 * o + 2 + j) = x) ∧ gnN A x o < an A (58 + 6 * o)
              · rw [if_pos q1, if_pos ⟨(row_any i).mpr (.inl q1.1), q1.2⟩]
              · rw [if_neg q1, if_neg (fun z => q1 ⟨((row_any i).mp z.1).resolve_right q, z.2⟩)]
            rw [e3]
        · dsimp only
          unfold u_greatestNeed_21
          rw [rf_s7 R S.1, Option.bind_some, ln_s7 S.1, gi_n (by omega), nx_cl (by omega), (S.2.2.2.2.2.2.1 o ho).2.1, o1.1]
          exact (if_pos (dec_t (by omega))).trans (if_pos (by rw [nx_le (by omega) (by omega)]; omega))
      unfold u_greatestNeed_4
      rw [S.2.2.2.1, e2.1]
      refine (if_neg (by rw [nx_le (by omega) (by omega)]; omega)).trans ((if_neg (by rw [kc_b_8, nx_le (by omega) (by omega)]; omega)).trans ?_)
      rw [kc_i0, inner, Option.bind_some, kc_i1, nx_add]
      have e3 : gnI A x o (gnN A x o) (an A (58 + 6 * o + 1)) = gnN A x (o + 1) := by
        rw [gnN]
        unfold gnI
        have : (∃ j, j < an A (58 + 6 * o + 1) ∧ an A (58 + 6 * o + 2 + j) = x) ↔ x ∈ rowL A o := by
          unfold rowL
          rw [tl_mem]
        by_cases q : x ∈ rowL A o ∧ gnN A x o < an A (58 + 6 * o)
        · rw [if_pos q, if_pos ⟨this.mpr q.1, q.2⟩]
        · rw [if_neg q, if_neg (fun z => q ⟨this.mp z.1, z.2⟩)]
      rw [e3]
    · dsimp only
      unfold u_greatestNeed_4
      rw [S.2.2.2.1, e2.1]
      exact if_pos (by rw [nx_le (by omega) (by omega)]; omega)
  rw [key, Option.bind_some]
theorem u_letters_n (S : CSh h s A) (H : CHd h c A) (w : WFA A) (R : RF h) (hm : m < an A 1) {k : Nat} (hk : k < 11) : u_letters (ng (1 + k)) s c (nI m) h = some (WV A m k).toInt64 := by
  have e1 := w.e1
  have e0 := w.e0
  have b9 := bs9 w (isAw A)
  have al9 : alvN A < 256 := bs9 w _
  have hm0 := w.m0 hm
  unfold u_letters
  rw [c_hasMan_t S w hm, Option.bind_some]
  refine (if_pos n10).trans ?_
  have : k = 0 ∨ k = 1 ∨ k = 2 ∨ k = 3 ∨ k = 4 ∨ k = 5 ∨ k = 6 ∨ k = 7 ∨ k = 8 ∨ k = 9 ∨ k = 10 := by omega
  rcases this with rfl | rfl | rfl | rfl | rfl | rfl | rfl | rfl | rfl | rfl | rfl <;>
    repeat (first | refine (if_neg (by decide)).trans ?_ | refine (if_pos (by decide)).trans ?_)
  · rfl
  · rw [rf_s4 R S.1, Option.bind_some, ln_s4 S.1, gi_n (by omega), nx_cl (by omega), (S.2.2.2.2.2.1 m hm).1]
    exact if_pos (dec_t (by omega))
  · rw [rf_s5 R S.1, Option.bind_some, ln_s5 S.1, gi_n (by omega), nx_cl (by omega), (S.2.2.2.2.2.1 m hm).2]
    exact if_pos (dec_t (by omega))
  · rw [H.2.2.2.1]; rfl
  · rw [H.2.2.2.2.1]; rfl
  · have hs : sd (bs (isAw A) (an A 1)) (2 ^ m) < 2 ^ 8 := sd_lt _ (by omega)
    rw [H.2.1, kc_i1, nx_shl1 (by omega), kc_im1, nx_andn, k_bc h (by omega), Option.bind_some]
    rfl
  · rw [rf_n5 R H.1, Option.bind_some, ln_n5 H.1, gi_n (by omega), nx_cl (by omega), (H.2.2.2.2.2.2 m hm).1]
    exact if_pos (dec_t (by omega))
  · rw [rf_n6 R H.1, Option.bind_some, ln_n6 H.1, gi_n (by omega), nx_cl (by omega), (H.2.2.2.2.2.2 m hm).2]
    exact if_pos (dec_t (by omega))
  · rw [u_others_n S H w R hm, Option.bind_some]
    rfl
  · rw [rf_s4 R S.1, Option.bind_some, ln_s4 S.1, gi_n (by omega), nx_cl (by omega), (S.2.2.2.2.2.1 m hm).1, hm0.1, u_need_n S w R (by omega), Option.bind_some]
    exact if_pos (dec_t (by omega))
  · rw [n_living_c S H w, Option.bind_some, k_bc h (by omega), Option.bind_some]
    rfl
end VA
