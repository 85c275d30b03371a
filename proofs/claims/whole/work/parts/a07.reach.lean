/-! The program's Choir: which orders a set of men can say. -/
set_option maxRecDepth 100000 in
theorem bc_all : ∀ s, s < 512 → i_bitCount (nI s) tb_h0 = some (nI (pc s)) := by decide +kernel
theorem k_bc (h : pm_H) {s : Nat} (hs : s < 512) : i_bitCount (nI s) h = some (nI (pc s)) := bc_all s hs
def wdA (A : Nat → Int32) (m : Nat) : Nat := an A (10 + 6 * m)
/-- the boy's number and word: b is 0 without one, else his word and 1 -/
def wfb (A : Nat → Int32) (b m : Nat) : Nat := if m = 8 then b - 1 else wdA A m
def bb (b : Nat) : Nat := if b = 0 then 0 else 256
def bv (b : Nat) : Int32 := if b = 0 then ng 1 else nI (b - 1)
def ownb (A : Nat → Int32) (b T o : Nat) : Prop := mks (syA A) (wfb A b) T o ∨ (b ≠ 0 ∧ mks (syA A) (wfb A b) (T ||| 256) o)
theorem bit_256 (i : Nat) : (256 : Nat).testBit i = decide (8 = i) := by rw [show (256 : Nat) = 2 ^ 8 from rfl, Nat.testBit_two_pow]
theorem bit_255 (i : Nat) : (255 : Nat).testBit i = decide (i < 8) := by rw [show (255 : Nat) = 2 ^ 8 - 1 from rfl, Nat.testBit_two_pow_sub_one]
theorem lt256_bit {t i : Nat} (h : t < 256) (hi : t.testBit i = true) : i < 8 := by
  rcases Nat.lt_or_ge i 8 with q | q
  · exact q
  · rw [Nat.testBit_lt_two_pow (Nat.lt_of_lt_of_le h (Nat.pow_le_pow_right (n := 2) (by decide) q : 2 ^ 8 ≤ 2 ^ i))] at hi
    cases hi
theorem can_own {A : Nat → Int32} {b T o : Nat} (hT : T < 256) : can (syA A) (wfb A b) (T ||| bb b) o ↔ ∃ T', sub T' T ∧ ownb A b T' o := by
  have h9 : T ||| bb b < 2 ^ 9 := Nat.or_lt_two_pow (Nat.lt_trans hT (by decide)) (by unfold bb; split <;> decide)
  constructor
  · rintro ⟨U, h1, h2⟩
    have hU := sub_lt h1 h9
    cases h8 : U.testBit 8 with
    | true =>
      have hb : b ≠ 0 := by
        intro q
        have := h1 8 h8
        unfold bb at this
        rw [if_pos q, Nat.or_zero] at this
        have := lt256_bit hT this
        omega
      have hU2 : (U &&& 255) ||| 256 = U := by
        apply Nat.eq_of_testBit_eq
        intro i
        rw [Nat.testBit_or, Nat.testBit_and, bit_255, bit_256]
        by_cases e : 8 = i
        · subst e; rw [h8]; rfl
        · by_cases e2 : i < 8
          · simp [e, e2]
          · rw [Nat.testBit_lt_two_pow (Nat.lt_of_lt_of_le hU (Nat.pow_le_pow_right (n := 2) (by decide) (by omega : 9 ≤ i)))]
            simp [e]
      refine ⟨U &&& 255, fun i hi => ?_, .inr ⟨hb, by rw [hU2]; exact h2⟩⟩
      rw [Nat.testBit_and, bit_255, Bool.and_eq_true, decide_eq_true_eq] at hi
      have := h1 i hi.1
      unfold bb at this
      rw [if_neg hb, Nat.testBit_or, bit_256, Bool.or_eq_true, decide_eq_true_eq] at this
      rcases this with q | q
      · exact q
      · omega
    | false =>
      refine ⟨U, fun i hi => ?_, .inl h2⟩
      have := h1 i hi
      rw [Nat.testBit_or, Bool.or_eq_true] at this
      rcases this with q | q
      · exact q
      · unfold bb at q
        split at q
        · rw [Nat.zero_testBit] at q; cases q
        · rw [bit_256, decide_eq_true_eq] at q
          subst q
          rw [h8] at hi
          cases hi
  · rintro ⟨T', h1, h2 | ⟨h2, h3⟩⟩
    · exact ⟨T', fun i hi => by rw [Nat.testBit_or, h1 i hi]; rfl, h2⟩
    · refine ⟨T' ||| 256, fun i hi => ?_, h3⟩
      rw [Nat.testBit_or, Bool.or_eq_true] at hi ⊢
      rcases hi with q | q
      · exact .inl (h1 i q)
      · unfold bb
        rw [if_neg h2]
        exact .inr q
theorem elems_succ (T i : Nat) : elems T (i + 1) = elems T i ++ (if T.testBit i = true then [i] else []) := by
  unfold elems
  rw [List.range_succ, List.filter_append, List.filter_cons, List.filter_nil]
theorem map_wfb {A : Nat → Int32} {b T n : Nat} (hn : n ≤ 8) : (elems T n).map (wfb A b) = (elems T n).map (wdA A) := by
  apply List.map_congr_left
  intro m hm
  have := (elems_mem.mp hm).1
  unfold wfb
  rw [if_neg (by omega)]
/-- own, by bags -/
theorem ownb_bag {A : Nat → Int32} {b T o n : Nat} (hn : n ≤ 8) (hT : T < 2 ^ n) : ownb A b T o ↔ ((elems T n).length ≤ 5 ∧ bagHas (syA A) ((elems T n).map (wdA A)) o) ∨ (b ≠ 0 ∧ (elems T n).length < 5 ∧ bagHas (syA A) ((b - 1) :: (elems T n).map (wdA A)) o) := by
  have h8 : T < 2 ^ 8 := Nat.lt_of_lt_of_le hT (Nat.pow_le_pow_right (by decide) hn)
  have hE : elems T 8 = elems T n := elems_ext hT hn
  unfold ownb
  rw [mks_bag (syA A) (wfb A b) hT, map_wfb hn]
  have h9 : T ||| 256 < 2 ^ 9 := Nat.or_lt_two_pow (Nat.lt_trans h8 (by decide)) (by decide)
  rw [mks_bag (syA A) (wfb A b) h9]
  have e9 : elems (T ||| 256) 9 = elems T n ++ [8] := by
    rw [elems_succ, ← hE]
    have : elems (T ||| 256) 8 = elems T 8 := by
      unfold elems
      apply List.filter_congr
      intro m hm
      have := List.mem_range.mp hm
      rw [Nat.testBit_or, bit_256]
      simp; omega
    rw [this, if_pos (by rw [Nat.testBit_or, bit_256]; simp)]
  rw [e9, List.length_append, List.map_append, map_wfb hn]
  have hp : ((elems T n).map (wdA A) ++ [8].map (wfb A b)).Perm ((b - 1) :: (elems T n).map (wdA A)) := by
    show ((elems T n).map (wdA A) ++ [wfb A b 8]).Perm _
    rw [show wfb A b 8 = b - 1 from by unfold wfb; rw [if_pos rfl]]
    exact List.perm_append_comm
  rw [bagHas_perm (syA A) hp]
  constructor
  · rintro (q | ⟨q1, q2, q3⟩)
    · exact .inl q
    · exact .inr ⟨q1, by simp only [List.length_cons, List.length_nil] at q2; omega, q3⟩
  · rintro (q | ⟨q1, q2, q3⟩)
    · exact .inl q
    · exact .inr ⟨q1, by simp only [List.length_cons, List.length_nil]; omega, q3⟩
section RE
variable {h : pm_H} {s : Nat} {A : Nat → Int32}
theorem EXA.at (E : EXA h A) {l : List Nat} (hl : l.length ≤ 5) (hx : ∀ x ∈ l, x < 10) : ∃ e, h.2.1 74 (bn l) = nI e ∧ e < 256 ∧ ∀ o, e.testBit o = true ↔ bagHas (syA A) l o := by
  obtain ⟨e, h1, h2, h3⟩ := E (bn l) (bn_lt hx hl)
  refine ⟨e, h1, h2, fun o => ?_⟩
  rw [h3 o]
  constructor
  · rintro ⟨v, q1, q2, q3, q4⟩
    exact ⟨v, bn_inj q3 q2 hx hl q4, q1⟩
  · rintro ⟨v, q1, q2⟩
    exact ⟨v, q2, by rw [q1.length_eq]; exact hl, fun x hxv => hx x (q1.mem_iff.mp hxv), bn_perm q1⟩
theorem EXA.fr {h' : pm_H} (E : EXA h A) (h1 : h'.2.1 74 = h.2.1 74) : EXA h' A := by
  unfold EXA at E ⊢
  rw [h1]
  exact E
theorem x_bit_n {x k : Nat} (hx : x < 2147483648) (hk : k < 32) : x_bit (nI x) (nI k) h = some (nI (x.testBit k).toNat) := by
  unfold x_bit
  rw [show Int32.ofInt 1 = nI 1 from rfl, nx_bit hx hk]
theorem k_oa_loop (S : CSh h s A) (w : WFA A) (R : RF h) (hs : h.2.2.2 69 0 = some s) {T : Nat} (hT : T < 2147483648) (B : BAG h []) (y : Int32) : SP (wh (fun z : (Int32 × pm_H) => c_ordersOfAll_10 69 y (nI T) z.1 z.2) (nI 0, h)) (fun h' => Fr (· = 76) h h' ∧ BAG h' ((elems T (an A 1)).map (wdA A)).reverse) := by
  have h1 := w.e1
  have h0 := w.e0
  have hsv := hull_ge S.1
  refine wh_cnt (fun i z => z.1 = nI i ∧ Fr (· = 76) h z.2 ∧ BAG z.2 ((elems T i).map (wdA A)).reverse) _ (an A 1) ?_ ?_ 0 (nI 0, h) (by omega) ⟨rfl, Fr.refl _ _, by simpa [elems] using B⟩
  · rintro i ⟨x, h2⟩ hi ⟨rfl, f2, B2⟩
    dsimp only at f2 B2
    have S2 := S.fr f2 (fun c a b => by omega)
    have R2 := R.fr f2
    have s2 : h2.2.2.2 69 0 = some s := by rw [f2.r]; exact hs
    unfold c_ordersOfAll_10
    refine sp_neg (by rw [s2]; simp) ?_
    simp (disch := omega) only [kc_im8, kc_im1, kc_i0, kc_i1, kc_i2, kc_i3, kc_i4, kc_i5, kc_b_m100, kc_b_m16, kc_b_m15, kc_b_m14, kc_b_m13, kc_b_m12, kc_b_m11, kc_b_m2, kc_b_6, kc_b_7, kc_b_8, kc_b_9, kc_b_10, kc_b_11, kc_b_12, kc_b_13, kc_b_14, kc_b_15, kc_b_16, kc_b_20, kc_b_24, kc_b_32, kc_b_37, kc_b_40, kc_b_42, kc_b_43, kc_b_45, kc_b_47, kc_b_48, kc_b_57, kc_b_58, kc_b_59, kc_b_60, kc_b_61, kc_b_62, kc_b_63, kc_b_91, kc_b_93, kc_b_97, kc_b_99, kc_b_100, kc_b_106, kc_b_122, kc_s_206, kc_s_226, kc_s_227, kc_s_255, kc_s_256, kc_s_316, kc_s_318, kc_s_400, kc_s_512, kc_s_999, kc_s_1160, kc_s_1536, kc_s_3003, kc_lm11, kc_lm10, kc_lm9, kc_lm8, kc_lm7, kc_lm6, kc_lm5, kc_lm4, kc_lm3, kc_lm2, kc_lm1, kc_l1, kc_l2, kc_l3, kc_l4, kc_l5, kc_l6, kc_l7, kc_l8, kc_l9, kc_l10, kc_l11, kc_l12, kc_l13, kc_l14, kc_l37, kc_l42, kc_l43, kc_l45, kc_l47, kc_l60, kc_l61, kc_l62, kc_l316, kc_l318, kc_l65536, kc_l99999, kc_l1000000, kc_l252645135, kc_l858993459, kc_l1431655765, kc_0, kc_on, gO_of s2 S2.1, Option.bind_some, S2.2.2.1, h1.1, nx_lt, nx_le, nx_eq, nx_add, nx_sub, nx_mul, nx_cl, n_lt_ng, n_le_ng, n_eq_ng, ng_lt_n, ng_le_n, ng_eq_n, ng_eq, ng_lt, ng_le, nx_dec, x_bit_n]
    refine sp_neg (by omega) ?_
    rw [elems_succ]
    cases hb : T.testBit i with
    | false =>
      refine sp_pos (by show ¬ nI 0 = nI 1; rw [nx_eq (by omega) (by omega)]; omega) (sp_some.mpr ⟨rfl, f2, ?_⟩)
      simpa using B2
    | true =>
      refine sp_neg (by show ¬ ¬ nI 1 = nI 1; simp) ?_
      have hw := w.m0 hi
      rw [c_wordOf S2 w R2 hi, Option.bind_some, hw.1]
      have hle : ((elems T i).map (wdA A)).reverse.length < 100 := by
        rw [List.length_reverse, List.length_map]
        have : (elems T i).length ≤ i := by unfold elems; exact Nat.le_trans (List.length_filter_le _ _) (by simp)
        omega
      refine sp_call (k_put R2 B2 hle (by omega)) ?_
      rintro h3 ⟨f3, B3⟩
      refine sp_some.mpr ⟨rfl, f2.trans f3, ?_⟩
      simpa [wdA] using B3
  · rintro ⟨x, h2⟩ ⟨rfl, f2, B2⟩
    dsimp only at f2 B2
    have S2 := S.fr f2 (fun c a b => by omega)
    have R2 := R.fr f2
    have s2 : h2.2.2.2 69 0 = some s := by rw [f2.r]; exact hs
    unfold c_ordersOfAll_10
    refine sp_neg (by rw [s2]; simp) ?_
    simp (disch := omega) only [kc_im8, kc_im1, kc_i0, kc_i1, kc_i2, kc_i3, kc_i4, kc_i5, kc_b_m100, kc_b_m16, kc_b_m15, kc_b_m14, kc_b_m13, kc_b_m12, kc_b_m11, kc_b_m2, kc_b_6, kc_b_7, kc_b_8, kc_b_9, kc_b_10, kc_b_11, kc_b_12, kc_b_13, kc_b_14, kc_b_15, kc_b_16, kc_b_20, kc_b_24, kc_b_32, kc_b_37, kc_b_40, kc_b_42, kc_b_43, kc_b_45, kc_b_47, kc_b_48, kc_b_57, kc_b_58, kc_b_59, kc_b_60, kc_b_61, kc_b_62, kc_b_63, kc_b_91, kc_b_93, kc_b_97, kc_b_99, kc_b_100, kc_b_106, kc_b_122, kc_s_206, kc_s_226, kc_s_227, kc_s_255, kc_s_256, kc_s_316, kc_s_318, kc_s_400, kc_s_512, kc_s_999, kc_s_1160, kc_s_1536, kc_s_3003, kc_lm11, kc_lm10, kc_lm9, kc_lm8, kc_lm7, kc_lm6, kc_lm5, kc_lm4, kc_lm3, kc_lm2, kc_lm1, kc_l1, kc_l2, kc_l3, kc_l4, kc_l5, kc_l6, kc_l7, kc_l8, kc_l9, kc_l10, kc_l11, kc_l12, kc_l13, kc_l14, kc_l37, kc_l42, kc_l43, kc_l45, kc_l47, kc_l60, kc_l61, kc_l62, kc_l316, kc_l318, kc_l65536, kc_l99999, kc_l1000000, kc_l252645135, kc_l858993459, kc_l1431655765, kc_0, kc_on, gO_of s2 S2.1, Option.bind_some, S2.2.2.1, h1.1, nx_lt, nx_le, nx_eq, nx_add, nx_sub, nx_mul, nx_cl, n_lt_ng, n_le_ng, n_eq_ng, ng_lt_n, ng_le_n, ng_eq_n, ng_eq, ng_lt, ng_le, nx_dec]
    exact sp_pos (by omega) (sp_some.mpr ⟨f2, B2⟩)
theorem bv_neg {b : Nat} (hb : b ≤ 10) : (bv b < nI 0) = (b = 0) := by
  unfold bv
  split
  · rename_i e; simp (disch := omega) [ng_lt_n, e]
  · rename_i e; simp (disch := omega) [nx_lt, e]
theorem k_oa (S : CSh h s A) (w : WFA A) (R : RF h) (hs : h.2.2.2 69 0 = some s) (E : EXA h A) {b T : Nat} (hb : b ≤ 10) (hT : T < 2 ^ an A 1) : SP (c_ordersOfAll 69 (bv b) (nI T) h) (fun z => Fr (· = 76) h z.2 ∧ ∃ e, z.1 = nI e ∧ e < 256 ∧ ∀ o, e.testBit o = true ↔ ownb A b T o) := by
  have h1 := w.e1
  have h0 := w.e0
  have hsv := hull_ge S.1
  have hT8 : T < 256 := Nat.lt_of_lt_of_le hT (Nat.pow_le_pow_right (n := 2) (by decide) (by omega : an A 1 ≤ 8))
  have hpc : pc T = (elems T (an A 1)).length := pc_eq hT (by omega)
  have hpl : (elems T (an A 1)).length ≤ 8 := by
    have : (elems T (an A 1)).length ≤ an A 1 := by unfold elems; exact Nat.le_trans (List.length_filter_le _ _) (by simp)
    omega
  unfold c_ordersOfAll
  rw [ra_69_5 R, Option.bind_some]
  refine sp_call (y_fill_sp (by rw [mn_76]; omega)) ?_
  rintro h2 ⟨f2, z2⟩
  rw [mn_76] at z2
  have S2 := S.fr f2 (fun c a b => by omega)
  have R2 := R.fr f2
  have s2 : h2.2.2.2 69 0 = some s := by rw [f2.r]; exact hs
  refine sp_call (k_oa_loop S2 w R2 s2 (by omega) (fun x hx => z2 x hx) _) ?_
  rintro h3 ⟨f3, B3⟩
  have f23 := f2.trans f3
  have R3 := R.fr f23
  have E3 := E.fr (f23.2.2 74 (by omega)).1
  generalize hl : ((elems T (an A 1)).map (wdA A)).reverse = l at B3
  have hll : l.length = pc T := by rw [← hl, List.length_reverse, List.length_map, hpc]
  have hlp : l.Perm ((elems T (an A 1)).map (wdA A)) := by rw [← hl]; exact List.reverse_perm _
  have hlx : ∀ x ∈ l, x < 10 := by
    intro x hx
    obtain ⟨m, hm, rfl⟩ := List.mem_map.mp (hlp.mem_iff.mp hx)
    have := (w.m0 (elems_mem.mp hm).1).2
    unfold wdA
    omega
  have own : ∀ o, ownb A b T o ↔ (pc T ≤ 5 ∧ bagHas (syA A) l o) ∨ (b ≠ 0 ∧ pc T < 5 ∧ bagHas (syA A) ((b - 1) :: l) o) := by
    intro o
    rw [ownb_bag (by omega) hT, ← hpc, bagHas_perm (syA A) hlp, bagHas_perm (syA A) (hlp.cons (b - 1))]
  unfold c_ordersOfAll_55
  rw [k_bc h3 (by omega), Option.bind_some]
  have fin : ∀ e1, e1 < 256 → (∀ o, e1.testBit o = true ↔ pc T ≤ 5 ∧ bagHas (syA A) l o) → SP (c_ordersOfAll_79 69 (bv b) (nI (pc T)) (nI e1) h3) (fun z => Fr (· = 76) h z.2 ∧ ∃ e, z.1 = nI e ∧ e < 256 ∧ ∀ o, e.testBit o = true ↔ ownb A b T o) := by
    intro e1 he1 hb1
    unfold c_ordersOfAll_79
    simp (disch := omega) only [kc_im8, kc_im1, kc_i0, kc_i1, kc_i2, kc_i3, kc_i4, kc_i5, kc_b_m100, kc_b_m16, kc_b_m15, kc_b_m14, kc_b_m13, kc_b_m12, kc_b_m11, kc_b_m2, kc_b_6, kc_b_7, kc_b_8, kc_b_9, kc_b_10, kc_b_11, kc_b_12, kc_b_13, kc_b_14, kc_b_15, kc_b_16, kc_b_20, kc_b_24, kc_b_32, kc_b_37, kc_b_40, kc_b_42, kc_b_43, kc_b_45, kc_b_47, kc_b_48, kc_b_57, kc_b_58, kc_b_59, kc_b_60, kc_b_61, kc_b_62, kc_b_63, kc_b_91, kc_b_93, kc_b_97, kc_b_99, kc_b_100, kc_b_106, kc_b_122, kc_s_206, kc_s_226, kc_s_227, kc_s_255, kc_s_256, kc_s_316, kc_s_318, kc_s_400, kc_s_512, kc_s_999, kc_s_1160, kc_s_1536, kc_s_3003, kc_lm11, kc_lm10, kc_lm9, kc_lm8, kc_lm7, kc_lm6, kc_lm5, kc_lm4, kc_lm3, kc_lm2, kc_lm1, kc_l1, kc_l2, kc_l3, kc_l4, kc_l5, kc_l6, kc_l7, kc_l8, kc_l9, kc_l10, kc_l11, kc_l12, kc_l13, kc_l14, kc_l37, kc_l42, kc_l43, kc_l45, kc_l47, kc_l60, kc_l61, kc_l62, kc_l316, kc_l318, kc_l65536, kc_l99999, kc_l1000000, kc_l252645135, kc_l858993459, kc_l1431655765, kc_0, kc_on, nx_lt, nx_le, nx_eq, nx_add, nx_sub, nx_mul, nx_cl, n_lt_ng, n_le_ng, n_eq_ng, ng_lt_n, ng_le_n, ng_eq_n, ng_eq, ng_lt, ng_le, nx_dec]
    by_cases b0 : b = 0
    · refine sp_pos (by rw [bv_neg hb]; exact b0) (sp_some.mpr ⟨f23, e1, rfl, he1, fun o => ?_⟩)
      rw [hb1 o, own o]
      simp [b0]
    · refine sp_neg (by rw [bv_neg hb]; exact b0) ?_
      by_cases p5 : 5 ≤ pc T
      · refine sp_pos p5 (sp_some.mpr ⟨f23, e1, rfl, he1, fun o => ?_⟩)
        rw [hb1 o, own o]
        constructor
        · exact .inl
        · rintro (q | ⟨_, q, _⟩)
          · exact q
          · omega
      · refine sp_neg p5 ?_
        rw [show bv b = nI (b - 1) from by unfold bv; rw [if_neg b0]]
        refine sp_call (k_put R3 B3 (by omega) (by omega)) ?_
        rintro h4 ⟨f4, B4⟩
        have R4 := R3.fr f4
        have E4 := E3.fr (f4.2.2 74 (by omega)).1
        have hx4 : ∀ x ∈ (b - 1) :: l, x < 10 := by
          intro x hx
          rcases List.mem_cons.mp hx with rfl | hx
          · omega
          · exact hlx x hx
        have hl4 : ((b - 1) :: l).length = pc T + 1 := by rw [List.length_cons, hll]
        obtain ⟨e2, a1, a2, a3⟩ := E4.at (l := (b - 1) :: l) (by omega) hx4
        have hbn := bn_lt hx4 (by omega)
        rw [ra_69_2 R4, Option.bind_some, ← hl4, k_bagNumber R4 B4 (by omega) hx4, Option.bind_some, mn_74, gi_n (by omega), nx_cl (by omega)]
        refine sp_pos (by simpa using hbn) ?_
        rw [a1, nx_or2]
        refine sp_some.mpr ⟨f23.trans f4, e1 ||| e2, rfl, Nat.or_lt_two_pow (n := 8) he1 a2, fun o => ?_⟩
        rw [Nat.testBit_or, Bool.or_eq_true, hb1 o, a3 o, own o]
        constructor
        · rintro (q | q)
          · exact .inl q
          · exact .inr ⟨b0, by omega, q⟩
        · rintro (q | ⟨_, _, q⟩)
          · exact .inl q
          · exact .inr q
  simp (disch := omega) only [kc_im8, kc_im1, kc_i0, kc_i1, kc_i2, kc_i3, kc_i4, kc_i5, kc_b_m100, kc_b_m16, kc_b_m15, kc_b_m14, kc_b_m13, kc_b_m12, kc_b_m11, kc_b_m2, kc_b_6, kc_b_7, kc_b_8, kc_b_9, kc_b_10, kc_b_11, kc_b_12, kc_b_13, kc_b_14, kc_b_15, kc_b_16, kc_b_20, kc_b_24, kc_b_32, kc_b_37, kc_b_40, kc_b_42, kc_b_43, kc_b_45, kc_b_47, kc_b_48, kc_b_57, kc_b_58, kc_b_59, kc_b_60, kc_b_61, kc_b_62, kc_b_63, kc_b_91, kc_b_93, kc_b_97, kc_b_99, kc_b_100, kc_b_106, kc_b_122, kc_s_206, kc_s_226, kc_s_227, kc_s_255, kc_s_256, kc_s_316, kc_s_318, kc_s_400, kc_s_512, kc_s_999, kc_s_1160, kc_s_1536, kc_s_3003, kc_lm11, kc_lm10, kc_lm9, kc_lm8, kc_lm7, kc_lm6, kc_lm5, kc_lm4, kc_lm3, kc_lm2, kc_lm1, kc_l1, kc_l2, kc_l3, kc_l4, kc_l5, kc_l6, kc_l7, kc_l8, kc_l9, kc_l10, kc_l11, kc_l12, kc_l13, kc_l14, kc_l37, kc_l42, kc_l43, kc_l45, kc_l47, kc_l60, kc_l61, kc_l62, kc_l316, kc_l318, kc_l65536, kc_l99999, kc_l1000000, kc_l252645135, kc_l858993459, kc_l1431655765, kc_0, kc_on, nx_lt, nx_le, nx_eq, nx_add, nx_sub, nx_mul, nx_cl, n_lt_ng, n_le_ng, n_eq_ng, ng_lt_n, ng_le_n, ng_eq_n, ng_eq, ng_lt, ng_le, nx_dec]
  by_cases p5 : pc T ≤ 5
  · refine sp_pos p5 ?_
    obtain ⟨e1, a1, a2, a3⟩ := E3.at (l := l) (by omega) hlx
    have hbn := bn_lt hlx (by omega)
    rw [ra_69_2 R3, Option.bind_some, ← hll, k_bagNumber R3 B3 (by omega) hlx, Option.bind_some, mn_74, gi_n (by omega), nx_cl (by omega)]
    refine sp_pos (by simpa using hbn) ?_
    rw [a1, hll]
    exact fin e1 a2 (fun o => by rw [a3 o]; exact ⟨fun q => ⟨p5, q⟩, fun q => q.2⟩)
  · refine sp_neg p5 (fin 0 (by omega) (fun o => ?_))
    rw [Nat.zero_testBit]
    constructor
    · intro q; cases q
    · rintro ⟨q, _⟩; exact (p5 q).elim
end RE
