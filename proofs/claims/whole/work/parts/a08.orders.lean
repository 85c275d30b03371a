/-! The program's Choir: orders. -/
theorem sub_step {n : Nat} (hn : n ≤ 9) {Q : Nat → Prop} {T : Nat} (hT : T < 2 ^ n) : (∃ U, sub U T ∧ Q U) ↔ Q T ∨ ∃ m, m < n ∧ T.testBit m = true ∧ ∃ U, sub U (sd T (2 ^ m)) ∧ Q U := by
  have h9 : 2 ^ n ≤ 512 := Nat.pow_le_pow_right (n := 2) (by decide) hn
  constructor
  · rintro ⟨U, h1, h2⟩
    by_cases hU : U = T
    · subst hU; exact .inl h2
    · refine .inr ?_
      have hx : ∃ i, T.testBit i = true ∧ U.testBit i = false := by
        apply Classical.byContradiction
        intro hx
        apply hU
        apply Nat.eq_of_testBit_eq
        intro i
        cases hUi : U.testBit i with
        | true => rw [h1 i hUi]
        | false =>
          cases hTi : T.testBit i with
          | false => rfl
          | true => exact (hx ⟨i, hTi, hUi⟩).elim
      obtain ⟨m, h3, h4⟩ := hx
      have hm : m < n := by
        rcases Nat.lt_or_ge m n with q | q
        · exact q
        · rw [Nat.testBit_lt_two_pow (Nat.lt_of_lt_of_le hT (Nat.pow_le_pow_right (by decide) q))] at h3
          cases h3
      refine ⟨m, hm, h3, U, fun i hi => ?_, h2⟩
      rw [sd_bit, h1 i hi, Nat.testBit_two_pow]
      have : ¬ m = i := fun q => by subst q; rw [h4] at hi; cases hi
      simp [this]
  · rintro (h | ⟨m, _, _, U, h1, h2⟩)
    · exact ⟨T, sub_refl T, h⟩
    · exact ⟨U, sub_trans h1 (sub_sd _ _), h2⟩
theorem bv_add {b : Nat} (hb : b ≤ 10) : bv b + nI 1 = nI b := by
  unfold bv
  split
  · rename_i e; subst e; rfl
  · rw [nx_add, show b - 1 + 1 = b from by omega]
/-- a row of the table of sets -/
def REA (h : pm_H) (A : Nat → Int32) (b : Nat) : Prop := ∀ T, T < 2 ^ an A 1 → ∃ e, h.2.1 75 (b * 256 + T) = nI e ∧ e < 256 ∧ ∀ o, e.testBit o = true ↔ ∃ U, sub U T ∧ ownb A b U o
section OR
variable {h : pm_H} {s : Nat} {A : Nat → Int32}
theorem p256 (w : WFA A) : 2 ^ an A 1 ≤ 256 := by
  have := w.e1
  exact Nat.pow_le_pow_right (n := 2) (by decide) (by omega : an A 1 ≤ 8)
theorem k_fill_in (w : WFA A) (R : RF h) {b T : Nat} (hb : b ≤ 10) (hT : T < 2 ^ an A 1) (y1 y2 : Int32) (C : ∀ U, U < T → ∃ e, h.2.1 75 (b * 256 + U) = nI e ∧ e < 256 ∧ ∀ o, e.testBit o = true ↔ ∃ V, sub V U ∧ ownb A b V o) : SP (wh (fun z : (Int32 × Int32 × pm_H) => c_fill_54 69 y1 (nI (b * 256)) (nI (an A 1)) y2 (nI T) z.1 z.2.1 z.2.2) (nI 0, nI 0, h)) (fun z => z.2 = h ∧ ∃ e, z.1 = nI e ∧ e < 256 ∧ ∀ o, e.testBit o = true ↔ ∃ m, m < an A 1 ∧ T.testBit m = true ∧ ∃ U, sub U (sd T (2 ^ m)) ∧ ownb A b U o) := by
  have h1 := w.e1
  have hp := p256 w
  refine wh_cnt (fun i z => ∃ e, z = (nI e, nI i, h) ∧ e < 256 ∧ ∀ o, e.testBit o = true ↔ ∃ m, m < i ∧ T.testBit m = true ∧ ∃ U, sub U (sd T (2 ^ m)) ∧ ownb A b U o) _ (an A 1) ?_ ?_ 0 (nI 0, nI 0, h) (by omega) ⟨0, rfl, by omega, fun o => by simp⟩
  · rintro i z hi ⟨e, rfl, he, hb1⟩
    dsimp only
    unfold c_fill_54
    simp (disch := omega) only [kc_im8, kc_im1, kc_i0, kc_i1, kc_i2, kc_i3, kc_i4, kc_i5, kc_b_m100, kc_b_m16, kc_b_m15, kc_b_m14, kc_b_m13, kc_b_m12, kc_b_m11, kc_b_m2, kc_b_6, kc_b_7, kc_b_8, kc_b_9, kc_b_10, kc_b_11, kc_b_12, kc_b_13, kc_b_14, kc_b_15, kc_b_16, kc_b_20, kc_b_24, kc_b_32, kc_b_37, kc_b_40, kc_b_42, kc_b_43, kc_b_45, kc_b_47, kc_b_48, kc_b_57, kc_b_58, kc_b_59, kc_b_60, kc_b_61, kc_b_62, kc_b_63, kc_b_91, kc_b_93, kc_b_97, kc_b_99, kc_b_100, kc_b_106, kc_b_122, kc_s_206, kc_s_226, kc_s_227, kc_s_255, kc_s_256, kc_s_316, kc_s_318, kc_s_400, kc_s_512, kc_s_999, kc_s_1160, kc_s_1536, kc_s_3003, kc_lm11, kc_lm10, kc_lm9, kc_lm8, kc_lm7, kc_lm6, kc_lm5, kc_lm4, kc_lm3, kc_lm2, kc_lm1, kc_l1, kc_l2, kc_l3, kc_l4, kc_l5, kc_l6, kc_l7, kc_l8, kc_l9, kc_l10, kc_l11, kc_l12, kc_l13, kc_l14, kc_l37, kc_l42, kc_l43, kc_l45, kc_l47, kc_l60, kc_l61, kc_l62, kc_l316, kc_l318, kc_l65536, kc_l99999, kc_l1000000, kc_l252645135, kc_l858993459, kc_l1431655765, kc_0, kc_on, nx_lt, nx_le, nx_eq, nx_add, nx_sub, nx_mul, nx_cl, n_lt_ng, n_le_ng, n_eq_ng, ng_lt_n, ng_le_n, ng_eq_n, ng_eq, ng_lt, ng_le, nx_dec, x_bit_n, Option.bind_some]
    refine sp_neg (by omega) ?_
    cases hbt : T.testBit i with
    | false =>
      refine sp_pos (by show ¬ nI 0 = nI 1; rw [nx_eq (by omega) (by omega)]; omega) (sp_some.mpr ⟨e, rfl, he, fun o => ?_⟩)
      rw [hb1 o]
      constructor
      · rintro ⟨m, q1, q2⟩; exact ⟨m, by omega, q2⟩
      · rintro ⟨m, q1, q2, q3⟩
        have : m ≠ i := fun e => by subst e; rw [hbt] at q2; cases q2
        exact ⟨m, by omega, q2, q3⟩
    | true =>
      refine sp_neg (by show ¬ ¬ nI 1 = nI 1; simp) ?_
      have hge := Nat.ge_two_pow_of_testBit hbt
      have hsd := sd_pow T (by omega) i (by omega) hbt
      obtain ⟨e2, a1, a2, a3⟩ := C (sd T (2 ^ i)) hsd.2
      rw [ra_69_3 R, Option.bind_some, nx_shl1 (by omega), nx_sub (by omega), mn_75, gi_n (by omega), nx_cl (by omega), show b * 256 + T - 2 ^ i = b * 256 + sd T (2 ^ i) from by omega]
      refine sp_pos (by simp; omega) ?_
      rw [a1, nx_or2]
      refine sp_some.mpr ⟨e ||| e2, rfl, Nat.or_lt_two_pow (n := 8) he a2, fun o => ?_⟩
      rw [Nat.testBit_or, Bool.or_eq_true, hb1 o, a3 o]
      constructor
      · rintro (⟨m, q1, q2⟩ | q)
        · exact ⟨m, by omega, q2⟩
        · exact ⟨i, by omega, hbt, q⟩
      · rintro ⟨m, q1, q2, q3⟩
        by_cases em : m = i
        · subst em; exact .inr q3
        · exact .inl ⟨m, by omega, q2, q3⟩
  · rintro z ⟨e, rfl, he, hb1⟩
    dsimp only
    unfold c_fill_54
    simp (disch := omega) only [kc_im8, kc_im1, kc_i0, kc_i1, kc_i2, kc_i3, kc_i4, kc_i5, kc_b_m100, kc_b_m16, kc_b_m15, kc_b_m14, kc_b_m13, kc_b_m12, kc_b_m11, kc_b_m2, kc_b_6, kc_b_7, kc_b_8, kc_b_9, kc_b_10, kc_b_11, kc_b_12, kc_b_13, kc_b_14, kc_b_15, kc_b_16, kc_b_20, kc_b_24, kc_b_32, kc_b_37, kc_b_40, kc_b_42, kc_b_43, kc_b_45, kc_b_47, kc_b_48, kc_b_57, kc_b_58, kc_b_59, kc_b_60, kc_b_61, kc_b_62, kc_b_63, kc_b_91, kc_b_93, kc_b_97, kc_b_99, kc_b_100, kc_b_106, kc_b_122, kc_s_206, kc_s_226, kc_s_227, kc_s_255, kc_s_256, kc_s_316, kc_s_318, kc_s_400, kc_s_512, kc_s_999, kc_s_1160, kc_s_1536, kc_s_3003, kc_lm11, kc_lm10, kc_lm9, kc_lm8, kc_lm7, kc_lm6, kc_lm5, kc_lm4, kc_lm3, kc_lm2, kc_lm1, kc_l1, kc_l2, kc_l3, kc_l4, kc_l5, kc_l6, kc_l7, kc_l8, kc_l9, kc_l10, kc_l11, kc_l12, kc_l13, kc_l14, kc_l37, kc_l42, kc_l43, kc_l45, kc_l47, kc_l60, kc_l61, kc_l62, kc_l316, kc_l318, kc_l65536, kc_l99999, kc_l1000000, kc_l252645135, kc_l858993459, kc_l1431655765, kc_0, kc_on, nx_lt, nx_le, nx_eq, nx_add, nx_sub, nx_mul, nx_cl, n_lt_ng, n_le_ng, n_eq_ng, ng_lt_n, ng_le_n, ng_eq_n, ng_eq, ng_lt, ng_le, nx_dec]
    exact sp_pos (by omega) (sp_some.mpr ⟨rfl, e, rfl, he, hb1⟩)
def KE (c : Nat) : Prop := c = 75 ∨ c = 76
theorem k_fill (S : CSh h s A) (w : WFA A) (R : RF h) (hs : h.2.2.2 69 0 = some s) (E : EXA h A) {b : Nat} (hb : b ≤ 10) : SP (c_fill 69 (bv b) h) (fun h' => Fr KE h h' ∧ (∀ j, j < b * 256 ∨ b * 256 + 256 ≤ j → h'.2.1 75 j = h.2.1 75 j) ∧ REA h' A b) := by
  have h1 := w.e1
  have hp := p256 w
  have hsv := hull_ge S.1
  unfold c_fill c_fill_26
  refine sp_pos (by rw [hs]; simp) ?_
  have hmin : (if nI 256 < nI (2 ^ an A 1) then nI 256 else nI (2 ^ an A 1)) = nI (2 ^ an A 1) := by
    rw [if_neg]
    rw [nx_lt (by omega) (by omega)]
    omega
  simp (disch := omega) only [kc_im8, kc_im1, kc_i0, kc_i1, kc_i2, kc_i3, kc_i4, kc_i5, kc_b_m100, kc_b_m16, kc_b_m15, kc_b_m14, kc_b_m13, kc_b_m12, kc_b_m11, kc_b_m2, kc_b_6, kc_b_7, kc_b_8, kc_b_9, kc_b_10, kc_b_11, kc_b_12, kc_b_13, kc_b_14, kc_b_15, kc_b_16, kc_b_20, kc_b_24, kc_b_32, kc_b_37, kc_b_40, kc_b_42, kc_b_43, kc_b_45, kc_b_47, kc_b_48, kc_b_57, kc_b_58, kc_b_59, kc_b_60, kc_b_61, kc_b_62, kc_b_63, kc_b_91, kc_b_93, kc_b_97, kc_b_99, kc_b_100, kc_b_106, kc_b_122, kc_s_206, kc_s_226, kc_s_227, kc_s_255, kc_s_256, kc_s_316, kc_s_318, kc_s_400, kc_s_512, kc_s_999, kc_s_1160, kc_s_1536, kc_s_3003, kc_lm11, kc_lm10, kc_lm9, kc_lm8, kc_lm7, kc_lm6, kc_lm5, kc_lm4, kc_lm3, kc_lm2, kc_lm1, kc_l1, kc_l2, kc_l3, kc_l4, kc_l5, kc_l6, kc_l7, kc_l8, kc_l9, kc_l10, kc_l11, kc_l12, kc_l13, kc_l14, kc_l37, kc_l42, kc_l43, kc_l45, kc_l47, kc_l60, kc_l61, kc_l62, kc_l316, kc_l318, kc_l65536, kc_l99999, kc_l1000000, kc_l252645135, kc_l858993459, kc_l1431655765, kc_0, kc_on, gO_of hs S.1, Option.bind_some, S.2.2.1, h1.1, bv_add hb, nx_mul, nx_shl1, hmin]
  refine sp_call (P := fun h' => Fr KE h h' ∧ (∀ j, j < b * 256 ∨ b * 256 + 256 ≤ j → h'.2.1 75 j = h.2.1 75 j) ∧ REA h' A b) ?_ (fun r hr => sp_some.mpr hr)
  refine wh_cnt (fun T z => z.1 = nI T ∧ Fr KE h z.2 ∧ (∀ j, j < b * 256 ∨ b * 256 + 256 ≤ j → z.2.2.1 75 j = h.2.1 75 j) ∧ ∀ U, U < T → ∃ e, z.2.2.1 75 (b * 256 + U) = nI e ∧ e < 256 ∧ ∀ o, e.testBit o = true ↔ ∃ V, sub V U ∧ ownb A b V o) _ (2 ^ an A 1) ?_ ?_ 0 (nI 0, h) (Nat.zero_le _) ⟨rfl, Fr.refl _ _, fun _ _ => rfl, fun U hU => by omega⟩
  · rintro T ⟨x, h2⟩ hT ⟨rfl, f2, o2, C2⟩
    dsimp only at f2 o2 C2
    have S2 := S.fr f2 (fun c a b => by unfold KE; omega)
    have R2 := R.fr f2
    have E2 := E.fr (f2.2.2 74 (by unfold KE; omega)).1
    have s2 : h2.2.2.2 69 0 = some s := by rw [f2.r]; exact hs
    unfold c_fill_41
    simp (disch := omega) only [kc_im8, kc_im1, kc_i0, kc_i1, kc_i2, kc_i3, kc_i4, kc_i5, kc_b_m100, kc_b_m16, kc_b_m15, kc_b_m14, kc_b_m13, kc_b_m12, kc_b_m11, kc_b_m2, kc_b_6, kc_b_7, kc_b_8, kc_b_9, kc_b_10, kc_b_11, kc_b_12, kc_b_13, kc_b_14, kc_b_15, kc_b_16, kc_b_20, kc_b_24, kc_b_32, kc_b_37, kc_b_40, kc_b_42, kc_b_43, kc_b_45, kc_b_47, kc_b_48, kc_b_57, kc_b_58, kc_b_59, kc_b_60, kc_b_61, kc_b_62, kc_b_63, kc_b_91, kc_b_93, kc_b_97, kc_b_99, kc_b_100, kc_b_106, kc_b_122, kc_s_206, kc_s_226, kc_s_227, kc_s_255, kc_s_256, kc_s_316, kc_s_318, kc_s_400, kc_s_512, kc_s_999, kc_s_1160, kc_s_1536, kc_s_3003, kc_lm11, kc_lm10, kc_lm9, kc_lm8, kc_lm7, kc_lm6, kc_lm5, kc_lm4, kc_lm3, kc_lm2, kc_lm1, kc_l1, kc_l2, kc_l3, kc_l4, kc_l5, kc_l6, kc_l7, kc_l8, kc_l9, kc_l10, kc_l11, kc_l12, kc_l13, kc_l14, kc_l37, kc_l42, kc_l43, kc_l45, kc_l47, kc_l60, kc_l61, kc_l62, kc_l316, kc_l318, kc_l65536, kc_l99999, kc_l1000000, kc_l252645135, kc_l858993459, kc_l1431655765, kc_0, kc_on, nx_lt, nx_le, nx_eq, nx_add, nx_sub, nx_mul, nx_cl, n_lt_ng, n_le_ng, n_eq_ng, ng_lt_n, ng_le_n, ng_eq_n, ng_eq, ng_lt, ng_le, nx_dec]
    refine sp_neg (by omega) ?_
    refine sp_call (k_fill_in w R2 hb hT _ _ C2) ?_
    rintro ⟨v, h3⟩ ⟨rfl, e1, he, he1, hb1⟩
    dsimp only at he
    subst he
    dsimp only
    rw [ra_69_3 R2, Option.bind_some]
    refine sp_call (k_oa S2 w R2 s2 E2 hb hT) ?_
    rintro ⟨v, h4⟩ ⟨f4, e2, he, he2, hb2⟩
    dsimp only at he f4
    subst he
    dsimp only
    rw [mn_75]
    refine sp_pos (by rw [gi_n (by omega)]; simp; omega) ?_
    rw [nx_or2, sp_bd, sp_some]
    refine ⟨rfl, (f2.trans (f4.mono (fun c hc => .inr hc))).setI (.inl rfl), fun j hj => ?_, fun U hU => ?_⟩
    · show (pm_setI h4 75 (b * 256 + T) (nI (e1 ||| e2))).2.1 75 j = _
      rw [ri_j _ (by omega), f4.i _ (by omega)]
      exact o2 j hj
    · show ∃ e, (pm_setI h4 75 (b * 256 + T) (nI (e1 ||| e2))).2.1 75 (b * 256 + U) = nI e ∧ _
      by_cases eU : U = T
      · subst eU
        refine ⟨e1 ||| e2, ri_s _, Nat.or_lt_two_pow (n := 8) he1 he2, fun o => ?_⟩
        rw [Nat.testBit_or, Bool.or_eq_true, hb1 o, hb2 o, sub_step (n := an A 1) (Q := fun U => ownb A b U o) (by omega) hT]
        exact ⟨fun q => q.symm, fun q => q.symm⟩
      · rw [ri_j _ (by omega), f4.i _ (by omega)]
        exact C2 U (by omega)
  · rintro ⟨x, h2⟩ ⟨rfl, f2, o2, C2⟩
    dsimp only at f2 o2 C2
    unfold c_fill_41
    simp (disch := omega) only [kc_im8, kc_im1, kc_i0, kc_i1, kc_i2, kc_i3, kc_i4, kc_i5, kc_b_m100, kc_b_m16, kc_b_m15, kc_b_m14, kc_b_m13, kc_b_m12, kc_b_m11, kc_b_m2, kc_b_6, kc_b_7, kc_b_8, kc_b_9, kc_b_10, kc_b_11, kc_b_12, kc_b_13, kc_b_14, kc_b_15, kc_b_16, kc_b_20, kc_b_24, kc_b_32, kc_b_37, kc_b_40, kc_b_42, kc_b_43, kc_b_45, kc_b_47, kc_b_48, kc_b_57, kc_b_58, kc_b_59, kc_b_60, kc_b_61, kc_b_62, kc_b_63, kc_b_91, kc_b_93, kc_b_97, kc_b_99, kc_b_100, kc_b_106, kc_b_122, kc_s_206, kc_s_226, kc_s_227, kc_s_255, kc_s_256, kc_s_316, kc_s_318, kc_s_400, kc_s_512, kc_s_999, kc_s_1160, kc_s_1536, kc_s_3003, kc_lm11, kc_lm10, kc_lm9, kc_lm8, kc_lm7, kc_lm6, kc_lm5, kc_lm4, kc_lm3, kc_lm2, kc_lm1, kc_l1, kc_l2, kc_l3, kc_l4, kc_l5, kc_l6, kc_l7, kc_l8, kc_l9, kc_l10, kc_l11, kc_l12, kc_l13, kc_l14, kc_l37, kc_l42, kc_l43, kc_l45, kc_l47, kc_l60, kc_l61, kc_l62, kc_l316, kc_l318, kc_l65536, kc_l99999, kc_l1000000, kc_l252645135, kc_l858993459, kc_l1431655765, kc_0, kc_on, nx_lt, nx_le, nx_eq, nx_add, nx_sub, nx_mul, nx_cl, n_lt_ng, n_le_ng, n_eq_ng, ng_lt_n, ng_le_n, ng_eq_n, ng_eq, ng_lt, ng_le, nx_dec]
    exact sp_pos (by omega) (sp_some.mpr ⟨f2, o2, C2⟩)
/-- the choir knows the ship s -/
def CHO (h : pm_H) (s : Nat) (A : Nat → Int32) : Prop := h.2.2.2 69 0 = some s ∧ EXA h A ∧ ∃ f, h.2.1 69 4 = nI f ∧ f < 2048 ∧ ∀ b, b ≤ 10 → f.testBit b = true → REA h A b
def KF (c : Nat) : Prop := c = 69 ∨ c = 75 ∨ c = 76
theorem k_orders (S : CSh h s A) (w : WFA A) (R : RF h) (C : CHO h s A) {b X : Nat} (hb : b ≤ 10) (hX : X &&& 255 < 2 ^ an A 1) : SP (c_orders 69 (bv b) (nI X) h) (fun z => Fr KF h z.2 ∧ CHO z.2 s A ∧ ∃ e, z.1 = nI e ∧ e < 256 ∧ ∀ o, e.testBit o = true ↔ can (syA A) (wfb A b) ((X &&& 255) ||| bb b) o) := by
  obtain ⟨hs, E, f, hf, hf2, hR⟩ := C
  have h1 := w.e1
  have hp := p256 w
  have hsv := hull_ge S.1
  have hbv : ¬ bv b < ng 1 ∧ bv b < nI 10 := by
    unfold bv
    split
    · exact ⟨by rw [ng_lt (by omega) (by omega)]; omega, by rw [ng_lt_n (by omega) (by omega) (by omega)]; trivial⟩
    · exact ⟨by rw [n_lt_ng (by omega) (by omega)]; exact id, by rw [nx_lt (by omega) (by omega)]; omega⟩
  unfold c_orders
  simp (disch := omega) only [kc_im8, kc_im1, kc_i0, kc_i1, kc_i2, kc_i3, kc_i4, kc_i5, kc_b_m100, kc_b_m16, kc_b_m15, kc_b_m14, kc_b_m13, kc_b_m12, kc_b_m11, kc_b_m2, kc_b_6, kc_b_7, kc_b_8, kc_b_9, kc_b_10, kc_b_11, kc_b_12, kc_b_13, kc_b_14, kc_b_15, kc_b_16, kc_b_20, kc_b_24, kc_b_32, kc_b_37, kc_b_40, kc_b_42, kc_b_43, kc_b_45, kc_b_47, kc_b_48, kc_b_57, kc_b_58, kc_b_59, kc_b_60, kc_b_61, kc_b_62, kc_b_63, kc_b_91, kc_b_93, kc_b_97, kc_b_99, kc_b_100, kc_b_106, kc_b_122, kc_s_206, kc_s_226, kc_s_227, kc_s_255, kc_s_256, kc_s_316, kc_s_318, kc_s_400, kc_s_512, kc_s_999, kc_s_1160, kc_s_1536, kc_s_3003, kc_lm11, kc_lm10, kc_lm9, kc_lm8, kc_lm7, kc_lm6, kc_lm5, kc_lm4, kc_lm3, kc_lm2, kc_lm1, kc_l1, kc_l2, kc_l3, kc_l4, kc_l5, kc_l6, kc_l7, kc_l8, kc_l9, kc_l10, kc_l11, kc_l12, kc_l13, kc_l14, kc_l37, kc_l42, kc_l43, kc_l45, kc_l47, kc_l60, kc_l61, kc_l62, kc_l316, kc_l318, kc_l65536, kc_l99999, kc_l1000000, kc_l252645135, kc_l858993459, kc_l1431655765, kc_0, kc_on, hf, bv_add hb, x_bit_n, Option.bind_some]
  refine sp_neg hbv.1 (sp_pos hbv.2 ?_)
  have fin : ∀ h2, RF h2 → REA h2 A b → SP (c_orders_45 69 (bv b) (nI X) h2) (fun z => z.2 = h2 ∧ ∃ e, z.1 = nI e ∧ e < 256 ∧ ∀ o, e.testBit o = true ↔ can (syA A) (wfb A b) ((X &&& 255) ||| bb b) o) := by
    intro h2 R2 C2
    unfold c_orders_45
    simp (disch := omega) only [kc_im8, kc_im1, kc_i0, kc_i1, kc_i2, kc_i3, kc_i4, kc_i5, kc_b_m100, kc_b_m16, kc_b_m15, kc_b_m14, kc_b_m13, kc_b_m12, kc_b_m11, kc_b_m2, kc_b_6, kc_b_7, kc_b_8, kc_b_9, kc_b_10, kc_b_11, kc_b_12, kc_b_13, kc_b_14, kc_b_15, kc_b_16, kc_b_20, kc_b_24, kc_b_32, kc_b_37, kc_b_40, kc_b_42, kc_b_43, kc_b_45, kc_b_47, kc_b_48, kc_b_57, kc_b_58, kc_b_59, kc_b_60, kc_b_61, kc_b_62, kc_b_63, kc_b_91, kc_b_93, kc_b_97, kc_b_99, kc_b_100, kc_b_106, kc_b_122, kc_s_206, kc_s_226, kc_s_227, kc_s_255, kc_s_256, kc_s_316, kc_s_318, kc_s_400, kc_s_512, kc_s_999, kc_s_1160, kc_s_1536, kc_s_3003, kc_lm11, kc_lm10, kc_lm9, kc_lm8, kc_lm7, kc_lm6, kc_lm5, kc_lm4, kc_lm3, kc_lm2, kc_lm1, kc_l1, kc_l2, kc_l3, kc_l4, kc_l5, kc_l6, kc_l7, kc_l8, kc_l9, kc_l10, kc_l11, kc_l12, kc_l13, kc_l14, kc_l37, kc_l42, kc_l43, kc_l45, kc_l47, kc_l60, kc_l61, kc_l62, kc_l316, kc_l318, kc_l65536, kc_l99999, kc_l1000000, kc_l252645135, kc_l858993459, kc_l1431655765, kc_0, kc_on, ra_69_3 R2, Option.bind_some, bv_add hb, nx_mul, nx_and2, nx_add, mn_75, gi_n, nx_cl]
    obtain ⟨e, a1, a2, a3⟩ := C2 (X &&& 255) hX
    refine sp_pos (by simp; omega) (sp_some.mpr ⟨rfl, e, a1, a2, fun o => ?_⟩)
    rw [a3 o, can_own (by omega)]
  cases hbt : f.testBit b with
  | true =>
    refine sp_pos (by show ¬ nI 1 = nI 0; rw [nx_eq (by omega) (by omega)]; omega) ((fin h R (hR b hb hbt)).mono ?_)
    rintro ⟨v, h2⟩ ⟨rfl, q⟩
    exact ⟨Fr.refl _ _, ⟨hs, E, f, hf, hf2, hR⟩, q⟩
  | false =>
    refine sp_neg (by show ¬ ¬ nI 0 = nI 0; simp) ?_
    refine sp_call (k_fill S w R hs E hb) ?_
    rintro h2 ⟨f2, o2, C2⟩
    have R2 := R.fr f2
    have g2 : h2.2.1 69 4 = nI f := by rw [f2.i _ (by unfold KE; omega)]; exact hf
    rw [g2, nx_shl1 (by omega), nx_or2, sp_bd]
    have C3 : ∀ c, REA h2 A c → REA (pm_setI h2 69 4 (nI (f ||| 2 ^ b))) A c := by
      intro c q T hT
      obtain ⟨e, a1, a2⟩ := q T hT
      exact ⟨e, by rw [ri_c _ (by omega)]; exact a1, a2⟩
    refine (fin _ R2.setI (C3 b C2)).mono ?_
    rintro ⟨v, h3⟩ ⟨e3, q⟩
    dsimp only at e3
    subst e3
    refine ⟨(f2.mono (fun c hc => by unfold KE at hc; unfold KF; omega)).setI (.inl rfl), ⟨?_, ?_, f ||| 2 ^ b, ri_s _, ?_, fun c hc hbc => ?_⟩, q⟩
    · show h2.2.2.2 69 0 = some s
      rw [f2.r]; exact hs
    · exact E.fr (by funext j; show (pm_setI h2 69 4 _).2.1 74 j = _; rw [ri_c _ (by omega)]; exact f2.i _ (by unfold KE; omega))
    · exact Nat.or_lt_two_pow (n := 11) hf2 (Nat.pow_lt_pow_right (by decide) (by omega))
    · rw [Nat.testBit_or, Bool.or_eq_true, Nat.testBit_two_pow, decide_eq_true_eq] at hbc
      apply C3
      by_cases e : b = c
      · subst e; exact C2
      · intro T hT
        rcases hbc with q | q
        · obtain ⟨e', a1, a2⟩ := hR c hc q T hT
          exact ⟨e', by rw [o2 _ (by omega)]; exact a1, a2⟩
        · exact (e q).elim
end OR
