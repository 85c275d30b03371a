/-! Questions: watches. -/
def lowb (a : Nat) : Nat := a &&& (512 - a)
set_option maxRecDepth 100000 in
theorem lowb_n : ∀ a, a < 512 → nI a &&& (-nI a) = nI (lowb a) := by decide +kernel
set_option maxRecDepth 100000 in
theorem lowb_p : ∀ a, a < 512 → a ≠ 0 → ∃ m, m < 9 ∧ lowb a = 2 ^ m := by decide +kernel
theorem lowb_0 : lowb 0 = 0 := by decide
theorem lowb_lt (a : Nat) : lowb a ≤ a := Nat.and_le_left
theorem and_lowb {a i : Nat} (ha : a < 512) (h0 : a ≠ 0) : (i &&& lowb a = lowb a) ↔ ¬ i &&& lowb a = 0 := by
  obtain ⟨m, _, e⟩ := lowb_p a ha h0
  rw [e]
  have hp : 2 ^ m ≠ 0 := Nat.pos_iff_ne_zero.mp (Nat.two_pow_pos m)
  have e2 : i &&& 2 ^ m = if i.testBit m = true then 2 ^ m else 0 := by
    apply Nat.eq_of_testBit_eq
    intro j
    rw [Nat.testBit_and, Nat.testBit_two_pow]
    by_cases q : m = j
    · subst q
      cases i.testBit m <;> simp [Nat.testBit_two_pow]
    · cases i.testBit m <;> simp [Nat.testBit_two_pow, q]
  rw [e2]
  cases i.testBit m with
  | true => simp [hp]
  | false =>
    simp only [Bool.false_eq_true, if_false, not_true_eq_false, iff_false]
    exact fun q => hp q.symm
def wOrd (A : Nat → Int32) (need : Nat) : Nat := bs (fun o => decide (need ≤ an A (58 + 6 * o))) (an A 2)
def okW (A : Nat → Int32) (ords i : Nat) : Prop := sd i (alvN A) = 0 ∧ ¬ i &&& lowb (alvN A) = 0 ∧ sd ords (cN A 0 i) = 0 ∧ sd ords (cN A 0 (sd (alvN A) i)) = 0
noncomputable def wtF (A : Nat → Int32) (ords : Nat) : Option Nat := (List.range 256).find? (fun i => @decide (okW A ords i) (Classical.propDecidable _))
theorem wtF_some {A : Nat → Int32} {ords i : Nat} : wtF A ords = some i ↔ i < 256 ∧ okW A ords i ∧ ∀ j, j < i → ¬ okW A ords j := by
  unfold wtF
  rw [List.find?_range_eq_some]
  simp only [decide_eq_true_eq, List.mem_range, Bool.not_eq_true', decide_eq_false_iff_not]
  constructor
  · rintro ⟨a, b, c⟩; exact ⟨b, a, c⟩
  · rintro ⟨a, b, c⟩; exact ⟨b, a, c⟩
theorem wtF_none {A : Nat → Int32} {ords : Nat} : wtF A ords = none ↔ ∀ j, j < 256 → ¬ okW A ords j := by
  unfold wtF
  rw [List.find?_range_eq_none]
  simp
noncomputable def vWatches (A : Nat → Int32) (x y : Int32) : Int32 := @ite Int32 (0 < an A 0 ∧ (∃ k, k ≤ 99 ∧ x = nI k) ∧ ∃ k, k ≤ 1 ∧ y = nI k) (Classical.propDecidable _) (match wtF A (wOrd A x.toNatClampNeg) with
  | none => ng 2
  | some i => if y = nI 0 then nI i else nI (sd (alvN A) i)) (ng 1)
section WT
variable {h : pm_H} {s : Nat} {A : Nat → Int32}
theorem alv_lt (w : WFA A) : alvN A < 2 ^ an A 1 ∧ alvN A < 256 := ⟨bs_lt _ _, Nat.lt_of_lt_of_le (bs_lt _ _) (p256 w)⟩
theorem wOrd_lt (w : WFA A) (n : Nat) : wOrd A n < 256 := by
  have := w.e2
  exact Nat.lt_of_lt_of_le (bs_lt _ _) (Nat.pow_le_pow_right (n := 2) (by decide) (by omega : an A 2 ≤ 8))
theorem i255 {i : Nat} (hi : i < 256) : i &&& 255 = i := by rw [show (255 : Nat) = 2 ^ 8 - 1 from rfl, Nat.and_two_pow_sub_one_eq_mod]; exact Nat.mod_eq_of_lt hi
theorem sd_and {a b c : Nat} : sd a (b &&& c) = 0 ↔ sd a b = 0 ∧ sd a c = 0 := by
  rw [sd_0, sd_0, sd_0]
  constructor
  · intro q
    exact ⟨fun i hi => by have := q i hi; rw [Nat.testBit_and, Bool.and_eq_true] at this; exact this.1, fun i hi => by have := q i hi; rw [Nat.testBit_and, Bool.and_eq_true] at this; exact this.2⟩
  · rintro ⟨q1, q2⟩ i hi
    rw [Nat.testBit_and, q1 i hi, q2 i hi]
    rfl
theorem a_watch_sp (Q : QI h s A) (h0 : 0 < an A 0) {need : Nat} (hn : need ≤ 99) : SP (a_firstWatch 68 s 169 (nI need) h) (fun z => z.1 = ov2 (wtF A (wOrd A need)) ∧ Fq QF h z.2 ∧ QI z.2 s A) := by
  have Q' := Q
  obtain ⟨R, h1, S, H, D, w, C⟩ := Q
  have h2 := w.e2
  have ha := alv_lt w
  have hp := p2men w
  have hwo := wOrd_lt w need
  have key1 : wh (fun z : (Int32 × Int32 × pm_H) => a_firstWatch_6 68 s 169 (nI need) z.1 z.2.1 z.2.2) (nI 0, nI 0, h) = some (nI (wOrd A need), h) := by
    refine wh_for (fun i => (nI (bs (fun o => decide (need ≤ an A (58 + 6 * o))) i), nI i, h)) (an A 2) 0 (by omega) (fun i _ hi => ?_) ?_
    · have o0 := w.o0 hi
      unfold a_firstWatch_6 a_firstWatch_43
      simp (disch := omega) only [kc_im8, kc_im1, kc_i0, kc_i1, kc_i2, kc_i3, kc_i4, kc_i5, kc_b_m100, kc_b_m16, kc_b_m15, kc_b_m14, kc_b_m13, kc_b_m12, kc_b_m11, kc_b_m2, kc_b_6, kc_b_7, kc_b_8, kc_b_9, kc_b_10, kc_b_11, kc_b_12, kc_b_13, kc_b_14, kc_b_15, kc_b_16, kc_b_20, kc_b_24, kc_b_32, kc_b_37, kc_b_40, kc_b_42, kc_b_43, kc_b_45, kc_b_47, kc_b_48, kc_b_57, kc_b_58, kc_b_59, kc_b_60, kc_b_61, kc_b_62, kc_b_63, kc_b_91, kc_b_93, kc_b_97, kc_b_99, kc_b_100, kc_b_106, kc_b_122, kc_s_206, kc_s_226, kc_s_227, kc_s_255, kc_s_256, kc_s_316, kc_s_318, kc_s_400, kc_s_512, kc_s_999, kc_s_1160, kc_s_1536, kc_s_3003, kc_lm11, kc_lm10, kc_lm9, kc_lm8, kc_lm7, kc_lm6, kc_lm5, kc_lm4, kc_lm3, kc_lm2, kc_lm1, kc_l1, kc_l2, kc_l3, kc_l4, kc_l5, kc_l6, kc_l7, kc_l8, kc_l9, kc_l10, kc_l11, kc_l12, kc_l13, kc_l14, kc_l37, kc_l42, kc_l43, kc_l45, kc_l47, kc_l60, kc_l61, kc_l62, kc_l316, kc_l318, kc_l65536, kc_l99999, kc_l1000000, kc_l252645135, kc_l858993459, kc_l1431655765, kc_0, kc_on, S.2.2.2.1, h2.1, nx_lt, nx_le, nx_eq, nx_add, nx_sub, nx_mul, nx_cl, n_lt_ng, n_le_ng, n_eq_ng, ng_lt_n, ng_le_n, ng_eq_n, ng_eq, ng_lt, ng_le, nx_dec, rf_s6 R S.1, ln_s6 S.1, Option.bind_some, gi_n, (S.2.2.2.2.2.2.1 i hi).1, o0.1, nx_shl1]
      rw [if_neg (by omega), if_neg (by omega), if_pos (by simp; omega), ← or_bs (p := fun o => decide (need ≤ an A (58 + 6 * o))) (decide (need ≤ an A (58 + 6 * i))) rfl (by omega)]
      by_cases q : need ≤ an A (58 + 6 * i)
      · rw [if_neg (by omega)]; simp [q]
      · rw [if_pos (by omega)]; simp [q]
    · unfold a_firstWatch_6
      simp (disch := omega) only [kc_im8, kc_im1, kc_i0, kc_i1, kc_i2, kc_i3, kc_i4, kc_i5, kc_b_m100, kc_b_m16, kc_b_m15, kc_b_m14, kc_b_m13, kc_b_m12, kc_b_m11, kc_b_m2, kc_b_6, kc_b_7, kc_b_8, kc_b_9, kc_b_10, kc_b_11, kc_b_12, kc_b_13, kc_b_14, kc_b_15, kc_b_16, kc_b_20, kc_b_24, kc_b_32, kc_b_37, kc_b_40, kc_b_42, kc_b_43, kc_b_45, kc_b_47, kc_b_48, kc_b_57, kc_b_58, kc_b_59, kc_b_60, kc_b_61, kc_b_62, kc_b_63, kc_b_91, kc_b_93, kc_b_97, kc_b_99, kc_b_100, kc_b_106, kc_b_122, kc_s_206, kc_s_226, kc_s_227, kc_s_255, kc_s_256, kc_s_316, kc_s_318, kc_s_400, kc_s_512, kc_s_999, kc_s_1160, kc_s_1536, kc_s_3003, kc_lm11, kc_lm10, kc_lm9, kc_lm8, kc_lm7, kc_lm6, kc_lm5, kc_lm4, kc_lm3, kc_lm2, kc_lm1, kc_l1, kc_l2, kc_l3, kc_l4, kc_l5, kc_l6, kc_l7, kc_l8, kc_l9, kc_l10, kc_l11, kc_l12, kc_l13, kc_l14, kc_l37, kc_l42, kc_l43, kc_l45, kc_l47, kc_l60, kc_l61, kc_l62, kc_l316, kc_l318, kc_l65536, kc_l99999, kc_l1000000, kc_l252645135, kc_l858993459, kc_l1431655765, kc_0, kc_on, S.2.2.2.1, h2.1, nx_lt, nx_le, nx_eq, nx_add, nx_sub, nx_mul, nx_cl, n_lt_ng, n_le_ng, n_eq_ng, ng_lt_n, ng_le_n, ng_eq_n, ng_eq, ng_lt, ng_le, nx_dec]
      rw [if_pos (by omega)]
      rfl
  unfold a_firstWatch
  simp only [kc_im8, kc_im1, kc_i0, kc_i1, kc_i2, kc_i3, kc_i4, kc_i5, kc_b_m100, kc_b_m16, kc_b_m15, kc_b_m14, kc_b_m13, kc_b_m12, kc_b_m11, kc_b_m2, kc_b_6, kc_b_7, kc_b_8, kc_b_9, kc_b_10, kc_b_11, kc_b_12, kc_b_13, kc_b_14, kc_b_15, kc_b_16, kc_b_20, kc_b_24, kc_b_32, kc_b_37, kc_b_40, kc_b_42, kc_b_43, kc_b_45, kc_b_47, kc_b_48, kc_b_57, kc_b_58, kc_b_59, kc_b_60, kc_b_61, kc_b_62, kc_b_63, kc_b_91, kc_b_93, kc_b_97, kc_b_99, kc_b_100, kc_b_106, kc_b_122, kc_s_206, kc_s_226, kc_s_227, kc_s_255, kc_s_256, kc_s_316, kc_s_318, kc_s_400, kc_s_512, kc_s_999, kc_s_1160, kc_s_1536, kc_s_3003, kc_lm11, kc_lm10, kc_lm9, kc_lm8, kc_lm7, kc_lm6, kc_lm5, kc_lm4, kc_lm3, kc_lm2, kc_lm1, kc_l1, kc_l2, kc_l3, kc_l4, kc_l5, kc_l6, kc_l7, kc_l8, kc_l9, kc_l10, kc_l11, kc_l12, kc_l13, kc_l14, kc_l37, kc_l42, kc_l43, kc_l45, kc_l47, kc_l60, kc_l61, kc_l62, kc_l316, kc_l318, kc_l65536, kc_l99999, kc_l1000000, kc_l252645135, kc_l858993459, kc_l1431655765, kc_0, kc_on]
  rw [key1, Option.bind_some]
  unfold a_firstWatch_52
  dsimp only
  rw [n_living_c S H w, Option.bind_some, lowb_n _ (by omega)]
  have key2 : SP (wh (fun z : (Int32 × pm_H) => a_firstWatch_70 68 (nI (wOrd A need)) (nI (alvN A)) (nI (lowb (alvN A))) z.1 z.2) (nI 0, h)) (fun r => match r with
      | .inl z => Fq QF h z.2 ∧ QI z.2 s A ∧ ∃ i, z.1 = nI i ∧ wtF A (wOrd A need) = some i
      | .inr h' => Fq QF h h' ∧ QI h' s A ∧ wtF A (wOrd A need) = none) := by
    refine wh_cnt (fun i z => z.1 = nI i ∧ Fq QF h z.2 ∧ QI z.2 s A ∧ ∀ j, j < i → ¬ okW A (wOrd A need) j) _ 256 ?_ ?_ 0 (nI 0, h) (by omega) ⟨rfl, Fq.refl _ _, Q', fun j hj => by omega⟩
    · rintro i ⟨x, h3⟩ hi ⟨rfl, f3, Q3, c3⟩
      dsimp only at f3 Q3
      have next : ∀ h4, Fq QF h h4 → QI h4 s A → ¬ okW A (wOrd A need) i → SP (some (Sum.inl (nI (i + 1), h4) : (Int32 × pm_H) ⊕ ((Int32 × pm_H) ⊕ pm_H))) (fun q => match q with
          | .inl s' => s'.1 = nI (i + 1) ∧ Fq QF h s'.2 ∧ QI s'.2 s A ∧ ∀ j, j < i + 1 → ¬ okW A (wOrd A need) j
          | .inr r => match r with
            | .inl z => Fq QF h z.2 ∧ QI z.2 s A ∧ ∃ i, z.1 = nI i ∧ wtF A (wOrd A need) = some i
            | .inr h' => Fq QF h h' ∧ QI h' s A ∧ wtF A (wOrd A need) = none) := by
        intro h4 f4 Q4 no
        refine sp_some.mpr ⟨rfl, f4, Q4, fun j hj => ?_⟩
        by_cases e : j = i
        · subst e; exact no
        · exact c3 j (by omega)
      have hl1 : sd i (alvN A) ≤ i := sub_le (sub_sd _ _)
      have hl2 : i &&& lowb (alvN A) ≤ i := Nat.and_le_left
      unfold a_firstWatch_70
      simp (disch := omega) only [kc_im8, kc_im1, kc_i0, kc_i1, kc_i2, kc_i3, kc_i4, kc_i5, kc_b_m100, kc_b_m16, kc_b_m15, kc_b_m14, kc_b_m13, kc_b_m12, kc_b_m11, kc_b_m2, kc_b_6, kc_b_7, kc_b_8, kc_b_9, kc_b_10, kc_b_11, kc_b_12, kc_b_13, kc_b_14, kc_b_15, kc_b_16, kc_b_20, kc_b_24, kc_b_32, kc_b_37, kc_b_40, kc_b_42, kc_b_43, kc_b_45, kc_b_47, kc_b_48, kc_b_57, kc_b_58, kc_b_59, kc_b_60, kc_b_61, kc_b_62, kc_b_63, kc_b_91, kc_b_93, kc_b_97, kc_b_99, kc_b_100, kc_b_106, kc_b_122, kc_s_206, kc_s_226, kc_s_227, kc_s_255, kc_s_256, kc_s_316, kc_s_318, kc_s_400, kc_s_512, kc_s_999, kc_s_1160, kc_s_1536, kc_s_3003, kc_lm11, kc_lm10, kc_lm9, kc_lm8, kc_lm7, kc_lm6, kc_lm5, kc_lm4, kc_lm3, kc_lm2, kc_lm1, kc_l1, kc_l2, kc_l3, kc_l4, kc_l5, kc_l6, kc_l7, kc_l8, kc_l9, kc_l10, kc_l11, kc_l12, kc_l13, kc_l14, kc_l37, kc_l42, kc_l43, kc_l45, kc_l47, kc_l60, kc_l61, kc_l62, kc_l316, kc_l318, kc_l65536, kc_l99999, kc_l1000000, kc_l252645135, kc_l858993459, kc_l1431655765, kc_0, kc_on, nx_lt, nx_le, nx_eq, nx_add, nx_sub, nx_mul, nx_cl, n_lt_ng, n_le_ng, n_eq_ng, ng_lt_n, ng_le_n, ng_eq_n, ng_eq, ng_lt, ng_le, nx_dec, nx_andn, nx_and2]
      refine sp_neg (by omega) ?_
      by_cases q1 : sd i (alvN A) = 0
      · refine sp_neg (by omega) ?_
        by_cases q2 : i &&& lowb (alvN A) = 0
        · refine sp_pos q2 ((next h3 f3 Q3 (fun q => q.2.1 q2)).mono ?_)
          rintro (z | z | z) hz <;> exact hz
        · refine sp_neg q2 ?_
          have hi2 := sub_le (sd_0.mp q1)
          have hl3 : sd (alvN A) i ≤ alvN A := sub_le (sub_sd _ _)
          rw [ra_68_0 Q3.1, Option.bind_some, show ng 1 = bv 0 from rfl]
          refine sp_call (k_ord Q3 h0 (b := 0) (X := i) (by omega) (by rw [i255 hi]; omega)) ?_
          rintro ⟨v, h4⟩ ⟨e4, f4, Q4⟩
          dsimp only at e4 f4 Q4
          subst e4
          have f34 : Fq QF h h4 := f3.trans (f4.q.mono (fun c hc => hc.qf))
          dsimp only
          rw [ra_68_0 Q4.1, Option.bind_some]
          refine sp_call (k_ord Q4 h0 (b := 0) (X := sd (alvN A) i) (by omega) (by rw [i255 (by omega)]; omega)) ?_
          rintro ⟨v, h5⟩ ⟨e5, f5, Q5⟩
          dsimp only at e5 f5 Q5
          subst e5
          have f35 : Fq QF h h5 := f34.trans (f5.q.mono (fun c hc => hc.qf))
          dsimp only
          rw [i255 hi, i255 (by omega), show bb 0 = 0 from rfl, Nat.or_zero, Nat.or_zero, nx_and2, show bv 0 = ng 1 from rfl, nx_andn]
          have hl4 : sd (wOrd A need) (cN A 0 i &&& cN A 0 (sd (alvN A) i)) ≤ wOrd A need := sub_le (sub_sd _ _)
          by_cases q3 : sd (wOrd A need) (cN A 0 i &&& cN A 0 (sd (alvN A) i)) = 0
          · refine sp_neg (by rw [q3]; simp) (sp_some.mpr ⟨f35, Q5, i, rfl, wtF_some.mpr ⟨hi, ⟨q1, q2, sd_and.mp q3⟩, c3⟩⟩)
          · refine sp_pos (by rw [nx_eq (by omega) (by omega)]; exact q3) ((next h5 f35 Q5 (fun q => q3 (sd_and.mpr q.2.2))).mono ?_)
            rintro (z | z | z) hz <;> exact hz
      · refine sp_pos q1 ((next h3 f3 Q3 (fun q => q1 q.1)).mono ?_)
        rintro (z | z | z) hz <;> exact hz
    · rintro ⟨x, h3⟩ ⟨rfl, f3, Q3, c3⟩
      unfold a_firstWatch_70
      simp (disch := omega) only [kc_im8, kc_im1, kc_i0, kc_i1, kc_i2, kc_i3, kc_i4, kc_i5, kc_b_m100, kc_b_m16, kc_b_m15, kc_b_m14, kc_b_m13, kc_b_m12, kc_b_m11, kc_b_m2, kc_b_6, kc_b_7, kc_b_8, kc_b_9, kc_b_10, kc_b_11, kc_b_12, kc_b_13, kc_b_14, kc_b_15, kc_b_16, kc_b_20, kc_b_24, kc_b_32, kc_b_37, kc_b_40, kc_b_42, kc_b_43, kc_b_45, kc_b_47, kc_b_48, kc_b_57, kc_b_58, kc_b_59, kc_b_60, kc_b_61, kc_b_62, kc_b_63, kc_b_91, kc_b_93, kc_b_97, kc_b_99, kc_b_100, kc_b_106, kc_b_122, kc_s_206, kc_s_226, kc_s_227, kc_s_255, kc_s_256, kc_s_316, kc_s_318, kc_s_400, kc_s_512, kc_s_999, kc_s_1160, kc_s_1536, kc_s_3003, kc_lm11, kc_lm10, kc_lm9, kc_lm8, kc_lm7, kc_lm6, kc_lm5, kc_lm4, kc_lm3, kc_lm2, kc_lm1, kc_l1, kc_l2, kc_l3, kc_l4, kc_l5, kc_l6, kc_l7, kc_l8, kc_l9, kc_l10, kc_l11, kc_l12, kc_l13, kc_l14, kc_l37, kc_l42, kc_l43, kc_l45, kc_l47, kc_l60, kc_l61, kc_l62, kc_l316, kc_l318, kc_l65536, kc_l99999, kc_l1000000, kc_l252645135, kc_l858993459, kc_l1431655765, kc_0, kc_on, nx_lt, nx_le, nx_eq, nx_add, nx_sub, nx_mul, nx_cl, n_lt_ng, n_le_ng, n_eq_ng, ng_lt_n, ng_le_n, ng_eq_n, ng_eq, ng_lt, ng_le, nx_dec]
      exact sp_pos (by omega) (sp_some.mpr ⟨f3, Q3, wtF_none.mpr c3⟩)
  simp only [kc_im8, kc_im1, kc_i0, kc_i1, kc_i2, kc_i3, kc_i4, kc_i5, kc_b_m100, kc_b_m16, kc_b_m15, kc_b_m14, kc_b_m13, kc_b_m12, kc_b_m11, kc_b_m2, kc_b_6, kc_b_7, kc_b_8, kc_b_9, kc_b_10, kc_b_11, kc_b_12, kc_b_13, kc_b_14, kc_b_15, kc_b_16, kc_b_20, kc_b_24, kc_b_32, kc_b_37, kc_b_40, kc_b_42, kc_b_43, kc_b_45, kc_b_47, kc_b_48, kc_b_57, kc_b_58, kc_b_59, kc_b_60, kc_b_61, kc_b_62, kc_b_63, kc_b_91, kc_b_93, kc_b_97, kc_b_99, kc_b_100, kc_b_106, kc_b_122, kc_s_206, kc_s_226, kc_s_227, kc_s_255, kc_s_256, kc_s_316, kc_s_318, kc_s_400, kc_s_512, kc_s_999, kc_s_1160, kc_s_1536, kc_s_3003, kc_lm11, kc_lm10, kc_lm9, kc_lm8, kc_lm7, kc_lm6, kc_lm5, kc_lm4, kc_lm3, kc_lm2, kc_lm1, kc_l1, kc_l2, kc_l3, kc_l4, kc_l5, kc_l6, kc_l7, kc_l8, kc_l9, kc_l10, kc_l11, kc_l12, kc_l13, kc_l14, kc_l37, kc_l42, kc_l43, kc_l45, kc_l47, kc_l60, kc_l61, kc_l62, kc_l316, kc_l318, kc_l65536, kc_l99999, kc_l1000000, kc_l252645135, kc_l858993459, kc_l1431655765, kc_0, kc_on]
  refine sp_call key2 ?_
  rintro (⟨x, h3⟩ | h3) hz
  · obtain ⟨f3, Q3, i, e, hw⟩ := hz
    dsimp only at e
    refine sp_some.mpr ⟨?_, f3, Q3⟩
    rw [hw, e]
    rfl
  · refine sp_some.mpr ⟨?_, hz.1, hz.2.1⟩
    rw [hz.2.2]
    rfl
theorem x_watches_sp (Q : QI h s A) (x y : Int32) : SP (x_watches 0 x y h) (fun z => z.1 = vWatches A x y ∧ Fq QF h z.2 ∧ QI z.2 s A) := by
  have Q' := Q
  obtain ⟨R, h1, S, H, D, w, C⟩ := Q
  have none_ : ¬ (0 < an A 0 ∧ (∃ k, k ≤ 99 ∧ x = nI k) ∧ ∃ k, k ≤ 1 ∧ y = nI k) → SP (some (ng 1, h)) (fun z : Int32 × pm_H => z.1 = vWatches A x y ∧ Fq QF h z.2 ∧ QI z.2 s A) := by
    intro q
    refine sp_some.mpr ⟨?_, Fq.refl _ _, Q'⟩
    unfold vWatches
    rw [if_neg q]
  unfold x_watches
  rw [ra_0_4 R, Option.bind_some, Q'.now, Option.bind_some, c_sails S w, Option.bind_some]
  simp only [kc_im8, kc_im1, kc_i0, kc_i1, kc_i2, kc_i3, kc_i4, kc_i5, kc_b_m100, kc_b_m16, kc_b_m15, kc_b_m14, kc_b_m13, kc_b_m12, kc_b_m11, kc_b_m2, kc_b_6, kc_b_7, kc_b_8, kc_b_9, kc_b_10, kc_b_11, kc_b_12, kc_b_13, kc_b_14, kc_b_15, kc_b_16, kc_b_20, kc_b_24, kc_b_32, kc_b_37, kc_b_40, kc_b_42, kc_b_43, kc_b_45, kc_b_47, kc_b_48, kc_b_57, kc_b_58, kc_b_59, kc_b_60, kc_b_61, kc_b_62, kc_b_63, kc_b_91, kc_b_93, kc_b_97, kc_b_99, kc_b_100, kc_b_106, kc_b_122, kc_s_206, kc_s_226, kc_s_227, kc_s_255, kc_s_256, kc_s_316, kc_s_318, kc_s_400, kc_s_512, kc_s_999, kc_s_1160, kc_s_1536, kc_s_3003, kc_lm11, kc_lm10, kc_lm9, kc_lm8, kc_lm7, kc_lm6, kc_lm5, kc_lm4, kc_lm3, kc_lm2, kc_lm1, kc_l1, kc_l2, kc_l3, kc_l4, kc_l5, kc_l6, kc_l7, kc_l8, kc_l9, kc_l10, kc_l11, kc_l12, kc_l13, kc_l14, kc_l37, kc_l42, kc_l43, kc_l45, kc_l47, kc_l60, kc_l61, kc_l62, kc_l316, kc_l318, kc_l65536, kc_l99999, kc_l1000000, kc_l252645135, kc_l858993459, kc_l1431655765, kc_0, kc_on]
  by_cases h0 : 0 < an A 0
  · refine sp_neg (by rw [decide_eq_true h0]; show ¬ nI 1 = nI 0; decide) ?_
    by_cases hx : ∃ k, k ≤ 99 ∧ x = nI k
    · obtain ⟨need, hn, rfl⟩ := hx
      refine sp_neg (by rw [nx_lt (by omega) (by omega)]; omega) (sp_neg (by rw [nx_lt (by omega) (by omega)]; omega) ?_)
      by_cases hy : ∃ k, k ≤ 1 ∧ y = nI k
      · obtain ⟨k, hk, rfl⟩ := hy
        have hv : vWatches A (nI need) (nI k) = (match wtF A (wOrd A need) with
            | none => ng 2
            | some i => if nI k = nI 0 then nI i else nI (sd (alvN A) i)) := by
          unfold vWatches
          rw [if_pos ⟨h0, ⟨need, hn, rfl⟩, k, hk, rfl⟩, nx_cl (by omega)]
        rw [hv]
        refine sp_neg (by rw [nx_lt (by omega) (by omega)]; omega) (sp_pos (by rw [nx_le (by omega) (by omega)]; omega) ?_)
        rw [ra_0_7 R, Option.bind_some, Option.bind_some, Q'.now, Option.bind_some, Option.bind_some, q_hands Q', Option.bind_some]
        refine sp_call (a_watch_sp Q' h0 hn) ?_
        rintro ⟨v, h2⟩ ⟨e, f2, Q2⟩
        dsimp only at e f2 Q2
        subst e
        dsimp only
        unfold x_watches_65
        cases hb : wtF A (wOrd A need) with
        | none => exact sp_pos (by show ng 2 < nI 0; decide) (sp_some.mpr ⟨rfl, f2, Q2⟩)
        | some i =>
          have hi := (wtF_some.mp hb).1
          refine sp_neg (by show ¬ nI i < nI 0; rw [nx_lt (by omega) (by omega)]; omega) ?_
          have : k = 0 ∨ k = 1 := by omega
          rcases this with rfl | rfl
          · exact sp_neg (by simp) (sp_some.mpr ⟨rfl, f2, Q2⟩)
          · refine sp_pos (by decide) ?_
            rw [ra_0_4 Q2.1, Option.bind_some, q_hands Q2, Option.bind_some, Option.bind_some, Q2.now, Option.bind_some, n_living_c Q2.2.2.1 Q2.2.2.2.1 w, Option.bind_some, show ov2 (some i) = nI i from rfl, nx_andn]
            exact sp_some.mpr ⟨rfl, f2, Q2⟩
      · by_cases q0 : y < nI 0
        · exact sp_pos q0 (none_ (fun q => hy q.2.2))
        · exact sp_neg q0 (sp_neg (nrng (by omega) hy q0).2 (none_ (fun q => hy q.2.2)))
    · by_cases q0 : x < nI 0
      · exact sp_pos q0 (none_ (fun q => hx q.2.1))
      · exact sp_neg q0 (sp_pos (nrng (by omega) hx q0).1 (none_ (fun q => hx q.2.1)))
  · exact sp_pos (by rw [decide_eq_false h0]; rfl) (none_ (fun q => h0 q.1))
theorem m_watches_sp (M : MI h A) (x y : Int32) : SP (m_watches 193 x y h) (fun z => z.1 = vWatches A x y ∧ FM h z.2) := by
  have M' := M
  obtain ⟨R, hA, w⟩ := M
  have h2 := w.e2
  have ha := alv_lt w
  have hp := p2men w
  have none_ : ¬ (0 < an A 0 ∧ (∃ k, k ≤ 99 ∧ x = nI k) ∧ ∃ k, k ≤ 1 ∧ y = nI k) → SP (some (ng 1, h)) (fun z : Int32 × pm_H => z.1 = vWatches A x y ∧ FM h z.2) := by
    intro q
    refine sp_some.mpr ⟨?_, FM.refl _⟩
    unfold vWatches
    rw [if_neg q]
  unfold m_watches
  rw [m_isShip_n M', Option.bind_some]
  simp only [kc_im8, kc_im1, kc_i0, kc_i1, kc_i2, kc_i3, kc_i4, kc_i5, kc_b_m100, kc_b_m16, kc_b_m15, kc_b_m14, kc_b_m13, kc_b_m12, kc_b_m11, kc_b_m2, kc_b_6, kc_b_7, kc_b_8, kc_b_9, kc_b_10, kc_b_11, kc_b_12, kc_b_13, kc_b_14, kc_b_15, kc_b_16, kc_b_20, kc_b_24, kc_b_32, kc_b_37, kc_b_40, kc_b_42, kc_b_43, kc_b_45, kc_b_47, kc_b_48, kc_b_57, kc_b_58, kc_b_59, kc_b_60, kc_b_61, kc_b_62, kc_b_63, kc_b_91, kc_b_93, kc_b_97, kc_b_99, kc_b_100, kc_b_106, kc_b_122, kc_s_206, kc_s_226, kc_s_227, kc_s_255, kc_s_256, kc_s_316, kc_s_318, kc_s_400, kc_s_512, kc_s_999, kc_s_1160, kc_s_1536, kc_s_3003, kc_lm11, kc_lm10, kc_lm9, kc_lm8, kc_lm7, kc_lm6, kc_lm5, kc_lm4, kc_lm3, kc_lm2, kc_lm1, kc_l1, kc_l2, kc_l3, kc_l4, kc_l5, kc_l6, kc_l7, kc_l8, kc_l9, kc_l10, kc_l11, kc_l12, kc_l13, kc_l14, kc_l37, kc_l42, kc_l43, kc_l45, kc_l47, kc_l60, kc_l61, kc_l62, kc_l316, kc_l318, kc_l65536, kc_l99999, kc_l1000000, kc_l252645135, kc_l858993459, kc_l1431655765, kc_0, kc_on]
  by_cases h0 : 0 < an A 0
  · refine sp_neg (by rw [decide_eq_true h0]; show ¬ nI 1 = nI 0; decide) ?_
    by_cases hx : ∃ k, k ≤ 99 ∧ x = nI k
    · obtain ⟨need, hn, rfl⟩ := hx
      rw [m_in_t h (lo := Int64.ofNat 0) (hi := 99) (n := 99) hn (by omega) rfl rfl, Option.bind_some]
      refine sp_neg (by decide) ?_
      by_cases hy : ∃ k, k ≤ 1 ∧ y = nI k
      · obtain ⟨k, hk, rfl⟩ := hy
        have hwo := wOrd_lt w need
        have hv : vWatches A (nI need) (nI k) = (match wtF A (wOrd A need) with
            | none => ng 2
            | some i => if nI k = nI 0 then nI i else nI (sd (alvN A) i)) := by
          unfold vWatches
          rw [if_pos ⟨h0, ⟨need, hn, rfl⟩, k, hk, rfl⟩, nx_cl (by omega)]
        rw [hv, m_in_t h (lo := Int64.ofNat 0) (hi := Int64.ofNat 1) hk (by omega) rfl rfl, Option.bind_some]
        refine sp_pos (by decide) ?_
        rw [m_aliveSet_n w R hA, Option.bind_some, lowb_n _ (by omega)]
        have key1 : wh (fun z : (Int32 × Int32 × pm_H) => m_watches_48 193 (nI need) (nI k) (nI (alvN A)) (nI (lowb (alvN A))) z.1 z.2.1 z.2.2) (nI 0, nI 0, h) = some (nI (wOrd A need), h) := by
          refine wh_for (fun i => (nI (bs (fun o => decide (need ≤ an A (58 + 6 * o))) i), nI i, h)) (an A 2) 0 (by omega) (fun i _ hi => ?_) ?_
          · have o0 := w.o0 hi
            unfold m_watches_48 m_watches_80
            simp (disch := omega) only [kc_im8, kc_im1, kc_i0, kc_i1, kc_i2, kc_i3, kc_i4, kc_i5, kc_b_m100, kc_b_m16, kc_b_m15, kc_b_m14, kc_b_m13, kc_b_m12, kc_b_m11, kc_b_m2, kc_b_6, kc_b_7, kc_b_8, kc_b_9, kc_b_10, kc_b_11, kc_b_12, kc_b_13, kc_b_14, kc_b_15, kc_b_16, kc_b_20, kc_b_24, kc_b_32, kc_b_37, kc_b_40, kc_b_42, kc_b_43, kc_b_45, kc_b_47, kc_b_48, kc_b_57, kc_b_58, kc_b_59, kc_b_60, kc_b_61, kc_b_62, kc_b_63, kc_b_91, kc_b_93, kc_b_97, kc_b_99, kc_b_100, kc_b_106, kc_b_122, kc_s_206, kc_s_226, kc_s_227, kc_s_255, kc_s_256, kc_s_316, kc_s_318, kc_s_400, kc_s_512, kc_s_999, kc_s_1160, kc_s_1536, kc_s_3003, kc_lm11, kc_lm10, kc_lm9, kc_lm8, kc_lm7, kc_lm6, kc_lm5, kc_lm4, kc_lm3, kc_lm2, kc_lm1, kc_l1, kc_l2, kc_l3, kc_l4, kc_l5, kc_l6, kc_l7, kc_l8, kc_l9, kc_l10, kc_l11, kc_l12, kc_l13, kc_l14, kc_l37, kc_l42, kc_l43, kc_l45, kc_l47, kc_l60, kc_l61, kc_l62, kc_l316, kc_l318, kc_l65536, kc_l99999, kc_l1000000, kc_l252645135, kc_l858993459, kc_l1431655765, kc_0, kc_on, ra_193_20 R, mn_203, gi_n, hA, h2.1, nx_lt, nx_le, nx_eq, nx_add, nx_sub, nx_mul, nx_cl, n_lt_ng, n_le_ng, n_eq_ng, ng_lt_n, ng_le_n, ng_eq_n, ng_eq, ng_lt, ng_le, nx_dec, Option.bind_some, m_orderOf_n R hA (by omega : 58 + 6 * i + 0 < 227), Nat.add_zero, o0.1, nx_shl1]
            rw [if_pos (by simp), if_neg (by omega), ← or_bs (p := fun o => decide (need ≤ an A (58 + 6 * o))) (decide (need ≤ an A (58 + 6 * i))) rfl (by omega)]
            by_cases q : need ≤ an A (58 + 6 * i)
            · rw [if_neg (by omega)]; simp [q]
            · rw [if_pos (by omega)]; simp [q]
          · unfold m_watches_48
            simp (disch := omega) only [kc_im8, kc_im1, kc_i0, kc_i1, kc_i2, kc_i3, kc_i4, kc_i5, kc_b_m100, kc_b_m16, kc_b_m15, kc_b_m14, kc_b_m13, kc_b_m12, kc_b_m11, kc_b_m2, kc_b_6, kc_b_7, kc_b_8, kc_b_9, kc_b_10, kc_b_11, kc_b_12, kc_b_13, kc_b_14, kc_b_15, kc_b_16, kc_b_20, kc_b_24, kc_b_32, kc_b_37, kc_b_40, kc_b_42, kc_b_43, kc_b_45, kc_b_47, kc_b_48, kc_b_57, kc_b_58, kc_b_59, kc_b_60, kc_b_61, kc_b_62, kc_b_63, kc_b_91, kc_b_93, kc_b_97, kc_b_99, kc_b_100, kc_b_106, kc_b_122, kc_s_206, kc_s_226, kc_s_227, kc_s_255, kc_s_256, kc_s_316, kc_s_318, kc_s_400, kc_s_512, kc_s_999, kc_s_1160, kc_s_1536, kc_s_3003, kc_lm11, kc_lm10, kc_lm9, kc_lm8, kc_lm7, kc_lm6, kc_lm5, kc_lm4, kc_lm3, kc_lm2, kc_lm1, kc_l1, kc_l2, kc_l3, kc_l4, kc_l5, kc_l6, kc_l7, kc_l8, kc_l9, kc_l10, kc_l11, kc_l12, kc_l13, kc_l14, kc_l37, kc_l42, kc_l43, kc_l45, kc_l47, kc_l60, kc_l61, kc_l62, kc_l316, kc_l318, kc_l65536, kc_l99999, kc_l1000000, kc_l252645135, kc_l858993459, kc_l1431655765, kc_0, kc_on, ra_193_20 R, mn_203, gi_n, hA, h2.1, nx_lt, nx_le, nx_eq, nx_add, nx_sub, nx_mul, nx_cl, n_lt_ng, n_le_ng, n_eq_ng, ng_lt_n, ng_le_n, ng_eq_n, ng_eq, ng_lt, ng_le, nx_dec, Option.bind_some]
            rw [if_pos (by simp), if_pos (by omega)]
            rfl
        rw [key1, Option.bind_some]
        dsimp only
        refine sp_call (g_ord M' (al := alvN A) (by omega) (fun m q => ?_)) ?_
        · unfold alvN at q
          rw [bs_bit, Bool.and_eq_true, decide_eq_true_eq] at q
          exact .inl q.1
        rintro h3 ⟨f3, E3⟩
        have R3 := R.fm f3
        have ff := f3.fm (fun c hc => hc.mf) (fun j hj => by unfold FF; omega)
        have key2 : SP (wh (fun z : (Int32 × pm_H) => m_watches_97 193 (nI k) (nI (alvN A)) (nI (lowb (alvN A))) (nI (wOrd A need)) z.1 z.2) (nI 1, h3)) (fun r => match r with
            | .inl z => z.2 = h3 ∧ ∃ i, z.1 = nI i ∧ wtF A (wOrd A need) = some i
            | .inr h' => h' = h3 ∧ wtF A (wOrd A need) = none) := by
          have last : ∀ i, alvN A < i → (∀ j, j < i → ¬ okW A (wOrd A need) j) → wtF A (wOrd A need) = none := by
            intro i hi c
            refine wtF_none.mpr (fun j hj q => ?_)
            have := sub_le (sd_0.mp q.1)
            exact c j (by omega) q
          by_cases hz : alvN A = 0
          · refine ⟨.inr h3, wh_inr ?_, rfl, last 1 (by omega) (fun j hj q => q.2.1 (by rw [hz, lowb_0, Nat.and_zero]))⟩
            unfold m_watches_97
            rw [hz]
            simp (disch := omega) only [kc_im8, kc_im1, kc_i0, kc_i1, kc_i2, kc_i3, kc_i4, kc_i5, kc_b_m100, kc_b_m16, kc_b_m15, kc_b_m14, kc_b_m13, kc_b_m12, kc_b_m11, kc_b_m2, kc_b_6, kc_b_7, kc_b_8, kc_b_9, kc_b_10, kc_b_11, kc_b_12, kc_b_13, kc_b_14, kc_b_15, kc_b_16, kc_b_20, kc_b_24, kc_b_32, kc_b_37, kc_b_40, kc_b_42, kc_b_43, kc_b_45, kc_b_47, kc_b_48, kc_b_57, kc_b_58, kc_b_59, kc_b_60, kc_b_61, kc_b_62, kc_b_63, kc_b_91, kc_b_93, kc_b_97, kc_b_99, kc_b_100, kc_b_106, kc_b_122, kc_s_206, kc_s_226, kc_s_227, kc_s_255, kc_s_256, kc_s_316, kc_s_318, kc_s_400, kc_s_512, kc_s_999, kc_s_1160, kc_s_1536, kc_s_3003, kc_lm11, kc_lm10, kc_lm9, kc_lm8, kc_lm7, kc_lm6, kc_lm5, kc_lm4, kc_lm3, kc_lm2, kc_lm1, kc_l1, kc_l2, kc_l3, kc_l4, kc_l5, kc_l6, kc_l7, kc_l8, kc_l9, kc_l10, kc_l11, kc_l12, kc_l13, kc_l14, kc_l37, kc_l42, kc_l43, kc_l45, kc_l47, kc_l60, kc_l61, kc_l62, kc_l316, kc_l318, kc_l65536, kc_l99999, kc_l1000000, kc_l252645135, kc_l858993459, kc_l1431655765, kc_0, kc_on, nx_lt, nx_le, nx_eq, nx_add, nx_sub, nx_mul, nx_cl, n_lt_ng, n_le_ng, n_eq_ng, ng_lt_n, ng_le_n, ng_eq_n, ng_eq, ng_lt, ng_le, nx_dec]
            rw [if_pos (by omega)]
          · refine wh_cnt (fun i z => z = (nI i, h3) ∧ ∀ j, j < i → ¬ okW A (wOrd A need) j) _ (alvN A + 1) ?_ ?_ 1 (nI 1, h3) (by omega) ⟨rfl, fun j hj q => q.2.1 (by rw [show j = 0 from by omega, Nat.zero_and])⟩
            · rintro i z hi ⟨rfl, c3⟩
              dsimp only
              have hl1 : sd i (alvN A) ≤ i := sub_le (sub_sd _ _)
              have hl2 : i &&& lowb (alvN A) ≤ i := Nat.and_le_left
              have hl5 := lowb_lt (alvN A)
              have next : ¬ okW A (wOrd A need) i → ∀ j, j < i + 1 → ¬ okW A (wOrd A need) j := by
                intro no j hj
                by_cases e : j = i
                · subst e; exact no
                · exact c3 j (by omega)
              unfold m_watches_97
              simp (disch := omega) only [kc_im8, kc_im1, kc_i0, kc_i1, kc_i2, kc_i3, kc_i4, kc_i5, kc_b_m100, kc_b_m16, kc_b_m15, kc_b_m14, kc_b_m13, kc_b_m12, kc_b_m11, kc_b_m2, kc_b_6, kc_b_7, kc_b_8, kc_b_9, kc_b_10, kc_b_11, kc_b_12, kc_b_13, kc_b_14, kc_b_15, kc_b_16, kc_b_20, kc_b_24, kc_b_32, kc_b_37, kc_b_40, kc_b_42, kc_b_43, kc_b_45, kc_b_47, kc_b_48, kc_b_57, kc_b_58, kc_b_59, kc_b_60, kc_b_61, kc_b_62, kc_b_63, kc_b_91, kc_b_93, kc_b_97, kc_b_99, kc_b_100, kc_b_106, kc_b_122, kc_s_206, kc_s_226, kc_s_227, kc_s_255, kc_s_256, kc_s_316, kc_s_318, kc_s_400, kc_s_512, kc_s_999, kc_s_1160, kc_s_1536, kc_s_3003, kc_lm11, kc_lm10, kc_lm9, kc_lm8, kc_lm7, kc_lm6, kc_lm5, kc_lm4, kc_lm3, kc_lm2, kc_lm1, kc_l1, kc_l2, kc_l3, kc_l4, kc_l5, kc_l6, kc_l7, kc_l8, kc_l9, kc_l10, kc_l11, kc_l12, kc_l13, kc_l14, kc_l37, kc_l42, kc_l43, kc_l45, kc_l47, kc_l60, kc_l61, kc_l62, kc_l316, kc_l318, kc_l65536, kc_l99999, kc_l1000000, kc_l252645135, kc_l858993459, kc_l1431655765, kc_0, kc_on, nx_lt, nx_le, nx_eq, nx_add, nx_sub, nx_mul, nx_cl, n_lt_ng, n_le_ng, n_eq_ng, ng_lt_n, ng_le_n, ng_eq_n, ng_eq, ng_lt, ng_le, nx_dec, nx_andn, nx_and2, ra_193_26 R3, Option.bind_some, mn_207, gi_n]
              refine sp_neg (by omega) ?_
              by_cases q1 : sd i (alvN A) = 0
              · refine sp_neg (by omega) ?_
                by_cases q2 : i &&& lowb (alvN A) = 0
                · refine sp_pos (by intro q; exact (and_lowb (by omega) hz).mp q q2) (sp_some.mpr ⟨rfl, next (fun q => q.2.1 q2)⟩)
                · refine sp_neg (by intro q; exact q ((and_lowb (by omega) hz).mpr q2)) ?_
                  have hl3 : sd (alvN A) i ≤ alvN A := sub_le (sub_sd _ _)
                  rw [E3 _ (sd_0.mp q1), nx_andn, gi_n (by omega), nx_cl (by omega), E3 _ (sub_sd _ _), nx_andn, cN_b w (b := bN A) (c := 0) (S := i) (by omega), cN_b w (b := bN A) (c := 0) (S := sd (alvN A) i) (by omega)]
                  have hl4 : sd (wOrd A need) (cN A 0 i) ≤ wOrd A need := sub_le (sub_sd _ _)
                  have hl6 : sd (wOrd A need) (cN A 0 (sd (alvN A) i)) ≤ wOrd A need := sub_le (sub_sd _ _)
                  refine sp_pos (by simp; omega) ?_
                  by_cases q3 : sd (wOrd A need) (cN A 0 i) = 0
                  · refine sp_neg (by rw [q3]; simp) (sp_pos (by simp; omega) ?_)
                    by_cases q4 : sd (wOrd A need) (cN A 0 (sd (alvN A) i)) = 0
                    · exact sp_pos (by rw [q4]) (sp_some.mpr ⟨rfl, i, rfl, wtF_some.mpr ⟨by omega, ⟨q1, q2, q3, q4⟩, c3⟩⟩)
                    · exact sp_neg (by rw [nx_eq (by omega) (by omega)]; exact q4) (sp_some.mpr ⟨rfl, next (fun q => q4 q.2.2.2)⟩)
                  · exact sp_pos (by rw [nx_eq (by omega) (by omega)]; exact q3) (sp_some.mpr ⟨rfl, next (fun q => q3 q.2.2.1)⟩)
              · exact sp_pos q1 (sp_some.mpr ⟨rfl, next (fun q => q1 q.1)⟩)
            · rintro z ⟨rfl, c3⟩
              dsimp only
              unfold m_watches_97
              simp (disch := omega) only [kc_im8, kc_im1, kc_i0, kc_i1, kc_i2, kc_i3, kc_i4, kc_i5, kc_b_m100, kc_b_m16, kc_b_m15, kc_b_m14, kc_b_m13, kc_b_m12, kc_b_m11, kc_b_m2, kc_b_6, kc_b_7, kc_b_8, kc_b_9, kc_b_10, kc_b_11, kc_b_12, kc_b_13, kc_b_14, kc_b_15, kc_b_16, kc_b_20, kc_b_24, kc_b_32, kc_b_37, kc_b_40, kc_b_42, kc_b_43, kc_b_45, kc_b_47, kc_b_48, kc_b_57, kc_b_58, kc_b_59, kc_b_60, kc_b_61, kc_b_62, kc_b_63, kc_b_91, kc_b_93, kc_b_97, kc_b_99, kc_b_100, kc_b_106, kc_b_122, kc_s_206, kc_s_226, kc_s_227, kc_s_255, kc_s_256, kc_s_316, kc_s_318, kc_s_400, kc_s_512, kc_s_999, kc_s_1160, kc_s_1536, kc_s_3003, kc_lm11, kc_lm10, kc_lm9, kc_lm8, kc_lm7, kc_lm6, kc_lm5, kc_lm4, kc_lm3, kc_lm2, kc_lm1, kc_l1, kc_l2, kc_l3, kc_l4, kc_l5, kc_l6, kc_l7, kc_l8, kc_l9, kc_l10, kc_l11, kc_l12, kc_l13, kc_l14, kc_l37, kc_l42, kc_l43, kc_l45, kc_l47, kc_l60, kc_l61, kc_l62, kc_l316, kc_l318, kc_l65536, kc_l99999, kc_l1000000, kc_l252645135, kc_l858993459, kc_l1431655765, kc_0, kc_on, nx_lt, nx_le, nx_eq, nx_add, nx_sub, nx_mul, nx_cl, n_lt_ng, n_le_ng, n_eq_ng, ng_lt_n, ng_le_n, ng_eq_n, ng_eq, ng_lt, ng_le, nx_dec]
              exact sp_pos (by omega) (sp_some.mpr ⟨rfl, last _ (by omega) c3⟩)
        refine sp_call key2 ?_
        rintro (⟨x, h4⟩ | h4) hz
        · obtain ⟨rfl, i, e, hw⟩ := hz
          dsimp only at e
          subst e
          dsimp only
          rw [hw]
          have : k = 0 ∨ k = 1 := by omega
          rcases this with rfl | rfl
          · exact sp_neg (by simp) (sp_some.mpr ⟨rfl, ff⟩)
          · refine sp_pos (by decide) ?_
            rw [nx_andn]
            exact sp_some.mpr ⟨rfl, ff⟩
        · obtain ⟨rfl, hw⟩ := hz
          dsimp only
          rw [hw]
          exact sp_some.mpr ⟨rfl, ff⟩
      · rw [m_in_f h (lo := Int64.ofNat 0) (hi := Int64.ofNat 1) hy (by omega) rfl rfl, Option.bind_some]
        exact sp_neg (by simp) (none_ (fun q => hy q.2.2))
    · rw [m_in_f h (lo := Int64.ofNat 0) (hi := 99) (n := 99) hx (by omega) rfl rfl, Option.bind_some]
      exact sp_pos rfl (none_ (fun q => hx q.2.1))
  · exact sp_pos (by rw [decide_eq_false h0]; rfl) (none_ (fun q => h0 q.1))
end WT
