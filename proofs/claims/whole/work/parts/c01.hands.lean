/-! Who is alive, fit, heard: the program and the reference. -/
theorem bs_ext {a b n : Nat} (ha : a < 2 ^ n) (hb : b < 2 ^ n) (h : ∀ i, i < n → a.testBit i = b.testBit i) : a = b := by
  apply Nat.eq_of_testBit_eq
  intro i
  rcases Nat.lt_or_ge i n with q | q
  · exact h i q
  · rw [Nat.testBit_lt_two_pow (Nat.lt_of_lt_of_le ha (Nat.pow_le_pow_right (by decide) q)), Nat.testBit_lt_two_pow (Nat.lt_of_lt_of_le hb (Nat.pow_le_pow_right (by decide) q))]
theorem sd_lt {a n : Nat} (b : Nat) (ha : a < 2 ^ n) : sd a b < 2 ^ n := sub_lt (sub_sd a b) ha
def alvN (A : Nat → Int32) : Nat := bs (fun m => !isDd A m) (an A 1)
def fitN (A : Nat → Int32) : Nat := bs (isFit A) (an A 1)
/-- the boy's number: 0 without a word, else the word and 1 -/
def bN (A : Nat → Int32) : Nat := if A 6 = ng 1 then 0 else an A 6 + 1
def hrdM (A : Nat → Int32) : Nat := bs (fun m => isFit A m && isAw A m) (an A 1)
def hrdN (A : Nat → Int32) : Nat := hrdM A ||| bb (bN A)
section HD
variable {h : pm_H} {s c : Nat} {A : Nat → Int32}
theorem bN_bv (w : WFA A) : bv (bN A) = A 6 ∧ bN A ≤ 10 := by
  have h0 := w.e0
  rcases w.e6 with q | q
  · have e : bN A = 0 := by unfold bN; rw [if_pos q]
    rw [e]; exact ⟨q.symm, by omega⟩
  · have hne : ¬ A 6 = ng 1 := by rw [q.1, n_eq_ng (by omega) (by omega) (by omega)]; exact id
    have e : bN A = an A 6 + 1 := by unfold bN; rw [if_neg hne]
    rw [e]
    unfold bv
    rw [if_neg (by omega), Nat.add_sub_cancel]
    exact ⟨q.1.symm, by omega⟩
theorem p2men (w : WFA A) : 2 ^ an A 1 ≤ 256 ∧ an A 1 ≤ 8 := ⟨p256 w, by have := w.e1; omega⟩
theorem n_living_c (S : CSh h s A) (H : CHd h c A) (w : WFA A) : n_living c s h = some (nI (alvN A)) := by
  have h1 := w.e1
  have hp := p256 w
  unfold n_living
  simp (disch := omega) only [kc_im8, kc_im1, kc_i0, kc_i1, kc_i2, kc_i3, kc_i4, kc_i5, kc_b_m100, kc_b_m16, kc_b_m15, kc_b_m14, kc_b_m13, kc_b_m12, kc_b_m11, kc_b_m2, kc_b_6, kc_b_7, kc_b_8, kc_b_9, kc_b_10, kc_b_11, kc_b_12, kc_b_13, kc_b_14, kc_b_15, kc_b_16, kc_b_20, kc_b_24, kc_b_32, kc_b_37, kc_b_40, kc_b_42, kc_b_43, kc_b_45, kc_b_47, kc_b_48, kc_b_57, kc_b_58, kc_b_59, kc_b_60, kc_b_61, kc_b_62, kc_b_63, kc_b_91, kc_b_93, kc_b_97, kc_b_99, kc_b_100, kc_b_106, kc_b_122, kc_s_206, kc_s_226, kc_s_227, kc_s_255, kc_s_256, kc_s_316, kc_s_318, kc_s_400, kc_s_512, kc_s_999, kc_s_1160, kc_s_1536, kc_s_3003, kc_lm11, kc_lm10, kc_lm9, kc_lm8, kc_lm7, kc_lm6, kc_lm5, kc_lm4, kc_lm3, kc_lm2, kc_lm1, kc_l1, kc_l2, kc_l3, kc_l4, kc_l5, kc_l6, kc_l7, kc_l8, kc_l9, kc_l10, kc_l11, kc_l12, kc_l13, kc_l14, kc_l37, kc_l42, kc_l43, kc_l45, kc_l47, kc_l60, kc_l61, kc_l62, kc_l316, kc_l318, kc_l65536, kc_l99999, kc_l1000000, kc_l252645135, kc_l858993459, kc_l1431655765, kc_0, kc_on, S.2.2.1, h1.1, H.2.2.1, nx_shl1]
  have h2 : 1 ≤ 2 ^ an A 1 := Nat.one_le_two_pow
  rw [nx_sub h2, nx_andn]
  congr 2
  refine bs_ext (n := an A 1) (sd_lt _ (by omega)) (bs_lt _ _) (fun i hi => ?_)
  unfold alvN
  rw [sd_bit, bs_bit, bs_bit, Nat.testBit_two_pow_sub_one]
  simp [hi]
theorem n_fit_c (S : CSh h s A) (H : CHd h c A) (w : WFA A) (R : RF h) : n_fit c s h = some (nI (fitN A)) := by
  have h1 := w.e1
  have h5 := w.e5
  have hp := p256 w
  have bnd : ∀ i, bs (fun m => !isDd A m && (decide (i ≤ m) || isFit A m)) (an A 1) < 2 ^ an A 1 := fun i => bs_lt _ _
  have key : wh (fun q : (Int32 × Int32) => n_fit_8 c s q.1 q.2 h) (nI (alvN A), nI 0) = some (nI (fitN A)) := by
    have e0 : alvN A = bs (fun m => !isDd A m && (decide (0 ≤ m) || isFit A m)) (an A 1) := bs_congr (fun i _ => by simp)
    have eN : fitN A = bs (fun m => !isDd A m && (decide (an A 1 ≤ m) || isFit A m)) (an A 1) := bs_congr (fun i hi => by
      have : ¬ an A 1 ≤ i := by omega
      unfold isFit
      simp [this]
      intro q _ _; exact q)
    rw [e0, eN]
    refine wh_for (fun i => (nI (bs (fun m => !isDd A m && (decide (i ≤ m) || isFit A m)) (an A 1)), nI i)) (an A 1) 0 (by omega) (fun i _ hi => ?_) ?_
    · have m1 := w.m1 hi
      have m3 := w.m3 hi
      have stay : isFit A i = !isDd A i → bs (fun m => !isDd A m && (decide (i ≤ m) || isFit A m)) (an A 1) = bs (fun m => !isDd A m && (decide (i + 1 ≤ m) || isFit A m)) (an A 1) := by
        intro q
        refine bs_congr (fun j hj => ?_)
        by_cases e : j = i
        · subst e; rw [q]; cases isDd A j <;> simp
        · have : decide (i ≤ j) = decide (i + 1 ≤ j) := decide_eq_decide.mpr (by omega)
          rw [this]
      have clear_ : isFit A i = false → sd (bs (fun m => !isDd A m && (decide (i ≤ m) || isFit A m)) (an A 1)) (2 ^ i) = bs (fun m => !isDd A m && (decide (i + 1 ≤ m) || isFit A m)) (an A 1) := by
        intro q
        refine bs_ext (n := an A 1) (sd_lt _ (bnd i)) (bnd (i + 1)) (fun j hj => ?_)
        rw [sd_bit, bs_bit, bs_bit, Nat.testBit_two_pow]
        by_cases e : i = j
        · subst e; simp [q]
        · have : decide (i ≤ j) = decide (i + 1 ≤ j) := decide_eq_decide.mpr (by omega)
          simp [e, this]
      have e63 : isFit A i = false → n_fit_63 c s (nI (bs (fun m => !isDd A m && (decide (i ≤ m) || isFit A m)) (an A 1))) (nI i) h = some (.inl (nI (bs (fun m => !isDd A m && (decide (i + 1 ≤ m) || isFit A m)) (an A 1)), nI (i + 1))) := by
        intro q
        unfold n_fit_63
        simp (disch := omega) only [kc_im8, kc_im1, kc_i0, kc_i1, kc_i2, kc_i3, kc_i4, kc_i5, kc_b_m100, kc_b_m16, kc_b_m15, kc_b_m14, kc_b_m13, kc_b_m12, kc_b_m11, kc_b_m2, kc_b_6, kc_b_7, kc_b_8, kc_b_9, kc_b_10, kc_b_11, kc_b_12, kc_b_13, kc_b_14, kc_b_15, kc_b_16, kc_b_20, kc_b_24, kc_b_32, kc_b_37, kc_b_40, kc_b_42, kc_b_43, kc_b_45, kc_b_47, kc_b_48, kc_b_57, kc_b_58, kc_b_59, kc_b_60, kc_b_61, kc_b_62, kc_b_63, kc_b_91, kc_b_93, kc_b_97, kc_b_99, kc_b_100, kc_b_106, kc_b_122, kc_s_206, kc_s_226, kc_s_227, kc_s_255, kc_s_256, kc_s_316, kc_s_318, kc_s_400, kc_s_512, kc_s_999, kc_s_1160, kc_s_1536, kc_s_3003, kc_lm11, kc_lm10, kc_lm9, kc_lm8, kc_lm7, kc_lm6, kc_lm5, kc_lm4, kc_lm3, kc_lm2, kc_lm1, kc_l1, kc_l2, kc_l3, kc_l4, kc_l5, kc_l6, kc_l7, kc_l8, kc_l9, kc_l10, kc_l11, kc_l12, kc_l13, kc_l14, kc_l37, kc_l42, kc_l43, kc_l45, kc_l47, kc_l60, kc_l61, kc_l62, kc_l316, kc_l318, kc_l65536, kc_l99999, kc_l1000000, kc_l252645135, kc_l858993459, kc_l1431655765, kc_0, kc_on, nx_shl1, nx_andn, nx_add, clear_ q]
      have e47 : ∀ z : Bool, z = isLe A i → n_fit_47 c s (nI (bs (fun m => !isDd A m && (decide (i ≤ m) || isFit A m)) (an A 1))) (nI i) (nI z.toNat) h = some (.inl (nI (bs (fun m => !isDd A m && (decide (i + 1 ≤ m) || isFit A m)) (an A 1)), nI (i + 1))) := by
        intro z hz
        unfold n_fit_47
        simp (disch := omega) only [kc_im8, kc_im1, kc_i0, kc_i1, kc_i2, kc_i3, kc_i4, kc_i5, kc_b_m100, kc_b_m16, kc_b_m15, kc_b_m14, kc_b_m13, kc_b_m12, kc_b_m11, kc_b_m2, kc_b_6, kc_b_7, kc_b_8, kc_b_9, kc_b_10, kc_b_11, kc_b_12, kc_b_13, kc_b_14, kc_b_15, kc_b_16, kc_b_20, kc_b_24, kc_b_32, kc_b_37, kc_b_40, kc_b_42, kc_b_43, kc_b_45, kc_b_47, kc_b_48, kc_b_57, kc_b_58, kc_b_59, kc_b_60, kc_b_61, kc_b_62, kc_b_63, kc_b_91, kc_b_93, kc_b_97, kc_b_99, kc_b_100, kc_b_106, kc_b_122, kc_s_206, kc_s_226, kc_s_227, kc_s_255, kc_s_256, kc_s_316, kc_s_318, kc_s_400, kc_s_512, kc_s_999, kc_s_1160, kc_s_1536, kc_s_3003, kc_lm11, kc_lm10, kc_lm9, kc_lm8, kc_lm7, kc_lm6, kc_lm5, kc_lm4, kc_lm3, kc_lm2, kc_lm1, kc_l1, kc_l2, kc_l3, kc_l4, kc_l5, kc_l6, kc_l7, kc_l8, kc_l9, kc_l10, kc_l11, kc_l12, kc_l13, kc_l14, kc_l37, kc_l42, kc_l43, kc_l45, kc_l47, kc_l60, kc_l61, kc_l62, kc_l316, kc_l318, kc_l65536, kc_l99999, kc_l1000000, kc_l252645135, kc_l858993459, kc_l1431655765, kc_0, kc_on, rf_n5 R H.1, ln_n5 H.1, Option.bind_some, gi_n, (H.2.2.2.2.2.2 i hi).1, m3.1, nx_lt, nx_le, nx_eq, nx_add, nx_sub, nx_mul, nx_cl, n_lt_ng, n_le_ng, n_eq_ng, ng_lt_n, ng_le_n, ng_eq_n, ng_eq, ng_lt, ng_le, nx_dec]
        cases z with
        | true =>
          rw [if_pos (by show ¬ nI 1 = nI 0; decide)]
          exact e63 (by unfold isFit; rw [← hz]; simp)
        | false =>
          rw [if_neg (by simp), if_pos (by simp; omega)]
          by_cases hs0 : an A (10 + 6 * i + 3) ≤ 0
          · rw [if_pos hs0, stay]
            unfold isFit
            rw [← hz, m3.1, show an A (10 + 6 * i + 3) = 0 from by omega]
            simp
          · rw [if_neg hs0]
            refine e63 ?_
            unfold isFit
            rw [m3.1]
            simp (disch := omega) only [nx_eq]
            simp; omega
      unfold n_fit_8
      simp (disch := omega) only [kc_im8, kc_im1, kc_i0, kc_i1, kc_i2, kc_i3, kc_i4, kc_i5, kc_b_m100, kc_b_m16, kc_b_m15, kc_b_m14, kc_b_m13, kc_b_m12, kc_b_m11, kc_b_m2, kc_b_6, kc_b_7, kc_b_8, kc_b_9, kc_b_10, kc_b_11, kc_b_12, kc_b_13, kc_b_14, kc_b_15, kc_b_16, kc_b_20, kc_b_24, kc_b_32, kc_b_37, kc_b_40, kc_b_42, kc_b_43, kc_b_45, kc_b_47, kc_b_48, kc_b_57, kc_b_58, kc_b_59, kc_b_60, kc_b_61, kc_b_62, kc_b_63, kc_b_91, kc_b_93, kc_b_97, kc_b_99, kc_b_100, kc_b_106, kc_b_122, kc_s_206, kc_s_226, kc_s_227, kc_s_255, kc_s_256, kc_s_316, kc_s_318, kc_s_400, kc_s_512, kc_s_999, kc_s_1160, kc_s_1536, kc_s_3003, kc_lm11, kc_lm10, kc_lm9, kc_lm8, kc_lm7, kc_lm6, kc_lm5, kc_lm4, kc_lm3, kc_lm2, kc_lm1, kc_l1, kc_l2, kc_l3, kc_l4, kc_l5, kc_l6, kc_l7, kc_l8, kc_l9, kc_l10, kc_l11, kc_l12, kc_l13, kc_l14, kc_l37, kc_l42, kc_l43, kc_l45, kc_l47, kc_l60, kc_l61, kc_l62, kc_l316, kc_l318, kc_l65536, kc_l99999, kc_l1000000, kc_l252645135, kc_l858993459, kc_l1431655765, kc_0, kc_on, S.2.2.1, h1.1, nx_lt, nx_le, nx_eq, nx_add, nx_sub, nx_mul, nx_cl, n_lt_ng, n_le_ng, n_eq_ng, ng_lt_n, ng_le_n, ng_eq_n, ng_eq, ng_lt, ng_le, nx_dec, H.2.2.2.2.1, h5.1, rf_s5 R S.1, ln_s5 S.1, Option.bind_some, gi_n, (S.2.2.2.2.2.1 i hi).2, m1.1]
      rw [if_neg (by omega), if_neg (by omega)]
      by_cases w0 : an A 5 = 0
      · rw [if_pos w0]
        exact e47 false (by unfold isLe; rw [h5.1, w0]; simp)
      · rw [if_neg w0, if_pos (by simp; omega)]
        by_cases be : an A (10 + 6 * i + 1) = an A 5
        · rw [if_neg (by omega)]
          refine e47 true ?_
          unfold isLe
          rw [h5.1, m1.1, be]
          simp (disch := omega) only [nx_eq]
          simp [w0]
        · rw [if_pos be]
          refine e47 false ?_
          unfold isLe
          rw [h5.1, m1.1]
          simp (disch := omega) only [nx_eq]
          simp [be]
    · unfold n_fit_8
      simp (disch := omega) only [kc_im8, kc_im1, kc_i0, kc_i1, kc_i2, kc_i3, kc_i4, kc_i5, kc_b_m100, kc_b_m16, kc_b_m15, kc_b_m14, kc_b_m13, kc_b_m12, kc_b_m11, kc_b_m2, kc_b_6, kc_b_7, kc_b_8, kc_b_9, kc_b_10, kc_b_11, kc_b_12, kc_b_13, kc_b_14, kc_b_15, kc_b_16, kc_b_20, kc_b_24, kc_b_32, kc_b_37, kc_b_40, kc_b_42, kc_b_43, kc_b_45, kc_b_47, kc_b_48, kc_b_57, kc_b_58, kc_b_59, kc_b_60, kc_b_61, kc_b_62, kc_b_63, kc_b_91, kc_b_93, kc_b_97, kc_b_99, kc_b_100, kc_b_106, kc_b_122, kc_s_206, kc_s_226, kc_s_227, kc_s_255, kc_s_256, kc_s_316, kc_s_318, kc_s_400, kc_s_512, kc_s_999, kc_s_1160, kc_s_1536, kc_s_3003, kc_lm11, kc_lm10, kc_lm9, kc_lm8, kc_lm7, kc_lm6, kc_lm5, kc_lm4, kc_lm3, kc_lm2, kc_lm1, kc_l1, kc_l2, kc_l3, kc_l4, kc_l5, kc_l6, kc_l7, kc_l8, kc_l9, kc_l10, kc_l11, kc_l12, kc_l13, kc_l14, kc_l37, kc_l42, kc_l43, kc_l45, kc_l47, kc_l60, kc_l61, kc_l62, kc_l316, kc_l318, kc_l65536, kc_l99999, kc_l1000000, kc_l252645135, kc_l858993459, kc_l1431655765, kc_0, kc_on, S.2.2.1, h1.1, nx_lt, nx_le, nx_eq, nx_add, nx_sub, nx_mul, nx_cl, n_lt_ng, n_le_ng, n_eq_ng, ng_lt_n, ng_le_n, ng_eq_n, ng_eq, ng_lt, ng_le, nx_dec]
      rw [if_pos (by omega)]
  unfold n_fit
  rw [n_living_c S H w, Option.bind_some]
  simp only [kc_im8, kc_im1, kc_i0, kc_i1, kc_i2, kc_i3, kc_i4, kc_i5, kc_b_m100, kc_b_m16, kc_b_m15, kc_b_m14, kc_b_m13, kc_b_m12, kc_b_m11, kc_b_m2, kc_b_6, kc_b_7, kc_b_8, kc_b_9, kc_b_10, kc_b_11, kc_b_12, kc_b_13, kc_b_14, kc_b_15, kc_b_16, kc_b_20, kc_b_24, kc_b_32, kc_b_37, kc_b_40, kc_b_42, kc_b_43, kc_b_45, kc_b_47, kc_b_48, kc_b_57, kc_b_58, kc_b_59, kc_b_60, kc_b_61, kc_b_62, kc_b_63, kc_b_91, kc_b_93, kc_b_97, kc_b_99, kc_b_100, kc_b_106, kc_b_122, kc_s_206, kc_s_226, kc_s_227, kc_s_255, kc_s_256, kc_s_316, kc_s_318, kc_s_400, kc_s_512, kc_s_999, kc_s_1160, kc_s_1536, kc_s_3003, kc_lm11, kc_lm10, kc_lm9, kc_lm8, kc_lm7, kc_lm6, kc_lm5, kc_lm4, kc_lm3, kc_lm2, kc_lm1, kc_l1, kc_l2, kc_l3, kc_l4, kc_l5, kc_l6, kc_l7, kc_l8, kc_l9, kc_l10, kc_l11, kc_l12, kc_l13, kc_l14, kc_l37, kc_l42, kc_l43, kc_l45, kc_l47, kc_l60, kc_l61, kc_l62, kc_l316, kc_l318, kc_l65536, kc_l99999, kc_l1000000, kc_l252645135, kc_l858993459, kc_l1431655765, kc_0, kc_on, key, Option.bind_some]
theorem n_heard_c (S : CSh h s A) (H : CHd h c A) (w : WFA A) (R : RF h) : n_heard c s h = some (nI (hrdN A)) := by
  have hp := p256 w
  have hm : fitN A &&& bs (isAw A) (an A 1) = hrdM A := by
    refine bs_ext (n := an A 1) (Nat.and_lt_two_pow _ (bs_lt _ _)) (bs_lt _ _) (fun i hi => ?_)
    unfold fitN hrdM
    rw [Nat.testBit_and, bs_bit, bs_bit, bs_bit]
    simp [hi]
  unfold n_heard
  rw [n_fit_c S H w R, Option.bind_some]
  simp only [kc_im8, kc_im1, kc_i0, kc_i1, kc_i2, kc_i3, kc_i4, kc_i5, kc_b_m100, kc_b_m16, kc_b_m15, kc_b_m14, kc_b_m13, kc_b_m12, kc_b_m11, kc_b_m2, kc_b_6, kc_b_7, kc_b_8, kc_b_9, kc_b_10, kc_b_11, kc_b_12, kc_b_13, kc_b_14, kc_b_15, kc_b_16, kc_b_20, kc_b_24, kc_b_32, kc_b_37, kc_b_40, kc_b_42, kc_b_43, kc_b_45, kc_b_47, kc_b_48, kc_b_57, kc_b_58, kc_b_59, kc_b_60, kc_b_61, kc_b_62, kc_b_63, kc_b_91, kc_b_93, kc_b_97, kc_b_99, kc_b_100, kc_b_106, kc_b_122, kc_s_206, kc_s_226, kc_s_227, kc_s_255, kc_s_256, kc_s_316, kc_s_318, kc_s_400, kc_s_512, kc_s_999, kc_s_1160, kc_s_1536, kc_s_3003, kc_lm11, kc_lm10, kc_lm9, kc_lm8, kc_lm7, kc_lm6, kc_lm5, kc_lm4, kc_lm3, kc_lm2, kc_lm1, kc_l1, kc_l2, kc_l3, kc_l4, kc_l5, kc_l6, kc_l7, kc_l8, kc_l9, kc_l10, kc_l11, kc_l12, kc_l13, kc_l14, kc_l37, kc_l42, kc_l43, kc_l45, kc_l47, kc_l60, kc_l61, kc_l62, kc_l316, kc_l318, kc_l65536, kc_l99999, kc_l1000000, kc_l252645135, kc_l858993459, kc_l1431655765, kc_0, kc_on, H.2.1, H.2.2.2.2.2.1, nx_and2, nx_or2, hm]
  unfold hrdN bb bN
  have h0 := w.e0
  rcases w.e6 with q | q
  · rw [q, if_pos (by rw [ng_lt_n (by omega) (by omega) (by omega)]; trivial), if_pos rfl, if_pos rfl, Nat.or_zero]
  · rw [if_neg (by rw [q.1, nx_lt (by omega) (by omega)]; omega), if_neg (show ¬ A 6 = ng 1 from by rw [q.1, n_eq_ng (by omega) (by omega) (by omega)]; exact id), if_neg (by omega)]
/-! the reference -/
theorem m_isMan_t (w : WFA A) (R : RF h) (hA : h.2.1 203 = A) {m : Nat} (hm : m < an A 1) : m_isMan 193 (nI m) h = some (nI 1) := by
  have h1 := w.e1
  unfold m_isMan
  simp (disch := omega) only [kc_im8, kc_im1, kc_i0, kc_i1, kc_i2, kc_i3, kc_i4, kc_i5, kc_b_m100, kc_b_m16, kc_b_m15, kc_b_m14, kc_b_m13, kc_b_m12, kc_b_m11, kc_b_m2, kc_b_6, kc_b_7, kc_b_8, kc_b_9, kc_b_10, kc_b_11, kc_b_12, kc_b_13, kc_b_14, kc_b_15, kc_b_16, kc_b_20, kc_b_24, kc_b_32, kc_b_37, kc_b_40, kc_b_42, kc_b_43, kc_b_45, kc_b_47, kc_b_48, kc_b_57, kc_b_58, kc_b_59, kc_b_60, kc_b_61, kc_b_62, kc_b_63, kc_b_91, kc_b_93, kc_b_97, kc_b_99, kc_b_100, kc_b_106, kc_b_122, kc_s_206, kc_s_226, kc_s_227, kc_s_255, kc_s_256, kc_s_316, kc_s_318, kc_s_400, kc_s_512, kc_s_999, kc_s_1160, kc_s_1536, kc_s_3003, kc_lm11, kc_lm10, kc_lm9, kc_lm8, kc_lm7, kc_lm6, kc_lm5, kc_lm4, kc_lm3, kc_lm2, kc_lm1, kc_l1, kc_l2, kc_l3, kc_l4, kc_l5, kc_l6, kc_l7, kc_l8, kc_l9, kc_l10, kc_l11, kc_l12, kc_l13, kc_l14, kc_l37, kc_l42, kc_l43, kc_l45, kc_l47, kc_l60, kc_l61, kc_l62, kc_l316, kc_l318, kc_l65536, kc_l99999, kc_l1000000, kc_l252645135, kc_l858993459, kc_l1431655765, kc_0, kc_on, ra_193_20 R, Option.bind_some, mn_203, gi_n, nx_lt, nx_le, nx_eq, nx_add, nx_sub, nx_mul, nx_cl, n_lt_ng, n_le_ng, n_eq_ng, ng_lt_n, ng_le_n, ng_eq_n, ng_eq, ng_lt, ng_le, nx_dec, hA, h1.1]
  rw [if_neg (by omega), if_pos (by simp), if_neg (by omega)]
theorem m_isMan_f (w : WFA A) (R : RF h) (hA : h.2.1 203 = A) {x : Int32} (hx : ¬ ∃ m, m < an A 1 ∧ x = nI m) : m_isMan 193 x h = some (nI 0) := by
  have h1 := w.e1
  unfold m_isMan
  simp (disch := omega) only [kc_im8, kc_im1, kc_i0, kc_i1, kc_i2, kc_i3, kc_i4, kc_i5, kc_b_m100, kc_b_m16, kc_b_m15, kc_b_m14, kc_b_m13, kc_b_m12, kc_b_m11, kc_b_m2, kc_b_6, kc_b_7, kc_b_8, kc_b_9, kc_b_10, kc_b_11, kc_b_12, kc_b_13, kc_b_14, kc_b_15, kc_b_16, kc_b_20, kc_b_24, kc_b_32, kc_b_37, kc_b_40, kc_b_42, kc_b_43, kc_b_45, kc_b_47, kc_b_48, kc_b_57, kc_b_58, kc_b_59, kc_b_60, kc_b_61, kc_b_62, kc_b_63, kc_b_91, kc_b_93, kc_b_97, kc_b_99, kc_b_100, kc_b_106, kc_b_122, kc_s_206, kc_s_226, kc_s_227, kc_s_255, kc_s_256, kc_s_316, kc_s_318, kc_s_400, kc_s_512, kc_s_999, kc_s_1160, kc_s_1536, kc_s_3003, kc_lm11, kc_lm10, kc_lm9, kc_lm8, kc_lm7, kc_lm6, kc_lm5, kc_lm4, kc_lm3, kc_lm2, kc_lm1, kc_l1, kc_l2, kc_l3, kc_l4, kc_l5, kc_l6, kc_l7, kc_l8, kc_l9, kc_l10, kc_l11, kc_l12, kc_l13, kc_l14, kc_l37, kc_l42, kc_l43, kc_l45, kc_l47, kc_l60, kc_l61, kc_l62, kc_l316, kc_l318, kc_l65536, kc_l99999, kc_l1000000, kc_l252645135, kc_l858993459, kc_l1431655765, kc_0, kc_on, ra_193_20 R, Option.bind_some, mn_203, gi_n, nx_cl, hA, h1.1]
  rcases ixx x (n := an A 1) (by omega) with q | q | q
  · rw [if_pos q]
  · by_cases q0 : x < nI 0
    · rw [if_pos q0]
    · rw [if_neg q0, if_pos (by simp), if_pos q]
  · exact (hx q).elim
theorem m_isAlive_t (w : WFA A) (R : RF h) (hA : h.2.1 203 = A) {m : Nat} (hm : m < an A 1) : m_isAlive 193 (nI m) h = some (nI (!isDd A m).toNat) := by
  have h1 := w.e1
  have m4 := w.m4 hm
  unfold m_isAlive
  simp (disch := omega) only [m_isMan_t w R hA hm, kc_im8, kc_im1, kc_i0, kc_i1, kc_i2, kc_i3, kc_i4, kc_i5, kc_b_m100, kc_b_m16, kc_b_m15, kc_b_m14, kc_b_m13, kc_b_m12, kc_b_m11, kc_b_m2, kc_b_6, kc_b_7, kc_b_8, kc_b_9, kc_b_10, kc_b_11, kc_b_12, kc_b_13, kc_b_14, kc_b_15, kc_b_16, kc_b_20, kc_b_24, kc_b_32, kc_b_37, kc_b_40, kc_b_42, kc_b_43, kc_b_45, kc_b_47, kc_b_48, kc_b_57, kc_b_58, kc_b_59, kc_b_60, kc_b_61, kc_b_62, kc_b_63, kc_b_91, kc_b_93, kc_b_97, kc_b_99, kc_b_100, kc_b_106, kc_b_122, kc_s_206, kc_s_226, kc_s_227, kc_s_255, kc_s_256, kc_s_316, kc_s_318, kc_s_400, kc_s_512, kc_s_999, kc_s_1160, kc_s_1536, kc_s_3003, kc_lm11, kc_lm10, kc_lm9, kc_lm8, kc_lm7, kc_lm6, kc_lm5, kc_lm4, kc_lm3, kc_lm2, kc_lm1, kc_l1, kc_l2, kc_l3, kc_l4, kc_l5, kc_l6, kc_l7, kc_l8, kc_l9, kc_l10, kc_l11, kc_l12, kc_l13, kc_l14, kc_l37, kc_l42, kc_l43, kc_l45, kc_l47, kc_l60, kc_l61, kc_l62, kc_l316, kc_l318, kc_l65536, kc_l99999, kc_l1000000, kc_l252645135, kc_l858993459, kc_l1431655765, kc_0, kc_on, Option.bind_some, m_manOf_n R hA (by omega : 10 + 6 * m + 4 < 227), m4]
  rw [if_neg (by rw [nx_eq (by omega) (by omega)]; omega)]
  cases isDd A m <;> simp [nx_eq]
theorem m_isAlive_f (w : WFA A) (R : RF h) (hA : h.2.1 203 = A) {x : Int32} (hx : ¬ ∃ m, m < an A 1 ∧ x = nI m) : m_isAlive 193 x h = some (nI 0) := by
  unfold m_isAlive
  rw [m_isMan_f w R hA hx, Option.bind_some]
  simp only [kc_im8, kc_im1, kc_i0, kc_i1, kc_i2, kc_i3, kc_i4, kc_i5, kc_b_m100, kc_b_m16, kc_b_m15, kc_b_m14, kc_b_m13, kc_b_m12, kc_b_m11, kc_b_m2, kc_b_6, kc_b_7, kc_b_8, kc_b_9, kc_b_10, kc_b_11, kc_b_12, kc_b_13, kc_b_14, kc_b_15, kc_b_16, kc_b_20, kc_b_24, kc_b_32, kc_b_37, kc_b_40, kc_b_42, kc_b_43, kc_b_45, kc_b_47, kc_b_48, kc_b_57, kc_b_58, kc_b_59, kc_b_60, kc_b_61, kc_b_62, kc_b_63, kc_b_91, kc_b_93, kc_b_97, kc_b_99, kc_b_100, kc_b_106, kc_b_122, kc_s_206, kc_s_226, kc_s_227, kc_s_255, kc_s_256, kc_s_316, kc_s_318, kc_s_400, kc_s_512, kc_s_999, kc_s_1160, kc_s_1536, kc_s_3003, kc_lm11, kc_lm10, kc_lm9, kc_lm8, kc_lm7, kc_lm6, kc_lm5, kc_lm4, kc_lm3, kc_lm2, kc_lm1, kc_l1, kc_l2, kc_l3, kc_l4, kc_l5, kc_l6, kc_l7, kc_l8, kc_l9, kc_l10, kc_l11, kc_l12, kc_l13, kc_l14, kc_l37, kc_l42, kc_l43, kc_l45, kc_l47, kc_l60, kc_l61, kc_l62, kc_l316, kc_l318, kc_l65536, kc_l99999, kc_l1000000, kc_l252645135, kc_l858993459, kc_l1431655765, kc_0, kc_on, if_true]
theorem m_isLee_t (w : WFA A) (R : RF h) (hA : h.2.1 203 = A) {m : Nat} (hm : m < an A 1) : m_isLee 193 (nI m) h = some (nI (isLe A m).toNat) := by
  have h1 := w.e1
  have h5 := w.e5
  have m1 := w.m1 hm
  unfold m_isLee isLe
  simp (disch := omega) only [kc_im8, kc_im1, kc_i0, kc_i1, kc_i2, kc_i3, kc_i4, kc_i5, kc_b_m100, kc_b_m16, kc_b_m15, kc_b_m14, kc_b_m13, kc_b_m12, kc_b_m11, kc_b_m2, kc_b_6, kc_b_7, kc_b_8, kc_b_9, kc_b_10, kc_b_11, kc_b_12, kc_b_13, kc_b_14, kc_b_15, kc_b_16, kc_b_20, kc_b_24, kc_b_32, kc_b_37, kc_b_40, kc_b_42, kc_b_43, kc_b_45, kc_b_47, kc_b_48, kc_b_57, kc_b_58, kc_b_59, kc_b_60, kc_b_61, kc_b_62, kc_b_63, kc_b_91, kc_b_93, kc_b_97, kc_b_99, kc_b_100, kc_b_106, kc_b_122, kc_s_206, kc_s_226, kc_s_227, kc_s_255, kc_s_256, kc_s_316, kc_s_318, kc_s_400, kc_s_512, kc_s_999, kc_s_1160, kc_s_1536, kc_s_3003, kc_lm11, kc_lm10, kc_lm9, kc_lm8, kc_lm7, kc_lm6, kc_lm5, kc_lm4, kc_lm3, kc_lm2, kc_lm1, kc_l1, kc_l2, kc_l3, kc_l4, kc_l5, kc_l6, kc_l7, kc_l8, kc_l9, kc_l10, kc_l11, kc_l12, kc_l13, kc_l14, kc_l37, kc_l42, kc_l43, kc_l45, kc_l47, kc_l60, kc_l61, kc_l62, kc_l316, kc_l318, kc_l65536, kc_l99999, kc_l1000000, kc_l252645135, kc_l858993459, kc_l1431655765, kc_0, kc_on, ra_193_20 R, Option.bind_some, mn_203, gi_n, nx_lt, nx_le, nx_eq, nx_add, nx_sub, nx_mul, nx_cl, n_lt_ng, n_le_ng, n_eq_ng, ng_lt_n, ng_le_n, ng_eq_n, ng_eq, ng_lt, ng_le, nx_dec, hA, h5.1, m_manOf_n R hA (by omega : 10 + 6 * m + 1 < 227), m1.1]
  rw [if_pos (by simp)]
  by_cases w0 : an A 5 = 0
  · rw [if_pos (by omega)]; simp [w0]
  · rw [if_neg (by omega), if_pos (by simp)]
    by_cases be : an A (10 + 6 * m + 1) = an A 5
    · rw [if_neg (by omega)]; simp [w0, be]
    · rw [if_pos be]; simp [be]
theorem m_isHeard_t (w : WFA A) (R : RF h) (hA : h.2.1 203 = A) {m : Nat} (hm : m < an A 1) : m_isHeard 193 (nI m) h = some (nI (isFit A m && isAw A m).toNat) := by
  have h1 := w.e1
  have m2 := w.m2 hm
  have m3 := w.m3 hm
  unfold m_isHeard
  simp (disch := omega) only [kc_im8, kc_im1, kc_i0, kc_i1, kc_i2, kc_i3, kc_i4, kc_i5, kc_b_m100, kc_b_m16, kc_b_m15, kc_b_m14, kc_b_m13, kc_b_m12, kc_b_m11, kc_b_m2, kc_b_6, kc_b_7, kc_b_8, kc_b_9, kc_b_10, kc_b_11, kc_b_12, kc_b_13, kc_b_14, kc_b_15, kc_b_16, kc_b_20, kc_b_24, kc_b_32, kc_b_37, kc_b_40, kc_b_42, kc_b_43, kc_b_45, kc_b_47, kc_b_48, kc_b_57, kc_b_58, kc_b_59, kc_b_60, kc_b_61, kc_b_62, kc_b_63, kc_b_91, kc_b_93, kc_b_97, kc_b_99, kc_b_100, kc_b_106, kc_b_122, kc_s_206, kc_s_226, kc_s_227, kc_s_255, kc_s_256, kc_s_316, kc_s_318, kc_s_400, kc_s_512, kc_s_999, kc_s_1160, kc_s_1536, kc_s_3003, kc_lm11, kc_lm10, kc_lm9, kc_lm8, kc_lm7, kc_lm6, kc_lm5, kc_lm4, kc_lm3, kc_lm2, kc_lm1, kc_l1, kc_l2, kc_l3, kc_l4, kc_l5, kc_l6, kc_l7, kc_l8, kc_l9, kc_l10, kc_l11, kc_l12, kc_l13, kc_l14, kc_l37, kc_l42, kc_l43, kc_l45, kc_l47, kc_l60, kc_l61, kc_l62, kc_l316, kc_l318, kc_l65536, kc_l99999, kc_l1000000, kc_l252645135, kc_l858993459, kc_l1431655765, kc_0, kc_on, nx_lt, nx_le, nx_eq, nx_add, nx_sub, nx_mul, nx_cl, n_lt_ng, n_le_ng, n_eq_ng, ng_lt_n, ng_le_n, ng_eq_n, ng_eq, ng_lt, ng_le, nx_dec, Option.bind_some, m_isAlive_t w R hA hm, m_isLee_t w R hA hm, m_manOf_n R hA (by omega : 10 + 6 * m + 2 < 227), m_manOf_n R hA (by omega : 10 + 6 * m + 3 < 227), m2, m3.1]
  rw [if_pos (by omega)]
  unfold isFit
  rw [m3.1]
  simp (disch := omega) only [nx_eq]
  cases isDd A m with
  | true => simp
  | false =>
    cases isAw A m with
    | false => simp [nx_eq]
    | true =>
      by_cases q : an A (10 + 6 * m + 3) = 0
      · cases isLe A m <;> simp [q, nx_eq]
      · simp [q, nx_eq]
theorem m_isHeard_f (w : WFA A) (R : RF h) (hA : h.2.1 203 = A) {m : Nat} (hm : an A 1 ≤ m) (hm8 : m < 8) : m_isHeard 193 (nI m) h = some (nI 0) := by
  unfold m_isHeard
  simp (disch := omega) only [kc_im8, kc_im1, kc_i0, kc_i1, kc_i2, kc_i3, kc_i4, kc_i5, kc_b_m100, kc_b_m16, kc_b_m15, kc_b_m14, kc_b_m13, kc_b_m12, kc_b_m11, kc_b_m2, kc_b_6, kc_b_7, kc_b_8, kc_b_9, kc_b_10, kc_b_11, kc_b_12, kc_b_13, kc_b_14, kc_b_15, kc_b_16, kc_b_20, kc_b_24, kc_b_32, kc_b_37, kc_b_40, kc_b_42, kc_b_43, kc_b_45, kc_b_47, kc_b_48, kc_b_57, kc_b_58, kc_b_59, kc_b_60, kc_b_61, kc_b_62, kc_b_63, kc_b_91, kc_b_93, kc_b_97, kc_b_99, kc_b_100, kc_b_106, kc_b_122, kc_s_206, kc_s_226, kc_s_227, kc_s_255, kc_s_256, kc_s_316, kc_s_318, kc_s_400, kc_s_512, kc_s_999, kc_s_1160, kc_s_1536, kc_s_3003, kc_lm11, kc_lm10, kc_lm9, kc_lm8, kc_lm7, kc_lm6, kc_lm5, kc_lm4, kc_lm3, kc_lm2, kc_lm1, kc_l1, kc_l2, kc_l3, kc_l4, kc_l5, kc_l6, kc_l7, kc_l8, kc_l9, kc_l10, kc_l11, kc_l12, kc_l13, kc_l14, kc_l37, kc_l42, kc_l43, kc_l45, kc_l47, kc_l60, kc_l61, kc_l62, kc_l316, kc_l318, kc_l65536, kc_l99999, kc_l1000000, kc_l252645135, kc_l858993459, kc_l1431655765, kc_0, kc_on, nx_lt, nx_le, nx_eq, nx_add, nx_sub, nx_mul, nx_cl, n_lt_ng, n_le_ng, n_eq_ng, ng_lt_n, ng_le_n, ng_eq_n, ng_eq, ng_lt, ng_le, nx_dec, Option.bind_some]
  rw [if_pos (by omega), m_isAlive_f w R hA (by rintro ⟨j, hj, e⟩; rw [nx_eq (by omega) (by have := w.e1; omega)] at e; omega), Option.bind_some, if_pos rfl]
theorem m_isHeard_b (w : WFA A) (R : RF h) (hA : h.2.1 203 = A) : m_isHeard 193 (nI 8) h = some (nI (decide (bN A ≠ 0)).toNat) := by
  have h0 := w.e0
  unfold m_isHeard
  simp (disch := omega) only [kc_im8, kc_im1, kc_i0, kc_i1, kc_i2, kc_i3, kc_i4, kc_i5, kc_b_m100, kc_b_m16, kc_b_m15, kc_b_m14, kc_b_m13, kc_b_m12, kc_b_m11, kc_b_m2, kc_b_6, kc_b_7, kc_b_8, kc_b_9, kc_b_10, kc_b_11, kc_b_12, kc_b_13, kc_b_14, kc_b_15, kc_b_16, kc_b_20, kc_b_24, kc_b_32, kc_b_37, kc_b_40, kc_b_42, kc_b_43, kc_b_45, kc_b_47, kc_b_48, kc_b_57, kc_b_58, kc_b_59, kc_b_60, kc_b_61, kc_b_62, kc_b_63, kc_b_91, kc_b_93, kc_b_97, kc_b_99, kc_b_100, kc_b_106, kc_b_122, kc_s_206, kc_s_226, kc_s_227, kc_s_255, kc_s_256, kc_s_316, kc_s_318, kc_s_400, kc_s_512, kc_s_999, kc_s_1160, kc_s_1536, kc_s_3003, kc_lm11, kc_lm10, kc_lm9, kc_lm8, kc_lm7, kc_lm6, kc_lm5, kc_lm4, kc_lm3, kc_lm2, kc_lm1, kc_l1, kc_l2, kc_l3, kc_l4, kc_l5, kc_l6, kc_l7, kc_l8, kc_l9, kc_l10, kc_l11, kc_l12, kc_l13, kc_l14, kc_l37, kc_l42, kc_l43, kc_l45, kc_l47, kc_l60, kc_l61, kc_l62, kc_l316, kc_l318, kc_l65536, kc_l99999, kc_l1000000, kc_l252645135, kc_l858993459, kc_l1431655765, kc_0, kc_on, ra_193_20 R, Option.bind_some, mn_203, gi_n, nx_lt, nx_le, nx_eq, nx_add, nx_sub, nx_mul, nx_cl, n_lt_ng, n_le_ng, n_eq_ng, ng_lt_n, ng_le_n, ng_eq_n, ng_eq, ng_lt, ng_le, nx_dec, hA]
  rw [if_neg (by simp), if_pos (by simp)]
  unfold bN
  rcases w.e6 with q | q
  · rw [q, if_pos (by rw [ng_lt_n (by omega) (by omega) (by omega)]; trivial), if_pos rfl]; rfl
  · rw [if_neg (by rw [q.1, nx_lt (by omega) (by omega)]; omega), if_neg (show ¬ A 6 = ng 1 from by rw [q.1, n_eq_ng (by omega) (by omega) (by omega)]; exact id)]; simp
theorem or_bs {p : Nat → Bool} {i : Nat} (z : Bool) (hz : z = p i) (hi : i < 31) : (nI (bs p i) ||| (if z = true then nI (2 ^ i) else nI 0)) = nI (bs p (i + 1)) := by
  rw [bs, hz]
  cases p i
  · simp only [Bool.false_eq_true, if_false]; rw [nx_or2]
  · simp only [if_true]; rw [nx_or2]
theorem m_heardSet_n (w : WFA A) (R : RF h) (hA : h.2.1 203 = A) : m_heardSet 193 h = some (nI (hrdN A)) := by
  have h1 := w.e1
  have e : hrdN A = bs (fun m => if m = 8 then decide (bN A ≠ 0) else decide (m < an A 1) && (isFit A m && isAw A m)) 9 := by
    have hb : bb (bN A) < 2 ^ 9 := by unfold bb; split <;> decide
    have hm9 : hrdM A < 2 ^ 9 := Nat.lt_of_lt_of_le (bs_lt _ _) (Nat.pow_le_pow_right (by decide) (by omega))
    refine bs_ext (n := 9) (Nat.or_lt_two_pow hm9 hb) (bs_lt _ _) (fun i hi => ?_)
    unfold hrdN hrdM
    rw [Nat.testBit_or, bs_bit, bs_bit]
    by_cases e8 : i = 8
    · subst e8
      have : ¬ 8 < an A 1 := by omega
      unfold bb
      by_cases q : bN A = 0
      · simp [q, this]
      · simp [q, this, bit_256]
    · have : (bb (bN A)).testBit i = false := by
        unfold bb
        split
        · exact Nat.zero_testBit _
        · rw [bit_256]; exact decide_eq_false (by omega)
      rw [this]
      simp [e8, hi]
  have key : wh (fun q : (Int32 × Int32) => m_heardSet_4 193 q.1 q.2 h) (nI 0, nI 0) = some (nI (hrdN A)) := by
    rw [e]
    refine wh_for (fun i => (nI (bs (fun m => if m = 8 then decide (bN A ≠ 0) else decide (m < an A 1) && (isFit A m && isAw A m)) i), nI i)) 9 0 (by omega) (fun i _ hi => ?_) ?_
    · have fin : ∀ z : Bool, m_isHeard 193 (nI i) h = some (nI z.toNat) → z = (if i = 8 then decide (bN A ≠ 0) else decide (i < an A 1) && (isFit A i && isAw A i)) → m_heardSet_4 193 (nI (bs (fun m => if m = 8 then decide (bN A ≠ 0) else decide (m < an A 1) && (isFit A m && isAw A m)) i)) (nI i) h = some (.inl (nI (bs (fun m => if m = 8 then decide (bN A ≠ 0) else decide (m < an A 1) && (isFit A m && isAw A m)) (i + 1)), nI (i + 1))) := by
        intro z hz1 hz2
        unfold m_heardSet_4 m_heardSet_26
        simp (disch := omega) only [kc_im8, kc_im1, kc_i0, kc_i1, kc_i2, kc_i3, kc_i4, kc_i5, kc_b_m100, kc_b_m16, kc_b_m15, kc_b_m14, kc_b_m13, kc_b_m12, kc_b_m11, kc_b_m2, kc_b_6, kc_b_7, kc_b_8, kc_b_9, kc_b_10, kc_b_11, kc_b_12, kc_b_13, kc_b_14, kc_b_15, kc_b_16, kc_b_20, kc_b_24, kc_b_32, kc_b_37, kc_b_40, kc_b_42, kc_b_43, kc_b_45, kc_b_47, kc_b_48, kc_b_57, kc_b_58, kc_b_59, kc_b_60, kc_b_61, kc_b_62, kc_b_63, kc_b_91, kc_b_93, kc_b_97, kc_b_99, kc_b_100, kc_b_106, kc_b_122, kc_s_206, kc_s_226, kc_s_227, kc_s_255, kc_s_256, kc_s_316, kc_s_318, kc_s_400, kc_s_512, kc_s_999, kc_s_1160, kc_s_1536, kc_s_3003, kc_lm11, kc_lm10, kc_lm9, kc_lm8, kc_lm7, kc_lm6, kc_lm5, kc_lm4, kc_lm3, kc_lm2, kc_lm1, kc_l1, kc_l2, kc_l3, kc_l4, kc_l5, kc_l6, kc_l7, kc_l8, kc_l9, kc_l10, kc_l11, kc_l12, kc_l13, kc_l14, kc_l37, kc_l42, kc_l43, kc_l45, kc_l47, kc_l60, kc_l61, kc_l62, kc_l316, kc_l318, kc_l65536, kc_l99999, kc_l1000000, kc_l252645135, kc_l858993459, kc_l1431655765, kc_0, kc_on, nx_lt, nx_le, nx_eq, nx_add, nx_sub, nx_mul, nx_cl, n_lt_ng, n_le_ng, n_eq_ng, ng_lt_n, ng_le_n, ng_eq_n, ng_eq, ng_lt, ng_le, nx_dec, hz1, Option.bind_some, nx_shl1]
        rw [if_neg (by omega), ← or_bs (p := fun m => if m = 8 then decide (bN A ≠ 0) else decide (m < an A 1) && (isFit A m && isAw A m)) z hz2 (by omega)]
        cases z <;> simp [nx_eq]
      by_cases e8 : i = 8
      · subst e8
        exact fin _ (m_isHeard_b w R hA) (by simp)
      · by_cases q : i < an A 1
        · exact fin _ (m_isHeard_t w R hA q) (by simp [e8, q])
        · exact fin false (m_isHeard_f w R hA (by omega) (by omega)) (by simp [e8, q])
    · unfold m_heardSet_4
      simp (disch := omega) only [kc_im8, kc_im1, kc_i0, kc_i1, kc_i2, kc_i3, kc_i4, kc_i5, kc_b_m100, kc_b_m16, kc_b_m15, kc_b_m14, kc_b_m13, kc_b_m12, kc_b_m11, kc_b_m2, kc_b_6, kc_b_7, kc_b_8, kc_b_9, kc_b_10, kc_b_11, kc_b_12, kc_b_13, kc_b_14, kc_b_15, kc_b_16, kc_b_20, kc_b_24, kc_b_32, kc_b_37, kc_b_40, kc_b_42, kc_b_43, kc_b_45, kc_b_47, kc_b_48, kc_b_57, kc_b_58, kc_b_59, kc_b_60, kc_b_61, kc_b_62, kc_b_63, kc_b_91, kc_b_93, kc_b_97, kc_b_99, kc_b_100, kc_b_106, kc_b_122, kc_s_206, kc_s_226, kc_s_227, kc_s_255, kc_s_256, kc_s_316, kc_s_318, kc_s_400, kc_s_512, kc_s_999, kc_s_1160, kc_s_1536, kc_s_3003, kc_lm11, kc_lm10, kc_lm9, kc_lm8, kc_lm7, kc_lm6, kc_lm5, kc_lm4, kc_lm3, kc_lm2, kc_lm1, kc_l1, kc_l2, kc_l3, kc_l4, kc_l5, kc_l6, kc_l7, kc_l8, kc_l9, kc_l10, kc_l11, kc_l12, kc_l13, kc_l14, kc_l37, kc_l42, kc_l43, kc_l45, kc_l47, kc_l60, kc_l61, kc_l62, kc_l316, kc_l318, kc_l65536, kc_l99999, kc_l1000000, kc_l252645135, kc_l858993459, kc_l1431655765, kc_0, kc_on, nx_lt, nx_le, nx_eq, nx_add, nx_sub, nx_mul, nx_cl, n_lt_ng, n_le_ng, n_eq_ng, ng_lt_n, ng_le_n, ng_eq_n, ng_eq, ng_lt, ng_le, nx_dec]
      rw [if_pos (by omega)]
  unfold m_heardSet
  simp only [kc_im8, kc_im1, kc_i0, kc_i1, kc_i2, kc_i3, kc_i4, kc_i5, kc_b_m100, kc_b_m16, kc_b_m15, kc_b_m14, kc_b_m13, kc_b_m12, kc_b_m11, kc_b_m2, kc_b_6, kc_b_7, kc_b_8, kc_b_9, kc_b_10, kc_b_11, kc_b_12, kc_b_13, kc_b_14, kc_b_15, kc_b_16, kc_b_20, kc_b_24, kc_b_32, kc_b_37, kc_b_40, kc_b_42, kc_b_43, kc_b_45, kc_b_47, kc_b_48, kc_b_57, kc_b_58, kc_b_59, kc_b_60, kc_b_61, kc_b_62, kc_b_63, kc_b_91, kc_b_93, kc_b_97, kc_b_99, kc_b_100, kc_b_106, kc_b_122, kc_s_206, kc_s_226, kc_s_227, kc_s_255, kc_s_256, kc_s_316, kc_s_318, kc_s_400, kc_s_512, kc_s_999, kc_s_1160, kc_s_1536, kc_s_3003, kc_lm11, kc_lm10, kc_lm9, kc_lm8, kc_lm7, kc_lm6, kc_lm5, kc_lm4, kc_lm3, kc_lm2, kc_lm1, kc_l1, kc_l2, kc_l3, kc_l4, kc_l5, kc_l6, kc_l7, kc_l8, kc_l9, kc_l10, kc_l11, kc_l12, kc_l13, kc_l14, kc_l37, kc_l42, kc_l43, kc_l45, kc_l47, kc_l60, kc_l61, kc_l62, kc_l316, kc_l318, kc_l65536, kc_l99999, kc_l1000000, kc_l252645135, kc_l858993459, kc_l1431655765, kc_0, kc_on, key, Option.bind_some]
theorem m_aliveSet_n (w : WFA A) (R : RF h) (hA : h.2.1 203 = A) : m_aliveSet 193 h = some (nI (alvN A)) := by
  have h1 := w.e1
  have key : wh (fun q : (Int32 × Int32) => m_aliveSet_4 193 q.1 q.2 h) (nI 0, nI 0) = some (nI (alvN A)) := by
    refine wh_for (fun i => (nI (bs (fun m => !isDd A m) i), nI i)) (an A 1) 0 (by omega) (fun i _ hi => ?_) ?_
    · unfold m_aliveSet_4 m_aliveSet_30
      simp (disch := omega) only [kc_im8, kc_im1, kc_i0, kc_i1, kc_i2, kc_i3, kc_i4, kc_i5, kc_b_m100, kc_b_m16, kc_b_m15, kc_b_m14, kc_b_m13, kc_b_m12, kc_b_m11, kc_b_m2, kc_b_6, kc_b_7, kc_b_8, kc_b_9, kc_b_10, kc_b_11, kc_b_12, kc_b_13, kc_b_14, kc_b_15, kc_b_16, kc_b_20, kc_b_24, kc_b_32, kc_b_37, kc_b_40, kc_b_42, kc_b_43, kc_b_45, kc_b_47, kc_b_48, kc_b_57, kc_b_58, kc_b_59, kc_b_60, kc_b_61, kc_b_62, kc_b_63, kc_b_91, kc_b_93, kc_b_97, kc_b_99, kc_b_100, kc_b_106, kc_b_122, kc_s_206, kc_s_226, kc_s_227, kc_s_255, kc_s_256, kc_s_316, kc_s_318, kc_s_400, kc_s_512, kc_s_999, kc_s_1160, kc_s_1536, kc_s_3003, kc_lm11, kc_lm10, kc_lm9, kc_lm8, kc_lm7, kc_lm6, kc_lm5, kc_lm4, kc_lm3, kc_lm2, kc_lm1, kc_l1, kc_l2, kc_l3, kc_l4, kc_l5, kc_l6, kc_l7, kc_l8, kc_l9, kc_l10, kc_l11, kc_l12, kc_l13, kc_l14, kc_l37, kc_l42, kc_l43, kc_l45, kc_l47, kc_l60, kc_l61, kc_l62, kc_l316, kc_l318, kc_l65536, kc_l99999, kc_l1000000, kc_l252645135, kc_l858993459, kc_l1431655765, kc_0, kc_on, ra_193_20 R, mn_203, gi_n, nx_lt, nx_le, nx_eq, nx_add, nx_sub, nx_mul, nx_cl, n_lt_ng, n_le_ng, n_eq_ng, ng_lt_n, ng_le_n, ng_eq_n, ng_eq, ng_lt, ng_le, nx_dec, hA, h1.1, m_isAlive_t w R hA hi, Option.bind_some, nx_shl1]
      rw [if_pos (by simp), if_neg (by omega), ← or_bs (p := fun m => !isDd A m) (!isDd A i) rfl (by omega)]
      cases isDd A i <;> simp [nx_eq]
    · unfold m_aliveSet_4
      simp (disch := omega) only [kc_im8, kc_im1, kc_i0, kc_i1, kc_i2, kc_i3, kc_i4, kc_i5, kc_b_m100, kc_b_m16, kc_b_m15, kc_b_m14, kc_b_m13, kc_b_m12, kc_b_m11, kc_b_m2, kc_b_6, kc_b_7, kc_b_8, kc_b_9, kc_b_10, kc_b_11, kc_b_12, kc_b_13, kc_b_14, kc_b_15, kc_b_16, kc_b_20, kc_b_24, kc_b_32, kc_b_37, kc_b_40, kc_b_42, kc_b_43, kc_b_45, kc_b_47, kc_b_48, kc_b_57, kc_b_58, kc_b_59, kc_b_60, kc_b_61, kc_b_62, kc_b_63, kc_b_91, kc_b_93, kc_b_97, kc_b_99, kc_b_100, kc_b_106, kc_b_122, kc_s_206, kc_s_226, kc_s_227, kc_s_255, kc_s_256, kc_s_316, kc_s_318, kc_s_400, kc_s_512, kc_s_999, kc_s_1160, kc_s_1536, kc_s_3003, kc_lm11, kc_lm10, kc_lm9, kc_lm8, kc_lm7, kc_lm6, kc_lm5, kc_lm4, kc_lm3, kc_lm2, kc_lm1, kc_l1, kc_l2, kc_l3, kc_l4, kc_l5, kc_l6, kc_l7, kc_l8, kc_l9, kc_l10, kc_l11, kc_l12, kc_l13, kc_l14, kc_l37, kc_l42, kc_l43, kc_l45, kc_l47, kc_l60, kc_l61, kc_l62, kc_l316, kc_l318, kc_l65536, kc_l99999, kc_l1000000, kc_l252645135, kc_l858993459, kc_l1431655765, kc_0, kc_on, ra_193_20 R, mn_203, gi_n, nx_lt, nx_le, nx_eq, nx_add, nx_sub, nx_mul, nx_cl, n_lt_ng, n_le_ng, n_eq_ng, ng_lt_n, ng_le_n, ng_eq_n, ng_eq, ng_lt, ng_le, nx_dec, hA, h1.1, Option.bind_some]
      rw [if_pos (by simp), if_pos (by omega)]
      rfl
  unfold m_aliveSet
  simp only [kc_im8, kc_im1, kc_i0, kc_i1, kc_i2, kc_i3, kc_i4, kc_i5, kc_b_m100, kc_b_m16, kc_b_m15, kc_b_m14, kc_b_m13, kc_b_m12, kc_b_m11, kc_b_m2, kc_b_6, kc_b_7, kc_b_8, kc_b_9, kc_b_10, kc_b_11, kc_b_12, kc_b_13, kc_b_14, kc_b_15, kc_b_16, kc_b_20, kc_b_24, kc_b_32, kc_b_37, kc_b_40, kc_b_42, kc_b_43, kc_b_45, kc_b_47, kc_b_48, kc_b_57, kc_b_58, kc_b_59, kc_b_60, kc_b_61, kc_b_62, kc_b_63, kc_b_91, kc_b_93, kc_b_97, kc_b_99, kc_b_100, kc_b_106, kc_b_122, kc_s_206, kc_s_226, kc_s_227, kc_s_255, kc_s_256, kc_s_316, kc_s_318, kc_s_400, kc_s_512, kc_s_999, kc_s_1160, kc_s_1536, kc_s_3003, kc_lm11, kc_lm10, kc_lm9, kc_lm8, kc_lm7, kc_lm6, kc_lm5, kc_lm4, kc_lm3, kc_lm2, kc_lm1, kc_l1, kc_l2, kc_l3, kc_l4, kc_l5, kc_l6, kc_l7, kc_l8, kc_l9, kc_l10, kc_l11, kc_l12, kc_l13, kc_l14, kc_l37, kc_l42, kc_l43, kc_l45, kc_l47, kc_l60, kc_l61, kc_l62, kc_l316, kc_l318, kc_l65536, kc_l99999, kc_l1000000, kc_l252645135, kc_l858993459, kc_l1431655765, kc_0, kc_on, key, Option.bind_some]
end HD
