/-! Rows of digits: split of the program; ten, isRowOf, digit of the reference. -/
/-- the digit k of a row of n -/
def dg (N n k : Nat) : Nat := N / 10 ^ (n - 1 - k) % 10
theorem dg_lt (N n k : Nat) : dg N n k < 10 := Nat.mod_lt _ (by decide)
/-- two numbers that are a row of n digits -/
def isRD (x y : Int32) (N n : Nat) : Prop := x = nI N ∧ y = nI n ∧ 0 < n ∧ n ≤ 5 ∧ N < 10 ^ n
theorem p10 {n : Nat} (hn : n ≤ 5) : 10 ^ n ≤ 100000 := Nat.pow_le_pow_right (n := 10) (by decide) hn
def wd (n k : Nat) : Int32 := if k = n then ng 1 else nI (n - 1 - k)
theorem wd_next {n k : Nat} (hk : k < n) (hn : n ≤ 5) : nI (n - 1 - k) + ng 1 = wd n (k + 1) := by
  unfold wd
  by_cases q : k + 1 = n
  · rw [if_pos q, show n - 1 - k = 0 from by omega]
    decide
  · rw [if_neg q, nx_dec (by omega) (by omega), show n - 1 - k - 1 = n - 1 - (k + 1) from by omega]
section DI
variable {h : pm_H}
theorem x_splitw (R : RF h) {N n : Nat} (hN : N < 2147483648) (hn : n ≤ 5) (h0 : 0 < n) : SP (wh (fun s : (Int32 × Int32 × pm_H) => x_split_23 0 s.1 s.2.1 s.2.2) (nI N, nI n - nI 1, h)) (fun z => z.1 = nI (N / 10 ^ n) ∧ Fr (· = 89) h z.2 ∧ ∀ i, i < n → z.2.2.1 89 i = nI (dg N n i)) := by
  refine wh_cnt (fun k z => z.1 = nI (N / 10 ^ k) ∧ z.2.1 = wd n k ∧ Fr (· = 89) h z.2.2 ∧ ∀ i, n - k ≤ i → i < n → z.2.2.2.1 89 i = nI (dg N n i)) _ n ?_ ?_ 0 (nI N, nI n - nI 1, h) (by omega) ⟨by rw [Nat.pow_zero, Nat.div_one], ?_, Fr.refl _ _, fun i q1 q2 => by omega⟩
  · rintro k ⟨y, l, h1⟩ hk ⟨hy, hl, f1, c1⟩
    dsimp only at hy hl f1 c1
    have R1 := R.fr f1
    have hw : wd n k = nI (n - 1 - k) := if_neg (by omega)
    rw [hw] at hl
    subst hy hl
    have ha : N / 10 ^ k < 2147483648 := Nat.lt_of_le_of_lt (Nat.div_le_self _ _) hN
    unfold x_split_23
    simp only [kc_im8, kc_im1, kc_i0, kc_i1, kc_i2, kc_i3, kc_i4, kc_i5, kc_b_m100, kc_b_m16, kc_b_m15, kc_b_m14, kc_b_m13, kc_b_m12, kc_b_m11, kc_b_m2, kc_b_6, kc_b_7, kc_b_8, kc_b_9, kc_b_10, kc_b_11, kc_b_12, kc_b_13, kc_b_14, kc_b_15, kc_b_16, kc_b_20, kc_b_24, kc_b_32, kc_b_37, kc_b_40, kc_b_42, kc_b_43, kc_b_45, kc_b_47, kc_b_48, kc_b_57, kc_b_58, kc_b_59, kc_b_60, kc_b_61, kc_b_62, kc_b_63, kc_b_91, kc_b_93, kc_b_97, kc_b_99, kc_b_100, kc_b_106, kc_b_122, kc_s_206, kc_s_226, kc_s_227, kc_s_255, kc_s_256, kc_s_316, kc_s_318, kc_s_400, kc_s_512, kc_s_999, kc_s_1160, kc_s_1536, kc_s_3003, kc_lm11, kc_lm10, kc_lm9, kc_lm8, kc_lm7, kc_lm6, kc_lm5, kc_lm4, kc_lm3, kc_lm2, kc_lm1, kc_l1, kc_l2, kc_l3, kc_l4, kc_l5, kc_l6, kc_l7, kc_l8, kc_l9, kc_l10, kc_l11, kc_l12, kc_l13, kc_l14, kc_l37, kc_l42, kc_l43, kc_l45, kc_l47, kc_l60, kc_l61, kc_l62, kc_l316, kc_l318, kc_l65536, kc_l99999, kc_l1000000, kc_l252645135, kc_l858993459, kc_l1431655765, kc_0, kc_on]
    refine sp_neg (by rw [nx_lt (by omega) (by omega)]; omega) ?_
    rw [ra_0_8 R1, Option.bind_some, mn_89, gi_n (by omega), nx_cl (by omega)]
    refine sp_pos (by simp; omega) ?_
    rw [sp_bd, sp_some, nx_rem ha (by omega) (by omega), nx_div ha (by omega) (by omega), wd_next hk hn, Nat.div_div_eq_div_mul, ← Nat.pow_succ]
    refine ⟨rfl, rfl, f1.setI rfl, fun i q1 q2 => ?_⟩
    show (pm_setI h1 89 (n - 1 - k) _).2.1 89 i = _
    by_cases q : i = n - 1 - k
    · subst q
      rw [ri_s]
      unfold dg
      rw [show n - 1 - (n - 1 - k) = k from by omega]
    · rw [ri_j _ q]
      exact c1 i (by omega) q2
  · rintro ⟨y, l, h1⟩ ⟨hy, hl, f1, c1⟩
    dsimp only at hy hl f1 c1
    rw [show wd n n = ng 1 from if_pos rfl] at hl
    subst hy hl
    unfold x_split_23
    simp only [kc_im8, kc_im1, kc_i0, kc_i1, kc_i2, kc_i3, kc_i4, kc_i5, kc_b_m100, kc_b_m16, kc_b_m15, kc_b_m14, kc_b_m13, kc_b_m12, kc_b_m11, kc_b_m2, kc_b_6, kc_b_7, kc_b_8, kc_b_9, kc_b_10, kc_b_11, kc_b_12, kc_b_13, kc_b_14, kc_b_15, kc_b_16, kc_b_20, kc_b_24, kc_b_32, kc_b_37, kc_b_40, kc_b_42, kc_b_43, kc_b_45, kc_b_47, kc_b_48, kc_b_57, kc_b_58, kc_b_59, kc_b_60, kc_b_61, kc_b_62, kc_b_63, kc_b_91, kc_b_93, kc_b_97, kc_b_99, kc_b_100, kc_b_106, kc_b_122, kc_s_206, kc_s_226, kc_s_227, kc_s_255, kc_s_256, kc_s_316, kc_s_318, kc_s_400, kc_s_512, kc_s_999, kc_s_1160, kc_s_1536, kc_s_3003, kc_lm11, kc_lm10, kc_lm9, kc_lm8, kc_lm7, kc_lm6, kc_lm5, kc_lm4, kc_lm3, kc_lm2, kc_lm1, kc_l1, kc_l2, kc_l3, kc_l4, kc_l5, kc_l6, kc_l7, kc_l8, kc_l9, kc_l10, kc_l11, kc_l12, kc_l13, kc_l14, kc_l37, kc_l42, kc_l43, kc_l45, kc_l47, kc_l60, kc_l61, kc_l62, kc_l316, kc_l318, kc_l65536, kc_l99999, kc_l1000000, kc_l252645135, kc_l858993459, kc_l1431655765, kc_0, kc_on]
    exact sp_pos (by decide) (sp_some.mpr ⟨rfl, f1, fun i q => c1 i (by omega) q⟩)
  · show nI n - nI 1 = wd n 0
    unfold wd
    rw [if_neg (by omega), nx_sub (by omega), show n - 1 - 0 = n - 1 from rfl]
theorem x_split_ok (R : RF h) {N n : Nat} (h0 : 0 < n) (hn : n ≤ 5) (hN : N < 10 ^ n) : SP (x_split 0 (nI N) (nI n) h) (fun z => z.1 = nI 1 ∧ Fr (· = 89) h z.2 ∧ ∀ i, i < n → z.2.2.1 89 i = nI (dg N n i)) := by
  have p := p10 hn
  unfold x_split
  simp only [kc_im8, kc_im1, kc_i0, kc_i1, kc_i2, kc_i3, kc_i4, kc_i5, kc_b_m100, kc_b_m16, kc_b_m15, kc_b_m14, kc_b_m13, kc_b_m12, kc_b_m11, kc_b_m2, kc_b_6, kc_b_7, kc_b_8, kc_b_9, kc_b_10, kc_b_11, kc_b_12, kc_b_13, kc_b_14, kc_b_15, kc_b_16, kc_b_20, kc_b_24, kc_b_32, kc_b_37, kc_b_40, kc_b_42, kc_b_43, kc_b_45, kc_b_47, kc_b_48, kc_b_57, kc_b_58, kc_b_59, kc_b_60, kc_b_61, kc_b_62, kc_b_63, kc_b_91, kc_b_93, kc_b_97, kc_b_99, kc_b_100, kc_b_106, kc_b_122, kc_s_206, kc_s_226, kc_s_227, kc_s_255, kc_s_256, kc_s_316, kc_s_318, kc_s_400, kc_s_512, kc_s_999, kc_s_1160, kc_s_1536, kc_s_3003, kc_lm11, kc_lm10, kc_lm9, kc_lm8, kc_lm7, kc_lm6, kc_lm5, kc_lm4, kc_lm3, kc_lm2, kc_lm1, kc_l1, kc_l2, kc_l3, kc_l4, kc_l5, kc_l6, kc_l7, kc_l8, kc_l9, kc_l10, kc_l11, kc_l12, kc_l13, kc_l14, kc_l37, kc_l42, kc_l43, kc_l45, kc_l47, kc_l60, kc_l61, kc_l62, kc_l316, kc_l318, kc_l65536, kc_l99999, kc_l1000000, kc_l252645135, kc_l858993459, kc_l1431655765, kc_0, kc_on]
  refine sp_neg (by rw [nx_lt (by omega) (by omega)]; omega) (sp_neg (by rw [nx_lt (by omega) (by omega)]; omega) (sp_pos (by rw [nx_le (by omega) (by omega)]; omega) ?_))
  refine sp_call (x_splitw R (by omega) hn h0) ?_
  rintro ⟨y, h1⟩ ⟨hy, f1, c1⟩
  dsimp only at hy f1 c1
  rw [Nat.div_eq_of_lt hN] at hy
  subst hy
  exact sp_neg (fun q => q rfl) (sp_some.mpr ⟨rfl, f1, c1⟩)
theorem x_split_no (R : RF h) {x y : Int32} (no : ¬ ∃ N n, isRD x y N n) : SP (x_split 0 x y h) (fun z => z.1 = nI 0 ∧ Fr (· = 89) h z.2) := by
  unfold x_split
  simp only [kc_im8, kc_im1, kc_i0, kc_i1, kc_i2, kc_i3, kc_i4, kc_i5, kc_b_m100, kc_b_m16, kc_b_m15, kc_b_m14, kc_b_m13, kc_b_m12, kc_b_m11, kc_b_m2, kc_b_6, kc_b_7, kc_b_8, kc_b_9, kc_b_10, kc_b_11, kc_b_12, kc_b_13, kc_b_14, kc_b_15, kc_b_16, kc_b_20, kc_b_24, kc_b_32, kc_b_37, kc_b_40, kc_b_42, kc_b_43, kc_b_45, kc_b_47, kc_b_48, kc_b_57, kc_b_58, kc_b_59, kc_b_60, kc_b_61, kc_b_62, kc_b_63, kc_b_91, kc_b_93, kc_b_97, kc_b_99, kc_b_100, kc_b_106, kc_b_122, kc_s_206, kc_s_226, kc_s_227, kc_s_255, kc_s_256, kc_s_316, kc_s_318, kc_s_400, kc_s_512, kc_s_999, kc_s_1160, kc_s_1536, kc_s_3003, kc_lm11, kc_lm10, kc_lm9, kc_lm8, kc_lm7, kc_lm6, kc_lm5, kc_lm4, kc_lm3, kc_lm2, kc_lm1, kc_l1, kc_l2, kc_l3, kc_l4, kc_l5, kc_l6, kc_l7, kc_l8, kc_l9, kc_l10, kc_l11, kc_l12, kc_l13, kc_l14, kc_l37, kc_l42, kc_l43, kc_l45, kc_l47, kc_l60, kc_l61, kc_l62, kc_l316, kc_l318, kc_l65536, kc_l99999, kc_l1000000, kc_l252645135, kc_l858993459, kc_l1431655765, kc_0, kc_on]
  by_cases hx : x < nI 0
  · exact sp_pos hx (sp_some.mpr ⟨rfl, Fr.refl _ _⟩)
  refine sp_neg hx ?_
  by_cases hy : y < nI 1
  · exact sp_pos hy (sp_some.mpr ⟨rfl, Fr.refl _ _⟩)
  refine sp_neg hy ?_
  by_cases hz : y ≤ nI 5
  · refine sp_pos hz ?_
    rcases nx_or x with ⟨N, hN, rfl⟩ | ⟨N, h0, hN, rfl⟩
    · rcases nx_or y with ⟨n, hn, rfl⟩ | ⟨n, h0, hn, rfl⟩
      · rw [nx_lt (by omega) (by omega)] at hy
        rw [nx_le (by omega) (by omega)] at hz
        refine sp_call (x_splitw R hN hz (by omega)) ?_
        rintro ⟨y, h1⟩ ⟨hy2, f1, c1⟩
        dsimp only at hy2 f1 c1
        subst hy2
        have p0 : 0 < 10 ^ n := Nat.pow_pos (by decide)
        have q0 : N / 10 ^ n ≠ 0 := by
          intro q
          exact no ⟨N, n, rfl, rfl, by omega, hz, ((Nat.div_eq_zero_iff.mp q).resolve_left (by omega))⟩
        have q1 : N / 10 ^ n ≤ N := Nat.div_le_self _ _
        exact sp_pos (by rw [nx_eq (by omega) (by omega)]; exact q0) (sp_some.mpr ⟨rfl, f1⟩)
      · exfalso
        apply hy
        by_cases e : n = 2147483648
        · subst e; decide
        · rw [ng_lt_n h0 (by omega) (by omega)]; trivial
    · exfalso
      apply hx
      by_cases e : N = 2147483648
      · subst e; decide
      · rw [ng_lt_n h0 (by omega) (by omega)]; trivial
  · exact sp_neg hz (sp_some.mpr ⟨rfl, Fr.refl _ _⟩)
theorem m_ten_n (h : pm_H) {n : Nat} (hn : n ≤ 5) : m_ten (nI n) h = some (nI (10 ^ n)) := by
  unfold m_ten
  simp only [kc_im8, kc_im1, kc_i0, kc_i1, kc_i2, kc_i3, kc_i4, kc_i5, kc_b_m100, kc_b_m16, kc_b_m15, kc_b_m14, kc_b_m13, kc_b_m12, kc_b_m11, kc_b_m2, kc_b_6, kc_b_7, kc_b_8, kc_b_9, kc_b_10, kc_b_11, kc_b_12, kc_b_13, kc_b_14, kc_b_15, kc_b_16, kc_b_20, kc_b_24, kc_b_32, kc_b_37, kc_b_40, kc_b_42, kc_b_43, kc_b_45, kc_b_47, kc_b_48, kc_b_57, kc_b_58, kc_b_59, kc_b_60, kc_b_61, kc_b_62, kc_b_63, kc_b_91, kc_b_93, kc_b_97, kc_b_99, kc_b_100, kc_b_106, kc_b_122, kc_s_206, kc_s_226, kc_s_227, kc_s_255, kc_s_256, kc_s_316, kc_s_318, kc_s_400, kc_s_512, kc_s_999, kc_s_1160, kc_s_1536, kc_s_3003, kc_lm11, kc_lm10, kc_lm9, kc_lm8, kc_lm7, kc_lm6, kc_lm5, kc_lm4, kc_lm3, kc_lm2, kc_lm1, kc_l1, kc_l2, kc_l3, kc_l4, kc_l5, kc_l6, kc_l7, kc_l8, kc_l9, kc_l10, kc_l11, kc_l12, kc_l13, kc_l14, kc_l37, kc_l42, kc_l43, kc_l45, kc_l47, kc_l60, kc_l61, kc_l62, kc_l316, kc_l318, kc_l65536, kc_l99999, kc_l1000000, kc_l252645135, kc_l858993459, kc_l1431655765, kc_0, kc_on]
  have key : wh (fun s : (Int32 × Int32) => m_ten_4 (nI n) s.1 s.2 h) (nI 1, nI 0) = some (nI (10 ^ n)) := by
    refine wh_for (fun i => (nI (10 ^ i), nI i)) n 0 (by omega) (fun i _ hi => ?_) ?_
    · unfold m_ten_4
      simp only [kc_im8, kc_im1, kc_i0, kc_i1, kc_i2, kc_i3, kc_i4, kc_i5, kc_b_m100, kc_b_m16, kc_b_m15, kc_b_m14, kc_b_m13, kc_b_m12, kc_b_m11, kc_b_m2, kc_b_6, kc_b_7, kc_b_8, kc_b_9, kc_b_10, kc_b_11, kc_b_12, kc_b_13, kc_b_14, kc_b_15, kc_b_16, kc_b_20, kc_b_24, kc_b_32, kc_b_37, kc_b_40, kc_b_42, kc_b_43, kc_b_45, kc_b_47, kc_b_48, kc_b_57, kc_b_58, kc_b_59, kc_b_60, kc_b_61, kc_b_62, kc_b_63, kc_b_91, kc_b_93, kc_b_97, kc_b_99, kc_b_100, kc_b_106, kc_b_122, kc_s_206, kc_s_226, kc_s_227, kc_s_255, kc_s_256, kc_s_316, kc_s_318, kc_s_400, kc_s_512, kc_s_999, kc_s_1160, kc_s_1536, kc_s_3003, kc_lm11, kc_lm10, kc_lm9, kc_lm8, kc_lm7, kc_lm6, kc_lm5, kc_lm4, kc_lm3, kc_lm2, kc_lm1, kc_l1, kc_l2, kc_l3, kc_l4, kc_l5, kc_l6, kc_l7, kc_l8, kc_l9, kc_l10, kc_l11, kc_l12, kc_l13, kc_l14, kc_l37, kc_l42, kc_l43, kc_l45, kc_l47, kc_l60, kc_l61, kc_l62, kc_l316, kc_l318, kc_l65536, kc_l99999, kc_l1000000, kc_l252645135, kc_l858993459, kc_l1431655765, kc_0, kc_on]
      rw [if_neg (by rw [nx_le (by omega) (by omega)]; omega), nx_mul, nx_add, Nat.pow_succ]
    · unfold m_ten_4
      rw [if_pos (by rw [nx_le (by omega) (by omega)]; omega)]
  rw [key, Option.bind_some]
theorem in15 (h : pm_H) {n : Nat} (h0 : 0 < n) (hn : n ≤ 5) : m_in (nI n).toInt64 (Int64.ofNat 1) (5 : Int64) h = some (nI 1) := by
  have : n = 1 ∨ n = 2 ∨ n = 3 ∨ n = 4 ∨ n = 5 := by omega
  rcases this with rfl | rfl | rfl | rfl | rfl <;> rfl
theorem m_isRowOf_t (h : pm_H) {N n : Nat} (h0 : 0 < n) (hn : n ≤ 5) (hN : N < 10 ^ n) : m_isRowOf (nI N) (nI n) h = some (nI 1) := by
  have p := p10 hn
  unfold m_isRowOf
  rw [in15 h h0 hn, Option.bind_some]
  simp only [kc_im8, kc_im1, kc_i0, kc_i1, kc_i2, kc_i3, kc_i4, kc_i5, kc_b_m100, kc_b_m16, kc_b_m15, kc_b_m14, kc_b_m13, kc_b_m12, kc_b_m11, kc_b_m2, kc_b_6, kc_b_7, kc_b_8, kc_b_9, kc_b_10, kc_b_11, kc_b_12, kc_b_13, kc_b_14, kc_b_15, kc_b_16, kc_b_20, kc_b_24, kc_b_32, kc_b_37, kc_b_40, kc_b_42, kc_b_43, kc_b_45, kc_b_47, kc_b_48, kc_b_57, kc_b_58, kc_b_59, kc_b_60, kc_b_61, kc_b_62, kc_b_63, kc_b_91, kc_b_93, kc_b_97, kc_b_99, kc_b_100, kc_b_106, kc_b_122, kc_s_206, kc_s_226, kc_s_227, kc_s_255, kc_s_256, kc_s_316, kc_s_318, kc_s_400, kc_s_512, kc_s_999, kc_s_1160, kc_s_1536, kc_s_3003, kc_lm11, kc_lm10, kc_lm9, kc_lm8, kc_lm7, kc_lm6, kc_lm5, kc_lm4, kc_lm3, kc_lm2, kc_lm1, kc_l1, kc_l2, kc_l3, kc_l4, kc_l5, kc_l6, kc_l7, kc_l8, kc_l9, kc_l10, kc_l11, kc_l12, kc_l13, kc_l14, kc_l37, kc_l42, kc_l43, kc_l45, kc_l47, kc_l60, kc_l61, kc_l62, kc_l316, kc_l318, kc_l65536, kc_l99999, kc_l1000000, kc_l252645135, kc_l858993459, kc_l1431655765, kc_0, kc_on]
  rw [if_neg (by decide), if_neg (by rw [nx_lt (by omega) (by omega)]; omega), m_ten_n h hn, Option.bind_some, if_neg (by rw [nx_le (by omega) (by omega)]; omega)]
theorem m_digit_n (h : pm_H) {N n k : Nat} (hn : n ≤ 5) (hN : N < 10 ^ n) (hk : k < n) : m_digit (nI N) (nI n) (nI k) h = some (nI (dg N n k)) := by
  have p := p10 hn
  have p1 : 10 ^ (n - 1 - k) ≤ 100000 := p10 (by omega)
  have p0 : 0 < 10 ^ (n - 1 - k) := Nat.pow_pos (by decide)
  have q1 : N / 10 ^ (n - 1 - k) ≤ N := Nat.div_le_self _ _
  unfold m_digit
  simp only [kc_im8, kc_im1, kc_i0, kc_i1, kc_i2, kc_i3, kc_i4, kc_i5, kc_b_m100, kc_b_m16, kc_b_m15, kc_b_m14, kc_b_m13, kc_b_m12, kc_b_m11, kc_b_m2, kc_b_6, kc_b_7, kc_b_8, kc_b_9, kc_b_10, kc_b_11, kc_b_12, kc_b_13, kc_b_14, kc_b_15, kc_b_16, kc_b_20, kc_b_24, kc_b_32, kc_b_37, kc_b_40, kc_b_42, kc_b_43, kc_b_45, kc_b_47, kc_b_48, kc_b_57, kc_b_58, kc_b_59, kc_b_60, kc_b_61, kc_b_62, kc_b_63, kc_b_91, kc_b_93, kc_b_97, kc_b_99, kc_b_100, kc_b_106, kc_b_122, kc_s_206, kc_s_226, kc_s_227, kc_s_255, kc_s_256, kc_s_316, kc_s_318, kc_s_400, kc_s_512, kc_s_999, kc_s_1160, kc_s_1536, kc_s_3003, kc_lm11, kc_lm10, kc_lm9, kc_lm8, kc_lm7, kc_lm6, kc_lm5, kc_lm4, kc_lm3, kc_lm2, kc_lm1, kc_l1, kc_l2, kc_l3, kc_l4, kc_l5, kc_l6, kc_l7, kc_l8, kc_l9, kc_l10, kc_l11, kc_l12, kc_l13, kc_l14, kc_l37, kc_l42, kc_l43, kc_l45, kc_l47, kc_l60, kc_l61, kc_l62, kc_l316, kc_l318, kc_l65536, kc_l99999, kc_l1000000, kc_l252645135, kc_l858993459, kc_l1431655765, kc_0, kc_on]
  rw [nx_sub (by omega), nx_sub (by omega), m_ten_n h (by omega), Option.bind_some, nx_div (by omega) p0 (by omega), nx_rem (by omega) (by omega) (by omega)]
  have nz : mi_nz (nI (10 ^ (n - 1 - k))) = true := by
    unfold mi_nz
    refine dec_t (fun q => ?_)
    have q2 : nI (10 ^ (n - 1 - k)) = nI 0 := q
    rw [nx_eq (by omega) (by omega)] at q2
    omega
  rw [if_pos nz]
  rfl
end DI
theorem m_isRowOf_f (h : pm_H) {x y : Int32} (no : ¬ ∃ N n, isRD x y N n) : m_isRowOf x y h = some (nI 0) := by
  unfold m_isRowOf
  rw [m_in_n h y (lo := Int64.ofNat 1) (hi := 5) (a := 1) (n := 5) rfl rfl, Option.bind_some]
  simp only [kc_im8, kc_im1, kc_i0, kc_i1, kc_i2, kc_i3, kc_i4, kc_i5, kc_b_m100, kc_b_m16, kc_b_m15, kc_b_m14, kc_b_m13, kc_b_m12, kc_b_m11, kc_b_m2, kc_b_6, kc_b_7, kc_b_8, kc_b_9, kc_b_10, kc_b_11, kc_b_12, kc_b_13, kc_b_14, kc_b_15, kc_b_16, kc_b_20, kc_b_24, kc_b_32, kc_b_37, kc_b_40, kc_b_42, kc_b_43, kc_b_45, kc_b_47, kc_b_48, kc_b_57, kc_b_58, kc_b_59, kc_b_60, kc_b_61, kc_b_62, kc_b_63, kc_b_91, kc_b_93, kc_b_97, kc_b_99, kc_b_100, kc_b_106, kc_b_122, kc_s_206, kc_s_226, kc_s_227, kc_s_255, kc_s_256, kc_s_316, kc_s_318, kc_s_400, kc_s_512, kc_s_999, kc_s_1160, kc_s_1536, kc_s_3003, kc_lm11, kc_lm10, kc_lm9, kc_lm8, kc_lm7, kc_lm6, kc_lm5, kc_lm4, kc_lm3, kc_lm2, kc_lm1, kc_l1, kc_l2, kc_l3, kc_l4, kc_l5, kc_l6, kc_l7, kc_l8, kc_l9, kc_l10, kc_l11, kc_l12, kc_l13, kc_l14, kc_l37, kc_l42, kc_l43, kc_l45, kc_l47, kc_l60, kc_l61, kc_l62, kc_l316, kc_l318, kc_l65536, kc_l99999, kc_l1000000, kc_l252645135, kc_l858993459, kc_l1431655765, kc_0, kc_on]
  by_cases hy : ¬ y < nI 1 ∧ ¬ nI 5 < y
  · rw [dec_t hy, if_neg (by decide)]
    by_cases hx : x < nI 0
    · rw [if_pos hx]
    rw [if_neg hx]
    rcases nx_or y with ⟨n, hn, rfl⟩ | ⟨n, h0, hn, rfl⟩
    · have h1 := hy.1
      have h2 := hy.2
      rw [nx_lt (by omega) (by omega)] at h1 h2
      rw [m_ten_n h (by omega), Option.bind_some, if_pos]
      rcases nx_or x with ⟨N, hN, rfl⟩ | ⟨N, h0, hN, rfl⟩
      · have p := p10 (n := n) (by omega)
        rw [nx_le (by omega) (by omega)]
        exact Classical.byContradiction (fun q => no ⟨N, n, rfl, rfl, by omega, by omega, by omega⟩)
      · exfalso
        apply hx
        by_cases e : N = 2147483648
        · subst e; decide
        · rw [ng_lt_n h0 (by omega) (by omega)]; trivial
    · exfalso
      apply hy.1
      by_cases e : n = 2147483648
      · subst e; decide
      · rw [ng_lt_n h0 (by omega) (by omega)]; trivial
  · rw [dec_f hy, if_pos (show nI false.toNat = nI 0 from rfl)]
