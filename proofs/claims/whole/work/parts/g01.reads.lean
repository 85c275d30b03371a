/-! Reads: means, order, man. -/
section RD
variable {h : pm_H} {s : Nat} {A : Nat → Int32}
theorem x_means_t (Q : QI h s A) {a b : Nat} (ha : a < an A 0) (hb : b < an A 0) : x_means 0 (nI a) (nI b) h = some (pr A a b) := by
  have Q' := Q
  obtain ⟨R, h1, S, H, D, w, K⟩ := Q
  have e0 := w.e0
  unfold x_means
  simp only [kc_im8, kc_im1, kc_i0, kc_i1, kc_i2, kc_i3, kc_i4, kc_i5, kc_b_m100, kc_b_m16, kc_b_m15, kc_b_m14, kc_b_m13, kc_b_m12, kc_b_m11, kc_b_m2, kc_b_6, kc_b_7, kc_b_8, kc_b_9, kc_b_10, kc_b_11, kc_b_12, kc_b_13, kc_b_14, kc_b_15, kc_b_16, kc_b_20, kc_b_24, kc_b_32, kc_b_37, kc_b_40, kc_b_42, kc_b_43, kc_b_45, kc_b_47, kc_b_48, kc_b_57, kc_b_58, kc_b_59, kc_b_60, kc_b_61, kc_b_62, kc_b_63, kc_b_91, kc_b_93, kc_b_97, kc_b_99, kc_b_100, kc_b_106, kc_b_122, kc_s_206, kc_s_226, kc_s_227, kc_s_255, kc_s_256, kc_s_316, kc_s_318, kc_s_400, kc_s_512, kc_s_999, kc_s_1160, kc_s_1536, kc_s_3003, kc_lm11, kc_lm10, kc_lm9, kc_lm8, kc_lm7, kc_lm6, kc_lm5, kc_lm4, kc_lm3, kc_lm2, kc_lm1, kc_l1, kc_l2, kc_l3, kc_l4, kc_l5, kc_l6, kc_l7, kc_l8, kc_l9, kc_l10, kc_l11, kc_l12, kc_l13, kc_l14, kc_l37, kc_l42, kc_l43, kc_l45, kc_l47, kc_l60, kc_l61, kc_l62, kc_l316, kc_l318, kc_l65536, kc_l99999, kc_l1000000, kc_l252645135, kc_l858993459, kc_l1431655765, kc_0, kc_on]
  rw [ra_0_4 R, Option.bind_some, Q'.now, Option.bind_some, c_hasWord_t S w ha, Option.bind_some, if_neg n10, Option.bind_some, Q'.now, Option.bind_some, c_hasWord_t S w hb, Option.bind_some, if_pos n10, Option.bind_some, Q'.now, Option.bind_some, c_pair S w R (by omega) (by omega) (by omega), Option.bind_some]
theorem x_means_f (Q : QI h s A) {x y : Int32} (no : ¬ ∃ a b, x = nI a ∧ y = nI b ∧ a < an A 0 ∧ b < an A 0) : x_means 0 x y h = some (ng 1) := by
  have Q' := Q
  obtain ⟨R, h1, S, H, D, w, K⟩ := Q
  unfold x_means
  simp only [kc_im8, kc_im1, kc_i0, kc_i1, kc_i2, kc_i3, kc_i4, kc_i5, kc_b_m100, kc_b_m16, kc_b_m15, kc_b_m14, kc_b_m13, kc_b_m12, kc_b_m11, kc_b_m2, kc_b_6, kc_b_7, kc_b_8, kc_b_9, kc_b_10, kc_b_11, kc_b_12, kc_b_13, kc_b_14, kc_b_15, kc_b_16, kc_b_20, kc_b_24, kc_b_32, kc_b_37, kc_b_40, kc_b_42, kc_b_43, kc_b_45, kc_b_47, kc_b_48, kc_b_57, kc_b_58, kc_b_59, kc_b_60, kc_b_61, kc_b_62, kc_b_63, kc_b_91, kc_b_93, kc_b_97, kc_b_99, kc_b_100, kc_b_106, kc_b_122, kc_s_206, kc_s_226, kc_s_227, kc_s_255, kc_s_256, kc_s_316, kc_s_318, kc_s_400, kc_s_512, kc_s_999, kc_s_1160, kc_s_1536, kc_s_3003, kc_lm11, kc_lm10, kc_lm9, kc_lm8, kc_lm7, kc_lm6, kc_lm5, kc_lm4, kc_lm3, kc_lm2, kc_lm1, kc_l1, kc_l2, kc_l3, kc_l4, kc_l5, kc_l6, kc_l7, kc_l8, kc_l9, kc_l10, kc_l11, kc_l12, kc_l13, kc_l14, kc_l37, kc_l42, kc_l43, kc_l45, kc_l47, kc_l60, kc_l61, kc_l62, kc_l316, kc_l318, kc_l65536, kc_l99999, kc_l1000000, kc_l252645135, kc_l858993459, kc_l1431655765, kc_0, kc_on]
  rw [ra_0_4 R, Option.bind_some, Q'.now, Option.bind_some]
  by_cases q : ∃ k, k < an A 0 ∧ x = nI k
  · obtain ⟨a, ha, rfl⟩ := q
    rw [c_hasWord_t S w ha, Option.bind_some, if_neg n10, Option.bind_some, Q'.now, Option.bind_some, c_hasWord_f S w (fun ⟨b, hb, e⟩ => no ⟨a, b, rfl, e, ha, hb⟩), Option.bind_some, if_neg (show ¬ ¬ nI 0 = nI 0 from fun z => z rfl)]
  · rw [c_hasWord_f S w q, Option.bind_some, if_pos rfl]
theorem m_means_t (M : MI h A) {a b : Nat} (ha : a < an A 0) (hb : b < an A 0) : m_means 193 (nI a) (nI b) h = some (pr A a b) := by
  have M' := M
  obtain ⟨R, hA, w⟩ := M
  have e0 := w.e0
  unfold m_means
  simp only [kc_im8, kc_im1, kc_i0, kc_i1, kc_i2, kc_i3, kc_i4, kc_i5, kc_b_m100, kc_b_m16, kc_b_m15, kc_b_m14, kc_b_m13, kc_b_m12, kc_b_m11, kc_b_m2, kc_b_6, kc_b_7, kc_b_8, kc_b_9, kc_b_10, kc_b_11, kc_b_12, kc_b_13, kc_b_14, kc_b_15, kc_b_16, kc_b_20, kc_b_24, kc_b_32, kc_b_37, kc_b_40, kc_b_42, kc_b_43, kc_b_45, kc_b_47, kc_b_48, kc_b_57, kc_b_58, kc_b_59, kc_b_60, kc_b_61, kc_b_62, kc_b_63, kc_b_91, kc_b_93, kc_b_97, kc_b_99, kc_b_100, kc_b_106, kc_b_122, kc_s_206, kc_s_226, kc_s_227, kc_s_255, kc_s_256, kc_s_316, kc_s_318, kc_s_400, kc_s_512, kc_s_999, kc_s_1160, kc_s_1536, kc_s_3003, kc_lm11, kc_lm10, kc_lm9, kc_lm8, kc_lm7, kc_lm6, kc_lm5, kc_lm4, kc_lm3, kc_lm2, kc_lm1, kc_l1, kc_l2, kc_l3, kc_l4, kc_l5, kc_l6, kc_l7, kc_l8, kc_l9, kc_l10, kc_l11, kc_l12, kc_l13, kc_l14, kc_l37, kc_l42, kc_l43, kc_l45, kc_l47, kc_l60, kc_l61, kc_l62, kc_l316, kc_l318, kc_l65536, kc_l99999, kc_l1000000, kc_l252645135, kc_l858993459, kc_l1431655765, kc_0, kc_on]
  rw [m_isWordOf_t M' ha, Option.bind_some, if_neg n10, m_isWordOf_t M' hb, Option.bind_some, if_pos n10, ra_193_20 R, Option.bind_some, mn_203]
  simp (disch := omega) only [nx_mul, nx_add, gi_n, nx_cl, hA]
  rw [if_pos (by simp; omega)]
  unfold pr
  rcases w.mn (a := a) (b := b) (by omega) (by omega) with ⟨q1, q2⟩ | ⟨c, q1, q3, _, _, q2⟩
  · rw [q2, q1, if_neg (by decide)]
  · rw [q2, q1, if_pos (by rw [nx_le (by omega) (by omega)]; omega)]
theorem m_means_f (M : MI h A) {x y : Int32} (no : ¬ ∃ a b, x = nI a ∧ y = nI b ∧ a < an A 0 ∧ b < an A 0) : m_means 193 x y h = some (ng 1) := by
  unfold m_means
  simp only [kc_im8, kc_im1, kc_i0, kc_i1, kc_i2, kc_i3, kc_i4, kc_i5, kc_b_m100, kc_b_m16, kc_b_m15, kc_b_m14, kc_b_m13, kc_b_m12, kc_b_m11, kc_b_m2, kc_b_6, kc_b_7, kc_b_8, kc_b_9, kc_b_10, kc_b_11, kc_b_12, kc_b_13, kc_b_14, kc_b_15, kc_b_16, kc_b_20, kc_b_24, kc_b_32, kc_b_37, kc_b_40, kc_b_42, kc_b_43, kc_b_45, kc_b_47, kc_b_48, kc_b_57, kc_b_58, kc_b_59, kc_b_60, kc_b_61, kc_b_62, kc_b_63, kc_b_91, kc_b_93, kc_b_97, kc_b_99, kc_b_100, kc_b_106, kc_b_122, kc_s_206, kc_s_226, kc_s_227, kc_s_255, kc_s_256, kc_s_316, kc_s_318, kc_s_400, kc_s_512, kc_s_999, kc_s_1160, kc_s_1536, kc_s_3003, kc_lm11, kc_lm10, kc_lm9, kc_lm8, kc_lm7, kc_lm6, kc_lm5, kc_lm4, kc_lm3, kc_lm2, kc_lm1, kc_l1, kc_l2, kc_l3, kc_l4, kc_l5, kc_l6, kc_l7, kc_l8, kc_l9, kc_l10, kc_l11, kc_l12, kc_l13, kc_l14, kc_l37, kc_l42, kc_l43, kc_l45, kc_l47, kc_l60, kc_l61, kc_l62, kc_l316, kc_l318, kc_l65536, kc_l99999, kc_l1000000, kc_l252645135, kc_l858993459, kc_l1431655765, kc_0, kc_on]
  by_cases q : ∃ k, k < an A 0 ∧ x = nI k
  · obtain ⟨a, ha, rfl⟩ := q
    rw [m_isWordOf_t M ha, Option.bind_some, if_neg n10, m_isWordOf_f M (fun ⟨b, hb, e⟩ => no ⟨a, b, rfl, e, ha, hb⟩), Option.bind_some, if_neg (show ¬ ¬ nI 0 = nI 0 from fun z => z rfl)]
  · rw [m_isWordOf_f M q, Option.bind_some, if_pos rfl]
/-! order -/
def vOrd (A : Nat → Int32) (o k : Nat) : Int32 := if k < 2 then A (58 + 6 * o + k) else if an A (58 + 6 * o + 1) ≤ k - 2 then ng 2 else A (58 + 6 * o + k)
theorem x_order_t (Q : QI h s A) {o k : Nat} (ho : o < an A 2) (hk : k ≤ 5) : x_order 0 (nI o) (nI k) h = some (vOrd A o k) := by
  have Q' := Q
  obtain ⟨R, h1, S, H, D, w, K⟩ := Q
  have e2 := w.e2
  have o1 := w.o1 ho
  have so := S.2.2.2.2.2.2.1 o ho
  unfold x_order vOrd
  simp only [kc_im8, kc_im1, kc_i0, kc_i1, kc_i2, kc_i3, kc_i4, kc_i5, kc_b_m100, kc_b_m16, kc_b_m15, kc_b_m14, kc_b_m13, kc_b_m12, kc_b_m11, kc_b_m2, kc_b_6, kc_b_7, kc_b_8, kc_b_9, kc_b_10, kc_b_11, kc_b_12, kc_b_13, kc_b_14, kc_b_15, kc_b_16, kc_b_20, kc_b_24, kc_b_32, kc_b_37, kc_b_40, kc_b_42, kc_b_43, kc_b_45, kc_b_47, kc_b_48, kc_b_57, kc_b_58, kc_b_59, kc_b_60, kc_b_61, kc_b_62, kc_b_63, kc_b_91, kc_b_93, kc_b_97, kc_b_99, kc_b_100, kc_b_106, kc_b_122, kc_s_206, kc_s_226, kc_s_227, kc_s_255, kc_s_256, kc_s_316, kc_s_318, kc_s_400, kc_s_512, kc_s_999, kc_s_1160, kc_s_1536, kc_s_3003, kc_lm11, kc_lm10, kc_lm9, kc_lm8, kc_lm7, kc_lm6, kc_lm5, kc_lm4, kc_lm3, kc_lm2, kc_lm1, kc_l1, kc_l2, kc_l3, kc_l4, kc_l5, kc_l6, kc_l7, kc_l8, kc_l9, kc_l10, kc_l11, kc_l12, kc_l13, kc_l14, kc_l37, kc_l42, kc_l43, kc_l45, kc_l47, kc_l60, kc_l61, kc_l62, kc_l316, kc_l318, kc_l65536, kc_l99999, kc_l1000000, kc_l252645135, kc_l858993459, kc_l1431655765, kc_0, kc_on]
  rw [ra_0_4 R, Option.bind_some, Q'.now, Option.bind_some, c_hasOrder_t S w ho, Option.bind_some, if_neg n10, if_neg (by rw [nx_lt (by omega) (by omega)]; omega), if_pos (by rw [nx_le (by omega) (by omega)]; omega)]
  by_cases k0 : k = 0
  · subst k0
    rw [if_neg (show ¬ ¬ nI 0 = nI 0 from fun z => z rfl), rf_s6 R S.1, Option.bind_some, ln_s6 S.1, gi_n (by omega), if_pos (by simp; omega), nx_cl (by omega), so.1, if_pos (by omega)]
    rfl
  · rw [if_pos (by rw [nx_eq (by omega) (by omega)]; exact k0)]
    by_cases k1 : k = 1
    · subst k1
      rw [if_neg (show ¬ ¬ nI 1 = nI 1 from fun z => z rfl), rf_s7 R S.1, Option.bind_some, ln_s7 S.1, gi_n (by omega), if_pos (by simp; omega), nx_cl (by omega), so.2.1, if_pos (by omega)]
    · rw [if_pos (by rw [nx_eq (by omega) (by omega)]; exact k1), rf_s7 R S.1, Option.bind_some, ln_s7 S.1, gi_n (by omega), if_pos (by simp; omega), nx_cl (by omega), so.2.1, o1.1, nx_sub (by omega), if_neg (by omega : ¬ k < 2)]
      by_cases q : an A (58 + 6 * o + 1) ≤ k - 2
      · rw [if_pos (show nI (an A (58 + 6 * o + 1)) ≤ nI (k - 2) by rw [nx_le (by omega) (by omega)]; exact q), if_pos q]
      · rw [if_neg (show ¬ nI (an A (58 + 6 * o + 1)) ≤ nI (k - 2) by rw [nx_le (by omega) (by omega)]; exact q), if_neg q, c_rowWord S w R ho (by omega), Option.bind_some, show 58 + 6 * o + 2 + (k - 2) = 58 + 6 * o + k from by omega]
theorem x_order_f (Q : QI h s A) {x y : Int32} (no : ¬ ∃ o k, x = nI o ∧ y = nI k ∧ o < an A 2 ∧ k ≤ 5) : x_order 0 x y h = some (ng 1) := by
  have Q' := Q
  obtain ⟨R, h1, S, H, D, w, K⟩ := Q
  unfold x_order
  simp only [kc_im8, kc_im1, kc_i0, kc_i1, kc_i2, kc_i3, kc_i4, kc_i5, kc_b_m100, kc_b_m16, kc_b_m15, kc_b_m14, kc_b_m13, kc_b_m12, kc_b_m11, kc_b_m2, kc_b_6, kc_b_7, kc_b_8, kc_b_9, kc_b_10, kc_b_11, kc_b_12, kc_b_13, kc_b_14, kc_b_15, kc_b_16, kc_b_20, kc_b_24, kc_b_32, kc_b_37, kc_b_40, kc_b_42, kc_b_43, kc_b_45, kc_b_47, kc_b_48, kc_b_57, kc_b_58, kc_b_59, kc_b_60, kc_b_61, kc_b_62, kc_b_63, kc_b_91, kc_b_93, kc_b_97, kc_b_99, kc_b_100, kc_b_106, kc_b_122, kc_s_206, kc_s_226, kc_s_227, kc_s_255, kc_s_256, kc_s_316, kc_s_318, kc_s_400, kc_s_512, kc_s_999, kc_s_1160, kc_s_1536, kc_s_3003, kc_lm11, kc_lm10, kc_lm9, kc_lm8, kc_lm7, kc_lm6, kc_lm5, kc_lm4, kc_lm3, kc_lm2, kc_lm1, kc_l1, kc_l2, kc_l3, kc_l4, kc_l5, kc_l6, kc_l7, kc_l8, kc_l9, kc_l10, kc_l11, kc_l12, kc_l13, kc_l14, kc_l37, kc_l42, kc_l43, kc_l45, kc_l47, kc_l60, kc_l61, kc_l62, kc_l316, kc_l318, kc_l65536, kc_l99999, kc_l1000000, kc_l252645135, kc_l858993459, kc_l1431655765, kc_0, kc_on]
  rw [ra_0_4 R, Option.bind_some, Q'.now, Option.bind_some]
  by_cases q : ∃ k, k < an A 2 ∧ x = nI k
  · obtain ⟨o, ho, rfl⟩ := q
    rw [c_hasOrder_t S w ho, Option.bind_some, if_neg n10]
    rcases ixx y (n := 6) (by omega) with q | q | ⟨k, hk, rfl⟩
    · rw [if_pos q]
    · by_cases q0 : y < nI 0
      · rw [if_pos q0]
      · rw [if_neg q0, if_neg (fun z => absurd (Int32.le_trans q z) (by decide))]
    · exact (no ⟨o, k, rfl, rfl, ho, by omega⟩).elim
  · rw [c_hasOrder_f S w q, Option.bind_some, if_pos rfl]
theorem m_order_t (M : MI h A) {o k : Nat} (ho : o < an A 2) (hk : k ≤ 5) : m_order 193 (nI o) (nI k) h = some (vOrd A o k) := by
  have M' := M
  obtain ⟨R, hA, w⟩ := M
  have e2 := w.e2
  have o1 := w.o1 ho
  unfold m_order m_order_39 vOrd
  simp only [kc_im8, kc_im1, kc_i0, kc_i1, kc_i2, kc_i3, kc_i4, kc_i5, kc_b_m100, kc_b_m16, kc_b_m15, kc_b_m14, kc_b_m13, kc_b_m12, kc_b_m11, kc_b_m2, kc_b_6, kc_b_7, kc_b_8, kc_b_9, kc_b_10, kc_b_11, kc_b_12, kc_b_13, kc_b_14, kc_b_15, kc_b_16, kc_b_20, kc_b_24, kc_b_32, kc_b_37, kc_b_40, kc_b_42, kc_b_43, kc_b_45, kc_b_47, kc_b_48, kc_b_57, kc_b_58, kc_b_59, kc_b_60, kc_b_61, kc_b_62, kc_b_63, kc_b_91, kc_b_93, kc_b_97, kc_b_99, kc_b_100, kc_b_106, kc_b_122, kc_s_206, kc_s_226, kc_s_227, kc_s_255, kc_s_256, kc_s_316, kc_s_318, kc_s_400, kc_s_512, kc_s_999, kc_s_1160, kc_s_1536, kc_s_3003, kc_lm11, kc_lm10, kc_lm9, kc_lm8, kc_lm7, kc_lm6, kc_lm5, kc_lm4, kc_lm3, kc_lm2, kc_lm1, kc_l1, kc_l2, kc_l3, kc_l4, kc_l5, kc_l6, kc_l7, kc_l8, kc_l9, kc_l10, kc_l11, kc_l12, kc_l13, kc_l14, kc_l37, kc_l42, kc_l43, kc_l45, kc_l47, kc_l60, kc_l61, kc_l62, kc_l316, kc_l318, kc_l65536, kc_l99999, kc_l1000000, kc_l252645135, kc_l858993459, kc_l1431655765, kc_0, kc_on]
  rw [m_isOrder_t M' ho, Option.bind_some, if_neg n10, m_in_t h (lo := Int64.ofNat 0) (hi := 5) (n := 5) hk (by omega) rfl rfl, Option.bind_some, if_pos n10]
  by_cases q : k < 2
  · rw [if_pos (show nI k < nI 2 by rw [nx_lt (by omega) (by omega)]; exact q), if_pos q, m_orderOf_n R hA (by omega), Option.bind_some]
  · rw [if_neg (show ¬ nI k < nI 2 by rw [nx_lt (by omega) (by omega)]; exact q), if_neg q, m_orderOf_n R hA (by omega), Option.bind_some, o1.1, nx_sub (by omega)]
    by_cases q : an A (58 + 6 * o + 1) ≤ k - 2
    · rw [if_pos (show nI (an A (58 + 6 * o + 1)) ≤ nI (k - 2) by rw [nx_le (by omega) (by omega)]; exact q), if_pos q]
    · rw [if_neg (show ¬ nI (an A (58 + 6 * o + 1)) ≤ nI (k - 2) by rw [nx_le (by omega) (by omega)]; exact q), if_neg q, m_orderOf_n R hA (by omega), Option.bind_some]
theorem m_order_f (M : MI h A) {x y : Int32} (no : ¬ ∃ o k, x = nI o ∧ y = nI k ∧ o < an A 2 ∧ k ≤ 5) : m_order 193 x y h = some (ng 1) := by
  unfold m_order
  simp only [kc_im8, kc_im1, kc_i0, kc_i1, kc_i2, kc_i3, kc_i4, kc_i5, kc_b_m100, kc_b_m16, kc_b_m15, kc_b_m14, kc_b_m13, kc_b_m12, kc_b_m11, kc_b_m2, kc_b_6, kc_b_7, kc_b_8, kc_b_9, kc_b_10, kc_b_11, kc_b_12, kc_b_13, kc_b_14, kc_b_15, kc_b_16, kc_b_20, kc_b_24, kc_b_32, kc_b_37, kc_b_40, kc_b_42, kc_b_43, kc_b_45, kc_b_47, kc_b_48, kc_b_57, kc_b_58, kc_b_59, kc_b_60, kc_b_61, kc_b_62, kc_b_63, kc_b_91, kc_b_93, kc_b_97, kc_b_99, kc_b_100, kc_b_106, kc_b_122, kc_s_206, kc_s_226, kc_s_227, kc_s_255, kc_s_256, kc_s_316, kc_s_318, kc_s_400, kc_s_512, kc_s_999, kc_s_1160, kc_s_1536, kc_s_3003, kc_lm11, kc_lm10, kc_lm9, kc_lm8, kc_lm7, kc_lm6, kc_lm5, kc_lm4, kc_lm3, kc_lm2, kc_lm1, kc_l1, kc_l2, kc_l3, kc_l4, kc_l5, kc_l6, kc_l7, kc_l8, kc_l9, kc_l10, kc_l11, kc_l12, kc_l13, kc_l14, kc_l37, kc_l42, kc_l43, kc_l45, kc_l47, kc_l60, kc_l61, kc_l62, kc_l316, kc_l318, kc_l65536, kc_l99999, kc_l1000000, kc_l252645135, kc_l858993459, kc_l1431655765, kc_0, kc_on]
  by_cases q : ∃ k, k < an A 2 ∧ x = nI k
  · obtain ⟨o, ho, rfl⟩ := q
    rw [m_isOrder_t M ho, Option.bind_some, if_neg n10, m_in_f h (lo := Int64.ofNat 0) (hi := 5) (n := 5) (fun ⟨k, hk, e⟩ => no ⟨o, k, rfl, e, ho, hk⟩) (by omega) rfl rfl, Option.bind_some, if_neg (show ¬ ¬ nI 0 = nI 0 from fun z => z rfl)]
  · rw [m_isOrder_f M q, Option.bind_some, if_pos rfl]
end RD
