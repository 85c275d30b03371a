/-! Reads: who is awake, of the reference. -/
section AW
variable {h : pm_H} {A : Nat → Int32}
theorem sh0 : ∀ i, i < 31 → nI 0 <<< (nI i &&& 31) = nI 0 := by decide +kernel
theorem bs_succ_or {p : Nat → Bool} {i : Nat} (hi : i < 31) : nI (bs p i) ||| (nI (p i).toNat <<< (nI i &&& 31)) = nI (bs p (i + 1)) := by
  have e : bs p (i + 1) = bs p i ||| (if p i = true then 2 ^ i else 0) := by
    apply Nat.eq_of_testBit_eq
    intro j
    rw [bs_bit, Nat.testBit_or, bs_bit]
    by_cases q : p i = true
    · rw [if_pos q, Nat.testBit_two_pow]
      by_cases e : i = j
      · subst e; simp [q]
      · have : (j < i + 1) = (j < i) := propext ⟨fun z => by omega, fun z => by omega⟩
        simp [e, this]
    · rw [if_neg q, Nat.zero_testBit, Bool.or_false]
      by_cases e : j = i
      · subst e; simp [q]
      · have : (j < i + 1) = (j < i) := propext ⟨fun z => by omega, fun z => by omega⟩
        simp [this]
  rw [e]
  cases q : p i with
  | true =>
    rw [if_pos rfl, show nI true.toNat = nI 1 from rfl, nx_shl1 hi, nx_or2]
  | false =>
    rw [if_neg Bool.false_ne_true, show nI false.toNat = nI 0 from rfl, sh0 i hi, nx_or2]
theorem m_awakeSet_n (w : WFA A) (R : RF h) (hA : h.2.1 203 = A) : m_awakeSet 193 h = some (nI (bs (isAw A) (an A 1))) := by
  have h1 := w.e1
  have key : wh (fun q : (Int32 × Int32) => m_awakeSet_4 193 q.1 q.2 h) (nI 0, nI 0) = some (nI (bs (isAw A) (an A 1))) := by
    refine wh_for (fun i => (nI (bs (isAw A) i), nI i)) (an A 1) 0 (by omega) (fun i _ hi => ?_) ?_
    · unfold m_awakeSet_4
      simp (disch := omega) only [kc_im8, kc_im1, kc_i0, kc_i1, kc_i2, kc_i3, kc_i4, kc_i5, kc_b_m100, kc_b_m16, kc_b_m15, kc_b_m14, kc_b_m13, kc_b_m12, kc_b_m11, kc_b_m2, kc_b_6, kc_b_7, kc_b_8, kc_b_9, kc_b_10, kc_b_11, kc_b_12, kc_b_13, kc_b_14, kc_b_15, kc_b_16, kc_b_20, kc_b_24, kc_b_32, kc_b_37, kc_b_40, kc_b_42, kc_b_43, kc_b_45, kc_b_47, kc_b_48, kc_b_57, kc_b_58, kc_b_59, kc_b_60, kc_b_61, kc_b_62, kc_b_63, kc_b_91, kc_b_93, kc_b_97, kc_b_99, kc_b_100, kc_b_106, kc_b_122, kc_s_206, kc_s_226, kc_s_227, kc_s_255, kc_s_256, kc_s_316, kc_s_318, kc_s_400, kc_s_512, kc_s_999, kc_s_1160, kc_s_1536, kc_s_3003, kc_lm11, kc_lm10, kc_lm9, kc_lm8, kc_lm7, kc_lm6, kc_lm5, kc_lm4, kc_lm3, kc_lm2, kc_lm1, kc_l1, kc_l2, kc_l3, kc_l4, kc_l5, kc_l6, kc_l7, kc_l8, kc_l9, kc_l10, kc_l11, kc_l12, kc_l13, kc_l14, kc_l37, kc_l42, kc_l43, kc_l45, kc_l47, kc_l60, kc_l61, kc_l62, kc_l316, kc_l318, kc_l65536, kc_l99999, kc_l1000000, kc_l252645135, kc_l858993459, kc_l1431655765, kc_0, kc_on, ra_193_20 R, mn_203, gi_n, nx_lt, nx_le, nx_eq, nx_add, nx_sub, nx_mul, nx_cl, n_lt_ng, n_le_ng, n_eq_ng, ng_lt_n, ng_le_n, ng_eq_n, ng_eq, ng_lt, ng_le, nx_dec, hA, h1.1, m_manOf_n R hA (by omega : 10 + 6 * i + 2 < 227), Option.bind_some, w.m2 hi]
      rw [if_pos (by simp), if_neg (by omega), bs_succ_or (by omega)]
    · unfold m_awakeSet_4
      simp (disch := omega) only [kc_im8, kc_im1, kc_i0, kc_i1, kc_i2, kc_i3, kc_i4, kc_i5, kc_b_m100, kc_b_m16, kc_b_m15, kc_b_m14, kc_b_m13, kc_b_m12, kc_b_m11, kc_b_m2, kc_b_6, kc_b_7, kc_b_8, kc_b_9, kc_b_10, kc_b_11, kc_b_12, kc_b_13, kc_b_14, kc_b_15, kc_b_16, kc_b_20, kc_b_24, kc_b_32, kc_b_37, kc_b_40, kc_b_42, kc_b_43, kc_b_45, kc_b_47, kc_b_48, kc_b_57, kc_b_58, kc_b_59, kc_b_60, kc_b_61, kc_b_62, kc_b_63, kc_b_91, kc_b_93, kc_b_97, kc_b_99, kc_b_100, kc_b_106, kc_b_122, kc_s_206, kc_s_226, kc_s_227, kc_s_255, kc_s_256, kc_s_316, kc_s_318, kc_s_400, kc_s_512, kc_s_999, kc_s_1160, kc_s_1536, kc_s_3003, kc_lm11, kc_lm10, kc_lm9, kc_lm8, kc_lm7, kc_lm6, kc_lm5, kc_lm4, kc_lm3, kc_lm2, kc_lm1, kc_l1, kc_l2, kc_l3, kc_l4, kc_l5, kc_l6, kc_l7, kc_l8, kc_l9, kc_l10, kc_l11, kc_l12, kc_l13, kc_l14, kc_l37, kc_l42, kc_l43, kc_l45, kc_l47, kc_l60, kc_l61, kc_l62, kc_l316, kc_l318, kc_l65536, kc_l99999, kc_l1000000, kc_l252645135, kc_l858993459, kc_l1431655765, kc_0, kc_on, ra_193_20 R, mn_203, gi_n, nx_lt, nx_le, nx_eq, nx_add, nx_sub, nx_mul, nx_cl, n_lt_ng, n_le_ng, n_eq_ng, ng_lt_n, ng_le_n, ng_eq_n, ng_eq, ng_lt, ng_le, nx_dec, hA, h1.1, Option.bind_some]
      rw [if_pos (by simp), if_pos (by omega)]
  unfold m_awakeSet
  simp only [kc_im8, kc_im1, kc_i0, kc_i1, kc_i2, kc_i3, kc_i4, kc_i5, kc_b_m100, kc_b_m16, kc_b_m15, kc_b_m14, kc_b_m13, kc_b_m12, kc_b_m11, kc_b_m2, kc_b_6, kc_b_7, kc_b_8, kc_b_9, kc_b_10, kc_b_11, kc_b_12, kc_b_13, kc_b_14, kc_b_15, kc_b_16, kc_b_20, kc_b_24, kc_b_32, kc_b_37, kc_b_40, kc_b_42, kc_b_43, kc_b_45, kc_b_47, kc_b_48, kc_b_57, kc_b_58, kc_b_59, kc_b_60, kc_b_61, kc_b_62, kc_b_63, kc_b_91, kc_b_93, kc_b_97, kc_b_99, kc_b_100, kc_b_106, kc_b_122, kc_s_206, kc_s_226, kc_s_227, kc_s_255, kc_s_256, kc_s_316, kc_s_318, kc_s_400, kc_s_512, kc_s_999, kc_s_1160, kc_s_1536, kc_s_3003, kc_lm11, kc_lm10, kc_lm9, kc_lm8, kc_lm7, kc_lm6, kc_lm5, kc_lm4, kc_lm3, kc_lm2, kc_lm1, kc_l1, kc_l2, kc_l3, kc_l4, kc_l5, kc_l6, kc_l7, kc_l8, kc_l9, kc_l10, kc_l11, kc_l12, kc_l13, kc_l14, kc_l37, kc_l42, kc_l43, kc_l45, kc_l47, kc_l60, kc_l61, kc_l62, kc_l316, kc_l318, kc_l65536, kc_l99999, kc_l1000000, kc_l252645135, kc_l858993459, kc_l1431655765, kc_0, kc_on, key, Option.bind_some]
end AW
