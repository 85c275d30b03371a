/-! Reads: man. -/
section MA
variable {h : pm_H} {s : Nat} {A : Nat → Int32}
theorem hrd_man (w : WFA A) {m : Nat} (hm : m < an A 1) : (hrdN A).testBit m = (isFit A m && isAw A m) := by
  have h1 := w.e1
  unfold hrdN hrdM
  rw [Nat.testBit_or, bs_bit, decide_eq_true hm, Bool.true_and]
  have : (bb (bN A)).testBit m = false := by
    unfold bb
    split
    · exact Nat.zero_testBit _
    · rw [bit_256]; exact decide_eq_false (by omega)
  rw [this, Bool.or_false]
theorem hrd_512 (w : WFA A) : hrdN A < 512 := by
  have h1 := w.e1
  have hb : bb (bN A) < 2 ^ 9 := by unfold bb; split <;> decide
  have hm9 : hrdM A < 2 ^ 9 := Nat.lt_of_lt_of_le (bs_lt _ _) (Nat.pow_le_pow_right (by decide) (by omega))
  exact Nat.or_lt_two_pow hm9 hb
def vMan (A : Nat → Int32) (m k : Nat) : Int32 := if k = 6 then nI (isFit A m && isAw A m).toNat else A (10 + 6 * m + k)
theorem x_man_t (Q : QI h s A) {m k : Nat} (hm : m < an A 1) (hk : k ≤ 6) : x_man 0 (nI m) (nI k) h = some (vMan A m k) := by
  have Q' := Q
  obtain ⟨R, h1, S, H, D, w, K⟩ := Q
  have e1 := w.e1
  have sm := S.2.2.2.2.2.1 m hm
  have hm6 := H.2.2.2.2.2.2 m hm
  have b1 := bs9 w (isAw A)
  have b2 := bs9 w (isDd A)
  have b3 := hrd_512 w
  unfold x_man
  simp only [kc_im8, kc_im1, kc_i0, kc_i1, kc_i2, kc_i3, kc_i4, kc_i5, kc_b_m100, kc_b_m16, kc_b_m15, kc_b_m14, kc_b_m13, kc_b_m12, kc_b_m11, kc_b_m2, kc_b_6, kc_b_7, kc_b_8, kc_b_9, kc_b_10, kc_b_11, kc_b_12, kc_b_13, kc_b_14, kc_b_15, kc_b_16, kc_b_20, kc_b_24, kc_b_32, kc_b_37, kc_b_40, kc_b_42, kc_b_43, kc_b_45, kc_b_47, kc_b_48, kc_b_57, kc_b_58, kc_b_59, kc_b_60, kc_b_61, kc_b_62, kc_b_63, kc_b_91, kc_b_93, kc_b_97, kc_b_99, kc_b_100, kc_b_106, kc_b_122, kc_s_206, kc_s_226, kc_s_227, kc_s_255, kc_s_256, kc_s_316, kc_s_318, kc_s_400, kc_s_512, kc_s_999, kc_s_1160, kc_s_1536, kc_s_3003, kc_lm11, kc_lm10, kc_lm9, kc_lm8, kc_lm7, kc_lm6, kc_lm5, kc_lm4, kc_lm3, kc_lm2, kc_lm1, kc_l1, kc_l2, kc_l3, kc_l4, kc_l5, kc_l6, kc_l7, kc_l8, kc_l9, kc_l10, kc_l11, kc_l12, kc_l13, kc_l14, kc_l37, kc_l42, kc_l43, kc_l45, kc_l47, kc_l60, kc_l61, kc_l62, kc_l316, kc_l318, kc_l65536, kc_l99999, kc_l1000000, kc_l252645135, kc_l858993459, kc_l1431655765, kc_0, kc_on]
  rw [ra_0_4 R, Option.bind_some, Q'.now, Option.bind_some, c_hasMan_t S w hm, Option.bind_some, if_pos n10, Option.bind_some, q_hands Q', Option.bind_some]
  have hk' : k = 0 ∨ k = 1 ∨ k = 2 ∨ k = 3 ∨ k = 4 ∨ k = 5 ∨ k = 6 := by omega
  unfold vMan
  rcases hk' with rfl | rfl | rfl | rfl | rfl | rfl | rfl
  · rw [if_pos (by decide), Option.bind_some, Q'.now, Option.bind_some, rf_s4 R S.1, Option.bind_some, ln_s4 S.1, gi_n (by omega), if_pos (by simp; omega), nx_cl (by omega), sm.1, if_neg (by omega)]
    rfl
  · rw [if_neg (by decide), if_pos (by decide), Option.bind_some, Q'.now, Option.bind_some, rf_s5 R S.1, Option.bind_some, ln_s5 S.1, gi_n (by omega), if_pos (by simp; omega), nx_cl (by omega), sm.2, if_neg (by omega)]
  · rw [if_neg (by decide), if_neg (by decide), if_pos (by decide), H.2.1, x_bit_n (by omega) (by omega), Option.bind_some, bs_bit, decide_eq_true hm, Bool.true_and, if_neg (by omega), w.m2 hm]
  · rw [if_neg (by decide), if_neg (by decide), if_neg (by decide), if_pos (by decide), rf_n5 R H.1, Option.bind_some, ln_n5 H.1, gi_n (by omega), if_pos (by simp; omega), nx_cl (by omega), hm6.1, if_neg (by omega)]
  · rw [if_neg (by decide), if_neg (by decide), if_neg (by decide), if_neg (by decide), if_pos (by decide), H.2.2.1, x_bit_n (by omega) (by omega), Option.bind_some, bs_bit, decide_eq_true hm, Bool.true_and, if_neg (by omega), w.m4 hm]
  · rw [if_neg (by decide), if_neg (by decide), if_neg (by decide), if_neg (by decide), if_neg (by decide), if_pos (by decide), rf_n6 R H.1, Option.bind_some, ln_n6 H.1, gi_n (by omega), if_pos (by simp; omega), nx_cl (by omega), hm6.2, if_neg (by omega)]
  · rw [if_neg (by decide), if_neg (by decide), if_neg (by decide), if_neg (by decide), if_neg (by decide), if_neg (by decide), if_pos (by decide), Option.bind_some, Q'.now, Option.bind_some, n_heard_c S H w R, Option.bind_some, x_bit_n (by omega) (by omega), Option.bind_some, hrd_man w hm, if_pos rfl]
theorem x_man_f (Q : QI h s A) {x y : Int32} (no : ¬ ∃ m k, x = nI m ∧ y = nI k ∧ m < an A 1 ∧ k ≤ 6) : x_man 0 x y h = some (ng 1) := by
  have Q' := Q
  obtain ⟨R, h1, S, H, D, w, K⟩ := Q
  unfold x_man
  simp only [kc_im8, kc_im1, kc_i0, kc_i1, kc_i2, kc_i3, kc_i4, kc_i5, kc_b_m100, kc_b_m16, kc_b_m15, kc_b_m14, kc_b_m13, kc_b_m12, kc_b_m11, kc_b_m2, kc_b_6, kc_b_7, kc_b_8, kc_b_9, kc_b_10, kc_b_11, kc_b_12, kc_b_13, kc_b_14, kc_b_15, kc_b_16, kc_b_20, kc_b_24, kc_b_32, kc_b_37, kc_b_40, kc_b_42, kc_b_43, kc_b_45, kc_b_47, kc_b_48, kc_b_57, kc_b_58, kc_b_59, kc_b_60, kc_b_61, kc_b_62, kc_b_63, kc_b_91, kc_b_93, kc_b_97, kc_b_99, kc_b_100, kc_b_106, kc_b_122, kc_s_206, kc_s_226, kc_s_227, kc_s_255, kc_s_256, kc_s_316, kc_s_318, kc_s_400, kc_s_512, kc_s_999, kc_s_1160, kc_s_1536, kc_s_3003, kc_lm11, kc_lm10, kc_lm9, kc_lm8, kc_lm7, kc_lm6, kc_lm5, kc_lm4, kc_lm3, kc_lm2, kc_lm1, kc_l1, kc_l2, kc_l3, kc_l4, kc_l5, kc_l6, kc_l7, kc_l8, kc_l9, kc_l10, kc_l11, kc_l12, kc_l13, kc_l14, kc_l37, kc_l42, kc_l43, kc_l45, kc_l47, kc_l60, kc_l61, kc_l62, kc_l316, kc_l318, kc_l65536, kc_l99999, kc_l1000000, kc_l252645135, kc_l858993459, kc_l1431655765, kc_0, kc_on]
  rw [ra_0_4 R, Option.bind_some, Q'.now, Option.bind_some]
  by_cases q : ∃ k, k < an A 1 ∧ x = nI k
  · obtain ⟨m, hm, rfl⟩ := q
    have ny : ∀ k, k ≤ 6 → ¬ y = nI k := fun k hk e => no ⟨m, k, rfl, e, hm, hk⟩
    rw [c_hasMan_t S w hm, Option.bind_some, if_pos n10, Option.bind_some, q_hands Q', Option.bind_some, if_neg (ny 0 (by omega)), if_neg (ny 1 (by omega)), if_neg (ny 2 (by omega)), if_neg (ny 3 (by omega)), if_neg (ny 4 (by omega)), if_neg (ny 5 (by omega)), if_neg (ny 6 (by omega))]
  · rw [c_hasMan_f S w q, Option.bind_some, if_neg (show ¬ ¬ nI 0 = nI 0 from fun z => z rfl)]
theorem m_man_t (M : MI h A) {m k : Nat} (hm : m < an A 1) (hk : k ≤ 6) : m_man 193 (nI m) (nI k) h = some (vMan A m k) := by
  have M' := M
  obtain ⟨R, hA, w⟩ := M
  have e1 := w.e1
  unfold m_man vMan
  simp only [kc_im8, kc_im1, kc_i0, kc_i1, kc_i2, kc_i3, kc_i4, kc_i5, kc_b_m100, kc_b_m16, kc_b_m15, kc_b_m14, kc_b_m13, kc_b_m12, kc_b_m11, kc_b_m2, kc_b_6, kc_b_7, kc_b_8, kc_b_9, kc_b_10, kc_b_11, kc_b_12, kc_b_13, kc_b_14, kc_b_15, kc_b_16, kc_b_20, kc_b_24, kc_b_32, kc_b_37, kc_b_40, kc_b_42, kc_b_43, kc_b_45, kc_b_47, kc_b_48, kc_b_57, kc_b_58, kc_b_59, kc_b_60, kc_b_61, kc_b_62, kc_b_63, kc_b_91, kc_b_93, kc_b_97, kc_b_99, kc_b_100, kc_b_106, kc_b_122, kc_s_206, kc_s_226, kc_s_227, kc_s_255, kc_s_256, kc_s_316, kc_s_318, kc_s_400, kc_s_512, kc_s_999, kc_s_1160, kc_s_1536, kc_s_3003, kc_lm11, kc_lm10, kc_lm9, kc_lm8, kc_lm7, kc_lm6, kc_lm5, kc_lm4, kc_lm3, kc_lm2, kc_lm1, kc_l1, kc_l2, kc_l3, kc_l4, kc_l5, kc_l6, kc_l7, kc_l8, kc_l9, kc_l10, kc_l11, kc_l12, kc_l13, kc_l14, kc_l37, kc_l42, kc_l43, kc_l45, kc_l47, kc_l60, kc_l61, kc_l62, kc_l316, kc_l318, kc_l65536, kc_l99999, kc_l1000000, kc_l252645135, kc_l858993459, kc_l1431655765, kc_0, kc_on]
  rw [m_isMan_t w R hA hm, Option.bind_some, if_neg n10, m_in_t h (lo := Int64.ofNat 0) (hi := 6) (n := 6) hk (by omega) rfl rfl, Option.bind_some, if_pos n10]
  by_cases q : k = 6
  · subst q
    rw [if_pos (by decide), m_isHeard_t w R hA hm, Option.bind_some, if_pos rfl]
    cases (isFit A m && isAw A m)
    · exact if_pos rfl
    · exact if_neg n10
  · rw [if_neg (by rw [nx_le (by omega) (by omega)]; omega), if_neg q, m_manOf_n R hA (by omega), Option.bind_some]
theorem m_man_f (M : MI h A) {x y : Int32} (no : ¬ ∃ m k, x = nI m ∧ y = nI k ∧ m < an A 1 ∧ k ≤ 6) : m_man 193 x y h = some (ng 1) := by
  obtain ⟨R, hA, w⟩ := M
  unfold m_man
  simp only [kc_im8, kc_im1, kc_i0, kc_i1, kc_i2, kc_i3, kc_i4, kc_i5, kc_b_m100, kc_b_m16, kc_b_m15, kc_b_m14, kc_b_m13, kc_b_m12, kc_b_m11, kc_b_m2, kc_b_6, kc_b_7, kc_b_8, kc_b_9, kc_b_10, kc_b_11, kc_b_12, kc_b_13, kc_b_14, kc_b_15, kc_b_16, kc_b_20, kc_b_24, kc_b_32, kc_b_37, kc_b_40, kc_b_42, kc_b_43, kc_b_45, kc_b_47, kc_b_48, kc_b_57, kc_b_58, kc_b_59, kc_b_60, kc_b_61, kc_b_62, kc_b_63, kc_b_91, kc_b_93, kc_b_97, kc_b_99, kc_b_100, kc_b_106, kc_b_122, kc_s_206, kc_s_226, kc_s_227, kc_s_255, kc_s_256, kc_s_316, kc_s_318, kc_s_400, kc_s_512, kc_s_999, kc_s_1160, kc_s_1536, kc_s_3003, kc_lm11, kc_lm10, kc_lm9, kc_lm8, kc_lm7, kc_lm6, kc_lm5, kc_lm4, kc_lm3, kc_lm2, kc_lm1, kc_l1, kc_l2, kc_l3, kc_l4, kc_l5, kc_l6, kc_l7, kc_l8, kc_l9, kc_l10, kc_l11, kc_l12, kc_l13, kc_l14, kc_l37, kc_l42, kc_l43, kc_l45, kc_l47, kc_l60, kc_l61, kc_l62, kc_l316, kc_l318, kc_l65536, kc_l99999, kc_l1000000, kc_l252645135, kc_l858993459, kc_l1431655765, kc_0, kc_on]
  by_cases q : ∃ k, k < an A 1 ∧ x = nI k
  · obtain ⟨m, hm, rfl⟩ := q
    rw [m_isMan_t w R hA hm, Option.bind_some, if_neg n10, m_in_f h (lo := Int64.ofNat 0) (hi := 6) (n := 6) (fun ⟨k, hk, e⟩ => no ⟨m, k, rfl, e, hm, hk⟩) (by omega) rfl rfl, Option.bind_some, if_neg (show ¬ ¬ nI 0 = nI 0 from fun z => z rfl)]
  · rw [m_isMan_f w R hA q, Option.bind_some, if_pos rfl]
end MA
