/-! Reads: count of the reference. -/
section CM
variable {h : pm_H} {A : Nat → Int32}
theorem m_count_n (M : MI h A) {r v : Int32} {n L : Nat} (hr : h.2.1 193 2 = r) (hv : h.2.1 193 21 = v) (hn : h.2.1 193 28 = nI n) (hL : h.2.1 193 1 = nI L) (x : Int32) : m_count 193 x h = some (vCount A r v n L x) := by
  obtain ⟨R, hA, w⟩ := M
  have g : ∀ k, k < 227 → mi_in (nI k) 227 = true := fun k hk => by rw [gi_n (by omega)]; exact decide_eq_true hk
  have d := dead_n w
  unfold m_count vCount
  simp only [kc_im8, kc_im1, kc_i0, kc_i1, kc_i2, kc_i3, kc_i4, kc_i5, kc_b_m100, kc_b_m16, kc_b_m15, kc_b_m14, kc_b_m13, kc_b_m12, kc_b_m11, kc_b_m2, kc_b_6, kc_b_7, kc_b_8, kc_b_9, kc_b_10, kc_b_11, kc_b_12, kc_b_13, kc_b_14, kc_b_15, kc_b_16, kc_b_20, kc_b_24, kc_b_32, kc_b_37, kc_b_40, kc_b_42, kc_b_43, kc_b_45, kc_b_47, kc_b_48, kc_b_57, kc_b_58, kc_b_59, kc_b_60, kc_b_61, kc_b_62, kc_b_63, kc_b_91, kc_b_93, kc_b_97, kc_b_99, kc_b_100, kc_b_106, kc_b_122, kc_s_206, kc_s_226, kc_s_227, kc_s_255, kc_s_256, kc_s_316, kc_s_318, kc_s_400, kc_s_512, kc_s_999, kc_s_1160, kc_s_1536, kc_s_3003, kc_lm11, kc_lm10, kc_lm9, kc_lm8, kc_lm7, kc_lm6, kc_lm5, kc_lm4, kc_lm3, kc_lm2, kc_lm1, kc_l1, kc_l2, kc_l3, kc_l4, kc_l5, kc_l6, kc_l7, kc_l8, kc_l9, kc_l10, kc_l11, kc_l12, kc_l13, kc_l14, kc_l37, kc_l42, kc_l43, kc_l45, kc_l47, kc_l60, kc_l61, kc_l62, kc_l316, kc_l318, kc_l65536, kc_l99999, kc_l1000000, kc_l252645135, kc_l858993459, kc_l1431655765, kc_0, kc_on]
  by_cases q : x = nI 0
  · rw [if_pos q, if_pos q, ra_193_20 R, Option.bind_some, mn_203, q, g 0 (by omega), if_pos rfl, nx_cl (by omega), hA]
  rw [if_neg q, if_neg q]
  clear q
  by_cases q : x = nI 1
  · rw [if_pos q, if_pos q, ra_193_20 R, Option.bind_some, mn_203, q, g 1 (by omega), if_pos rfl, nx_cl (by omega), hA]
  rw [if_neg q, if_neg q]
  clear q
  by_cases q : x = nI 2
  · rw [if_pos q, if_pos q, ra_193_20 R, Option.bind_some, mn_203, q, g 2 (by omega), if_pos rfl, nx_cl (by omega), hA]
  rw [if_neg q, if_neg q]
  clear q
  by_cases q : x = nI 3
  · rw [if_pos q, if_pos q, ra_193_20 R, Option.bind_some, mn_203, q, g 3 (by omega), if_pos rfl, nx_cl (by omega), hA]
  rw [if_neg q, if_neg q]
  clear q
  by_cases q : x = nI 4
  · rw [if_pos q, if_pos q, hr]
  rw [if_neg q, if_neg q]
  clear q
  by_cases q : x = nI 5
  · rw [if_pos q, if_pos q, ra_193_20 R, Option.bind_some, mn_203, g 4 (by omega), if_pos rfl, nx_cl (by omega), hA]
  rw [if_neg q, if_neg q]
  clear q
  by_cases q : x = nI 6
  · rw [if_pos q, if_pos q, ra_193_20 R, Option.bind_some, mn_203, g 5 (by omega), if_pos rfl, nx_cl (by omega), hA]
  rw [if_neg q, if_neg q]
  clear q
  by_cases q : x = nI 7
  · rw [if_pos q, if_pos q, m_awakeSet_n w R hA, Option.bind_some]
  rw [if_neg q, if_neg q]
  clear q
  by_cases q : x = nI 8
  · rw [if_pos q, if_pos q, m_heardSet_n w R hA, Option.bind_some]
  rw [if_neg q, if_neg q]
  clear q
  by_cases q : x = nI 9
  · rw [if_pos q, if_pos q, ra_193_20 R, Option.bind_some, mn_203, g 1 (by omega), if_pos rfl, m_aliveSet_n w R hA, Option.bind_some, nx_cl (by omega), hA, d]
  rw [if_neg q, if_neg q]
  clear q
  by_cases q : x = nI 10
  · rw [if_pos q, if_pos q, ra_193_20 R, Option.bind_some, mn_203, g 6 (by omega), if_pos rfl, nx_cl (by omega), hA]
  rw [if_neg q, if_neg q]
  clear q
  by_cases q : x = nI 11
  · rw [if_pos q, if_pos q, ra_193_20 R, Option.bind_some, mn_203, g 226 (by omega), if_pos rfl, nx_cl (by omega), hA]
  rw [if_neg q, if_neg q]
  clear q
  by_cases q : x = nI 12
  · rw [if_pos q, if_pos q, hn]
  rw [if_neg q, if_neg q]
  clear q
  by_cases q : x = nI 13
  · rw [if_pos q, if_pos q, hv]
  rw [if_neg q, if_neg q]
  clear q
  by_cases q : x = nI 14
  · rw [if_pos q, if_pos q, hL]
  rw [if_neg q, if_neg q]
end CM
