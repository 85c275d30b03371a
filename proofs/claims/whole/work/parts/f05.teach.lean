/-! Acts: teach. -/
section TE
variable {h : pm_H} {s n : Nat} {A : Nat → Int32} {P : Nat → Nat → Int32}
theorem m_isWordOf_t (M : MI h A) {k : Nat} (hk : k < an A 0) : m_isWordOf 193 (nI k) h = some (nI 1) := by
  obtain ⟨R, hA, w⟩ := M
  have e0 := w.e0
  unfold m_isWordOf
  simp (disch := omega) only [kc_im8, kc_im1, kc_i0, kc_i1, kc_i2, kc_i3, kc_i4, kc_i5, kc_b_m100, kc_b_m16, kc_b_m15, kc_b_m14, kc_b_m13, kc_b_m12, kc_b_m11, kc_b_m2, kc_b_6, kc_b_7, kc_b_8, kc_b_9, kc_b_10, kc_b_11, kc_b_12, kc_b_13, kc_b_14, kc_b_15, kc_b_16, kc_b_20, kc_b_24, kc_b_32, kc_b_37, kc_b_40, kc_b_42, kc_b_43, kc_b_45, kc_b_47, kc_b_48, kc_b_57, kc_b_58, kc_b_59, kc_b_60, kc_b_61, kc_b_62, kc_b_63, kc_b_91, kc_b_93, kc_b_97, kc_b_99, kc_b_100, kc_b_106, kc_b_122, kc_s_206, kc_s_226, kc_s_227, kc_s_255, kc_s_256, kc_s_316, kc_s_318, kc_s_400, kc_s_512, kc_s_999, kc_s_1160, kc_s_1536, kc_s_3003, kc_lm11, kc_lm10, kc_lm9, kc_lm8, kc_lm7, kc_lm6, kc_lm5, kc_lm4, kc_lm3, kc_lm2, kc_lm1, kc_l1, kc_l2, kc_l3, kc_l4, kc_l5, kc_l6, kc_l7, kc_l8, kc_l9, kc_l10, kc_l11, kc_l12, kc_l13, kc_l14, kc_l37, kc_l42, kc_l43, kc_l45, kc_l47, kc_l60, kc_l61, kc_l62, kc_l316, kc_l318, kc_l65536, kc_l99999, kc_l1000000, kc_l252645135, kc_l858993459, kc_l1431655765, kc_0, kc_on, ra_193_20 R, Option.bind_some, mn_203, gi_n, nx_lt, nx_le, nx_eq, nx_add, nx_sub, nx_mul, nx_cl, n_lt_ng, n_le_ng, n_eq_ng, ng_lt_n, ng_le_n, ng_eq_n, ng_eq, ng_lt, ng_le, nx_dec, hA, e0.1]
  rw [if_neg (by omega), if_pos (by simp), if_neg (by omega)]
theorem m_isWordOf_f (M : MI h A) {x : Int32} (hx : ¬ ∃ k, k < an A 0 ∧ x = nI k) : m_isWordOf 193 x h = some (nI 0) := by
  obtain ⟨R, hA, w⟩ := M
  have e0 := w.e0
  unfold m_isWordOf
  simp (disch := omega) only [kc_im8, kc_im1, kc_i0, kc_i1, kc_i2, kc_i3, kc_i4, kc_i5, kc_b_m100, kc_b_m16, kc_b_m15, kc_b_m14, kc_b_m13, kc_b_m12, kc_b_m11, kc_b_m2, kc_b_6, kc_b_7, kc_b_8, kc_b_9, kc_b_10, kc_b_11, kc_b_12, kc_b_13, kc_b_14, kc_b_15, kc_b_16, kc_b_20, kc_b_24, kc_b_32, kc_b_37, kc_b_40, kc_b_42, kc_b_43, kc_b_45, kc_b_47, kc_b_48, kc_b_57, kc_b_58, kc_b_59, kc_b_60, kc_b_61, kc_b_62, kc_b_63, kc_b_91, kc_b_93, kc_b_97, kc_b_99, kc_b_100, kc_b_106, kc_b_122, kc_s_206, kc_s_226, kc_s_227, kc_s_255, kc_s_256, kc_s_316, kc_s_318, kc_s_400, kc_s_512, kc_s_999, kc_s_1160, kc_s_1536, kc_s_3003, kc_lm11, kc_lm10, kc_lm9, kc_lm8, kc_lm7, kc_lm6, kc_lm5, kc_lm4, kc_lm3, kc_lm2, kc_lm1, kc_l1, kc_l2, kc_l3, kc_l4, kc_l5, kc_l6, kc_l7, kc_l8, kc_l9, kc_l10, kc_l11, kc_l12, kc_l13, kc_l14, kc_l37, kc_l42, kc_l43, kc_l45, kc_l47, kc_l60, kc_l61, kc_l62, kc_l316, kc_l318, kc_l65536, kc_l99999, kc_l1000000, kc_l252645135, kc_l858993459, kc_l1431655765, kc_0, kc_on, ra_193_20 R, Option.bind_some, mn_203, gi_n, nx_cl, hA, e0.1]
  rcases ixx x (n := an A 0) (by omega) with q | q | q
  · rw [if_pos q]
  · by_cases q0 : x < nI 0
    · rw [if_pos q0]
    · rw [if_neg q0, if_pos (by simp), if_pos q]
  · exact (hx q).elim
def teachOk (A : Nat → Int32) (k : Nat) : Prop := k < an A 0 ∧ A 6 ≠ nI k
theorem x_teach_ok {k : Nat} (Q : QI h s A) (C : CP h n P) (ok : teachOk A k) : SP (x_teach 0 (nI k) h) (fun z => z.1 = A 6 ∧ XA h s n A (upA A 6 (nI k)) P z.2) := by
  have Q' := Q
  obtain ⟨R, h1, S, H, D, w, K⟩ := Q
  obtain ⟨k0, k6⟩ := ok
  unfold x_teach
  rw [ra_0_4 R, Option.bind_some, Q'.now, Option.bind_some, c_hasWord_t S w k0, Option.bind_some]
  simp only [kc_im8, kc_im1, kc_i0, kc_i1, kc_i2, kc_i3, kc_i4, kc_i5, kc_b_m100, kc_b_m16, kc_b_m15, kc_b_m14, kc_b_m13, kc_b_m12, kc_b_m11, kc_b_m2, kc_b_6, kc_b_7, kc_b_8, kc_b_9, kc_b_10, kc_b_11, kc_b_12, kc_b_13, kc_b_14, kc_b_15, kc_b_16, kc_b_20, kc_b_24, kc_b_32, kc_b_37, kc_b_40, kc_b_42, kc_b_43, kc_b_45, kc_b_47, kc_b_48, kc_b_57, kc_b_58, kc_b_59, kc_b_60, kc_b_61, kc_b_62, kc_b_63, kc_b_91, kc_b_93, kc_b_97, kc_b_99, kc_b_100, kc_b_106, kc_b_122, kc_s_206, kc_s_226, kc_s_227, kc_s_255, kc_s_256, kc_s_316, kc_s_318, kc_s_400, kc_s_512, kc_s_999, kc_s_1160, kc_s_1536, kc_s_3003, kc_lm11, kc_lm10, kc_lm9, kc_lm8, kc_lm7, kc_lm6, kc_lm5, kc_lm4, kc_lm3, kc_lm2, kc_lm1, kc_l1, kc_l2, kc_l3, kc_l4, kc_l5, kc_l6, kc_l7, kc_l8, kc_l9, kc_l10, kc_l11, kc_l12, kc_l13, kc_l14, kc_l37, kc_l42, kc_l43, kc_l45, kc_l47, kc_l60, kc_l61, kc_l62, kc_l316, kc_l318, kc_l65536, kc_l99999, kc_l1000000, kc_l252645135, kc_l858993459, kc_l1431655765, kc_0, kc_on]
  refine sp_neg n10 ?_
  rw [Option.bind_some, q_hands Q', Option.bind_some, H.2.2.2.2.2.1]
  refine sp_pos (fun q => k6 q.symm) ?_
  rw [ra_0_6 R, Option.bind_some, Option.bind_some, q_hands Q', Option.bind_some]
  refine sp_call (q_keep Q' C) ?_
  intro h2 X
  have Q2 := X.2.1
  rw [ra_0_4 Q2.1, Option.bind_some, q_hands Q2, Option.bind_some, Option.bind_some, q_hands Q2, Option.bind_some, sp_bd, sp_some]
  have H2 : CHd h2 169 A := Q2.2.2.2.1
  exact ⟨H2.2.2.2.2.2.1, X.set (.inl rfl) (up6_wf w k0) H2.set4⟩
theorem x_teach_no {x : Int32} (Q : QI h s A) (no : ¬ ∃ k, x = nI k ∧ teachOk A k) : x_teach 0 x h = some (ng 2, h) := by
  have Q' := Q
  obtain ⟨R, h1, S, H, D, w, K⟩ := Q
  unfold x_teach
  rw [ra_0_4 R, Option.bind_some, Q'.now, Option.bind_some]
  simp only [kc_im8, kc_im1, kc_i0, kc_i1, kc_i2, kc_i3, kc_i4, kc_i5, kc_b_m100, kc_b_m16, kc_b_m15, kc_b_m14, kc_b_m13, kc_b_m12, kc_b_m11, kc_b_m2, kc_b_6, kc_b_7, kc_b_8, kc_b_9, kc_b_10, kc_b_11, kc_b_12, kc_b_13, kc_b_14, kc_b_15, kc_b_16, kc_b_20, kc_b_24, kc_b_32, kc_b_37, kc_b_40, kc_b_42, kc_b_43, kc_b_45, kc_b_47, kc_b_48, kc_b_57, kc_b_58, kc_b_59, kc_b_60, kc_b_61, kc_b_62, kc_b_63, kc_b_91, kc_b_93, kc_b_97, kc_b_99, kc_b_100, kc_b_106, kc_b_122, kc_s_206, kc_s_226, kc_s_227, kc_s_255, kc_s_256, kc_s_316, kc_s_318, kc_s_400, kc_s_512, kc_s_999, kc_s_1160, kc_s_1536, kc_s_3003, kc_lm11, kc_lm10, kc_lm9, kc_lm8, kc_lm7, kc_lm6, kc_lm5, kc_lm4, kc_lm3, kc_lm2, kc_lm1, kc_l1, kc_l2, kc_l3, kc_l4, kc_l5, kc_l6, kc_l7, kc_l8, kc_l9, kc_l10, kc_l11, kc_l12, kc_l13, kc_l14, kc_l37, kc_l42, kc_l43, kc_l45, kc_l47, kc_l60, kc_l61, kc_l62, kc_l316, kc_l318, kc_l65536, kc_l99999, kc_l1000000, kc_l252645135, kc_l858993459, kc_l1431655765, kc_0, kc_on]
  by_cases q : ∃ k, k < an A 0 ∧ x = nI k
  · obtain ⟨k, hk, rfl⟩ := q
    rw [c_hasWord_t S w hk, Option.bind_some, if_neg n10, Option.bind_some, q_hands Q', Option.bind_some, H.2.2.2.2.2.1, if_neg]
    exact fun q => no ⟨k, rfl, hk, fun z => q z.symm⟩
  · rw [c_hasWord_f S w q, Option.bind_some, if_pos rfl]
theorem m_teach_ok {k : Nat} (M : MI h A) (C : MP h n P) (ok : teachOk A k) : SP (m_teach 193 (nI k) h) (fun z => z.1 = A 6 ∧ YA h n A (upA A 6 (nI k)) P z.2) := by
  have M' := M
  obtain ⟨R, hA, w⟩ := M
  obtain ⟨k0, k6⟩ := ok
  unfold m_teach
  rw [m_isWordOf_t M' k0, Option.bind_some]
  simp only [kc_im8, kc_im1, kc_i0, kc_i1, kc_i2, kc_i3, kc_i4, kc_i5, kc_b_m100, kc_b_m16, kc_b_m15, kc_b_m14, kc_b_m13, kc_b_m12, kc_b_m11, kc_b_m2, kc_b_6, kc_b_7, kc_b_8, kc_b_9, kc_b_10, kc_b_11, kc_b_12, kc_b_13, kc_b_14, kc_b_15, kc_b_16, kc_b_20, kc_b_24, kc_b_32, kc_b_37, kc_b_40, kc_b_42, kc_b_43, kc_b_45, kc_b_47, kc_b_48, kc_b_57, kc_b_58, kc_b_59, kc_b_60, kc_b_61, kc_b_62, kc_b_63, kc_b_91, kc_b_93, kc_b_97, kc_b_99, kc_b_100, kc_b_106, kc_b_122, kc_s_206, kc_s_226, kc_s_227, kc_s_255, kc_s_256, kc_s_316, kc_s_318, kc_s_400, kc_s_512, kc_s_999, kc_s_1160, kc_s_1536, kc_s_3003, kc_lm11, kc_lm10, kc_lm9, kc_lm8, kc_lm7, kc_lm6, kc_lm5, kc_lm4, kc_lm3, kc_lm2, kc_lm1, kc_l1, kc_l2, kc_l3, kc_l4, kc_l5, kc_l6, kc_l7, kc_l8, kc_l9, kc_l10, kc_l11, kc_l12, kc_l13, kc_l14, kc_l37, kc_l42, kc_l43, kc_l45, kc_l47, kc_l60, kc_l61, kc_l62, kc_l316, kc_l318, kc_l65536, kc_l99999, kc_l1000000, kc_l252645135, kc_l858993459, kc_l1431655765, kc_0, kc_on]
  refine sp_neg n10 ?_
  rw [ra_193_20 R, Option.bind_some, mn_203, gi_n (by omega), nx_cl (by omega), hA]
  refine sp_pos (by simp) (sp_pos k6 ?_)
  refine sp_call (y_keep M' C) ?_
  intro h2 Y
  rw [ra_193_20 Y.2.1.1, Option.bind_some, mn_203, gi_n (by omega)]
  refine sp_pos (by simp) ?_
  rw [Option.bind_some, mn_203, gi_n (by omega)]
  refine sp_pos (by simp) ?_
  rw [sp_bd, sp_some]
  exact ⟨by show h2.2.1 203 6 = _; rw [Y.2.1.2.1], Y.set (up6_wf w k0).2⟩
theorem m_teach_no {x : Int32} (M : MI h A) (no : ¬ ∃ k, x = nI k ∧ teachOk A k) : m_teach 193 x h = some (ng 2, h) := by
  have M' := M
  obtain ⟨R, hA, w⟩ := M
  unfold m_teach
  simp only [kc_im8, kc_im1, kc_i0, kc_i1, kc_i2, kc_i3, kc_i4, kc_i5, kc_b_m100, kc_b_m16, kc_b_m15, kc_b_m14, kc_b_m13, kc_b_m12, kc_b_m11, kc_b_m2, kc_b_6, kc_b_7, kc_b_8, kc_b_9, kc_b_10, kc_b_11, kc_b_12, kc_b_13, kc_b_14, kc_b_15, kc_b_16, kc_b_20, kc_b_24, kc_b_32, kc_b_37, kc_b_40, kc_b_42, kc_b_43, kc_b_45, kc_b_47, kc_b_48, kc_b_57, kc_b_58, kc_b_59, kc_b_60, kc_b_61, kc_b_62, kc_b_63, kc_b_91, kc_b_93, kc_b_97, kc_b_99, kc_b_100, kc_b_106, kc_b_122, kc_s_206, kc_s_226, kc_s_227, kc_s_255, kc_s_256, kc_s_316, kc_s_318, kc_s_400, kc_s_512, kc_s_999, kc_s_1160, kc_s_1536, kc_s_3003, kc_lm11, kc_lm10, kc_lm9, kc_lm8, kc_lm7, kc_lm6, kc_lm5, kc_lm4, kc_lm3, kc_lm2, kc_lm1, kc_l1, kc_l2, kc_l3, kc_l4, kc_l5, kc_l6, kc_l7, kc_l8, kc_l9, kc_l10, kc_l11, kc_l12, kc_l13, kc_l14, kc_l37, kc_l42, kc_l43, kc_l45, kc_l47, kc_l60, kc_l61, kc_l62, kc_l316, kc_l318, kc_l65536, kc_l99999, kc_l1000000, kc_l252645135, kc_l858993459, kc_l1431655765, kc_0, kc_on]
  by_cases q : ∃ k, k < an A 0 ∧ x = nI k
  · obtain ⟨k, hk, rfl⟩ := q
    rw [m_isWordOf_t M' hk, Option.bind_some, if_neg n10, ra_193_20 R, Option.bind_some, mn_203, gi_n (by omega), nx_cl (by omega), hA, if_pos (by simp), if_neg]
    exact fun q => no ⟨k, rfl, hk, q⟩
  · rw [m_isWordOf_f M' q, Option.bind_some, if_pos rfl]
end TE
