/-! The program's Rows: parting a row. -/
section RG
variable {h : pm_H} {s q : Nat} {A : Nat → Int32}
theorem r_grow_sp (R : RF h) (hq : mi_o q 5 = true) {L i : Nat} {a b : Int32} (h6 : h.2.1 q 6 = nI L) (hL : L < 5) (hi : i < L) : SP (r_grow q (nI i) a b h) (fun h' => Fr (fun c => c = q + 1 ∨ c = q + 2 ∨ c = q + 3) h h' ∧ (∀ x, x < L * 5 + 5 → h'.2.1 (q + 1) x = h.2.1 (q + 1) x) ∧ (∀ j, j < L + 1 → h'.2.1 (q + 1) (L * 5 + 5 + j) = if j < i then h.2.1 (q + 1) (L * 5 + j) else if j = i then a else if j = i + 1 then b else h.2.1 (q + 1) (L * 5 + (j - 1))) ∧ h'.2.1 (q + 2) (L + 1) = nI 0 ∧ h'.2.1 (q + 3) (L + 1) = nI 0 ∧ ∀ r, r ≠ L + 1 → h'.2.1 (q + 2) r = h.2.1 (q + 2) r ∧ h'.2.1 (q + 3) r = h.2.1 (q + 3) r) := by
  unfold r_grow
  have e1 : q ≠ q + 1 := by omega
  have e2 : q ≠ q + 2 := by omega
  have e3 : q + 1 ≠ q + 2 := by omega
  have e4 : q + 1 ≠ q + 3 := by omega
  have e5 : q + 2 ≠ q + 3 := by omega
  have e6 : q + 2 ≠ q + 1 := by omega
  have e7 : q + 3 ≠ q + 1 := by omega
  have e8 : q + 3 ≠ q + 2 := by omega
  simp (disch := omega) only [kc_im8, kc_im1, kc_i0, kc_i1, kc_i2, kc_i3, kc_i4, kc_i5, kc_b_m100, kc_b_m16, kc_b_m15, kc_b_m14, kc_b_m13, kc_b_m12, kc_b_m11, kc_b_m2, kc_b_6, kc_b_7, kc_b_8, kc_b_9, kc_b_10, kc_b_11, kc_b_12, kc_b_13, kc_b_14, kc_b_15, kc_b_16, kc_b_20, kc_b_24, kc_b_32, kc_b_37, kc_b_40, kc_b_42, kc_b_43, kc_b_45, kc_b_47, kc_b_48, kc_b_57, kc_b_58, kc_b_59, kc_b_60, kc_b_61, kc_b_62, kc_b_63, kc_b_91, kc_b_93, kc_b_97, kc_b_99, kc_b_100, kc_b_106, kc_b_122, kc_s_206, kc_s_226, kc_s_227, kc_s_255, kc_s_256, kc_s_316, kc_s_318, kc_s_400, kc_s_512, kc_s_999, kc_s_1160, kc_s_1536, kc_s_3003, kc_lm11, kc_lm10, kc_lm9, kc_lm8, kc_lm7, kc_lm6, kc_lm5, kc_lm4, kc_lm3, kc_lm2, kc_lm1, kc_l1, kc_l2, kc_l3, kc_l4, kc_l5, kc_l6, kc_l7, kc_l8, kc_l9, kc_l10, kc_l11, kc_l12, kc_l13, kc_l14, kc_l37, kc_l42, kc_l43, kc_l45, kc_l47, kc_l60, kc_l61, kc_l62, kc_l316, kc_l318, kc_l65536, kc_l99999, kc_l1000000, kc_l252645135, kc_l858993459, kc_l1431655765, kc_0, kc_on, rf_r1 R hq, ln_r1 hq, Option.bind_some, h6, nx_lt, nx_le, nx_eq, nx_add, nx_sub, nx_mul, nx_cl, n_lt_ng, n_le_ng, n_eq_ng, ng_lt_n, ng_le_n, ng_eq_n, ng_eq, ng_lt, ng_le, nx_dec, gi_n]
  rw [if_pos (mi_cp_t (by omega) (by omega) (by omega) (by omega)), sp_bd]
  generalize hh4 : pm_rowI h (q + 1) (va_cpy (h.2.1 (q + 1)) (h.2.1 (q + 1)) (L * 5) (L * 5 + 5) i) = h4
  have R4 : RF h4 := by rw [← hh4]; exact R
  have c4 : ∀ x, h4.2.1 (q + 1) x = if L * 5 + 5 ≤ x ∧ x < L * 5 + 5 + i then h.2.1 (q + 1) (L * 5 + (x - (L * 5 + 5))) else h.2.1 (q + 1) x := by
    intro x; rw [← hh4, ri_r]; rfl
  have f4 : Fr (fun c => c = q + 1 ∨ c = q + 2 ∨ c = q + 3) h h4 := by rw [← hh4]; exact (Fr.refl _ h).rowI (.inl rfl)
  have o4 : ∀ c, c ≠ q + 1 → ∀ j, h4.2.1 c j = h.2.1 c j := by intro c hc j; rw [← hh4]; exact ri_rc _ hc
  clear hh4
  simp (disch := omega) only [rf_r1 R4 hq, ln_r1 hq, Option.bind_some]
  rw [if_pos (by simp; omega), sp_bd]
  generalize hh7 : pm_setI h4 (q + 1) (L * 5 + 5 + i) a = h7
  have R7 : RF h7 := by rw [← hh7]; exact R4
  have c7 : ∀ x, h7.2.1 (q + 1) x = if x = L * 5 + 5 + i then a else h4.2.1 (q + 1) x := by
    intro x; rw [← hh7, ri, if_pos rfl]
  have f7 : Fr (fun c => c = q + 1 ∨ c = q + 2 ∨ c = q + 3) h h7 := by rw [← hh7]; exact f4.setI (.inl rfl)
  have o7 : ∀ c, c ≠ q + 1 → ∀ j, h7.2.1 c j = h.2.1 c j := by intro c hc j; rw [← hh7, ri_c _ hc]; exact o4 c hc j
  clear hh7
  simp (disch := omega) only [rf_r1 R7 hq, ln_r1 hq, Option.bind_some]
  rw [if_pos (by simp; omega), sp_bd]
  generalize hh10 : pm_setI h7 (q + 1) (L * 5 + 5 + i + 1) b = h10
  have R10 : RF h10 := by rw [← hh10]; exact R7
  have c10 : ∀ x, h10.2.1 (q + 1) x = if x = L * 5 + 5 + i + 1 then b else h7.2.1 (q + 1) x := by
    intro x; rw [← hh10, ri, if_pos rfl]
  have f10 : Fr (fun c => c = q + 1 ∨ c = q + 2 ∨ c = q + 3) h h10 := by rw [← hh10]; exact f7.setI (.inl rfl)
  have o10 : ∀ c, c ≠ q + 1 → ∀ j, h10.2.1 c j = h.2.1 c j := by intro c hc j; rw [← hh10, ri_c _ hc]; exact o7 c hc j
  clear hh10
  simp (disch := omega) only [rf_r1 R10 hq, ln_r1 hq, Option.bind_some, o10 q e1, h6, nx_lt, nx_le, nx_eq, nx_add, nx_sub, nx_mul, nx_cl, n_lt_ng, n_le_ng, n_eq_ng, ng_lt_n, ng_le_n, ng_eq_n, ng_eq, ng_lt, ng_le, nx_dec]
  rw [if_pos (mi_cp_t (by omega) (by omega) (by omega) (by omega)), sp_bd]
  generalize hh14 : pm_rowI h10 (q + 1) (va_cpy (h10.2.1 (q + 1)) (h10.2.1 (q + 1)) (L * 5 + i + 1) (L * 5 + 5 + i + 2) (L - i - 1)) = h14
  have R14 : RF h14 := by rw [← hh14]; exact R10
  have c14 : ∀ x, h14.2.1 (q + 1) x = if L * 5 + 5 + i + 2 ≤ x ∧ x < L * 5 + 5 + i + 2 + (L - i - 1) then h10.2.1 (q + 1) (L * 5 + i + 1 + (x - (L * 5 + 5 + i + 2))) else h10.2.1 (q + 1) x := by
    intro x; rw [← hh14, ri_r]; rfl
  have f14 : Fr (fun c => c = q + 1 ∨ c = q + 2 ∨ c = q + 3) h h14 := by rw [← hh14]; exact f10.rowI (.inl rfl)
  have o14 : ∀ c, c ≠ q + 1 → ∀ j, h14.2.1 c j = h.2.1 c j := by intro c hc j; rw [← hh14, ri_rc _ hc]; exact o10 c hc j
  clear hh14
  simp (disch := omega) only [rf_r2 R14 hq, ln_r2 hq, Option.bind_some, o14 q e1, h6, nx_lt, nx_le, nx_eq, nx_add, nx_sub, nx_mul, nx_cl, n_lt_ng, n_le_ng, n_eq_ng, ng_lt_n, ng_le_n, ng_eq_n, ng_eq, ng_lt, ng_le, nx_dec, gi_n]
  rw [if_pos (by simp; omega), sp_bd]
  simp (disch := omega) only [rf_r3 R14.setI hq, ln_r3 hq, Option.bind_some, ri_c, o14 q e1, h6, nx_lt, nx_le, nx_eq, nx_add, nx_sub, nx_mul, nx_cl, n_lt_ng, n_le_ng, n_eq_ng, ng_lt_n, ng_le_n, ng_eq_n, ng_eq, ng_lt, ng_le, nx_dec, gi_n]
  rw [if_pos (by simp; omega), sp_bd, sp_some]
  refine ⟨(f14.setI (.inr (.inl rfl))).setI (.inr (.inr rfl)), fun x hx => ?_, fun j hj => ?_, ?_, ?_, fun r hr => ⟨?_, ?_⟩⟩
  · rw [ri_c _ e4, ri_c _ e3, c14, if_neg (by omega), c10, if_neg (by omega), c7, if_neg (by omega), c4, if_neg (by omega)]
  · rw [ri_c _ e4, ri_c _ e3, c14]
    by_cases j1 : j < i
    · rw [if_neg (by omega), c10, if_neg (by omega), c7, if_neg (by omega), c4, if_pos (by omega), if_pos j1]
      exact congrArg _ (by omega)
    · by_cases j2 : j = i
      · subst j2
        rw [if_neg (by omega), c10, if_neg (by omega), c7, if_pos rfl, if_neg j1, if_pos rfl]
      · by_cases j3 : j = i + 1
        · subst j3
          rw [if_neg (by omega), c10, if_pos (by omega), if_neg j1, if_neg j2, if_pos rfl]
        · rw [if_pos (by omega), c10, if_neg (by omega), c7, if_neg (by omega), c4, if_neg (by omega), if_neg j1, if_neg j2, if_neg j3]
          exact congrArg _ (by omega)
  · rw [ri_c _ e5, ri_s]
  · rw [ri_s]
  · rw [ri_c _ e5, ri_j _ hr]; exact o14 _ e6 _
  · rw [ri_j _ hr, ri_c _ e8]; exact o14 _ e7 _
end RG
