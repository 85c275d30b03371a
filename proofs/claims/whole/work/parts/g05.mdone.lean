/-! Calls: done of the reference. -/
section MD
variable {h : pm_H} {A : Nat → Int32}
theorem m_done_ok (M : MI h A) {o : Nat} (z : Bool) (ho : o < an A 2) (hn : an A 226 < 10) : SP (m_done 193 (nI o) (nI z.toNat) h) (fun r => r.1 = nI (an A 226 + 1) ∧ FrM (· = 203) (fun _ => False) h r.2 ∧ MI r.2 (tellA A o z)) := by
  have M' := M
  obtain ⟨R, hA, w⟩ := M
  have e2 := w.e2
  have e226 := w.d0
  unfold m_done m_done_89
  simp only [kc_im8, kc_im1, kc_i0, kc_i1, kc_i2, kc_i3, kc_i4, kc_i5, kc_b_m100, kc_b_m16, kc_b_m15, kc_b_m14, kc_b_m13, kc_b_m12, kc_b_m11, kc_b_m2, kc_b_6, kc_b_7, kc_b_8, kc_b_9, kc_b_10, kc_b_11, kc_b_12, kc_b_13, kc_b_14, kc_b_15, kc_b_16, kc_b_20, kc_b_24, kc_b_32, kc_b_37, kc_b_40, kc_b_42, kc_b_43, kc_b_45, kc_b_47, kc_b_48, kc_b_57, kc_b_58, kc_b_59, kc_b_60, kc_b_61, kc_b_62, kc_b_63, kc_b_91, kc_b_93, kc_b_97, kc_b_99, kc_b_100, kc_b_106, kc_b_122, kc_s_206, kc_s_226, kc_s_227, kc_s_255, kc_s_256, kc_s_316, kc_s_318, kc_s_400, kc_s_512, kc_s_999, kc_s_1160, kc_s_1536, kc_s_3003, kc_lm11, kc_lm10, kc_lm9, kc_lm8, kc_lm7, kc_lm6, kc_lm5, kc_lm4, kc_lm3, kc_lm2, kc_lm1, kc_l1, kc_l2, kc_l3, kc_l4, kc_l5, kc_l6, kc_l7, kc_l8, kc_l9, kc_l10, kc_l11, kc_l12, kc_l13, kc_l14, kc_l37, kc_l42, kc_l43, kc_l45, kc_l47, kc_l60, kc_l61, kc_l62, kc_l316, kc_l318, kc_l65536, kc_l99999, kc_l1000000, kc_l252645135, kc_l858993459, kc_l1431655765, kc_0, kc_on]
  refine sp_pos (by rw [n_eq_ng (by omega) (by omega) (by omega)]; exact id) ?_
  rw [m_isOrder_t M' ho, Option.bind_some]
  refine sp_neg n10 ?_
  rw [ra_193_20 R, Option.bind_some, mn_203, gi_n (by omega), nx_cl (by omega), hA, e226.1]
  refine sp_pos (by simp) (sp_pos (by rw [nx_eq (by omega) (by omega)]; omega) ?_)
  rw [Option.bind_some, Option.bind_some, mn_203, gi_n (by omega), hA, e226.1]
  refine sp_pos (by simp) ?_
  rw [nx_mul, nx_add, gi_n (by omega), nx_cl (by omega)]
  refine sp_pos (by simp; omega) ?_
  rw [sp_bd]
  have c1 := set203 hA (206 + 2 * an A 226) (nI o)
  have R1 : RF (pm_setI h 203 (206 + 2 * an A 226) (nI o)) := R.setI
  have f1 : FrM (· = 203) (fun _ => False) h (pm_setI h 203 (206 + 2 * an A 226) (nI o)) := (FrM.refl _ _ h).setI (by omega) rfl
  generalize pm_setI h 203 (206 + 2 * an A 226) (nI o) = h1 at c1 R1 f1
  rw [ra_193_20 R1, Option.bind_some, Option.bind_some, mn_203, gi_n (by omega), c1, upA_ne (by omega), e226.1]
  refine sp_pos (by simp) ?_
  rw [nx_mul, nx_add, nx_add]
  have fin : ∀ v : Int32, v = nI z.toNat → SP (if mi_in (nI (206 + 2 * an A 226 + 1)) 227 = true then bd (pm_setI h1 203 (nI (206 + 2 * an A 226 + 1)).toNatClampNeg v) fun h2 => (gA h2 193 20 .int).bind fun y3 => if mi_in (nI 226) (mi_n y3) = true then if mi_in (nI 226) (mi_n y3) = true then bd (pm_setI h2 y3 226 (h2.2.1 y3 226 + nI 1)) fun h6 => (gA h6 193 20 .int).bind fun y7 => if mi_in (nI 226) (mi_n y7) = true then some (h6.2.1 y7 226, h6) else none else none else none else none) (fun r => r.1 = nI (an A 226 + 1) ∧ FrM (· = 203) (fun _ => False) h r.2 ∧ MI r.2 (tellA A o z)) := by
    rintro v rfl
    rw [gi_n (by omega), nx_cl (by omega)]
    refine sp_pos (by simp; omega) ?_
    rw [sp_bd]
    have c2 := set203 c1 (206 + 2 * an A 226 + 1) (nI z.toNat)
    have R2 : RF (pm_setI h1 203 (206 + 2 * an A 226 + 1) (nI z.toNat)) := R1.setI
    have f2 : FrM (· = 203) (fun _ => False) h (pm_setI h1 203 (206 + 2 * an A 226 + 1) (nI z.toNat)) := f1.setI (by omega) rfl
    generalize pm_setI h1 203 (206 + 2 * an A 226 + 1) (nI z.toNat) = h2 at c2 R2 f2
    rw [ra_193_20 R2, Option.bind_some, mn_203, gi_n (by omega)]
    refine sp_pos (by simp) (sp_pos (by simp) ?_)
    rw [sp_bd, c2, upA_ne (by omega), upA_ne (by omega), e226.1, nx_add]
    have c3 := set203 c2 226 (nI (an A 226 + 1))
    have R3 : RF (pm_setI h2 203 226 (nI (an A 226 + 1))) := R2.setI
    have f3 : FrM (· = 203) (fun _ => False) h (pm_setI h2 203 226 (nI (an A 226 + 1))) := f2.setI (by omega) rfl
    generalize pm_setI h2 203 226 (nI (an A 226 + 1)) = h3 at c3 R3 f3
    rw [ra_193_20 R3, Option.bind_some, mn_203, gi_n (by omega)]
    refine sp_pos (by simp) (sp_some.mpr ⟨?_, f3, R3, c3, (tell_wf w z ho hn).2⟩)
    show h3.2.1 203 226 = _
    rw [c3, upA_s]
  cases z
  · exact sp_pos rfl (fin _ rfl)
  · exact sp_neg n10 (fin _ rfl)
theorem m_done_clr (M : MI h A) (y : Int32) : SP (m_done 193 (ng 1) y h) (fun r => r.1 = nI 0 ∧ FrM (· = 203) (fun _ => False) h r.2 ∧ MI r.2 (clrA A)) := by
  obtain ⟨R, hA, w⟩ := M
  unfold m_done
  simp only [kc_im8, kc_im1, kc_i0, kc_i1, kc_i2, kc_i3, kc_i4, kc_i5, kc_b_m100, kc_b_m16, kc_b_m15, kc_b_m14, kc_b_m13, kc_b_m12, kc_b_m11, kc_b_m2, kc_b_6, kc_b_7, kc_b_8, kc_b_9, kc_b_10, kc_b_11, kc_b_12, kc_b_13, kc_b_14, kc_b_15, kc_b_16, kc_b_20, kc_b_24, kc_b_32, kc_b_37, kc_b_40, kc_b_42, kc_b_43, kc_b_45, kc_b_47, kc_b_48, kc_b_57, kc_b_58, kc_b_59, kc_b_60, kc_b_61, kc_b_62, kc_b_63, kc_b_91, kc_b_93, kc_b_97, kc_b_99, kc_b_100, kc_b_106, kc_b_122, kc_s_206, kc_s_226, kc_s_227, kc_s_255, kc_s_256, kc_s_316, kc_s_318, kc_s_400, kc_s_512, kc_s_999, kc_s_1160, kc_s_1536, kc_s_3003, kc_lm11, kc_lm10, kc_lm9, kc_lm8, kc_lm7, kc_lm6, kc_lm5, kc_lm4, kc_lm3, kc_lm2, kc_lm1, kc_l1, kc_l2, kc_l3, kc_l4, kc_l5, kc_l6, kc_l7, kc_l8, kc_l9, kc_l10, kc_l11, kc_l12, kc_l13, kc_l14, kc_l37, kc_l42, kc_l43, kc_l45, kc_l47, kc_l60, kc_l61, kc_l62, kc_l316, kc_l318, kc_l65536, kc_l99999, kc_l1000000, kc_l252645135, kc_l858993459, kc_l1431655765, kc_0, kc_on]
  refine sp_neg (fun z => z trivial) ?_
  rw [ra_193_20 R, Option.bind_some, mn_203, gi_n (by omega), nx_cl (by omega)]
  refine sp_pos (by simp) ?_
  rw [sp_bd, sp_some]
  exact ⟨rfl, (FrM.refl _ _ h).setI (by omega) rfl, R.setI, set203 hA 226 (nI 0), (clr_wf w).2⟩
theorem m_done_no (M : MI h A) {x y : Int32} (hx : ¬ x = ng 1) (no : ¬ ∃ o, x = nI o ∧ o < an A 2 ∧ an A 226 < 10) : m_done 193 x y h = some (ng 2, h) := by
  have M' := M
  obtain ⟨R, hA, w⟩ := M
  have e226 := w.d0
  unfold m_done
  simp only [kc_im8, kc_im1, kc_i0, kc_i1, kc_i2, kc_i3, kc_i4, kc_i5, kc_b_m100, kc_b_m16, kc_b_m15, kc_b_m14, kc_b_m13, kc_b_m12, kc_b_m11, kc_b_m2, kc_b_6, kc_b_7, kc_b_8, kc_b_9, kc_b_10, kc_b_11, kc_b_12, kc_b_13, kc_b_14, kc_b_15, kc_b_16, kc_b_20, kc_b_24, kc_b_32, kc_b_37, kc_b_40, kc_b_42, kc_b_43, kc_b_45, kc_b_47, kc_b_48, kc_b_57, kc_b_58, kc_b_59, kc_b_60, kc_b_61, kc_b_62, kc_b_63, kc_b_91, kc_b_93, kc_b_97, kc_b_99, kc_b_100, kc_b_106, kc_b_122, kc_s_206, kc_s_226, kc_s_227, kc_s_255, kc_s_256, kc_s_316, kc_s_318, kc_s_400, kc_s_512, kc_s_999, kc_s_1160, kc_s_1536, kc_s_3003, kc_lm11, kc_lm10, kc_lm9, kc_lm8, kc_lm7, kc_lm6, kc_lm5, kc_lm4, kc_lm3, kc_lm2, kc_lm1, kc_l1, kc_l2, kc_l3, kc_l4, kc_l5, kc_l6, kc_l7, kc_l8, kc_l9, kc_l10, kc_l11, kc_l12, kc_l13, kc_l14, kc_l37, kc_l42, kc_l43, kc_l45, kc_l47, kc_l60, kc_l61, kc_l62, kc_l316, kc_l318, kc_l65536, kc_l99999, kc_l1000000, kc_l252645135, kc_l858993459, kc_l1431655765, kc_0, kc_on]
  rw [if_pos hx]
  by_cases q : ∃ k, k < an A 2 ∧ x = nI k
  · obtain ⟨o, ho, rfl⟩ := q
    rw [m_isOrder_t M' ho, Option.bind_some, if_neg n10, ra_193_20 R, Option.bind_some, mn_203, gi_n (by omega), nx_cl (by omega), hA, e226.1, if_pos (by simp), if_neg (by rw [nx_eq (by omega) (by omega)]; exact fun z => no ⟨o, rfl, ho, by omega⟩)]
  · rw [m_isOrder_f M' q, Option.bind_some, if_pos rfl]
end MD
