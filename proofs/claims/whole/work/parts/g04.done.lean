/-! Calls: done. -/
def tellA (A : Nat → Int32) (o : Nat) (z : Bool) : Nat → Int32 := upA (upA (upA A (206 + 2 * an A 226) (nI o)) (206 + 2 * an A 226 + 1) (nI z.toNat)) 226 (nI (an A 226 + 1))
def clrA (A : Nat → Int32) : Nat → Int32 := upA A 226 (nI 0)
section DO
variable {h : pm_H} {s : Nat} {A : Nat → Int32}
theorem tell_226 (hn : an A 226 < 10) (o : Nat) (z : Bool) : tellA A o z 226 = nI (an A 226 + 1) ∧ an (tellA A o z) 226 = an A 226 + 1 := by
  have e : tellA A o z 226 = nI (an A 226 + 1) := by unfold tellA; rw [upA_s]
  refine ⟨e, ?_⟩
  unfold an at *
  rw [e, nx_cl (by omega)]
theorem tell_0 {o k : Nat} {z : Bool} (hn : an A 226 < 10) (hk : k < an A 226 + 1) : tellA A o z (206 + 2 * k) = if k = an A 226 then nI o else A (206 + 2 * k) := by
  unfold tellA
  rw [upA_ne (by omega), upA_ne (by omega)]
  by_cases q : k = an A 226
  · rw [if_pos q, q, upA_s]
  · rw [if_neg q, upA_ne (by omega)]
theorem tell_1 {o k : Nat} {z : Bool} (hn : an A 226 < 10) (hk : k < an A 226 + 1) : tellA A o z (206 + 2 * k + 1) = if k = an A 226 then nI z.toNat else A (206 + 2 * k + 1) := by
  unfold tellA
  rw [upA_ne (by omega)]
  by_cases q : k = an A 226
  · rw [if_pos q, q, upA_s]
  · rw [if_neg q, upA_ne (by omega), upA_ne (by omega)]
theorem tell_wf (w : WFA A) {o : Nat} (z : Bool) (ho : o < an A 2) (hn : an A 226 < 10) : LowS (tellA A o z) A ∧ WFA (tellA A o z) := by
  have e : LowS (tellA A o z) A := fun j hj => by unfold tellA; rw [upA_ne (by omega), upA_ne (by omega), upA_ne (by omega)]
  have t := tell_226 hn o z
  refine ⟨e, WFA_low w e (by rw [t.1]; exact ⟨_, by omega, rfl⟩) (fun k hk => ?_)⟩
  rw [t.2] at hk
  rw [tell_0 hn hk, tell_1 hn hk]
  by_cases q : k = an A 226
  · rw [if_pos q, if_pos q]
    exact ⟨⟨o, ho, rfl⟩, z.toNat, by cases z <;> decide, rfl⟩
  · rw [if_neg q, if_neg q]
    exact w.2.2.2.2.2.2.2.2.2.2.2 k (by omega)
theorem clr_wf (w : WFA A) : LowS (clrA A) A ∧ WFA (clrA A) := by
  have e : LowS (clrA A) A := fun j hj => by unfold clrA; rw [upA_ne (by omega)]
  have e2 : clrA A 226 = nI 0 := by unfold clrA; rw [upA_s]
  refine ⟨e, WFA_low w e (by rw [e2]; exact ⟨0, by omega, rfl⟩) (fun k hk => ?_)⟩
  have : an (clrA A) 226 = 0 := by unfold an; rw [e2]; rfl
  omega
theorem w_tell_sp (Q : QI h s A) {o : Nat} (z : Bool) (hn : an A 226 < 10) : SP (w_tell 168 (nI o) (nI z.toNat) h) (fun h' => Fr DF h h' ∧ CDn h' 168 (tellA A o z)) := by
  obtain ⟨R, h1, S, H, D, w, K⟩ := Q
  obtain ⟨d0, d1, d2, d, d3, d4, d5⟩ := D
  have e226 := w.d0
  have t := tell_226 hn o z
  unfold w_tell w_tell_56
  simp only [kc_im8, kc_im1, kc_i0, kc_i1, kc_i2, kc_i3, kc_i4, kc_i5, kc_b_m100, kc_b_m16, kc_b_m15, kc_b_m14, kc_b_m13, kc_b_m12, kc_b_m11, kc_b_m2, kc_b_6, kc_b_7, kc_b_8, kc_b_9, kc_b_10, kc_b_11, kc_b_12, kc_b_13, kc_b_14, kc_b_15, kc_b_16, kc_b_20, kc_b_24, kc_b_32, kc_b_37, kc_b_40, kc_b_42, kc_b_43, kc_b_45, kc_b_47, kc_b_48, kc_b_57, kc_b_58, kc_b_59, kc_b_60, kc_b_61, kc_b_62, kc_b_63, kc_b_91, kc_b_93, kc_b_97, kc_b_99, kc_b_100, kc_b_106, kc_b_122, kc_s_206, kc_s_226, kc_s_227, kc_s_255, kc_s_256, kc_s_316, kc_s_318, kc_s_400, kc_s_512, kc_s_999, kc_s_1160, kc_s_1536, kc_s_3003, kc_lm11, kc_lm10, kc_lm9, kc_lm8, kc_lm7, kc_lm6, kc_lm5, kc_lm4, kc_lm3, kc_lm2, kc_lm1, kc_l1, kc_l2, kc_l3, kc_l4, kc_l5, kc_l6, kc_l7, kc_l8, kc_l9, kc_l10, kc_l11, kc_l12, kc_l13, kc_l14, kc_l37, kc_l42, kc_l43, kc_l45, kc_l47, kc_l60, kc_l61, kc_l62, kc_l316, kc_l318, kc_l65536, kc_l99999, kc_l1000000, kc_l252645135, kc_l858993459, kc_l1431655765, kc_0, kc_on]
  rw [d1, e226.1]
  refine sp_neg (by rw [nx_lt (by omega) (by omega)]; omega) (sp_pos (by rw [nx_lt (by omega) (by omega)]; exact hn) ?_)
  rw [rf_w3 R d0, Option.bind_some, ln_w3 d0, gi_n (by omega), nx_cl (by omega)]
  refine sp_pos (by simp; omega) ?_
  rw [sp_bd, ri_c _ (by omega), ri_c _ (by omega), d4, d1, e226.1, nx_shl1 (by omega), nx_andn, nx_or2]
  have fin : ∀ d', d' < 1024 → (∀ k, k < an A 226 + 1 → d'.testBit k = if k = an A 226 then z else d.testBit k) → SP (bd (pm_setI (pm_setI h (168 + 4) (an A 226) (nI o)) 168 4 (nI d')) fun h1 => bd (pm_setI h1 168 2 (h1.2.1 168 2 + nI 1)) fun h2 => some h2) (fun h' => Fr DF h h' ∧ CDn h' 168 (tellA A o z)) := by
    intro d' hd' hb
    rw [sp_bd, sp_bd, sp_some, ri_j _ (by omega), ri_c _ (by omega), d1, e226.1, nx_add]
    refine ⟨(((Fr.refl DF h).setI (.inr rfl)).setI (.inl rfl)).setI (.inl rfl), d0, by rw [ri_s, t.1], fun k hk => ?_, d', hd', ?_, fun k hk => ?_⟩
    · rw [t.2] at hk
      rw [ri_c _ (by omega), ri_c _ (by omega), tell_0 hn hk]
      by_cases q : k = an A 226
      · rw [if_pos q, q, ri_s]
      · rw [if_neg q, ri_j _ q]; exact d2 k (by omega)
    · rw [ri_j _ (by omega), ri_s]
    · rw [t.2] at hk
      rw [tell_1 hn hk, hb k hk]
      by_cases q : k = an A 226
      · rw [if_pos q, if_pos q]
      · rw [if_neg q, if_neg q]; exact d5 k (by omega)
  cases z
  · refine sp_pos rfl (fin _ (sd_lt (n := 10) _ d3) (fun k hk => ?_))
    rw [sd_bit, Nat.testBit_two_pow]
    by_cases q : k = an A 226
    · simp [q]
    · have : ¬ an A 226 = k := fun z => q z.symm
      simp [q, this]
  · refine sp_neg n10 (fin _ (Nat.or_lt_two_pow (n := 10) d3 (Nat.pow_lt_pow_right (by omega) hn)) (fun k hk => ?_))
    rw [Nat.testBit_or, Nat.testBit_two_pow]
    by_cases q : k = an A 226
    · simp [q]
    · have : ¬ an A 226 = k := fun z => q z.symm
      simp [q, this]
theorem x_done_ok (Q : QI h s A) {o : Nat} (z : Bool) (ho : o < an A 2) (hn : an A 226 < 10) : SP (x_done 0 (nI o) (nI z.toNat) h) (fun r => r.1 = nI (an A 226 + 1) ∧ Fr DF h r.2 ∧ QI r.2 s (tellA A o z)) := by
  have Q' := Q
  obtain ⟨R, h1, S, H, D, w, K⟩ := Q
  have e2 := w.e2
  have e226 := w.d0
  unfold x_done
  simp only [kc_im8, kc_im1, kc_i0, kc_i1, kc_i2, kc_i3, kc_i4, kc_i5, kc_b_m100, kc_b_m16, kc_b_m15, kc_b_m14, kc_b_m13, kc_b_m12, kc_b_m11, kc_b_m2, kc_b_6, kc_b_7, kc_b_8, kc_b_9, kc_b_10, kc_b_11, kc_b_12, kc_b_13, kc_b_14, kc_b_15, kc_b_16, kc_b_20, kc_b_24, kc_b_32, kc_b_37, kc_b_40, kc_b_42, kc_b_43, kc_b_45, kc_b_47, kc_b_48, kc_b_57, kc_b_58, kc_b_59, kc_b_60, kc_b_61, kc_b_62, kc_b_63, kc_b_91, kc_b_93, kc_b_97, kc_b_99, kc_b_100, kc_b_106, kc_b_122, kc_s_206, kc_s_226, kc_s_227, kc_s_255, kc_s_256, kc_s_316, kc_s_318, kc_s_400, kc_s_512, kc_s_999, kc_s_1160, kc_s_1536, kc_s_3003, kc_lm11, kc_lm10, kc_lm9, kc_lm8, kc_lm7, kc_lm6, kc_lm5, kc_lm4, kc_lm3, kc_lm2, kc_lm1, kc_l1, kc_l2, kc_l3, kc_l4, kc_l5, kc_l6, kc_l7, kc_l8, kc_l9, kc_l10, kc_l11, kc_l12, kc_l13, kc_l14, kc_l37, kc_l42, kc_l43, kc_l45, kc_l47, kc_l60, kc_l61, kc_l62, kc_l316, kc_l318, kc_l65536, kc_l99999, kc_l1000000, kc_l252645135, kc_l858993459, kc_l1431655765, kc_0, kc_on]
  refine sp_pos (by rw [n_eq_ng (by omega) (by omega) (by omega)]; exact id) ?_
  rw [ra_0_4 R, Option.bind_some, Q'.now, Option.bind_some, c_hasOrder_t S w ho, Option.bind_some]
  refine sp_neg n10 ?_
  rw [Option.bind_some, D.2.1, e226.1]
  refine sp_pos (by rw [nx_lt (by omega) (by omega)]; exact hn) ?_
  rw [Option.bind_some]
  refine sp_call (w_tell_sp Q' z hn) ?_
  rintro h2 ⟨f2, D2⟩
  have t := tell_wf w z ho hn
  have Q2 := Q'.tell f2 t.1 t.2 D2
  rw [ra_0_4 Q2.1, Option.bind_some, sp_some]
  exact ⟨by show h2.2.1 168 2 = _; rw [D2.2.1]; exact (tell_226 hn o z).1, f2, Q2⟩
theorem x_done_clr (Q : QI h s A) (y : Int32) : SP (x_done 0 (ng 1) y h) (fun r => r.1 = nI 0 ∧ Fr DF h r.2 ∧ QI r.2 s (clrA A)) := by
  have Q' := Q
  obtain ⟨R, h1, S, H, D, w, K⟩ := Q
  have t := clr_wf w
  unfold x_done
  simp only [kc_im8, kc_im1, kc_i0, kc_i1, kc_i2, kc_i3, kc_i4, kc_i5, kc_b_m100, kc_b_m16, kc_b_m15, kc_b_m14, kc_b_m13, kc_b_m12, kc_b_m11, kc_b_m2, kc_b_6, kc_b_7, kc_b_8, kc_b_9, kc_b_10, kc_b_11, kc_b_12, kc_b_13, kc_b_14, kc_b_15, kc_b_16, kc_b_20, kc_b_24, kc_b_32, kc_b_37, kc_b_40, kc_b_42, kc_b_43, kc_b_45, kc_b_47, kc_b_48, kc_b_57, kc_b_58, kc_b_59, kc_b_60, kc_b_61, kc_b_62, kc_b_63, kc_b_91, kc_b_93, kc_b_97, kc_b_99, kc_b_100, kc_b_106, kc_b_122, kc_s_206, kc_s_226, kc_s_227, kc_s_255, kc_s_256, kc_s_316, kc_s_318, kc_s_400, kc_s_512, kc_s_999, kc_s_1160, kc_s_1536, kc_s_3003, kc_lm11, kc_lm10, kc_lm9, kc_lm8, kc_lm7, kc_lm6, kc_lm5, kc_lm4, kc_lm3, kc_lm2, kc_lm1, kc_l1, kc_l2, kc_l3, kc_l4, kc_l5, kc_l6, kc_l7, kc_l8, kc_l9, kc_l10, kc_l11, kc_l12, kc_l13, kc_l14, kc_l37, kc_l42, kc_l43, kc_l45, kc_l47, kc_l60, kc_l61, kc_l62, kc_l316, kc_l318, kc_l65536, kc_l99999, kc_l1000000, kc_l252645135, kc_l858993459, kc_l1431655765, kc_0, kc_on]
  refine sp_neg (fun z => z trivial) ?_
  rw [ra_0_4 R, Option.bind_some, sp_bd, sp_some]
  have f : Fr DF h (pm_setI h 168 2 (nI 0)) := (Fr.refl DF h).setI (.inl rfl)
  have c : clrA A 226 = nI 0 := by unfold clrA; rw [upA_s]
  have c0 : an (clrA A) 226 = 0 := by unfold an; rw [c]; rfl
  refine ⟨rfl, f, Q'.tell f t.1 t.2 ?_⟩
  obtain ⟨d0, d1, d2, d, d3, d4, d5⟩ := D
  exact ⟨d0, by rw [ri_s, c], fun k hk => by omega, d, d3, by rw [ri_j _ (by omega)]; exact d4, fun k hk => by omega⟩
theorem x_done_no (Q : QI h s A) {x y : Int32} (hx : ¬ x = ng 1) (no : ¬ ∃ o, x = nI o ∧ o < an A 2 ∧ an A 226 < 10) : x_done 0 x y h = some (ng 2, h) := by
  have Q' := Q
  obtain ⟨R, h1, S, H, D, w, K⟩ := Q
  have e226 := w.d0
  unfold x_done
  simp only [kc_im8, kc_im1, kc_i0, kc_i1, kc_i2, kc_i3, kc_i4, kc_i5, kc_b_m100, kc_b_m16, kc_b_m15, kc_b_m14, kc_b_m13, kc_b_m12, kc_b_m11, kc_b_m2, kc_b_6, kc_b_7, kc_b_8, kc_b_9, kc_b_10, kc_b_11, kc_b_12, kc_b_13, kc_b_14, kc_b_15, kc_b_16, kc_b_20, kc_b_24, kc_b_32, kc_b_37, kc_b_40, kc_b_42, kc_b_43, kc_b_45, kc_b_47, kc_b_48, kc_b_57, kc_b_58, kc_b_59, kc_b_60, kc_b_61, kc_b_62, kc_b_63, kc_b_91, kc_b_93, kc_b_97, kc_b_99, kc_b_100, kc_b_106, kc_b_122, kc_s_206, kc_s_226, kc_s_227, kc_s_255, kc_s_256, kc_s_316, kc_s_318, kc_s_400, kc_s_512, kc_s_999, kc_s_1160, kc_s_1536, kc_s_3003, kc_lm11, kc_lm10, kc_lm9, kc_lm8, kc_lm7, kc_lm6, kc_lm5, kc_lm4, kc_lm3, kc_lm2, kc_lm1, kc_l1, kc_l2, kc_l3, kc_l4, kc_l5, kc_l6, kc_l7, kc_l8, kc_l9, kc_l10, kc_l11, kc_l12, kc_l13, kc_l14, kc_l37, kc_l42, kc_l43, kc_l45, kc_l47, kc_l60, kc_l61, kc_l62, kc_l316, kc_l318, kc_l65536, kc_l99999, kc_l1000000, kc_l252645135, kc_l858993459, kc_l1431655765, kc_0, kc_on]
  rw [if_pos hx, ra_0_4 R, Option.bind_some, Q'.now, Option.bind_some]
  by_cases q : ∃ k, k < an A 2 ∧ x = nI k
  · obtain ⟨o, ho, rfl⟩ := q
    rw [c_hasOrder_t S w ho, Option.bind_some, if_neg n10, Option.bind_some, D.2.1, e226.1, if_neg (by rw [nx_lt (by omega) (by omega)]; exact fun z => no ⟨o, rfl, ho, z⟩)]
  · rw [c_hasOrder_f S w q, Option.bind_some, if_pos rfl]
end DO
