/-! Acts: hour, undo. -/
section HO
variable {h : pm_H} {s n : Nat} {A : Nat → Int32} {P : Nat → Nat → Int32}
def hourOk (A : Nat → Int32) : Prop := 0 < an A 0 ∧ an A 4 < 999
theorem PF.af {c : Nat} (h : PF c) : AF c := by unfold PF at h; unfold AF; omega
theorem CP.fr {h' : pm_H} (C : CP h n P) (h6 : h'.2.1 6 = h.2.1 6) (hr : ∀ c, 8 ≤ c → c ≤ 67 → h'.2.1 c = h.2.1 c) : CP h' n P := by
  obtain ⟨c0, c1, l, c2, c3, c4⟩ := C
  refine ⟨c0, by rw [h6]; exact c1, l, c2, by rw [h6]; exact c3, fun i hi => ?_⟩
  have hlt : (l + 20 - i) % 20 < 20 := by omega
  obtain ⟨d1, d2⟩ := c4 i hi
  exact ⟨d1.of (hr _ (by omega) (by omega)) (hr _ (by omega) (by omega)) (hr _ (by omega) (by omega)), d2⟩
theorem x_hour_ok (Q : QI h s A) (C : CP h n P) (ok : hourOk A) : SP (x_hour 0 h) (fun z => z.1 = nI (an A 4 + 1) ∧ Fr AF h z.2 ∧ QI z.2 s (psA A) ∧ CP z.2 (min (n + 1) 20) (push A P)) := by
  have Q' := Q
  obtain ⟨R, h1, S, H, D, w, K⟩ := Q
  obtain ⟨k0, k4⟩ := ok
  have e4 := w.e4
  unfold x_hour
  rw [ra_0_4 R, Option.bind_some, Q'.now, Option.bind_some, c_sails S w, Option.bind_some]
  simp only [kc_im8, kc_im1, kc_i0, kc_i1, kc_i2, kc_i3, kc_i4, kc_i5, kc_b_m100, kc_b_m16, kc_b_m15, kc_b_m14, kc_b_m13, kc_b_m12, kc_b_m11, kc_b_m2, kc_b_6, kc_b_7, kc_b_8, kc_b_9, kc_b_10, kc_b_11, kc_b_12, kc_b_13, kc_b_14, kc_b_15, kc_b_16, kc_b_20, kc_b_24, kc_b_32, kc_b_37, kc_b_40, kc_b_42, kc_b_43, kc_b_45, kc_b_47, kc_b_48, kc_b_57, kc_b_58, kc_b_59, kc_b_60, kc_b_61, kc_b_62, kc_b_63, kc_b_91, kc_b_93, kc_b_97, kc_b_99, kc_b_100, kc_b_106, kc_b_122, kc_s_206, kc_s_226, kc_s_227, kc_s_255, kc_s_256, kc_s_316, kc_s_318, kc_s_400, kc_s_512, kc_s_999, kc_s_1160, kc_s_1536, kc_s_3003, kc_lm11, kc_lm10, kc_lm9, kc_lm8, kc_lm7, kc_lm6, kc_lm5, kc_lm4, kc_lm3, kc_lm2, kc_lm1, kc_l1, kc_l2, kc_l3, kc_l4, kc_l5, kc_l6, kc_l7, kc_l8, kc_l9, kc_l10, kc_l11, kc_l12, kc_l13, kc_l14, kc_l37, kc_l42, kc_l43, kc_l45, kc_l47, kc_l60, kc_l61, kc_l62, kc_l316, kc_l318, kc_l65536, kc_l99999, kc_l1000000, kc_l252645135, kc_l858993459, kc_l1431655765, kc_0, kc_on]
  refine sp_neg (by rw [decide_eq_true k0]; exact n10) ?_
  rw [Option.bind_some, q_hands Q', Option.bind_some, H.2.2.2.1, e4.1]
  refine sp_pos (by rw [nx_lt (by omega) (by omega)]; omega) ?_
  rw [ra_0_6 R, Option.bind_some, Option.bind_some, q_hands Q', Option.bind_some]
  refine sp_call (p_keep_sp w R H C) ?_
  rintro h2 ⟨f2, C2⟩
  have R2 := R.fr f2
  have H2 : CHd h2 169 A := H.of (f2.2.2 169 (by unfold PF; omega)).1 (f2.2.2 170 (by unfold PF; omega)).1 (f2.2.2 171 (by unfold PF; omega)).1
  rw [ra_0_4 R2, Option.bind_some, rf_w1 R2 o169, Option.bind_some]
  refine sp_call (n_pass_sp w R2 H2) ?_
  rintro h3 ⟨f3, H3⟩
  have f23 : Fr AF h h3 := (f2.mono (fun c hc => hc.af)).trans (f3.mono (fun c hc => by unfold HC at hc; unfold AF; omega))
  have R3 := R.fr f23
  rw [ra_0_4 R3, Option.bind_some, rf_w1 R3 o169, Option.bind_some, sp_some]
  refine ⟨?_, f23, Q'.act f23 (psA_same w) (psA_wf w (by omega)) H3, C2.fr (f3.2.2 6 (by unfold HC; omega)).1 (fun c a b => (f3.2.2 c (by unfold HC; omega)).1)⟩
  show h3.2.1 169 2 = _
  rw [H3.2.2.2.1]
  unfold psA
  rw [if_pos rfl, e4.1, nx_add]
theorem x_hour_no (Q : QI h s A) (h4 : an A 4 ≤ 999) (no : ¬ hourOk A) : x_hour 0 h = some (ng 1, h) := by
  have Q' := Q
  obtain ⟨R, h1, S, H, D, w, K⟩ := Q
  have e4 := w.e4
  unfold x_hour
  rw [ra_0_4 R, Option.bind_some, Q'.now, Option.bind_some, c_sails S w, Option.bind_some]
  simp only [kc_im8, kc_im1, kc_i0, kc_i1, kc_i2, kc_i3, kc_i4, kc_i5, kc_b_m100, kc_b_m16, kc_b_m15, kc_b_m14, kc_b_m13, kc_b_m12, kc_b_m11, kc_b_m2, kc_b_6, kc_b_7, kc_b_8, kc_b_9, kc_b_10, kc_b_11, kc_b_12, kc_b_13, kc_b_14, kc_b_15, kc_b_16, kc_b_20, kc_b_24, kc_b_32, kc_b_37, kc_b_40, kc_b_42, kc_b_43, kc_b_45, kc_b_47, kc_b_48, kc_b_57, kc_b_58, kc_b_59, kc_b_60, kc_b_61, kc_b_62, kc_b_63, kc_b_91, kc_b_93, kc_b_97, kc_b_99, kc_b_100, kc_b_106, kc_b_122, kc_s_206, kc_s_226, kc_s_227, kc_s_255, kc_s_256, kc_s_316, kc_s_318, kc_s_400, kc_s_512, kc_s_999, kc_s_1160, kc_s_1536, kc_s_3003, kc_lm11, kc_lm10, kc_lm9, kc_lm8, kc_lm7, kc_lm6, kc_lm5, kc_lm4, kc_lm3, kc_lm2, kc_lm1, kc_l1, kc_l2, kc_l3, kc_l4, kc_l5, kc_l6, kc_l7, kc_l8, kc_l9, kc_l10, kc_l11, kc_l12, kc_l13, kc_l14, kc_l37, kc_l42, kc_l43, kc_l45, kc_l47, kc_l60, kc_l61, kc_l62, kc_l316, kc_l318, kc_l65536, kc_l99999, kc_l1000000, kc_l252645135, kc_l858993459, kc_l1431655765, kc_0, kc_on]
  by_cases k0 : 0 < an A 0
  · rw [if_neg (by rw [decide_eq_true k0]; exact n10), Option.bind_some, q_hands Q', Option.bind_some, H.2.2.2.1, e4.1, if_neg]
    rw [nx_lt (by omega) (by omega)]
    intro q
    exact no ⟨k0, q⟩
  · rw [if_pos (by rw [decide_eq_false k0]; rfl)]
theorem m_hour_ok (M : MI h A) (C : MP h n P) (ok : hourOk A) : SP (m_hour 193 h) (fun z => z.1 = nI (an A 4 + 1) ∧ FrM (fun c => c = 203 ∨ c = 208) (· = 28) h z.2 ∧ MI z.2 (psA A) ∧ MP z.2 (min (n + 1) 20) (push A P)) := by
  have M' := M
  obtain ⟨R, hA, w⟩ := M
  obtain ⟨k0, k4⟩ := ok
  have e4 := w.e4
  unfold m_hour
  rw [m_isShip_n M', Option.bind_some]
  simp only [kc_im8, kc_im1, kc_i0, kc_i1, kc_i2, kc_i3, kc_i4, kc_i5, kc_b_m100, kc_b_m16, kc_b_m15, kc_b_m14, kc_b_m13, kc_b_m12, kc_b_m11, kc_b_m2, kc_b_6, kc_b_7, kc_b_8, kc_b_9, kc_b_10, kc_b_11, kc_b_12, kc_b_13, kc_b_14, kc_b_15, kc_b_16, kc_b_20, kc_b_24, kc_b_32, kc_b_37, kc_b_40, kc_b_42, kc_b_43, kc_b_45, kc_b_47, kc_b_48, kc_b_57, kc_b_58, kc_b_59, kc_b_60, kc_b_61, kc_b_62, kc_b_63, kc_b_91, kc_b_93, kc_b_97, kc_b_99, kc_b_100, kc_b_106, kc_b_122, kc_s_206, kc_s_226, kc_s_227, kc_s_255, kc_s_256, kc_s_316, kc_s_318, kc_s_400, kc_s_512, kc_s_999, kc_s_1160, kc_s_1536, kc_s_3003, kc_lm11, kc_lm10, kc_lm9, kc_lm8, kc_lm7, kc_lm6, kc_lm5, kc_lm4, kc_lm3, kc_lm2, kc_lm1, kc_l1, kc_l2, kc_l3, kc_l4, kc_l5, kc_l6, kc_l7, kc_l8, kc_l9, kc_l10, kc_l11, kc_l12, kc_l13, kc_l14, kc_l37, kc_l42, kc_l43, kc_l45, kc_l47, kc_l60, kc_l61, kc_l62, kc_l316, kc_l318, kc_l65536, kc_l99999, kc_l1000000, kc_l252645135, kc_l858993459, kc_l1431655765, kc_0, kc_on]
  refine sp_neg (by rw [decide_eq_true k0]; exact n10) ?_
  rw [ra_193_20 R, Option.bind_some, mn_203, gi_n (by omega), nx_cl (by omega), hA, e4.1]
  refine sp_pos (by simp) (sp_pos (by rw [nx_eq (by omega) (by omega)]; omega) ?_)
  refine sp_call (m_keepsAct_sp M' C) ?_
  rintro h2 ⟨f2, C2⟩
  have M2 : MI h2 A := ⟨R.fm f2, by rw [f2.i (by omega) (by omega)]; exact hA, w⟩
  refine sp_call (m_passes_sp M2) ?_
  rintro h3 ⟨f3, c3⟩
  have M3 : MI h3 (psA A) := ⟨M2.1.fm f3, c3, psA_wf w (by omega)⟩
  rw [ra_193_20 M3.1, Option.bind_some, mn_203, c3]
  refine sp_pos (by rw [gi_n (by omega)]; simp) (sp_some.mpr ⟨?_, (f2.mono (fun c hc => .inr hc) (fun _ q => q)).trans (f3.mono (fun c hc => .inl hc) (fun _ q => q.elim)), M3, ?_⟩)
  · show psA A 4 = _
    unfold psA
    rw [if_pos rfl, e4.1, nx_add]
  · obtain ⟨c0, c1, c2⟩ := C2
    refine ⟨c0, by show h3.2.1 193 28 = _; rw [f3.f (fun q => q)]; exact c1, fun i hi k hk => ?_⟩
    show h3.2.1 208 _ = _
    rw [f3.i (by omega) (by omega)]
    exact c2 i hi k hk
theorem m_hour_no (M : MI h A) (h4 : an A 4 ≤ 999) (no : ¬ hourOk A) : m_hour 193 h = some (ng 1, h) := by
  have M' := M
  obtain ⟨R, hA, w⟩ := M
  have e4 := w.e4
  unfold m_hour
  rw [m_isShip_n M', Option.bind_some]
  simp only [kc_im8, kc_im1, kc_i0, kc_i1, kc_i2, kc_i3, kc_i4, kc_i5, kc_b_m100, kc_b_m16, kc_b_m15, kc_b_m14, kc_b_m13, kc_b_m12, kc_b_m11, kc_b_m2, kc_b_6, kc_b_7, kc_b_8, kc_b_9, kc_b_10, kc_b_11, kc_b_12, kc_b_13, kc_b_14, kc_b_15, kc_b_16, kc_b_20, kc_b_24, kc_b_32, kc_b_37, kc_b_40, kc_b_42, kc_b_43, kc_b_45, kc_b_47, kc_b_48, kc_b_57, kc_b_58, kc_b_59, kc_b_60, kc_b_61, kc_b_62, kc_b_63, kc_b_91, kc_b_93, kc_b_97, kc_b_99, kc_b_100, kc_b_106, kc_b_122, kc_s_206, kc_s_226, kc_s_227, kc_s_255, kc_s_256, kc_s_316, kc_s_318, kc_s_400, kc_s_512, kc_s_999, kc_s_1160, kc_s_1536, kc_s_3003, kc_lm11, kc_lm10, kc_lm9, kc_lm8, kc_lm7, kc_lm6, kc_lm5, kc_lm4, kc_lm3, kc_lm2, kc_lm1, kc_l1, kc_l2, kc_l3, kc_l4, kc_l5, kc_l6, kc_l7, kc_l8, kc_l9, kc_l10, kc_l11, kc_l12, kc_l13, kc_l14, kc_l37, kc_l42, kc_l43, kc_l45, kc_l47, kc_l60, kc_l61, kc_l62, kc_l316, kc_l318, kc_l65536, kc_l99999, kc_l1000000, kc_l252645135, kc_l858993459, kc_l1431655765, kc_0, kc_on]
  by_cases k0 : 0 < an A 0
  · rw [if_neg (by rw [decide_eq_true k0]; exact n10), ra_193_20 R, Option.bind_some, mn_203, gi_n (by omega), nx_cl (by omega), hA, e4.1, if_pos (by simp), if_neg]
    rw [nx_eq (by omega) (by omega)]
    intro q
    exact q (Classical.byContradiction (fun z => no ⟨k0, by omega⟩))
  · rw [if_pos (by rw [decide_eq_false k0]; rfl)]
/-! undo -/
theorem x_undo_sp (Q : QI h s A) (C : CP h n P) (W : PW_ A n P) : SP (x_undo 0 h) (fun z => (n = 0 ∧ z = (ng 1, h)) ∨ (0 < n ∧ z.1 = nI (n - 1) ∧ Fr AF h z.2 ∧ QI z.2 s (mix (P 0) A) ∧ CP z.2 (n - 1) (fun i => P (i + 1)))) := by
  have Q' := Q
  obtain ⟨R, h1, S, H, D, w, K⟩ := Q
  unfold x_undo
  simp only [kc_im8, kc_im1, kc_i0, kc_i1, kc_i2, kc_i3, kc_i4, kc_i5, kc_b_m100, kc_b_m16, kc_b_m15, kc_b_m14, kc_b_m13, kc_b_m12, kc_b_m11, kc_b_m2, kc_b_6, kc_b_7, kc_b_8, kc_b_9, kc_b_10, kc_b_11, kc_b_12, kc_b_13, kc_b_14, kc_b_15, kc_b_16, kc_b_20, kc_b_24, kc_b_32, kc_b_37, kc_b_40, kc_b_42, kc_b_43, kc_b_45, kc_b_47, kc_b_48, kc_b_57, kc_b_58, kc_b_59, kc_b_60, kc_b_61, kc_b_62, kc_b_63, kc_b_91, kc_b_93, kc_b_97, kc_b_99, kc_b_100, kc_b_106, kc_b_122, kc_s_206, kc_s_226, kc_s_227, kc_s_255, kc_s_256, kc_s_316, kc_s_318, kc_s_400, kc_s_512, kc_s_999, kc_s_1160, kc_s_1536, kc_s_3003, kc_lm11, kc_lm10, kc_lm9, kc_lm8, kc_lm7, kc_lm6, kc_lm5, kc_lm4, kc_lm3, kc_lm2, kc_lm1, kc_l1, kc_l2, kc_l3, kc_l4, kc_l5, kc_l6, kc_l7, kc_l8, kc_l9, kc_l10, kc_l11, kc_l12, kc_l13, kc_l14, kc_l37, kc_l42, kc_l43, kc_l45, kc_l47, kc_l60, kc_l61, kc_l62, kc_l316, kc_l318, kc_l65536, kc_l99999, kc_l1000000, kc_l252645135, kc_l858993459, kc_l1431655765, kc_0, kc_on]
  rw [ra_0_6 R, Option.bind_some, ra_0_4 R, Option.bind_some, q_hands Q', Option.bind_some]
  refine sp_call (p_restore_sp R C) ?_
  rintro ⟨v, h2⟩ (⟨n0, e⟩ | ⟨n0, e, f2, C2, H2⟩)
  · cases e
    exact sp_pos rfl (sp_some.mpr (.inl ⟨n0, rfl⟩))
  · dsimp only at e f2 C2 H2
    subst e
    have f2' : Fr AF h h2 := f2.mono (fun c hc => by unfold HC at hc; unfold AF; omega)
    have R2 := R.fr f2'
    have W0 := W 0 n0
    have e1 : an (mix (P 0) A) 1 = an (P 0) 1 := by unfold an; rw [show mix (P 0) A 1 = P 0 1 from if_pos (by omega)]
    have H2' : CHd h2 169 (mix (P 0) A) := by
      obtain ⟨a0, a1, a2, a3, a4, a5, a6⟩ := H2
      have e8 := W0.2.1.e1
      have m58 : ∀ j, j < 58 → mix (P 0) A j = P 0 j := fun j hj => by unfold mix; rw [if_pos hj]
      refine ⟨a0, ?_, ?_, by rw [m58 4 (by omega)]; exact a3, by rw [m58 5 (by omega)]; exact a4, by rw [m58 6 (by omega)]; exact a5, fun m hm => ?_⟩
      · rw [a1, e1]
        exact congrArg nI (bs_congr (fun m hm => by unfold isAw; rw [m58 _ (by omega)]))
      · rw [a2, e1]
        exact congrArg nI (bs_congr (fun m hm => by unfold isDd; rw [m58 _ (by omega)]))
      · rw [m58 _ (by omega), m58 _ (by omega)]
        exact a6 m (by omega)
    refine sp_neg n10 ?_
    rw [ra_0_6 R2, Option.bind_some, sp_some]
    exact .inr ⟨n0, C2.2.1, f2', Q'.act f2' W0.1 W0.2.1 H2', C2⟩
end HO
