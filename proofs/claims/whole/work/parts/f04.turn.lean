/-! Acts: turn, teach. -/
section TU
variable {h : pm_H} {s n : Nat} {A : Nat → Int32} {P : Nat → Nat → Int32}
/-- an act's end -/
def XA (h : pm_H) (s n : Nat) (A B : Nat → Int32) (P : Nat → Nat → Int32) (h' : pm_H) : Prop := Fr AF h h' ∧ QI h' s B ∧ CP h' (min (n + 1) 20) (push A P)
def YA (h : pm_H) (n : Nat) (A B : Nat → Int32) (P : Nat → Nat → Int32) (h' : pm_H) : Prop := FrM (fun c => c = 203 ∨ c = 208) (· = 28) h h' ∧ MI h' B ∧ MP h' (min (n + 1) 20) (push A P)
theorem q_keep (Q : QI h s A) (C : CP h n P) : SP (p_keep 6 169 h) (fun h2 => XA h s n A A P h2) := by
  have Q' := Q
  obtain ⟨R, h1, S, H, D, w, K⟩ := Q
  refine (p_keep_sp w R H C).mono ?_
  rintro h2 ⟨f2, C2⟩
  have f2' : Fr AF h h2 := f2.mono (fun c hc => hc.af)
  have H2 : CHd h2 169 A := H.of (f2.2.2 169 (by unfold PF; omega)).1 (f2.2.2 170 (by unfold PF; omega)).1 (f2.2.2 171 (by unfold PF; omega)).1
  exact ⟨f2', Q'.act f2' (SameS.refl A) w H2, C2⟩
theorem XA.set {B : Nat → Int32} {h2 : pm_H} {c j : Nat} {v : Int32} (X : XA h s n A A P h2) (hc : c = 169 ∨ c = 170 ∨ c = 171) (e : SameS B A ∧ WFA B) (H : CHd (pm_setI h2 c j v) 169 B) : XA h s n A B P (pm_setI h2 c j v) := by
  obtain ⟨f, Q, C⟩ := X
  have ha : AF c := by unfold AF; omega
  refine ⟨f.setI ha, Q.act ((Fr.refl AF h2).setI ha) e.1 e.2 H, C.fr (by funext i; exact ri_c _ (by omega)) (fun d h8 h67 => by funext i; exact ri_c _ (by omega))⟩
theorem y_keep (M : MI h A) (C : MP h n P) : SP (m_keepsAct 193 h) (fun h2 => YA h n A A P h2) := by
  have M' := M
  obtain ⟨R, hA, w⟩ := M
  refine (m_keepsAct_sp M' C).mono ?_
  rintro h2 ⟨f2, C2⟩
  exact ⟨f2.mono (fun c hc => .inr hc) (fun _ q => q), ⟨R.fm f2, by rw [f2.i (by omega) (by omega)]; exact hA, w⟩, C2⟩
theorem YA.set {B : Nat → Int32} {h2 : pm_H} {j : Nat} {v : Int32} (Y : YA h n A B P h2) (w : WFA (upA B j v)) : YA h n A (upA B j v) P (pm_setI h2 203 j v) := by
  obtain ⟨f, M, C⟩ := Y
  obtain ⟨c0, c1, c2⟩ := C
  refine ⟨f.setI (by omega) (.inl rfl), ⟨M.1.setI, set203 M.2.1 j v, w⟩, c0, ?_, fun i hi k hk => ?_⟩
  · rw [ri_c _ (by omega)]; exact c1
  · rw [ri_c _ (by omega)]; exact c2 i hi k hk
/-! turn -/
def turnOk (A : Nat → Int32) (k : Nat) : Prop := 0 < an A 0 ∧ k ≤ 2 ∧ an A 5 ≠ k
theorem x_turn_ok {k : Nat} (Q : QI h s A) (C : CP h n P) (ok : turnOk A k) : SP (x_turn 0 (nI k) h) (fun z => z.1 = A 5 ∧ XA h s n A (upA A 5 (nI k)) P z.2) := by
  have Q' := Q
  obtain ⟨R, h1, S, H, D, w, K⟩ := Q
  obtain ⟨k0, k2, k5⟩ := ok
  have e5 := w.e5
  unfold x_turn
  rw [ra_0_4 R, Option.bind_some, Q'.now, Option.bind_some, c_sails S w, Option.bind_some]
  simp only [kc_im8, kc_im1, kc_i0, kc_i1, kc_i2, kc_i3, kc_i4, kc_i5, kc_b_m100, kc_b_m16, kc_b_m15, kc_b_m14, kc_b_m13, kc_b_m12, kc_b_m11, kc_b_m2, kc_b_6, kc_b_7, kc_b_8, kc_b_9, kc_b_10, kc_b_11, kc_b_12, kc_b_13, kc_b_14, kc_b_15, kc_b_16, kc_b_20, kc_b_24, kc_b_32, kc_b_37, kc_b_40, kc_b_42, kc_b_43, kc_b_45, kc_b_47, kc_b_48, kc_b_57, kc_b_58, kc_b_59, kc_b_60, kc_b_61, kc_b_62, kc_b_63, kc_b_91, kc_b_93, kc_b_97, kc_b_99, kc_b_100, kc_b_106, kc_b_122, kc_s_206, kc_s_226, kc_s_227, kc_s_255, kc_s_256, kc_s_316, kc_s_318, kc_s_400, kc_s_512, kc_s_999, kc_s_1160, kc_s_1536, kc_s_3003, kc_lm11, kc_lm10, kc_lm9, kc_lm8, kc_lm7, kc_lm6, kc_lm5, kc_lm4, kc_lm3, kc_lm2, kc_lm1, kc_l1, kc_l2, kc_l3, kc_l4, kc_l5, kc_l6, kc_l7, kc_l8, kc_l9, kc_l10, kc_l11, kc_l12, kc_l13, kc_l14, kc_l37, kc_l42, kc_l43, kc_l45, kc_l47, kc_l60, kc_l61, kc_l62, kc_l316, kc_l318, kc_l65536, kc_l99999, kc_l1000000, kc_l252645135, kc_l858993459, kc_l1431655765, kc_0, kc_on]
  refine sp_neg (by rw [decide_eq_true k0]; exact n10) (sp_neg (by rw [nx_lt (by omega) (by omega)]; omega) (sp_neg (by rw [nx_lt (by omega) (by omega)]; omega) ?_))
  rw [Option.bind_some, q_hands Q', Option.bind_some, H.2.2.2.2.1, e5.1]
  refine sp_pos (by rw [nx_eq (by omega) (by omega)]; omega) ?_
  rw [ra_0_6 R, Option.bind_some, Option.bind_some, q_hands Q', Option.bind_some]
  refine sp_call (q_keep Q' C) ?_
  intro h2 X
  have Q2 := X.2.1
  rw [ra_0_4 Q2.1, Option.bind_some, q_hands Q2, Option.bind_some, Option.bind_some, q_hands Q2, Option.bind_some, sp_bd, sp_some]
  have H2 : CHd h2 169 A := Q2.2.2.2.1
  exact ⟨by show h2.2.1 169 3 = _; rw [H2.2.2.2.2.1]; exact e5.1, X.set (.inl rfl) (up5_wf w k2) H2.set3⟩
theorem x_turn_no {x : Int32} (Q : QI h s A) (no : ¬ ∃ k, x = nI k ∧ turnOk A k) : x_turn 0 x h = some (ng 1, h) := by
  have Q' := Q
  obtain ⟨R, h1, S, H, D, w, K⟩ := Q
  have e5 := w.e5
  unfold x_turn
  rw [ra_0_4 R, Option.bind_some, Q'.now, Option.bind_some, c_sails S w, Option.bind_some]
  simp only [kc_im8, kc_im1, kc_i0, kc_i1, kc_i2, kc_i3, kc_i4, kc_i5, kc_b_m100, kc_b_m16, kc_b_m15, kc_b_m14, kc_b_m13, kc_b_m12, kc_b_m11, kc_b_m2, kc_b_6, kc_b_7, kc_b_8, kc_b_9, kc_b_10, kc_b_11, kc_b_12, kc_b_13, kc_b_14, kc_b_15, kc_b_16, kc_b_20, kc_b_24, kc_b_32, kc_b_37, kc_b_40, kc_b_42, kc_b_43, kc_b_45, kc_b_47, kc_b_48, kc_b_57, kc_b_58, kc_b_59, kc_b_60, kc_b_61, kc_b_62, kc_b_63, kc_b_91, kc_b_93, kc_b_97, kc_b_99, kc_b_100, kc_b_106, kc_b_122, kc_s_206, kc_s_226, kc_s_227, kc_s_255, kc_s_256, kc_s_316, kc_s_318, kc_s_400, kc_s_512, kc_s_999, kc_s_1160, kc_s_1536, kc_s_3003, kc_lm11, kc_lm10, kc_lm9, kc_lm8, kc_lm7, kc_lm6, kc_lm5, kc_lm4, kc_lm3, kc_lm2, kc_lm1, kc_l1, kc_l2, kc_l3, kc_l4, kc_l5, kc_l6, kc_l7, kc_l8, kc_l9, kc_l10, kc_l11, kc_l12, kc_l13, kc_l14, kc_l37, kc_l42, kc_l43, kc_l45, kc_l47, kc_l60, kc_l61, kc_l62, kc_l316, kc_l318, kc_l65536, kc_l99999, kc_l1000000, kc_l252645135, kc_l858993459, kc_l1431655765, kc_0, kc_on]
  by_cases k0 : 0 < an A 0
  · rw [if_neg (by rw [decide_eq_true k0]; exact n10)]
    rcases ixx x (n := 3) (by omega) with q | q | ⟨k, hk, rfl⟩
    · rw [if_pos q]
    · by_cases q0 : x < nI 0
      · rw [if_pos q0]
      · rw [if_neg q0, if_pos (Int32.lt_of_lt_of_le (by decide) q)]
    · rw [if_neg (by rw [nx_lt (by omega) (by omega)]; omega), if_neg (by rw [nx_lt (by omega) (by omega)]; omega), Option.bind_some, q_hands Q', Option.bind_some, H.2.2.2.2.1, e5.1, if_neg]
      rw [nx_eq (by omega) (by omega)]
      exact fun q => no ⟨k, rfl, k0, by omega, fun z => q z.symm⟩
  · rw [if_pos (by rw [decide_eq_false k0]; rfl)]
theorem m_turn_ok {k : Nat} (M : MI h A) (C : MP h n P) (ok : turnOk A k) : SP (m_turn 193 (nI k) h) (fun z => z.1 = A 5 ∧ YA h n A (upA A 5 (nI k)) P z.2) := by
  have M' := M
  obtain ⟨R, hA, w⟩ := M
  obtain ⟨k0, k2, k5⟩ := ok
  have e5 := w.e5
  unfold m_turn
  rw [m_isShip_n M', Option.bind_some]
  simp only [kc_im8, kc_im1, kc_i0, kc_i1, kc_i2, kc_i3, kc_i4, kc_i5, kc_b_m100, kc_b_m16, kc_b_m15, kc_b_m14, kc_b_m13, kc_b_m12, kc_b_m11, kc_b_m2, kc_b_6, kc_b_7, kc_b_8, kc_b_9, kc_b_10, kc_b_11, kc_b_12, kc_b_13, kc_b_14, kc_b_15, kc_b_16, kc_b_20, kc_b_24, kc_b_32, kc_b_37, kc_b_40, kc_b_42, kc_b_43, kc_b_45, kc_b_47, kc_b_48, kc_b_57, kc_b_58, kc_b_59, kc_b_60, kc_b_61, kc_b_62, kc_b_63, kc_b_91, kc_b_93, kc_b_97, kc_b_99, kc_b_100, kc_b_106, kc_b_122, kc_s_206, kc_s_226, kc_s_227, kc_s_255, kc_s_256, kc_s_316, kc_s_318, kc_s_400, kc_s_512, kc_s_999, kc_s_1160, kc_s_1536, kc_s_3003, kc_lm11, kc_lm10, kc_lm9, kc_lm8, kc_lm7, kc_lm6, kc_lm5, kc_lm4, kc_lm3, kc_lm2, kc_lm1, kc_l1, kc_l2, kc_l3, kc_l4, kc_l5, kc_l6, kc_l7, kc_l8, kc_l9, kc_l10, kc_l11, kc_l12, kc_l13, kc_l14, kc_l37, kc_l42, kc_l43, kc_l45, kc_l47, kc_l60, kc_l61, kc_l62, kc_l316, kc_l318, kc_l65536, kc_l99999, kc_l1000000, kc_l252645135, kc_l858993459, kc_l1431655765, kc_0, kc_on]
  refine sp_neg (by rw [decide_eq_true k0]; exact n10) ?_
  rw [m_in_t h (n := 2) k2 (by omega) (by decide) (by decide), Option.bind_some]
  refine sp_neg n10 ?_
  rw [ra_193_20 R, Option.bind_some, mn_203, gi_n (by omega), nx_cl (by omega), hA, e5.1]
  refine sp_pos (by simp) (sp_pos (by rw [nx_eq (by omega) (by omega)]; exact k5) ?_)
  refine sp_call (y_keep M' C) ?_
  intro h2 Y
  rw [ra_193_20 Y.2.1.1, Option.bind_some, mn_203, gi_n (by omega)]
  refine sp_pos (by simp) ?_
  rw [Option.bind_some, mn_203, gi_n (by omega)]
  refine sp_pos (by simp) ?_
  rw [sp_bd, sp_some]
  exact ⟨by show h2.2.1 203 5 = _; rw [Y.2.1.2.1]; exact e5.1, Y.set (up5_wf w k2).2⟩
theorem m_turn_no {x : Int32} (M : MI h A) (no : ¬ ∃ k, x = nI k ∧ turnOk A k) : m_turn 193 x h = some (ng 1, h) := by
  have M' := M
  obtain ⟨R, hA, w⟩ := M
  have e5 := w.e5
  unfold m_turn
  rw [m_isShip_n M', Option.bind_some]
  simp only [kc_im8, kc_im1, kc_i0, kc_i1, kc_i2, kc_i3, kc_i4, kc_i5, kc_b_m100, kc_b_m16, kc_b_m15, kc_b_m14, kc_b_m13, kc_b_m12, kc_b_m11, kc_b_m2, kc_b_6, kc_b_7, kc_b_8, kc_b_9, kc_b_10, kc_b_11, kc_b_12, kc_b_13, kc_b_14, kc_b_15, kc_b_16, kc_b_20, kc_b_24, kc_b_32, kc_b_37, kc_b_40, kc_b_42, kc_b_43, kc_b_45, kc_b_47, kc_b_48, kc_b_57, kc_b_58, kc_b_59, kc_b_60, kc_b_61, kc_b_62, kc_b_63, kc_b_91, kc_b_93, kc_b_97, kc_b_99, kc_b_100, kc_b_106, kc_b_122, kc_s_206, kc_s_226, kc_s_227, kc_s_255, kc_s_256, kc_s_316, kc_s_318, kc_s_400, kc_s_512, kc_s_999, kc_s_1160, kc_s_1536, kc_s_3003, kc_lm11, kc_lm10, kc_lm9, kc_lm8, kc_lm7, kc_lm6, kc_lm5, kc_lm4, kc_lm3, kc_lm2, kc_lm1, kc_l1, kc_l2, kc_l3, kc_l4, kc_l5, kc_l6, kc_l7, kc_l8, kc_l9, kc_l10, kc_l11, kc_l12, kc_l13, kc_l14, kc_l37, kc_l42, kc_l43, kc_l45, kc_l47, kc_l60, kc_l61, kc_l62, kc_l316, kc_l318, kc_l65536, kc_l99999, kc_l1000000, kc_l252645135, kc_l858993459, kc_l1431655765, kc_0, kc_on]
  by_cases k0 : 0 < an A 0
  · rw [if_neg (by rw [decide_eq_true k0]; exact n10)]
    by_cases q : ∃ k, k ≤ 2 ∧ x = nI k
    · obtain ⟨k, hk, rfl⟩ := q
      rw [m_in_t h (n := 2) hk (by omega) (by decide) (by decide), Option.bind_some, if_neg n10, ra_193_20 R, Option.bind_some, mn_203, gi_n (by omega), nx_cl (by omega), hA, e5.1, if_pos (by simp), if_neg]
      rw [nx_eq (by omega) (by omega)]
      exact fun q => no ⟨k, rfl, k0, hk, q⟩
    · rw [m_in_f h (n := 2) q (by omega) (by decide) (by decide), Option.bind_some, if_pos rfl]
  · rw [if_pos (by rw [decide_eq_false k0]; rfl)]
end TU
