/-! Acts: sicken, die. -/
section SI
variable {h : pm_H} {s n : Nat} {A : Nat → Int32} {P : Nat → Nat → Int32}
def sickOk (A : Nat → Int32) (m k : Nat) : Prop := m < an A 1 ∧ isDd A m = false ∧ k ≤ 9
theorem x_sicken_ok {m k : Nat} (Q : QI h s A) (C : CP h n P) (ok : sickOk A m k) : SP (x_sicken 0 (nI m) (nI k) h) (fun z => z.1 = A (10 + 6 * m + 3) ∧ XA h s n A (upA A (10 + 6 * m + 3) (nI k)) P z.2) := by
  obtain ⟨hm, hd, hk⟩ := ok
  have Q' := Q
  obtain ⟨R, h1, S, H, D, w, K⟩ := Q
  have e1 := w.e1
  unfold x_sicken
  rw [x_lives_t Q' hm, hd, nl1, Option.bind_some]
  simp only [kc_im8, kc_im1, kc_i0, kc_i1, kc_i2, kc_i3, kc_i4, kc_i5, kc_b_m100, kc_b_m16, kc_b_m15, kc_b_m14, kc_b_m13, kc_b_m12, kc_b_m11, kc_b_m2, kc_b_6, kc_b_7, kc_b_8, kc_b_9, kc_b_10, kc_b_11, kc_b_12, kc_b_13, kc_b_14, kc_b_15, kc_b_16, kc_b_20, kc_b_24, kc_b_32, kc_b_37, kc_b_40, kc_b_42, kc_b_43, kc_b_45, kc_b_47, kc_b_48, kc_b_57, kc_b_58, kc_b_59, kc_b_60, kc_b_61, kc_b_62, kc_b_63, kc_b_91, kc_b_93, kc_b_97, kc_b_99, kc_b_100, kc_b_106, kc_b_122, kc_s_206, kc_s_226, kc_s_227, kc_s_255, kc_s_256, kc_s_316, kc_s_318, kc_s_400, kc_s_512, kc_s_999, kc_s_1160, kc_s_1536, kc_s_3003, kc_lm11, kc_lm10, kc_lm9, kc_lm8, kc_lm7, kc_lm6, kc_lm5, kc_lm4, kc_lm3, kc_lm2, kc_lm1, kc_l1, kc_l2, kc_l3, kc_l4, kc_l5, kc_l6, kc_l7, kc_l8, kc_l9, kc_l10, kc_l11, kc_l12, kc_l13, kc_l14, kc_l37, kc_l42, kc_l43, kc_l45, kc_l47, kc_l60, kc_l61, kc_l62, kc_l316, kc_l318, kc_l65536, kc_l99999, kc_l1000000, kc_l252645135, kc_l858993459, kc_l1431655765, kc_0, kc_on]
  refine sp_neg n10 (sp_neg (by rw [nx_lt (by omega) (by omega)]; omega) (sp_pos (by rw [nx_le (by omega) (by omega)]; omega) ?_))
  rw [ra_0_6 R, Option.bind_some, ra_0_4 R, Option.bind_some, q_hands Q', Option.bind_some]
  refine sp_call (q_keep Q' C) ?_
  intro h2 X
  have Q2 := X.2.1
  have H2 : CHd h2 169 A := Q2.2.2.2.1
  rw [ra_0_4 Q2.1, Option.bind_some, q_hands Q2, Option.bind_some, rf_n5 Q2.1 H2.1, Option.bind_some, ln_n5 H2.1, gi_n (by omega)]
  refine sp_pos (by simp; omega) ?_
  rw [Option.bind_some, q_hands Q2, Option.bind_some, rf_n5 Q2.1 H2.1, Option.bind_some, ln_n5 H2.1, gi_n (by omega)]
  refine sp_pos (by simp; omega) ?_
  rw [sp_bd, sp_some, nx_cl (by omega)]
  exact ⟨(H2.2.2.2.2.2.2 m hm).1, X.set (.inr (.inl rfl)) (up3_wf w hm hk) (H2.setS hm)⟩
theorem x_sicken_no {x y : Int32} (Q : QI h s A) (no : ¬ ∃ m k, x = nI m ∧ y = nI k ∧ sickOk A m k) : x_sicken 0 x y h = some (ng 1, h) := by
  unfold x_sicken
  simp only [kc_im8, kc_im1, kc_i0, kc_i1, kc_i2, kc_i3, kc_i4, kc_i5, kc_b_m100, kc_b_m16, kc_b_m15, kc_b_m14, kc_b_m13, kc_b_m12, kc_b_m11, kc_b_m2, kc_b_6, kc_b_7, kc_b_8, kc_b_9, kc_b_10, kc_b_11, kc_b_12, kc_b_13, kc_b_14, kc_b_15, kc_b_16, kc_b_20, kc_b_24, kc_b_32, kc_b_37, kc_b_40, kc_b_42, kc_b_43, kc_b_45, kc_b_47, kc_b_48, kc_b_57, kc_b_58, kc_b_59, kc_b_60, kc_b_61, kc_b_62, kc_b_63, kc_b_91, kc_b_93, kc_b_97, kc_b_99, kc_b_100, kc_b_106, kc_b_122, kc_s_206, kc_s_226, kc_s_227, kc_s_255, kc_s_256, kc_s_316, kc_s_318, kc_s_400, kc_s_512, kc_s_999, kc_s_1160, kc_s_1536, kc_s_3003, kc_lm11, kc_lm10, kc_lm9, kc_lm8, kc_lm7, kc_lm6, kc_lm5, kc_lm4, kc_lm3, kc_lm2, kc_lm1, kc_l1, kc_l2, kc_l3, kc_l4, kc_l5, kc_l6, kc_l7, kc_l8, kc_l9, kc_l10, kc_l11, kc_l12, kc_l13, kc_l14, kc_l37, kc_l42, kc_l43, kc_l45, kc_l47, kc_l60, kc_l61, kc_l62, kc_l316, kc_l318, kc_l65536, kc_l99999, kc_l1000000, kc_l252645135, kc_l858993459, kc_l1431655765, kc_0, kc_on]
  by_cases q : ∃ m, m < an A 1 ∧ x = nI m
  · obtain ⟨m, hm, rfl⟩ := q
    rw [x_lives_t Q hm, Option.bind_some]
    by_cases hd : isDd A m = false
    · rw [hd, nl1, if_neg n10]
      rcases ixx y (n := 10) (by omega) with q | q | ⟨k, hk, rfl⟩
      · rw [if_pos q]
      · by_cases q0 : y < nI 0
        · rw [if_pos q0]
        · rw [if_neg q0, if_neg]
          intro z
          exact absurd (Int32.le_trans q z) (by decide)
      · exact (no ⟨m, k, rfl, rfl, hm, hd, by omega⟩).elim
    · rw [Bool.not_eq_false] at hd
      rw [hd, nl0, if_pos rfl]
  · rw [x_lives_f Q q, Option.bind_some, if_pos rfl]
theorem m_sicken_ok {m k : Nat} (M : MI h A) (C : MP h n P) (ok : sickOk A m k) : SP (m_sicken 193 (nI m) (nI k) h) (fun z => z.1 = A (10 + 6 * m + 3) ∧ YA h n A (upA A (10 + 6 * m + 3) (nI k)) P z.2) := by
  obtain ⟨hm, hd, hk⟩ := ok
  have M' := M
  obtain ⟨R, hA, w⟩ := M
  have e1 := w.e1
  unfold m_sicken
  rw [m_isAlive_t w R hA hm, hd, nl1, Option.bind_some]
  simp only [kc_im8, kc_im1, kc_i0, kc_i1, kc_i2, kc_i3, kc_i4, kc_i5, kc_b_m100, kc_b_m16, kc_b_m15, kc_b_m14, kc_b_m13, kc_b_m12, kc_b_m11, kc_b_m2, kc_b_6, kc_b_7, kc_b_8, kc_b_9, kc_b_10, kc_b_11, kc_b_12, kc_b_13, kc_b_14, kc_b_15, kc_b_16, kc_b_20, kc_b_24, kc_b_32, kc_b_37, kc_b_40, kc_b_42, kc_b_43, kc_b_45, kc_b_47, kc_b_48, kc_b_57, kc_b_58, kc_b_59, kc_b_60, kc_b_61, kc_b_62, kc_b_63, kc_b_91, kc_b_93, kc_b_97, kc_b_99, kc_b_100, kc_b_106, kc_b_122, kc_s_206, kc_s_226, kc_s_227, kc_s_255, kc_s_256, kc_s_316, kc_s_318, kc_s_400, kc_s_512, kc_s_999, kc_s_1160, kc_s_1536, kc_s_3003, kc_lm11, kc_lm10, kc_lm9, kc_lm8, kc_lm7, kc_lm6, kc_lm5, kc_lm4, kc_lm3, kc_lm2, kc_lm1, kc_l1, kc_l2, kc_l3, kc_l4, kc_l5, kc_l6, kc_l7, kc_l8, kc_l9, kc_l10, kc_l11, kc_l12, kc_l13, kc_l14, kc_l37, kc_l42, kc_l43, kc_l45, kc_l47, kc_l60, kc_l61, kc_l62, kc_l316, kc_l318, kc_l65536, kc_l99999, kc_l1000000, kc_l252645135, kc_l858993459, kc_l1431655765, kc_0, kc_on]
  refine sp_neg n10 ?_
  rw [m_in_t h (n := 9) hk (by omega) (by decide) (by decide), Option.bind_some]
  refine sp_pos n10 ?_
  refine sp_call (y_keep M' C) ?_
  intro h2 Y
  rw [m_manOf_n Y.2.1.1 Y.2.1.2.1 (by omega), Option.bind_some, ra_193_20 Y.2.1.1, Option.bind_some, ix_man (by omega) (by omega), mn_203, gi_n (by omega), nx_cl (by omega)]
  refine sp_pos (by simp; omega) ?_
  rw [sp_bd, sp_some]
  exact ⟨rfl, Y.set (up3_wf w hm hk).2⟩
theorem m_sicken_no {x y : Int32} (M : MI h A) (no : ¬ ∃ m k, x = nI m ∧ y = nI k ∧ sickOk A m k) : m_sicken 193 x y h = some (ng 1, h) := by
  obtain ⟨R, hA, w⟩ := M
  unfold m_sicken
  simp only [kc_im8, kc_im1, kc_i0, kc_i1, kc_i2, kc_i3, kc_i4, kc_i5, kc_b_m100, kc_b_m16, kc_b_m15, kc_b_m14, kc_b_m13, kc_b_m12, kc_b_m11, kc_b_m2, kc_b_6, kc_b_7, kc_b_8, kc_b_9, kc_b_10, kc_b_11, kc_b_12, kc_b_13, kc_b_14, kc_b_15, kc_b_16, kc_b_20, kc_b_24, kc_b_32, kc_b_37, kc_b_40, kc_b_42, kc_b_43, kc_b_45, kc_b_47, kc_b_48, kc_b_57, kc_b_58, kc_b_59, kc_b_60, kc_b_61, kc_b_62, kc_b_63, kc_b_91, kc_b_93, kc_b_97, kc_b_99, kc_b_100, kc_b_106, kc_b_122, kc_s_206, kc_s_226, kc_s_227, kc_s_255, kc_s_256, kc_s_316, kc_s_318, kc_s_400, kc_s_512, kc_s_999, kc_s_1160, kc_s_1536, kc_s_3003, kc_lm11, kc_lm10, kc_lm9, kc_lm8, kc_lm7, kc_lm6, kc_lm5, kc_lm4, kc_lm3, kc_lm2, kc_lm1, kc_l1, kc_l2, kc_l3, kc_l4, kc_l5, kc_l6, kc_l7, kc_l8, kc_l9, kc_l10, kc_l11, kc_l12, kc_l13, kc_l14, kc_l37, kc_l42, kc_l43, kc_l45, kc_l47, kc_l60, kc_l61, kc_l62, kc_l316, kc_l318, kc_l65536, kc_l99999, kc_l1000000, kc_l252645135, kc_l858993459, kc_l1431655765, kc_0, kc_on]
  by_cases q : ∃ m, m < an A 1 ∧ x = nI m
  · obtain ⟨m, hm, rfl⟩ := q
    rw [m_isAlive_t w R hA hm, Option.bind_some]
    by_cases hd : isDd A m = false
    · rw [hd, nl1, if_neg n10]
      by_cases q : ∃ k, k ≤ 9 ∧ y = nI k
      · obtain ⟨k, hk, rfl⟩ := q
        exact (no ⟨m, k, rfl, rfl, hm, hd, hk⟩).elim
      · rw [m_in_f h (n := 9) q (by omega) (by decide) (by decide), Option.bind_some, if_neg (show ¬ ¬ nI 0 = nI 0 from fun z => z rfl)]
    · rw [Bool.not_eq_false] at hd
      rw [hd, nl0, if_pos rfl]
  · rw [m_isAlive_f w R hA q, Option.bind_some, if_pos rfl]
/-! die -/
def dieA (A : Nat → Int32) (m : Nat) : Nat → Int32 := upA (upA A (10 + 6 * m + 4) (nI 1)) (10 + 6 * m + 2) (nI 0)
theorem die_wf {m : Nat} (w : WFA A) (hm : m < an A 1) : SameS (dieA A m) A ∧ WFA (dieA A m) := by
  have a := up4_wf w hm
  have b := up2_wf (A := upA A (10 + 6 * m + 4) (nI 1)) a.2 (m := m) (by rw [upA_an (by omega)]; exact hm) false
  exact ⟨b.1.trans a.1, b.2⟩
def dieOk (A : Nat → Int32) (m : Nat) : Prop := m < an A 1 ∧ isDd A m = false
theorem die_aw {m : Nat} : bs (isAw (upA A (10 + 6 * m + 4) (nI 1))) (an A 1) = bs (isAw A) (an A 1) := bs_congr (fun i _ => by unfold isAw; rw [upA_ne (by omega)])
theorem x_die_ok {m : Nat} (Q : QI h s A) (C : CP h n P) (ok : dieOk A m) : SP (x_die 0 (nI m) h) (fun z => z.1 = nI (pc (alvN (dieA A m))) ∧ XA h s n A (dieA A m) P z.2) := by
  obtain ⟨hm, hd⟩ := ok
  have Q' := Q
  obtain ⟨R, h1, S, H, D, w, K⟩ := Q
  have e1 := w.e1
  unfold x_die
  rw [x_lives_t Q' hm, hd, nl1, Option.bind_some]
  simp only [kc_im8, kc_im1, kc_i0, kc_i1, kc_i2, kc_i3, kc_i4, kc_i5, kc_b_m100, kc_b_m16, kc_b_m15, kc_b_m14, kc_b_m13, kc_b_m12, kc_b_m11, kc_b_m2, kc_b_6, kc_b_7, kc_b_8, kc_b_9, kc_b_10, kc_b_11, kc_b_12, kc_b_13, kc_b_14, kc_b_15, kc_b_16, kc_b_20, kc_b_24, kc_b_32, kc_b_37, kc_b_40, kc_b_42, kc_b_43, kc_b_45, kc_b_47, kc_b_48, kc_b_57, kc_b_58, kc_b_59, kc_b_60, kc_b_61, kc_b_62, kc_b_63, kc_b_91, kc_b_93, kc_b_97, kc_b_99, kc_b_100, kc_b_106, kc_b_122, kc_s_206, kc_s_226, kc_s_227, kc_s_255, kc_s_256, kc_s_316, kc_s_318, kc_s_400, kc_s_512, kc_s_999, kc_s_1160, kc_s_1536, kc_s_3003, kc_lm11, kc_lm10, kc_lm9, kc_lm8, kc_lm7, kc_lm6, kc_lm5, kc_lm4, kc_lm3, kc_lm2, kc_lm1, kc_l1, kc_l2, kc_l3, kc_l4, kc_l5, kc_l6, kc_l7, kc_l8, kc_l9, kc_l10, kc_l11, kc_l12, kc_l13, kc_l14, kc_l37, kc_l42, kc_l43, kc_l45, kc_l47, kc_l60, kc_l61, kc_l62, kc_l316, kc_l318, kc_l65536, kc_l99999, kc_l1000000, kc_l252645135, kc_l858993459, kc_l1431655765, kc_0, kc_on]
  refine sp_pos n10 ?_
  rw [ra_0_6 R, Option.bind_some, ra_0_4 R, Option.bind_some, q_hands Q', Option.bind_some]
  refine sp_call (q_keep Q' C) ?_
  intro h2 X
  have Q2 := X.2.1
  have H2 : CHd h2 169 A := Q2.2.2.2.1
  rw [ra_0_4 Q2.1, Option.bind_some, q_hands Q2, Option.bind_some, sp_bd, H2.2.2.1, nx_shl1 (by omega), nx_or2]
  have W := up4_wf w hm
  have X3 := X.set (.inl rfl) W (H2.setD hm)
  generalize pm_setI h2 169 1 (nI (bs (isDd A) (an A 1) ||| 2 ^ m)) = h3 at X3
  obtain ⟨f3, Q3, C3⟩ := X3
  have H3 := Q3.2.2.2.1
  have hm3 : m < an (upA A (10 + 6 * m + 4) (nI 1)) 1 := by rw [upA_an (by omega)]; exact hm
  have H4 := H3.setW hm3 false
  rw [if_neg (by simp), upA_an (by omega), die_aw] at H4
  rw [ra_0_4 Q3.1, Option.bind_some, q_hands Q3, Option.bind_some, sp_bd, H3.2.1, upA_an (by omega), die_aw, nx_andn]
  have ha : AF 169 := by unfold AF; omega
  have B := up2_wf W.2 hm3 false
  have Q4 := Q3.act ((Fr.refl AF h3).setI (k := 0) (v := nI (sd (bs (isAw A) (an A 1)) (2 ^ m))) ha) B.1 B.2 H4
  have C4 : CP (pm_setI h3 169 0 (nI (sd (bs (isAw A) (an A 1)) (2 ^ m)))) (min (n + 1) 20) (push A P) := C3.fr (by funext i; exact ri_c _ (by omega)) (fun d h8 h67 => by funext i; exact ri_c _ (by omega))
  have f4 : Fr AF h (pm_setI h3 169 0 (nI (sd (bs (isAw A) (an A 1)) (2 ^ m)))) := f3.setI ha
  generalize pm_setI h3 169 0 (nI (sd (bs (isAw A) (an A 1)) (2 ^ m))) = h4 at Q4 C4 f4
  have Q4' : QI h4 s (dieA A m) := Q4
  have w4 := (die_wf w hm).2
  rw [ra_0_4 Q4'.1, Option.bind_some, q_hands Q4', Option.bind_some, Option.bind_some, Q4'.now, Option.bind_some, n_living_c Q4'.2.2.1 Q4'.2.2.2.1 w4, Option.bind_some, k_bc h4 (by have := bs9 w4 (fun m_1 => !isDd (dieA A m) m_1); unfold alvN; omega), Option.bind_some, sp_some]
  exact ⟨rfl, f4, Q4', C4⟩
theorem x_die_no {x : Int32} (Q : QI h s A) (no : ¬ ∃ m, x = nI m ∧ dieOk A m) : x_die 0 x h = some (ng 1, h) := by
  unfold x_die
  simp only [kc_im8, kc_im1, kc_i0, kc_i1, kc_i2, kc_i3, kc_i4, kc_i5, kc_b_m100, kc_b_m16, kc_b_m15, kc_b_m14, kc_b_m13, kc_b_m12, kc_b_m11, kc_b_m2, kc_b_6, kc_b_7, kc_b_8, kc_b_9, kc_b_10, kc_b_11, kc_b_12, kc_b_13, kc_b_14, kc_b_15, kc_b_16, kc_b_20, kc_b_24, kc_b_32, kc_b_37, kc_b_40, kc_b_42, kc_b_43, kc_b_45, kc_b_47, kc_b_48, kc_b_57, kc_b_58, kc_b_59, kc_b_60, kc_b_61, kc_b_62, kc_b_63, kc_b_91, kc_b_93, kc_b_97, kc_b_99, kc_b_100, kc_b_106, kc_b_122, kc_s_206, kc_s_226, kc_s_227, kc_s_255, kc_s_256, kc_s_316, kc_s_318, kc_s_400, kc_s_512, kc_s_999, kc_s_1160, kc_s_1536, kc_s_3003, kc_lm11, kc_lm10, kc_lm9, kc_lm8, kc_lm7, kc_lm6, kc_lm5, kc_lm4, kc_lm3, kc_lm2, kc_lm1, kc_l1, kc_l2, kc_l3, kc_l4, kc_l5, kc_l6, kc_l7, kc_l8, kc_l9, kc_l10, kc_l11, kc_l12, kc_l13, kc_l14, kc_l37, kc_l42, kc_l43, kc_l45, kc_l47, kc_l60, kc_l61, kc_l62, kc_l316, kc_l318, kc_l65536, kc_l99999, kc_l1000000, kc_l252645135, kc_l858993459, kc_l1431655765, kc_0, kc_on]
  by_cases q : ∃ m, m < an A 1 ∧ x = nI m
  · obtain ⟨m, hm, rfl⟩ := q
    rw [x_lives_t Q hm, Option.bind_some]
    by_cases hd : isDd A m = false
    · exact (no ⟨m, rfl, hm, hd⟩).elim
    · rw [Bool.not_eq_false] at hd
      rw [hd, nl0, if_neg (show ¬ ¬ nI 0 = nI 0 from fun z => z rfl)]
  · rw [x_lives_f Q q, Option.bind_some, if_neg (show ¬ ¬ nI 0 = nI 0 from fun z => z rfl)]
theorem m_die_ok {m : Nat} (M : MI h A) (C : MP h n P) (ok : dieOk A m) : SP (m_die 193 (nI m) h) (fun z => z.1 = nI (pc (alvN (dieA A m))) ∧ YA h n A (dieA A m) P z.2) := by
  obtain ⟨hm, hd⟩ := ok
  have M' := M
  obtain ⟨R, hA, w⟩ := M
  have e1 := w.e1
  unfold m_die
  rw [m_isAlive_t w R hA hm, hd, nl1, Option.bind_some]
  simp only [kc_im8, kc_im1, kc_i0, kc_i1, kc_i2, kc_i3, kc_i4, kc_i5, kc_b_m100, kc_b_m16, kc_b_m15, kc_b_m14, kc_b_m13, kc_b_m12, kc_b_m11, kc_b_m2, kc_b_6, kc_b_7, kc_b_8, kc_b_9, kc_b_10, kc_b_11, kc_b_12, kc_b_13, kc_b_14, kc_b_15, kc_b_16, kc_b_20, kc_b_24, kc_b_32, kc_b_37, kc_b_40, kc_b_42, kc_b_43, kc_b_45, kc_b_47, kc_b_48, kc_b_57, kc_b_58, kc_b_59, kc_b_60, kc_b_61, kc_b_62, kc_b_63, kc_b_91, kc_b_93, kc_b_97, kc_b_99, kc_b_100, kc_b_106, kc_b_122, kc_s_206, kc_s_226, kc_s_227, kc_s_255, kc_s_256, kc_s_316, kc_s_318, kc_s_400, kc_s_512, kc_s_999, kc_s_1160, kc_s_1536, kc_s_3003, kc_lm11, kc_lm10, kc_lm9, kc_lm8, kc_lm7, kc_lm6, kc_lm5, kc_lm4, kc_lm3, kc_lm2, kc_lm1, kc_l1, kc_l2, kc_l3, kc_l4, kc_l5, kc_l6, kc_l7, kc_l8, kc_l9, kc_l10, kc_l11, kc_l12, kc_l13, kc_l14, kc_l37, kc_l42, kc_l43, kc_l45, kc_l47, kc_l60, kc_l61, kc_l62, kc_l316, kc_l318, kc_l65536, kc_l99999, kc_l1000000, kc_l252645135, kc_l858993459, kc_l1431655765, kc_0, kc_on]
  refine sp_pos n10 ?_
  refine sp_call (y_keep M' C) ?_
  intro h2 Y
  rw [ra_193_20 Y.2.1.1, Option.bind_some, ix_man (by omega) (by omega), mn_203, gi_n (by omega), nx_cl (by omega)]
  refine sp_pos (by simp; omega) ?_
  rw [sp_bd]
  have W := up4_wf w hm
  have Y3 := Y.set W.2
  generalize pm_setI h2 203 (10 + 6 * m + 4) (nI 1) = h3 at Y3
  rw [ra_193_20 Y3.2.1.1, Option.bind_some, ix_man (by omega) (by omega), mn_203, gi_n (by omega), nx_cl (by omega)]
  refine sp_pos (by simp; omega) ?_
  rw [sp_bd]
  have w4 := (die_wf w hm).2
  have Y4 : YA h n A (dieA A m) P (pm_setI h3 203 (10 + 6 * m + 2) (nI 0)) := Y3.set w4
  generalize pm_setI h3 203 (10 + 6 * m + 2) (nI 0) = h4 at Y4
  rw [m_aliveSet_n w4 Y4.2.1.1 Y4.2.1.2.1, Option.bind_some, m_bits_n h4 (by have := bs9 w4 (fun m_1 => !isDd (dieA A m) m_1); unfold alvN; omega), Option.bind_some, sp_some]
  exact ⟨rfl, Y4⟩
theorem m_die_no {x : Int32} (M : MI h A) (no : ¬ ∃ m, x = nI m ∧ dieOk A m) : m_die 193 x h = some (ng 1, h) := by
  obtain ⟨R, hA, w⟩ := M
  unfold m_die
  simp only [kc_im8, kc_im1, kc_i0, kc_i1, kc_i2, kc_i3, kc_i4, kc_i5, kc_b_m100, kc_b_m16, kc_b_m15, kc_b_m14, kc_b_m13, kc_b_m12, kc_b_m11, kc_b_m2, kc_b_6, kc_b_7, kc_b_8, kc_b_9, kc_b_10, kc_b_11, kc_b_12, kc_b_13, kc_b_14, kc_b_15, kc_b_16, kc_b_20, kc_b_24, kc_b_32, kc_b_37, kc_b_40, kc_b_42, kc_b_43, kc_b_45, kc_b_47, kc_b_48, kc_b_57, kc_b_58, kc_b_59, kc_b_60, kc_b_61, kc_b_62, kc_b_63, kc_b_91, kc_b_93, kc_b_97, kc_b_99, kc_b_100, kc_b_106, kc_b_122, kc_s_206, kc_s_226, kc_s_227, kc_s_255, kc_s_256, kc_s_316, kc_s_318, kc_s_400, kc_s_512, kc_s_999, kc_s_1160, kc_s_1536, kc_s_3003, kc_lm11, kc_lm10, kc_lm9, kc_lm8, kc_lm7, kc_lm6, kc_lm5, kc_lm4, kc_lm3, kc_lm2, kc_lm1, kc_l1, kc_l2, kc_l3, kc_l4, kc_l5, kc_l6, kc_l7, kc_l8, kc_l9, kc_l10, kc_l11, kc_l12, kc_l13, kc_l14, kc_l37, kc_l42, kc_l43, kc_l45, kc_l47, kc_l60, kc_l61, kc_l62, kc_l316, kc_l318, kc_l65536, kc_l99999, kc_l1000000, kc_l252645135, kc_l858993459, kc_l1431655765, kc_0, kc_on]
  by_cases q : ∃ m, m < an A 1 ∧ x = nI m
  · obtain ⟨m, hm, rfl⟩ := q
    rw [m_isAlive_t w R hA hm, Option.bind_some]
    by_cases hd : isDd A m = false
    · exact (no ⟨m, rfl, hm, hd⟩).elim
    · rw [Bool.not_eq_false] at hd
      rw [hd, nl0, if_neg (show ¬ ¬ nI 0 = nI 0 from fun z => z rfl)]
  · rw [m_isAlive_f w R hA q, Option.bind_some, if_neg (show ¬ ¬ nI 0 = nI 0 from fun z => z rfl)]
end SI
