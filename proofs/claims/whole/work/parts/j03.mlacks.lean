/-! lacks of the reference: the searches, the answer. -/
/-- the answers, by what is lacking -/
def vLk (K k : Nat) : Int32 := if K = 1000 then ng 2 else if k = 0 then nI (if K < 10 then 0 else if K < 100 then 1 else 2) else if k = 1 then (if K < 10 then ng 2 else if K < 100 then nI (K - 10) else nI ((K - 100) / 10)) else (if K < 100 then ng 2 else nI ((K - 100) % 10))
section MK
variable {h : pm_H} {A : Nat → Int32} {o : Nat}
theorem m_lk1 (M : MI h A) (ho : o < an A 2) : SP (wh (fun z : (Int32 × pm_H) => m_lacksOf_13 193 (nI o) z.1 z.2) (nI 0, h)) (fun z => match z with | .inl h' => FrM LF (· = 23) h h' ∧ ∃ a, a < an A 0 ∧ canE A o [a] ∧ (∀ b, b < a → ¬ canE A o [b]) ∧ h'.2.1 206 0 = nI a | .inr h' => FrM LF (· = 23) h h' ∧ ∀ a, a < an A 0 → ¬ canE A o [a]) := by
  obtain ⟨R, hA, w⟩ := M
  have e0 := w.e0
  refine wh_cnt (fun i z => z.1 = nI i ∧ FrM LF (· = 23) h z.2 ∧ ∀ b, b < i → ¬ canE A o [b]) _ (an A 0) ?_ ?_ 0 (nI 0, h) (by omega) ⟨rfl, FrM.refl _ _ _, fun b q => by omega⟩
  · rintro i ⟨y, h1⟩ hi ⟨hy, f1, n1⟩
    dsimp only at hy f1 n1
    subst hy
    have M1 : MI h1 A := ⟨R.fm f1, by rw [f1.i (by omega) (by unfold LF FC; omega)]; exact hA, w⟩
    unfold m_lacksOf_13
    simp only [kc_im8, kc_im1, kc_i0, kc_i1, kc_i2, kc_i3, kc_i4, kc_i5, kc_b_m100, kc_b_m16, kc_b_m15, kc_b_m14, kc_b_m13, kc_b_m12, kc_b_m11, kc_b_m2, kc_b_6, kc_b_7, kc_b_8, kc_b_9, kc_b_10, kc_b_11, kc_b_12, kc_b_13, kc_b_14, kc_b_15, kc_b_16, kc_b_20, kc_b_24, kc_b_32, kc_b_37, kc_b_40, kc_b_42, kc_b_43, kc_b_45, kc_b_47, kc_b_48, kc_b_57, kc_b_58, kc_b_59, kc_b_60, kc_b_61, kc_b_62, kc_b_63, kc_b_91, kc_b_93, kc_b_97, kc_b_99, kc_b_100, kc_b_106, kc_b_122, kc_s_206, kc_s_226, kc_s_227, kc_s_255, kc_s_256, kc_s_316, kc_s_318, kc_s_400, kc_s_512, kc_s_999, kc_s_1160, kc_s_1536, kc_s_3003, kc_lm11, kc_lm10, kc_lm9, kc_lm8, kc_lm7, kc_lm6, kc_lm5, kc_lm4, kc_lm3, kc_lm2, kc_lm1, kc_l1, kc_l2, kc_l3, kc_l4, kc_l5, kc_l6, kc_l7, kc_l8, kc_l9, kc_l10, kc_l11, kc_l12, kc_l13, kc_l14, kc_l37, kc_l42, kc_l43, kc_l45, kc_l47, kc_l60, kc_l61, kc_l62, kc_l316, kc_l318, kc_l65536, kc_l99999, kc_l1000000, kc_l252645135, kc_l858993459, kc_l1431655765, kc_0, kc_on]
    rw [ra_193_20 M1.1, Option.bind_some, mn_203, gi_n (by omega), nx_cl (by omega), M1.2.1, e0.1]
    refine sp_pos (by simp) (sp_neg (by rw [nx_le (by omega) (by omega)]; omega) ?_)
    rw [ra_193_25 M1.1, Option.bind_some, mn_206, gi_n (by omega)]
    refine sp_pos (by simp) ?_
    rw [sp_bd]
    refine sp_call (can1 M1 ho hi) ?_
    rintro ⟨v, h2⟩ ⟨f2, e6, q⟩
    dsimp only at f2 e6 q
    rcases q with ⟨rfl, q⟩ | ⟨rfl, q⟩
    · exact sp_neg n10 (sp_some.mpr ⟨f1.trans f2, i, hi, q, n1, e6⟩)
    · refine sp_pos rfl (sp_some.mpr ⟨nx_add i 1, f1.trans f2, fun b hb => ?_⟩)
      by_cases z : b = i
      · rw [z]; exact q
      · exact n1 b (by omega)
  · rintro ⟨y, h1⟩ ⟨hy, f1, n1⟩
    dsimp only at hy f1 n1
    subst hy
    have M1 : MI h1 A := ⟨R.fm f1, by rw [f1.i (by omega) (by unfold LF FC; omega)]; exact hA, w⟩
    unfold m_lacksOf_13
    simp only [kc_im8, kc_im1, kc_i0, kc_i1, kc_i2, kc_i3, kc_i4, kc_i5, kc_b_m100, kc_b_m16, kc_b_m15, kc_b_m14, kc_b_m13, kc_b_m12, kc_b_m11, kc_b_m2, kc_b_6, kc_b_7, kc_b_8, kc_b_9, kc_b_10, kc_b_11, kc_b_12, kc_b_13, kc_b_14, kc_b_15, kc_b_16, kc_b_20, kc_b_24, kc_b_32, kc_b_37, kc_b_40, kc_b_42, kc_b_43, kc_b_45, kc_b_47, kc_b_48, kc_b_57, kc_b_58, kc_b_59, kc_b_60, kc_b_61, kc_b_62, kc_b_63, kc_b_91, kc_b_93, kc_b_97, kc_b_99, kc_b_100, kc_b_106, kc_b_122, kc_s_206, kc_s_226, kc_s_227, kc_s_255, kc_s_256, kc_s_316, kc_s_318, kc_s_400, kc_s_512, kc_s_999, kc_s_1160, kc_s_1536, kc_s_3003, kc_lm11, kc_lm10, kc_lm9, kc_lm8, kc_lm7, kc_lm6, kc_lm5, kc_lm4, kc_lm3, kc_lm2, kc_lm1, kc_l1, kc_l2, kc_l3, kc_l4, kc_l5, kc_l6, kc_l7, kc_l8, kc_l9, kc_l10, kc_l11, kc_l12, kc_l13, kc_l14, kc_l37, kc_l42, kc_l43, kc_l45, kc_l47, kc_l60, kc_l61, kc_l62, kc_l316, kc_l318, kc_l65536, kc_l99999, kc_l1000000, kc_l252645135, kc_l858993459, kc_l1431655765, kc_0, kc_on]
    rw [ra_193_20 M1.1, Option.bind_some, mn_203, gi_n (by omega), nx_cl (by omega), M1.2.1, e0.1]
    exact sp_pos (by simp) (sp_pos (by rw [nx_le (by omega) (by omega)]; omega) (sp_some.mpr ⟨f1, n1⟩))
theorem m_lk2a (M : MI h A) (ho : o < an A 2) {a : Nat} (ha : a < an A 0) : SP (wh (fun z : (Int32 × pm_H) => m_lacksOf_61 193 (nI o) (nI a) z.1 z.2) (nI a, h)) (fun z => match z with | .inl h' => FrM LF (· = 23) h h' ∧ ∃ b, a ≤ b ∧ b < an A 0 ∧ canE A o [a, b] ∧ (∀ d, a ≤ d → d < b → ¬ canE A o [a, d]) ∧ h'.2.1 206 0 = nI a ∧ h'.2.1 206 1 = nI b | .inr h' => FrM LF (· = 23) h h' ∧ ∀ b, a ≤ b → b < an A 0 → ¬ canE A o [a, b]) := by
  obtain ⟨R, hA, w⟩ := M
  have e0 := w.e0
  refine wh_cnt (fun i z => z.1 = nI i ∧ a ≤ i ∧ FrM LF (· = 23) h z.2 ∧ ∀ b, a ≤ b → b < i → ¬ canE A o [a, b]) _ (an A 0) ?_ ?_ a (nI a, h) (by omega) ⟨rfl, Nat.le_refl _, FrM.refl _ _ _, fun b q q2 => by omega⟩
  · rintro i ⟨y, h1⟩ hi ⟨hy, ai, f1, n1⟩
    dsimp only at hy f1 n1
    subst hy
    have M1 : MI h1 A := ⟨R.fm f1, by rw [f1.i (by omega) (by unfold LF FC; omega)]; exact hA, w⟩
    unfold m_lacksOf_61
    simp only [kc_im8, kc_im1, kc_i0, kc_i1, kc_i2, kc_i3, kc_i4, kc_i5, kc_b_m100, kc_b_m16, kc_b_m15, kc_b_m14, kc_b_m13, kc_b_m12, kc_b_m11, kc_b_m2, kc_b_6, kc_b_7, kc_b_8, kc_b_9, kc_b_10, kc_b_11, kc_b_12, kc_b_13, kc_b_14, kc_b_15, kc_b_16, kc_b_20, kc_b_24, kc_b_32, kc_b_37, kc_b_40, kc_b_42, kc_b_43, kc_b_45, kc_b_47, kc_b_48, kc_b_57, kc_b_58, kc_b_59, kc_b_60, kc_b_61, kc_b_62, kc_b_63, kc_b_91, kc_b_93, kc_b_97, kc_b_99, kc_b_100, kc_b_106, kc_b_122, kc_s_206, kc_s_226, kc_s_227, kc_s_255, kc_s_256, kc_s_316, kc_s_318, kc_s_400, kc_s_512, kc_s_999, kc_s_1160, kc_s_1536, kc_s_3003, kc_lm11, kc_lm10, kc_lm9, kc_lm8, kc_lm7, kc_lm6, kc_lm5, kc_lm4, kc_lm3, kc_lm2, kc_lm1, kc_l1, kc_l2, kc_l3, kc_l4, kc_l5, kc_l6, kc_l7, kc_l8, kc_l9, kc_l10, kc_l11, kc_l12, kc_l13, kc_l14, kc_l37, kc_l42, kc_l43, kc_l45, kc_l47, kc_l60, kc_l61, kc_l62, kc_l316, kc_l318, kc_l65536, kc_l99999, kc_l1000000, kc_l252645135, kc_l858993459, kc_l1431655765, kc_0, kc_on]
    rw [ra_193_20 M1.1, Option.bind_some, mn_203, gi_n (by omega), nx_cl (by omega), M1.2.1, e0.1]
    refine sp_pos (by simp) (sp_neg (by rw [nx_le (by omega) (by omega)]; omega) ?_)
    rw [ra_193_25 M1.1, Option.bind_some, mn_206, gi_n (by omega)]
    refine sp_pos (by simp) ?_
    rw [sp_bd, ra_193_25 M1.1.setI, Option.bind_some, mn_206, gi_n (by omega), nx_cl (by omega)]
    refine sp_pos (by simp) ?_
    rw [sp_bd]
    refine sp_call (can2 M1 ho ha hi) ?_
    rintro ⟨v, h2⟩ ⟨f2, e6, e7, q⟩
    dsimp only at f2 e6 e7 q
    rcases q with ⟨rfl, q⟩ | ⟨rfl, q⟩
    · exact sp_neg n10 (sp_some.mpr ⟨f1.trans f2, i, ai, hi, q, n1, e6, e7⟩)
    · refine sp_pos rfl (sp_some.mpr ⟨nx_add i 1, by omega, f1.trans f2, fun b hab hb => ?_⟩)
      by_cases z : b = i
      · rw [z]; exact q
      · exact n1 b hab (by omega)
  · rintro ⟨y, h1⟩ ⟨hy, ai, f1, n1⟩
    dsimp only at hy f1 n1
    subst hy
    have M1 : MI h1 A := ⟨R.fm f1, by rw [f1.i (by omega) (by unfold LF FC; omega)]; exact hA, w⟩
    unfold m_lacksOf_61
    simp only [kc_im8, kc_im1, kc_i0, kc_i1, kc_i2, kc_i3, kc_i4, kc_i5, kc_b_m100, kc_b_m16, kc_b_m15, kc_b_m14, kc_b_m13, kc_b_m12, kc_b_m11, kc_b_m2, kc_b_6, kc_b_7, kc_b_8, kc_b_9, kc_b_10, kc_b_11, kc_b_12, kc_b_13, kc_b_14, kc_b_15, kc_b_16, kc_b_20, kc_b_24, kc_b_32, kc_b_37, kc_b_40, kc_b_42, kc_b_43, kc_b_45, kc_b_47, kc_b_48, kc_b_57, kc_b_58, kc_b_59, kc_b_60, kc_b_61, kc_b_62, kc_b_63, kc_b_91, kc_b_93, kc_b_97, kc_b_99, kc_b_100, kc_b_106, kc_b_122, kc_s_206, kc_s_226, kc_s_227, kc_s_255, kc_s_256, kc_s_316, kc_s_318, kc_s_400, kc_s_512, kc_s_999, kc_s_1160, kc_s_1536, kc_s_3003, kc_lm11, kc_lm10, kc_lm9, kc_lm8, kc_lm7, kc_lm6, kc_lm5, kc_lm4, kc_lm3, kc_lm2, kc_lm1, kc_l1, kc_l2, kc_l3, kc_l4, kc_l5, kc_l6, kc_l7, kc_l8, kc_l9, kc_l10, kc_l11, kc_l12, kc_l13, kc_l14, kc_l37, kc_l42, kc_l43, kc_l45, kc_l47, kc_l60, kc_l61, kc_l62, kc_l316, kc_l318, kc_l65536, kc_l99999, kc_l1000000, kc_l252645135, kc_l858993459, kc_l1431655765, kc_0, kc_on]
    rw [ra_193_20 M1.1, Option.bind_some, mn_203, gi_n (by omega), nx_cl (by omega), M1.2.1, e0.1]
    exact sp_pos (by simp) (sp_pos (by rw [nx_le (by omega) (by omega)]; omega) (sp_some.mpr ⟨f1, n1⟩))
theorem m_lk2 (M : MI h A) (ho : o < an A 2) : SP (wh (fun z : (Int32 × pm_H) => m_lacksOf_49 193 (nI o) z.1 z.2) (nI 0, h)) (fun z => match z with | .inl h' => FrM LF (· = 23) h h' ∧ ∃ a b, a ≤ b ∧ b < an A 0 ∧ canE A o [a, b] ∧ (∀ a' b', a' ≤ b' → b' < an A 0 → (a' < a ∨ (a' = a ∧ b' < b)) → ¬ canE A o [a', b']) ∧ h'.2.1 206 0 = nI a ∧ h'.2.1 206 1 = nI b | .inr h' => FrM LF (· = 23) h h' ∧ ∀ a b, a ≤ b → b < an A 0 → ¬ canE A o [a, b]) := by
  obtain ⟨R, hA, w⟩ := M
  have e0 := w.e0
  refine wh_cnt (fun i z => z.1 = nI i ∧ FrM LF (· = 23) h z.2 ∧ ∀ a b, a < i → a ≤ b → b < an A 0 → ¬ canE A o [a, b]) _ (an A 0) ?_ ?_ 0 (nI 0, h) (by omega) ⟨rfl, FrM.refl _ _ _, fun a b q => by omega⟩
  · rintro i ⟨y, h1⟩ hi ⟨hy, f1, n1⟩
    dsimp only at hy f1 n1
    subst hy
    have M1 : MI h1 A := ⟨R.fm f1, by rw [f1.i (by omega) (by unfold LF FC; omega)]; exact hA, w⟩
    unfold m_lacksOf_49
    simp only [kc_im8, kc_im1, kc_i0, kc_i1, kc_i2, kc_i3, kc_i4, kc_i5, kc_b_m100, kc_b_m16, kc_b_m15, kc_b_m14, kc_b_m13, kc_b_m12, kc_b_m11, kc_b_m2, kc_b_6, kc_b_7, kc_b_8, kc_b_9, kc_b_10, kc_b_11, kc_b_12, kc_b_13, kc_b_14, kc_b_15, kc_b_16, kc_b_20, kc_b_24, kc_b_32, kc_b_37, kc_b_40, kc_b_42, kc_b_43, kc_b_45, kc_b_47, kc_b_48, kc_b_57, kc_b_58, kc_b_59, kc_b_60, kc_b_61, kc_b_62, kc_b_63, kc_b_91, kc_b_93, kc_b_97, kc_b_99, kc_b_100, kc_b_106, kc_b_122, kc_s_206, kc_s_226, kc_s_227, kc_s_255, kc_s_256, kc_s_316, kc_s_318, kc_s_400, kc_s_512, kc_s_999, kc_s_1160, kc_s_1536, kc_s_3003, kc_lm11, kc_lm10, kc_lm9, kc_lm8, kc_lm7, kc_lm6, kc_lm5, kc_lm4, kc_lm3, kc_lm2, kc_lm1, kc_l1, kc_l2, kc_l3, kc_l4, kc_l5, kc_l6, kc_l7, kc_l8, kc_l9, kc_l10, kc_l11, kc_l12, kc_l13, kc_l14, kc_l37, kc_l42, kc_l43, kc_l45, kc_l47, kc_l60, kc_l61, kc_l62, kc_l316, kc_l318, kc_l65536, kc_l99999, kc_l1000000, kc_l252645135, kc_l858993459, kc_l1431655765, kc_0, kc_on]
    rw [ra_193_20 M1.1, Option.bind_some, mn_203, gi_n (by omega), nx_cl (by omega), M1.2.1, e0.1]
    refine sp_pos (by simp) (sp_neg (by rw [nx_le (by omega) (by omega)]; omega) ?_)
    refine sp_call (m_lk2a M1 ho hi) ?_
    rintro (h2 | h2) q
    · obtain ⟨f2, b, b1, b2, b3, b4, b5, b6⟩ := q
      refine sp_some.mpr ⟨f1.trans f2, i, b, b1, b2, b3, fun a' b' q1 q2 q3 => ?_, b5, b6⟩
      rcases q3 with q3 | ⟨rfl, q3⟩
      · exact n1 a' b' q3 q1 q2
      · exact b4 b' q1 q3
    · refine sp_some.mpr ⟨nx_add i 1, f1.trans q.1, fun a b q1 q2 q3 => ?_⟩
      by_cases z : a = i
      · rw [z] at q2 ⊢; exact q.2 b q2 q3
      · exact n1 a b (by omega) q2 q3
  · rintro ⟨y, h1⟩ ⟨hy, f1, n1⟩
    dsimp only at hy f1 n1
    subst hy
    have M1 : MI h1 A := ⟨R.fm f1, by rw [f1.i (by omega) (by unfold LF FC; omega)]; exact hA, w⟩
    unfold m_lacksOf_49
    simp only [kc_im8, kc_im1, kc_i0, kc_i1, kc_i2, kc_i3, kc_i4, kc_i5, kc_b_m100, kc_b_m16, kc_b_m15, kc_b_m14, kc_b_m13, kc_b_m12, kc_b_m11, kc_b_m2, kc_b_6, kc_b_7, kc_b_8, kc_b_9, kc_b_10, kc_b_11, kc_b_12, kc_b_13, kc_b_14, kc_b_15, kc_b_16, kc_b_20, kc_b_24, kc_b_32, kc_b_37, kc_b_40, kc_b_42, kc_b_43, kc_b_45, kc_b_47, kc_b_48, kc_b_57, kc_b_58, kc_b_59, kc_b_60, kc_b_61, kc_b_62, kc_b_63, kc_b_91, kc_b_93, kc_b_97, kc_b_99, kc_b_100, kc_b_106, kc_b_122, kc_s_206, kc_s_226, kc_s_227, kc_s_255, kc_s_256, kc_s_316, kc_s_318, kc_s_400, kc_s_512, kc_s_999, kc_s_1160, kc_s_1536, kc_s_3003, kc_lm11, kc_lm10, kc_lm9, kc_lm8, kc_lm7, kc_lm6, kc_lm5, kc_lm4, kc_lm3, kc_lm2, kc_lm1, kc_l1, kc_l2, kc_l3, kc_l4, kc_l5, kc_l6, kc_l7, kc_l8, kc_l9, kc_l10, kc_l11, kc_l12, kc_l13, kc_l14, kc_l37, kc_l42, kc_l43, kc_l45, kc_l47, kc_l60, kc_l61, kc_l62, kc_l316, kc_l318, kc_l65536, kc_l99999, kc_l1000000, kc_l252645135, kc_l858993459, kc_l1431655765, kc_0, kc_on]
    rw [ra_193_20 M1.1, Option.bind_some, mn_203, gi_n (by omega), nx_cl (by omega), M1.2.1, e0.1]
    exact sp_pos (by simp) (sp_pos (by rw [nx_le (by omega) (by omega)]; omega) (sp_some.mpr ⟨f1, fun a b q1 q2 => n1 a b (by omega) q1 q2⟩))
/-- what the search answers, and moreWord -/
def LR (K : Nat) (v : Int32) (h : pm_H) : Prop := (K = 1000 ∧ v = ng 1) ∨ (K = 0 ∧ v = nI 0) ∨ (∃ a, a < 10 ∧ K = 10 + a ∧ v = nI 1 ∧ h.2.1 206 0 = nI a) ∨ ∃ a b, a ≤ b ∧ b < 10 ∧ K = 100 + 10 * a + b ∧ v = nI 2 ∧ h.2.1 206 0 = nI a ∧ h.2.1 206 1 = nI b
theorem m_lacksOf_sp (M : MI h A) (ho : o < an A 2) : SP (m_lacksOf 193 (nI o) h) (fun z => FrM LF (· = 23) h z.2 ∧ LR (lkN A o) z.1 z.2) := by
  have w := M.2.2
  have e0 := w.e0
  unfold m_lacksOf
  simp only [kc_im8, kc_im1, kc_i0, kc_i1, kc_i2, kc_i3, kc_i4, kc_i5, kc_b_m100, kc_b_m16, kc_b_m15, kc_b_m14, kc_b_m13, kc_b_m12, kc_b_m11, kc_b_m2, kc_b_6, kc_b_7, kc_b_8, kc_b_9, kc_b_10, kc_b_11, kc_b_12, kc_b_13, kc_b_14, kc_b_15, kc_b_16, kc_b_20, kc_b_24, kc_b_32, kc_b_37, kc_b_40, kc_b_42, kc_b_43, kc_b_45, kc_b_47, kc_b_48, kc_b_57, kc_b_58, kc_b_59, kc_b_60, kc_b_61, kc_b_62, kc_b_63, kc_b_91, kc_b_93, kc_b_97, kc_b_99, kc_b_100, kc_b_106, kc_b_122, kc_s_206, kc_s_226, kc_s_227, kc_s_255, kc_s_256, kc_s_316, kc_s_318, kc_s_400, kc_s_512, kc_s_999, kc_s_1160, kc_s_1536, kc_s_3003, kc_lm11, kc_lm10, kc_lm9, kc_lm8, kc_lm7, kc_lm6, kc_lm5, kc_lm4, kc_lm3, kc_lm2, kc_lm1, kc_l1, kc_l2, kc_l3, kc_l4, kc_l5, kc_l6, kc_l7, kc_l8, kc_l9, kc_l10, kc_l11, kc_l12, kc_l13, kc_l14, kc_l37, kc_l42, kc_l43, kc_l45, kc_l47, kc_l60, kc_l61, kc_l62, kc_l316, kc_l318, kc_l65536, kc_l99999, kc_l1000000, kc_l252645135, kc_l858993459, kc_l1431655765, kc_0, kc_on]
  refine sp_call (can0 M ho) ?_
  rintro ⟨v, h1⟩ ⟨f1, q⟩
  dsimp only at f1 q
  rcases q with ⟨rfl, q⟩ | ⟨rfl, n0⟩
  · refine sp_neg n10 (sp_some.mpr ⟨f1, ?_⟩)
    rw [lkN_of (LK_0 w q)]
    exact .inr (.inl ⟨rfl, rfl⟩)
  · refine sp_pos rfl ?_
    have M1 : MI h1 A := ⟨M.1.fm f1, by rw [f1.i (by omega) (by unfold LF FC; omega)]; exact M.2.1, w⟩
    refine sp_call (m_lk1 M1 ho) ?_
    rintro (h2 | h2) q
    · obtain ⟨f2, a, a1, a2, a3, a4⟩ := q
      refine sp_some.mpr ⟨f1.trans f2, ?_⟩
      rw [lkN_of (LK_1 w n0 a1 a2 a3)]
      exact .inr (.inr (.inl ⟨a, by omega, rfl, rfl, a4⟩))
    · obtain ⟨f2, n1⟩ := q
      have M2 : MI h2 A := ⟨M1.1.fm f2, by rw [f2.i (by omega) (by unfold LF FC; omega)]; exact M1.2.1, w⟩
      dsimp only
      refine sp_call (m_lk2 M2 ho) ?_
      rintro (h3 | h3) q
      · obtain ⟨f3, a, b, b1, b2, b3, b4, b5, b6⟩ := q
        refine sp_some.mpr ⟨(f1.trans f2).trans f3, ?_⟩
        rw [lkN_of (LK_2 w n0 n1 b1 b2 b3 b4)]
        exact .inr (.inr (.inr ⟨a, b, b1, by omega, rfl, rfl, b5, b6⟩))
      · refine sp_some.mpr ⟨(f1.trans f2).trans q.1, ?_⟩
        rw [lkN_of (LK_3 w n0 n1 q.2)]
        exact .inl ⟨rfl, rfl⟩
theorem m_lacks_ok (M : MI h A) (ho : o < an A 2) {k : Nat} (hk : k ≤ 2) : SP (m_lacks 193 (nI o) (nI k) h) (fun z => z.1 = vLk (lkN A o) k ∧ FM h z.2) := by
  unfold m_lacks
  rw [m_isOrder_t M ho, Option.bind_some]
  simp only [kc_im8, kc_im1, kc_i0, kc_i1, kc_i2, kc_i3, kc_i4, kc_i5, kc_b_m100, kc_b_m16, kc_b_m15, kc_b_m14, kc_b_m13, kc_b_m12, kc_b_m11, kc_b_m2, kc_b_6, kc_b_7, kc_b_8, kc_b_9, kc_b_10, kc_b_11, kc_b_12, kc_b_13, kc_b_14, kc_b_15, kc_b_16, kc_b_20, kc_b_24, kc_b_32, kc_b_37, kc_b_40, kc_b_42, kc_b_43, kc_b_45, kc_b_47, kc_b_48, kc_b_57, kc_b_58, kc_b_59, kc_b_60, kc_b_61, kc_b_62, kc_b_63, kc_b_91, kc_b_93, kc_b_97, kc_b_99, kc_b_100, kc_b_106, kc_b_122, kc_s_206, kc_s_226, kc_s_227, kc_s_255, kc_s_256, kc_s_316, kc_s_318, kc_s_400, kc_s_512, kc_s_999, kc_s_1160, kc_s_1536, kc_s_3003, kc_lm11, kc_lm10, kc_lm9, kc_lm8, kc_lm7, kc_lm6, kc_lm5, kc_lm4, kc_lm3, kc_lm2, kc_lm1, kc_l1, kc_l2, kc_l3, kc_l4, kc_l5, kc_l6, kc_l7, kc_l8, kc_l9, kc_l10, kc_l11, kc_l12, kc_l13, kc_l14, kc_l37, kc_l42, kc_l43, kc_l45, kc_l47, kc_l60, kc_l61, kc_l62, kc_l316, kc_l318, kc_l65536, kc_l99999, kc_l1000000, kc_l252645135, kc_l858993459, kc_l1431655765, kc_0, kc_on]
  refine sp_neg n10 ?_
  rw [in_t h (lo := Int64.ofNat 0) (hi := 2) (a := 0) (n := 2) (Nat.zero_le _) hk (by omega) rfl rfl, Option.bind_some]
  refine sp_pos n10 (sp_call (m_lacksOf_sp M ho) ?_)
  rintro ⟨v, h1⟩ ⟨f1, q⟩
  dsimp only at f1 q
  have R1 := M.1.fm f1
  have fm : FM h h1 := f1.fm (fun c hc => by unfold LF FC at hc; unfold MF; omega) (fun j hj => by unfold FF; omega)
  generalize lkN A o = K at q ⊢
  dsimp only
  rcases q with ⟨rfl, rfl⟩ | ⟨rfl, rfl⟩ | ⟨a, a1, rfl, rfl, a2⟩ | ⟨a, b, b1, b2, rfl, rfl, b3, b4⟩
  · exact sp_neg (by decide) (sp_some.mpr ⟨rfl, fm⟩)
  · refine sp_pos (by decide) ?_
    by_cases k0 : k = 0
    · subst k0
      exact sp_neg (fun z => z (by first | rfl | trivial)) (sp_some.mpr ⟨rfl, fm⟩)
    · refine sp_pos (by rw [nx_eq (by omega) (by omega)]; exact k0) (sp_pos (by rw [nx_lt (by omega) (by omega)]; omega) (sp_some.mpr ⟨?_, fm⟩))
      unfold vLk
      rw [if_neg (by omega), if_neg k0, if_pos (show 0 < 10 by omega), if_pos (show 0 < 100 by omega)]
      split <;> rfl
  · refine sp_pos (by decide) ?_
    by_cases k0 : k = 0
    · subst k0
      refine sp_neg (fun z => z (by first | rfl | trivial)) (sp_some.mpr ⟨?_, fm⟩)
      unfold vLk
      rw [if_neg (by omega), if_pos rfl, if_neg (by omega), if_pos (by omega)]
    · refine sp_pos (by rw [nx_eq (by omega) (by omega)]; exact k0) ?_
      by_cases k1 : k = 1
      · subst k1
        refine sp_neg (by decide) ?_
        rw [ra_193_25 R1, Option.bind_some, nx_sub (by omega), mn_206, gi_n (by omega), nx_cl (by omega), a2]
        refine sp_pos (by simp) (sp_some.mpr ⟨?_, fm⟩)
        unfold vLk
        rw [if_neg (by omega), if_neg (by omega), if_pos rfl, if_neg (by omega), if_pos (by omega), Nat.add_sub_cancel_left]
      · refine sp_pos (by rw [nx_lt (by omega) (by omega)]; omega) (sp_some.mpr ⟨?_, fm⟩)
        unfold vLk
        rw [if_neg (by omega), if_neg k0, if_neg k1, if_pos (by omega)]
  · refine sp_pos (by decide) ?_
    by_cases k0 : k = 0
    · subst k0
      refine sp_neg (fun z => z (by first | rfl | trivial)) (sp_some.mpr ⟨?_, fm⟩)
      unfold vLk
      rw [if_neg (by omega), if_pos rfl, if_neg (by omega), if_neg (by omega)]
    · refine sp_pos (by rw [nx_eq (by omega) (by omega)]; exact k0) (sp_neg (by rw [nx_lt (by omega) (by omega)]; omega) ?_)
      rw [ra_193_25 R1, Option.bind_some, nx_sub (by omega), mn_206, gi_n (by omega), nx_cl (by omega)]
      refine sp_pos (by simp; omega) (sp_some.mpr ⟨?_, fm⟩)
      dsimp only
      unfold vLk
      have k12 : k = 1 ∨ k = 2 := by omega
      rcases k12 with rfl | rfl
      · rw [if_neg (by omega), if_neg (by omega), if_pos rfl, if_neg (by omega), if_neg (by omega), b3, show (100 + 10 * a + b - 100) / 10 = a from by omega]
      · rw [if_neg (by omega), if_neg (by omega), if_neg (by omega), if_neg (by omega), b4, show (100 + 10 * a + b - 100) % 10 = b from by omega]
theorem m_lacks_no (M : MI h A) {x y : Int32} (no : ¬ ∃ o k, x = nI o ∧ y = nI k ∧ o < an A 2 ∧ k ≤ 2) : m_lacks 193 x y h = some (ng 1, h) := by
  unfold m_lacks
  by_cases hx : ∃ o, o < an A 2 ∧ x = nI o
  · obtain ⟨o, ho, rfl⟩ := hx
    rw [m_isOrder_t M ho, Option.bind_some]
    simp only [kc_im8, kc_im1, kc_i0, kc_i1, kc_i2, kc_i3, kc_i4, kc_i5, kc_b_m100, kc_b_m16, kc_b_m15, kc_b_m14, kc_b_m13, kc_b_m12, kc_b_m11, kc_b_m2, kc_b_6, kc_b_7, kc_b_8, kc_b_9, kc_b_10, kc_b_11, kc_b_12, kc_b_13, kc_b_14, kc_b_15, kc_b_16, kc_b_20, kc_b_24, kc_b_32, kc_b_37, kc_b_40, kc_b_42, kc_b_43, kc_b_45, kc_b_47, kc_b_48, kc_b_57, kc_b_58, kc_b_59, kc_b_60, kc_b_61, kc_b_62, kc_b_63, kc_b_91, kc_b_93, kc_b_97, kc_b_99, kc_b_100, kc_b_106, kc_b_122, kc_s_206, kc_s_226, kc_s_227, kc_s_255, kc_s_256, kc_s_316, kc_s_318, kc_s_400, kc_s_512, kc_s_999, kc_s_1160, kc_s_1536, kc_s_3003, kc_lm11, kc_lm10, kc_lm9, kc_lm8, kc_lm7, kc_lm6, kc_lm5, kc_lm4, kc_lm3, kc_lm2, kc_lm1, kc_l1, kc_l2, kc_l3, kc_l4, kc_l5, kc_l6, kc_l7, kc_l8, kc_l9, kc_l10, kc_l11, kc_l12, kc_l13, kc_l14, kc_l37, kc_l42, kc_l43, kc_l45, kc_l47, kc_l60, kc_l61, kc_l62, kc_l316, kc_l318, kc_l65536, kc_l99999, kc_l1000000, kc_l252645135, kc_l858993459, kc_l1431655765, kc_0, kc_on]
    rw [if_neg n10, m_in_f h (lo := Int64.ofNat 0) (hi := 2) (n := 2) (fun ⟨k, hk, e⟩ => no ⟨o, k, rfl, e, ho, hk⟩) (by omega) rfl rfl, Option.bind_some, if_neg (show ¬ ¬ nI 0 = nI 0 from fun z => z rfl)]
  · rw [m_isOrder_f M hx, Option.bind_some]
    simp only [kc_im8, kc_im1, kc_i0, kc_i1, kc_i2, kc_i3, kc_i4, kc_i5, kc_b_m100, kc_b_m16, kc_b_m15, kc_b_m14, kc_b_m13, kc_b_m12, kc_b_m11, kc_b_m2, kc_b_6, kc_b_7, kc_b_8, kc_b_9, kc_b_10, kc_b_11, kc_b_12, kc_b_13, kc_b_14, kc_b_15, kc_b_16, kc_b_20, kc_b_24, kc_b_32, kc_b_37, kc_b_40, kc_b_42, kc_b_43, kc_b_45, kc_b_47, kc_b_48, kc_b_57, kc_b_58, kc_b_59, kc_b_60, kc_b_61, kc_b_62, kc_b_63, kc_b_91, kc_b_93, kc_b_97, kc_b_99, kc_b_100, kc_b_106, kc_b_122, kc_s_206, kc_s_226, kc_s_227, kc_s_255, kc_s_256, kc_s_316, kc_s_318, kc_s_400, kc_s_512, kc_s_999, kc_s_1160, kc_s_1536, kc_s_3003, kc_lm11, kc_lm10, kc_lm9, kc_lm8, kc_lm7, kc_lm6, kc_lm5, kc_lm4, kc_lm3, kc_lm2, kc_lm1, kc_l1, kc_l2, kc_l3, kc_l4, kc_l5, kc_l6, kc_l7, kc_l8, kc_l9, kc_l10, kc_l11, kc_l12, kc_l13, kc_l14, kc_l37, kc_l42, kc_l43, kc_l45, kc_l47, kc_l60, kc_l61, kc_l62, kc_l316, kc_l318, kc_l65536, kc_l99999, kc_l1000000, kc_l252645135, kc_l858993459, kc_l1431655765, kc_0, kc_on]
    rw [if_pos (by first | rfl | trivial)]
end MK
