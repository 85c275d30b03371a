/-! nearest, of the reference. -/
section NM
variable {h : pm_H} {A : Nat → Int32} {l : List Nat}
theorem m_nearW (M : MI h A) {N n : Nat} (hn : n ≤ 5) (hN : N < 10 ^ n) (ok : ∀ j, j < n → okM A (dg N n j) = true) (x : Int32) (h23 : h.2.1 193 23 = nI 0) : SP (wh (fun z : (Int32 × pm_H) => m_nearest_29 193 (nI N) (nI n) x z.1 z.2) (nI 0, h)) (fun h' => FrM (· = 204) (· = 23) h h' ∧ h'.2.1 193 23 = nI (hdL A (hrdN A) N n n).length ∧ ROW h' 204 (fun i => (hdL A (hrdN A) N n n).getD i 0) (hdL A (hrdN A) N n n).length) := by
  obtain ⟨R0, hA, w⟩ := M
  refine wh_cnt (fun i z => z.1 = nI i ∧ FrM (· = 204) (· = 23) h z.2 ∧ z.2.2.1 193 23 = nI (hdL A (hrdN A) N n i).length ∧ ∀ j, j < (hdL A (hrdN A) N n i).length → z.2.2.1 204 j = nI ((hdL A (hrdN A) N n i).getD j 0)) _ n ?_ ?_ 0 (nI 0, h) (by omega) ⟨rfl, FrM.refl _ _ _, h23, fun j hj => absurd hj (by show ¬ j < 0; omega)⟩
  · rintro i ⟨y, h1⟩ hi ⟨hy, f1, e1, r1⟩
    dsimp only at hy f1 e1 r1
    subst hy
    have M1 : MI h1 A := ⟨R0.fm f1, by rw [f1.i (by omega) (by omega)]; exact hA, w⟩
    have hl := hdL_len (A := A) (K := hrdN A) (N := N) (n := n) i
    unfold m_nearest_29
    simp only [kc_im8, kc_im1, kc_i0, kc_i1, kc_i2, kc_i3, kc_i4, kc_i5, kc_b_m100, kc_b_m16, kc_b_m15, kc_b_m14, kc_b_m13, kc_b_m12, kc_b_m11, kc_b_m2, kc_b_6, kc_b_7, kc_b_8, kc_b_9, kc_b_10, kc_b_11, kc_b_12, kc_b_13, kc_b_14, kc_b_15, kc_b_16, kc_b_20, kc_b_24, kc_b_32, kc_b_37, kc_b_40, kc_b_42, kc_b_43, kc_b_45, kc_b_47, kc_b_48, kc_b_57, kc_b_58, kc_b_59, kc_b_60, kc_b_61, kc_b_62, kc_b_63, kc_b_91, kc_b_93, kc_b_97, kc_b_99, kc_b_100, kc_b_106, kc_b_122, kc_s_206, kc_s_226, kc_s_227, kc_s_255, kc_s_256, kc_s_316, kc_s_318, kc_s_400, kc_s_512, kc_s_999, kc_s_1160, kc_s_1536, kc_s_3003, kc_lm11, kc_lm10, kc_lm9, kc_lm8, kc_lm7, kc_lm6, kc_lm5, kc_lm4, kc_lm3, kc_lm2, kc_lm1, kc_l1, kc_l2, kc_l3, kc_l4, kc_l5, kc_l6, kc_l7, kc_l8, kc_l9, kc_l10, kc_l11, kc_l12, kc_l13, kc_l14, kc_l37, kc_l42, kc_l43, kc_l45, kc_l47, kc_l60, kc_l61, kc_l62, kc_l316, kc_l318, kc_l65536, kc_l99999, kc_l1000000, kc_l252645135, kc_l858993459, kc_l1431655765, kc_0, kc_on]
    refine sp_neg (by rw [nx_le (by omega) (by omega)]; omega) ?_
    rw [m_digit_n h1 hn hN hi, Option.bind_some, m_isHeard_k M1 (ok i hi), Option.bind_some]
    by_cases q : (hrdN A).testBit (dg N n i) = true
    · refine sp_pos (by rw [nx_bt0, q]; simp) ?_
      rw [ra_193_22 M1.1, Option.bind_some, m_wordOfMan_k M1 (ok i hi), Option.bind_some, mn_204, e1, gi_n (by omega), nx_cl (by omega)]
      refine sp_pos (by simp; omega) ?_
      rw [sp_bd, sp_bd, ri_c _ (by omega), e1, nx_add, nx_add, sp_some]
      refine ⟨rfl, (f1.setI (by omega) rfl).setF rfl, ?_, fun j hj => ?_⟩
      · show (pm_setI (pm_setI h1 204 _ _) 193 23 _).2.1 193 23 = _
        rw [ri_s, hdL_t q, List.length_append, List.length_singleton]
      · show (pm_setI (pm_setI h1 204 _ _) 193 23 _).2.1 204 j = _
        rw [hdL_t q, List.length_append, List.length_singleton] at hj
        rw [ri_c _ (by omega), hdL_t q, getD_app (by omega)]
        by_cases e : j = (hdL A (hrdN A) N n i).length
        · rw [if_pos e, e, ri_s]
        · rw [if_neg e, ri_j _ e]
          exact r1 j (by omega)
    · have q' : (hrdN A).testBit (dg N n i) = false := by simpa using q
      refine sp_neg (by rw [nx_bt0, q']; simp) (sp_some.mpr ⟨nx_add i 1, f1, ?_, ?_⟩)
      · rw [hdL_f q']; exact e1
      · rw [hdL_f q']; exact r1
  · rintro ⟨y, h1⟩ ⟨hy, f1, e1, r1⟩
    dsimp only at hy f1 e1 r1
    subst hy
    unfold m_nearest_29
    refine sp_pos (by rw [nx_le (by omega) (by omega)]; omega) (sp_some.mpr ⟨f1, e1, fun i hi => ⟨r1 i hi, ?_⟩⟩)
    show (hdL A (hrdN A) N n n).getD i 0 < 10
    rw [List.getD_eq_getElem?_getD, List.getElem?_eq_getElem hi]
    exact hdL_lt w ok _ (List.getElem_mem _)
theorem m_nearF (M : MI h A) (hl : l.length ≤ 5) (h23 : h.2.1 193 23 = nI l.length) (hr : ROW h 204 (fun i => l.getD i 0) l.length) (x : Int32) : SP (wh (fun z : (Int32 × Int32 × Int32 × pm_H) => m_nearest_102 193 x z.1 z.2.1 z.2.2.1 z.2.2.2) (ng 2, ng 2, nI 0, h)) (fun z => z.1 = nv1 (nrF A l (an A 2)) ∧ z.2.1 = nv2 (nrF A l (an A 2)) ∧ FrM (· = 209) (fun _ => False) h z.2.2) := by
  obtain ⟨R0, hA, w⟩ := M
  have a2 := w.e2
  refine wh_cnt (fun i z => z.1 = nv1 (nrF A l i) ∧ z.2.1 = nv2 (nrF A l i) ∧ z.2.2.1 = nI i ∧ FrM (· = 209) (fun _ => False) h z.2.2.2) _ (an A 2) ?_ ?_ 0 (ng 2, ng 2, nI 0, h) (by omega) ⟨rfl, rfl, rfl, FrM.refl _ _ _⟩
  · rintro i ⟨v1, v2, y, h1⟩ hi ⟨e1, e2, hy, f1⟩
    dsimp only at e1 e2 hy f1
    subst hy
    have M1 : MI h1 A := ⟨R0.fm f1, by rw [f1.i (by omega) (by omega)]; exact hA, w⟩
    unfold m_nearest_102
    simp only [kc_im8, kc_im1, kc_i0, kc_i1, kc_i2, kc_i3, kc_i4, kc_i5, kc_b_m100, kc_b_m16, kc_b_m15, kc_b_m14, kc_b_m13, kc_b_m12, kc_b_m11, kc_b_m2, kc_b_6, kc_b_7, kc_b_8, kc_b_9, kc_b_10, kc_b_11, kc_b_12, kc_b_13, kc_b_14, kc_b_15, kc_b_16, kc_b_20, kc_b_24, kc_b_32, kc_b_37, kc_b_40, kc_b_42, kc_b_43, kc_b_45, kc_b_47, kc_b_48, kc_b_57, kc_b_58, kc_b_59, kc_b_60, kc_b_61, kc_b_62, kc_b_63, kc_b_91, kc_b_93, kc_b_97, kc_b_99, kc_b_100, kc_b_106, kc_b_122, kc_s_206, kc_s_226, kc_s_227, kc_s_255, kc_s_256, kc_s_316, kc_s_318, kc_s_400, kc_s_512, kc_s_999, kc_s_1160, kc_s_1536, kc_s_3003, kc_lm11, kc_lm10, kc_lm9, kc_lm8, kc_lm7, kc_lm6, kc_lm5, kc_lm4, kc_lm3, kc_lm2, kc_lm1, kc_l1, kc_l2, kc_l3, kc_l4, kc_l5, kc_l6, kc_l7, kc_l8, kc_l9, kc_l10, kc_l11, kc_l12, kc_l13, kc_l14, kc_l37, kc_l42, kc_l43, kc_l45, kc_l47, kc_l60, kc_l61, kc_l62, kc_l316, kc_l318, kc_l65536, kc_l99999, kc_l1000000, kc_l252645135, kc_l858993459, kc_l1431655765, kc_0, kc_on]
    rw [ra_193_20 M1.1, Option.bind_some, mn_203, gi_n (by omega), nx_cl (by omega), M1.2.1, a2.1]
    refine sp_pos (by simp) (sp_neg (by rw [nx_le (by omega) (by omega)]; omega) ?_)
    refine sp_call (m_changesTo_sp M1 hi hl (by rw [f1.f id]; exact h23) (fun j hj => by rw [f1.i (by omega) (by omega)]; exact hr j hj)) ?_
    rintro ⟨c, h2⟩ ⟨hc, f2⟩
    dsimp only at hc f2
    subst hc
    dsimp only
    have put : nrF A l (i + 1) = some (i, chL A l i) → SP (m_nearest_136 193 x (nI i) (nI (chL A l i)) h2) (fun q => match q with | .inl z => z.1 = nv1 (nrF A l (i + 1)) ∧ z.2.1 = nv2 (nrF A l (i + 1)) ∧ z.2.2.1 = nI (i + 1) ∧ FrM (· = 209) (fun _ => False) h z.2.2.2 | .inr z => z.1 = nv1 (nrF A l (an A 2)) ∧ z.2.1 = nv2 (nrF A l (an A 2)) ∧ FrM (· = 209) (fun _ => False) h z.2.2) := by
      intro e
      unfold m_nearest_136
      simp only [kc_im8, kc_im1, kc_i0, kc_i1, kc_i2, kc_i3, kc_i4, kc_i5, kc_b_m100, kc_b_m16, kc_b_m15, kc_b_m14, kc_b_m13, kc_b_m12, kc_b_m11, kc_b_m2, kc_b_6, kc_b_7, kc_b_8, kc_b_9, kc_b_10, kc_b_11, kc_b_12, kc_b_13, kc_b_14, kc_b_15, kc_b_16, kc_b_20, kc_b_24, kc_b_32, kc_b_37, kc_b_40, kc_b_42, kc_b_43, kc_b_45, kc_b_47, kc_b_48, kc_b_57, kc_b_58, kc_b_59, kc_b_60, kc_b_61, kc_b_62, kc_b_63, kc_b_91, kc_b_93, kc_b_97, kc_b_99, kc_b_100, kc_b_106, kc_b_122, kc_s_206, kc_s_226, kc_s_227, kc_s_255, kc_s_256, kc_s_316, kc_s_318, kc_s_400, kc_s_512, kc_s_999, kc_s_1160, kc_s_1536, kc_s_3003, kc_lm11, kc_lm10, kc_lm9, kc_lm8, kc_lm7, kc_lm6, kc_lm5, kc_lm4, kc_lm3, kc_lm2, kc_lm1, kc_l1, kc_l2, kc_l3, kc_l4, kc_l5, kc_l6, kc_l7, kc_l8, kc_l9, kc_l10, kc_l11, kc_l12, kc_l13, kc_l14, kc_l37, kc_l42, kc_l43, kc_l45, kc_l47, kc_l60, kc_l61, kc_l62, kc_l316, kc_l318, kc_l65536, kc_l99999, kc_l1000000, kc_l252645135, kc_l858993459, kc_l1431655765, kc_0, kc_on]
      rw [sp_some, e]
      exact ⟨rfl, rfl, nx_add i 1, f1.trans f2⟩
    rcases nrF_step (c := chL A l i) hl w hi rfl e1 e2 with ⟨q1, q2⟩ | ⟨q1, q2, _, q3⟩ | ⟨q1, q2, _, q3⟩
    · exact sp_pos q1 ((put q2).mono (by rintro (q | q) hq <;> exact hq))
    · exact sp_neg q1 (sp_pos q2 ((put q3).mono (by rintro (q | q) hq <;> exact hq)))
    · refine sp_neg q1 (sp_neg q2 (sp_some.mpr ⟨?_, ?_, nx_add i 1, f1.trans f2⟩))
      · rw [q3]; exact e1
      · rw [q3]; exact e2
  · rintro ⟨v1, v2, y, h1⟩ ⟨e1, e2, hy, f1⟩
    dsimp only at e1 e2 hy f1
    subst hy
    have M1 : MI h1 A := ⟨R0.fm f1, by rw [f1.i (by omega) (by omega)]; exact hA, w⟩
    unfold m_nearest_102
    simp only [kc_im8, kc_im1, kc_i0, kc_i1, kc_i2, kc_i3, kc_i4, kc_i5, kc_b_m100, kc_b_m16, kc_b_m15, kc_b_m14, kc_b_m13, kc_b_m12, kc_b_m11, kc_b_m2, kc_b_6, kc_b_7, kc_b_8, kc_b_9, kc_b_10, kc_b_11, kc_b_12, kc_b_13, kc_b_14, kc_b_15, kc_b_16, kc_b_20, kc_b_24, kc_b_32, kc_b_37, kc_b_40, kc_b_42, kc_b_43, kc_b_45, kc_b_47, kc_b_48, kc_b_57, kc_b_58, kc_b_59, kc_b_60, kc_b_61, kc_b_62, kc_b_63, kc_b_91, kc_b_93, kc_b_97, kc_b_99, kc_b_100, kc_b_106, kc_b_122, kc_s_206, kc_s_226, kc_s_227, kc_s_255, kc_s_256, kc_s_316, kc_s_318, kc_s_400, kc_s_512, kc_s_999, kc_s_1160, kc_s_1536, kc_s_3003, kc_lm11, kc_lm10, kc_lm9, kc_lm8, kc_lm7, kc_lm6, kc_lm5, kc_lm4, kc_lm3, kc_lm2, kc_lm1, kc_l1, kc_l2, kc_l3, kc_l4, kc_l5, kc_l6, kc_l7, kc_l8, kc_l9, kc_l10, kc_l11, kc_l12, kc_l13, kc_l14, kc_l37, kc_l42, kc_l43, kc_l45, kc_l47, kc_l60, kc_l61, kc_l62, kc_l316, kc_l318, kc_l65536, kc_l99999, kc_l1000000, kc_l252645135, kc_l858993459, kc_l1431655765, kc_0, kc_on]
    rw [ra_193_20 M1.1, Option.bind_some, mn_203, gi_n (by omega), nx_cl (by omega), M1.2.1, a2.1]
    exact sp_pos (by simp) (sp_pos (by rw [nx_le (by omega) (by omega)]; omega) (sp_some.mpr ⟨e1, e2, f1⟩))
theorem m_nearest_ok (M : MI h A) {N n k : Nat} (h0 : 0 < n) (hn : n ≤ 5) (hN : N < 10 ^ n) (ok : isM A N n) (hk : k ≤ 1) : SP (m_nearest 193 (nI N) (nI n) (nI k) h) (fun z => z.1 = vNear A N n k ∧ FM h z.2) := by
  have okk : ∀ j, j < n → okM A (dg N n j) = true := fun j hj => (Bool.and_eq_true_iff.mp (ok j hj)).1
  have M' := M
  obtain ⟨R, hA, w⟩ := M
  unfold m_nearest
  rw [m_areMen_t M' h0 hn hN ok, Option.bind_some]
  simp only [kc_im8, kc_im1, kc_i0, kc_i1, kc_i2, kc_i3, kc_i4, kc_i5, kc_b_m100, kc_b_m16, kc_b_m15, kc_b_m14, kc_b_m13, kc_b_m12, kc_b_m11, kc_b_m2, kc_b_6, kc_b_7, kc_b_8, kc_b_9, kc_b_10, kc_b_11, kc_b_12, kc_b_13, kc_b_14, kc_b_15, kc_b_16, kc_b_20, kc_b_24, kc_b_32, kc_b_37, kc_b_40, kc_b_42, kc_b_43, kc_b_45, kc_b_47, kc_b_48, kc_b_57, kc_b_58, kc_b_59, kc_b_60, kc_b_61, kc_b_62, kc_b_63, kc_b_91, kc_b_93, kc_b_97, kc_b_99, kc_b_100, kc_b_106, kc_b_122, kc_s_206, kc_s_226, kc_s_227, kc_s_255, kc_s_256, kc_s_316, kc_s_318, kc_s_400, kc_s_512, kc_s_999, kc_s_1160, kc_s_1536, kc_s_3003, kc_lm11, kc_lm10, kc_lm9, kc_lm8, kc_lm7, kc_lm6, kc_lm5, kc_lm4, kc_lm3, kc_lm2, kc_lm1, kc_l1, kc_l2, kc_l3, kc_l4, kc_l5, kc_l6, kc_l7, kc_l8, kc_l9, kc_l10, kc_l11, kc_l12, kc_l13, kc_l14, kc_l37, kc_l42, kc_l43, kc_l45, kc_l47, kc_l60, kc_l61, kc_l62, kc_l316, kc_l318, kc_l65536, kc_l99999, kc_l1000000, kc_l252645135, kc_l858993459, kc_l1431655765, kc_0, kc_on]
  refine sp_neg (by decide) ?_
  rw [m_in_t h (lo := Int64.ofNat 0) (hi := Int64.ofNat 1) (n := 1) hk (by omega) rfl rfl, Option.bind_some]
  refine sp_pos (by decide) ?_
  rw [sp_bd]
  have f1 : FrM (· = 204) (· = 23) h (pm_setI h 193 23 (nI 0)) := (FrM.refl _ _ h).setF rfl
  refine sp_call (m_nearW ⟨R.fm f1, by rw [f1.i (by omega) (by omega)]; exact hA, w⟩ hn hN okk (nI k) (ri_s _)) ?_
  rintro h2 ⟨f2, e2, r2⟩
  have f12 := f1.trans f2
  have hl := hdL_len (A := A) (K := hrdN A) (N := N) (n := n) n
  refine sp_call (m_mean w (R.fm f12) (by rw [f12.i (by omega) (by omega)]; exact hA) e2 (by omega) r2) ?_
  rintro h3 ⟨f3, m, g', e3, hm, r3, t3⟩
  rw [tl_of] at t3
  obtain ⟨t1, t2⟩ := tl_row t3
  rw [t1] at e3 r3 hm
  have f13 := f12.trans f3
  have r4 : ROW h3 204 (fun i => (meaning (mnA A) (hdL A (hrdN A) N n n)).getD i 0) (meaning (mnA A) (hdL A (hrdN A) N n n)).length := fun i hi => by
    have := r3 i hi
    rw [t2 i (by omega)] at this
    exact this
  refine sp_call (m_nearF ⟨R.fm f13, by rw [f13.i (by omega) (by omega)]; exact hA, w⟩ (by omega) e3 r4 (nI k)) ?_
  rintro ⟨v1, v2, h4⟩ ⟨e4, e5, f4⟩
  dsimp only at e4 e5 f4
  have fm : FM h h4 := (f13.fm (fun c hc => by unfold MF; omega) (fun j hj => by unfold FF; omega)).trans (f4.fm (fun c hc => by unfold MF; omega) (fun j hj => hj.elim))
  unfold vNear
  by_cases k0 : k = 0
  · refine sp_neg (by rw [nx_eq (by omega) (by omega)]; exact fun z => z k0) ?_
    rw [sp_some, if_pos k0]
    exact ⟨e4, fm⟩
  · refine sp_pos (by rw [nx_eq (by omega) (by omega)]; exact k0) ?_
    rw [sp_some, if_neg k0]
    exact ⟨e5, fm⟩
theorem m_nearest_no (M : MI h A) {x y v : Int32} (no : ¬ ∃ N n k, isRD x y N n ∧ isM A N n ∧ k ≤ 1 ∧ v = nI k) : m_nearest 193 x y v h = some (ng 1, h) := by
  unfold m_nearest
  by_cases hr : ∃ N n, isRD x y N n ∧ isM A N n
  · obtain ⟨N, n, q, ok⟩ := hr
    have nk : ¬ ∃ k, k ≤ 1 ∧ v = nI k := fun ⟨k, z1, z2⟩ => no ⟨N, n, k, q, ok, z1, z2⟩
    obtain ⟨rfl, rfl, h0, hn, hN⟩ := q
    rw [m_areMen_t M h0 hn hN ok, Option.bind_some]
    simp only [kc_im8, kc_im1, kc_i0, kc_i1, kc_i2, kc_i3, kc_i4, kc_i5, kc_b_m100, kc_b_m16, kc_b_m15, kc_b_m14, kc_b_m13, kc_b_m12, kc_b_m11, kc_b_m2, kc_b_6, kc_b_7, kc_b_8, kc_b_9, kc_b_10, kc_b_11, kc_b_12, kc_b_13, kc_b_14, kc_b_15, kc_b_16, kc_b_20, kc_b_24, kc_b_32, kc_b_37, kc_b_40, kc_b_42, kc_b_43, kc_b_45, kc_b_47, kc_b_48, kc_b_57, kc_b_58, kc_b_59, kc_b_60, kc_b_61, kc_b_62, kc_b_63, kc_b_91, kc_b_93, kc_b_97, kc_b_99, kc_b_100, kc_b_106, kc_b_122, kc_s_206, kc_s_226, kc_s_227, kc_s_255, kc_s_256, kc_s_316, kc_s_318, kc_s_400, kc_s_512, kc_s_999, kc_s_1160, kc_s_1536, kc_s_3003, kc_lm11, kc_lm10, kc_lm9, kc_lm8, kc_lm7, kc_lm6, kc_lm5, kc_lm4, kc_lm3, kc_lm2, kc_lm1, kc_l1, kc_l2, kc_l3, kc_l4, kc_l5, kc_l6, kc_l7, kc_l8, kc_l9, kc_l10, kc_l11, kc_l12, kc_l13, kc_l14, kc_l37, kc_l42, kc_l43, kc_l45, kc_l47, kc_l60, kc_l61, kc_l62, kc_l316, kc_l318, kc_l65536, kc_l99999, kc_l1000000, kc_l252645135, kc_l858993459, kc_l1431655765, kc_0, kc_on]
    rw [if_neg (by decide), m_in_f h (lo := Int64.ofNat 0) (hi := Int64.ofNat 1) (n := 1) nk (by omega) rfl rfl, Option.bind_some, if_neg (by decide)]
  · rw [m_areMen_f M hr, Option.bind_some]
    simp only [kc_im8, kc_im1, kc_i0, kc_i1, kc_i2, kc_i3, kc_i4, kc_i5, kc_b_m100, kc_b_m16, kc_b_m15, kc_b_m14, kc_b_m13, kc_b_m12, kc_b_m11, kc_b_m2, kc_b_6, kc_b_7, kc_b_8, kc_b_9, kc_b_10, kc_b_11, kc_b_12, kc_b_13, kc_b_14, kc_b_15, kc_b_16, kc_b_20, kc_b_24, kc_b_32, kc_b_37, kc_b_40, kc_b_42, kc_b_43, kc_b_45, kc_b_47, kc_b_48, kc_b_57, kc_b_58, kc_b_59, kc_b_60, kc_b_61, kc_b_62, kc_b_63, kc_b_91, kc_b_93, kc_b_97, kc_b_99, kc_b_100, kc_b_106, kc_b_122, kc_s_206, kc_s_226, kc_s_227, kc_s_255, kc_s_256, kc_s_316, kc_s_318, kc_s_400, kc_s_512, kc_s_999, kc_s_1160, kc_s_1536, kc_s_3003, kc_lm11, kc_lm10, kc_lm9, kc_lm8, kc_lm7, kc_lm6, kc_lm5, kc_lm4, kc_lm3, kc_lm2, kc_lm1, kc_l1, kc_l2, kc_l3, kc_l4, kc_l5, kc_l6, kc_l7, kc_l8, kc_l9, kc_l10, kc_l11, kc_l12, kc_l13, kc_l14, kc_l37, kc_l42, kc_l43, kc_l45, kc_l47, kc_l60, kc_l61, kc_l62, kc_l316, kc_l318, kc_l65536, kc_l99999, kc_l1000000, kc_l252645135, kc_l858993459, kc_l1431655765, kc_0, kc_on]
    rw [if_pos (by first | rfl | trivial | decide)]
end NM
