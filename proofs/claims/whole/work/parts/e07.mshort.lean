/-! Questions: shortest, of the reference. -/
section MSH
variable {h : pm_H} {A : Nat → Int32}
theorem m_isOrder_t (M : MI h A) {m : Nat} (hm : m < an A 2) : m_isOrder 193 (nI m) h = some (nI 1) := by
  obtain ⟨R, hA, w⟩ := M
  have h2 := w.e2
  unfold m_isOrder
  simp (disch := omega) only [kc_im8, kc_im1, kc_i0, kc_i1, kc_i2, kc_i3, kc_i4, kc_i5, kc_b_m100, kc_b_m16, kc_b_m15, kc_b_m14, kc_b_m13, kc_b_m12, kc_b_m11, kc_b_m2, kc_b_6, kc_b_7, kc_b_8, kc_b_9, kc_b_10, kc_b_11, kc_b_12, kc_b_13, kc_b_14, kc_b_15, kc_b_16, kc_b_20, kc_b_24, kc_b_32, kc_b_37, kc_b_40, kc_b_42, kc_b_43, kc_b_45, kc_b_47, kc_b_48, kc_b_57, kc_b_58, kc_b_59, kc_b_60, kc_b_61, kc_b_62, kc_b_63, kc_b_91, kc_b_93, kc_b_97, kc_b_99, kc_b_100, kc_b_106, kc_b_122, kc_s_206, kc_s_226, kc_s_227, kc_s_255, kc_s_256, kc_s_316, kc_s_318, kc_s_400, kc_s_512, kc_s_999, kc_s_1160, kc_s_1536, kc_s_3003, kc_lm11, kc_lm10, kc_lm9, kc_lm8, kc_lm7, kc_lm6, kc_lm5, kc_lm4, kc_lm3, kc_lm2, kc_lm1, kc_l1, kc_l2, kc_l3, kc_l4, kc_l5, kc_l6, kc_l7, kc_l8, kc_l9, kc_l10, kc_l11, kc_l12, kc_l13, kc_l14, kc_l37, kc_l42, kc_l43, kc_l45, kc_l47, kc_l60, kc_l61, kc_l62, kc_l316, kc_l318, kc_l65536, kc_l99999, kc_l1000000, kc_l252645135, kc_l858993459, kc_l1431655765, kc_0, kc_on, ra_193_20 R, Option.bind_some, mn_203, gi_n, nx_lt, nx_le, nx_eq, nx_add, nx_sub, nx_mul, nx_cl, n_lt_ng, n_le_ng, n_eq_ng, ng_lt_n, ng_le_n, ng_eq_n, ng_eq, ng_lt, ng_le, nx_dec, hA, h2.1]
  rw [if_neg (by omega), if_pos (by simp), if_neg (by omega)]
theorem m_isOrder_f (M : MI h A) {x : Int32} (hx : ¬ ∃ m, m < an A 2 ∧ x = nI m) : m_isOrder 193 x h = some (nI 0) := by
  obtain ⟨R, hA, w⟩ := M
  have h2 := w.e2
  unfold m_isOrder
  simp (disch := omega) only [kc_im8, kc_im1, kc_i0, kc_i1, kc_i2, kc_i3, kc_i4, kc_i5, kc_b_m100, kc_b_m16, kc_b_m15, kc_b_m14, kc_b_m13, kc_b_m12, kc_b_m11, kc_b_m2, kc_b_6, kc_b_7, kc_b_8, kc_b_9, kc_b_10, kc_b_11, kc_b_12, kc_b_13, kc_b_14, kc_b_15, kc_b_16, kc_b_20, kc_b_24, kc_b_32, kc_b_37, kc_b_40, kc_b_42, kc_b_43, kc_b_45, kc_b_47, kc_b_48, kc_b_57, kc_b_58, kc_b_59, kc_b_60, kc_b_61, kc_b_62, kc_b_63, kc_b_91, kc_b_93, kc_b_97, kc_b_99, kc_b_100, kc_b_106, kc_b_122, kc_s_206, kc_s_226, kc_s_227, kc_s_255, kc_s_256, kc_s_316, kc_s_318, kc_s_400, kc_s_512, kc_s_999, kc_s_1160, kc_s_1536, kc_s_3003, kc_lm11, kc_lm10, kc_lm9, kc_lm8, kc_lm7, kc_lm6, kc_lm5, kc_lm4, kc_lm3, kc_lm2, kc_lm1, kc_l1, kc_l2, kc_l3, kc_l4, kc_l5, kc_l6, kc_l7, kc_l8, kc_l9, kc_l10, kc_l11, kc_l12, kc_l13, kc_l14, kc_l37, kc_l42, kc_l43, kc_l45, kc_l47, kc_l60, kc_l61, kc_l62, kc_l316, kc_l318, kc_l65536, kc_l99999, kc_l1000000, kc_l252645135, kc_l858993459, kc_l1431655765, kc_0, kc_on, ra_193_20 R, Option.bind_some, mn_203, gi_n, nx_cl, hA, h2.1]
  rcases ixx x (n := an A 2) (by omega) with q | q | q
  · rw [if_pos q]
  · by_cases q0 : x < nI 0
    · rw [if_pos q0]
    · rw [if_neg q0, if_pos (by simp), if_pos q]
  · exact (hx q).elim
theorem FC.mf {c : Nat} (h : FC c) : MF c := by unfold FC at h; unfold MF; omega
theorem hrd_WM (w : WFA A) (mw : Nat → Int32) : ∀ m, (hrdN A).testBit m = true → WM A mw m = nI (wfb A (bN A) m) ∧ wfb A (bN A) m < 10 := by
  have h0 := w.e0
  have h1 := w.e1
  have hbv := bN_bv w
  intro m q
  unfold WM wfb wdA
  rcases hrd_al w q with q1 | ⟨rfl, q1⟩
  · have := w.m0 q1
    rw [if_pos (by omega), if_neg (by omega), if_neg (by omega)]
    exact ⟨this.1, by omega⟩
  · rw [if_pos (by omega), if_pos rfl, if_pos rfl, ← hbv.1]
    unfold bv
    rw [if_neg q1]
    exact ⟨rfl, by omega⟩
theorem m_short_loop (M : MI h A) {o : Nat} (ho : o < an A 2) (y : Int32) : SP (wh (fun z : (Int32 × pm_H) => m_shortest_24 193 (nI o) y z.1 z.2) (nI 1, h)) (fun z => FM h z.2 ∧ ((z.1 = nI 6 ∧ shF A (bN A) (hrdN A) o = none) ∨ ∃ t, 0 < t.length ∧ t.length ≤ 5 ∧ z.1 = nI t.length ∧ shF A (bN A) (hrdN A) o = some t ∧ MROW z.2 t)) := by
  have w := M.2.2
  have e2 := w.e2
  have hr := hrd_255 w
  refine wh_cnt (fun n z => 1 ≤ n ∧ z.1 = nI n ∧ FM h z.2 ∧ ∀ r, VS A (bN A) (hrdN A) o r → n ≤ r.length) _ 6 ?_ ?_ 1 (nI 1, h) (by omega) ⟨by omega, rfl, FM.refl _, fun r hv => ?_⟩
  · rintro n ⟨x, h1⟩ hn ⟨hn1, rfl, f1, c1⟩
    dsimp only at f1
    have M1 := M.fm f1
    unfold m_shortest_24
    simp (disch := omega) only [kc_im8, kc_im1, kc_i0, kc_i1, kc_i2, kc_i3, kc_i4, kc_i5, kc_b_m100, kc_b_m16, kc_b_m15, kc_b_m14, kc_b_m13, kc_b_m12, kc_b_m11, kc_b_m2, kc_b_6, kc_b_7, kc_b_8, kc_b_9, kc_b_10, kc_b_11, kc_b_12, kc_b_13, kc_b_14, kc_b_15, kc_b_16, kc_b_20, kc_b_24, kc_b_32, kc_b_37, kc_b_40, kc_b_42, kc_b_43, kc_b_45, kc_b_47, kc_b_48, kc_b_57, kc_b_58, kc_b_59, kc_b_60, kc_b_61, kc_b_62, kc_b_63, kc_b_91, kc_b_93, kc_b_97, kc_b_99, kc_b_100, kc_b_106, kc_b_122, kc_s_206, kc_s_226, kc_s_227, kc_s_255, kc_s_256, kc_s_316, kc_s_318, kc_s_400, kc_s_512, kc_s_999, kc_s_1160, kc_s_1536, kc_s_3003, kc_lm11, kc_lm10, kc_lm9, kc_lm8, kc_lm7, kc_lm6, kc_lm5, kc_lm4, kc_lm3, kc_lm2, kc_lm1, kc_l1, kc_l2, kc_l3, kc_l4, kc_l5, kc_l6, kc_l7, kc_l8, kc_l9, kc_l10, kc_l11, kc_l12, kc_l13, kc_l14, kc_l37, kc_l42, kc_l43, kc_l45, kc_l47, kc_l60, kc_l61, kc_l62, kc_l316, kc_l318, kc_l65536, kc_l99999, kc_l1000000, kc_l252645135, kc_l858993459, kc_l1431655765, kc_0, kc_on, nx_lt, nx_le, nx_eq, nx_add, nx_sub, nx_mul, nx_cl, n_lt_ng, n_le_ng, n_eq_ng, ng_lt_n, ng_le_n, ng_eq_n, ng_eq, ng_lt, ng_le, nx_dec]
    refine sp_neg (by omega) ?_
    rw [m_heardSet_n w M1.1 M1.2.1, Option.bind_some]
    refine sp_call (m_finds (wf := wfb A (bN A)) (mw := h1.2.1 206) (must := 0) w (by omega) (by omega) (by omega) hn1 (by omega) (hrd_WM w _) M1.1 M1.2.1 rfl) ?_
    rintro ⟨v, h2⟩ ⟨f2, hz⟩
    dsimp only at f2 hz
    have ff := f1.trans (f2.fm (fun c hc => hc.mf) (fun j hj => by unfold FF; omega))
    rcases hz with ⟨rfl, r, r1, r2, r3, r4, r5, r6⟩ | ⟨rfl, no⟩
    · refine sp_pos n10 (sp_some.mpr ⟨ff, .inr ⟨r, by omega, by omega, by rw [r1], ?_, r5⟩⟩)
      have bd9 : ∀ m ∈ r, m < 9 := (setOf_512 hr.2.2 r3).2
      refine shF_some ⟨⟨by omega, r2, fun m hm => ⟨bd9 m hm, r3 m hm⟩, r4.2⟩, fun r' hv => ?_⟩
      have := c1 r' hv
      rcases Nat.lt_or_ge n r'.length with q | q
      · exact .inl (by omega)
      · refine .inr ⟨by omega, r6 r' (by omega) hv.2.1 (fun m hm => (hv.2.2.1 m hm).2) ⟨fun i hi => by simp at hi, hv.2.2.2⟩⟩
    · refine sp_neg (by simp) (sp_some.mpr ⟨by omega, rfl, ff, fun r hv => ?_⟩)
      have := c1 r hv
      apply Classical.byContradiction
      intro q
      exact no r (by omega) hv.2.1 (fun m hm => (hv.2.2.1 m hm).2) ⟨fun i hi => by simp at hi, hv.2.2.2⟩
  · rintro ⟨x, h1⟩ ⟨_, rfl, f1, c1⟩
    unfold m_shortest_24
    simp (disch := omega) only [kc_im8, kc_im1, kc_i0, kc_i1, kc_i2, kc_i3, kc_i4, kc_i5, kc_b_m100, kc_b_m16, kc_b_m15, kc_b_m14, kc_b_m13, kc_b_m12, kc_b_m11, kc_b_m2, kc_b_6, kc_b_7, kc_b_8, kc_b_9, kc_b_10, kc_b_11, kc_b_12, kc_b_13, kc_b_14, kc_b_15, kc_b_16, kc_b_20, kc_b_24, kc_b_32, kc_b_37, kc_b_40, kc_b_42, kc_b_43, kc_b_45, kc_b_47, kc_b_48, kc_b_57, kc_b_58, kc_b_59, kc_b_60, kc_b_61, kc_b_62, kc_b_63, kc_b_91, kc_b_93, kc_b_97, kc_b_99, kc_b_100, kc_b_106, kc_b_122, kc_s_206, kc_s_226, kc_s_227, kc_s_255, kc_s_256, kc_s_316, kc_s_318, kc_s_400, kc_s_512, kc_s_999, kc_s_1160, kc_s_1536, kc_s_3003, kc_lm11, kc_lm10, kc_lm9, kc_lm8, kc_lm7, kc_lm6, kc_lm5, kc_lm4, kc_lm3, kc_lm2, kc_lm1, kc_l1, kc_l2, kc_l3, kc_l4, kc_l5, kc_l6, kc_l7, kc_l8, kc_l9, kc_l10, kc_l11, kc_l12, kc_l13, kc_l14, kc_l37, kc_l42, kc_l43, kc_l45, kc_l47, kc_l60, kc_l61, kc_l62, kc_l316, kc_l318, kc_l65536, kc_l99999, kc_l1000000, kc_l252645135, kc_l858993459, kc_l1431655765, kc_0, kc_on, nx_lt, nx_le, nx_eq, nx_add, nx_sub, nx_mul, nx_cl, n_lt_ng, n_le_ng, n_eq_ng, ng_lt_n, ng_le_n, ng_eq_n, ng_eq, ng_lt, ng_le, nx_dec]
    refine sp_pos (by omega) (sp_some.mpr ⟨f1, .inl ⟨rfl, shF_none (fun r hv => ?_)⟩⟩)
    have := c1 r hv
    have := hv.1
    omega
  · cases r with
    | nil =>
      have := hv.2.2.2
      rw [List.map_nil, syA_nil w] at this
      cases this
    | cons a t => simp
theorem m_shortest_sp (M : MI h A) (x y : Int32) : SP (m_shortest 193 x y h) (fun z => z.1 = vShort A x y ∧ FM h z.2) := by
  have w := M.2.2
  have e2 := w.e2
  have none_ : ¬ ((∃ k, k < an A 2 ∧ x = nI k) ∧ ∃ k, k ≤ 5 ∧ y = nI k) → SP (some (ng 1, h)) (fun z : Int32 × pm_H => z.1 = vShort A x y ∧ FM h z.2) := by
    intro q
    refine sp_some.mpr ⟨?_, FM.refl _⟩
    unfold vShort
    rw [if_neg q]
  unfold m_shortest
  simp only [kc_im8, kc_im1, kc_i0, kc_i1, kc_i2, kc_i3, kc_i4, kc_i5, kc_b_m100, kc_b_m16, kc_b_m15, kc_b_m14, kc_b_m13, kc_b_m12, kc_b_m11, kc_b_m2, kc_b_6, kc_b_7, kc_b_8, kc_b_9, kc_b_10, kc_b_11, kc_b_12, kc_b_13, kc_b_14, kc_b_15, kc_b_16, kc_b_20, kc_b_24, kc_b_32, kc_b_37, kc_b_40, kc_b_42, kc_b_43, kc_b_45, kc_b_47, kc_b_48, kc_b_57, kc_b_58, kc_b_59, kc_b_60, kc_b_61, kc_b_62, kc_b_63, kc_b_91, kc_b_93, kc_b_97, kc_b_99, kc_b_100, kc_b_106, kc_b_122, kc_s_206, kc_s_226, kc_s_227, kc_s_255, kc_s_256, kc_s_316, kc_s_318, kc_s_400, kc_s_512, kc_s_999, kc_s_1160, kc_s_1536, kc_s_3003, kc_lm11, kc_lm10, kc_lm9, kc_lm8, kc_lm7, kc_lm6, kc_lm5, kc_lm4, kc_lm3, kc_lm2, kc_lm1, kc_l1, kc_l2, kc_l3, kc_l4, kc_l5, kc_l6, kc_l7, kc_l8, kc_l9, kc_l10, kc_l11, kc_l12, kc_l13, kc_l14, kc_l37, kc_l42, kc_l43, kc_l45, kc_l47, kc_l60, kc_l61, kc_l62, kc_l316, kc_l318, kc_l65536, kc_l99999, kc_l1000000, kc_l252645135, kc_l858993459, kc_l1431655765, kc_0, kc_on]
  by_cases hx : ∃ k, k < an A 2 ∧ x = nI k
  · obtain ⟨o, ho, rfl⟩ := hx
    rw [m_isOrder_t M ho, Option.bind_some]
    refine sp_neg n10 ?_
    by_cases hy : ∃ k, k ≤ 5 ∧ y = nI k
    · obtain ⟨k, hk, rfl⟩ := hy
      have hv : vShort A (nI o) (nI k) = (match shF A (bN A) (hrdN A) o with
          | none => ng 2
          | some t => if nI k = nI 0 then nI t.length else if t.length < k then ng 2 else nI (t.getD (k - 1) 0)) := by
        unfold vShort
        rw [if_pos ⟨⟨o, ho, rfl⟩, k, hk, rfl⟩, nx_cl (by omega), nx_cl (by omega)]
        cases shF A (bN A) (hrdN A) o <;> rfl
      rw [hv, m_in_t h (lo := Int64.ofNat 0) (hi := 5) (n := 5) hk (by omega) rfl rfl, Option.bind_some]
      refine sp_pos n10 ?_
      refine sp_call (m_short_loop M ho (nI k)) ?_
      rintro ⟨v, h2⟩ ⟨f2, hz⟩
      dsimp only at f2 hz
      have M2 := M.fm f2
      unfold m_shortest_49
      rcases hz with ⟨rfl, hb⟩ | ⟨t, t0, t5, rfl, hb, hrw⟩
      · rw [hb]
        simp (disch := omega) only [kc_im8, kc_im1, kc_i0, kc_i1, kc_i2, kc_i3, kc_i4, kc_i5, kc_b_m100, kc_b_m16, kc_b_m15, kc_b_m14, kc_b_m13, kc_b_m12, kc_b_m11, kc_b_m2, kc_b_6, kc_b_7, kc_b_8, kc_b_9, kc_b_10, kc_b_11, kc_b_12, kc_b_13, kc_b_14, kc_b_15, kc_b_16, kc_b_20, kc_b_24, kc_b_32, kc_b_37, kc_b_40, kc_b_42, kc_b_43, kc_b_45, kc_b_47, kc_b_48, kc_b_57, kc_b_58, kc_b_59, kc_b_60, kc_b_61, kc_b_62, kc_b_63, kc_b_91, kc_b_93, kc_b_97, kc_b_99, kc_b_100, kc_b_106, kc_b_122, kc_s_206, kc_s_226, kc_s_227, kc_s_255, kc_s_256, kc_s_316, kc_s_318, kc_s_400, kc_s_512, kc_s_999, kc_s_1160, kc_s_1536, kc_s_3003, kc_lm11, kc_lm10, kc_lm9, kc_lm8, kc_lm7, kc_lm6, kc_lm5, kc_lm4, kc_lm3, kc_lm2, kc_lm1, kc_l1, kc_l2, kc_l3, kc_l4, kc_l5, kc_l6, kc_l7, kc_l8, kc_l9, kc_l10, kc_l11, kc_l12, kc_l13, kc_l14, kc_l37, kc_l42, kc_l43, kc_l45, kc_l47, kc_l60, kc_l61, kc_l62, kc_l316, kc_l318, kc_l65536, kc_l99999, kc_l1000000, kc_l252645135, kc_l858993459, kc_l1431655765, kc_0, kc_on, nx_lt, nx_le, nx_eq, nx_add, nx_sub, nx_mul, nx_cl, n_lt_ng, n_le_ng, n_eq_ng, ng_lt_n, ng_le_n, ng_eq_n, ng_eq, ng_lt, ng_le, nx_dec]
        exact sp_pos (by omega) (sp_some.mpr ⟨rfl, f2⟩)
      · rw [hb]
        simp (disch := omega) only [kc_im8, kc_im1, kc_i0, kc_i1, kc_i2, kc_i3, kc_i4, kc_i5, kc_b_m100, kc_b_m16, kc_b_m15, kc_b_m14, kc_b_m13, kc_b_m12, kc_b_m11, kc_b_m2, kc_b_6, kc_b_7, kc_b_8, kc_b_9, kc_b_10, kc_b_11, kc_b_12, kc_b_13, kc_b_14, kc_b_15, kc_b_16, kc_b_20, kc_b_24, kc_b_32, kc_b_37, kc_b_40, kc_b_42, kc_b_43, kc_b_45, kc_b_47, kc_b_48, kc_b_57, kc_b_58, kc_b_59, kc_b_60, kc_b_61, kc_b_62, kc_b_63, kc_b_91, kc_b_93, kc_b_97, kc_b_99, kc_b_100, kc_b_106, kc_b_122, kc_s_206, kc_s_226, kc_s_227, kc_s_255, kc_s_256, kc_s_316, kc_s_318, kc_s_400, kc_s_512, kc_s_999, kc_s_1160, kc_s_1536, kc_s_3003, kc_lm11, kc_lm10, kc_lm9, kc_lm8, kc_lm7, kc_lm6, kc_lm5, kc_lm4, kc_lm3, kc_lm2, kc_lm1, kc_l1, kc_l2, kc_l3, kc_l4, kc_l5, kc_l6, kc_l7, kc_l8, kc_l9, kc_l10, kc_l11, kc_l12, kc_l13, kc_l14, kc_l37, kc_l42, kc_l43, kc_l45, kc_l47, kc_l60, kc_l61, kc_l62, kc_l316, kc_l318, kc_l65536, kc_l99999, kc_l1000000, kc_l252645135, kc_l858993459, kc_l1431655765, kc_0, kc_on, nx_lt, nx_le, nx_eq, nx_add, nx_sub, nx_mul, nx_cl, n_lt_ng, n_le_ng, n_eq_ng, ng_lt_n, ng_le_n, ng_eq_n, ng_eq, ng_lt, ng_le, nx_dec]
        refine sp_neg (by omega) ?_
        by_cases q1 : k ≤ t.length
        · refine sp_pos q1 ?_
          by_cases q0 : k = 0
          · exact sp_neg (by omega) (sp_some.mpr ⟨by rw [if_pos q0], f2⟩)
          · refine sp_pos q0 ?_
            rw [ra_193_24 M2.1, Option.bind_some, mn_205]
            simp (disch := omega) only [nx_sub, gi_n, nx_cl, hrw (k - 1) (by omega)]
            exact sp_pos (by simp; omega) (sp_some.mpr ⟨by rw [if_neg q0, if_neg (by omega)], f2⟩)
        · refine sp_neg q1 (sp_some.mpr ⟨?_, f2⟩)
          rw [if_neg (by omega), if_pos (by omega)]
    · rw [m_in_f h (lo := Int64.ofNat 0) (hi := 5) (n := 5) hy (by omega) rfl rfl, Option.bind_some]
      exact sp_neg (by simp) (none_ (fun q => hy q.2))
  · rw [m_isOrder_f M hx, Option.bind_some]
    exact sp_pos rfl (none_ (fun q => hx q.1))
end MSH
