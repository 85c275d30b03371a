/-! Questions: awake, ask: the answers. -/
noncomputable def vAwake (A : Nat → Int32) (y : Int32) : Int32 := @ite Int32 (0 < an A 0 ∧ ∃ k, k ≤ 2 ∧ y = nI k) (Classical.propDecidable _) (if y = nI 0 then nI (gC A (alvN A + 1)) else if y = nI 1 then nI (if gC A (alvN A + 1) = 0 then 0 else gI A (alvN A + 1)) else nI (if gC A (alvN A + 1) = 0 then 0 else sd (alvN A) (gS A (alvN A + 1)))) (ng 1)
/-- the greater part by an order -/
noncomputable def gG (A : Nat → Int32) (o : Nat) : Nat := if gB A o (alvN A + 1) < gC A (alvN A + 1) - gB A o (alvN A + 1) then gC A (alvN A + 1) - gB A o (alvN A + 1) else gB A o (alvN A + 1)
noncomputable def bq (A : Nat → Int32) : Nat → Nat
  | 0 => 0
  | i + 1 => if gG A i < gG A (bq A i) then i else bq A i
noncomputable def vAsk (A : Nat → Int32) (y : Int32) : Int32 := @ite Int32 (0 < an A 0 ∧ ∃ k, k ≤ 1 ∧ y = nI k) (Classical.propDecidable _) (if gC A (alvN A + 1) = 0 ∨ an A 2 = 0 then ng 2 else if y = nI 0 then nI (bq A (an A 2)) else nI (gG A (bq A (an A 2)))) (ng 1)
section AK
variable {h : pm_H} {s : Nat} {A : Nat → Int32}
theorem n10 : ¬ nI 1 = nI 0 := by decide
theorem n20 : ¬ nI 2 = nI 0 := by decide
theorem n21 : ¬ nI 2 = nI 1 := by decide
theorem bq_1 (A : Nat → Int32) : bq A 1 = 0 := by rw [bq, bq]; split <;> rfl
theorem bq_lt (A : Nat → Int32) : ∀ i, 0 < i → bq A i < i
  | 0, h => by omega
  | 1, _ => by rw [bq_1]; decide
  | i + 2, _ => by
    rw [bq]
    have := bq_lt A (i + 1) (by omega)
    split <;> omega
theorem gG_lt (A : Nat → Int32) (w : WFA A) (o : Nat) : gG A o < 300 := by
  have := gC_le A (alvN A + 1)
  have := gB_le A o (alvN A + 1)
  have := alv_lt w
  unfold gG
  split <;> omega
theorem x_awake_sp (Q : QI h s A) (y : Int32) : SP (x_awake 0 y h) (fun z => z.1 = vAwake A y ∧ Fq QF h z.2 ∧ QI z.2 s A) := by
  have Q' := Q
  obtain ⟨R, h1, S, H, D, w, C⟩ := Q
  have none_ : ¬ (0 < an A 0 ∧ ∃ k, k ≤ 2 ∧ y = nI k) → SP (some (ng 1, h)) (fun z : Int32 × pm_H => z.1 = vAwake A y ∧ Fq QF h z.2 ∧ QI z.2 s A) := by
    intro q
    refine sp_some.mpr ⟨?_, Fq.refl _ _, Q'⟩
    unfold vAwake
    rw [if_neg q]
  unfold x_awake
  rw [ra_0_4 R, Option.bind_some, Q'.now, Option.bind_some, c_sails S w, Option.bind_some]
  simp only [kc_im8, kc_im1, kc_i0, kc_i1, kc_i2, kc_i3, kc_i4, kc_i5, kc_b_m100, kc_b_m16, kc_b_m15, kc_b_m14, kc_b_m13, kc_b_m12, kc_b_m11, kc_b_m2, kc_b_6, kc_b_7, kc_b_8, kc_b_9, kc_b_10, kc_b_11, kc_b_12, kc_b_13, kc_b_14, kc_b_15, kc_b_16, kc_b_20, kc_b_24, kc_b_32, kc_b_37, kc_b_40, kc_b_42, kc_b_43, kc_b_45, kc_b_47, kc_b_48, kc_b_57, kc_b_58, kc_b_59, kc_b_60, kc_b_61, kc_b_62, kc_b_63, kc_b_91, kc_b_93, kc_b_97, kc_b_99, kc_b_100, kc_b_106, kc_b_122, kc_s_206, kc_s_226, kc_s_227, kc_s_255, kc_s_256, kc_s_316, kc_s_318, kc_s_400, kc_s_512, kc_s_999, kc_s_1160, kc_s_1536, kc_s_3003, kc_lm11, kc_lm10, kc_lm9, kc_lm8, kc_lm7, kc_lm6, kc_lm5, kc_lm4, kc_lm3, kc_lm2, kc_lm1, kc_l1, kc_l2, kc_l3, kc_l4, kc_l5, kc_l6, kc_l7, kc_l8, kc_l9, kc_l10, kc_l11, kc_l12, kc_l13, kc_l14, kc_l37, kc_l42, kc_l43, kc_l45, kc_l47, kc_l60, kc_l61, kc_l62, kc_l316, kc_l318, kc_l65536, kc_l99999, kc_l1000000, kc_l252645135, kc_l858993459, kc_l1431655765, kc_0, kc_on]
  by_cases h0 : 0 < an A 0
  · refine sp_neg (by rw [decide_eq_true h0]; show ¬ nI 1 = nI 0; decide) ?_
    by_cases hy : ∃ k, k ≤ 2 ∧ y = nI k
    · obtain ⟨k, hk, rfl⟩ := hy
      have hv := @if_pos (0 < an A 0 ∧ ∃ j, j ≤ 2 ∧ nI k = nI j) (Classical.propDecidable _) ⟨h0, k, hk, rfl⟩ Int32 (if nI k = nI 0 then nI (gC A (alvN A + 1)) else if nI k = nI 1 then nI (if gC A (alvN A + 1) = 0 then 0 else gI A (alvN A + 1)) else nI (if gC A (alvN A + 1) = 0 then 0 else sd (alvN A) (gS A (alvN A + 1)))) (ng 1)
      refine sp_neg (by rw [nx_lt (by omega) (by omega)]; omega) (sp_pos (by rw [nx_le (by omega) (by omega)]; omega) ?_)
      rw [ra_0_7 R, Option.bind_some, Option.bind_some]
      refine sp_call (a_gather_sp Q' h0) ?_
      rintro h2 ⟨f2, Q2, a1, a2, a3, _⟩
      rw [ra_0_7 Q2.1]
      unfold vAwake
      rw [hv]
      have : k = 0 ∨ k = 1 ∨ k = 2 := by omega
      rcases this with rfl | rfl | rfl
      · refine sp_neg (by simp) ?_
        rw [Option.bind_some, a1]
        exact sp_some.mpr ⟨by rw [if_pos rfl], f2, Q2⟩
      · refine sp_pos (by decide) (sp_neg (by simp) ?_)
        rw [Option.bind_some, a2]
        exact sp_some.mpr ⟨by rw [if_neg n10, if_pos rfl], f2, Q2⟩
      · refine sp_pos (by decide) (sp_pos (by decide) ?_)
        rw [Option.bind_some, a3]
        exact sp_some.mpr ⟨by rw [if_neg n20, if_neg n21], f2, Q2⟩
    · by_cases q0 : y < nI 0
      · exact sp_pos q0 (none_ (fun q => hy q.2))
      · exact sp_neg q0 (sp_neg (nrng (by omega) hy q0).2 (none_ (fun q => hy q.2)))
  · exact sp_pos (by rw [decide_eq_false h0]; rfl) (none_ (fun q => h0 q.1))
theorem m_awake_sp (M : MI h A) (y : Int32) : SP (m_awake 193 y h) (fun z => z.1 = vAwake A y ∧ FM h z.2) := by
  have M' := M
  obtain ⟨R, hA, w⟩ := M
  have ha := alv_lt w
  have none_ : ¬ (0 < an A 0 ∧ ∃ k, k ≤ 2 ∧ y = nI k) → SP (some (ng 1, h)) (fun z : Int32 × pm_H => z.1 = vAwake A y ∧ FM h z.2) := by
    intro q
    refine sp_some.mpr ⟨?_, FM.refl _⟩
    unfold vAwake
    rw [if_neg q]
  unfold m_awake
  rw [m_isShip_n M', Option.bind_some]
  simp only [kc_im8, kc_im1, kc_i0, kc_i1, kc_i2, kc_i3, kc_i4, kc_i5, kc_b_m100, kc_b_m16, kc_b_m15, kc_b_m14, kc_b_m13, kc_b_m12, kc_b_m11, kc_b_m2, kc_b_6, kc_b_7, kc_b_8, kc_b_9, kc_b_10, kc_b_11, kc_b_12, kc_b_13, kc_b_14, kc_b_15, kc_b_16, kc_b_20, kc_b_24, kc_b_32, kc_b_37, kc_b_40, kc_b_42, kc_b_43, kc_b_45, kc_b_47, kc_b_48, kc_b_57, kc_b_58, kc_b_59, kc_b_60, kc_b_61, kc_b_62, kc_b_63, kc_b_91, kc_b_93, kc_b_97, kc_b_99, kc_b_100, kc_b_106, kc_b_122, kc_s_206, kc_s_226, kc_s_227, kc_s_255, kc_s_256, kc_s_316, kc_s_318, kc_s_400, kc_s_512, kc_s_999, kc_s_1160, kc_s_1536, kc_s_3003, kc_lm11, kc_lm10, kc_lm9, kc_lm8, kc_lm7, kc_lm6, kc_lm5, kc_lm4, kc_lm3, kc_lm2, kc_lm1, kc_l1, kc_l2, kc_l3, kc_l4, kc_l5, kc_l6, kc_l7, kc_l8, kc_l9, kc_l10, kc_l11, kc_l12, kc_l13, kc_l14, kc_l37, kc_l42, kc_l43, kc_l45, kc_l47, kc_l60, kc_l61, kc_l62, kc_l316, kc_l318, kc_l65536, kc_l99999, kc_l1000000, kc_l252645135, kc_l858993459, kc_l1431655765, kc_0, kc_on]
  by_cases h0 : 0 < an A 0
  · refine sp_neg (by rw [decide_eq_true h0]; show ¬ nI 1 = nI 0; decide) ?_
    by_cases hy : ∃ k, k ≤ 2 ∧ y = nI k
    · obtain ⟨k, hk, rfl⟩ := hy
      have hv := @if_pos (0 < an A 0 ∧ ∃ j, j ≤ 2 ∧ nI k = nI j) (Classical.propDecidable _) ⟨h0, k, hk, rfl⟩ Int32 (if nI k = nI 0 then nI (gC A (alvN A + 1)) else if nI k = nI 1 then nI (if gC A (alvN A + 1) = 0 then 0 else gI A (alvN A + 1)) else nI (if gC A (alvN A + 1) = 0 then 0 else sd (alvN A) (gS A (alvN A + 1)))) (ng 1)
      rw [m_in_t h (lo := Int64.ofNat 0) (hi := 2) (n := 2) hk (by omega) rfl rfl, Option.bind_some]
      refine sp_pos (by decide) ?_
      rw [m_aliveSet_n w R hA, Option.bind_some]
      refine sp_call (g_ord M' (al := alvN A) (by omega) (fun m q => ?_)) ?_
      · unfold alvN at q
        rw [bs_bit, Bool.and_eq_true, decide_eq_true_eq] at q
        exact .inl q.1
      rintro h3 ⟨f3, E3⟩
      have ff := f3.fm (fun c hc => hc.mf) (fun j hj => by unfold FF; omega)
      have M3 := M'.fm ff
      have key : wh (fun z : (Int32 × Int32 × Int32 × Int32 × pm_H) => m_awake_42 193 (nI k) (nI (alvN A)) z.1 z.2.1 z.2.2.1 z.2.2.2.1 z.2.2.2.2) (nI 0, nI (alvN A), nI 0, nI 0, h3) = some (nI (gC A (alvN A + 1)), nI (gI A (alvN A + 1)), nI (gS A (alvN A + 1)), h3) := by
        refine wh_for (fun i => (nI (gC A i), nI (gI A i), nI (gS A i), nI i, h3)) (alvN A + 1) 0 (by omega) (fun i _ hi => ?_) ?_
        · have hl1 : sd i (alvN A) ≤ i := sub_le (sub_sd _ _)
          unfold m_awake_42
          simp (disch := omega) only [kc_im8, kc_im1, kc_i0, kc_i1, kc_i2, kc_i3, kc_i4, kc_i5, kc_b_m100, kc_b_m16, kc_b_m15, kc_b_m14, kc_b_m13, kc_b_m12, kc_b_m11, kc_b_m2, kc_b_6, kc_b_7, kc_b_8, kc_b_9, kc_b_10, kc_b_11, kc_b_12, kc_b_13, kc_b_14, kc_b_15, kc_b_16, kc_b_20, kc_b_24, kc_b_32, kc_b_37, kc_b_40, kc_b_42, kc_b_43, kc_b_45, kc_b_47, kc_b_48, kc_b_57, kc_b_58, kc_b_59, kc_b_60, kc_b_61, kc_b_62, kc_b_63, kc_b_91, kc_b_93, kc_b_97, kc_b_99, kc_b_100, kc_b_106, kc_b_122, kc_s_206, kc_s_226, kc_s_227, kc_s_255, kc_s_256, kc_s_316, kc_s_318, kc_s_400, kc_s_512, kc_s_999, kc_s_1160, kc_s_1536, kc_s_3003, kc_lm11, kc_lm10, kc_lm9, kc_lm8, kc_lm7, kc_lm6, kc_lm5, kc_lm4, kc_lm3, kc_lm2, kc_lm1, kc_l1, kc_l2, kc_l3, kc_l4, kc_l5, kc_l6, kc_l7, kc_l8, kc_l9, kc_l10, kc_l11, kc_l12, kc_l13, kc_l14, kc_l37, kc_l42, kc_l43, kc_l45, kc_l47, kc_l60, kc_l61, kc_l62, kc_l316, kc_l318, kc_l65536, kc_l99999, kc_l1000000, kc_l252645135, kc_l858993459, kc_l1431655765, kc_0, kc_on, nx_lt, nx_le, nx_eq, nx_add, nx_sub, nx_mul, nx_cl, n_lt_ng, n_le_ng, n_eq_ng, ng_lt_n, ng_le_n, ng_eq_n, ng_eq, ng_lt, ng_le, nx_dec, nx_andn, nx_and2, nx_or2]
          rw [if_neg (by omega)]
          by_cases q1 : sd i (alvN A) = 0
          · have hc := cN_lt A 0 i
            rw [if_neg (by omega), m_isDoneSo_n M3 (u := i) (e := cN A 0 i) (by omega) (by omega) (by rw [E3 i (sd_0.mp q1), cN_b w (b := bN A) (c := 0) (by omega)]), Option.bind_some]
            cases q2 : agr A (cN A 0 i) with
            | true =>
              have ob : okB A i = true := okB_t.mpr ⟨q1, q2⟩
              rw [if_pos (by decide), gC, gI, gS, ob, if_pos rfl, if_pos rfl]
              rfl
            | false =>
              have ob : okB A i = false := by
                cases q : okB A i with
                | false => rfl
                | true => have := (okB_t.mp q).2; rw [q2] at this; cases this
              rw [if_neg (by simp), gC, gI, gS, ob, if_neg (by simp), if_neg (by simp)]
              rfl
          · have ob : okB A i = false := by
              cases q : okB A i with
              | false => rfl
              | true => exact (q1 (okB_t.mp q).1).elim
            rw [if_pos q1, gC, gI, gS, ob, if_neg (by simp), if_neg (by simp)]
            rfl
        · unfold m_awake_42
          simp (disch := omega) only [kc_im8, kc_im1, kc_i0, kc_i1, kc_i2, kc_i3, kc_i4, kc_i5, kc_b_m100, kc_b_m16, kc_b_m15, kc_b_m14, kc_b_m13, kc_b_m12, kc_b_m11, kc_b_m2, kc_b_6, kc_b_7, kc_b_8, kc_b_9, kc_b_10, kc_b_11, kc_b_12, kc_b_13, kc_b_14, kc_b_15, kc_b_16, kc_b_20, kc_b_24, kc_b_32, kc_b_37, kc_b_40, kc_b_42, kc_b_43, kc_b_45, kc_b_47, kc_b_48, kc_b_57, kc_b_58, kc_b_59, kc_b_60, kc_b_61, kc_b_62, kc_b_63, kc_b_91, kc_b_93, kc_b_97, kc_b_99, kc_b_100, kc_b_106, kc_b_122, kc_s_206, kc_s_226, kc_s_227, kc_s_255, kc_s_256, kc_s_316, kc_s_318, kc_s_400, kc_s_512, kc_s_999, kc_s_1160, kc_s_1536, kc_s_3003, kc_lm11, kc_lm10, kc_lm9, kc_lm8, kc_lm7, kc_lm6, kc_lm5, kc_lm4, kc_lm3, kc_lm2, kc_lm1, kc_l1, kc_l2, kc_l3, kc_l4, kc_l5, kc_l6, kc_l7, kc_l8, kc_l9, kc_l10, kc_l11, kc_l12, kc_l13, kc_l14, kc_l37, kc_l42, kc_l43, kc_l45, kc_l47, kc_l60, kc_l61, kc_l62, kc_l316, kc_l318, kc_l65536, kc_l99999, kc_l1000000, kc_l252645135, kc_l858993459, kc_l1431655765, kc_0, kc_on, nx_lt, nx_le, nx_eq, nx_add, nx_sub, nx_mul, nx_cl, n_lt_ng, n_le_ng, n_eq_ng, ng_lt_n, ng_le_n, ng_eq_n, ng_eq, ng_lt, ng_le, nx_dec]
          rw [if_pos (by omega)]
      rw [key, Option.bind_some]
      dsimp only
      have hgc := gC_le A (alvN A + 1)
      unfold vAwake
      rw [hv]
      have : k = 0 ∨ k = 1 ∨ k = 2 := by omega
      rcases this with rfl | rfl | rfl
      · exact sp_neg (by simp) (sp_some.mpr ⟨by rw [if_pos rfl], ff⟩)
      · refine sp_pos (by decide) ?_
        by_cases q : gC A (alvN A + 1) = 0
        · exact sp_neg (by rw [q]; simp) (sp_some.mpr ⟨by rw [if_neg n10, if_pos rfl, if_pos q], ff⟩)
        · exact sp_pos (by rw [nx_eq (by omega) (by omega)]; exact q) (sp_neg (by simp) (sp_some.mpr ⟨by rw [if_neg n10, if_pos rfl, if_neg q], ff⟩))
      · refine sp_pos (by decide) ?_
        by_cases q : gC A (alvN A + 1) = 0
        · exact sp_neg (by rw [q]; simp) (sp_some.mpr ⟨by rw [if_neg n20, if_neg n21, if_pos q], ff⟩)
        · refine sp_pos (by rw [nx_eq (by omega) (by omega)]; exact q) (sp_pos (by decide) ?_)
          rw [nx_andn]
          exact sp_some.mpr ⟨by rw [if_neg n20, if_neg n21, if_neg q], ff⟩
    · rw [m_in_f h (lo := Int64.ofNat 0) (hi := 2) (n := 2) hy (by omega) rfl rfl, Option.bind_some]
      exact sp_neg (by simp) (none_ (fun q => hy q.2))
  · exact sp_pos (by rw [decide_eq_false h0]; rfl) (none_ (fun q => h0 q.1))
theorem a_gp_n (R : RF h) {o : Nat} (ho : o < 8) (w : WFA A) (c12 : h.2.1 68 12 = nI (gC A (alvN A + 1))) (c85 : ∀ o, o < 8 → h.2.1 85 o = nI (gB A o (alvN A + 1))) : a_greaterPart 68 (nI o) h = some (nI (gG A o)) := by
  have h1 := gC_le A (alvN A + 1)
  have h2 := gB_le A o (alvN A + 1)
  have h3 := alv_lt w
  unfold a_greaterPart a_greaterPart_23
  simp (disch := omega) only [kc_im8, kc_im1, kc_i0, kc_i1, kc_i2, kc_i3, kc_i4, kc_i5, kc_b_m100, kc_b_m16, kc_b_m15, kc_b_m14, kc_b_m13, kc_b_m12, kc_b_m11, kc_b_m2, kc_b_6, kc_b_7, kc_b_8, kc_b_9, kc_b_10, kc_b_11, kc_b_12, kc_b_13, kc_b_14, kc_b_15, kc_b_16, kc_b_20, kc_b_24, kc_b_32, kc_b_37, kc_b_40, kc_b_42, kc_b_43, kc_b_45, kc_b_47, kc_b_48, kc_b_57, kc_b_58, kc_b_59, kc_b_60, kc_b_61, kc_b_62, kc_b_63, kc_b_91, kc_b_93, kc_b_97, kc_b_99, kc_b_100, kc_b_106, kc_b_122, kc_s_206, kc_s_226, kc_s_227, kc_s_255, kc_s_256, kc_s_316, kc_s_318, kc_s_400, kc_s_512, kc_s_999, kc_s_1160, kc_s_1536, kc_s_3003, kc_lm11, kc_lm10, kc_lm9, kc_lm8, kc_lm7, kc_lm6, kc_lm5, kc_lm4, kc_lm3, kc_lm2, kc_lm1, kc_l1, kc_l2, kc_l3, kc_l4, kc_l5, kc_l6, kc_l7, kc_l8, kc_l9, kc_l10, kc_l11, kc_l12, kc_l13, kc_l14, kc_l37, kc_l42, kc_l43, kc_l45, kc_l47, kc_l60, kc_l61, kc_l62, kc_l316, kc_l318, kc_l65536, kc_l99999, kc_l1000000, kc_l252645135, kc_l858993459, kc_l1431655765, kc_0, kc_on, ra_68_15 R, Option.bind_some, mn_85, nx_lt, nx_le, nx_eq, nx_add, nx_sub, nx_mul, nx_cl, n_lt_ng, n_le_ng, n_eq_ng, ng_lt_n, ng_le_n, ng_eq_n, ng_eq, ng_lt, ng_le, nx_dec, gi_n, c12, c85 o ho]
  rw [if_neg (by omega), if_neg (by omega), if_pos (by simpa using ho)]
  unfold gG
  by_cases q : gB A o (alvN A + 1) < gC A (alvN A + 1) - gB A o (alvN A + 1)
  · rw [if_pos q, if_pos q]
  · rw [if_neg q, if_neg q]
theorem x_ask_sp (Q : QI h s A) (y : Int32) : SP (x_ask 0 y h) (fun z => z.1 = vAsk A y ∧ Fq QF h z.2 ∧ QI z.2 s A) := by
  have Q' := Q
  obtain ⟨R, h1, S, H, D, w, C⟩ := Q
  have e2 := w.e2
  have none_ : ¬ (0 < an A 0 ∧ ∃ k, k ≤ 1 ∧ y = nI k) → SP (some (ng 1, h)) (fun z : Int32 × pm_H => z.1 = vAsk A y ∧ Fq QF h z.2 ∧ QI z.2 s A) := by
    intro q
    refine sp_some.mpr ⟨?_, Fq.refl _ _, Q'⟩
    unfold vAsk
    rw [if_neg q]
  unfold x_ask
  rw [ra_0_4 R, Option.bind_some, Q'.now, Option.bind_some, c_sails S w, Option.bind_some]
  simp only [kc_im8, kc_im1, kc_i0, kc_i1, kc_i2, kc_i3, kc_i4, kc_i5, kc_b_m100, kc_b_m16, kc_b_m15, kc_b_m14, kc_b_m13, kc_b_m12, kc_b_m11, kc_b_m2, kc_b_6, kc_b_7, kc_b_8, kc_b_9, kc_b_10, kc_b_11, kc_b_12, kc_b_13, kc_b_14, kc_b_15, kc_b_16, kc_b_20, kc_b_24, kc_b_32, kc_b_37, kc_b_40, kc_b_42, kc_b_43, kc_b_45, kc_b_47, kc_b_48, kc_b_57, kc_b_58, kc_b_59, kc_b_60, kc_b_61, kc_b_62, kc_b_63, kc_b_91, kc_b_93, kc_b_97, kc_b_99, kc_b_100, kc_b_106, kc_b_122, kc_s_206, kc_s_226, kc_s_227, kc_s_255, kc_s_256, kc_s_316, kc_s_318, kc_s_400, kc_s_512, kc_s_999, kc_s_1160, kc_s_1536, kc_s_3003, kc_lm11, kc_lm10, kc_lm9, kc_lm8, kc_lm7, kc_lm6, kc_lm5, kc_lm4, kc_lm3, kc_lm2, kc_lm1, kc_l1, kc_l2, kc_l3, kc_l4, kc_l5, kc_l6, kc_l7, kc_l8, kc_l9, kc_l10, kc_l11, kc_l12, kc_l13, kc_l14, kc_l37, kc_l42, kc_l43, kc_l45, kc_l47, kc_l60, kc_l61, kc_l62, kc_l316, kc_l318, kc_l65536, kc_l99999, kc_l1000000, kc_l252645135, kc_l858993459, kc_l1431655765, kc_0, kc_on]
  by_cases h0 : 0 < an A 0
  · refine sp_neg (by rw [decide_eq_true h0]; show ¬ nI 1 = nI 0; decide) ?_
    by_cases hy : ∃ k, k ≤ 1 ∧ y = nI k
    · obtain ⟨k, hk, rfl⟩ := hy
      have hv : vAsk A (nI k) = if gC A (alvN A + 1) = 0 ∨ an A 2 = 0 then ng 2 else if nI k = nI 0 then nI (bq A (an A 2)) else nI (gG A (bq A (an A 2))) := by
        unfold vAsk
        rw [if_pos ⟨h0, k, hk, rfl⟩]
      rw [hv]
      refine sp_neg (by rw [nx_lt (by omega) (by omega)]; omega) (sp_pos (by rw [nx_le (by omega) (by omega)]; omega) ?_)
      rw [ra_0_7 R, Option.bind_some, Option.bind_some]
      refine sp_call (a_gather_sp Q' h0) ?_
      rintro h2 ⟨f2, Q2, a1, a2, a3, a4⟩
      have hgc := gC_le A (alvN A + 1)
      have ha := alv_lt w
      rw [ra_0_7 Q2.1, Option.bind_some, a1]
      by_cases q : gC A (alvN A + 1) = 0
      · rw [q]
        exact sp_pos rfl (sp_some.mpr ⟨by rw [if_pos (.inl rfl)], f2, Q2⟩)
      · refine sp_neg (by rw [nx_eq (by omega) (by omega)]; exact q) ?_
        rw [ra_0_4 Q2.1, Option.bind_some, Q2.now, Option.bind_some, Q2.2.2.1.2.2.2.1, e2.1]
        by_cases q2 : an A 2 = 0
        · rw [q2]
          exact sp_neg (by simp) (sp_some.mpr ⟨by rw [if_pos (.inr rfl)], f2, Q2⟩)
        · refine sp_pos (by rw [nx_eq (by omega) (by omega)]; exact q2) ?_
          have hbq := bq_lt A (an A 2) (by omega)
          have key : a_bestQuestion 68 (nI (an A 2)) h2 = some (nI (bq A (an A 2))) := by
            have kk : wh (fun z : (Int32 × Int32) => a_bestQuestion_4 68 (nI (an A 2)) z.1 z.2 h2) (nI 0, nI 1) = some (nI (bq A (an A 2))) := by
              rw [show (nI 0, nI 1) = (nI (bq A 1), nI 1) from by rw [bq_1]]
              refine wh_for (fun i => (nI (bq A i), nI i)) (an A 2) 1 (by omega) (fun i hi1 hi => ?_) ?_
              · have hb := bq_lt A i (by omega)
                have g1 := gG_lt A w i
                have g2 := gG_lt A w (bq A i)
                unfold a_bestQuestion_4
                simp (disch := omega) only [kc_im8, kc_im1, kc_i0, kc_i1, kc_i2, kc_i3, kc_i4, kc_i5, kc_b_m100, kc_b_m16, kc_b_m15, kc_b_m14, kc_b_m13, kc_b_m12, kc_b_m11, kc_b_m2, kc_b_6, kc_b_7, kc_b_8, kc_b_9, kc_b_10, kc_b_11, kc_b_12, kc_b_13, kc_b_14, kc_b_15, kc_b_16, kc_b_20, kc_b_24, kc_b_32, kc_b_37, kc_b_40, kc_b_42, kc_b_43, kc_b_45, kc_b_47, kc_b_48, kc_b_57, kc_b_58, kc_b_59, kc_b_60, kc_b_61, kc_b_62, kc_b_63, kc_b_91, kc_b_93, kc_b_97, kc_b_99, kc_b_100, kc_b_106, kc_b_122, kc_s_206, kc_s_226, kc_s_227, kc_s_255, kc_s_256, kc_s_316, kc_s_318, kc_s_400, kc_s_512, kc_s_999, kc_s_1160, kc_s_1536, kc_s_3003, kc_lm11, kc_lm10, kc_lm9, kc_lm8, kc_lm7, kc_lm6, kc_lm5, kc_lm4, kc_lm3, kc_lm2, kc_lm1, kc_l1, kc_l2, kc_l3, kc_l4, kc_l5, kc_l6, kc_l7, kc_l8, kc_l9, kc_l10, kc_l11, kc_l12, kc_l13, kc_l14, kc_l37, kc_l42, kc_l43, kc_l45, kc_l47, kc_l60, kc_l61, kc_l62, kc_l316, kc_l318, kc_l65536, kc_l99999, kc_l1000000, kc_l252645135, kc_l858993459, kc_l1431655765, kc_0, kc_on, nx_lt, nx_le, nx_eq, nx_add, nx_sub, nx_mul, nx_cl, n_lt_ng, n_le_ng, n_eq_ng, ng_lt_n, ng_le_n, ng_eq_n, ng_eq, ng_lt, ng_le, nx_dec, a_gp_n Q2.1 (by omega : i < 8) w a1 a4, a_gp_n Q2.1 (by omega : bq A i < 8) w a1 a4, Option.bind_some]
                rw [if_neg (by omega), bq]
                by_cases z : gG A (bq A i) ≤ gG A i
                · rw [if_pos z, if_neg (by omega)]
                · rw [if_neg z, if_pos (by omega)]
              · unfold a_bestQuestion_4
                simp (disch := omega) only [kc_im8, kc_im1, kc_i0, kc_i1, kc_i2, kc_i3, kc_i4, kc_i5, kc_b_m100, kc_b_m16, kc_b_m15, kc_b_m14, kc_b_m13, kc_b_m12, kc_b_m11, kc_b_m2, kc_b_6, kc_b_7, kc_b_8, kc_b_9, kc_b_10, kc_b_11, kc_b_12, kc_b_13, kc_b_14, kc_b_15, kc_b_16, kc_b_20, kc_b_24, kc_b_32, kc_b_37, kc_b_40, kc_b_42, kc_b_43, kc_b_45, kc_b_47, kc_b_48, kc_b_57, kc_b_58, kc_b_59, kc_b_60, kc_b_61, kc_b_62, kc_b_63, kc_b_91, kc_b_93, kc_b_97, kc_b_99, kc_b_100, kc_b_106, kc_b_122, kc_s_206, kc_s_226, kc_s_227, kc_s_255, kc_s_256, kc_s_316, kc_s_318, kc_s_400, kc_s_512, kc_s_999, kc_s_1160, kc_s_1536, kc_s_3003, kc_lm11, kc_lm10, kc_lm9, kc_lm8, kc_lm7, kc_lm6, kc_lm5, kc_lm4, kc_lm3, kc_lm2, kc_lm1, kc_l1, kc_l2, kc_l3, kc_l4, kc_l5, kc_l6, kc_l7, kc_l8, kc_l9, kc_l10, kc_l11, kc_l12, kc_l13, kc_l14, kc_l37, kc_l42, kc_l43, kc_l45, kc_l47, kc_l60, kc_l61, kc_l62, kc_l316, kc_l318, kc_l65536, kc_l99999, kc_l1000000, kc_l252645135, kc_l858993459, kc_l1431655765, kc_0, kc_on, nx_lt, nx_le, nx_eq, nx_add, nx_sub, nx_mul, nx_cl, n_lt_ng, n_le_ng, n_eq_ng, ng_lt_n, ng_le_n, ng_eq_n, ng_eq, ng_lt, ng_le, nx_dec]
                rw [if_pos (by omega)]
            unfold a_bestQuestion
            simp only [kc_im8, kc_im1, kc_i0, kc_i1, kc_i2, kc_i3, kc_i4, kc_i5, kc_b_m100, kc_b_m16, kc_b_m15, kc_b_m14, kc_b_m13, kc_b_m12, kc_b_m11, kc_b_m2, kc_b_6, kc_b_7, kc_b_8, kc_b_9, kc_b_10, kc_b_11, kc_b_12, kc_b_13, kc_b_14, kc_b_15, kc_b_16, kc_b_20, kc_b_24, kc_b_32, kc_b_37, kc_b_40, kc_b_42, kc_b_43, kc_b_45, kc_b_47, kc_b_48, kc_b_57, kc_b_58, kc_b_59, kc_b_60, kc_b_61, kc_b_62, kc_b_63, kc_b_91, kc_b_93, kc_b_97, kc_b_99, kc_b_100, kc_b_106, kc_b_122, kc_s_206, kc_s_226, kc_s_227, kc_s_255, kc_s_256, kc_s_316, kc_s_318, kc_s_400, kc_s_512, kc_s_999, kc_s_1160, kc_s_1536, kc_s_3003, kc_lm11, kc_lm10, kc_lm9, kc_lm8, kc_lm7, kc_lm6, kc_lm5, kc_lm4, kc_lm3, kc_lm2, kc_lm1, kc_l1, kc_l2, kc_l3, kc_l4, kc_l5, kc_l6, kc_l7, kc_l8, kc_l9, kc_l10, kc_l11, kc_l12, kc_l13, kc_l14, kc_l37, kc_l42, kc_l43, kc_l45, kc_l47, kc_l60, kc_l61, kc_l62, kc_l316, kc_l318, kc_l65536, kc_l99999, kc_l1000000, kc_l252645135, kc_l858993459, kc_l1431655765, kc_0, kc_on, kk, Option.bind_some]
          rw [Option.bind_some, Option.bind_some, Q2.now, Option.bind_some, Q2.2.2.1.2.2.2.1, e2.1, key, Option.bind_some]
          have hne : ¬ (gC A (alvN A + 1) = 0 ∨ an A 2 = 0) := by omega
          have : k = 0 ∨ k = 1 := by omega
          rcases this with rfl | rfl
          · exact sp_neg (by simp) (sp_some.mpr ⟨by rw [if_neg hne, if_pos rfl], f2, Q2⟩)
          · refine sp_pos n10 ?_
            rw [Option.bind_some, a_gp_n Q2.1 (by omega : bq A (an A 2) < 8) w a1 a4, Option.bind_some]
            exact sp_some.mpr ⟨by rw [if_neg hne, if_neg n10], f2, Q2⟩
    · by_cases q0 : y < nI 0
      · exact sp_pos q0 (none_ (fun q => hy q.2))
      · exact sp_neg q0 (sp_neg (nrng (by omega) hy q0).2 (none_ (fun q => hy q.2)))
  · exact sp_pos (by rw [decide_eq_false h0]; rfl) (none_ (fun q => h0 q.1))
theorem m_ask_in (M : MI h A) {o k : Nat} (ho : o < 8) (x y : Int32) (E : ∀ u, sub u (alvN A) → h.2.1 207 u = nI (cN A (bN A) u)) : wh (fun z : (Int32 × Int32 × Int32 × pm_H) => m_ask_59 193 (nI k) (nI (alvN A)) x y (nI o) z.1 z.2.1 z.2.2.1 z.2.2.2) (nI 0, nI 0, nI 0, h) = some (nI (gB A o (alvN A + 1)), nI (gC A (alvN A + 1) - gB A o (alvN A + 1)), h) := by
  have M' := M
  obtain ⟨R, hA, w⟩ := M
  have ha := alv_lt w
  refine wh_for (fun i => (nI (gB A o i), nI (gC A i - gB A o i), nI i, h)) (alvN A + 1) 0 (by omega) (fun i _ hi => ?_) ?_
  · have hl1 : sd i (alvN A) ≤ i := sub_le (sub_sd _ _)
    have g1 := gB_le A o i
    have g2 := gC_le A i
    unfold m_ask_59
    simp (disch := omega) only [kc_im8, kc_im1, kc_i0, kc_i1, kc_i2, kc_i3, kc_i4, kc_i5, kc_b_m100, kc_b_m16, kc_b_m15, kc_b_m14, kc_b_m13, kc_b_m12, kc_b_m11, kc_b_m2, kc_b_6, kc_b_7, kc_b_8, kc_b_9, kc_b_10, kc_b_11, kc_b_12, kc_b_13, kc_b_14, kc_b_15, kc_b_16, kc_b_20, kc_b_24, kc_b_32, kc_b_37, kc_b_40, kc_b_42, kc_b_43, kc_b_45, kc_b_47, kc_b_48, kc_b_57, kc_b_58, kc_b_59, kc_b_60, kc_b_61, kc_b_62, kc_b_63, kc_b_91, kc_b_93, kc_b_97, kc_b_99, kc_b_100, kc_b_106, kc_b_122, kc_s_206, kc_s_226, kc_s_227, kc_s_255, kc_s_256, kc_s_316, kc_s_318, kc_s_400, kc_s_512, kc_s_999, kc_s_1160, kc_s_1536, kc_s_3003, kc_lm11, kc_lm10, kc_lm9, kc_lm8, kc_lm7, kc_lm6, kc_lm5, kc_lm4, kc_lm3, kc_lm2, kc_lm1, kc_l1, kc_l2, kc_l3, kc_l4, kc_l5, kc_l6, kc_l7, kc_l8, kc_l9, kc_l10, kc_l11, kc_l12, kc_l13, kc_l14, kc_l37, kc_l42, kc_l43, kc_l45, kc_l47, kc_l60, kc_l61, kc_l62, kc_l316, kc_l318, kc_l65536, kc_l99999, kc_l1000000, kc_l252645135, kc_l858993459, kc_l1431655765, kc_0, kc_on, nx_lt, nx_le, nx_eq, nx_add, nx_sub, nx_mul, nx_cl, n_lt_ng, n_le_ng, n_eq_ng, ng_lt_n, ng_le_n, ng_eq_n, ng_eq, ng_lt, ng_le, nx_dec, nx_andn]
    rw [if_neg (by omega)]
    have stay : okB A i = false → (some (Sum.inl (nI (gB A o i), nI (gC A i - gB A o i), nI (i + 1), h)) : Option ((Int32 × Int32 × Int32 × pm_H) ⊕ (Int32 × Int32 × pm_H))) = some (Sum.inl (nI (gB A o (i + 1)), nI (gC A (i + 1) - gB A o (i + 1)), nI (i + 1), h)) := by
      intro ob
      rw [gB, gC, ob]
      rfl
    by_cases q1 : sd i (alvN A) = 0
    · have hc := cN_lt A 0 i
      have hs : h.2.1 207 i = nI (cN A 0 i) := by rw [E i (sd_0.mp q1), cN_b w (b := bN A) (c := 0) (by omega)]
      rw [if_neg (by omega), m_isDoneSo_n M' (u := i) (e := cN A 0 i) (by omega) (by omega) hs, Option.bind_some]
      cases q2 : agr A (cN A 0 i) with
      | true =>
        have ob : okB A i = true := okB_t.mpr ⟨q1, q2⟩
        rw [if_pos (show ¬ nI true.toNat = nI 0 from n10)]
        simp (disch := omega) only [ra_193_26 R, Option.bind_some, mn_207, gi_n, hs, nx_bit]
        rw [if_pos (by simp; omega), if_pos (by simp; omega), gB, gC, ob, Bool.true_and]
        cases (cN A 0 i).testBit o with
        | true =>
          rw [show true.toNat = 1 from rfl, nx_add, nx_sub (by omega), nx_add, show gC A i - gB A o i + (1 - 1) = gC A i + 1 - (gB A o i + 1) from by omega]
        | false =>
          rw [show false.toNat = 0 from rfl, show true.toNat = 1 from rfl, nx_add, nx_sub (by omega), nx_add, show gC A i - gB A o i + (1 - 0) = gC A i + 1 - (gB A o i + 0) from by omega]
      | false =>
        rw [if_neg (by simp)]
        refine stay ?_
        cases q : okB A i with
        | false => rfl
        | true => have := (okB_t.mp q).2; rw [q2] at this; cases this
    · rw [if_pos q1]
      refine stay ?_
      cases q : okB A i with
      | false => rfl
      | true => exact (q1 (okB_t.mp q).1).elim
  · unfold m_ask_59
    simp (disch := omega) only [kc_im8, kc_im1, kc_i0, kc_i1, kc_i2, kc_i3, kc_i4, kc_i5, kc_b_m100, kc_b_m16, kc_b_m15, kc_b_m14, kc_b_m13, kc_b_m12, kc_b_m11, kc_b_m2, kc_b_6, kc_b_7, kc_b_8, kc_b_9, kc_b_10, kc_b_11, kc_b_12, kc_b_13, kc_b_14, kc_b_15, kc_b_16, kc_b_20, kc_b_24, kc_b_32, kc_b_37, kc_b_40, kc_b_42, kc_b_43, kc_b_45, kc_b_47, kc_b_48, kc_b_57, kc_b_58, kc_b_59, kc_b_60, kc_b_61, kc_b_62, kc_b_63, kc_b_91, kc_b_93, kc_b_97, kc_b_99, kc_b_100, kc_b_106, kc_b_122, kc_s_206, kc_s_226, kc_s_227, kc_s_255, kc_s_256, kc_s_316, kc_s_318, kc_s_400, kc_s_512, kc_s_999, kc_s_1160, kc_s_1536, kc_s_3003, kc_lm11, kc_lm10, kc_lm9, kc_lm8, kc_lm7, kc_lm6, kc_lm5, kc_lm4, kc_lm3, kc_lm2, kc_lm1, kc_l1, kc_l2, kc_l3, kc_l4, kc_l5, kc_l6, kc_l7, kc_l8, kc_l9, kc_l10, kc_l11, kc_l12, kc_l13, kc_l14, kc_l37, kc_l42, kc_l43, kc_l45, kc_l47, kc_l60, kc_l61, kc_l62, kc_l316, kc_l318, kc_l65536, kc_l99999, kc_l1000000, kc_l252645135, kc_l858993459, kc_l1431655765, kc_0, kc_on, nx_lt, nx_le, nx_eq, nx_add, nx_sub, nx_mul, nx_cl, n_lt_ng, n_le_ng, n_eq_ng, ng_lt_n, ng_le_n, ng_eq_n, ng_eq, ng_lt, ng_le, nx_dec]
    rw [if_pos (by omega)]
theorem m_ask_sp (M : MI h A) (y : Int32) : SP (m_ask 193 y h) (fun z => z.1 = vAsk A y ∧ FM h z.2) := by
  have M' := M
  obtain ⟨R, hA, w⟩ := M
  have e2 := w.e2
  have ha := alv_lt w
  have none_ : ¬ (0 < an A 0 ∧ ∃ k, k ≤ 1 ∧ y = nI k) → SP (some (ng 1, h)) (fun z : Int32 × pm_H => z.1 = vAsk A y ∧ FM h z.2) := by
    intro q
    refine sp_some.mpr ⟨?_, FM.refl _⟩
    unfold vAsk
    rw [if_neg q]
  unfold m_ask
  rw [m_isShip_n M', Option.bind_some]
  simp only [kc_im8, kc_im1, kc_i0, kc_i1, kc_i2, kc_i3, kc_i4, kc_i5, kc_b_m100, kc_b_m16, kc_b_m15, kc_b_m14, kc_b_m13, kc_b_m12, kc_b_m11, kc_b_m2, kc_b_6, kc_b_7, kc_b_8, kc_b_9, kc_b_10, kc_b_11, kc_b_12, kc_b_13, kc_b_14, kc_b_15, kc_b_16, kc_b_20, kc_b_24, kc_b_32, kc_b_37, kc_b_40, kc_b_42, kc_b_43, kc_b_45, kc_b_47, kc_b_48, kc_b_57, kc_b_58, kc_b_59, kc_b_60, kc_b_61, kc_b_62, kc_b_63, kc_b_91, kc_b_93, kc_b_97, kc_b_99, kc_b_100, kc_b_106, kc_b_122, kc_s_206, kc_s_226, kc_s_227, kc_s_255, kc_s_256, kc_s_316, kc_s_318, kc_s_400, kc_s_512, kc_s_999, kc_s_1160, kc_s_1536, kc_s_3003, kc_lm11, kc_lm10, kc_lm9, kc_lm8, kc_lm7, kc_lm6, kc_lm5, kc_lm4, kc_lm3, kc_lm2, kc_lm1, kc_l1, kc_l2, kc_l3, kc_l4, kc_l5, kc_l6, kc_l7, kc_l8, kc_l9, kc_l10, kc_l11, kc_l12, kc_l13, kc_l14, kc_l37, kc_l42, kc_l43, kc_l45, kc_l47, kc_l60, kc_l61, kc_l62, kc_l316, kc_l318, kc_l65536, kc_l99999, kc_l1000000, kc_l252645135, kc_l858993459, kc_l1431655765, kc_0, kc_on]
  by_cases h0 : 0 < an A 0
  · refine sp_neg (by rw [decide_eq_true h0]; show ¬ nI 1 = nI 0; decide) ?_
    by_cases hy : ∃ k, k ≤ 1 ∧ y = nI k
    · obtain ⟨k, hk, rfl⟩ := hy
      have hv : vAsk A (nI k) = if gC A (alvN A + 1) = 0 ∨ an A 2 = 0 then ng 2 else if nI k = nI 0 then nI (bq A (an A 2)) else nI (gG A (bq A (an A 2))) := by
        unfold vAsk
        rw [if_pos ⟨h0, k, hk, rfl⟩]
      rw [hv, m_in_t h (lo := Int64.ofNat 0) (hi := Int64.ofNat 1) hk (by omega) rfl rfl, Option.bind_some]
      refine sp_pos n10 ?_
      rw [m_aliveSet_n w R hA, Option.bind_some]
      refine sp_call (g_ord M' (al := alvN A) (by omega) (fun m q => ?_)) ?_
      · unfold alvN at q
        rw [bs_bit, Bool.and_eq_true, decide_eq_true_eq] at q
        exact .inl q.1
      rintro h3 ⟨f3, E3⟩
      have ff := f3.fm (fun c hc => hc.mf) (fun j hj => by unfold FF; omega)
      have M3 := M'.fm ff
      have hgc := gC_le A (alvN A + 1)
      have key : wh (fun z : (Int32 × Int32 × Int32 × pm_H) => m_ask_39 193 (nI k) (nI (alvN A)) z.1 z.2.1 z.2.2.1 z.2.2.2) (ng 2, ng 2, nI 0, h3) = some (if gC A (alvN A + 1) = 0 ∨ an A 2 = 0 then ng 2 else nI (bq A (an A 2)), if gC A (alvN A + 1) = 0 ∨ an A 2 = 0 then ng 2 else nI (gG A (bq A (an A 2))), h3) := by
        rw [show ((ng 2, ng 2, nI 0, h3) : Int32 × Int32 × Int32 × pm_H) = (if gC A (alvN A + 1) = 0 ∨ 0 = 0 then ng 2 else nI (bq A 0), if gC A (alvN A + 1) = 0 ∨ 0 = 0 then ng 2 else nI (gG A (bq A 0)), nI 0, h3) from by simp]
        refine wh_for (fun i => (if gC A (alvN A + 1) = 0 ∨ i = 0 then ng 2 else nI (bq A i), if gC A (alvN A + 1) = 0 ∨ i = 0 then ng 2 else nI (gG A (bq A i)), nI i, h3)) (an A 2) 0 (by omega) (fun i _ hi => ?_) ?_
        · have g1 := gB_le A i (alvN A + 1)
          have gl := gG_lt A w i
          unfold m_ask_39
          simp (disch := omega) only [kc_im8, kc_im1, kc_i0, kc_i1, kc_i2, kc_i3, kc_i4, kc_i5, kc_b_m100, kc_b_m16, kc_b_m15, kc_b_m14, kc_b_m13, kc_b_m12, kc_b_m11, kc_b_m2, kc_b_6, kc_b_7, kc_b_8, kc_b_9, kc_b_10, kc_b_11, kc_b_12, kc_b_13, kc_b_14, kc_b_15, kc_b_16, kc_b_20, kc_b_24, kc_b_32, kc_b_37, kc_b_40, kc_b_42, kc_b_43, kc_b_45, kc_b_47, kc_b_48, kc_b_57, kc_b_58, kc_b_59, kc_b_60, kc_b_61, kc_b_62, kc_b_63, kc_b_91, kc_b_93, kc_b_97, kc_b_99, kc_b_100, kc_b_106, kc_b_122, kc_s_206, kc_s_226, kc_s_227, kc_s_255, kc_s_256, kc_s_316, kc_s_318, kc_s_400, kc_s_512, kc_s_999, kc_s_1160, kc_s_1536, kc_s_3003, kc_lm11, kc_lm10, kc_lm9, kc_lm8, kc_lm7, kc_lm6, kc_lm5, kc_lm4, kc_lm3, kc_lm2, kc_lm1, kc_l1, kc_l2, kc_l3, kc_l4, kc_l5, kc_l6, kc_l7, kc_l8, kc_l9, kc_l10, kc_l11, kc_l12, kc_l13, kc_l14, kc_l37, kc_l42, kc_l43, kc_l45, kc_l47, kc_l60, kc_l61, kc_l62, kc_l316, kc_l318, kc_l65536, kc_l99999, kc_l1000000, kc_l252645135, kc_l858993459, kc_l1431655765, kc_0, kc_on, ra_193_20 M3.1, Option.bind_some, mn_203, gi_n, nx_lt, nx_le, nx_eq, nx_add, nx_sub, nx_mul, nx_cl, n_lt_ng, n_le_ng, n_eq_ng, ng_lt_n, ng_le_n, ng_eq_n, ng_eq, ng_lt, ng_le, nx_dec, M3.2.1, e2.1, m_ask_in M3 (by omega : i < 8) _ _ E3]
          rw [if_pos (by simp), if_neg (by omega)]
          have tail : ∀ x y : Int32, x = (if gC A (alvN A + 1) = 0 ∨ i = 0 then ng 2 else nI (bq A i)) → y = (if gC A (alvN A + 1) = 0 ∨ i = 0 then ng 2 else nI (gG A (bq A i))) → m_ask_142 193 (nI k) (nI (alvN A)) x y (nI i) (nI (gG A i)) h3 = some (.inl (if gC A (alvN A + 1) = 0 ∨ i + 1 = 0 then ng 2 else nI (bq A (i + 1)), if gC A (alvN A + 1) = 0 ∨ i + 1 = 0 then ng 2 else nI (gG A (bq A (i + 1))), nI (i + 1), h3)) := by
            intro x y hx hy
            unfold m_ask_142 m_ask_163
            simp (disch := omega) only [kc_im8, kc_im1, kc_i0, kc_i1, kc_i2, kc_i3, kc_i4, kc_i5, kc_b_m100, kc_b_m16, kc_b_m15, kc_b_m14, kc_b_m13, kc_b_m12, kc_b_m11, kc_b_m2, kc_b_6, kc_b_7, kc_b_8, kc_b_9, kc_b_10, kc_b_11, kc_b_12, kc_b_13, kc_b_14, kc_b_15, kc_b_16, kc_b_20, kc_b_24, kc_b_32, kc_b_37, kc_b_40, kc_b_42, kc_b_43, kc_b_45, kc_b_47, kc_b_48, kc_b_57, kc_b_58, kc_b_59, kc_b_60, kc_b_61, kc_b_62, kc_b_63, kc_b_91, kc_b_93, kc_b_97, kc_b_99, kc_b_100, kc_b_106, kc_b_122, kc_s_206, kc_s_226, kc_s_227, kc_s_255, kc_s_256, kc_s_316, kc_s_318, kc_s_400, kc_s_512, kc_s_999, kc_s_1160, kc_s_1536, kc_s_3003, kc_lm11, kc_lm10, kc_lm9, kc_lm8, kc_lm7, kc_lm6, kc_lm5, kc_lm4, kc_lm3, kc_lm2, kc_lm1, kc_l1, kc_l2, kc_l3, kc_l4, kc_l5, kc_l6, kc_l7, kc_l8, kc_l9, kc_l10, kc_l11, kc_l12, kc_l13, kc_l14, kc_l37, kc_l42, kc_l43, kc_l45, kc_l47, kc_l60, kc_l61, kc_l62, kc_l316, kc_l318, kc_l65536, kc_l99999, kc_l1000000, kc_l252645135, kc_l858993459, kc_l1431655765, kc_0, kc_on, nx_lt, nx_le, nx_eq, nx_add, nx_sub, nx_mul, nx_cl, n_lt_ng, n_le_ng, n_eq_ng, ng_lt_n, ng_le_n, ng_eq_n, ng_eq, ng_lt, ng_le, nx_dec]
            by_cases q : gC A (alvN A + 1) = 0
            · have gz : gG A i = 0 := by unfold gG; split <;> omega
              rw [if_pos gz, if_pos (.inl q), if_pos (.inl q), hx, hy, if_pos (.inl q), if_pos (.inl q)]
            · have gz : ¬ gG A i = 0 := by unfold gG; split <;> omega
              have r1 : ¬ (gC A (alvN A + 1) = 0 ∨ i + 1 = 0) := by omega
              simp only [r1, if_false]
              rw [if_neg gz]
              by_cases i0 : i = 0
              · subst i0
                have hx' : x = ng 2 := by rw [hx, if_pos (.inr rfl)]
                rw [hx', if_pos (by decide : ng 2 < nI 0), bq_1]
              · have r2 : ¬ (gC A (alvN A + 1) = 0 ∨ i = 0) := by omega
                have hx' : x = nI (bq A i) := by rw [hx, if_neg r2]
                have hy' : y = nI (gG A (bq A i)) := by rw [hy, if_neg r2]
                have hb := bq_lt A i (by omega)
                have g2 := gG_lt A w (bq A i)
                rw [hx', hy']
                simp (disch := omega) only [nx_lt, nx_le, nx_eq, nx_add, nx_sub, nx_mul, nx_cl, n_lt_ng, n_le_ng, n_eq_ng, ng_lt_n, ng_le_n, ng_eq_n, ng_eq, ng_lt, ng_le, nx_dec]
                rw [if_neg (by omega), bq]
                by_cases z : gG A i < gG A (bq A i)
                · rw [if_pos z, if_pos z]
                · rw [if_neg z, if_neg z]
          by_cases z : gB A i (alvN A + 1) ≤ gC A (alvN A + 1) - gB A i (alvN A + 1)
          · rw [if_pos z]
            have e : gG A i = gC A (alvN A + 1) - gB A i (alvN A + 1) := by unfold gG; split <;> omega
            rw [← e]
            exact tail _ _ rfl rfl
          · rw [if_neg z]
            have e : gG A i = gB A i (alvN A + 1) := by unfold gG; split <;> omega
            rw [← e]
            exact tail _ _ rfl rfl
        · unfold m_ask_39
          simp (disch := omega) only [kc_im8, kc_im1, kc_i0, kc_i1, kc_i2, kc_i3, kc_i4, kc_i5, kc_b_m100, kc_b_m16, kc_b_m15, kc_b_m14, kc_b_m13, kc_b_m12, kc_b_m11, kc_b_m2, kc_b_6, kc_b_7, kc_b_8, kc_b_9, kc_b_10, kc_b_11, kc_b_12, kc_b_13, kc_b_14, kc_b_15, kc_b_16, kc_b_20, kc_b_24, kc_b_32, kc_b_37, kc_b_40, kc_b_42, kc_b_43, kc_b_45, kc_b_47, kc_b_48, kc_b_57, kc_b_58, kc_b_59, kc_b_60, kc_b_61, kc_b_62, kc_b_63, kc_b_91, kc_b_93, kc_b_97, kc_b_99, kc_b_100, kc_b_106, kc_b_122, kc_s_206, kc_s_226, kc_s_227, kc_s_255, kc_s_256, kc_s_316, kc_s_318, kc_s_400, kc_s_512, kc_s_999, kc_s_1160, kc_s_1536, kc_s_3003, kc_lm11, kc_lm10, kc_lm9, kc_lm8, kc_lm7, kc_lm6, kc_lm5, kc_lm4, kc_lm3, kc_lm2, kc_lm1, kc_l1, kc_l2, kc_l3, kc_l4, kc_l5, kc_l6, kc_l7, kc_l8, kc_l9, kc_l10, kc_l11, kc_l12, kc_l13, kc_l14, kc_l37, kc_l42, kc_l43, kc_l45, kc_l47, kc_l60, kc_l61, kc_l62, kc_l316, kc_l318, kc_l65536, kc_l99999, kc_l1000000, kc_l252645135, kc_l858993459, kc_l1431655765, kc_0, kc_on, ra_193_20 M3.1, Option.bind_some, mn_203, gi_n, nx_lt, nx_le, nx_eq, nx_add, nx_sub, nx_mul, nx_cl, n_lt_ng, n_le_ng, n_eq_ng, ng_lt_n, ng_le_n, ng_eq_n, ng_eq, ng_lt, ng_le, nx_dec, M3.2.1, e2.1]
          rw [if_pos (by simp), if_pos (by omega)]
      rw [key, Option.bind_some]
      dsimp only
      have : k = 0 ∨ k = 1 := by omega
      rcases this with rfl | rfl
      · refine sp_neg (by simp) (sp_some.mpr ⟨?_, ff⟩)
        rw [if_pos rfl]
      · refine sp_pos n10 (sp_some.mpr ⟨?_, ff⟩)
        rw [if_neg n10]
    · rw [m_in_f h (lo := Int64.ofNat 0) (hi := Int64.ofNat 1) hy (by omega) rfl rfl, Option.bind_some]
      exact sp_neg (by simp) (none_ (fun q => hy q.2))
  · exact sp_pos (by rw [decide_eq_false h0]; rfl) (none_ (fun q => h0 q.1))
end AK
