/-! The reference: which orders each set can say. -/
section GA
variable {A mw : Nat → Int32} {al : Nat} {wf : Nat → Nat}
/-- some row of just this set, of men of al -/
def mkA (A : Nat → Int32) (wf : Nat → Nat) (al T o : Nat) : Prop := ∃ q : List Nat, q.length ≤ 5 ∧ q.Nodup ∧ (∀ m ∈ q, al.testBit m = true) ∧ setOf q = T ∧ syA A (q.map wf) = some o
theorem syA_nil (w : WFA A) : syA A [] = none := by
  unfold syA
  rw [mean_fix _ rfl, ordOf_none]
  intro b hb q
  have h1 := w.o1p hb
  have h2 : (rowL A b).length = an A (58 + 6 * b + 1) := tl_len _ _
  rw [q, List.length_nil] at h2
  omega
theorem g_in {h : pm_H} (R : RF h) {Q C : Nat → Nat → Prop} {i : Nat} (hi : i < 512) (E : EXS h (fun u o => if u < i then C u o else Q u o)) : SP (wh (fun z : (Int32 × pm_H) => m_gathersSays_52 193 (nI i) z.1 z.2) (nI 0, h)) (fun h' => FrM (· = 207) (fun _ => False) h h' ∧ EXS h' (fun u o => if u < i then C u o else if u = i then Q i o ∨ ∃ m, m < 9 ∧ i.testBit m = true ∧ C (sd i (2 ^ m)) o else Q u o)) := by
  refine wh_cnt (fun k z => z.1 = nI k ∧ FrM (· = 207) (fun _ => False) h z.2 ∧ EXS z.2 (fun u o => if u < i then C u o else if u = i then Q i o ∨ ∃ m, m < k ∧ i.testBit m = true ∧ C (sd i (2 ^ m)) o else Q u o)) _ 9 ?_ ?_ 0 (nI 0, h) (by omega) ⟨rfl, FrM.refl _ _ _, E.iff (fun u o => ?_)⟩
  · rintro k ⟨x, h1⟩ hk ⟨rfl, f1, E1⟩
    dsimp only at f1 E1
    have R1 := R.fm f1
    unfold m_gathersSays_52
    simp (disch := omega) only [kc_im8, kc_im1, kc_i0, kc_i1, kc_i2, kc_i3, kc_i4, kc_i5, kc_b_m100, kc_b_m16, kc_b_m15, kc_b_m14, kc_b_m13, kc_b_m12, kc_b_m11, kc_b_m2, kc_b_6, kc_b_7, kc_b_8, kc_b_9, kc_b_10, kc_b_11, kc_b_12, kc_b_13, kc_b_14, kc_b_15, kc_b_16, kc_b_20, kc_b_24, kc_b_32, kc_b_37, kc_b_40, kc_b_42, kc_b_43, kc_b_45, kc_b_47, kc_b_48, kc_b_57, kc_b_58, kc_b_59, kc_b_60, kc_b_61, kc_b_62, kc_b_63, kc_b_91, kc_b_93, kc_b_97, kc_b_99, kc_b_100, kc_b_106, kc_b_122, kc_s_206, kc_s_226, kc_s_227, kc_s_255, kc_s_256, kc_s_316, kc_s_318, kc_s_400, kc_s_512, kc_s_999, kc_s_1160, kc_s_1536, kc_s_3003, kc_lm11, kc_lm10, kc_lm9, kc_lm8, kc_lm7, kc_lm6, kc_lm5, kc_lm4, kc_lm3, kc_lm2, kc_lm1, kc_l1, kc_l2, kc_l3, kc_l4, kc_l5, kc_l6, kc_l7, kc_l8, kc_l9, kc_l10, kc_l11, kc_l12, kc_l13, kc_l14, kc_l37, kc_l42, kc_l43, kc_l45, kc_l47, kc_l60, kc_l61, kc_l62, kc_l316, kc_l318, kc_l65536, kc_l99999, kc_l1000000, kc_l252645135, kc_l858993459, kc_l1431655765, kc_0, kc_on, nx_lt, nx_le, nx_eq, nx_add, nx_sub, nx_mul, nx_cl, n_lt_ng, n_le_ng, n_eq_ng, ng_lt_n, ng_le_n, ng_eq_n, ng_eq, ng_lt, ng_le, nx_dec, m_isOf_n, Option.bind_some, ra_193_26 R1, mn_207, gi_n, nx_shl1, nx_andn]
    refine sp_neg (by omega) ?_
    cases hb : i.testBit k with
    | false =>
      refine sp_pos rfl (sp_some.mpr ⟨rfl, f1, E1.iff (fun u o => ?_)⟩)
      have : (∃ m, m < k + 1 ∧ i.testBit m = true ∧ C (sd i (2 ^ m)) o) ↔ (∃ m, m < k ∧ i.testBit m = true ∧ C (sd i (2 ^ m)) o) := by
        constructor
        · rintro ⟨m, q1, q2, q3⟩
          have : m ≠ k := fun e => by subst e; rw [hb] at q2; cases q2
          exact ⟨m, by omega, q2, q3⟩
        · rintro ⟨m, q1, q2⟩; exact ⟨m, by omega, q2⟩
      rw [this]
    | true =>
      refine sp_neg (by show ¬ nI 1 = nI 0; rw [nx_eq (by omega) (by omega)]; omega) ?_
      have hsd := (sd_pow i hi k hk hb).2
      obtain ⟨e1, a1, a2, a3⟩ := E1 i hi
      obtain ⟨e2, b1, b2, b3⟩ := E1 (sd i (2 ^ k)) (by omega)
      rw [gi_n (by omega), nx_cl (by omega), a1, b1, nx_or2]
      refine sp_pos (by simpa using hi) (sp_pos (by simp; omega) (sp_pos (by simpa using hi) ?_))
      rw [sp_bd, sp_some]
      refine ⟨rfl, f1.setI (by omega) rfl, fun u hu => ?_⟩
      show ∃ e, (pm_setI h1 207 i (nI (e1 ||| e2))).2.1 207 u = nI e ∧ _
      by_cases eu : u = i
      · subst eu
        refine ⟨e1 ||| e2, ri_s _, Nat.or_lt_two_pow (n := 8) a2 b2, fun o => ?_⟩
        dsimp only
        rw [Nat.testBit_or, Bool.or_eq_true, a3 o, b3 o]
        simp only [Nat.lt_irrefl, if_false, if_true, hsd]
        constructor
        · rintro ((q | ⟨m, q1, q2⟩) | q)
          · exact .inl q
          · exact .inr ⟨m, by omega, q2⟩
          · exact .inr ⟨k, by omega, hb, q⟩
        · rintro (q | ⟨m, q1, q2, q3⟩)
          · exact .inl (.inl q)
          · by_cases e : m = k
            · subst e; exact .inr q3
            · exact .inl (.inr ⟨m, by omega, q2, q3⟩)
      · obtain ⟨e3, c1, c2, c3⟩ := E1 u hu
        refine ⟨e3, by rw [ri_j _ eu]; exact c1, c2, fun o => ?_⟩
        rw [c3 o]
        simp only [eu, if_false]
  · rintro ⟨x, h1⟩ ⟨rfl, f1, E1⟩
    unfold m_gathersSays_52
    simp (disch := omega) only [kc_im8, kc_im1, kc_i0, kc_i1, kc_i2, kc_i3, kc_i4, kc_i5, kc_b_m100, kc_b_m16, kc_b_m15, kc_b_m14, kc_b_m13, kc_b_m12, kc_b_m11, kc_b_m2, kc_b_6, kc_b_7, kc_b_8, kc_b_9, kc_b_10, kc_b_11, kc_b_12, kc_b_13, kc_b_14, kc_b_15, kc_b_16, kc_b_20, kc_b_24, kc_b_32, kc_b_37, kc_b_40, kc_b_42, kc_b_43, kc_b_45, kc_b_47, kc_b_48, kc_b_57, kc_b_58, kc_b_59, kc_b_60, kc_b_61, kc_b_62, kc_b_63, kc_b_91, kc_b_93, kc_b_97, kc_b_99, kc_b_100, kc_b_106, kc_b_122, kc_s_206, kc_s_226, kc_s_227, kc_s_255, kc_s_256, kc_s_316, kc_s_318, kc_s_400, kc_s_512, kc_s_999, kc_s_1160, kc_s_1536, kc_s_3003, kc_lm11, kc_lm10, kc_lm9, kc_lm8, kc_lm7, kc_lm6, kc_lm5, kc_lm4, kc_lm3, kc_lm2, kc_lm1, kc_l1, kc_l2, kc_l3, kc_l4, kc_l5, kc_l6, kc_l7, kc_l8, kc_l9, kc_l10, kc_l11, kc_l12, kc_l13, kc_l14, kc_l37, kc_l42, kc_l43, kc_l45, kc_l47, kc_l60, kc_l61, kc_l62, kc_l316, kc_l318, kc_l65536, kc_l99999, kc_l1000000, kc_l252645135, kc_l858993459, kc_l1431655765, kc_0, kc_on, nx_lt, nx_le, nx_eq, nx_add, nx_sub, nx_mul, nx_cl, n_lt_ng, n_le_ng, n_eq_ng, ng_lt_n, ng_le_n, ng_eq_n, ng_eq, ng_lt, ng_le, nx_dec]
    exact sp_pos (by omega) (sp_some.mpr ⟨f1, E1⟩)
  · by_cases e1 : u < i
    · simp only [e1, if_true]
    · simp only [e1, if_false]
      by_cases e2 : u = i
      · subst e2; simp
      · simp only [e2, if_false]
theorem g_close {h : pm_H} (R : RF h) {Q : Nat → Nat → Prop} (E : EXS h Q) : SP (wh (fun z : (Int32 × pm_H) => m_gathersSays_43 193 z.1 z.2) (nI 0, h)) (fun h' => FrM (· = 207) (fun _ => False) h h' ∧ EXS h' (fun u o => ∃ T, sub T u ∧ Q T o)) := by
  refine wh_cnt (fun i z => z.1 = nI i ∧ FrM (· = 207) (fun _ => False) h z.2 ∧ EXS z.2 (fun u o => if u < i then (∃ T, sub T u ∧ Q T o) else Q u o)) _ 512 ?_ ?_ 0 (nI 0, h) (by omega) ⟨rfl, FrM.refl _ _ _, E.iff (fun u o => by simp)⟩
  · rintro i ⟨x, h1⟩ hi ⟨rfl, f1, E1⟩
    dsimp only at f1 E1
    unfold m_gathersSays_43
    simp (disch := omega) only [kc_im8, kc_im1, kc_i0, kc_i1, kc_i2, kc_i3, kc_i4, kc_i5, kc_b_m100, kc_b_m16, kc_b_m15, kc_b_m14, kc_b_m13, kc_b_m12, kc_b_m11, kc_b_m2, kc_b_6, kc_b_7, kc_b_8, kc_b_9, kc_b_10, kc_b_11, kc_b_12, kc_b_13, kc_b_14, kc_b_15, kc_b_16, kc_b_20, kc_b_24, kc_b_32, kc_b_37, kc_b_40, kc_b_42, kc_b_43, kc_b_45, kc_b_47, kc_b_48, kc_b_57, kc_b_58, kc_b_59, kc_b_60, kc_b_61, kc_b_62, kc_b_63, kc_b_91, kc_b_93, kc_b_97, kc_b_99, kc_b_100, kc_b_106, kc_b_122, kc_s_206, kc_s_226, kc_s_227, kc_s_255, kc_s_256, kc_s_316, kc_s_318, kc_s_400, kc_s_512, kc_s_999, kc_s_1160, kc_s_1536, kc_s_3003, kc_lm11, kc_lm10, kc_lm9, kc_lm8, kc_lm7, kc_lm6, kc_lm5, kc_lm4, kc_lm3, kc_lm2, kc_lm1, kc_l1, kc_l2, kc_l3, kc_l4, kc_l5, kc_l6, kc_l7, kc_l8, kc_l9, kc_l10, kc_l11, kc_l12, kc_l13, kc_l14, kc_l37, kc_l42, kc_l43, kc_l45, kc_l47, kc_l60, kc_l61, kc_l62, kc_l316, kc_l318, kc_l65536, kc_l99999, kc_l1000000, kc_l252645135, kc_l858993459, kc_l1431655765, kc_0, kc_on, nx_lt, nx_le, nx_eq, nx_add, nx_sub, nx_mul, nx_cl, n_lt_ng, n_le_ng, n_eq_ng, ng_lt_n, ng_le_n, ng_eq_n, ng_eq, ng_lt, ng_le, nx_dec]
    refine sp_neg (by omega) ?_
    refine sp_call (g_in (R.fm f1) hi E1) ?_
    rintro h2 ⟨f2, E2⟩
    refine sp_some.mpr ⟨rfl, f1.trans f2, E2.iff (fun u o => ?_)⟩
    by_cases e1 : u < i
    · have : u < i + 1 := by omega
      simp only [e1, this, if_true]
    · by_cases e2 : u = i
      · subst e2
        simp only [Nat.lt_irrefl, Nat.lt_succ_self, if_true, if_false]
        exact (sub_step (n := 9) (Q := fun T => Q T o) (Nat.le_refl _) hi).symm
      · have : ¬ u < i + 1 := by omega
        simp only [e1, e2, this, if_false]
  · rintro ⟨x, h1⟩ ⟨rfl, f1, E1⟩
    unfold m_gathersSays_43
    simp (disch := omega) only [kc_im8, kc_im1, kc_i0, kc_i1, kc_i2, kc_i3, kc_i4, kc_i5, kc_b_m100, kc_b_m16, kc_b_m15, kc_b_m14, kc_b_m13, kc_b_m12, kc_b_m11, kc_b_m2, kc_b_6, kc_b_7, kc_b_8, kc_b_9, kc_b_10, kc_b_11, kc_b_12, kc_b_13, kc_b_14, kc_b_15, kc_b_16, kc_b_20, kc_b_24, kc_b_32, kc_b_37, kc_b_40, kc_b_42, kc_b_43, kc_b_45, kc_b_47, kc_b_48, kc_b_57, kc_b_58, kc_b_59, kc_b_60, kc_b_61, kc_b_62, kc_b_63, kc_b_91, kc_b_93, kc_b_97, kc_b_99, kc_b_100, kc_b_106, kc_b_122, kc_s_206, kc_s_226, kc_s_227, kc_s_255, kc_s_256, kc_s_316, kc_s_318, kc_s_400, kc_s_512, kc_s_999, kc_s_1160, kc_s_1536, kc_s_3003, kc_lm11, kc_lm10, kc_lm9, kc_lm8, kc_lm7, kc_lm6, kc_lm5, kc_lm4, kc_lm3, kc_lm2, kc_lm1, kc_l1, kc_l2, kc_l3, kc_l4, kc_l5, kc_l6, kc_l7, kc_l8, kc_l9, kc_l10, kc_l11, kc_l12, kc_l13, kc_l14, kc_l37, kc_l42, kc_l43, kc_l45, kc_l47, kc_l60, kc_l61, kc_l62, kc_l316, kc_l318, kc_l65536, kc_l99999, kc_l1000000, kc_l252645135, kc_l858993459, kc_l1431655765, kc_0, kc_on, nx_lt, nx_le, nx_eq, nx_add, nx_sub, nx_mul, nx_cl, n_lt_ng, n_le_ng, n_eq_ng, ng_lt_n, ng_le_n, ng_eq_n, ng_eq, ng_lt, ng_le, nx_dec]
    refine sp_pos (by omega) (sp_some.mpr ⟨f1, fun u hu => ?_⟩)
    obtain ⟨e, a1, a2, a3⟩ := E1 u hu
    refine ⟨e, a1, a2, fun o => ?_⟩
    rw [a3 o]
    simp only [hu, if_true]
theorem m_gather (w : WFA A) (hal : al < 512) (hw : ∀ m, al.testBit m = true → WM A mw m = nI (wf m) ∧ wf m < 10) {h : pm_H} (R : RF h) (hA : h.2.1 203 = A) (hmw : h.2.1 206 = mw) : SP (m_gathersSays 193 (nI al) h) (fun h' => FrM MC (· = 23) h h' ∧ EXS h' (fun u o => ∃ T, sub T u ∧ mkA A wf al T o)) := by
  unfold m_gathersSays
  have k1 : SP (wh (fun z : (Int32 × pm_H) => m_gathersSays_2 193 (nI al) z.1 z.2) (nI 0, h)) (fun h' => FrM MC (· = 23) h h' ∧ EXS h' (fun _ _ => False)) := by
    refine wh_cnt (fun i z => z.1 = nI i ∧ FrM MC (· = 23) h z.2 ∧ ∀ u, u < i → z.2.2.1 207 u = nI 0) _ 512 ?_ ?_ 0 (nI 0, h) (by omega) ⟨rfl, FrM.refl _ _ _, fun u hu => by omega⟩
    · rintro i ⟨x, h1⟩ hi ⟨rfl, f1, c1⟩
      dsimp only at f1 c1
      have R1 := R.fm f1
      unfold m_gathersSays_2
      simp (disch := omega) only [kc_im8, kc_im1, kc_i0, kc_i1, kc_i2, kc_i3, kc_i4, kc_i5, kc_b_m100, kc_b_m16, kc_b_m15, kc_b_m14, kc_b_m13, kc_b_m12, kc_b_m11, kc_b_m2, kc_b_6, kc_b_7, kc_b_8, kc_b_9, kc_b_10, kc_b_11, kc_b_12, kc_b_13, kc_b_14, kc_b_15, kc_b_16, kc_b_20, kc_b_24, kc_b_32, kc_b_37, kc_b_40, kc_b_42, kc_b_43, kc_b_45, kc_b_47, kc_b_48, kc_b_57, kc_b_58, kc_b_59, kc_b_60, kc_b_61, kc_b_62, kc_b_63, kc_b_91, kc_b_93, kc_b_97, kc_b_99, kc_b_100, kc_b_106, kc_b_122, kc_s_206, kc_s_226, kc_s_227, kc_s_255, kc_s_256, kc_s_316, kc_s_318, kc_s_400, kc_s_512, kc_s_999, kc_s_1160, kc_s_1536, kc_s_3003, kc_lm11, kc_lm10, kc_lm9, kc_lm8, kc_lm7, kc_lm6, kc_lm5, kc_lm4, kc_lm3, kc_lm2, kc_lm1, kc_l1, kc_l2, kc_l3, kc_l4, kc_l5, kc_l6, kc_l7, kc_l8, kc_l9, kc_l10, kc_l11, kc_l12, kc_l13, kc_l14, kc_l37, kc_l42, kc_l43, kc_l45, kc_l47, kc_l60, kc_l61, kc_l62, kc_l316, kc_l318, kc_l65536, kc_l99999, kc_l1000000, kc_l252645135, kc_l858993459, kc_l1431655765, kc_0, kc_on, nx_lt, nx_le, nx_eq, nx_add, nx_sub, nx_mul, nx_cl, n_lt_ng, n_le_ng, n_eq_ng, ng_lt_n, ng_le_n, ng_eq_n, ng_eq, ng_lt, ng_le, nx_dec, Option.bind_some, ra_193_26 R1, mn_207, gi_n]
      refine sp_neg (by omega) (sp_pos (by simpa using hi) ?_)
      rw [sp_bd, sp_some]
      refine ⟨rfl, f1.setI (by omega) (.inr (.inr rfl)), fun u hu => ?_⟩
      show (pm_setI h1 207 i (nI 0)).2.1 207 u = nI 0
      by_cases e : u = i
      · subst e; exact ri_s _
      · rw [ri_j _ e]; exact c1 u (by omega)
    · rintro ⟨x, h1⟩ ⟨rfl, f1, c1⟩
      unfold m_gathersSays_2
      simp (disch := omega) only [kc_im8, kc_im1, kc_i0, kc_i1, kc_i2, kc_i3, kc_i4, kc_i5, kc_b_m100, kc_b_m16, kc_b_m15, kc_b_m14, kc_b_m13, kc_b_m12, kc_b_m11, kc_b_m2, kc_b_6, kc_b_7, kc_b_8, kc_b_9, kc_b_10, kc_b_11, kc_b_12, kc_b_13, kc_b_14, kc_b_15, kc_b_16, kc_b_20, kc_b_24, kc_b_32, kc_b_37, kc_b_40, kc_b_42, kc_b_43, kc_b_45, kc_b_47, kc_b_48, kc_b_57, kc_b_58, kc_b_59, kc_b_60, kc_b_61, kc_b_62, kc_b_63, kc_b_91, kc_b_93, kc_b_97, kc_b_99, kc_b_100, kc_b_106, kc_b_122, kc_s_206, kc_s_226, kc_s_227, kc_s_255, kc_s_256, kc_s_316, kc_s_318, kc_s_400, kc_s_512, kc_s_999, kc_s_1160, kc_s_1536, kc_s_3003, kc_lm11, kc_lm10, kc_lm9, kc_lm8, kc_lm7, kc_lm6, kc_lm5, kc_lm4, kc_lm3, kc_lm2, kc_lm1, kc_l1, kc_l2, kc_l3, kc_l4, kc_l5, kc_l6, kc_l7, kc_l8, kc_l9, kc_l10, kc_l11, kc_l12, kc_l13, kc_l14, kc_l37, kc_l42, kc_l43, kc_l45, kc_l47, kc_l60, kc_l61, kc_l62, kc_l316, kc_l318, kc_l65536, kc_l99999, kc_l1000000, kc_l252645135, kc_l858993459, kc_l1431655765, kc_0, kc_on, nx_lt, nx_le, nx_eq, nx_add, nx_sub, nx_mul, nx_cl, n_lt_ng, n_le_ng, n_eq_ng, ng_lt_n, ng_le_n, ng_eq_n, ng_eq, ng_lt, ng_le, nx_dec]
      exact sp_pos (by omega) (sp_some.mpr ⟨f1, fun u hu => ⟨0, c1 u hu, by omega, fun o => by simp⟩⟩)
  refine sp_call k1 ?_
  rintro h1 ⟨f1, E1⟩
  have R1 := R.fm f1
  have k2 : SP (wh (fun z : (Int32 × pm_H) => m_gathersSays_24 193 (nI al) z.1 z.2) (nI 1, h1)) (fun h' => FrM MC (· = 23) h h' ∧ EXS h' (fun u o => ∃ q : List Nat, (1 ≤ q.length ∧ q.length < 6) ∧ q.Nodup ∧ (∀ m ∈ q, al.testBit m = true) ∧ setOf q = u ∧ syA A (q.map wf) = some o)) := by
    refine wh_cnt (fun i z => z.1 = nI i ∧ 1 ≤ i ∧ FrM MC (· = 23) h z.2 ∧ EXS z.2 (fun u o => ∃ q : List Nat, (1 ≤ q.length ∧ q.length < i) ∧ q.Nodup ∧ (∀ m ∈ q, al.testBit m = true) ∧ setOf q = u ∧ syA A (q.map wf) = some o)) _ 6 ?_ ?_ 1 (nI 1, h1) (by omega) ⟨rfl, by omega, f1, E1.iff (fun u o => ⟨fun q => q.elim, fun ⟨q, hq, _⟩ => by omega⟩)⟩
    · rintro i ⟨x, h2⟩ hi ⟨rfl, hi1, f2, E2⟩
      dsimp only at f2 E2
      unfold m_gathersSays_24
      simp (disch := omega) only [kc_im8, kc_im1, kc_i0, kc_i1, kc_i2, kc_i3, kc_i4, kc_i5, kc_b_m100, kc_b_m16, kc_b_m15, kc_b_m14, kc_b_m13, kc_b_m12, kc_b_m11, kc_b_m2, kc_b_6, kc_b_7, kc_b_8, kc_b_9, kc_b_10, kc_b_11, kc_b_12, kc_b_13, kc_b_14, kc_b_15, kc_b_16, kc_b_20, kc_b_24, kc_b_32, kc_b_37, kc_b_40, kc_b_42, kc_b_43, kc_b_45, kc_b_47, kc_b_48, kc_b_57, kc_b_58, kc_b_59, kc_b_60, kc_b_61, kc_b_62, kc_b_63, kc_b_91, kc_b_93, kc_b_97, kc_b_99, kc_b_100, kc_b_106, kc_b_122, kc_s_206, kc_s_226, kc_s_227, kc_s_255, kc_s_256, kc_s_316, kc_s_318, kc_s_400, kc_s_512, kc_s_999, kc_s_1160, kc_s_1536, kc_s_3003, kc_lm11, kc_lm10, kc_lm9, kc_lm8, kc_lm7, kc_lm6, kc_lm5, kc_lm4, kc_lm3, kc_lm2, kc_lm1, kc_l1, kc_l2, kc_l3, kc_l4, kc_l5, kc_l6, kc_l7, kc_l8, kc_l9, kc_l10, kc_l11, kc_l12, kc_l13, kc_l14, kc_l37, kc_l42, kc_l43, kc_l45, kc_l47, kc_l60, kc_l61, kc_l62, kc_l316, kc_l318, kc_l65536, kc_l99999, kc_l1000000, kc_l252645135, kc_l858993459, kc_l1431655765, kc_0, kc_on, nx_lt, nx_le, nx_eq, nx_add, nx_sub, nx_mul, nx_cl, n_lt_ng, n_le_ng, n_eq_ng, ng_lt_n, ng_le_n, ng_eq_n, ng_eq, ng_lt, ng_le, nx_dec]
      refine sp_neg (by omega) ?_
      refine sp_call (mk_all w hal hi1 (by omega) hw (R.fm f2) (by rw [f2.i (by omega) (by unfold MC; omega)]; exact hA) (by rw [f2.i (by omega) (by unfold MC; omega)]; exact hmw) E2) ?_
      rintro h3 ⟨f3, E3⟩
      refine sp_some.mpr ⟨rfl, by omega, f2.trans f3, E3.iff (fun u o => ?_)⟩
      constructor
      · rintro (⟨q, q1, q2⟩ | ⟨q, q1, q2⟩)
        · exact ⟨q, ⟨q1.1, by omega⟩, q2⟩
        · exact ⟨q, ⟨by omega, by omega⟩, q2⟩
      · rintro ⟨q, q1, q2⟩
        by_cases e : q.length = i
        · exact .inr ⟨q, e, q2⟩
        · exact .inl ⟨q, ⟨q1.1, by omega⟩, q2⟩
    · rintro ⟨x, h2⟩ ⟨rfl, hi1, f2, E2⟩
      unfold m_gathersSays_24
      simp (disch := omega) only [kc_im8, kc_im1, kc_i0, kc_i1, kc_i2, kc_i3, kc_i4, kc_i5, kc_b_m100, kc_b_m16, kc_b_m15, kc_b_m14, kc_b_m13, kc_b_m12, kc_b_m11, kc_b_m2, kc_b_6, kc_b_7, kc_b_8, kc_b_9, kc_b_10, kc_b_11, kc_b_12, kc_b_13, kc_b_14, kc_b_15, kc_b_16, kc_b_20, kc_b_24, kc_b_32, kc_b_37, kc_b_40, kc_b_42, kc_b_43, kc_b_45, kc_b_47, kc_b_48, kc_b_57, kc_b_58, kc_b_59, kc_b_60, kc_b_61, kc_b_62, kc_b_63, kc_b_91, kc_b_93, kc_b_97, kc_b_99, kc_b_100, kc_b_106, kc_b_122, kc_s_206, kc_s_226, kc_s_227, kc_s_255, kc_s_256, kc_s_316, kc_s_318, kc_s_400, kc_s_512, kc_s_999, kc_s_1160, kc_s_1536, kc_s_3003, kc_lm11, kc_lm10, kc_lm9, kc_lm8, kc_lm7, kc_lm6, kc_lm5, kc_lm4, kc_lm3, kc_lm2, kc_lm1, kc_l1, kc_l2, kc_l3, kc_l4, kc_l5, kc_l6, kc_l7, kc_l8, kc_l9, kc_l10, kc_l11, kc_l12, kc_l13, kc_l14, kc_l37, kc_l42, kc_l43, kc_l45, kc_l47, kc_l60, kc_l61, kc_l62, kc_l316, kc_l318, kc_l65536, kc_l99999, kc_l1000000, kc_l252645135, kc_l858993459, kc_l1431655765, kc_0, kc_on, nx_lt, nx_le, nx_eq, nx_add, nx_sub, nx_mul, nx_cl, n_lt_ng, n_le_ng, n_eq_ng, ng_lt_n, ng_le_n, ng_eq_n, ng_eq, ng_lt, ng_le, nx_dec]
      exact sp_pos (by omega) (sp_some.mpr ⟨f2, E2⟩)
  refine sp_call k2 ?_
  rintro h2 ⟨f2, E2⟩
  have E2' : EXS h2 (mkA A wf al) := E2.iff (fun u o => by
    constructor
    · rintro ⟨q, q1, q2⟩; exact ⟨q, by omega, q2⟩
    · rintro ⟨q, q1, q2, q3, q4, q5⟩
      refine ⟨q, ⟨?_, by omega⟩, q2, q3, q4, q5⟩
      cases q with
      | nil => rw [List.map_nil, syA_nil w] at q5; cases q5
      | cons _ _ => simp)
  refine sp_call (g_close (R.fm f2) E2') ?_
  rintro h3 ⟨f3, E3⟩
  exact sp_some.mpr ⟨f2.trans (f3.mono (fun c hc => .inr (.inr hc)) (fun _ q => q.elim)), E3⟩
theorem mkA_can {u o : Nat} (hu : sub u al) : (∃ T, sub T u ∧ mkA A wf al T o) ↔ can (syA A) wf u o := by
  constructor
  · rintro ⟨T, h1, q, q1, q2, q3, q4, q5⟩
    exact ⟨T, h1, q, q2, q1, q4, q5⟩
  · rintro ⟨T, h1, q, q2, q1, q4, q5⟩
    refine ⟨T, h1, q, q1, q2, fun m hm => hu m (h1 m ?_), q4, q5⟩
    rw [← q4]
    exact mem_setOf.mp hm
end GA
