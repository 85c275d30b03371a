/-! The reference: its frame; what a row of men says. -/
def FrM (C F : Nat → Prop) (h h' : pm_H) : Prop := h'.1 = h.1 ∧ h'.2.2.2 = h.2.2.2 ∧ h'.2.2.1 = h.2.2.1 ∧ (∀ c, c ≠ 193 → ¬ C c → h'.2.1 c = h.2.1 c) ∧ ∀ j, ¬ F j → h'.2.1 193 j = h.2.1 193 j
theorem FrM.refl (C F : Nat → Prop) (h : pm_H) : FrM C F h h := ⟨rfl, rfl, rfl, fun _ _ _ => rfl, fun _ _ => rfl⟩
theorem FrM.trans {C F : Nat → Prop} {h h1 h2 : pm_H} (a : FrM C F h h1) (b : FrM C F h1 h2) : FrM C F h h2 := ⟨b.1.trans a.1, b.2.1.trans a.2.1, b.2.2.1.trans a.2.2.1, fun c h1 h2 => (b.2.2.2.1 c h1 h2).trans (a.2.2.2.1 c h1 h2), fun j hj => (b.2.2.2.2 j hj).trans (a.2.2.2.2 j hj)⟩
theorem FrM.mono {C F C' F' : Nat → Prop} {h h1 : pm_H} (a : FrM C F h h1) (hC : ∀ c, C c → C' c) (hF : ∀ j, F j → F' j) : FrM C' F' h h1 := ⟨a.1, a.2.1, a.2.2.1, fun c h1 h2 => a.2.2.2.1 c h1 (fun q => h2 (hC c q)), fun j hj => a.2.2.2.2 j (fun q => hj (hF j q))⟩
theorem FrM.setI {C F : Nat → Prop} {h h1 : pm_H} {a k : Nat} {v : Int32} (f : FrM C F h h1) (ha : a ≠ 193) (hc : C a) : FrM C F h (pm_setI h1 a k v) :=
  ⟨f.1, f.2.1, f.2.2.1, fun c h1 h2 => by rw [← f.2.2.2.1 c h1 h2]; funext j; exact ri_c v (fun q => h2 (q ▸ hc)), fun j hj => by rw [← f.2.2.2.2 j hj]; exact ri_c v (fun q => ha q.symm)⟩
theorem FrM.setF {C F : Nat → Prop} {h h1 : pm_H} {k : Nat} {v : Int32} (f : FrM C F h h1) (hk : F k) : FrM C F h (pm_setI h1 193 k v) :=
  ⟨f.1, f.2.1, f.2.2.1, fun c h1 h2 => by rw [← f.2.2.2.1 c h1 h2]; funext j; exact ri_c v h1, fun j hj => by rw [← f.2.2.2.2 j hj]; exact ri_j v (fun q => hj (q ▸ hk))⟩
theorem FrM.i {C F : Nat → Prop} {h h1 : pm_H} (f : FrM C F h h1) {c : Nat} (h0 : c ≠ 193) (hc : ¬ C c) : h1.2.1 c = h.2.1 c := f.2.2.2.1 c h0 hc
theorem FrM.f {C F : Nat → Prop} {h h1 : pm_H} (f : FrM C F h h1) {j : Nat} (hj : ¬ F j) : h1.2.1 193 j = h.2.1 193 j := f.2.2.2.2 j hj
theorem RF.fm {C F : Nat → Prop} {h h' : pm_H} (R : RF h) (f : FrM C F h h') : RF h' := fun q hq => by rw [f.2.1]; exact R q hq
section MS
variable {h : pm_H} {A : Nat → Int32}
theorem m_manOf_n (R : RF h) (hA : h.2.1 203 = A) {m k : Nat} (hm : 10 + 6 * m + k < 227) : m_manOf 193 (nI m) (nI k) h = some (A (10 + 6 * m + k)) := by
  unfold m_manOf
  simp (disch := omega) only [kc_im8, kc_im1, kc_i0, kc_i1, kc_i2, kc_i3, kc_i4, kc_i5, kc_b_m100, kc_b_m16, kc_b_m15, kc_b_m14, kc_b_m13, kc_b_m12, kc_b_m11, kc_b_m2, kc_b_6, kc_b_7, kc_b_8, kc_b_9, kc_b_10, kc_b_11, kc_b_12, kc_b_13, kc_b_14, kc_b_15, kc_b_16, kc_b_20, kc_b_24, kc_b_32, kc_b_37, kc_b_40, kc_b_42, kc_b_43, kc_b_45, kc_b_47, kc_b_48, kc_b_57, kc_b_58, kc_b_59, kc_b_60, kc_b_61, kc_b_62, kc_b_63, kc_b_91, kc_b_93, kc_b_97, kc_b_99, kc_b_100, kc_b_106, kc_b_122, kc_s_206, kc_s_226, kc_s_227, kc_s_255, kc_s_256, kc_s_316, kc_s_318, kc_s_400, kc_s_512, kc_s_999, kc_s_1160, kc_s_1536, kc_s_3003, kc_lm11, kc_lm10, kc_lm9, kc_lm8, kc_lm7, kc_lm6, kc_lm5, kc_lm4, kc_lm3, kc_lm2, kc_lm1, kc_l1, kc_l2, kc_l3, kc_l4, kc_l5, kc_l6, kc_l7, kc_l8, kc_l9, kc_l10, kc_l11, kc_l12, kc_l13, kc_l14, kc_l37, kc_l42, kc_l43, kc_l45, kc_l47, kc_l60, kc_l61, kc_l62, kc_l316, kc_l318, kc_l65536, kc_l99999, kc_l1000000, kc_l252645135, kc_l858993459, kc_l1431655765, kc_0, kc_on, ra_193_20 R, Option.bind_some, mn_203, nx_lt, nx_le, nx_eq, nx_add, nx_sub, nx_mul, nx_cl, n_lt_ng, n_le_ng, n_eq_ng, ng_lt_n, ng_le_n, ng_eq_n, ng_eq, ng_lt, ng_le, nx_dec, gi_n, hA]
  rw [if_pos (by simpa using hm)]
theorem m_orderOf_n (R : RF h) (hA : h.2.1 203 = A) {m k : Nat} (hm : 58 + 6 * m + k < 227) : m_orderOf 193 (nI m) (nI k) h = some (A (58 + 6 * m + k)) := by
  unfold m_orderOf
  simp (disch := omega) only [kc_im8, kc_im1, kc_i0, kc_i1, kc_i2, kc_i3, kc_i4, kc_i5, kc_b_m100, kc_b_m16, kc_b_m15, kc_b_m14, kc_b_m13, kc_b_m12, kc_b_m11, kc_b_m2, kc_b_6, kc_b_7, kc_b_8, kc_b_9, kc_b_10, kc_b_11, kc_b_12, kc_b_13, kc_b_14, kc_b_15, kc_b_16, kc_b_20, kc_b_24, kc_b_32, kc_b_37, kc_b_40, kc_b_42, kc_b_43, kc_b_45, kc_b_47, kc_b_48, kc_b_57, kc_b_58, kc_b_59, kc_b_60, kc_b_61, kc_b_62, kc_b_63, kc_b_91, kc_b_93, kc_b_97, kc_b_99, kc_b_100, kc_b_106, kc_b_122, kc_s_206, kc_s_226, kc_s_227, kc_s_255, kc_s_256, kc_s_316, kc_s_318, kc_s_400, kc_s_512, kc_s_999, kc_s_1160, kc_s_1536, kc_s_3003, kc_lm11, kc_lm10, kc_lm9, kc_lm8, kc_lm7, kc_lm6, kc_lm5, kc_lm4, kc_lm3, kc_lm2, kc_lm1, kc_l1, kc_l2, kc_l3, kc_l4, kc_l5, kc_l6, kc_l7, kc_l8, kc_l9, kc_l10, kc_l11, kc_l12, kc_l13, kc_l14, kc_l37, kc_l42, kc_l43, kc_l45, kc_l47, kc_l60, kc_l61, kc_l62, kc_l316, kc_l318, kc_l65536, kc_l99999, kc_l1000000, kc_l252645135, kc_l858993459, kc_l1431655765, kc_0, kc_on, ra_193_20 R, Option.bind_some, mn_203, nx_lt, nx_le, nx_eq, nx_add, nx_sub, nx_mul, nx_cl, n_lt_ng, n_le_ng, n_eq_ng, ng_lt_n, ng_le_n, ng_eq_n, ng_eq, ng_lt, ng_le, nx_dec, gi_n, hA]
  rw [if_pos (by simpa using hm)]
/-- a row of numbers in a cell -/
def ROW (h : pm_H) (c : Nat) (g : Nat → Nat) (n : Nat) : Prop := ∀ i, i < n → h.2.1 c i = nI (g i) ∧ g i < 10
theorem m_shift (R : RF h) {n a : Nat} {g : Nat → Nat} (h23 : h.2.1 193 23 = nI n) (hn : n ≤ 5) (ha : a + 1 < n) (hg : ∀ i, i < n → h.2.1 204 i = nI (g i)) : SP (wh (fun q : (Int32 × pm_H) => m_becomesMeaning_60 193 q.1 q.2) (nI (a + 1), h)) (fun h' => FrM (· = 204) (fun _ => False) h h' ∧ ∀ j, j < n - 1 → h'.2.1 204 j = if j ≤ a then nI (g j) else nI (g (j + 1))) := by
  refine wh_cnt (fun i q => a < i ∧ q.1 = nI i ∧ FrM (· = 204) (fun _ => False) h q.2 ∧ ∀ j, j < n → q.2.2.1 204 j = if a < j ∧ j < i then nI (g (j + 1)) else nI (g j)) _ (n - 1) ?_ ?_ (a + 1) (nI (a + 1), h) (by omega) ⟨by omega, rfl, FrM.refl _ _ _, fun j hj => ?_⟩
  · rintro i ⟨q1, q2⟩ hi ⟨hai, rfl, hf, hc⟩
    dsimp only at hf hc
    have R2 := R.fm hf
    have e23 : q2.2.1 193 23 = nI n := by rw [hf.f (fun q => q)]; exact h23
    unfold m_becomesMeaning_60
    simp (disch := omega) only [kc_im8, kc_im1, kc_i0, kc_i1, kc_i2, kc_i3, kc_i4, kc_i5, kc_b_m100, kc_b_m16, kc_b_m15, kc_b_m14, kc_b_m13, kc_b_m12, kc_b_m11, kc_b_m2, kc_b_6, kc_b_7, kc_b_8, kc_b_9, kc_b_10, kc_b_11, kc_b_12, kc_b_13, kc_b_14, kc_b_15, kc_b_16, kc_b_20, kc_b_24, kc_b_32, kc_b_37, kc_b_40, kc_b_42, kc_b_43, kc_b_45, kc_b_47, kc_b_48, kc_b_57, kc_b_58, kc_b_59, kc_b_60, kc_b_61, kc_b_62, kc_b_63, kc_b_91, kc_b_93, kc_b_97, kc_b_99, kc_b_100, kc_b_106, kc_b_122, kc_s_206, kc_s_226, kc_s_227, kc_s_255, kc_s_256, kc_s_316, kc_s_318, kc_s_400, kc_s_512, kc_s_999, kc_s_1160, kc_s_1536, kc_s_3003, kc_lm11, kc_lm10, kc_lm9, kc_lm8, kc_lm7, kc_lm6, kc_lm5, kc_lm4, kc_lm3, kc_lm2, kc_lm1, kc_l1, kc_l2, kc_l3, kc_l4, kc_l5, kc_l6, kc_l7, kc_l8, kc_l9, kc_l10, kc_l11, kc_l12, kc_l13, kc_l14, kc_l37, kc_l42, kc_l43, kc_l45, kc_l47, kc_l60, kc_l61, kc_l62, kc_l316, kc_l318, kc_l65536, kc_l99999, kc_l1000000, kc_l252645135, kc_l858993459, kc_l1431655765, kc_0, kc_on, e23, ra_193_22 R2, Option.bind_some, mn_204, nx_lt, nx_le, nx_eq, nx_add, nx_sub, nx_mul, nx_cl, n_lt_ng, n_le_ng, n_eq_ng, ng_lt_n, ng_le_n, ng_eq_n, ng_eq, ng_lt, ng_le, nx_dec, gi_n]
    refine sp_neg (by omega) (sp_pos (by simp; omega) (sp_pos (by simp; omega) ?_))
    rw [sp_bd, sp_some]
    refine ⟨by omega, rfl, hf.setI (by omega) rfl, fun j hj => ?_⟩
    have h1 := hc (i + 1) (by omega)
    rw [if_neg (by omega)] at h1
    show (pm_setI q2 204 i (q2.2.1 204 (i + 1))).2.1 204 j = _
    rw [h1]
    by_cases hji : j = i
    · subst hji
      rw [ri_s, if_pos (by omega)]
    · rw [ri_j _ hji, hc j hj]
      by_cases hx : a < j ∧ j < i
      · rw [if_pos hx, if_pos (by omega)]
      · rw [if_neg hx, if_neg (by omega)]
  · rintro ⟨q1, q2⟩ ⟨_, rfl, hf, hc⟩
    dsimp only at hf hc
    have e23 : q2.2.1 193 23 = nI n := by rw [hf.f (fun q => q)]; exact h23
    unfold m_becomesMeaning_60
    simp (disch := omega) only [kc_im8, kc_im1, kc_i0, kc_i1, kc_i2, kc_i3, kc_i4, kc_i5, kc_b_m100, kc_b_m16, kc_b_m15, kc_b_m14, kc_b_m13, kc_b_m12, kc_b_m11, kc_b_m2, kc_b_6, kc_b_7, kc_b_8, kc_b_9, kc_b_10, kc_b_11, kc_b_12, kc_b_13, kc_b_14, kc_b_15, kc_b_16, kc_b_20, kc_b_24, kc_b_32, kc_b_37, kc_b_40, kc_b_42, kc_b_43, kc_b_45, kc_b_47, kc_b_48, kc_b_57, kc_b_58, kc_b_59, kc_b_60, kc_b_61, kc_b_62, kc_b_63, kc_b_91, kc_b_93, kc_b_97, kc_b_99, kc_b_100, kc_b_106, kc_b_122, kc_s_206, kc_s_226, kc_s_227, kc_s_255, kc_s_256, kc_s_316, kc_s_318, kc_s_400, kc_s_512, kc_s_999, kc_s_1160, kc_s_1536, kc_s_3003, kc_lm11, kc_lm10, kc_lm9, kc_lm8, kc_lm7, kc_lm6, kc_lm5, kc_lm4, kc_lm3, kc_lm2, kc_lm1, kc_l1, kc_l2, kc_l3, kc_l4, kc_l5, kc_l6, kc_l7, kc_l8, kc_l9, kc_l10, kc_l11, kc_l12, kc_l13, kc_l14, kc_l37, kc_l42, kc_l43, kc_l45, kc_l47, kc_l60, kc_l61, kc_l62, kc_l316, kc_l318, kc_l65536, kc_l99999, kc_l1000000, kc_l252645135, kc_l858993459, kc_l1431655765, kc_0, kc_on, e23, nx_lt, nx_le, nx_eq, nx_add, nx_sub, nx_mul, nx_cl, n_lt_ng, n_le_ng, n_eq_ng, ng_lt_n, ng_le_n, ng_eq_n, ng_eq, ng_lt, ng_le, nx_dec]
    refine sp_pos (by omega) (sp_some.mpr ⟨hf, fun j hj => ?_⟩)
    rw [hc j (by omega)]
    by_cases hx : j ≤ a
    · rw [if_pos hx, if_neg (by omega)]
    · rw [if_neg hx, if_pos (by omega)]
  · rw [if_neg (by omega)]
    exact hg j hj
theorem m_mean (w : WFA A) (R : RF h) (hA : h.2.1 203 = A) {n : Nat} {g : Nat → Nat} (h23 : h.2.1 193 23 = nI n) (hn : n ≤ 5) (hg : ROW h 204 g n) : SP (m_becomesMeaning 193 h) (fun h' => FrM (· = 204) (· = 23) h h' ∧ ∃ k g', h'.2.1 193 23 = nI k ∧ k ≤ n ∧ ROW h' 204 g' k ∧ tl g' k = meaning (mnA A) (tl g n)) := by
  have h0 := w.e0
  unfold m_becomesMeaning
  refine sp_call (P := fun h' => FrM (· = 204) (· = 23) h h' ∧ ∃ k g', h'.2.1 193 23 = nI k ∧ k ≤ n ∧ ROW h' 204 g' k ∧ tl g' k = meaning (mnA A) (tl g n)) ?_ (fun q hq => sp_some.mpr hq)
  refine wh_sp (fun st : Int32 × pm_H => ∃ i k g', st.1 = nI i ∧ i ≤ 5 ∧ FrM (· = 204) (· = 23) h st.2 ∧ st.2.2.1 193 23 = nI k ∧ k ≤ n ∧ ROW st.2 204 g' k ∧ (∀ j, j < i → j + 1 < k → mnA A (g' j) (g' (j + 1)) = none) ∧ meaning (mnA A) (tl g' k) = meaning (mnA A) (tl g n)) (fun st => (st.2.2.1 193 23).toNatClampNeg * 10 + (10 - st.1.toNatClampNeg)) _ ?_ ⟨0, n, g, rfl, by omega, FrM.refl _ _ _, h23, Nat.le_refl _, hg, fun j hj => by omega, rfl⟩
  rintro ⟨x, h1⟩ ⟨i, k, g', rfl, hi5, f1, e23, hk, hg', hp, hm⟩
  dsimp only at f1 e23 hg'
  have R1 := R.fm f1
  have hA1 : h1.2.1 203 = A := by rw [f1.i (by omega) (by omega)]; exact hA
  unfold m_becomesMeaning_2
  simp (disch := omega) only [kc_im8, kc_im1, kc_i0, kc_i1, kc_i2, kc_i3, kc_i4, kc_i5, kc_b_m100, kc_b_m16, kc_b_m15, kc_b_m14, kc_b_m13, kc_b_m12, kc_b_m11, kc_b_m2, kc_b_6, kc_b_7, kc_b_8, kc_b_9, kc_b_10, kc_b_11, kc_b_12, kc_b_13, kc_b_14, kc_b_15, kc_b_16, kc_b_20, kc_b_24, kc_b_32, kc_b_37, kc_b_40, kc_b_42, kc_b_43, kc_b_45, kc_b_47, kc_b_48, kc_b_57, kc_b_58, kc_b_59, kc_b_60, kc_b_61, kc_b_62, kc_b_63, kc_b_91, kc_b_93, kc_b_97, kc_b_99, kc_b_100, kc_b_106, kc_b_122, kc_s_206, kc_s_226, kc_s_227, kc_s_255, kc_s_256, kc_s_316, kc_s_318, kc_s_400, kc_s_512, kc_s_999, kc_s_1160, kc_s_1536, kc_s_3003, kc_lm11, kc_lm10, kc_lm9, kc_lm8, kc_lm7, kc_lm6, kc_lm5, kc_lm4, kc_lm3, kc_lm2, kc_lm1, kc_l1, kc_l2, kc_l3, kc_l4, kc_l5, kc_l6, kc_l7, kc_l8, kc_l9, kc_l10, kc_l11, kc_l12, kc_l13, kc_l14, kc_l37, kc_l42, kc_l43, kc_l45, kc_l47, kc_l60, kc_l61, kc_l62, kc_l316, kc_l318, kc_l65536, kc_l99999, kc_l1000000, kc_l252645135, kc_l858993459, kc_l1431655765, kc_0, kc_on, e23, nx_lt, nx_le, nx_eq, nx_add, nx_sub, nx_mul, nx_cl, n_lt_ng, n_le_ng, n_eq_ng, ng_lt_n, ng_le_n, ng_eq_n, ng_eq, ng_lt, ng_le, nx_dec, ra_193_20 R1, ra_193_22 R1, Option.bind_some, mn_203, mn_204, gi_n]
  by_cases hik : k ≤ i + 1
  · refine sp_pos hik (sp_some.mpr ⟨f1, k, g', e23, hk, hg', ?_⟩)
    rw [← hm]
    exact (mean_fix _ (mstep_none _ _ _ (fun j hj => hp j (by omega) hj))).symm
  · refine sp_neg hik (sp_pos (by simp; omega) (sp_pos (by simp; omega) ?_))
    have ga := hg' i (by omega)
    have gb := hg' (i + 1) (by omega)
    rw [ga.1, gb.1]
    simp (disch := omega) only [nx_lt, nx_le, nx_eq, nx_add, nx_sub, nx_mul, nx_cl, n_lt_ng, n_le_ng, n_eq_ng, ng_lt_n, ng_le_n, ng_eq_n, ng_eq, ng_lt, ng_le, nx_dec, gi_n, hA1]
    refine sp_pos (by simp; omega) ?_
    rcases w.mn ga.2 gb.2 with ⟨q1, q2⟩ | ⟨c, q1, q3, _, _, q2⟩
    · rw [q1]
      refine sp_neg (by rw [n_le_ng (by omega) (by omega) (by omega)]; exact id) (sp_some.mpr ⟨⟨i + 1, k, g', rfl, by omega, f1, e23, hk, hg', fun j hj1 hj2 => ?_, hm⟩, ?_⟩)
      · by_cases e : j = i
        · subst e; exact q2
        · exact hp j (by omega) hj2
      · show (h1.2.1 193 23).toNatClampNeg * 10 + (10 - (nI (i + 1)).toNatClampNeg) < k * 10 + (10 - i)
        rw [e23, nx_cl (by omega), nx_cl (by omega)]
        omega
    · rw [q1]
      refine sp_pos (by rw [nx_le (by omega) (by omega)]; omega) (sp_pos (by simp; omega) ?_)
      rw [sp_bd]
      have e23' : (pm_setI h1 204 i (nI c)).2.1 193 23 = nI k := by rw [ri_c _ (by omega)]; exact e23
      refine sp_call (m_shift (h := pm_setI h1 204 i (nI c)) R1.setI (n := k) (a := i) (g := fun j => if j = i then c else g' j) e23' (by omega) (by omega) (fun j hj => ?_)) ?_
      · by_cases hji : j = i
        · subst hji; rw [ri_s, if_pos rfl]
        · rw [ri_j _ hji, if_neg hji]; exact (hg' j hj).1
      · rintro h2 ⟨f2, c2⟩
        have e23'' : h2.2.1 193 23 = nI k := by rw [f2.f (fun q => q)]; exact e23'
        rw [sp_bd, e23'', nx_sub (by omega), sp_some]
        have f12 : FrM (· = 204) (· = 23) h h2 := (f1.setI (by omega) rfl).trans (f2.mono (fun _ q => q) (fun _ q => q.elim))
        refine ⟨⟨0, k - 1, fun j => if j < i then g' j else if j = i then c else g' (j + 1), rfl, by omega, f12.setF rfl, ri_s _, by omega, fun j hj => ?_, fun j hj => by omega, ?_⟩, ?_⟩
        · show (pm_setI h2 193 23 (nI (k - 1))).2.1 204 j = _ ∧ _
          rw [ri_c _ (by omega), c2 j hj]
          by_cases e1 : j < i
          · have e2 : j ≤ i := by omega
            have e3 : ¬ j = i := by omega
            simp only [e1, e2, e3, if_true, if_false]; exact ⟨trivial, (hg' j (by omega)).2⟩
          · by_cases e2 : j = i
            · simp only [e2, Nat.lt_irrefl, Nat.le_refl, if_true, if_false]; exact ⟨trivial, by omega⟩
            · have e3 : ¬ j ≤ i := by omega
              have e4 : ¬ j + 1 = i := by omega
              simp only [e1, e2, e3, e4, if_false]; exact ⟨trivial, (hg' (j + 1) (by omega)).2⟩
        · rw [← hm]
          exact (mean_step _ (mstep_some _ i k g' c (by omega) (fun j hj => hp j hj (by omega)) q2)).symm
        · show ((pm_setI h2 193 23 (nI (k - 1))).2.1 193 23).toNatClampNeg * 10 + (10 - (nI 0).toNatClampNeg) < k * 10 + (10 - i)
          rw [ri_s, nx_cl (by omega), nx_cl (by omega)]
          omega
theorem m_ordHeard (w : WFA A) (R : RF h) (hA : h.2.1 203 = A) {n : Nat} {g : Nat → Nat} (h23 : h.2.1 193 23 = nI n) (hn : n ≤ 5) (hg : ROW h 204 g n) : m_orderHeard 193 h = some (match ordOf A (tl g n) with | some o => nI o | none => ng 1) := by
  have h2 := w.e2
  have h0 := w.e0
  unfold m_orderHeard
  have key := wh_find (f := fun q : Int32 => m_orderHeard_2 193 q h) (fun i => nI i) (fun i => (Sum.inl (nI i) : Int32 ⊕ Unit)) (.inr ()) (fun o => rowL A o == tl g n) (an A 2) (fun o ho => ?_) ?_
  · simp only [kc_im8, kc_im1, kc_i0, kc_i1, kc_i2, kc_i3, kc_i4, kc_i5, kc_b_m100, kc_b_m16, kc_b_m15, kc_b_m14, kc_b_m13, kc_b_m12, kc_b_m11, kc_b_m2, kc_b_6, kc_b_7, kc_b_8, kc_b_9, kc_b_10, kc_b_11, kc_b_12, kc_b_13, kc_b_14, kc_b_15, kc_b_16, kc_b_20, kc_b_24, kc_b_32, kc_b_37, kc_b_40, kc_b_42, kc_b_43, kc_b_45, kc_b_47, kc_b_48, kc_b_57, kc_b_58, kc_b_59, kc_b_60, kc_b_61, kc_b_62, kc_b_63, kc_b_91, kc_b_93, kc_b_97, kc_b_99, kc_b_100, kc_b_106, kc_b_122, kc_s_206, kc_s_226, kc_s_227, kc_s_255, kc_s_256, kc_s_316, kc_s_318, kc_s_400, kc_s_512, kc_s_999, kc_s_1160, kc_s_1536, kc_s_3003, kc_lm11, kc_lm10, kc_lm9, kc_lm8, kc_lm7, kc_lm6, kc_lm5, kc_lm4, kc_lm3, kc_lm2, kc_lm1, kc_l1, kc_l2, kc_l3, kc_l4, kc_l5, kc_l6, kc_l7, kc_l8, kc_l9, kc_l10, kc_l11, kc_l12, kc_l13, kc_l14, kc_l37, kc_l42, kc_l43, kc_l45, kc_l47, kc_l60, kc_l61, kc_l62, kc_l316, kc_l318, kc_l65536, kc_l99999, kc_l1000000, kc_l252645135, kc_l858993459, kc_l1431655765, kc_0, kc_on, key, Option.bind_some]
    unfold ordOf
    cases (List.range (an A 2)).find? (fun o => rowL A o == tl g n) <;> rfl
  · have lo := w.o1 ho
    have e74 : ∀ z : Bool, m_orderHeard_74 193 (nI o) (nI z.toNat) h = if z = true then some (.inr (.inl (nI o))) else some (.inl (nI (o + 1))) := by
      intro z
      unfold m_orderHeard_74
      cases z <;> simp (disch := omega) [kc_im8, kc_im1, kc_i0, kc_i1, kc_i2, kc_i3, kc_i4, kc_i5, kc_b_m100, kc_b_m16, kc_b_m15, kc_b_m14, kc_b_m13, kc_b_m12, kc_b_m11, kc_b_m2, kc_b_6, kc_b_7, kc_b_8, kc_b_9, kc_b_10, kc_b_11, kc_b_12, kc_b_13, kc_b_14, kc_b_15, kc_b_16, kc_b_20, kc_b_24, kc_b_32, kc_b_37, kc_b_40, kc_b_42, kc_b_43, kc_b_45, kc_b_47, kc_b_48, kc_b_57, kc_b_58, kc_b_59, kc_b_60, kc_b_61, kc_b_62, kc_b_63, kc_b_91, kc_b_93, kc_b_97, kc_b_99, kc_b_100, kc_b_106, kc_b_122, kc_s_206, kc_s_226, kc_s_227, kc_s_255, kc_s_256, kc_s_316, kc_s_318, kc_s_400, kc_s_512, kc_s_999, kc_s_1160, kc_s_1536, kc_s_3003, kc_lm11, kc_lm10, kc_lm9, kc_lm8, kc_lm7, kc_lm6, kc_lm5, kc_lm4, kc_lm3, kc_lm2, kc_lm1, kc_l1, kc_l2, kc_l3, kc_l4, kc_l5, kc_l6, kc_l7, kc_l8, kc_l9, kc_l10, kc_l11, kc_l12, kc_l13, kc_l14, kc_l37, kc_l42, kc_l43, kc_l45, kc_l47, kc_l60, kc_l61, kc_l62, kc_l316, kc_l318, kc_l65536, kc_l99999, kc_l1000000, kc_l252645135, kc_l858993459, kc_l1431655765, kc_0, kc_on, nx_lt, nx_le, nx_eq, nx_add, nx_sub, nx_mul, nx_cl, n_lt_ng, n_le_ng, n_eq_ng, ng_lt_n, ng_le_n, ng_eq_n, ng_eq, ng_lt, ng_le, nx_dec]
    have e30 : ∀ z : Bool, (z = true ↔ an A (58 + 6 * o + 1) = n) → m_orderHeard_30 193 (nI o) (nI z.toNat) h = if (rowL A o == tl g n) = true then some (.inr (.inl (nI o))) else some (.inl (nI (o + 1))) := by
      intro z hz
      unfold m_orderHeard_30
      cases z with
      | false =>
        have hl : ¬ an A (58 + 6 * o + 1) = n := fun q => by have := hz.mpr q; cases this
        have k1 : wh (fun q : Int32 × Int32 => m_orderHeard_33 193 (nI o) q.1 q.2 h) (nI 0, nI 0) = some (nI 0) := by
          refine wh_inr ?_
          unfold m_orderHeard_33
          simp only [kc_im8, kc_im1, kc_i0, kc_i1, kc_i2, kc_i3, kc_i4, kc_i5, kc_b_m100, kc_b_m16, kc_b_m15, kc_b_m14, kc_b_m13, kc_b_m12, kc_b_m11, kc_b_m2, kc_b_6, kc_b_7, kc_b_8, kc_b_9, kc_b_10, kc_b_11, kc_b_12, kc_b_13, kc_b_14, kc_b_15, kc_b_16, kc_b_20, kc_b_24, kc_b_32, kc_b_37, kc_b_40, kc_b_42, kc_b_43, kc_b_45, kc_b_47, kc_b_48, kc_b_57, kc_b_58, kc_b_59, kc_b_60, kc_b_61, kc_b_62, kc_b_63, kc_b_91, kc_b_93, kc_b_97, kc_b_99, kc_b_100, kc_b_106, kc_b_122, kc_s_206, kc_s_226, kc_s_227, kc_s_255, kc_s_256, kc_s_316, kc_s_318, kc_s_400, kc_s_512, kc_s_999, kc_s_1160, kc_s_1536, kc_s_3003, kc_lm11, kc_lm10, kc_lm9, kc_lm8, kc_lm7, kc_lm6, kc_lm5, kc_lm4, kc_lm3, kc_lm2, kc_lm1, kc_l1, kc_l2, kc_l3, kc_l4, kc_l5, kc_l6, kc_l7, kc_l8, kc_l9, kc_l10, kc_l11, kc_l12, kc_l13, kc_l14, kc_l37, kc_l42, kc_l43, kc_l45, kc_l47, kc_l60, kc_l61, kc_l62, kc_l316, kc_l318, kc_l65536, kc_l99999, kc_l1000000, kc_l252645135, kc_l858993459, kc_l1431655765, kc_0, kc_on, if_true, ite_self]
        have : ¬ rowL A o = tl g n := by
          unfold rowL
          rw [tl_inj]
          rintro ⟨q, _⟩
          exact hl q
        simp only [kc_im8, kc_im1, kc_i0, kc_i1, kc_i2, kc_i3, kc_i4, kc_i5, kc_b_m100, kc_b_m16, kc_b_m15, kc_b_m14, kc_b_m13, kc_b_m12, kc_b_m11, kc_b_m2, kc_b_6, kc_b_7, kc_b_8, kc_b_9, kc_b_10, kc_b_11, kc_b_12, kc_b_13, kc_b_14, kc_b_15, kc_b_16, kc_b_20, kc_b_24, kc_b_32, kc_b_37, kc_b_40, kc_b_42, kc_b_43, kc_b_45, kc_b_47, kc_b_48, kc_b_57, kc_b_58, kc_b_59, kc_b_60, kc_b_61, kc_b_62, kc_b_63, kc_b_91, kc_b_93, kc_b_97, kc_b_99, kc_b_100, kc_b_106, kc_b_122, kc_s_206, kc_s_226, kc_s_227, kc_s_255, kc_s_256, kc_s_316, kc_s_318, kc_s_400, kc_s_512, kc_s_999, kc_s_1160, kc_s_1536, kc_s_3003, kc_lm11, kc_lm10, kc_lm9, kc_lm8, kc_lm7, kc_lm6, kc_lm5, kc_lm4, kc_lm3, kc_lm2, kc_lm1, kc_l1, kc_l2, kc_l3, kc_l4, kc_l5, kc_l6, kc_l7, kc_l8, kc_l9, kc_l10, kc_l11, kc_l12, kc_l13, kc_l14, kc_l37, kc_l42, kc_l43, kc_l45, kc_l47, kc_l60, kc_l61, kc_l62, kc_l316, kc_l318, kc_l65536, kc_l99999, kc_l1000000, kc_l252645135, kc_l858993459, kc_l1431655765, kc_0, kc_on, Bool.toNat_false, k1, Option.bind_some]
        rw [beq_eq_false_iff_ne.mpr this]
        exact e74 false
      | true =>
        have hl : an A (58 + 6 * o + 1) = n := hz.mp rfl
        by_cases hx : ∃ i, i < n ∧ ¬ an A (58 + 6 * o + 2 + i) = g i
        · have hx2 : ((List.range n).find? (fun i => decide (¬ an A (58 + 6 * o + 2 + i) = g i))) ≠ none := by
            intro q
            obtain ⟨i, h1, h3⟩ := hx
            have := find_all.mp q i h1
            simp at this
            exact h3 this
          obtain ⟨k, hk⟩ := Option.ne_none_iff_exists'.mp hx2
          have hk := List.find?_range_eq_some.mp hk
          have hk1 : k < n := List.mem_range.mp hk.2.1
          have hk2 : ¬ an A (58 + 6 * o + 2 + k) = g k := by simpa using hk.1
          have k1 : wh (fun q : Int32 × Int32 => m_orderHeard_33 193 (nI o) q.1 q.2 h) (nI 1, nI 0) = some (nI 0) := by
            refine wh_for (fun i => (if i ≤ k then nI 1 else nI 0, nI i)) (k + 1) 0 (by omega) (fun i _ hi => ?_) ?_
            · unfold m_orderHeard_33 m_orderHeard_67
              have e1 : i ≤ k := by omega
              have wi := w.o2 ho (i := i) (by omega)
              have gi := hg i (by omega)
              simp (disch := omega) only [e1, if_true, kc_im8, kc_im1, kc_i0, kc_i1, kc_i2, kc_i3, kc_i4, kc_i5, kc_b_m100, kc_b_m16, kc_b_m15, kc_b_m14, kc_b_m13, kc_b_m12, kc_b_m11, kc_b_m2, kc_b_6, kc_b_7, kc_b_8, kc_b_9, kc_b_10, kc_b_11, kc_b_12, kc_b_13, kc_b_14, kc_b_15, kc_b_16, kc_b_20, kc_b_24, kc_b_32, kc_b_37, kc_b_40, kc_b_42, kc_b_43, kc_b_45, kc_b_47, kc_b_48, kc_b_57, kc_b_58, kc_b_59, kc_b_60, kc_b_61, kc_b_62, kc_b_63, kc_b_91, kc_b_93, kc_b_97, kc_b_99, kc_b_100, kc_b_106, kc_b_122, kc_s_206, kc_s_226, kc_s_227, kc_s_255, kc_s_256, kc_s_316, kc_s_318, kc_s_400, kc_s_512, kc_s_999, kc_s_1160, kc_s_1536, kc_s_3003, kc_lm11, kc_lm10, kc_lm9, kc_lm8, kc_lm7, kc_lm6, kc_lm5, kc_lm4, kc_lm3, kc_lm2, kc_lm1, kc_l1, kc_l2, kc_l3, kc_l4, kc_l5, kc_l6, kc_l7, kc_l8, kc_l9, kc_l10, kc_l11, kc_l12, kc_l13, kc_l14, kc_l37, kc_l42, kc_l43, kc_l45, kc_l47, kc_l60, kc_l61, kc_l62, kc_l316, kc_l318, kc_l65536, kc_l99999, kc_l1000000, kc_l252645135, kc_l858993459, kc_l1431655765, kc_0, kc_on, h23, nx_add, m_orderOf_n R hA (by omega : 58 + 6 * o + (2 + i) < 227), ra_193_22 R, mn_204, nx_lt, nx_le, nx_eq, nx_add, nx_sub, nx_mul, nx_cl, n_lt_ng, n_le_ng, n_eq_ng, ng_lt_n, ng_le_n, ng_eq_n, ng_eq, ng_lt, ng_le, nx_dec, Option.bind_some, gi_n, gi.1]
              rw [if_neg (by omega), if_neg (by omega), if_pos (by simp; omega), ← Nat.add_assoc, wi.1]
              simp (disch := omega) only [nx_lt, nx_le, nx_eq, nx_add, nx_sub, nx_mul, nx_cl, n_lt_ng, n_le_ng, n_eq_ng, ng_lt_n, ng_le_n, ng_eq_n, ng_eq, ng_lt, ng_le, nx_dec]
              by_cases e2 : i = k
              · subst e2
                rw [if_pos hk2, if_neg (by omega)]
              · have := hk.2.2 i (by omega)
                rw [if_neg (by simpa using this), if_pos (by omega)]
            · unfold m_orderHeard_33
              have e1 : ¬ k + 1 ≤ k := by omega
              simp (disch := omega) only [e1, if_false, if_true, kc_im8, kc_im1, kc_i0, kc_i1, kc_i2, kc_i3, kc_i4, kc_i5, kc_b_m100, kc_b_m16, kc_b_m15, kc_b_m14, kc_b_m13, kc_b_m12, kc_b_m11, kc_b_m2, kc_b_6, kc_b_7, kc_b_8, kc_b_9, kc_b_10, kc_b_11, kc_b_12, kc_b_13, kc_b_14, kc_b_15, kc_b_16, kc_b_20, kc_b_24, kc_b_32, kc_b_37, kc_b_40, kc_b_42, kc_b_43, kc_b_45, kc_b_47, kc_b_48, kc_b_57, kc_b_58, kc_b_59, kc_b_60, kc_b_61, kc_b_62, kc_b_63, kc_b_91, kc_b_93, kc_b_97, kc_b_99, kc_b_100, kc_b_106, kc_b_122, kc_s_206, kc_s_226, kc_s_227, kc_s_255, kc_s_256, kc_s_316, kc_s_318, kc_s_400, kc_s_512, kc_s_999, kc_s_1160, kc_s_1536, kc_s_3003, kc_lm11, kc_lm10, kc_lm9, kc_lm8, kc_lm7, kc_lm6, kc_lm5, kc_lm4, kc_lm3, kc_lm2, kc_lm1, kc_l1, kc_l2, kc_l3, kc_l4, kc_l5, kc_l6, kc_l7, kc_l8, kc_l9, kc_l10, kc_l11, kc_l12, kc_l13, kc_l14, kc_l37, kc_l42, kc_l43, kc_l45, kc_l47, kc_l60, kc_l61, kc_l62, kc_l316, kc_l318, kc_l65536, kc_l99999, kc_l1000000, kc_l252645135, kc_l858993459, kc_l1431655765, kc_0, kc_on, ite_self]
          have : ¬ rowL A o = tl g n := by
            unfold rowL
            rw [tl_inj]
            rintro ⟨_, q⟩
            exact hk2 (q k (by omega))
          simp only [kc_im8, kc_im1, kc_i0, kc_i1, kc_i2, kc_i3, kc_i4, kc_i5, kc_b_m100, kc_b_m16, kc_b_m15, kc_b_m14, kc_b_m13, kc_b_m12, kc_b_m11, kc_b_m2, kc_b_6, kc_b_7, kc_b_8, kc_b_9, kc_b_10, kc_b_11, kc_b_12, kc_b_13, kc_b_14, kc_b_15, kc_b_16, kc_b_20, kc_b_24, kc_b_32, kc_b_37, kc_b_40, kc_b_42, kc_b_43, kc_b_45, kc_b_47, kc_b_48, kc_b_57, kc_b_58, kc_b_59, kc_b_60, kc_b_61, kc_b_62, kc_b_63, kc_b_91, kc_b_93, kc_b_97, kc_b_99, kc_b_100, kc_b_106, kc_b_122, kc_s_206, kc_s_226, kc_s_227, kc_s_255, kc_s_256, kc_s_316, kc_s_318, kc_s_400, kc_s_512, kc_s_999, kc_s_1160, kc_s_1536, kc_s_3003, kc_lm11, kc_lm10, kc_lm9, kc_lm8, kc_lm7, kc_lm6, kc_lm5, kc_lm4, kc_lm3, kc_lm2, kc_lm1, kc_l1, kc_l2, kc_l3, kc_l4, kc_l5, kc_l6, kc_l7, kc_l8, kc_l9, kc_l10, kc_l11, kc_l12, kc_l13, kc_l14, kc_l37, kc_l42, kc_l43, kc_l45, kc_l47, kc_l60, kc_l61, kc_l62, kc_l316, kc_l318, kc_l65536, kc_l99999, kc_l1000000, kc_l252645135, kc_l858993459, kc_l1431655765, kc_0, kc_on, Bool.toNat_true, k1, Option.bind_some]
          rw [beq_eq_false_iff_ne.mpr this]
          exact e74 false
        · have k1 : wh (fun q : Int32 × Int32 => m_orderHeard_33 193 (nI o) q.1 q.2 h) (nI 1, nI 0) = some (nI 1) := by
            refine wh_for (fun i => (nI 1, nI i)) n 0 (by omega) (fun i _ hi => ?_) ?_
            · unfold m_orderHeard_33 m_orderHeard_67
              have wi := w.o2 ho (i := i) (by omega)
              have gi := hg i (by omega)
              simp (disch := omega) only [kc_im8, kc_im1, kc_i0, kc_i1, kc_i2, kc_i3, kc_i4, kc_i5, kc_b_m100, kc_b_m16, kc_b_m15, kc_b_m14, kc_b_m13, kc_b_m12, kc_b_m11, kc_b_m2, kc_b_6, kc_b_7, kc_b_8, kc_b_9, kc_b_10, kc_b_11, kc_b_12, kc_b_13, kc_b_14, kc_b_15, kc_b_16, kc_b_20, kc_b_24, kc_b_32, kc_b_37, kc_b_40, kc_b_42, kc_b_43, kc_b_45, kc_b_47, kc_b_48, kc_b_57, kc_b_58, kc_b_59, kc_b_60, kc_b_61, kc_b_62, kc_b_63, kc_b_91, kc_b_93, kc_b_97, kc_b_99, kc_b_100, kc_b_106, kc_b_122, kc_s_206, kc_s_226, kc_s_227, kc_s_255, kc_s_256, kc_s_316, kc_s_318, kc_s_400, kc_s_512, kc_s_999, kc_s_1160, kc_s_1536, kc_s_3003, kc_lm11, kc_lm10, kc_lm9, kc_lm8, kc_lm7, kc_lm6, kc_lm5, kc_lm4, kc_lm3, kc_lm2, kc_lm1, kc_l1, kc_l2, kc_l3, kc_l4, kc_l5, kc_l6, kc_l7, kc_l8, kc_l9, kc_l10, kc_l11, kc_l12, kc_l13, kc_l14, kc_l37, kc_l42, kc_l43, kc_l45, kc_l47, kc_l60, kc_l61, kc_l62, kc_l316, kc_l318, kc_l65536, kc_l99999, kc_l1000000, kc_l252645135, kc_l858993459, kc_l1431655765, kc_0, kc_on, h23, nx_add, m_orderOf_n R hA (by omega : 58 + 6 * o + (2 + i) < 227), ra_193_22 R, mn_204, nx_lt, nx_le, nx_eq, nx_add, nx_sub, nx_mul, nx_cl, n_lt_ng, n_le_ng, n_eq_ng, ng_lt_n, ng_le_n, ng_eq_n, ng_eq, ng_lt, ng_le, nx_dec, Option.bind_some, gi_n, gi.1]
              rw [if_neg (by omega), if_neg (by omega), if_pos (by simp; omega), ← Nat.add_assoc, wi.1]
              simp (disch := omega) only [nx_lt, nx_le, nx_eq, nx_add, nx_sub, nx_mul, nx_cl, n_lt_ng, n_le_ng, n_eq_ng, ng_lt_n, ng_le_n, ng_eq_n, ng_eq, ng_lt, ng_le, nx_dec]
              rw [if_neg (fun q => hx ⟨i, hi, q⟩)]
            · unfold m_orderHeard_33
              simp (disch := omega) only [kc_im8, kc_im1, kc_i0, kc_i1, kc_i2, kc_i3, kc_i4, kc_i5, kc_b_m100, kc_b_m16, kc_b_m15, kc_b_m14, kc_b_m13, kc_b_m12, kc_b_m11, kc_b_m2, kc_b_6, kc_b_7, kc_b_8, kc_b_9, kc_b_10, kc_b_11, kc_b_12, kc_b_13, kc_b_14, kc_b_15, kc_b_16, kc_b_20, kc_b_24, kc_b_32, kc_b_37, kc_b_40, kc_b_42, kc_b_43, kc_b_45, kc_b_47, kc_b_48, kc_b_57, kc_b_58, kc_b_59, kc_b_60, kc_b_61, kc_b_62, kc_b_63, kc_b_91, kc_b_93, kc_b_97, kc_b_99, kc_b_100, kc_b_106, kc_b_122, kc_s_206, kc_s_226, kc_s_227, kc_s_255, kc_s_256, kc_s_316, kc_s_318, kc_s_400, kc_s_512, kc_s_999, kc_s_1160, kc_s_1536, kc_s_3003, kc_lm11, kc_lm10, kc_lm9, kc_lm8, kc_lm7, kc_lm6, kc_lm5, kc_lm4, kc_lm3, kc_lm2, kc_lm1, kc_l1, kc_l2, kc_l3, kc_l4, kc_l5, kc_l6, kc_l7, kc_l8, kc_l9, kc_l10, kc_l11, kc_l12, kc_l13, kc_l14, kc_l37, kc_l42, kc_l43, kc_l45, kc_l47, kc_l60, kc_l61, kc_l62, kc_l316, kc_l318, kc_l65536, kc_l99999, kc_l1000000, kc_l252645135, kc_l858993459, kc_l1431655765, kc_0, kc_on, h23, nx_lt, nx_le, nx_eq, nx_add, nx_sub, nx_mul, nx_cl, n_lt_ng, n_le_ng, n_eq_ng, ng_lt_n, ng_le_n, ng_eq_n, ng_eq, ng_lt, ng_le, nx_dec]
              rw [if_pos (by omega)]
          have : rowL A o = tl g n := by
            unfold rowL
            rw [tl_inj]
            exact ⟨hl, fun i hi => Classical.byContradiction (fun q => hx ⟨i, by omega, q⟩)⟩
          simp only [kc_im8, kc_im1, kc_i0, kc_i1, kc_i2, kc_i3, kc_i4, kc_i5, kc_b_m100, kc_b_m16, kc_b_m15, kc_b_m14, kc_b_m13, kc_b_m12, kc_b_m11, kc_b_m2, kc_b_6, kc_b_7, kc_b_8, kc_b_9, kc_b_10, kc_b_11, kc_b_12, kc_b_13, kc_b_14, kc_b_15, kc_b_16, kc_b_20, kc_b_24, kc_b_32, kc_b_37, kc_b_40, kc_b_42, kc_b_43, kc_b_45, kc_b_47, kc_b_48, kc_b_57, kc_b_58, kc_b_59, kc_b_60, kc_b_61, kc_b_62, kc_b_63, kc_b_91, kc_b_93, kc_b_97, kc_b_99, kc_b_100, kc_b_106, kc_b_122, kc_s_206, kc_s_226, kc_s_227, kc_s_255, kc_s_256, kc_s_316, kc_s_318, kc_s_400, kc_s_512, kc_s_999, kc_s_1160, kc_s_1536, kc_s_3003, kc_lm11, kc_lm10, kc_lm9, kc_lm8, kc_lm7, kc_lm6, kc_lm5, kc_lm4, kc_lm3, kc_lm2, kc_lm1, kc_l1, kc_l2, kc_l3, kc_l4, kc_l5, kc_l6, kc_l7, kc_l8, kc_l9, kc_l10, kc_l11, kc_l12, kc_l13, kc_l14, kc_l37, kc_l42, kc_l43, kc_l45, kc_l47, kc_l60, kc_l61, kc_l62, kc_l316, kc_l318, kc_l65536, kc_l99999, kc_l1000000, kc_l252645135, kc_l858993459, kc_l1431655765, kc_0, kc_on, Bool.toNat_true, k1, Option.bind_some, this, beq_self_eq_true]
          exact e74 true
    unfold m_orderHeard_2
    simp (disch := omega) only [kc_im8, kc_im1, kc_i0, kc_i1, kc_i2, kc_i3, kc_i4, kc_i5, kc_b_m100, kc_b_m16, kc_b_m15, kc_b_m14, kc_b_m13, kc_b_m12, kc_b_m11, kc_b_m2, kc_b_6, kc_b_7, kc_b_8, kc_b_9, kc_b_10, kc_b_11, kc_b_12, kc_b_13, kc_b_14, kc_b_15, kc_b_16, kc_b_20, kc_b_24, kc_b_32, kc_b_37, kc_b_40, kc_b_42, kc_b_43, kc_b_45, kc_b_47, kc_b_48, kc_b_57, kc_b_58, kc_b_59, kc_b_60, kc_b_61, kc_b_62, kc_b_63, kc_b_91, kc_b_93, kc_b_97, kc_b_99, kc_b_100, kc_b_106, kc_b_122, kc_s_206, kc_s_226, kc_s_227, kc_s_255, kc_s_256, kc_s_316, kc_s_318, kc_s_400, kc_s_512, kc_s_999, kc_s_1160, kc_s_1536, kc_s_3003, kc_lm11, kc_lm10, kc_lm9, kc_lm8, kc_lm7, kc_lm6, kc_lm5, kc_lm4, kc_lm3, kc_lm2, kc_lm1, kc_l1, kc_l2, kc_l3, kc_l4, kc_l5, kc_l6, kc_l7, kc_l8, kc_l9, kc_l10, kc_l11, kc_l12, kc_l13, kc_l14, kc_l37, kc_l42, kc_l43, kc_l45, kc_l47, kc_l60, kc_l61, kc_l62, kc_l316, kc_l318, kc_l65536, kc_l99999, kc_l1000000, kc_l252645135, kc_l858993459, kc_l1431655765, kc_0, kc_on, ra_193_20 R, Option.bind_some, mn_203, gi_n, nx_lt, nx_le, nx_eq, nx_add, nx_sub, nx_mul, nx_cl, n_lt_ng, n_le_ng, n_eq_ng, ng_lt_n, ng_le_n, ng_eq_n, ng_eq, ng_lt, ng_le, nx_dec, hA, h2.1, m_orderOf_n R hA (by omega : 58 + 6 * o + 1 < 227), lo.1, h23]
    rw [if_pos (by simp), if_neg (by omega)]
    by_cases hl : an A (58 + 6 * o + 1) = n
    · rw [if_neg (by omega)]
      exact e30 true (by simp [hl])
    · rw [if_pos hl]
      exact e30 false (by simp [hl])
  · unfold m_orderHeard_2
    simp (disch := omega) only [kc_im8, kc_im1, kc_i0, kc_i1, kc_i2, kc_i3, kc_i4, kc_i5, kc_b_m100, kc_b_m16, kc_b_m15, kc_b_m14, kc_b_m13, kc_b_m12, kc_b_m11, kc_b_m2, kc_b_6, kc_b_7, kc_b_8, kc_b_9, kc_b_10, kc_b_11, kc_b_12, kc_b_13, kc_b_14, kc_b_15, kc_b_16, kc_b_20, kc_b_24, kc_b_32, kc_b_37, kc_b_40, kc_b_42, kc_b_43, kc_b_45, kc_b_47, kc_b_48, kc_b_57, kc_b_58, kc_b_59, kc_b_60, kc_b_61, kc_b_62, kc_b_63, kc_b_91, kc_b_93, kc_b_97, kc_b_99, kc_b_100, kc_b_106, kc_b_122, kc_s_206, kc_s_226, kc_s_227, kc_s_255, kc_s_256, kc_s_316, kc_s_318, kc_s_400, kc_s_512, kc_s_999, kc_s_1160, kc_s_1536, kc_s_3003, kc_lm11, kc_lm10, kc_lm9, kc_lm8, kc_lm7, kc_lm6, kc_lm5, kc_lm4, kc_lm3, kc_lm2, kc_lm1, kc_l1, kc_l2, kc_l3, kc_l4, kc_l5, kc_l6, kc_l7, kc_l8, kc_l9, kc_l10, kc_l11, kc_l12, kc_l13, kc_l14, kc_l37, kc_l42, kc_l43, kc_l45, kc_l47, kc_l60, kc_l61, kc_l62, kc_l316, kc_l318, kc_l65536, kc_l99999, kc_l1000000, kc_l252645135, kc_l858993459, kc_l1431655765, kc_0, kc_on, ra_193_20 R, Option.bind_some, mn_203, gi_n, nx_lt, nx_le, nx_eq, nx_add, nx_sub, nx_mul, nx_cl, n_lt_ng, n_le_ng, n_eq_ng, ng_lt_n, ng_le_n, ng_eq_n, ng_eq, ng_lt, ng_le, nx_dec, hA, h2.1]
    rw [if_pos (by simp), if_pos (by omega)]
end MS
