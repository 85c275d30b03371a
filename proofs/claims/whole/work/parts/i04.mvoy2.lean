/-! voyages of the reference: trips. -/
section MW
variable {h0 h : pm_H} {A : Nat → Int32} {p X : Nat}
theorem m_hoursW {t : Nat × Nat × Nat} (W : RV h0 h A A t.1) (h4 : an A 4 ≤ 999) (hp : p ≤ 100) (x1 x4 x8 : Int32) {n : Nat} (hn : n ≤ 20) : SP (wh (fun z : (Int32 × Int32 × Int32 × pm_H) => m_voyages_143 193 x1 (nI n) (nI p) x4 z.1 z.2.1 x8 z.2.2.1 z.2.2.2) (nI t.2.1, nI t.2.2, nI 0, h)) (fun z => z.1 = nI (hrV A p n (A, t)).2.2.1 ∧ z.2.1 = nI (hrV A p n (A, t)).2.2.2 ∧ RVt h0 z.2.2 A (hrV A p n (A, t))) := by
  have w := W.1.2.2
  have W0 : RVt h0 h A (hrV A p 0 (A, t)) := W
  refine wh_cnt (fun j z => z.1 = nI (hrV A p j (A, t)).2.2.1 ∧ z.2.1 = nI (hrV A p j (A, t)).2.2.2 ∧ z.2.2.1 = nI j ∧ RVt h0 z.2.2.2 A (hrV A p j (A, t))) _ n ?_ ?_ 0 (nI t.2.1, nI t.2.2, nI 0, h) (by omega) ⟨rfl, rfl, rfl, W0⟩
  · rintro j ⟨u, v, y, h1⟩ hj ⟨hu, hv, hy, W1⟩
    dsimp only at hu hv hy W1
    subst hu hv hy
    have V1 := hrV_vi (p := p) (k := an A 4) (q := (A, t)) (VI.refl w) W.2.2.1 j (by omega)
    refine (m_hour_st W1 V1.1 (by omega) hp x1 x4 x8 hj hn).mono ?_
    rintro z ⟨h2, rfl, W2⟩
    exact ⟨rfl, rfl, rfl, W2⟩
  · rintro ⟨u, v, y, h1⟩ ⟨hu, hv, hy, W1⟩
    dsimp only at hu hv hy W1
    subst hy
    unfold m_voyages_143
    exact sp_pos (by rw [nx_le (by omega) (by omega)]; omega) (sp_some.mpr ⟨hu, hv, W1⟩)
/-- said as it was kept -/
theorem m_restW {B : Nat → Int32} (W : RV h0 h A B X) (w : WFA A) (e : SameS B A) (x1 x2 x3 x4 x5 x6 x8 : Int32) : SP (wh (fun z : (Int32 × pm_H) => m_voyages_271 193 x1 x2 x3 x4 x5 x6 x8 z.1 z.2) (nI 0, h)) (fun h' => RV h0 h' A A X) := by
  obtain ⟨M, x31, hX, c, d, f⟩ := W
  refine wh_cnt (fun i z => z.1 = nI i ∧ FrM (· = 203) (fun _ => False) h z.2 ∧ ∀ j, z.2.2.1 203 j = if j < i then A j else B j) _ 58 ?_ ?_ 0 (nI 0, h) (by omega) ⟨rfl, FrM.refl _ _ _, fun j => by rw [if_neg (by omega), M.2.1]⟩
  · rintro i ⟨y, h1⟩ hi ⟨hy, f1, e1⟩
    dsimp only at hy f1 e1
    subst hy
    have R1 := M.1.fm f1
    unfold m_voyages_271
    simp only [kc_im8, kc_im1, kc_i0, kc_i1, kc_i2, kc_i3, kc_i4, kc_i5, kc_b_m100, kc_b_m16, kc_b_m15, kc_b_m14, kc_b_m13, kc_b_m12, kc_b_m11, kc_b_m2, kc_b_6, kc_b_7, kc_b_8, kc_b_9, kc_b_10, kc_b_11, kc_b_12, kc_b_13, kc_b_14, kc_b_15, kc_b_16, kc_b_20, kc_b_24, kc_b_32, kc_b_37, kc_b_40, kc_b_42, kc_b_43, kc_b_45, kc_b_47, kc_b_48, kc_b_57, kc_b_58, kc_b_59, kc_b_60, kc_b_61, kc_b_62, kc_b_63, kc_b_91, kc_b_93, kc_b_97, kc_b_99, kc_b_100, kc_b_106, kc_b_122, kc_s_206, kc_s_226, kc_s_227, kc_s_255, kc_s_256, kc_s_316, kc_s_318, kc_s_400, kc_s_512, kc_s_999, kc_s_1160, kc_s_1536, kc_s_3003, kc_lm11, kc_lm10, kc_lm9, kc_lm8, kc_lm7, kc_lm6, kc_lm5, kc_lm4, kc_lm3, kc_lm2, kc_lm1, kc_l1, kc_l2, kc_l3, kc_l4, kc_l5, kc_l6, kc_l7, kc_l8, kc_l9, kc_l10, kc_l11, kc_l12, kc_l13, kc_l14, kc_l37, kc_l42, kc_l43, kc_l45, kc_l47, kc_l60, kc_l61, kc_l62, kc_l316, kc_l318, kc_l65536, kc_l99999, kc_l1000000, kc_l252645135, kc_l858993459, kc_l1431655765, kc_0, kc_on]
    refine sp_neg (by rw [nx_le (by omega) (by omega)]; omega) ?_
    rw [ra_193_20 R1, Option.bind_some, ra_193_30 R1, Option.bind_some, mn_210, mn_203, gi_n (by omega), gi_n (by omega), nx_cl (by omega), f1.i (by omega) (by omega), d i hi]
    refine sp_pos (by simp; omega) (sp_pos (by simp; omega) ?_)
    rw [sp_bd, sp_some, nx_add]
    refine ⟨rfl, f1.setI (by omega) rfl, fun j => ?_⟩
    show (pm_setI h1 203 i (A i)).2.1 203 j = _
    by_cases q : j = i
    · subst q; rw [ri_s, if_pos (by omega)]
    · rw [ri_j _ q, e1]
      by_cases q2 : j < i
      · rw [if_pos q2, if_pos (by omega)]
      · rw [if_neg q2, if_neg (by omega)]
  · rintro ⟨y, h1⟩ ⟨hy, f1, e1⟩
    dsimp only at hy f1 e1
    subst hy
    unfold m_voyages_271
    simp only [kc_im8, kc_im1, kc_i0, kc_i1, kc_i2, kc_i3, kc_i4, kc_i5, kc_b_m100, kc_b_m16, kc_b_m15, kc_b_m14, kc_b_m13, kc_b_m12, kc_b_m11, kc_b_m2, kc_b_6, kc_b_7, kc_b_8, kc_b_9, kc_b_10, kc_b_11, kc_b_12, kc_b_13, kc_b_14, kc_b_15, kc_b_16, kc_b_20, kc_b_24, kc_b_32, kc_b_37, kc_b_40, kc_b_42, kc_b_43, kc_b_45, kc_b_47, kc_b_48, kc_b_57, kc_b_58, kc_b_59, kc_b_60, kc_b_61, kc_b_62, kc_b_63, kc_b_91, kc_b_93, kc_b_97, kc_b_99, kc_b_100, kc_b_106, kc_b_122, kc_s_206, kc_s_226, kc_s_227, kc_s_255, kc_s_256, kc_s_316, kc_s_318, kc_s_400, kc_s_512, kc_s_999, kc_s_1160, kc_s_1536, kc_s_3003, kc_lm11, kc_lm10, kc_lm9, kc_lm8, kc_lm7, kc_lm6, kc_lm5, kc_lm4, kc_lm3, kc_lm2, kc_lm1, kc_l1, kc_l2, kc_l3, kc_l4, kc_l5, kc_l6, kc_l7, kc_l8, kc_l9, kc_l10, kc_l11, kc_l12, kc_l13, kc_l14, kc_l37, kc_l42, kc_l43, kc_l45, kc_l47, kc_l60, kc_l61, kc_l62, kc_l316, kc_l318, kc_l65536, kc_l99999, kc_l1000000, kc_l252645135, kc_l858993459, kc_l1431655765, kc_0, kc_on]
    have e3 : h1.2.1 203 = A := by
      funext j
      rw [e1]
      by_cases q : j < 58
      · rw [if_pos q]
      · rw [if_neg q, e.2.2 j (by omega)]
    refine sp_pos (by rw [nx_le (by omega) (by omega)]; omega) (sp_some.mpr ⟨⟨M.1.fm f1, e3, w⟩, by rw [f1.2.2.1]; exact x31, hX, fun u hu => by rw [f1.i (by omega) (by omega)]; exact c u hu, fun k hk => by rw [f1.i (by omega) (by omega)]; exact d k hk, f.trans ⟨f1.1, f1.2.1, fun c hc => ⟨f1.i (by omega) (by omega), by rw [f1.2.2.1]⟩, fun c hc => ?_, fun j _ => f1.f id⟩⟩)
    simp only [List.mem_cons, List.not_mem_nil, or_false] at hc
    exact f1.i (by omega) (by omega)
theorem m_tripsW (W : RV h0 h A A X) (h4 : an A 4 ≤ 999) (hp : p ≤ 100) (x4 : Int32) {m n : Nat} (hm : m ≤ 10) (hn : n ≤ 20) : SP (wh (fun z : (Int32 × Int32 × Int32 × pm_H) => m_voyages_134 193 (nI m) (nI n) (nI p) x4 z.1 z.2.1 z.2.2.1 z.2.2.2) (nI 0, nI 0, nI 0, h)) (fun z => z.1 = nI (trV A p n m (X, 0, 0)).2.1 ∧ z.2.1 = nI (trV A p n m (X, 0, 0)).2.2 ∧ RV h0 z.2.2 A A (trV A p n m (X, 0, 0)).1) := by
  have w := W.1.2.2
  refine wh_cnt (fun i z => z.1 = nI (trV A p n i (X, 0, 0)).2.1 ∧ z.2.1 = nI (trV A p n i (X, 0, 0)).2.2 ∧ z.2.2.1 = nI i ∧ RV h0 z.2.2.2 A A (trV A p n i (X, 0, 0)).1) _ m ?_ ?_ 0 (nI 0, nI 0, nI 0, h) (by omega) ⟨rfl, rfl, rfl, W⟩
  · rintro i ⟨u, v, y, h1⟩ hi ⟨hu, hv, hy, W1⟩
    dsimp only at hu hv hy W1
    subst hu hv hy
    have V1 := hrV_vi (p := p) (k := an A 4) (q := (A, trV A p n i (X, 0, 0))) (VI.refl w) W1.2.2.1 n (by omega)
    unfold m_voyages_134
    simp only [kc_im8, kc_im1, kc_i0, kc_i1, kc_i2, kc_i3, kc_i4, kc_i5, kc_b_m100, kc_b_m16, kc_b_m15, kc_b_m14, kc_b_m13, kc_b_m12, kc_b_m11, kc_b_m2, kc_b_6, kc_b_7, kc_b_8, kc_b_9, kc_b_10, kc_b_11, kc_b_12, kc_b_13, kc_b_14, kc_b_15, kc_b_16, kc_b_20, kc_b_24, kc_b_32, kc_b_37, kc_b_40, kc_b_42, kc_b_43, kc_b_45, kc_b_47, kc_b_48, kc_b_57, kc_b_58, kc_b_59, kc_b_60, kc_b_61, kc_b_62, kc_b_63, kc_b_91, kc_b_93, kc_b_97, kc_b_99, kc_b_100, kc_b_106, kc_b_122, kc_s_206, kc_s_226, kc_s_227, kc_s_255, kc_s_256, kc_s_316, kc_s_318, kc_s_400, kc_s_512, kc_s_999, kc_s_1160, kc_s_1536, kc_s_3003, kc_lm11, kc_lm10, kc_lm9, kc_lm8, kc_lm7, kc_lm6, kc_lm5, kc_lm4, kc_lm3, kc_lm2, kc_lm1, kc_l1, kc_l2, kc_l3, kc_l4, kc_l5, kc_l6, kc_l7, kc_l8, kc_l9, kc_l10, kc_l11, kc_l12, kc_l13, kc_l14, kc_l37, kc_l42, kc_l43, kc_l45, kc_l47, kc_l60, kc_l61, kc_l62, kc_l316, kc_l318, kc_l65536, kc_l99999, kc_l1000000, kc_l252645135, kc_l858993459, kc_l1431655765, kc_0, kc_on]
    refine sp_neg (by rw [nx_le (by omega) (by omega)]; omega) ?_
    refine sp_call (m_hoursW W1 h4 hp (nI m) x4 (nI i) hn) ?_
    rintro ⟨u2, v2, h2⟩ ⟨hu2, hv2, W2⟩
    dsimp only at hu2 hv2 W2
    subst hu2 hv2
    refine sp_call (m_restW W2 w V1.1.1 (nI m) (nI n) (nI p) x4 _ _ (nI i)) ?_
    intro h3 W3
    rw [sp_some, nx_add]
    exact ⟨rfl, rfl, rfl, W3⟩
  · rintro ⟨u, v, y, h1⟩ ⟨hu, hv, hy, W1⟩
    dsimp only at hu hv hy W1
    subst hy
    unfold m_voyages_134
    exact sp_pos (by rw [nx_le (by omega) (by omega)]; omega) (sp_some.mpr ⟨hu, hv, W1⟩)
theorem al_bb (w : WFA A) : alvN A ||| bb (bN A) < 512 ∧ ∀ m, (alvN A ||| bb (bN A)).testBit m = true → m < an A 1 ∨ (m = 8 ∧ bN A ≠ 0) := by
  have h1 := p2men w
  have hl : alvN A < 2 ^ an A 1 := bs_lt _ _
  refine ⟨Nat.or_lt_two_pow (n := 9) (by omega) (by unfold bb; split <;> decide), fun m q => ?_⟩
  unfold alvN at q
  rw [Nat.testBit_or, bs_bit, Bool.or_eq_true, Bool.and_eq_true, decide_eq_true_eq] at q
  rcases q with q | q
  · exact .inl q.1
  · unfold bb at q
    split at q
    · rw [Nat.zero_testBit] at q; cases q
    · rename_i e
      rw [bit_256, decide_eq_true_eq] at q
      exact .inr ⟨q.symm, e⟩
theorem m_voy88 (M : MI h A) (x31 : h.2.2.1 193 31 = qN X) (hX : X < 2147483648) (h4 : an A 4 ≤ 999) (hp : p ≤ 100) {m n j : Nat} (hm : m ≤ 10) (hn : n ≤ 20) (hj : j ≤ 1) : SP (m_voyages_88 193 (nI m) (nI n) (nI p) (nI j) (nI 0) (nI 0) (nI (bb (bN A))) h) (fun z => z.1 = vVoy A X m n p j ∧ FM h z.2) := by
  have M' := M
  obtain ⟨R, hA, w⟩ := M
  have ab := al_bb w
  unfold m_voyages_88
  simp only [kc_im8, kc_im1, kc_i0, kc_i1, kc_i2, kc_i3, kc_i4, kc_i5, kc_b_m100, kc_b_m16, kc_b_m15, kc_b_m14, kc_b_m13, kc_b_m12, kc_b_m11, kc_b_m2, kc_b_6, kc_b_7, kc_b_8, kc_b_9, kc_b_10, kc_b_11, kc_b_12, kc_b_13, kc_b_14, kc_b_15, kc_b_16, kc_b_20, kc_b_24, kc_b_32, kc_b_37, kc_b_40, kc_b_42, kc_b_43, kc_b_45, kc_b_47, kc_b_48, kc_b_57, kc_b_58, kc_b_59, kc_b_60, kc_b_61, kc_b_62, kc_b_63, kc_b_91, kc_b_93, kc_b_97, kc_b_99, kc_b_100, kc_b_106, kc_b_122, kc_s_206, kc_s_226, kc_s_227, kc_s_255, kc_s_256, kc_s_316, kc_s_318, kc_s_400, kc_s_512, kc_s_999, kc_s_1160, kc_s_1536, kc_s_3003, kc_lm11, kc_lm10, kc_lm9, kc_lm8, kc_lm7, kc_lm6, kc_lm5, kc_lm4, kc_lm3, kc_lm2, kc_lm1, kc_l1, kc_l2, kc_l3, kc_l4, kc_l5, kc_l6, kc_l7, kc_l8, kc_l9, kc_l10, kc_l11, kc_l12, kc_l13, kc_l14, kc_l37, kc_l42, kc_l43, kc_l45, kc_l47, kc_l60, kc_l61, kc_l62, kc_l316, kc_l318, kc_l65536, kc_l99999, kc_l1000000, kc_l252645135, kc_l858993459, kc_l1431655765, kc_0, kc_on]
  rw [m_aliveSet_n w R hA, Option.bind_some, nx_or2]
  refine sp_call (g_ord M' ab.1 ab.2) ?_
  rintro h1 ⟨f1, E⟩
  have R1 := R.fm f1
  have A1 : h1.2.1 203 = A := by rw [f1.i (by omega) (by unfold MC; omega)]; exact hA
  have key : SP (wh (fun z : (Int32 × pm_H) => m_voyages_104 193 (nI m) (nI n) (nI p) (nI j) (nI 0) (nI 0) z.1 z.2) (nI 0, h1)) (fun h' => FrM (· = 210) (fun _ => False) h1 h' ∧ ∀ k, k < 58 → h'.2.1 210 k = A k) := by
    refine wh_cnt (fun i z => z.1 = nI i ∧ FrM (· = 210) (fun _ => False) h1 z.2 ∧ ∀ k, k < i → z.2.2.1 210 k = A k) _ 58 ?_ ?_ 0 (nI 0, h1) (by omega) ⟨rfl, FrM.refl _ _ _, fun k q => by omega⟩
    · rintro i ⟨y, h2⟩ hi ⟨hy, f2, e2⟩
      dsimp only at hy f2 e2
      subst hy
      have R2 := R1.fm f2
      unfold m_voyages_104
      simp only [kc_im8, kc_im1, kc_i0, kc_i1, kc_i2, kc_i3, kc_i4, kc_i5, kc_b_m100, kc_b_m16, kc_b_m15, kc_b_m14, kc_b_m13, kc_b_m12, kc_b_m11, kc_b_m2, kc_b_6, kc_b_7, kc_b_8, kc_b_9, kc_b_10, kc_b_11, kc_b_12, kc_b_13, kc_b_14, kc_b_15, kc_b_16, kc_b_20, kc_b_24, kc_b_32, kc_b_37, kc_b_40, kc_b_42, kc_b_43, kc_b_45, kc_b_47, kc_b_48, kc_b_57, kc_b_58, kc_b_59, kc_b_60, kc_b_61, kc_b_62, kc_b_63, kc_b_91, kc_b_93, kc_b_97, kc_b_99, kc_b_100, kc_b_106, kc_b_122, kc_s_206, kc_s_226, kc_s_227, kc_s_255, kc_s_256, kc_s_316, kc_s_318, kc_s_400, kc_s_512, kc_s_999, kc_s_1160, kc_s_1536, kc_s_3003, kc_lm11, kc_lm10, kc_lm9, kc_lm8, kc_lm7, kc_lm6, kc_lm5, kc_lm4, kc_lm3, kc_lm2, kc_lm1, kc_l1, kc_l2, kc_l3, kc_l4, kc_l5, kc_l6, kc_l7, kc_l8, kc_l9, kc_l10, kc_l11, kc_l12, kc_l13, kc_l14, kc_l37, kc_l42, kc_l43, kc_l45, kc_l47, kc_l60, kc_l61, kc_l62, kc_l316, kc_l318, kc_l65536, kc_l99999, kc_l1000000, kc_l252645135, kc_l858993459, kc_l1431655765, kc_0, kc_on]
      refine sp_neg (by rw [nx_le (by omega) (by omega)]; omega) ?_
      rw [ra_193_30 R2, Option.bind_some, ra_193_20 R2, Option.bind_some, mn_210, mn_203, gi_n (by omega), gi_n (by omega), nx_cl (by omega), f2.i (by omega) (by omega), A1]
      refine sp_pos (by simp; omega) (sp_pos (by simp; omega) ?_)
      rw [sp_bd, sp_some, nx_add]
      refine ⟨rfl, f2.setI (by omega) rfl, fun k hk => ?_⟩
      show (pm_setI h2 210 i (A i)).2.1 210 k = _
      by_cases q : k = i
      · subst q; rw [ri_s]
      · rw [ri_j _ q]; exact e2 k (by omega)
    · rintro ⟨y, h2⟩ ⟨hy, f2, e2⟩
      dsimp only at hy f2 e2
      subst hy
      unfold m_voyages_104
      simp only [kc_im8, kc_im1, kc_i0, kc_i1, kc_i2, kc_i3, kc_i4, kc_i5, kc_b_m100, kc_b_m16, kc_b_m15, kc_b_m14, kc_b_m13, kc_b_m12, kc_b_m11, kc_b_m2, kc_b_6, kc_b_7, kc_b_8, kc_b_9, kc_b_10, kc_b_11, kc_b_12, kc_b_13, kc_b_14, kc_b_15, kc_b_16, kc_b_20, kc_b_24, kc_b_32, kc_b_37, kc_b_40, kc_b_42, kc_b_43, kc_b_45, kc_b_47, kc_b_48, kc_b_57, kc_b_58, kc_b_59, kc_b_60, kc_b_61, kc_b_62, kc_b_63, kc_b_91, kc_b_93, kc_b_97, kc_b_99, kc_b_100, kc_b_106, kc_b_122, kc_s_206, kc_s_226, kc_s_227, kc_s_255, kc_s_256, kc_s_316, kc_s_318, kc_s_400, kc_s_512, kc_s_999, kc_s_1160, kc_s_1536, kc_s_3003, kc_lm11, kc_lm10, kc_lm9, kc_lm8, kc_lm7, kc_lm6, kc_lm5, kc_lm4, kc_lm3, kc_lm2, kc_lm1, kc_l1, kc_l2, kc_l3, kc_l4, kc_l5, kc_l6, kc_l7, kc_l8, kc_l9, kc_l10, kc_l11, kc_l12, kc_l13, kc_l14, kc_l37, kc_l42, kc_l43, kc_l45, kc_l47, kc_l60, kc_l61, kc_l62, kc_l316, kc_l318, kc_l65536, kc_l99999, kc_l1000000, kc_l252645135, kc_l858993459, kc_l1431655765, kc_0, kc_on]
      exact sp_pos (by rw [nx_le (by omega) (by omega)]; omega) (sp_some.mpr ⟨f2, e2⟩)
  refine sp_call key ?_
  rintro h2 ⟨f2, e2⟩
  have fm : FM h h2 := (f1.fm (fun c hc => hc.mf) (fun j hj => by unfold FF; omega)).trans (f2.fm (fun c hc => by unfold MF; omega) (fun j hj => hj.elim))
  have W : RV h h2 A A X := ⟨M'.fm fm, by rw [f2.2.2.1, f1.2.2.1]; exact x31, hX, fun u hu => by rw [f2.i (by omega) (by omega)]; exact E u hu, e2, fm.fn⟩
  refine sp_call (m_tripsW W h4 hp (nI j) hm hn) ?_
  rintro ⟨u, v, h3⟩ ⟨hu, hv, W3⟩
  dsimp only at hu hv W3
  have fm3 : FM h h3 := W3.2.2.2.2.2.fm (by rw [W3.1.2.1, hA])
  unfold vVoy
  by_cases j0 : j = 0
  · refine sp_neg (by rw [nx_eq (by omega) (by omega)]; exact fun z => z j0) ?_
    rw [sp_some, if_pos j0]
    exact ⟨hu, fm3⟩
  · refine sp_pos (by rw [nx_eq (by omega) (by omega)]; exact j0) ?_
    rw [sp_some, if_neg j0]
    exact ⟨hv, fm3⟩
theorem m_voyages_ok (M : MI h A) (h4 : an A 4 ≤ 999) (x21 : h.2.1 193 21 = nI X) (hX : X < 2147483648) {m n j : Nat} (ok : voyOk A m n p j) : SP (m_voyages 193 (nI m) (nI n) (nI p) (nI j) h) (fun z => z.1 = vVoy A X m n p j ∧ FM h z.2) := by
  obtain ⟨s0, m1, m2, n1, n2, hp, hj⟩ := ok
  have M' := M
  obtain ⟨R, hA, w⟩ := M
  unfold m_voyages
  rw [m_isShip_n M', Option.bind_some, dec_t s0]
  simp only [kc_im8, kc_im1, kc_i0, kc_i1, kc_i2, kc_i3, kc_i4, kc_i5, kc_b_m100, kc_b_m16, kc_b_m15, kc_b_m14, kc_b_m13, kc_b_m12, kc_b_m11, kc_b_m2, kc_b_6, kc_b_7, kc_b_8, kc_b_9, kc_b_10, kc_b_11, kc_b_12, kc_b_13, kc_b_14, kc_b_15, kc_b_16, kc_b_20, kc_b_24, kc_b_32, kc_b_37, kc_b_40, kc_b_42, kc_b_43, kc_b_45, kc_b_47, kc_b_48, kc_b_57, kc_b_58, kc_b_59, kc_b_60, kc_b_61, kc_b_62, kc_b_63, kc_b_91, kc_b_93, kc_b_97, kc_b_99, kc_b_100, kc_b_106, kc_b_122, kc_s_206, kc_s_226, kc_s_227, kc_s_255, kc_s_256, kc_s_316, kc_s_318, kc_s_400, kc_s_512, kc_s_999, kc_s_1160, kc_s_1536, kc_s_3003, kc_lm11, kc_lm10, kc_lm9, kc_lm8, kc_lm7, kc_lm6, kc_lm5, kc_lm4, kc_lm3, kc_lm2, kc_lm1, kc_l1, kc_l2, kc_l3, kc_l4, kc_l5, kc_l6, kc_l7, kc_l8, kc_l9, kc_l10, kc_l11, kc_l12, kc_l13, kc_l14, kc_l37, kc_l42, kc_l43, kc_l45, kc_l47, kc_l60, kc_l61, kc_l62, kc_l316, kc_l318, kc_l65536, kc_l99999, kc_l1000000, kc_l252645135, kc_l858993459, kc_l1431655765, kc_0, kc_on]
  refine sp_neg (by decide) ?_
  rw [in_t h (lo := Int64.ofNat 1) (hi := 10) (a := 1) (n := 10) m1 m2 (by omega) rfl rfl, Option.bind_some]
  refine sp_neg (by decide) ?_
  rw [in_t h (lo := Int64.ofNat 1) (hi := 20) (a := 1) (n := 20) n1 n2 (by omega) rfl rfl, Option.bind_some]
  refine sp_neg (by decide) ?_
  rw [in_t h (lo := Int64.ofNat 0) (hi := 100) (a := 0) (n := 100) (Nat.zero_le _) hp (by omega) rfl rfl, Option.bind_some]
  refine sp_neg (by decide) ?_
  rw [in_t h (lo := Int64.ofNat 0) (hi := Int64.ofNat 1) (a := 0) (n := 1) (Nat.zero_le _) hj (by omega) rfl rfl, Option.bind_some]
  refine sp_pos (by decide) ?_
  rw [sp_bd, x21, nI_64 hX]
  have R1 : RF (pm_setL h 193 31 (qN X)) := R
  have M1 : MI (pm_setL h 193 31 (qN X)) A := ⟨R1, hA, w⟩
  rw [ra_193_20 R1, Option.bind_some, mn_203, gi_n (by omega), nx_cl (by omega), show (pm_setL h 193 31 (qN X)).2.1 203 = A from hA]
  refine sp_pos (by simp) ?_
  have V := m_voy88 (X := X) M1 (rl_s _) hX h4 hp m2 n2 hj
  have fin : ∀ z : Int32 × pm_H, (z.1 = vVoy A X m n p j ∧ FM (pm_setL h 193 31 (qN X)) z.2) → z.1 = vVoy A X m n p j ∧ FM h z.2 := by
    rintro z ⟨e, f⟩
    exact ⟨e, ((FN.setL h 31 (qN X)).fm rfl).trans f⟩
  by_cases hb : bN A = 0
  · rw [hb] at V
    exact sp_pos (by rw [a6neg w]; exact hb) (V.mono fin)
  · have : bb (bN A) = 256 := by unfold bb; rw [if_neg hb]
    rw [this] at V
    exact sp_neg (by rw [a6neg w]; exact hb) (V.mono fin)
end MW
