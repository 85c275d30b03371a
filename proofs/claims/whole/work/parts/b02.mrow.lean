/-! The reference: what a row of men says; the next man; bits. -/
theorem tl_map (f : Nat → Nat) (l : List Nat) : tl (fun i => f (l.getD i 0)) l.length = l.map f := by
  have : tl (fun i => f (l.getD i 0)) l.length = (tl (fun i => l.getD i 0) l.length).map f := by
    unfold tl
    rw [List.map_map]
    rfl
  rw [this, tl_of]
theorem m_isOf_n (h : pm_H) {s k : Nat} (hs : s < 2147483648) (hk : k < 32) : m_isOf (nI s) (nI k) h = some (nI (s.testBit k).toNat) := by
  unfold m_isOf
  simp (disch := omega) only [kc_im8, kc_im1, kc_i0, kc_i1, kc_i2, kc_i3, kc_i4, kc_i5, kc_b_m100, kc_b_m16, kc_b_m15, kc_b_m14, kc_b_m13, kc_b_m12, kc_b_m11, kc_b_m2, kc_b_6, kc_b_7, kc_b_8, kc_b_9, kc_b_10, kc_b_11, kc_b_12, kc_b_13, kc_b_14, kc_b_15, kc_b_16, kc_b_20, kc_b_24, kc_b_32, kc_b_37, kc_b_40, kc_b_42, kc_b_43, kc_b_45, kc_b_47, kc_b_48, kc_b_57, kc_b_58, kc_b_59, kc_b_60, kc_b_61, kc_b_62, kc_b_63, kc_b_91, kc_b_93, kc_b_97, kc_b_99, kc_b_100, kc_b_106, kc_b_122, kc_s_206, kc_s_226, kc_s_227, kc_s_255, kc_s_256, kc_s_316, kc_s_318, kc_s_400, kc_s_512, kc_s_999, kc_s_1160, kc_s_1536, kc_s_3003, kc_lm11, kc_lm10, kc_lm9, kc_lm8, kc_lm7, kc_lm6, kc_lm5, kc_lm4, kc_lm3, kc_lm2, kc_lm1, kc_l1, kc_l2, kc_l3, kc_l4, kc_l5, kc_l6, kc_l7, kc_l8, kc_l9, kc_l10, kc_l11, kc_l12, kc_l13, kc_l14, kc_l37, kc_l42, kc_l43, kc_l45, kc_l47, kc_l60, kc_l61, kc_l62, kc_l316, kc_l318, kc_l65536, kc_l99999, kc_l1000000, kc_l252645135, kc_l858993459, kc_l1431655765, kc_0, kc_on, nx_bit]
  cases s.testBit k <;> simp [nx_eq]
theorem m_bits_n (h : pm_H) {s : Nat} (hs : s < 2048) : m_bits (nI s) h = some (nI (pc s)) := by
  have key : ∀ (n s : Nat), s < 2048 → n + pc s ≤ 11 → wh (fun q : (Int32 × Int32) => m_bits_4 q.1 q.2 h) (nI n, nI s) = some (nI (n + pc s)) := by
    intro n s
    induction s using Nat.strongRecOn generalizing n with
    | ind s ih =>
      intro hs hn
      by_cases h0 : s = 0
      · subst h0
        refine wh_inr ?_
        unfold m_bits_4
        simp only [kc_im8, kc_im1, kc_i0, kc_i1, kc_i2, kc_i3, kc_i4, kc_i5, kc_b_m100, kc_b_m16, kc_b_m15, kc_b_m14, kc_b_m13, kc_b_m12, kc_b_m11, kc_b_m2, kc_b_6, kc_b_7, kc_b_8, kc_b_9, kc_b_10, kc_b_11, kc_b_12, kc_b_13, kc_b_14, kc_b_15, kc_b_16, kc_b_20, kc_b_24, kc_b_32, kc_b_37, kc_b_40, kc_b_42, kc_b_43, kc_b_45, kc_b_47, kc_b_48, kc_b_57, kc_b_58, kc_b_59, kc_b_60, kc_b_61, kc_b_62, kc_b_63, kc_b_91, kc_b_93, kc_b_97, kc_b_99, kc_b_100, kc_b_106, kc_b_122, kc_s_206, kc_s_226, kc_s_227, kc_s_255, kc_s_256, kc_s_316, kc_s_318, kc_s_400, kc_s_512, kc_s_999, kc_s_1160, kc_s_1536, kc_s_3003, kc_lm11, kc_lm10, kc_lm9, kc_lm8, kc_lm7, kc_lm6, kc_lm5, kc_lm4, kc_lm3, kc_lm2, kc_lm1, kc_l1, kc_l2, kc_l3, kc_l4, kc_l5, kc_l6, kc_l7, kc_l8, kc_l9, kc_l10, kc_l11, kc_l12, kc_l13, kc_l14, kc_l37, kc_l42, kc_l43, kc_l45, kc_l47, kc_l60, kc_l61, kc_l62, kc_l316, kc_l318, kc_l65536, kc_l99999, kc_l1000000, kc_l252645135, kc_l858993459, kc_l1431655765, kc_0, kc_on, if_true]
        rw [show pc 0 = 0 from by decide]
        rfl
      · have := pc_step s hs h0
        rw [wh_inl (s' := (nI (n + 1), nI (s &&& (s - 1)))) ?_]
        · rw [ih _ this.2 (n + 1) (by omega) (by omega)]
          congr 2
          omega
        · unfold m_bits_4
          simp (disch := omega) only [kc_im8, kc_im1, kc_i0, kc_i1, kc_i2, kc_i3, kc_i4, kc_i5, kc_b_m100, kc_b_m16, kc_b_m15, kc_b_m14, kc_b_m13, kc_b_m12, kc_b_m11, kc_b_m2, kc_b_6, kc_b_7, kc_b_8, kc_b_9, kc_b_10, kc_b_11, kc_b_12, kc_b_13, kc_b_14, kc_b_15, kc_b_16, kc_b_20, kc_b_24, kc_b_32, kc_b_37, kc_b_40, kc_b_42, kc_b_43, kc_b_45, kc_b_47, kc_b_48, kc_b_57, kc_b_58, kc_b_59, kc_b_60, kc_b_61, kc_b_62, kc_b_63, kc_b_91, kc_b_93, kc_b_97, kc_b_99, kc_b_100, kc_b_106, kc_b_122, kc_s_206, kc_s_226, kc_s_227, kc_s_255, kc_s_256, kc_s_316, kc_s_318, kc_s_400, kc_s_512, kc_s_999, kc_s_1160, kc_s_1536, kc_s_3003, kc_lm11, kc_lm10, kc_lm9, kc_lm8, kc_lm7, kc_lm6, kc_lm5, kc_lm4, kc_lm3, kc_lm2, kc_lm1, kc_l1, kc_l2, kc_l3, kc_l4, kc_l5, kc_l6, kc_l7, kc_l8, kc_l9, kc_l10, kc_l11, kc_l12, kc_l13, kc_l14, kc_l37, kc_l42, kc_l43, kc_l45, kc_l47, kc_l60, kc_l61, kc_l62, kc_l316, kc_l318, kc_l65536, kc_l99999, kc_l1000000, kc_l252645135, kc_l858993459, kc_l1431655765, kc_0, kc_on, nx_sub, nx_and2, nx_add, nx_eq]
          rw [if_neg h0]
  unfold m_bits
  simp only [kc_im8, kc_im1, kc_i0, kc_i1, kc_i2, kc_i3, kc_i4, kc_i5, kc_b_m100, kc_b_m16, kc_b_m15, kc_b_m14, kc_b_m13, kc_b_m12, kc_b_m11, kc_b_m2, kc_b_6, kc_b_7, kc_b_8, kc_b_9, kc_b_10, kc_b_11, kc_b_12, kc_b_13, kc_b_14, kc_b_15, kc_b_16, kc_b_20, kc_b_24, kc_b_32, kc_b_37, kc_b_40, kc_b_42, kc_b_43, kc_b_45, kc_b_47, kc_b_48, kc_b_57, kc_b_58, kc_b_59, kc_b_60, kc_b_61, kc_b_62, kc_b_63, kc_b_91, kc_b_93, kc_b_97, kc_b_99, kc_b_100, kc_b_106, kc_b_122, kc_s_206, kc_s_226, kc_s_227, kc_s_255, kc_s_256, kc_s_316, kc_s_318, kc_s_400, kc_s_512, kc_s_999, kc_s_1160, kc_s_1536, kc_s_3003, kc_lm11, kc_lm10, kc_lm9, kc_lm8, kc_lm7, kc_lm6, kc_lm5, kc_lm4, kc_lm3, kc_lm2, kc_lm1, kc_l1, kc_l2, kc_l3, kc_l4, kc_l5, kc_l6, kc_l7, kc_l8, kc_l9, kc_l10, kc_l11, kc_l12, kc_l13, kc_l14, kc_l37, kc_l42, kc_l43, kc_l45, kc_l47, kc_l60, kc_l61, kc_l62, kc_l316, kc_l318, kc_l65536, kc_l99999, kc_l1000000, kc_l252645135, kc_l858993459, kc_l1431655765, kc_0, kc_on]
  rw [key 0 s hs (by have := pc_le s hs; omega), Option.bind_some, Nat.zero_add]
theorem m_nextOf_n (h : pm_H) {a u v : Nat} (ha : a < 2147483648) (hu : u < 2147483648) (hv : v ≤ 11) : ∃ m, m_nextOf (nI a) (nI u) (nI v) h = some (nI m) ∧ v ≤ m ∧ m ≤ 11 ∧ (m < 11 → a.testBit m = true ∧ u.testBit m = false) ∧ ∀ j, v ≤ j → j < m → ¬ (a.testBit j = true ∧ u.testBit j = false) := by
  have key : SP (wh (fun q : Int32 => m_nextOf_2 (nI a) (nI u) q h) (nI v)) (fun r => ∃ m, r = nI m ∧ v ≤ m ∧ m ≤ 11 ∧ (m < 11 → a.testBit m = true ∧ u.testBit m = false) ∧ ∀ j, v ≤ j → j < m → ¬ (a.testBit j = true ∧ u.testBit j = false)) := by
    refine wh_cnt (fun i q => v ≤ i ∧ q = nI i ∧ ∀ j, v ≤ j → j < i → ¬ (a.testBit j = true ∧ u.testBit j = false)) _ 11 ?_ ?_ v (nI v) hv ⟨Nat.le_refl _, rfl, fun j _ _ => by omega⟩
    · rintro i q hi ⟨h1, rfl, h2⟩
      unfold m_nextOf_2
      simp (disch := omega) only [kc_im8, kc_im1, kc_i0, kc_i1, kc_i2, kc_i3, kc_i4, kc_i5, kc_b_m100, kc_b_m16, kc_b_m15, kc_b_m14, kc_b_m13, kc_b_m12, kc_b_m11, kc_b_m2, kc_b_6, kc_b_7, kc_b_8, kc_b_9, kc_b_10, kc_b_11, kc_b_12, kc_b_13, kc_b_14, kc_b_15, kc_b_16, kc_b_20, kc_b_24, kc_b_32, kc_b_37, kc_b_40, kc_b_42, kc_b_43, kc_b_45, kc_b_47, kc_b_48, kc_b_57, kc_b_58, kc_b_59, kc_b_60, kc_b_61, kc_b_62, kc_b_63, kc_b_91, kc_b_93, kc_b_97, kc_b_99, kc_b_100, kc_b_106, kc_b_122, kc_s_206, kc_s_226, kc_s_227, kc_s_255, kc_s_256, kc_s_316, kc_s_318, kc_s_400, kc_s_512, kc_s_999, kc_s_1160, kc_s_1536, kc_s_3003, kc_lm11, kc_lm10, kc_lm9, kc_lm8, kc_lm7, kc_lm6, kc_lm5, kc_lm4, kc_lm3, kc_lm2, kc_lm1, kc_l1, kc_l2, kc_l3, kc_l4, kc_l5, kc_l6, kc_l7, kc_l8, kc_l9, kc_l10, kc_l11, kc_l12, kc_l13, kc_l14, kc_l37, kc_l42, kc_l43, kc_l45, kc_l47, kc_l60, kc_l61, kc_l62, kc_l316, kc_l318, kc_l65536, kc_l99999, kc_l1000000, kc_l252645135, kc_l858993459, kc_l1431655765, kc_0, kc_on, nx_lt, nx_le, nx_eq, nx_add, nx_sub, nx_mul, nx_cl, n_lt_ng, n_le_ng, n_eq_ng, ng_lt_n, ng_le_n, ng_eq_n, ng_eq, ng_lt, ng_le, nx_dec, m_isOf_n, Option.bind_some]
      refine sp_neg (by omega) ?_
      cases e1 : a.testBit i with
      | false =>
        refine sp_pos rfl (sp_some.mpr ⟨by omega, rfl, fun j hj1 hj2 => ?_⟩)
        by_cases e : j = i
        · subst e; rw [e1]; simp
        · exact h2 j hj1 (by omega)
      | true =>
        refine sp_neg (by show ¬ nI 1 = nI 0; rw [nx_eq (by omega) (by omega)]; omega) ?_
        cases e2 : u.testBit i with
        | false => exact sp_pos rfl (sp_some.mpr ⟨i, rfl, h1, by omega, fun _ => ⟨e1, e2⟩, h2⟩)
        | true =>
          refine sp_neg (by show ¬ nI 1 = nI 0; rw [nx_eq (by omega) (by omega)]; omega) (sp_some.mpr ⟨by omega, rfl, fun j hj1 hj2 => ?_⟩)
          by_cases e : j = i
          · subst e; rw [e2]; simp
          · exact h2 j hj1 (by omega)
    · rintro q ⟨h1, rfl, h2⟩
      unfold m_nextOf_2
      simp (disch := omega) only [kc_im8, kc_im1, kc_i0, kc_i1, kc_i2, kc_i3, kc_i4, kc_i5, kc_b_m100, kc_b_m16, kc_b_m15, kc_b_m14, kc_b_m13, kc_b_m12, kc_b_m11, kc_b_m2, kc_b_6, kc_b_7, kc_b_8, kc_b_9, kc_b_10, kc_b_11, kc_b_12, kc_b_13, kc_b_14, kc_b_15, kc_b_16, kc_b_20, kc_b_24, kc_b_32, kc_b_37, kc_b_40, kc_b_42, kc_b_43, kc_b_45, kc_b_47, kc_b_48, kc_b_57, kc_b_58, kc_b_59, kc_b_60, kc_b_61, kc_b_62, kc_b_63, kc_b_91, kc_b_93, kc_b_97, kc_b_99, kc_b_100, kc_b_106, kc_b_122, kc_s_206, kc_s_226, kc_s_227, kc_s_255, kc_s_256, kc_s_316, kc_s_318, kc_s_400, kc_s_512, kc_s_999, kc_s_1160, kc_s_1536, kc_s_3003, kc_lm11, kc_lm10, kc_lm9, kc_lm8, kc_lm7, kc_lm6, kc_lm5, kc_lm4, kc_lm3, kc_lm2, kc_lm1, kc_l1, kc_l2, kc_l3, kc_l4, kc_l5, kc_l6, kc_l7, kc_l8, kc_l9, kc_l10, kc_l11, kc_l12, kc_l13, kc_l14, kc_l37, kc_l42, kc_l43, kc_l45, kc_l47, kc_l60, kc_l61, kc_l62, kc_l316, kc_l318, kc_l65536, kc_l99999, kc_l1000000, kc_l252645135, kc_l858993459, kc_l1431655765, kc_0, kc_on, nx_lt, nx_le, nx_eq, nx_add, nx_sub, nx_mul, nx_cl, n_lt_ng, n_le_ng, n_eq_ng, ng_lt_n, ng_le_n, ng_eq_n, ng_eq, ng_lt, ng_le, nx_dec]
      exact sp_pos (by omega) (sp_some.mpr ⟨11, rfl, h1, by omega, fun q => by omega, h2⟩)
  obtain ⟨r, h1, m, rfl, h2⟩ := key
  refine ⟨m, ?_, h2⟩
  unfold m_nextOf
  rw [h1, Option.bind_some]
section MR
variable {h : pm_H} {A : Nat → Int32}
/-- the word of a number: a man, the boy, one more -/
def WM (A mw : Nat → Int32) (m : Nat) : Int32 := if m < 9 then (if m = 8 then A 6 else A (10 + 6 * m)) else mw (m - 9)
theorem m_wordIn_n (R : RF h) (hA : h.2.1 203 = A) {m : Nat} (hm : m < 11) : m_wordIn 193 (nI m) h = some (WM A (h.2.1 206) m) := by
  unfold m_wordIn m_wordOfMan WM
  simp (disch := omega) only [kc_im8, kc_im1, kc_i0, kc_i1, kc_i2, kc_i3, kc_i4, kc_i5, kc_b_m100, kc_b_m16, kc_b_m15, kc_b_m14, kc_b_m13, kc_b_m12, kc_b_m11, kc_b_m2, kc_b_6, kc_b_7, kc_b_8, kc_b_9, kc_b_10, kc_b_11, kc_b_12, kc_b_13, kc_b_14, kc_b_15, kc_b_16, kc_b_20, kc_b_24, kc_b_32, kc_b_37, kc_b_40, kc_b_42, kc_b_43, kc_b_45, kc_b_47, kc_b_48, kc_b_57, kc_b_58, kc_b_59, kc_b_60, kc_b_61, kc_b_62, kc_b_63, kc_b_91, kc_b_93, kc_b_97, kc_b_99, kc_b_100, kc_b_106, kc_b_122, kc_s_206, kc_s_226, kc_s_227, kc_s_255, kc_s_256, kc_s_316, kc_s_318, kc_s_400, kc_s_512, kc_s_999, kc_s_1160, kc_s_1536, kc_s_3003, kc_lm11, kc_lm10, kc_lm9, kc_lm8, kc_lm7, kc_lm6, kc_lm5, kc_lm4, kc_lm3, kc_lm2, kc_lm1, kc_l1, kc_l2, kc_l3, kc_l4, kc_l5, kc_l6, kc_l7, kc_l8, kc_l9, kc_l10, kc_l11, kc_l12, kc_l13, kc_l14, kc_l37, kc_l42, kc_l43, kc_l45, kc_l47, kc_l60, kc_l61, kc_l62, kc_l316, kc_l318, kc_l65536, kc_l99999, kc_l1000000, kc_l252645135, kc_l858993459, kc_l1431655765, kc_0, kc_on, nx_lt, nx_le, nx_eq, nx_add, nx_sub, nx_mul, nx_cl, n_lt_ng, n_le_ng, n_eq_ng, ng_lt_n, ng_le_n, ng_eq_n, ng_eq, ng_lt, ng_le, nx_dec, ra_193_20 R, ra_193_25 R, Option.bind_some, mn_203, mn_206, gi_n, hA]
  by_cases h9 : m < 9
  · rw [if_pos h9, if_pos h9]
    by_cases h8 : m = 8
    · rw [if_neg (by omega), if_pos h8]; simp
    · rw [if_pos h8, if_neg h8, m_manOf_n R hA (by omega)]; simp
  · rw [if_neg h9, if_neg h9, if_pos (by simp; omega)]
/-- the row of men stands in the cell -/
def MROW (h : pm_H) (p : List Nat) : Prop := ∀ i, i < p.length → h.2.1 205 i = nI (p.getD i 0)
def ov (o : Option Nat) : Int32 := match o with
  | some o => nI o
  | none => ng 1
theorem m_says (w : WFA A) (R : RF h) (hA : h.2.1 203 = A) {p : List Nat} {wf : Nat → Nat} (hp : MROW h p) (hp5 : p.length ≤ 5) (hw : ∀ m ∈ p, m < 11 ∧ WM A (h.2.1 206) m = nI (wf m) ∧ wf m < 10) : SP (m_saysRow 193 (nI p.length) h) (fun z => z.1 = ov (syA A (p.map wf)) ∧ FrM (· = 204) (· = 23) h z.2) := by
  have hgm : ∀ i, i < p.length → p.getD i 0 ∈ p := by
    intro i hi
    rw [List.getD_eq_getElem?_getD, List.getElem?_eq_getElem hi]
    exact List.getElem_mem hi
  have key : SP (wh (fun q : (Int32 × pm_H) => m_saysRow_2 193 (nI p.length) q.1 q.2) (nI 0, h)) (fun h' => FrM (· = 204) (fun _ => False) h h' ∧ ∀ i, i < p.length → h'.2.1 204 i = nI (wf (p.getD i 0))) := by
    refine wh_cnt (fun i q => q.1 = nI i ∧ FrM (· = 204) (fun _ => False) h q.2 ∧ ∀ j, j < i → q.2.2.1 204 j = nI (wf (p.getD j 0))) _ p.length ?_ ?_ 0 (nI 0, h) (by omega) ⟨rfl, FrM.refl _ _ _, fun j hj => by omega⟩
    · rintro i ⟨x, h1⟩ hi ⟨rfl, f1, c1⟩
      dsimp only at f1 c1
      have R1 := R.fm f1
      have hA1 : h1.2.1 203 = A := by rw [f1.i (by omega) (by omega)]; exact hA
      have hr1 : h1.2.1 205 i = nI (p.getD i 0) := by rw [f1.i (by omega) (by omega)]; exact hp i hi
      have ww := hw _ (hgm i hi)
      have h206 : h1.2.1 206 = h.2.1 206 := f1.i (by omega) (by omega)
      unfold m_saysRow_2
      simp (disch := omega) only [kc_im8, kc_im1, kc_i0, kc_i1, kc_i2, kc_i3, kc_i4, kc_i5, kc_b_m100, kc_b_m16, kc_b_m15, kc_b_m14, kc_b_m13, kc_b_m12, kc_b_m11, kc_b_m2, kc_b_6, kc_b_7, kc_b_8, kc_b_9, kc_b_10, kc_b_11, kc_b_12, kc_b_13, kc_b_14, kc_b_15, kc_b_16, kc_b_20, kc_b_24, kc_b_32, kc_b_37, kc_b_40, kc_b_42, kc_b_43, kc_b_45, kc_b_47, kc_b_48, kc_b_57, kc_b_58, kc_b_59, kc_b_60, kc_b_61, kc_b_62, kc_b_63, kc_b_91, kc_b_93, kc_b_97, kc_b_99, kc_b_100, kc_b_106, kc_b_122, kc_s_206, kc_s_226, kc_s_227, kc_s_255, kc_s_256, kc_s_316, kc_s_318, kc_s_400, kc_s_512, kc_s_999, kc_s_1160, kc_s_1536, kc_s_3003, kc_lm11, kc_lm10, kc_lm9, kc_lm8, kc_lm7, kc_lm6, kc_lm5, kc_lm4, kc_lm3, kc_lm2, kc_lm1, kc_l1, kc_l2, kc_l3, kc_l4, kc_l5, kc_l6, kc_l7, kc_l8, kc_l9, kc_l10, kc_l11, kc_l12, kc_l13, kc_l14, kc_l37, kc_l42, kc_l43, kc_l45, kc_l47, kc_l60, kc_l61, kc_l62, kc_l316, kc_l318, kc_l65536, kc_l99999, kc_l1000000, kc_l252645135, kc_l858993459, kc_l1431655765, kc_0, kc_on, nx_lt, nx_le, nx_eq, nx_add, nx_sub, nx_mul, nx_cl, n_lt_ng, n_le_ng, n_eq_ng, ng_lt_n, ng_le_n, ng_eq_n, ng_eq, ng_lt, ng_le, nx_dec, ra_193_22 R1, ra_193_24 R1, Option.bind_some, mn_204, mn_205, gi_n, hr1, m_wordIn_n R1 hA1 ww.1, h206, ww.2.1]
      refine sp_neg (by omega) (sp_pos (by simp; omega) (sp_pos (by simp; omega) ?_))
      rw [sp_bd, sp_some]
      refine ⟨rfl, f1.setI (by omega) rfl, fun j hj => ?_⟩
      show (pm_setI h1 204 i _).2.1 204 j = _
      by_cases e : j = i
      · subst e; exact ri_s _
      · rw [ri_j _ e]; exact c1 j (by omega)
    · rintro ⟨x, h1⟩ ⟨rfl, f1, c1⟩
      unfold m_saysRow_2
      simp (disch := omega) only [kc_im8, kc_im1, kc_i0, kc_i1, kc_i2, kc_i3, kc_i4, kc_i5, kc_b_m100, kc_b_m16, kc_b_m15, kc_b_m14, kc_b_m13, kc_b_m12, kc_b_m11, kc_b_m2, kc_b_6, kc_b_7, kc_b_8, kc_b_9, kc_b_10, kc_b_11, kc_b_12, kc_b_13, kc_b_14, kc_b_15, kc_b_16, kc_b_20, kc_b_24, kc_b_32, kc_b_37, kc_b_40, kc_b_42, kc_b_43, kc_b_45, kc_b_47, kc_b_48, kc_b_57, kc_b_58, kc_b_59, kc_b_60, kc_b_61, kc_b_62, kc_b_63, kc_b_91, kc_b_93, kc_b_97, kc_b_99, kc_b_100, kc_b_106, kc_b_122, kc_s_206, kc_s_226, kc_s_227, kc_s_255, kc_s_256, kc_s_316, kc_s_318, kc_s_400, kc_s_512, kc_s_999, kc_s_1160, kc_s_1536, kc_s_3003, kc_lm11, kc_lm10, kc_lm9, kc_lm8, kc_lm7, kc_lm6, kc_lm5, kc_lm4, kc_lm3, kc_lm2, kc_lm1, kc_l1, kc_l2, kc_l3, kc_l4, kc_l5, kc_l6, kc_l7, kc_l8, kc_l9, kc_l10, kc_l11, kc_l12, kc_l13, kc_l14, kc_l37, kc_l42, kc_l43, kc_l45, kc_l47, kc_l60, kc_l61, kc_l62, kc_l316, kc_l318, kc_l65536, kc_l99999, kc_l1000000, kc_l252645135, kc_l858993459, kc_l1431655765, kc_0, kc_on, nx_lt, nx_le, nx_eq, nx_add, nx_sub, nx_mul, nx_cl, n_lt_ng, n_le_ng, n_eq_ng, ng_lt_n, ng_le_n, ng_eq_n, ng_eq, ng_lt, ng_le, nx_dec]
      exact sp_pos (by omega) (sp_some.mpr ⟨f1, c1⟩)
  unfold m_saysRow
  refine sp_call key ?_
  rintro h1 ⟨f1, c1⟩
  rw [sp_bd]
  generalize hh2 : pm_setI h1 193 23 (nI p.length) = h2
  have f2 : FrM (· = 204) (· = 23) h h2 := by rw [← hh2]; exact (f1.mono (fun _ q => q) (fun _ q => q.elim)).setF rfl
  have e23 : h2.2.1 193 23 = nI p.length := by rw [← hh2]; exact ri_s _
  have c2 : ROW h2 204 (fun i => wf (p.getD i 0)) p.length := by
    intro i hi
    rw [← hh2, ri_c _ (by omega)]
    exact ⟨c1 i hi, (hw _ (hgm i hi)).2.2⟩
  clear hh2
  have R2 := R.fm f2
  have hA2 : h2.2.1 203 = A := by rw [f2.i (by omega) (by omega)]; exact hA
  refine sp_call (m_mean w R2 hA2 e23 hp5 c2) ?_
  rintro h3 ⟨f3, k, g', e3, hk, r3, ht⟩
  have f13 := f2.trans f3
  have hA3 : h3.2.1 203 = A := by rw [f13.i (by omega) (by omega)]; exact hA
  rw [m_ordHeard w (R.fm f13) hA3 e3 (by omega) r3, Option.bind_some, sp_some, ht, tl_map]
  exact ⟨rfl, f13⟩
end MR
