/-! Questions: need, the boy's word. -/
theorem find_congr {p q : Nat → Bool} : ∀ {l : List Nat}, (∀ x ∈ l, p x = q x) → l.find? p = l.find? q
  | [], _ => rfl
  | a :: l, h => by
    rw [List.find?_cons, List.find?_cons, h a List.mem_cons_self, find_congr (fun x hx => h x (List.mem_cons_of_mem _ hx))]
/-- only the ship's part counts for what rows say -/
theorem syA_congr {A B : Nat → Int32} (w : WFA A) (h2 : A 2 = B 2) (ho : ∀ j, 58 ≤ j → j < 206 → A j = B j) : syA A = syA B := by
  have e2 := w.e2
  have hmn : mnA A = mnA B := by
    funext a b
    unfold mnA
    by_cases q : a < 10 ∧ b < 10
    · have e := ho (106 + 10 * a + b) (by omega) (by omega)
      unfold an
      rw [e]
    · rw [if_neg (fun z => q ⟨z.1, z.2.1⟩), if_neg (fun z => q ⟨z.1, z.2.1⟩)]
  have hn : an A 2 = an B 2 := by unfold an; rw [h2]
  funext v
  unfold syA ordOf
  rw [hmn, ← hn]
  apply find_congr
  intro o hom
  have ho2 := List.mem_range.mp hom
  have hl := w.o1 ho2
  have : rowL A o = rowL B o := by
    unfold rowL
    have e1 : an A (58 + 6 * o + 1) = an B (58 + 6 * o + 1) := by unfold an; rw [ho _ (by omega) (by omega)]
    rw [← e1]
    refine tl_congr (fun i hi => ?_)
    unfold an
    rw [ho _ (by omega) (by omega)]
  rw [this]
theorem cN_congr {A B : Nat → Int32} {b S : Nat} (hs : syA A = syA B) (hw : ∀ m, S.testBit m = true → wfb A b m = wfb B b m) : cN A b S = cN B b S := by
  have main : ∀ o, can (syA A) (wfb A b) S o ↔ can (syA B) (wfb B b) S o := by
    intro o
    constructor
    · rintro ⟨T, h1, p, h2, h3, h4, h5⟩
      refine ⟨T, h1, p, h2, h3, h4, ?_⟩
      rw [← h5, hs]
      congr 1
      exact List.map_congr_left (fun m hm => (hw m (h1 m (by rw [← h4]; exact mem_setOf.mp hm))).symm)
    · rintro ⟨T, h1, p, h2, h3, h4, h5⟩
      refine ⟨T, h1, p, h2, h3, h4, ?_⟩
      rw [← h5, hs]
      congr 1
      exact List.map_congr_left (fun m hm => hw m (h1 m (by rw [← h4]; exact mem_setOf.mp hm)))
  unfold cN
  refine bs_congr (fun o _ => ?_)
  exact decide_eq_decide.mpr (main o)
def ndS (A : Nat → Int32) (ords : Nat) : Nat → Nat
  | 0 => 0
  | i + 1 => ndS A ords i + (if ords.testBit i = true then an A (58 + 6 * i) else 0)
def ndN (A : Nat → Int32) (ords : Nat) : Nat := ndS A ords (an A 2)
theorem ndS_le {A : Nat → Int32} (w : WFA A) (ords : Nat) : ∀ i, i ≤ an A 2 → ndS A ords i ≤ i * 100
  | 0, _ => by simp [ndS]
  | i + 1, h => by
    rw [ndS]
    have h1 := ndS_le w ords i (by omega)
    have h2 := (w.o0 (o := i) (by omega)).2
    split <;> omega
section BY
variable {h : pm_H} {s : Nat} {A : Nat → Int32}
theorem a_needOf_n (S : CSh h s A) (w : WFA A) (R : RF h) {ords : Nat} (ho : ords < 2147483648) : a_needOf s (nI ords) h = some (nI (ndN A ords)) := by
  have h2 := w.e2
  have key : wh (fun z : (Int32 × Int32) => a_needOf_4 s (nI ords) z.1 z.2 h) (nI 0, nI 0) = some (nI (ndN A ords)) := by
    refine wh_for (fun i => (nI (ndS A ords i), nI i)) (an A 2) 0 (by omega) (fun i _ hi => ?_) ?_
    · have o0 := w.o0 hi
      have hl := ndS_le w ords i (by omega)
      unfold a_needOf_4
      simp (disch := omega) only [kc_im8, kc_im1, kc_i0, kc_i1, kc_i2, kc_i3, kc_i4, kc_i5, kc_b_m100, kc_b_m16, kc_b_m15, kc_b_m14, kc_b_m13, kc_b_m12, kc_b_m11, kc_b_m2, kc_b_6, kc_b_7, kc_b_8, kc_b_9, kc_b_10, kc_b_11, kc_b_12, kc_b_13, kc_b_14, kc_b_15, kc_b_16, kc_b_20, kc_b_24, kc_b_32, kc_b_37, kc_b_40, kc_b_42, kc_b_43, kc_b_45, kc_b_47, kc_b_48, kc_b_57, kc_b_58, kc_b_59, kc_b_60, kc_b_61, kc_b_62, kc_b_63, kc_b_91, kc_b_93, kc_b_97, kc_b_99, kc_b_100, kc_b_106, kc_b_122, kc_s_206, kc_s_226, kc_s_227, kc_s_255, kc_s_256, kc_s_316, kc_s_318, kc_s_400, kc_s_512, kc_s_999, kc_s_1160, kc_s_1536, kc_s_3003, kc_lm11, kc_lm10, kc_lm9, kc_lm8, kc_lm7, kc_lm6, kc_lm5, kc_lm4, kc_lm3, kc_lm2, kc_lm1, kc_l1, kc_l2, kc_l3, kc_l4, kc_l5, kc_l6, kc_l7, kc_l8, kc_l9, kc_l10, kc_l11, kc_l12, kc_l13, kc_l14, kc_l37, kc_l42, kc_l43, kc_l45, kc_l47, kc_l60, kc_l61, kc_l62, kc_l316, kc_l318, kc_l65536, kc_l99999, kc_l1000000, kc_l252645135, kc_l858993459, kc_l1431655765, kc_0, kc_on, S.2.2.2.1, h2.1, nx_lt, nx_le, nx_eq, nx_add, nx_sub, nx_mul, nx_cl, n_lt_ng, n_le_ng, n_eq_ng, ng_lt_n, ng_le_n, ng_eq_n, ng_eq, ng_lt, ng_le, nx_dec, x_bit_n, rf_s6 R S.1, ln_s6 S.1, Option.bind_some, gi_n, (S.2.2.2.2.2.2.1 i hi).1, o0.1]
      rw [if_neg (by omega), if_neg (by omega), if_pos (by simp; omega), ndS]
      cases ords.testBit i <;> simp
    · unfold a_needOf_4
      simp (disch := omega) only [kc_im8, kc_im1, kc_i0, kc_i1, kc_i2, kc_i3, kc_i4, kc_i5, kc_b_m100, kc_b_m16, kc_b_m15, kc_b_m14, kc_b_m13, kc_b_m12, kc_b_m11, kc_b_m2, kc_b_6, kc_b_7, kc_b_8, kc_b_9, kc_b_10, kc_b_11, kc_b_12, kc_b_13, kc_b_14, kc_b_15, kc_b_16, kc_b_20, kc_b_24, kc_b_32, kc_b_37, kc_b_40, kc_b_42, kc_b_43, kc_b_45, kc_b_47, kc_b_48, kc_b_57, kc_b_58, kc_b_59, kc_b_60, kc_b_61, kc_b_62, kc_b_63, kc_b_91, kc_b_93, kc_b_97, kc_b_99, kc_b_100, kc_b_106, kc_b_122, kc_s_206, kc_s_226, kc_s_227, kc_s_255, kc_s_256, kc_s_316, kc_s_318, kc_s_400, kc_s_512, kc_s_999, kc_s_1160, kc_s_1536, kc_s_3003, kc_lm11, kc_lm10, kc_lm9, kc_lm8, kc_lm7, kc_lm6, kc_lm5, kc_lm4, kc_lm3, kc_lm2, kc_lm1, kc_l1, kc_l2, kc_l3, kc_l4, kc_l5, kc_l6, kc_l7, kc_l8, kc_l9, kc_l10, kc_l11, kc_l12, kc_l13, kc_l14, kc_l37, kc_l42, kc_l43, kc_l45, kc_l47, kc_l60, kc_l61, kc_l62, kc_l316, kc_l318, kc_l65536, kc_l99999, kc_l1000000, kc_l252645135, kc_l858993459, kc_l1431655765, kc_0, kc_on, S.2.2.2.1, h2.1, nx_lt, nx_le, nx_eq, nx_add, nx_sub, nx_mul, nx_cl, n_lt_ng, n_le_ng, n_eq_ng, ng_lt_n, ng_le_n, ng_eq_n, ng_eq, ng_lt, ng_le, nx_dec]
      rw [if_pos (by omega)]
      rfl
  unfold a_needOf
  simp only [kc_im8, kc_im1, kc_i0, kc_i1, kc_i2, kc_i3, kc_i4, kc_i5, kc_b_m100, kc_b_m16, kc_b_m15, kc_b_m14, kc_b_m13, kc_b_m12, kc_b_m11, kc_b_m2, kc_b_6, kc_b_7, kc_b_8, kc_b_9, kc_b_10, kc_b_11, kc_b_12, kc_b_13, kc_b_14, kc_b_15, kc_b_16, kc_b_20, kc_b_24, kc_b_32, kc_b_37, kc_b_40, kc_b_42, kc_b_43, kc_b_45, kc_b_47, kc_b_48, kc_b_57, kc_b_58, kc_b_59, kc_b_60, kc_b_61, kc_b_62, kc_b_63, kc_b_91, kc_b_93, kc_b_97, kc_b_99, kc_b_100, kc_b_106, kc_b_122, kc_s_206, kc_s_226, kc_s_227, kc_s_255, kc_s_256, kc_s_316, kc_s_318, kc_s_400, kc_s_512, kc_s_999, kc_s_1160, kc_s_1536, kc_s_3003, kc_lm11, kc_lm10, kc_lm9, kc_lm8, kc_lm7, kc_lm6, kc_lm5, kc_lm4, kc_lm3, kc_lm2, kc_lm1, kc_l1, kc_l2, kc_l3, kc_l4, kc_l5, kc_l6, kc_l7, kc_l8, kc_l9, kc_l10, kc_l11, kc_l12, kc_l13, kc_l14, kc_l37, kc_l42, kc_l43, kc_l45, kc_l47, kc_l60, kc_l61, kc_l62, kc_l316, kc_l318, kc_l65536, kc_l99999, kc_l1000000, kc_l252645135, kc_l858993459, kc_l1431655765, kc_0, kc_on, key, Option.bind_some]
theorem m_needOf_n (M : MI h A) {ords : Nat} (ho : ords < 2147483648) : m_needOf 193 (nI ords) h = some (nI (ndN A ords)) := by
  obtain ⟨R, hA, w⟩ := M
  have h2 := w.e2
  have key : wh (fun z : (Int32 × Int32) => m_needOf_4 193 (nI ords) z.1 z.2 h) (nI 0, nI 0) = some (nI (ndN A ords)) := by
    refine wh_for (fun i => (nI (ndS A ords i), nI i)) (an A 2) 0 (by omega) (fun i _ hi => ?_) ?_
    · have o0 := w.o0 hi
      have hl := ndS_le w ords i (by omega)
      unfold m_needOf_4 m_needOf_33
      simp (disch := omega) only [kc_im8, kc_im1, kc_i0, kc_i1, kc_i2, kc_i3, kc_i4, kc_i5, kc_b_m100, kc_b_m16, kc_b_m15, kc_b_m14, kc_b_m13, kc_b_m12, kc_b_m11, kc_b_m2, kc_b_6, kc_b_7, kc_b_8, kc_b_9, kc_b_10, kc_b_11, kc_b_12, kc_b_13, kc_b_14, kc_b_15, kc_b_16, kc_b_20, kc_b_24, kc_b_32, kc_b_37, kc_b_40, kc_b_42, kc_b_43, kc_b_45, kc_b_47, kc_b_48, kc_b_57, kc_b_58, kc_b_59, kc_b_60, kc_b_61, kc_b_62, kc_b_63, kc_b_91, kc_b_93, kc_b_97, kc_b_99, kc_b_100, kc_b_106, kc_b_122, kc_s_206, kc_s_226, kc_s_227, kc_s_255, kc_s_256, kc_s_316, kc_s_318, kc_s_400, kc_s_512, kc_s_999, kc_s_1160, kc_s_1536, kc_s_3003, kc_lm11, kc_lm10, kc_lm9, kc_lm8, kc_lm7, kc_lm6, kc_lm5, kc_lm4, kc_lm3, kc_lm2, kc_lm1, kc_l1, kc_l2, kc_l3, kc_l4, kc_l5, kc_l6, kc_l7, kc_l8, kc_l9, kc_l10, kc_l11, kc_l12, kc_l13, kc_l14, kc_l37, kc_l42, kc_l43, kc_l45, kc_l47, kc_l60, kc_l61, kc_l62, kc_l316, kc_l318, kc_l65536, kc_l99999, kc_l1000000, kc_l252645135, kc_l858993459, kc_l1431655765, kc_0, kc_on, ra_193_20 R, mn_203, gi_n, hA, h2.1, nx_lt, nx_le, nx_eq, nx_add, nx_sub, nx_mul, nx_cl, n_lt_ng, n_le_ng, n_eq_ng, ng_lt_n, ng_le_n, ng_eq_n, ng_eq, ng_lt, ng_le, nx_dec, Option.bind_some, m_isOf_n, m_orderOf_n R hA (by omega : 58 + 6 * i + 0 < 227), Nat.add_zero, o0.1]
      rw [if_pos (by simp), if_neg (by omega), ndS]
      cases ords.testBit i <;> simp [nx_eq]
    · unfold m_needOf_4
      simp (disch := omega) only [kc_im8, kc_im1, kc_i0, kc_i1, kc_i2, kc_i3, kc_i4, kc_i5, kc_b_m100, kc_b_m16, kc_b_m15, kc_b_m14, kc_b_m13, kc_b_m12, kc_b_m11, kc_b_m2, kc_b_6, kc_b_7, kc_b_8, kc_b_9, kc_b_10, kc_b_11, kc_b_12, kc_b_13, kc_b_14, kc_b_15, kc_b_16, kc_b_20, kc_b_24, kc_b_32, kc_b_37, kc_b_40, kc_b_42, kc_b_43, kc_b_45, kc_b_47, kc_b_48, kc_b_57, kc_b_58, kc_b_59, kc_b_60, kc_b_61, kc_b_62, kc_b_63, kc_b_91, kc_b_93, kc_b_97, kc_b_99, kc_b_100, kc_b_106, kc_b_122, kc_s_206, kc_s_226, kc_s_227, kc_s_255, kc_s_256, kc_s_316, kc_s_318, kc_s_400, kc_s_512, kc_s_999, kc_s_1160, kc_s_1536, kc_s_3003, kc_lm11, kc_lm10, kc_lm9, kc_lm8, kc_lm7, kc_lm6, kc_lm5, kc_lm4, kc_lm3, kc_lm2, kc_lm1, kc_l1, kc_l2, kc_l3, kc_l4, kc_l5, kc_l6, kc_l7, kc_l8, kc_l9, kc_l10, kc_l11, kc_l12, kc_l13, kc_l14, kc_l37, kc_l42, kc_l43, kc_l45, kc_l47, kc_l60, kc_l61, kc_l62, kc_l316, kc_l318, kc_l65536, kc_l99999, kc_l1000000, kc_l252645135, kc_l858993459, kc_l1431655765, kc_0, kc_on, ra_193_20 R, mn_203, gi_n, hA, h2.1, nx_lt, nx_le, nx_eq, nx_add, nx_sub, nx_mul, nx_cl, n_lt_ng, n_le_ng, n_eq_ng, ng_lt_n, ng_le_n, ng_eq_n, ng_eq, ng_lt, ng_le, nx_dec, Option.bind_some]
      rw [if_pos (by simp), if_pos (by omega)]
      rfl
  unfold m_needOf
  simp only [kc_im8, kc_im1, kc_i0, kc_i1, kc_i2, kc_i3, kc_i4, kc_i5, kc_b_m100, kc_b_m16, kc_b_m15, kc_b_m14, kc_b_m13, kc_b_m12, kc_b_m11, kc_b_m2, kc_b_6, kc_b_7, kc_b_8, kc_b_9, kc_b_10, kc_b_11, kc_b_12, kc_b_13, kc_b_14, kc_b_15, kc_b_16, kc_b_20, kc_b_24, kc_b_32, kc_b_37, kc_b_40, kc_b_42, kc_b_43, kc_b_45, kc_b_47, kc_b_48, kc_b_57, kc_b_58, kc_b_59, kc_b_60, kc_b_61, kc_b_62, kc_b_63, kc_b_91, kc_b_93, kc_b_97, kc_b_99, kc_b_100, kc_b_106, kc_b_122, kc_s_206, kc_s_226, kc_s_227, kc_s_255, kc_s_256, kc_s_316, kc_s_318, kc_s_400, kc_s_512, kc_s_999, kc_s_1160, kc_s_1536, kc_s_3003, kc_lm11, kc_lm10, kc_lm9, kc_lm8, kc_lm7, kc_lm6, kc_lm5, kc_lm4, kc_lm3, kc_lm2, kc_lm1, kc_l1, kc_l2, kc_l3, kc_l4, kc_l5, kc_l6, kc_l7, kc_l8, kc_l9, kc_l10, kc_l11, kc_l12, kc_l13, kc_l14, kc_l37, kc_l42, kc_l43, kc_l45, kc_l47, kc_l60, kc_l61, kc_l62, kc_l316, kc_l318, kc_l65536, kc_l99999, kc_l1000000, kc_l252645135, kc_l858993459, kc_l1431655765, kc_0, kc_on, key, Option.bind_some]
/-- the need with a word for the boy -/
noncomputable def nW (A : Nat → Int32) (v : Nat) : Nat := ndN A (cN A (v + 1) (hrdM A ||| 256))
noncomputable def bl (A : Nat → Int32) : Nat → Option (Nat × Nat)
  | 0 => none
  | i + 1 => match bl A i with
    | none => some (i, nW A i)
    | some q => if q.2 < nW A i then some (i, nW A i) else some q
theorem bl_some (A : Nat → Int32) : ∀ i, 0 < i → ∃ f, f < i ∧ bl A i = some (f, nW A f)
  | 0, h => by omega
  | 1, _ => ⟨0, by omega, rfl⟩
  | i + 2, _ => by
    obtain ⟨f, h1, h2⟩ := bl_some A (i + 1) (by omega)
    rw [bl, h2]
    dsimp only
    by_cases q : nW A f < nW A (i + 1)
    · rw [if_pos q]; exact ⟨i + 1, by omega, rfl⟩
    · rw [if_neg q]; exact ⟨f, by omega, rfl⟩
theorem nW_lt (w : WFA A) (v : Nat) : nW A v < 1000 := by
  have := ndS_le w (cN A (v + 1) (hrdM A ||| 256)) (an A 2) (Nat.le_refl _)
  have h2 := w.e2
  unfold nW ndN
  omega
noncomputable def vBoy (A : Nat → Int32) (y : Int32) : Int32 := @ite Int32 (0 < an A 0 ∧ ∃ k, k ≤ 1 ∧ y = nI k) (Classical.propDecidable _) (match bl A (an A 0) with
  | none => ng 1
  | some q => if y = nI 0 then nI q.1 else nI q.2) (ng 1)
theorem a_needWith_sp (Q : QI h s A) (h0 : 0 < an A 0) {v : Nat} (hv : v < an A 0) : SP (a_needWith 68 s 169 (nI v) h) (fun z => z.1 = nI (nW A v) ∧ Fq QF h z.2 ∧ QI z.2 s A) := by
  have Q' := Q
  obtain ⟨R, h1, S, H, D, w, C⟩ := Q
  have hr := hrd_255 w
  have e0 := w.e0
  unfold a_needWith
  rw [ra_68_0 R, Option.bind_some, n_heard_c S H w R, Option.bind_some, show nI v = bv (v + 1) from rfl]
  refine sp_call (k_ord Q' h0 (b := v + 1) (by omega) (by rw [hr.1]; exact hr.2.1)) ?_
  rintro ⟨x, h2⟩ ⟨e, f2, Q2⟩
  dsimp only at e f2 Q2
  subst e
  have hc := cN_lt A (v + 1) (hrdM A ||| 256)
  dsimp only
  rw [hr.1, show bb (v + 1) = 256 from rfl, a_needOf_n Q2.2.2.1 w Q2.1 (by omega), Option.bind_some, sp_some]
  exact ⟨rfl, f2.q.mono (fun c hc => hc.qf), Q2⟩
theorem a_lesson_sp (Q : QI h s A) (h0 : 0 < an A 0) : SP (a_bestLesson 68 s 169 h) (fun z => (∃ f g, bl A (an A 0) = some (f, g) ∧ z.1 = nI f) ∧ Fq QF h z.2 ∧ QI z.2 s A) := by
  have w := Q.2.2.2.2.2.1
  have e0 := w.e0
  unfold a_bestLesson
  simp only [kc_im8, kc_im1, kc_i0, kc_i1, kc_i2, kc_i3, kc_i4, kc_i5, kc_b_m100, kc_b_m16, kc_b_m15, kc_b_m14, kc_b_m13, kc_b_m12, kc_b_m11, kc_b_m2, kc_b_6, kc_b_7, kc_b_8, kc_b_9, kc_b_10, kc_b_11, kc_b_12, kc_b_13, kc_b_14, kc_b_15, kc_b_16, kc_b_20, kc_b_24, kc_b_32, kc_b_37, kc_b_40, kc_b_42, kc_b_43, kc_b_45, kc_b_47, kc_b_48, kc_b_57, kc_b_58, kc_b_59, kc_b_60, kc_b_61, kc_b_62, kc_b_63, kc_b_91, kc_b_93, kc_b_97, kc_b_99, kc_b_100, kc_b_106, kc_b_122, kc_s_206, kc_s_226, kc_s_227, kc_s_255, kc_s_256, kc_s_316, kc_s_318, kc_s_400, kc_s_512, kc_s_999, kc_s_1160, kc_s_1536, kc_s_3003, kc_lm11, kc_lm10, kc_lm9, kc_lm8, kc_lm7, kc_lm6, kc_lm5, kc_lm4, kc_lm3, kc_lm2, kc_lm1, kc_l1, kc_l2, kc_l3, kc_l4, kc_l5, kc_l6, kc_l7, kc_l8, kc_l9, kc_l10, kc_l11, kc_l12, kc_l13, kc_l14, kc_l37, kc_l42, kc_l43, kc_l45, kc_l47, kc_l60, kc_l61, kc_l62, kc_l316, kc_l318, kc_l65536, kc_l99999, kc_l1000000, kc_l252645135, kc_l858993459, kc_l1431655765, kc_0, kc_on]
  refine sp_call (P := fun z : Int32 × pm_H => (∃ f g, bl A (an A 0) = some (f, g) ∧ z.1 = nI f) ∧ Fq QF h z.2 ∧ QI z.2 s A) ?_ (fun r hr => sp_some.mpr hr)
  refine wh_cnt (fun i z => ((i = 0 ∧ z.1 = nI 0 ∧ z.2.1 = ng 1) ∨ ∃ f, f < i ∧ bl A i = some (f, nW A f) ∧ z.1 = nI f ∧ z.2.1 = nI (nW A f)) ∧ z.2.2.1 = nI i ∧ Fq QF h z.2.2.2 ∧ QI z.2.2.2 s A) _ (an A 0) ?_ ?_ 0 (nI 0, ng 1, nI 0, h) (by omega) ⟨.inl ⟨rfl, rfl, rfl⟩, rfl, Fq.refl _ _, Q⟩
  · rintro i ⟨x, y, z, h2⟩ hi ⟨c, rfl, f2, Q2⟩
    dsimp only at c f2 Q2
    unfold a_bestLesson_8
    rw [Q2.2.2.1.2.1, e0.1]
    simp (disch := omega) only [kc_im8, kc_im1, kc_i0, kc_i1, kc_i2, kc_i3, kc_i4, kc_i5, kc_b_m100, kc_b_m16, kc_b_m15, kc_b_m14, kc_b_m13, kc_b_m12, kc_b_m11, kc_b_m2, kc_b_6, kc_b_7, kc_b_8, kc_b_9, kc_b_10, kc_b_11, kc_b_12, kc_b_13, kc_b_14, kc_b_15, kc_b_16, kc_b_20, kc_b_24, kc_b_32, kc_b_37, kc_b_40, kc_b_42, kc_b_43, kc_b_45, kc_b_47, kc_b_48, kc_b_57, kc_b_58, kc_b_59, kc_b_60, kc_b_61, kc_b_62, kc_b_63, kc_b_91, kc_b_93, kc_b_97, kc_b_99, kc_b_100, kc_b_106, kc_b_122, kc_s_206, kc_s_226, kc_s_227, kc_s_255, kc_s_256, kc_s_316, kc_s_318, kc_s_400, kc_s_512, kc_s_999, kc_s_1160, kc_s_1536, kc_s_3003, kc_lm11, kc_lm10, kc_lm9, kc_lm8, kc_lm7, kc_lm6, kc_lm5, kc_lm4, kc_lm3, kc_lm2, kc_lm1, kc_l1, kc_l2, kc_l3, kc_l4, kc_l5, kc_l6, kc_l7, kc_l8, kc_l9, kc_l10, kc_l11, kc_l12, kc_l13, kc_l14, kc_l37, kc_l42, kc_l43, kc_l45, kc_l47, kc_l60, kc_l61, kc_l62, kc_l316, kc_l318, kc_l65536, kc_l99999, kc_l1000000, kc_l252645135, kc_l858993459, kc_l1431655765, kc_0, kc_on, nx_lt, nx_le, nx_eq, nx_add, nx_sub, nx_mul, nx_cl, n_lt_ng, n_le_ng, n_eq_ng, ng_lt_n, ng_le_n, ng_eq_n, ng_eq, ng_lt, ng_le, nx_dec]
    refine sp_neg (by omega) ?_
    refine sp_call (a_needWith_sp Q2 h0 hi) ?_
    rintro ⟨v, h3⟩ ⟨e, f3, Q3⟩
    dsimp only at e f3 Q3
    subst e
    dsimp only
    have hn := nW_lt w i
    have f23 := f2.trans f3
    rcases c with ⟨rfl, rfl, rfl⟩ | ⟨f, hf, hb, rfl, rfl⟩
    · refine sp_neg (by rw [n_le_ng (by omega) (by omega) (by omega)]; exact id) (sp_some.mpr ⟨.inr ⟨0, by omega, rfl, rfl, rfl⟩, rfl, f23, Q3⟩)
    · have hnf := nW_lt w f
      by_cases q : nW A i ≤ nW A f
      · refine sp_pos (by rw [nx_le (by omega) (by omega)]; exact q) (sp_some.mpr ⟨.inr ⟨f, by omega, ?_, rfl, rfl⟩, rfl, f23, Q3⟩)
        rw [bl, hb]
        dsimp only
        rw [if_neg (by omega)]
      · refine sp_neg (by rw [nx_le (by omega) (by omega)]; exact q) (sp_some.mpr ⟨.inr ⟨i, by omega, ?_, rfl, rfl⟩, rfl, f23, Q3⟩)
        rw [bl, hb]
        dsimp only
        rw [if_pos (by omega)]
  · rintro ⟨x, y, z, h2⟩ ⟨c, rfl, f2, Q2⟩
    dsimp only at c f2 Q2
    unfold a_bestLesson_8
    rw [Q2.2.2.1.2.1, e0.1]
    simp (disch := omega) only [kc_im8, kc_im1, kc_i0, kc_i1, kc_i2, kc_i3, kc_i4, kc_i5, kc_b_m100, kc_b_m16, kc_b_m15, kc_b_m14, kc_b_m13, kc_b_m12, kc_b_m11, kc_b_m2, kc_b_6, kc_b_7, kc_b_8, kc_b_9, kc_b_10, kc_b_11, kc_b_12, kc_b_13, kc_b_14, kc_b_15, kc_b_16, kc_b_20, kc_b_24, kc_b_32, kc_b_37, kc_b_40, kc_b_42, kc_b_43, kc_b_45, kc_b_47, kc_b_48, kc_b_57, kc_b_58, kc_b_59, kc_b_60, kc_b_61, kc_b_62, kc_b_63, kc_b_91, kc_b_93, kc_b_97, kc_b_99, kc_b_100, kc_b_106, kc_b_122, kc_s_206, kc_s_226, kc_s_227, kc_s_255, kc_s_256, kc_s_316, kc_s_318, kc_s_400, kc_s_512, kc_s_999, kc_s_1160, kc_s_1536, kc_s_3003, kc_lm11, kc_lm10, kc_lm9, kc_lm8, kc_lm7, kc_lm6, kc_lm5, kc_lm4, kc_lm3, kc_lm2, kc_lm1, kc_l1, kc_l2, kc_l3, kc_l4, kc_l5, kc_l6, kc_l7, kc_l8, kc_l9, kc_l10, kc_l11, kc_l12, kc_l13, kc_l14, kc_l37, kc_l42, kc_l43, kc_l45, kc_l47, kc_l60, kc_l61, kc_l62, kc_l316, kc_l318, kc_l65536, kc_l99999, kc_l1000000, kc_l252645135, kc_l858993459, kc_l1431655765, kc_0, kc_on, nx_lt, nx_le, nx_eq, nx_add, nx_sub, nx_mul, nx_cl, n_lt_ng, n_le_ng, n_eq_ng, ng_lt_n, ng_le_n, ng_eq_n, ng_eq, ng_lt, ng_le, nx_dec]
    rcases c with ⟨e, _⟩ | ⟨f, hf, hb, rfl, rfl⟩
    · omega
    · exact sp_pos (by omega) (sp_some.mpr ⟨⟨f, _, hb, rfl⟩, f2, Q2⟩)
theorem x_boy_sp (Q : QI h s A) (y : Int32) : SP (x_boy 0 y h) (fun z => z.1 = vBoy A y ∧ Fq QF h z.2 ∧ QI z.2 s A) := by
  have Q' := Q
  obtain ⟨R, h1, S, H, D, w, C⟩ := Q
  have none_ : ¬ (0 < an A 0 ∧ ∃ k, k ≤ 1 ∧ y = nI k) → SP (some (ng 1, h)) (fun z : Int32 × pm_H => z.1 = vBoy A y ∧ Fq QF h z.2 ∧ QI z.2 s A) := by
    intro q
    refine sp_some.mpr ⟨?_, Fq.refl _ _, Q'⟩
    unfold vBoy
    rw [if_neg q]
  unfold x_boy
  rw [ra_0_4 R, Option.bind_some, Q'.now, Option.bind_some, c_sails S w, Option.bind_some]
  simp only [kc_im8, kc_im1, kc_i0, kc_i1, kc_i2, kc_i3, kc_i4, kc_i5, kc_b_m100, kc_b_m16, kc_b_m15, kc_b_m14, kc_b_m13, kc_b_m12, kc_b_m11, kc_b_m2, kc_b_6, kc_b_7, kc_b_8, kc_b_9, kc_b_10, kc_b_11, kc_b_12, kc_b_13, kc_b_14, kc_b_15, kc_b_16, kc_b_20, kc_b_24, kc_b_32, kc_b_37, kc_b_40, kc_b_42, kc_b_43, kc_b_45, kc_b_47, kc_b_48, kc_b_57, kc_b_58, kc_b_59, kc_b_60, kc_b_61, kc_b_62, kc_b_63, kc_b_91, kc_b_93, kc_b_97, kc_b_99, kc_b_100, kc_b_106, kc_b_122, kc_s_206, kc_s_226, kc_s_227, kc_s_255, kc_s_256, kc_s_316, kc_s_318, kc_s_400, kc_s_512, kc_s_999, kc_s_1160, kc_s_1536, kc_s_3003, kc_lm11, kc_lm10, kc_lm9, kc_lm8, kc_lm7, kc_lm6, kc_lm5, kc_lm4, kc_lm3, kc_lm2, kc_lm1, kc_l1, kc_l2, kc_l3, kc_l4, kc_l5, kc_l6, kc_l7, kc_l8, kc_l9, kc_l10, kc_l11, kc_l12, kc_l13, kc_l14, kc_l37, kc_l42, kc_l43, kc_l45, kc_l47, kc_l60, kc_l61, kc_l62, kc_l316, kc_l318, kc_l65536, kc_l99999, kc_l1000000, kc_l252645135, kc_l858993459, kc_l1431655765, kc_0, kc_on]
  by_cases h0 : 0 < an A 0
  · refine sp_neg (by rw [decide_eq_true h0]; show ¬ nI 1 = nI 0; decide) ?_
    by_cases hy : ∃ k, k ≤ 1 ∧ y = nI k
    · obtain ⟨k, hk, rfl⟩ := hy
      obtain ⟨f, hf, hb⟩ := bl_some A (an A 0) h0
      have hv : vBoy A (nI k) = if nI k = nI 0 then nI f else nI (nW A f) := by
        unfold vBoy
        rw [if_pos ⟨h0, k, hk, rfl⟩, hb]
      rw [hv]
      refine sp_neg (by rw [nx_lt (by omega) (by omega)]; omega) (sp_pos (by rw [nx_le (by omega) (by omega)]; omega) ?_)
      rw [ra_0_7 R, Option.bind_some, Option.bind_some, Q'.now, Option.bind_some, Option.bind_some, q_hands Q', Option.bind_some]
      refine sp_call (a_lesson_sp Q' h0) ?_
      rintro ⟨v, h2⟩ ⟨⟨f', g', hb', e⟩, f2, Q2⟩
      rw [hb] at hb'
      cases hb'
      dsimp only at e f2 Q2
      subst e
      dsimp only
      have : k = 0 ∨ k = 1 := by omega
      rcases this with rfl | rfl
      · exact sp_neg (by simp) (sp_some.mpr ⟨by rw [if_pos rfl], f2, Q2⟩)
      · refine sp_pos (by decide) ?_
        rw [ra_0_7 Q2.1, Option.bind_some, ra_0_4 Q2.1, Option.bind_some, Q2.now, Option.bind_some, Option.bind_some, q_hands Q2, Option.bind_some]
        refine sp_call (a_needWith_sp Q2 h0 hf) ?_
        rintro ⟨v, h3⟩ ⟨e, f3, Q3⟩
        refine sp_some.mpr ⟨?_, f2.trans f3, Q3⟩
        rw [if_neg (by decide)]
        exact e
    · by_cases q0 : y < nI 0
      · exact sp_pos q0 (none_ (fun q => hy q.2))
      · exact sp_neg q0 (sp_neg (nrng (by omega) hy q0).2 (none_ (fun q => hy q.2)))
  · exact sp_pos (by rw [decide_eq_false h0]; rfl) (none_ (fun q => h0 q.1))
/-! the reference tries each word -/
def upd6 (A : Nat → Int32) (v : Int32) : Nat → Int32 := fun j => if j = 6 then v else A j
theorem upd6_ne {v : Int32} {j : Nat} (hj : j ≠ 6) : upd6 A v j = A j := by unfold upd6; rw [if_neg hj]
theorem upd6_an {v : Int32} {j : Nat} (hj : j ≠ 6) : an (upd6 A v) j = an A j := by unfold an; rw [upd6_ne hj]
theorem upd6_wf (w : WFA A) {v : Nat} (hv : v < an A 0) : WFA (upd6 A (nI v)) := by
  obtain ⟨a0, a1, a2, a3, a4, a5, a6, a7, a8, a9, a10, a11⟩ := w
  unfold WFA
  simp only [upd6_an (A := A) (v := nI v) (j := 0) (by omega), upd6_an (A := A) (v := nI v) (j := 1) (by omega), upd6_an (A := A) (v := nI v) (j := 2) (by omega), upd6_an (A := A) (v := nI v) (j := 226) (by omega)]
  refine ⟨?_, ?_, ?_, ?_, ?_, ?_, .inr ?_, fun m hm => ?_, fun o ho => ?_, fun a b ha hb => ?_, ?_, fun k hk => ?_⟩
  · rw [upd6_ne (by omega)]; exact a0
  · rw [upd6_ne (by omega)]; exact a1
  · rw [upd6_ne (by omega)]; exact a2
  · rw [upd6_ne (by omega)]; exact a3
  · rw [upd6_ne (by omega)]; exact a4
  · rw [upd6_ne (by omega)]; exact a5
  · exact ⟨v, hv, by unfold upd6; rw [if_pos rfl]⟩
  · rw [upd6_ne (by omega), upd6_ne (by omega), upd6_ne (by omega), upd6_ne (by omega), upd6_ne (by omega)]; exact a7 m hm
  · rw [upd6_ne (by omega), upd6_ne (by omega), upd6_an (by omega)]
    refine ⟨(a8 o ho).1, (a8 o ho).2.1, (a8 o ho).2.2.1, fun i hi => ?_⟩
    rw [upd6_ne (by omega)]; exact (a8 o ho).2.2.2 i hi
  · rw [upd6_ne (by omega)]; exact a9 a b ha hb
  · rw [upd6_ne (by omega)]; exact a10
  · rw [upd6_ne (by omega), upd6_ne (by omega)]; exact a11 k hk
theorem upd6_hrd (w : WFA A) {v : Nat} (hv : v < an A 0) : hrdN (upd6 A (nI v)) = hrdM A ||| 256 ∧ bN (upd6 A (nI v)) = v + 1 := by
  have e0 := w.e0
  have hb : bN (upd6 A (nI v)) = v + 1 := by
    unfold bN
    have e : upd6 A (nI v) 6 = nI v := by unfold upd6; rw [if_pos rfl]
    have e2 : an (upd6 A (nI v)) 6 = v := by unfold an; rw [e, nx_cl (by omega)]
    rw [e, e2, if_neg (by rw [n_eq_ng (by omega) (by omega) (by omega)]; exact id)]
  refine ⟨?_, hb⟩
  unfold hrdN
  rw [hb, show bb (v + 1) = 256 from rfl]
  congr 1
  unfold hrdM
  rw [upd6_an (by omega)]
  refine bs_congr (fun m _ => ?_)
  unfold isFit isDd isLe isAw
  rw [upd6_ne (by omega), upd6_ne (by omega), upd6_ne (by omega), upd6_ne (by omega), upd6_ne (by omega)]
theorem upd6_nW (w : WFA A) {v : Nat} (hv : v < an A 0) : ndN (upd6 A (nI v)) (cN (upd6 A (nI v)) (v + 1) (hrdM A ||| 256)) = nW A v := by
  have hs : syA (upd6 A (nI v)) = syA A := (syA_congr w (upd6_ne (by omega)).symm (fun j h1 h2 => (upd6_ne (by omega)).symm)).symm
  have hc : cN (upd6 A (nI v)) (v + 1) (hrdM A ||| 256) = cN A (v + 1) (hrdM A ||| 256) := by
    refine cN_congr hs (fun m _ => ?_)
    unfold wfb wdA
    rw [upd6_an (by omega)]
  unfold nW ndN
  rw [hc, upd6_an (by omega)]
  have : ∀ i, ndS (upd6 A (nI v)) (cN A (v + 1) (hrdM A ||| 256)) i = ndS A (cN A (v + 1) (hrdM A ||| 256)) i := by
    intro i
    induction i with
    | zero => rfl
    | succ i ih => rw [ndS, ndS, ih, upd6_an (by omega)]
  exact this _
/-- as FM, but for said -/
def FN (h h' : pm_H) : Prop := h'.1 = h.1 ∧ h'.2.2.2 = h.2.2.2 ∧ (∀ c, c < 193 → h'.2.1 c = h.2.1 c ∧ h'.2.2.1 c = h.2.2.1 c) ∧ (∀ c, c ∈ [194, 195, 196, 197, 198, 208, 211, 212, 213] → h'.2.1 c = h.2.1 c) ∧ ∀ j, j ∈ [1, 2, 21, 28] → h'.2.1 193 j = h.2.1 193 j
theorem FN.refl (h : pm_H) : FN h h := ⟨rfl, rfl, fun _ _ => ⟨rfl, rfl⟩, fun _ _ => rfl, fun _ _ => rfl⟩
theorem FN.trans {h h1 h2 : pm_H} (a : FN h h1) (b : FN h1 h2) : FN h h2 := ⟨b.1.trans a.1, b.2.1.trans a.2.1, fun c hc => ⟨(b.2.2.1 c hc).1.trans (a.2.2.1 c hc).1, (b.2.2.1 c hc).2.trans (a.2.2.1 c hc).2⟩, fun c hc => (b.2.2.2.1 c hc).trans (a.2.2.2.1 c hc), fun j hj => (b.2.2.2.2 j hj).trans (a.2.2.2.2 j hj)⟩
theorem FM.fn {h h' : pm_H} (f : FM h h') : FN h h' := ⟨f.1, f.2.1, f.2.2.1, fun c hc => f.2.2.2.1 c (by simp only [List.mem_cons, List.not_mem_nil, or_false] at hc ⊢; omega), f.2.2.2.2⟩
theorem FN.set (h : pm_H) (k : Nat) (v : Int32) : FN h (pm_setI h 203 k v) := by
  refine ⟨rfl, rfl, fun c hc => ⟨?_, rfl⟩, fun c hc => ?_, fun j _ => ri_c _ (by omega)⟩
  · funext j; exact ri_c _ (by omega)
  · simp only [List.mem_cons, List.not_mem_nil, or_false] at hc
    funext j; exact ri_c _ (by omega)
theorem FN.fm {h h' : pm_H} (f : FN h h') (e : h'.2.1 203 = h.2.1 203) : FM h h' := by
  refine ⟨f.1, f.2.1, f.2.2.1, fun c hc => ?_, f.2.2.2.2⟩
  by_cases q : c = 203
  · subst q; exact e
  · exact f.2.2.2.1 c (by simp only [List.mem_cons, List.not_mem_nil, or_false] at hc ⊢; omega)
theorem m_sayableBy_sp (M : MI h A) : SP (m_sayableBy 193 (nI (hrdN A)) h) (fun z => z.1 = nI (cN A (bN A) (hrdN A)) ∧ FM h z.2) := by
  have w := M.2.2
  have hr := hrd_255 w
  unfold m_sayableBy
  refine sp_call (g_ord M hr.2.2 (fun m q => hrd_al w q)) ?_
  rintro h' ⟨f, E⟩
  have R2 := M.1.fm f
  rw [ra_193_26 R2, Option.bind_some, mn_207, gi_n (by omega), nx_cl (by omega), E _ (sub_refl _)]
  exact sp_pos (by simpa using hr.2.2) (sp_some.mpr ⟨rfl, f.fm (fun c hc => hc.mf) (fun j hj => by unfold FF; omega)⟩)
theorem set6 {v : Int32} (e : ∃ v0, h.2.1 203 = upd6 A v0) : (pm_setI h 203 6 v).2.1 203 = upd6 A v := by
  obtain ⟨v0, e⟩ := e
  funext j
  rw [ri, if_pos rfl, e]
  unfold upd6
  by_cases q : j = 6 <;> simp [q]
theorem m_boy_sp (M : MI h A) (y : Int32) : SP (m_boy 193 y h) (fun z => z.1 = vBoy A y ∧ FM h z.2) := by
  have M' := M
  obtain ⟨R, hA, w⟩ := M
  have e0 := w.e0
  have none_ : ¬ (0 < an A 0 ∧ ∃ k, k ≤ 1 ∧ y = nI k) → SP (some (ng 1, h)) (fun z : Int32 × pm_H => z.1 = vBoy A y ∧ FM h z.2) := by
    intro q
    refine sp_some.mpr ⟨?_, FM.refl _⟩
    unfold vBoy
    rw [if_neg q]
  unfold m_boy
  rw [m_isShip_n M', Option.bind_some]
  simp only [kc_im8, kc_im1, kc_i0, kc_i1, kc_i2, kc_i3, kc_i4, kc_i5, kc_b_m100, kc_b_m16, kc_b_m15, kc_b_m14, kc_b_m13, kc_b_m12, kc_b_m11, kc_b_m2, kc_b_6, kc_b_7, kc_b_8, kc_b_9, kc_b_10, kc_b_11, kc_b_12, kc_b_13, kc_b_14, kc_b_15, kc_b_16, kc_b_20, kc_b_24, kc_b_32, kc_b_37, kc_b_40, kc_b_42, kc_b_43, kc_b_45, kc_b_47, kc_b_48, kc_b_57, kc_b_58, kc_b_59, kc_b_60, kc_b_61, kc_b_62, kc_b_63, kc_b_91, kc_b_93, kc_b_97, kc_b_99, kc_b_100, kc_b_106, kc_b_122, kc_s_206, kc_s_226, kc_s_227, kc_s_255, kc_s_256, kc_s_316, kc_s_318, kc_s_400, kc_s_512, kc_s_999, kc_s_1160, kc_s_1536, kc_s_3003, kc_lm11, kc_lm10, kc_lm9, kc_lm8, kc_lm7, kc_lm6, kc_lm5, kc_lm4, kc_lm3, kc_lm2, kc_lm1, kc_l1, kc_l2, kc_l3, kc_l4, kc_l5, kc_l6, kc_l7, kc_l8, kc_l9, kc_l10, kc_l11, kc_l12, kc_l13, kc_l14, kc_l37, kc_l42, kc_l43, kc_l45, kc_l47, kc_l60, kc_l61, kc_l62, kc_l316, kc_l318, kc_l65536, kc_l99999, kc_l1000000, kc_l252645135, kc_l858993459, kc_l1431655765, kc_0, kc_on]
  by_cases h0 : 0 < an A 0
  · refine sp_neg (by rw [decide_eq_true h0]; show ¬ nI 1 = nI 0; decide) ?_
    by_cases hy : ∃ k, k ≤ 1 ∧ y = nI k
    · obtain ⟨k, hk, rfl⟩ := hy
      obtain ⟨f, hf, hb⟩ := bl_some A (an A 0) h0
      have hv : vBoy A (nI k) = if nI k = nI 0 then nI f else nI (nW A f) := by
        unfold vBoy
        rw [if_pos ⟨h0, k, hk, rfl⟩, hb]
      rw [hv, m_in_t h (lo := Int64.ofNat 0) (hi := Int64.ofNat 1) hk (by omega) rfl rfl, Option.bind_some]
      refine sp_pos (by decide) ?_
      rw [ra_193_20 R, Option.bind_some, mn_203, gi_n (by omega), nx_cl (by omega), hA]
      refine sp_pos (by simp) ?_
      have key : SP (wh (fun z : (Int32 × Int32 × Int32 × pm_H) => m_boy_35 193 (nI k) (A 6) z.1 z.2.1 z.2.2.1 z.2.2.2) (ng 1, nI 0, nI 0, h)) (fun z => z.1 = nI f ∧ z.2.1 = nI (nW A f) ∧ FN h z.2.2 ∧ ∃ v0, z.2.2.2.1 203 = upd6 A v0) := by
        have up : h.2.1 203 = upd6 A (A 6) := by
          rw [hA]; funext j; unfold upd6; by_cases q : j = 6 <;> simp [q]
        refine wh_cnt (fun i z => ((i = 0 ∧ z.1 = ng 1 ∧ z.2.1 = nI 0) ∨ ∃ f, f < i ∧ bl A i = some (f, nW A f) ∧ z.1 = nI f ∧ z.2.1 = nI (nW A f)) ∧ z.2.2.1 = nI i ∧ FN h z.2.2.2 ∧ ∃ v0, z.2.2.2.2.1 203 = upd6 A v0) _ (an A 0) ?_ ?_ 0 (ng 1, nI 0, nI 0, h) (by omega) ⟨.inl ⟨rfl, rfl, rfl⟩, rfl, FN.refl _, _, up⟩
        · rintro i ⟨a, b, c, h2⟩ hi ⟨cc, rfl, f2, u2⟩
          dsimp only at cc f2 u2
          have R2 : RF h2 := fun q hq => by rw [f2.2.1]; exact R q hq
          have hz : h2.2.1 203 0 = nI (an A 0) := by
            obtain ⟨v0, e⟩ := u2
            rw [e, upd6_ne (by omega)]; exact e0.1
          unfold m_boy_35 m_boy_83
          simp (disch := omega) only [kc_im8, kc_im1, kc_i0, kc_i1, kc_i2, kc_i3, kc_i4, kc_i5, kc_b_m100, kc_b_m16, kc_b_m15, kc_b_m14, kc_b_m13, kc_b_m12, kc_b_m11, kc_b_m2, kc_b_6, kc_b_7, kc_b_8, kc_b_9, kc_b_10, kc_b_11, kc_b_12, kc_b_13, kc_b_14, kc_b_15, kc_b_16, kc_b_20, kc_b_24, kc_b_32, kc_b_37, kc_b_40, kc_b_42, kc_b_43, kc_b_45, kc_b_47, kc_b_48, kc_b_57, kc_b_58, kc_b_59, kc_b_60, kc_b_61, kc_b_62, kc_b_63, kc_b_91, kc_b_93, kc_b_97, kc_b_99, kc_b_100, kc_b_106, kc_b_122, kc_s_206, kc_s_226, kc_s_227, kc_s_255, kc_s_256, kc_s_316, kc_s_318, kc_s_400, kc_s_512, kc_s_999, kc_s_1160, kc_s_1536, kc_s_3003, kc_lm11, kc_lm10, kc_lm9, kc_lm8, kc_lm7, kc_lm6, kc_lm5, kc_lm4, kc_lm3, kc_lm2, kc_lm1, kc_l1, kc_l2, kc_l3, kc_l4, kc_l5, kc_l6, kc_l7, kc_l8, kc_l9, kc_l10, kc_l11, kc_l12, kc_l13, kc_l14, kc_l37, kc_l42, kc_l43, kc_l45, kc_l47, kc_l60, kc_l61, kc_l62, kc_l316, kc_l318, kc_l65536, kc_l99999, kc_l1000000, kc_l252645135, kc_l858993459, kc_l1431655765, kc_0, kc_on, ra_193_20 R2, Option.bind_some, mn_203, gi_n, nx_lt, nx_le, nx_eq, nx_add, nx_sub, nx_mul, nx_cl, n_lt_ng, n_le_ng, n_eq_ng, ng_lt_n, ng_le_n, ng_eq_n, ng_eq, ng_lt, ng_le, nx_dec, hz]
          refine sp_pos (by simp) (sp_neg (by omega) (sp_pos (by simp) ?_))
          rw [sp_bd]
          have M3 : MI (pm_setI h2 203 6 (nI i)) (upd6 A (nI i)) := ⟨R2.setI, set6 u2, upd6_wf w hi⟩
          have hh := upd6_hrd w hi
          rw [m_heardSet_n M3.2.2 M3.1 M3.2.1, Option.bind_some]
          refine sp_call (m_sayableBy_sp M3) ?_
          rintro ⟨v, h4⟩ ⟨e, f4⟩
          dsimp only at e f4
          subst e
          dsimp only
          have M4 := M3.fm f4
          have hc := cN_lt (upd6 A (nI i)) (bN (upd6 A (nI i))) (hrdN (upd6 A (nI i)))
          rw [m_needOf_n M4 (by omega), Option.bind_some, hh.1, hh.2, upd6_nW w hi]
          have hn := nW_lt w i
          have f24 : FN h h4 := (f2.trans (FN.set _ _ _)).trans f4.fn
          have u4 : ∃ v0, h4.2.1 203 = upd6 A v0 := ⟨_, M4.2.1⟩
          rcases cc with ⟨rfl, rfl, rfl⟩ | ⟨f, hf, hb, rfl, rfl⟩
          · exact sp_pos (by decide) (sp_some.mpr ⟨.inr ⟨0, by omega, rfl, rfl, rfl⟩, rfl, f24, u4⟩)
          · have hnf := nW_lt w f
            refine sp_neg (by rw [nx_lt (by omega) (by omega)]; omega) ?_
            by_cases q : nW A f < nW A i
            · refine sp_pos (by rw [nx_lt (by omega) (by omega)]; exact q) (sp_some.mpr ⟨.inr ⟨i, by omega, ?_, rfl, rfl⟩, rfl, f24, u4⟩)
              rw [bl, hb]
              dsimp only
              rw [if_pos q]
            · refine sp_neg (by rw [nx_lt (by omega) (by omega)]; exact q) (sp_some.mpr ⟨.inr ⟨f, by omega, ?_, rfl, rfl⟩, rfl, f24, u4⟩)
              rw [bl, hb]
              dsimp only
              rw [if_neg q]
        · rintro ⟨a, b, c, h2⟩ ⟨cc, rfl, f2, u2⟩
          dsimp only at cc f2 u2
          have R2 : RF h2 := fun q hq => by rw [f2.2.1]; exact R q hq
          have hz : h2.2.1 203 0 = nI (an A 0) := by
            obtain ⟨v0, e⟩ := u2
            rw [e, upd6_ne (by omega)]; exact e0.1
          unfold m_boy_35
          simp (disch := omega) only [kc_im8, kc_im1, kc_i0, kc_i1, kc_i2, kc_i3, kc_i4, kc_i5, kc_b_m100, kc_b_m16, kc_b_m15, kc_b_m14, kc_b_m13, kc_b_m12, kc_b_m11, kc_b_m2, kc_b_6, kc_b_7, kc_b_8, kc_b_9, kc_b_10, kc_b_11, kc_b_12, kc_b_13, kc_b_14, kc_b_15, kc_b_16, kc_b_20, kc_b_24, kc_b_32, kc_b_37, kc_b_40, kc_b_42, kc_b_43, kc_b_45, kc_b_47, kc_b_48, kc_b_57, kc_b_58, kc_b_59, kc_b_60, kc_b_61, kc_b_62, kc_b_63, kc_b_91, kc_b_93, kc_b_97, kc_b_99, kc_b_100, kc_b_106, kc_b_122, kc_s_206, kc_s_226, kc_s_227, kc_s_255, kc_s_256, kc_s_316, kc_s_318, kc_s_400, kc_s_512, kc_s_999, kc_s_1160, kc_s_1536, kc_s_3003, kc_lm11, kc_lm10, kc_lm9, kc_lm8, kc_lm7, kc_lm6, kc_lm5, kc_lm4, kc_lm3, kc_lm2, kc_lm1, kc_l1, kc_l2, kc_l3, kc_l4, kc_l5, kc_l6, kc_l7, kc_l8, kc_l9, kc_l10, kc_l11, kc_l12, kc_l13, kc_l14, kc_l37, kc_l42, kc_l43, kc_l45, kc_l47, kc_l60, kc_l61, kc_l62, kc_l316, kc_l318, kc_l65536, kc_l99999, kc_l1000000, kc_l252645135, kc_l858993459, kc_l1431655765, kc_0, kc_on, ra_193_20 R2, Option.bind_some, mn_203, gi_n, nx_lt, nx_le, nx_eq, nx_add, nx_sub, nx_mul, nx_cl, n_lt_ng, n_le_ng, n_eq_ng, ng_lt_n, ng_le_n, ng_eq_n, ng_eq, ng_lt, ng_le, nx_dec, hz]
          refine sp_pos (by simp) (sp_pos (by omega) (sp_some.mpr ?_))
          rcases cc with ⟨e, _⟩ | ⟨f', hf', hb', rfl, rfl⟩
          · omega
          · rw [hb] at hb'
            cases hb'
            exact ⟨rfl, rfl, f2, u2⟩
      refine sp_call key ?_
      rintro ⟨a, b, h2⟩ ⟨ea, eb, f2, u2⟩
      dsimp only at ea eb f2 u2
      subst ea eb
      dsimp only
      have R2 : RF h2 := fun q hq => by rw [f2.2.1]; exact R q hq
      rw [ra_193_20 R2, Option.bind_some, mn_203]
      refine sp_pos (by rw [gi_n (by omega)]; simp) ?_
      rw [sp_bd]
      have ff : FM h (pm_setI h2 203 6 (A 6)) := (f2.trans (FN.set _ _ _)).fm (by
        rw [set6 u2, hA]; funext j; unfold upd6; by_cases q : j = 6 <;> simp [q])
      have : k = 0 ∨ k = 1 := by omega
      rcases this with rfl | rfl
      · exact sp_neg (by simp) (sp_some.mpr ⟨by rw [if_pos rfl], ff⟩)
      · exact sp_pos (by decide) (sp_some.mpr ⟨by rw [if_neg (by decide)], ff⟩)
    · rw [m_in_f h (lo := Int64.ofNat 0) (hi := Int64.ofNat 1) hy (by omega) rfl rfl, Option.bind_some]
      exact sp_neg (by simp) (none_ (fun q => hy q.2))
  · exact sp_pos (by rw [decide_eq_false h0]; rfl) (none_ (fun q => h0 q.1))
end BY
