/-! Questions: ranges; fewest. -/
theorem w64 (x : Int32) : x.toInt64.toInt = x.toInt := Int32.toInt_toInt64 x
theorem rng {x : Int32} {n : Nat} (hn : n < 2147483647) : (¬ x < nI 0 ∧ ¬ nI n < x) ↔ ∃ k, k ≤ n ∧ x = nI k := by
  constructor
  · rintro ⟨h1, h2⟩
    rcases ixx x (n := n + 1) (by omega) with q | q | ⟨j, q1, q2⟩
    · exact (h1 q).elim
    · exfalso
      rw [Int32.lt_iff_toInt_lt, nx_toInt (by omega)] at h2
      have hq : (nI (n + 1)).toInt ≤ x.toInt := Int32.le_iff_toInt_le.mp q
      rw [nx_toInt (by omega)] at hq
      omega
    · exact ⟨j, by omega, q2⟩
  · rintro ⟨k, h1, rfl⟩
    rw [nx_lt (by omega) (by omega), nx_lt (by omega) (by omega)]
    omega
theorem m_in_n (h : pm_H) (x : Int32) {lo hi : Int64} {a n : Nat} (ha : lo = (nI a).toInt64) (hb : hi = (nI n).toInt64) : m_in x.toInt64 lo hi h = some (nI (decide (¬ x < nI a ∧ ¬ nI n < x)).toNat) := by
  subst ha hb
  unfold m_in
  simp only [kc_im8, kc_im1, kc_i0, kc_i1, kc_i2, kc_i3, kc_i4, kc_i5, kc_b_m100, kc_b_m16, kc_b_m15, kc_b_m14, kc_b_m13, kc_b_m12, kc_b_m11, kc_b_m2, kc_b_6, kc_b_7, kc_b_8, kc_b_9, kc_b_10, kc_b_11, kc_b_12, kc_b_13, kc_b_14, kc_b_15, kc_b_16, kc_b_20, kc_b_24, kc_b_32, kc_b_37, kc_b_40, kc_b_42, kc_b_43, kc_b_45, kc_b_47, kc_b_48, kc_b_57, kc_b_58, kc_b_59, kc_b_60, kc_b_61, kc_b_62, kc_b_63, kc_b_91, kc_b_93, kc_b_97, kc_b_99, kc_b_100, kc_b_106, kc_b_122, kc_s_206, kc_s_226, kc_s_227, kc_s_255, kc_s_256, kc_s_316, kc_s_318, kc_s_400, kc_s_512, kc_s_999, kc_s_1160, kc_s_1536, kc_s_3003, kc_lm11, kc_lm10, kc_lm9, kc_lm8, kc_lm7, kc_lm6, kc_lm5, kc_lm4, kc_lm3, kc_lm2, kc_lm1, kc_l1, kc_l2, kc_l3, kc_l4, kc_l5, kc_l6, kc_l7, kc_l8, kc_l9, kc_l10, kc_l11, kc_l12, kc_l13, kc_l14, kc_l37, kc_l42, kc_l43, kc_l45, kc_l47, kc_l60, kc_l61, kc_l62, kc_l316, kc_l318, kc_l65536, kc_l99999, kc_l1000000, kc_l252645135, kc_l858993459, kc_l1431655765, kc_0, kc_on, show (0 : Int32) = nI 0 from rfl]
  have e1 : (lg_cmp x.toInt64 (nI a).toInt64 < nI 0) = (x < nI a) := by
    rw [show nI 0 = (0 : Int32) from rfl, propext (lg_cmp_lt _ _), Int64.lt_iff_toInt_lt, w64, w64, ← Int32.lt_iff_toInt_lt]
  have e2 : (nI 0 < lg_cmp x.toInt64 (nI n).toInt64) = (nI n < x) := by
    rw [show nI 0 = (0 : Int32) from rfl, propext (lg_cmp_gt _ _), Int64.lt_iff_toInt_lt, w64, w64, ← Int32.lt_iff_toInt_lt]
  simp only [e1, e2]
  by_cases h1 : x < nI a
  · simp [h1]
  · by_cases h2 : nI n < x <;> simp [h1, h2]
theorem m_in_t (h : pm_H) {lo hi : Int64} {k n : Nat} (hk : k ≤ n) (hn : n < 2147483647) (ha : lo = (nI 0).toInt64) (hb : hi = (nI n).toInt64) : m_in (nI k).toInt64 lo hi h = some (nI 1) := by
  rw [m_in_n h (nI k) ha hb, decide_eq_true ((rng hn).mpr ⟨k, hk, rfl⟩)]; rfl
theorem m_in_f (h : pm_H) {x : Int32} {lo hi : Int64} {n : Nat} (hx : ¬ ∃ k, k ≤ n ∧ x = nI k) (hn : n < 2147483647) (ha : lo = (nI 0).toInt64) (hb : hi = (nI n).toInt64) : m_in x.toInt64 lo hi h = some (nI 0) := by
  rw [m_in_n h x ha hb, decide_eq_false (fun q => hx ((rng hn).mp q))]; rfl
theorem nrng {x : Int32} {n : Nat} (hn : n < 2147483647) (hx : ¬ ∃ k, k ≤ n ∧ x = nI k) (h0 : ¬ x < nI 0) : nI n < x ∧ ¬ x ≤ nI n := by
  have : nI n < x := Classical.byContradiction (fun q => hx ((rng hn).mp ⟨h0, q⟩))
  refine ⟨this, fun q => ?_⟩
  rw [Int32.lt_iff_toInt_lt] at this
  rw [Int32.le_iff_toInt_le] at q
  omega
/-! fewest -/
def okF (A : Nat → Int32) (ords i : Nat) : Prop := sd i (fitN A) = 0 ∧ sd ords (cN A (bN A) (i ||| bb (bN A))) = 0
noncomputable def fewF (A : Nat → Int32) (ords : Nat) : Nat → Option Nat
  | 0 => none
  | i + 1 => @ite (Option Nat) (okF A ords i ∧ ∀ b, fewF A ords i = some b → pc i < pc b) (Classical.propDecidable _) (some i) (fewF A ords i)
theorem fewF_lt (A : Nat → Int32) (ords : Nat) : ∀ i b, fewF A ords i = some b → b < i ∧ okF A ords b
  | 0, b, h => by cases h
  | i + 1, b, h => by
    rw [fewF] at h
    split at h
    · rename_i q; cases h; exact ⟨by omega, q.1⟩
    · have := fewF_lt A ords i b h; exact ⟨by omega, this.2⟩
def ov2 (o : Option Nat) : Int32 := match o with
  | some o => nI o
  | none => ng 2
theorem sd_0 {a b : Nat} : sd a b = 0 ↔ sub a b := by
  constructor
  · intro h i hi
    have := sd_bit a b i
    rw [h, Nat.zero_testBit, hi] at this
    cases hb : b.testBit i with
    | true => rfl
    | false => rw [hb] at this; cases this
  · intro h
    apply Nat.eq_of_testBit_eq
    intro i
    rw [sd_bit, Nat.zero_testBit]
    cases ha : a.testBit i with
    | false => rfl
    | true => rw [h i ha]; rfl
theorem sub_le {a b : Nat} (h : sub a b) : a ≤ b := by
  have : a &&& b = a := by
    apply Nat.eq_of_testBit_eq
    intro i
    rw [Nat.testBit_and]
    cases ha : a.testBit i with
    | false => rfl
    | true => rw [h i ha]; rfl
  rw [← this]
  exact Nat.and_le_right
theorem fewF_end (A : Nat → Int32) (ords : Nat) : ∀ d, fewF A ords (fitN A + 1 + d) = fewF A ords (fitN A + 1)
  | 0 => rfl
  | d + 1 => by
    rw [show fitN A + 1 + (d + 1) = fitN A + 1 + d + 1 from by omega, fewF, if_neg, fewF_end A ords d]
    rintro ⟨⟨q, _⟩, _⟩
    have := sub_le (sd_0.mp q)
    omega
noncomputable def vFewest (A : Nat → Int32) (x y : Int32) : Int32 := @ite Int32 (0 < an A 0 ∧ (∃ k, k ≤ 2 ^ an A 2 - 1 ∧ x = nI k) ∧ ∃ k, k ≤ 1 ∧ y = nI k) (Classical.propDecidable _) (match fewF A (x.toNatClampNeg) (fitN A + 1) with
  | none => ng 2
  | some i => if y = nI 0 then nI (pc i) else nI i) (ng 1)
section FW
variable {h : pm_H} {s : Nat} {A : Nat → Int32}
theorem fit_lt (w : WFA A) : fitN A < 2 ^ an A 1 ∧ fitN A < 256 := ⟨bs_lt _ _, Nat.lt_of_lt_of_le (bs_lt _ _) (p256 w)⟩
theorem a_fewest_sp (Q : QI h s A) (h0 : 0 < an A 0) {ords : Nat} (ho : ords < 2147483648) : SP (a_fewestMen 68 s 169 (nI ords) h) (fun z => z.1 = ov2 (fewF A ords (fitN A + 1)) ∧ Fq QF h z.2 ∧ QI z.2 s A) := by
  have Q' := Q
  obtain ⟨R, h1, S, H, D, w, C⟩ := Q
  have hf := fit_lt w
  have hbv := bN_bv w
  unfold a_fewestMen
  rw [n_fit_c S H w R, Option.bind_some]
  have key : SP (wh (fun z : (Int32 × Int32 × pm_H) => a_fewestMen_14 68 169 (nI ords) (nI (fitN A)) z.1 z.2.1 z.2.2) (ng 2, nI 0, h)) (fun z => z.1 = ov2 (fewF A ords 256) ∧ Fq QF h z.2 ∧ QI z.2 s A) := by
    refine wh_cnt (fun i z => z.1 = ov2 (fewF A ords i) ∧ z.2.1 = nI i ∧ Fq QF h z.2.2 ∧ QI z.2.2 s A) _ 256 ?_ ?_ 0 (ng 2, nI 0, h) (by omega) ⟨rfl, rfl, Fq.refl _ _, Q'⟩
    · rintro i ⟨x, y, h2⟩ hi ⟨rfl, rfl, f2, Q2⟩
      dsimp only at f2 Q2
      have R2 := Q2.1
      have g67 : ∀ z : Bool, (z = true ↔ sd i (fitN A) = 0 ∧ ∀ b, fewF A ords i = some b → pc i < pc b) → SP (a_fewestMen_67 68 169 (nI ords) (nI (fitN A)) (ov2 (fewF A ords i)) (nI i) (nI z.toNat) h2) (fun q => match q with
          | .inl s' => s'.1 = ov2 (fewF A ords (i + 1)) ∧ s'.2.1 = nI (i + 1) ∧ Fq QF h s'.2.2 ∧ QI s'.2.2 s A
          | .inr r => r.1 = ov2 (fewF A ords 256) ∧ Fq QF h r.2 ∧ QI r.2 s A) := by
        intro z hz
        unfold a_fewestMen_67
        cases z with
        | false =>
          simp (disch := omega) only [kc_im8, kc_im1, kc_i0, kc_i1, kc_i2, kc_i3, kc_i4, kc_i5, kc_b_m100, kc_b_m16, kc_b_m15, kc_b_m14, kc_b_m13, kc_b_m12, kc_b_m11, kc_b_m2, kc_b_6, kc_b_7, kc_b_8, kc_b_9, kc_b_10, kc_b_11, kc_b_12, kc_b_13, kc_b_14, kc_b_15, kc_b_16, kc_b_20, kc_b_24, kc_b_32, kc_b_37, kc_b_40, kc_b_42, kc_b_43, kc_b_45, kc_b_47, kc_b_48, kc_b_57, kc_b_58, kc_b_59, kc_b_60, kc_b_61, kc_b_62, kc_b_63, kc_b_91, kc_b_93, kc_b_97, kc_b_99, kc_b_100, kc_b_106, kc_b_122, kc_s_206, kc_s_226, kc_s_227, kc_s_255, kc_s_256, kc_s_316, kc_s_318, kc_s_400, kc_s_512, kc_s_999, kc_s_1160, kc_s_1536, kc_s_3003, kc_lm11, kc_lm10, kc_lm9, kc_lm8, kc_lm7, kc_lm6, kc_lm5, kc_lm4, kc_lm3, kc_lm2, kc_lm1, kc_l1, kc_l2, kc_l3, kc_l4, kc_l5, kc_l6, kc_l7, kc_l8, kc_l9, kc_l10, kc_l11, kc_l12, kc_l13, kc_l14, kc_l37, kc_l42, kc_l43, kc_l45, kc_l47, kc_l60, kc_l61, kc_l62, kc_l316, kc_l318, kc_l65536, kc_l99999, kc_l1000000, kc_l252645135, kc_l858993459, kc_l1431655765, kc_0, kc_on, nx_lt, nx_le, nx_eq, nx_add, nx_sub, nx_mul, nx_cl, n_lt_ng, n_le_ng, n_eq_ng, ng_lt_n, ng_le_n, ng_eq_n, ng_eq, ng_lt, ng_le, nx_dec]
          refine sp_pos rfl (sp_some.mpr ⟨?_, rfl, f2, Q2⟩)
          rw [fewF, if_neg]
          rintro ⟨⟨q1, _⟩, q2⟩
          have := hz.mpr ⟨q1, q2⟩
          cases this
        | true =>
          have hz := hz.mp rfl
          have hi255 : i &&& 255 = i := by rw [show (255 : Nat) = 2 ^ 8 - 1 from rfl, Nat.and_two_pow_sub_one_eq_mod]; exact Nat.mod_eq_of_lt hi
          simp (disch := omega) only [kc_im8, kc_im1, kc_i0, kc_i1, kc_i2, kc_i3, kc_i4, kc_i5, kc_b_m100, kc_b_m16, kc_b_m15, kc_b_m14, kc_b_m13, kc_b_m12, kc_b_m11, kc_b_m2, kc_b_6, kc_b_7, kc_b_8, kc_b_9, kc_b_10, kc_b_11, kc_b_12, kc_b_13, kc_b_14, kc_b_15, kc_b_16, kc_b_20, kc_b_24, kc_b_32, kc_b_37, kc_b_40, kc_b_42, kc_b_43, kc_b_45, kc_b_47, kc_b_48, kc_b_57, kc_b_58, kc_b_59, kc_b_60, kc_b_61, kc_b_62, kc_b_63, kc_b_91, kc_b_93, kc_b_97, kc_b_99, kc_b_100, kc_b_106, kc_b_122, kc_s_206, kc_s_226, kc_s_227, kc_s_255, kc_s_256, kc_s_316, kc_s_318, kc_s_400, kc_s_512, kc_s_999, kc_s_1160, kc_s_1536, kc_s_3003, kc_lm11, kc_lm10, kc_lm9, kc_lm8, kc_lm7, kc_lm6, kc_lm5, kc_lm4, kc_lm3, kc_lm2, kc_lm1, kc_l1, kc_l2, kc_l3, kc_l4, kc_l5, kc_l6, kc_l7, kc_l8, kc_l9, kc_l10, kc_l11, kc_l12, kc_l13, kc_l14, kc_l37, kc_l42, kc_l43, kc_l45, kc_l47, kc_l60, kc_l61, kc_l62, kc_l316, kc_l318, kc_l65536, kc_l99999, kc_l1000000, kc_l252645135, kc_l858993459, kc_l1431655765, kc_0, kc_on, nx_lt, nx_le, nx_eq, nx_add, nx_sub, nx_mul, nx_cl, n_lt_ng, n_le_ng, n_eq_ng, ng_lt_n, ng_le_n, ng_eq_n, ng_eq, ng_lt, ng_le, nx_dec]
          refine sp_neg (by show ¬ nI 1 = nI 0; decide) ?_
          have hsub := sub_le (sd_0.mp hz.1)
          rw [ra_68_0 R2, Option.bind_some, Q2.2.2.2.1.2.2.2.2.2.1, ← hbv.1]
          refine sp_call (k_ord Q2 h0 hbv.2 (X := i) (by rw [hi255]; omega)) ?_
          rintro ⟨v, h3⟩ ⟨e3, f3, Q3⟩
          dsimp only at e3 f3 Q3
          subst e3
          have f23 : Fq QF h h3 := f2.trans (f3.q.mono (fun c hc => hc.qf))
          rw [hi255, nx_andn]
          by_cases q : sd ords (cN A (bN A) (i ||| bb (bN A))) = 0
          · refine sp_neg (by rw [q]; simp) (sp_some.mpr ⟨?_, rfl, f23, Q3⟩)
            rw [fewF, if_pos ⟨⟨hz.1, q⟩, hz.2⟩]
            rfl
          · have hlt : sd ords (cN A (bN A) (i ||| bb (bN A))) ≤ ords := sub_le (sub_sd _ _)
            refine sp_pos (by rw [nx_eq (by omega) (by omega)]; exact q) (sp_some.mpr ⟨?_, rfl, f23, Q3⟩)
            rw [fewF, if_neg (fun z => q z.1.2)]
      have g45 : ∀ z : Bool, (z = true ↔ ∀ b, fewF A ords i = some b → pc i < pc b) → SP (a_fewestMen_45 68 169 (nI ords) (nI (fitN A)) (ov2 (fewF A ords i)) (nI i) (nI z.toNat) h2) (fun q => match q with
          | .inl s' => s'.1 = ov2 (fewF A ords (i + 1)) ∧ s'.2.1 = nI (i + 1) ∧ Fq QF h s'.2.2 ∧ QI s'.2.2 s A
          | .inr r => r.1 = ov2 (fewF A ords 256) ∧ Fq QF h r.2 ∧ QI r.2 s A) := by
        intro z hz
        unfold a_fewestMen_45
        simp only [kc_im8, kc_im1, kc_i0, kc_i1, kc_i2, kc_i3, kc_i4, kc_i5, kc_b_m100, kc_b_m16, kc_b_m15, kc_b_m14, kc_b_m13, kc_b_m12, kc_b_m11, kc_b_m2, kc_b_6, kc_b_7, kc_b_8, kc_b_9, kc_b_10, kc_b_11, kc_b_12, kc_b_13, kc_b_14, kc_b_15, kc_b_16, kc_b_20, kc_b_24, kc_b_32, kc_b_37, kc_b_40, kc_b_42, kc_b_43, kc_b_45, kc_b_47, kc_b_48, kc_b_57, kc_b_58, kc_b_59, kc_b_60, kc_b_61, kc_b_62, kc_b_63, kc_b_91, kc_b_93, kc_b_97, kc_b_99, kc_b_100, kc_b_106, kc_b_122, kc_s_206, kc_s_226, kc_s_227, kc_s_255, kc_s_256, kc_s_316, kc_s_318, kc_s_400, kc_s_512, kc_s_999, kc_s_1160, kc_s_1536, kc_s_3003, kc_lm11, kc_lm10, kc_lm9, kc_lm8, kc_lm7, kc_lm6, kc_lm5, kc_lm4, kc_lm3, kc_lm2, kc_lm1, kc_l1, kc_l2, kc_l3, kc_l4, kc_l5, kc_l6, kc_l7, kc_l8, kc_l9, kc_l10, kc_l11, kc_l12, kc_l13, kc_l14, kc_l37, kc_l42, kc_l43, kc_l45, kc_l47, kc_l60, kc_l61, kc_l62, kc_l316, kc_l318, kc_l65536, kc_l99999, kc_l1000000, kc_l252645135, kc_l858993459, kc_l1431655765, kc_0, kc_on, nx_andn]
        cases z with
        | false => exact sp_pos rfl (g67 false ⟨fun q => (by cases q), fun q => hz.mpr q.2⟩)
        | true =>
          refine sp_neg (by show ¬ nI 1 = nI 0; decide) ?_
          have hlt : sd i (fitN A) ≤ i := sub_le (sub_sd _ _)
          by_cases q : sd i (fitN A) = 0
          · exact sp_neg (by rw [q]; simp) (g67 true ⟨fun _ => ⟨q, hz.mp rfl⟩, fun _ => rfl⟩)
          · exact sp_pos (by rw [nx_eq (by omega) (by omega)]; exact q) (g67 false ⟨fun z => (by cases z), fun z => (q z.1).elim⟩)
      unfold a_fewestMen_14
      simp (disch := omega) only [kc_im8, kc_im1, kc_i0, kc_i1, kc_i2, kc_i3, kc_i4, kc_i5, kc_b_m100, kc_b_m16, kc_b_m15, kc_b_m14, kc_b_m13, kc_b_m12, kc_b_m11, kc_b_m2, kc_b_6, kc_b_7, kc_b_8, kc_b_9, kc_b_10, kc_b_11, kc_b_12, kc_b_13, kc_b_14, kc_b_15, kc_b_16, kc_b_20, kc_b_24, kc_b_32, kc_b_37, kc_b_40, kc_b_42, kc_b_43, kc_b_45, kc_b_47, kc_b_48, kc_b_57, kc_b_58, kc_b_59, kc_b_60, kc_b_61, kc_b_62, kc_b_63, kc_b_91, kc_b_93, kc_b_97, kc_b_99, kc_b_100, kc_b_106, kc_b_122, kc_s_206, kc_s_226, kc_s_227, kc_s_255, kc_s_256, kc_s_316, kc_s_318, kc_s_400, kc_s_512, kc_s_999, kc_s_1160, kc_s_1536, kc_s_3003, kc_lm11, kc_lm10, kc_lm9, kc_lm8, kc_lm7, kc_lm6, kc_lm5, kc_lm4, kc_lm3, kc_lm2, kc_lm1, kc_l1, kc_l2, kc_l3, kc_l4, kc_l5, kc_l6, kc_l7, kc_l8, kc_l9, kc_l10, kc_l11, kc_l12, kc_l13, kc_l14, kc_l37, kc_l42, kc_l43, kc_l45, kc_l47, kc_l60, kc_l61, kc_l62, kc_l316, kc_l318, kc_l65536, kc_l99999, kc_l1000000, kc_l252645135, kc_l858993459, kc_l1431655765, kc_0, kc_on, nx_lt, nx_le, nx_eq, nx_add, nx_sub, nx_mul, nx_cl, n_lt_ng, n_le_ng, n_eq_ng, ng_lt_n, ng_le_n, ng_eq_n, ng_eq, ng_lt, ng_le, nx_dec]
      refine sp_neg (by omega) ?_
      unfold a_fewestMen_40
      simp only [kc_im8, kc_im1, kc_i0, kc_i1, kc_i2, kc_i3, kc_i4, kc_i5, kc_b_m100, kc_b_m16, kc_b_m15, kc_b_m14, kc_b_m13, kc_b_m12, kc_b_m11, kc_b_m2, kc_b_6, kc_b_7, kc_b_8, kc_b_9, kc_b_10, kc_b_11, kc_b_12, kc_b_13, kc_b_14, kc_b_15, kc_b_16, kc_b_20, kc_b_24, kc_b_32, kc_b_37, kc_b_40, kc_b_42, kc_b_43, kc_b_45, kc_b_47, kc_b_48, kc_b_57, kc_b_58, kc_b_59, kc_b_60, kc_b_61, kc_b_62, kc_b_63, kc_b_91, kc_b_93, kc_b_97, kc_b_99, kc_b_100, kc_b_106, kc_b_122, kc_s_206, kc_s_226, kc_s_227, kc_s_255, kc_s_256, kc_s_316, kc_s_318, kc_s_400, kc_s_512, kc_s_999, kc_s_1160, kc_s_1536, kc_s_3003, kc_lm11, kc_lm10, kc_lm9, kc_lm8, kc_lm7, kc_lm6, kc_lm5, kc_lm4, kc_lm3, kc_lm2, kc_lm1, kc_l1, kc_l2, kc_l3, kc_l4, kc_l5, kc_l6, kc_l7, kc_l8, kc_l9, kc_l10, kc_l11, kc_l12, kc_l13, kc_l14, kc_l37, kc_l42, kc_l43, kc_l45, kc_l47, kc_l60, kc_l61, kc_l62, kc_l316, kc_l318, kc_l65536, kc_l99999, kc_l1000000, kc_l252645135, kc_l858993459, kc_l1431655765, kc_0, kc_on]
      cases hb : fewF A ords i with
      | none =>
        rw [hb] at g45
        refine sp_pos (by show ng 2 < nI 0; decide) ((g45 true ⟨fun _ b q => (by cases q), fun _ => rfl⟩).mono ?_)
        rintro (z | z) hz <;> exact hz
      | some b =>
        rw [hb] at g45
        have hbl := (fewF_lt A ords i b hb).1
        refine sp_neg (by show ¬ nI b < nI 0; rw [nx_lt (by omega) (by omega)]; omega) ?_
        have p1 := pc_le i (by omega)
        have p2 := pc_le b (by omega)
        rw [k_bc h2 (by omega), Option.bind_some, show ov2 (some b) = nI b from rfl, k_bc h2 (by omega), Option.bind_some, show nI b = ov2 (some b) from rfl]
        by_cases q : pc b ≤ pc i
        · refine sp_pos (by rw [nx_le (by omega) (by omega)]; exact q) ((g45 false ⟨fun z => (by cases z), fun z => by have := z b rfl; omega⟩).mono ?_)
          rintro (z | z) hz <;> exact hz
        · refine sp_neg (by rw [nx_le (by omega) (by omega)]; exact q) ((g45 true ⟨fun _ b' e => (by cases e; omega), fun _ => rfl⟩).mono ?_)
          rintro (z | z) hz <;> exact hz
    · rintro ⟨x, y, h2⟩ ⟨rfl, rfl, f2, Q2⟩
      unfold a_fewestMen_14
      simp (disch := omega) only [kc_im8, kc_im1, kc_i0, kc_i1, kc_i2, kc_i3, kc_i4, kc_i5, kc_b_m100, kc_b_m16, kc_b_m15, kc_b_m14, kc_b_m13, kc_b_m12, kc_b_m11, kc_b_m2, kc_b_6, kc_b_7, kc_b_8, kc_b_9, kc_b_10, kc_b_11, kc_b_12, kc_b_13, kc_b_14, kc_b_15, kc_b_16, kc_b_20, kc_b_24, kc_b_32, kc_b_37, kc_b_40, kc_b_42, kc_b_43, kc_b_45, kc_b_47, kc_b_48, kc_b_57, kc_b_58, kc_b_59, kc_b_60, kc_b_61, kc_b_62, kc_b_63, kc_b_91, kc_b_93, kc_b_97, kc_b_99, kc_b_100, kc_b_106, kc_b_122, kc_s_206, kc_s_226, kc_s_227, kc_s_255, kc_s_256, kc_s_316, kc_s_318, kc_s_400, kc_s_512, kc_s_999, kc_s_1160, kc_s_1536, kc_s_3003, kc_lm11, kc_lm10, kc_lm9, kc_lm8, kc_lm7, kc_lm6, kc_lm5, kc_lm4, kc_lm3, kc_lm2, kc_lm1, kc_l1, kc_l2, kc_l3, kc_l4, kc_l5, kc_l6, kc_l7, kc_l8, kc_l9, kc_l10, kc_l11, kc_l12, kc_l13, kc_l14, kc_l37, kc_l42, kc_l43, kc_l45, kc_l47, kc_l60, kc_l61, kc_l62, kc_l316, kc_l318, kc_l65536, kc_l99999, kc_l1000000, kc_l252645135, kc_l858993459, kc_l1431655765, kc_0, kc_on, nx_lt, nx_le, nx_eq, nx_add, nx_sub, nx_mul, nx_cl, n_lt_ng, n_le_ng, n_eq_ng, ng_lt_n, ng_le_n, ng_eq_n, ng_eq, ng_lt, ng_le, nx_dec]
      exact sp_pos (by omega) (sp_some.mpr ⟨rfl, f2, Q2⟩)
  simp only [kc_im8, kc_im1, kc_i0, kc_i1, kc_i2, kc_i3, kc_i4, kc_i5, kc_b_m100, kc_b_m16, kc_b_m15, kc_b_m14, kc_b_m13, kc_b_m12, kc_b_m11, kc_b_m2, kc_b_6, kc_b_7, kc_b_8, kc_b_9, kc_b_10, kc_b_11, kc_b_12, kc_b_13, kc_b_14, kc_b_15, kc_b_16, kc_b_20, kc_b_24, kc_b_32, kc_b_37, kc_b_40, kc_b_42, kc_b_43, kc_b_45, kc_b_47, kc_b_48, kc_b_57, kc_b_58, kc_b_59, kc_b_60, kc_b_61, kc_b_62, kc_b_63, kc_b_91, kc_b_93, kc_b_97, kc_b_99, kc_b_100, kc_b_106, kc_b_122, kc_s_206, kc_s_226, kc_s_227, kc_s_255, kc_s_256, kc_s_316, kc_s_318, kc_s_400, kc_s_512, kc_s_999, kc_s_1160, kc_s_1536, kc_s_3003, kc_lm11, kc_lm10, kc_lm9, kc_lm8, kc_lm7, kc_lm6, kc_lm5, kc_lm4, kc_lm3, kc_lm2, kc_lm1, kc_l1, kc_l2, kc_l3, kc_l4, kc_l5, kc_l6, kc_l7, kc_l8, kc_l9, kc_l10, kc_l11, kc_l12, kc_l13, kc_l14, kc_l37, kc_l42, kc_l43, kc_l45, kc_l47, kc_l60, kc_l61, kc_l62, kc_l316, kc_l318, kc_l65536, kc_l99999, kc_l1000000, kc_l252645135, kc_l858993459, kc_l1431655765, kc_0, kc_on]
  refine sp_call key ?_
  rintro z ⟨e, f, Q2⟩
  refine sp_some.mpr ⟨?_, f, Q2⟩
  rw [e, ← fewF_end A ords (255 - fitN A), show fitN A + 1 + (255 - fitN A) = 256 from by omega]
theorem c_hasOrders_t (Q : QI h s A) (h0 : 0 < an A 0) {k : Nat} (hk : k ≤ 2 ^ an A 2 - 1) : s_hasOrders s (nI k) h = some (nI 1) := by
  obtain ⟨R, h1, S, H, D, w, C⟩ := Q
  have h2 := w.e2
  have hp : 2 ^ an A 2 ≤ 256 := Nat.pow_le_pow_right (n := 2) (by decide) (by omega : an A 2 ≤ 8)
  have hp1 : 1 ≤ 2 ^ an A 2 := Nat.one_le_two_pow
  unfold s_hasOrders
  rw [c_sails S w, Option.bind_some]
  simp (disch := omega) only [kc_im8, kc_im1, kc_i0, kc_i1, kc_i2, kc_i3, kc_i4, kc_i5, kc_b_m100, kc_b_m16, kc_b_m15, kc_b_m14, kc_b_m13, kc_b_m12, kc_b_m11, kc_b_m2, kc_b_6, kc_b_7, kc_b_8, kc_b_9, kc_b_10, kc_b_11, kc_b_12, kc_b_13, kc_b_14, kc_b_15, kc_b_16, kc_b_20, kc_b_24, kc_b_32, kc_b_37, kc_b_40, kc_b_42, kc_b_43, kc_b_45, kc_b_47, kc_b_48, kc_b_57, kc_b_58, kc_b_59, kc_b_60, kc_b_61, kc_b_62, kc_b_63, kc_b_91, kc_b_93, kc_b_97, kc_b_99, kc_b_100, kc_b_106, kc_b_122, kc_s_206, kc_s_226, kc_s_227, kc_s_255, kc_s_256, kc_s_316, kc_s_318, kc_s_400, kc_s_512, kc_s_999, kc_s_1160, kc_s_1536, kc_s_3003, kc_lm11, kc_lm10, kc_lm9, kc_lm8, kc_lm7, kc_lm6, kc_lm5, kc_lm4, kc_lm3, kc_lm2, kc_lm1, kc_l1, kc_l2, kc_l3, kc_l4, kc_l5, kc_l6, kc_l7, kc_l8, kc_l9, kc_l10, kc_l11, kc_l12, kc_l13, kc_l14, kc_l37, kc_l42, kc_l43, kc_l45, kc_l47, kc_l60, kc_l61, kc_l62, kc_l316, kc_l318, kc_l65536, kc_l99999, kc_l1000000, kc_l252645135, kc_l858993459, kc_l1431655765, kc_0, kc_on, S.2.2.2.1, h2.1, nx_shl1, nx_lt, nx_le, nx_eq, nx_add, nx_sub, nx_mul, nx_cl, n_lt_ng, n_le_ng, n_eq_ng, ng_lt_n, ng_le_n, ng_eq_n, ng_eq, ng_lt, ng_le, nx_dec]
  rw [if_neg (by rw [decide_eq_true h0]; show ¬ nI 1 = nI 0; decide), if_neg (by omega), if_neg (by omega)]
theorem c_hasOrders_f (Q : QI h s A) {x : Int32} (hx : ¬ (0 < an A 0 ∧ ∃ k, k ≤ 2 ^ an A 2 - 1 ∧ x = nI k)) : s_hasOrders s x h = some (nI 0) := by
  obtain ⟨R, h1, S, H, D, w, C⟩ := Q
  have h2 := w.e2
  have hp : 2 ^ an A 2 ≤ 256 := Nat.pow_le_pow_right (n := 2) (by decide) (by omega : an A 2 ≤ 8)
  have hp1 : 1 ≤ 2 ^ an A 2 := Nat.one_le_two_pow
  unfold s_hasOrders
  rw [c_sails S w, Option.bind_some]
  simp (disch := omega) only [kc_im8, kc_im1, kc_i0, kc_i1, kc_i2, kc_i3, kc_i4, kc_i5, kc_b_m100, kc_b_m16, kc_b_m15, kc_b_m14, kc_b_m13, kc_b_m12, kc_b_m11, kc_b_m2, kc_b_6, kc_b_7, kc_b_8, kc_b_9, kc_b_10, kc_b_11, kc_b_12, kc_b_13, kc_b_14, kc_b_15, kc_b_16, kc_b_20, kc_b_24, kc_b_32, kc_b_37, kc_b_40, kc_b_42, kc_b_43, kc_b_45, kc_b_47, kc_b_48, kc_b_57, kc_b_58, kc_b_59, kc_b_60, kc_b_61, kc_b_62, kc_b_63, kc_b_91, kc_b_93, kc_b_97, kc_b_99, kc_b_100, kc_b_106, kc_b_122, kc_s_206, kc_s_226, kc_s_227, kc_s_255, kc_s_256, kc_s_316, kc_s_318, kc_s_400, kc_s_512, kc_s_999, kc_s_1160, kc_s_1536, kc_s_3003, kc_lm11, kc_lm10, kc_lm9, kc_lm8, kc_lm7, kc_lm6, kc_lm5, kc_lm4, kc_lm3, kc_lm2, kc_lm1, kc_l1, kc_l2, kc_l3, kc_l4, kc_l5, kc_l6, kc_l7, kc_l8, kc_l9, kc_l10, kc_l11, kc_l12, kc_l13, kc_l14, kc_l37, kc_l42, kc_l43, kc_l45, kc_l47, kc_l60, kc_l61, kc_l62, kc_l316, kc_l318, kc_l65536, kc_l99999, kc_l1000000, kc_l252645135, kc_l858993459, kc_l1431655765, kc_0, kc_on, S.2.2.2.1, h2.1, nx_shl1]
  by_cases h0 : 0 < an A 0
  · rw [if_neg (by rw [decide_eq_true h0]; show ¬ nI 1 = nI 0; decide)]
    rcases ixx x (n := 2 ^ an A 2) (by omega) with q | q | ⟨j, q1, rfl⟩
    · rw [if_pos q]
    · simp only [q, if_true, ite_self]
    · exact (hx ⟨h0, j, by omega, rfl⟩).elim
  · rw [if_pos (by rw [decide_eq_false h0]; rfl)]
theorem x_fewest_sp (Q : QI h s A) (x y : Int32) : SP (x_fewest 0 x y h) (fun z => z.1 = vFewest A x y ∧ Fq QF h z.2 ∧ QI z.2 s A) := by
  have Q' := Q
  obtain ⟨R, h1, S, H, D, w, C⟩ := Q
  have hp : 2 ^ an A 2 ≤ 256 := by have := w.e2; exact Nat.pow_le_pow_right (n := 2) (by decide) (by omega : an A 2 ≤ 8)
  have none_ : ¬ (0 < an A 0 ∧ (∃ k, k ≤ 2 ^ an A 2 - 1 ∧ x = nI k) ∧ ∃ k, k ≤ 1 ∧ y = nI k) → SP (some (ng 1, h)) (fun z : Int32 × pm_H => z.1 = vFewest A x y ∧ Fq QF h z.2 ∧ QI z.2 s A) := by
    intro q
    refine sp_some.mpr ⟨?_, Fq.refl _ _, Q'⟩
    unfold vFewest
    rw [if_neg q]
  unfold x_fewest
  rw [ra_0_4 R, Option.bind_some, Q'.now, Option.bind_some]
  by_cases hx : 0 < an A 0 ∧ ∃ k, k ≤ 2 ^ an A 2 - 1 ∧ x = nI k
  · obtain ⟨ords, ho, rfl⟩ := hx.2
    rw [c_hasOrders_t Q' hx.1 ho, Option.bind_some]
    simp only [kc_im8, kc_im1, kc_i0, kc_i1, kc_i2, kc_i3, kc_i4, kc_i5, kc_b_m100, kc_b_m16, kc_b_m15, kc_b_m14, kc_b_m13, kc_b_m12, kc_b_m11, kc_b_m2, kc_b_6, kc_b_7, kc_b_8, kc_b_9, kc_b_10, kc_b_11, kc_b_12, kc_b_13, kc_b_14, kc_b_15, kc_b_16, kc_b_20, kc_b_24, kc_b_32, kc_b_37, kc_b_40, kc_b_42, kc_b_43, kc_b_45, kc_b_47, kc_b_48, kc_b_57, kc_b_58, kc_b_59, kc_b_60, kc_b_61, kc_b_62, kc_b_63, kc_b_91, kc_b_93, kc_b_97, kc_b_99, kc_b_100, kc_b_106, kc_b_122, kc_s_206, kc_s_226, kc_s_227, kc_s_255, kc_s_256, kc_s_316, kc_s_318, kc_s_400, kc_s_512, kc_s_999, kc_s_1160, kc_s_1536, kc_s_3003, kc_lm11, kc_lm10, kc_lm9, kc_lm8, kc_lm7, kc_lm6, kc_lm5, kc_lm4, kc_lm3, kc_lm2, kc_lm1, kc_l1, kc_l2, kc_l3, kc_l4, kc_l5, kc_l6, kc_l7, kc_l8, kc_l9, kc_l10, kc_l11, kc_l12, kc_l13, kc_l14, kc_l37, kc_l42, kc_l43, kc_l45, kc_l47, kc_l60, kc_l61, kc_l62, kc_l316, kc_l318, kc_l65536, kc_l99999, kc_l1000000, kc_l252645135, kc_l858993459, kc_l1431655765, kc_0, kc_on]
    refine sp_neg (by decide) ?_
    by_cases hy : ∃ k, k ≤ 1 ∧ y = nI k
    · have hall : 0 < an A 0 ∧ (∃ k, k ≤ 2 ^ an A 2 - 1 ∧ nI ords = nI k) ∧ ∃ k, k ≤ 1 ∧ y = nI k := ⟨hx.1, hx.2, hy⟩
      obtain ⟨k, hk, rfl⟩ := hy
      refine sp_neg (by rw [nx_lt (by omega) (by omega)]; omega) (sp_pos (by rw [nx_le (by omega) (by omega)]; omega) ?_)
      rw [ra_0_7 R, Option.bind_some, Option.bind_some, Q'.now, Option.bind_some, Option.bind_some, q_hands Q', Option.bind_some]
      refine sp_call (a_fewest_sp Q' hx.1 (by omega)) ?_
      rintro ⟨v, h2⟩ ⟨e, f2, Q2⟩
      dsimp only at e f2 Q2
      subst e
      dsimp only
      unfold vFewest x_fewest_57
      rw [if_pos hall, nx_cl (by omega)]
      cases hb : fewF A ords (fitN A + 1) with
      | none => exact sp_pos (by show ng 2 < nI 0; decide) (sp_some.mpr ⟨rfl, f2, Q2⟩)
      | some i =>
        have hf := fit_lt w
        have hi := (fewF_lt A ords _ i hb).1
        refine sp_neg (by show ¬ nI i < nI 0; rw [nx_lt (by omega) (by omega)]; omega) ?_
        have : k = 0 ∨ k = 1 := by omega
        rcases this with rfl | rfl
        · refine sp_pos (by decide) ?_
          rw [show ov2 (some i) = nI i from rfl, k_bc h2 (by omega), Option.bind_some]
          exact sp_some.mpr ⟨rfl, f2, Q2⟩
        · exact sp_neg (by simp) (sp_some.mpr ⟨rfl, f2, Q2⟩)
    · by_cases q0 : y < nI 0
      · exact sp_pos q0 (none_ (fun q => hy q.2.2))
      · exact sp_neg q0 (sp_neg (nrng (by omega) hy q0).2 (none_ (fun q => hy q.2.2)))
  · rw [c_hasOrders_f Q' hx, Option.bind_some]
    simp only [kc_im8, kc_im1, kc_i0, kc_i1, kc_i2, kc_i3, kc_i4, kc_i5, kc_b_m100, kc_b_m16, kc_b_m15, kc_b_m14, kc_b_m13, kc_b_m12, kc_b_m11, kc_b_m2, kc_b_6, kc_b_7, kc_b_8, kc_b_9, kc_b_10, kc_b_11, kc_b_12, kc_b_13, kc_b_14, kc_b_15, kc_b_16, kc_b_20, kc_b_24, kc_b_32, kc_b_37, kc_b_40, kc_b_42, kc_b_43, kc_b_45, kc_b_47, kc_b_48, kc_b_57, kc_b_58, kc_b_59, kc_b_60, kc_b_61, kc_b_62, kc_b_63, kc_b_91, kc_b_93, kc_b_97, kc_b_99, kc_b_100, kc_b_106, kc_b_122, kc_s_206, kc_s_226, kc_s_227, kc_s_255, kc_s_256, kc_s_316, kc_s_318, kc_s_400, kc_s_512, kc_s_999, kc_s_1160, kc_s_1536, kc_s_3003, kc_lm11, kc_lm10, kc_lm9, kc_lm8, kc_lm7, kc_lm6, kc_lm5, kc_lm4, kc_lm3, kc_lm2, kc_lm1, kc_l1, kc_l2, kc_l3, kc_l4, kc_l5, kc_l6, kc_l7, kc_l8, kc_l9, kc_l10, kc_l11, kc_l12, kc_l13, kc_l14, kc_l37, kc_l42, kc_l43, kc_l45, kc_l47, kc_l60, kc_l61, kc_l62, kc_l316, kc_l318, kc_l65536, kc_l99999, kc_l1000000, kc_l252645135, kc_l858993459, kc_l1431655765, kc_0, kc_on]
    exact sp_pos trivial (none_ (fun q => hx ⟨q.1, q.2.1⟩))
theorem m_can (M : MI h A) (x y : Int32) : wh (fun z : (Int32 × Int32 × pm_H) => m_fewest_36 193 x y z.1 z.2.1 z.2.2) (nI 0, nI 0, h) = some (nI (fitN A), h) := by
  obtain ⟨R, hA, w⟩ := M
  have h1 := w.e1
  refine wh_for (fun i => (nI (bs (isFit A) i), nI i, h)) (an A 1) 0 (by omega) (fun i _ hi => ?_) ?_
  · have m3 := w.m3 hi
    unfold m_fewest_36 m_fewest_84
    simp (disch := omega) only [kc_im8, kc_im1, kc_i0, kc_i1, kc_i2, kc_i3, kc_i4, kc_i5, kc_b_m100, kc_b_m16, kc_b_m15, kc_b_m14, kc_b_m13, kc_b_m12, kc_b_m11, kc_b_m2, kc_b_6, kc_b_7, kc_b_8, kc_b_9, kc_b_10, kc_b_11, kc_b_12, kc_b_13, kc_b_14, kc_b_15, kc_b_16, kc_b_20, kc_b_24, kc_b_32, kc_b_37, kc_b_40, kc_b_42, kc_b_43, kc_b_45, kc_b_47, kc_b_48, kc_b_57, kc_b_58, kc_b_59, kc_b_60, kc_b_61, kc_b_62, kc_b_63, kc_b_91, kc_b_93, kc_b_97, kc_b_99, kc_b_100, kc_b_106, kc_b_122, kc_s_206, kc_s_226, kc_s_227, kc_s_255, kc_s_256, kc_s_316, kc_s_318, kc_s_400, kc_s_512, kc_s_999, kc_s_1160, kc_s_1536, kc_s_3003, kc_lm11, kc_lm10, kc_lm9, kc_lm8, kc_lm7, kc_lm6, kc_lm5, kc_lm4, kc_lm3, kc_lm2, kc_lm1, kc_l1, kc_l2, kc_l3, kc_l4, kc_l5, kc_l6, kc_l7, kc_l8, kc_l9, kc_l10, kc_l11, kc_l12, kc_l13, kc_l14, kc_l37, kc_l42, kc_l43, kc_l45, kc_l47, kc_l60, kc_l61, kc_l62, kc_l316, kc_l318, kc_l65536, kc_l99999, kc_l1000000, kc_l252645135, kc_l858993459, kc_l1431655765, kc_0, kc_on, ra_193_20 R, mn_203, gi_n, nx_lt, nx_le, nx_eq, nx_add, nx_sub, nx_mul, nx_cl, n_lt_ng, n_le_ng, n_eq_ng, ng_lt_n, ng_le_n, ng_eq_n, ng_eq, ng_lt, ng_le, nx_dec, hA, h1.1, m_isAlive_t w R hA hi, m_isLee_t w R hA hi, m_manOf_n R hA (by omega : 10 + 6 * i + 3 < 227), m3.1, Option.bind_some, nx_shl1]
    rw [if_pos (by simp), if_neg (by omega), ← or_bs (p := isFit A) (isFit A i) rfl (by omega)]
    have e : isFit A i = (!isDd A i && decide (an A (10 + 6 * i + 3) = 0) && !isLe A i) := by
      unfold isFit
      rw [m3.1]
      simp (disch := omega) only [nx_eq]
    rw [e]
    cases isDd A i with
    | true => simp [nx_eq]
    | false =>
      by_cases q : an A (10 + 6 * i + 3) = 0
      · cases isLe A i <;> simp [q, nx_eq]
      · simp [q, nx_eq]
  · unfold m_fewest_36
    simp (disch := omega) only [kc_im8, kc_im1, kc_i0, kc_i1, kc_i2, kc_i3, kc_i4, kc_i5, kc_b_m100, kc_b_m16, kc_b_m15, kc_b_m14, kc_b_m13, kc_b_m12, kc_b_m11, kc_b_m2, kc_b_6, kc_b_7, kc_b_8, kc_b_9, kc_b_10, kc_b_11, kc_b_12, kc_b_13, kc_b_14, kc_b_15, kc_b_16, kc_b_20, kc_b_24, kc_b_32, kc_b_37, kc_b_40, kc_b_42, kc_b_43, kc_b_45, kc_b_47, kc_b_48, kc_b_57, kc_b_58, kc_b_59, kc_b_60, kc_b_61, kc_b_62, kc_b_63, kc_b_91, kc_b_93, kc_b_97, kc_b_99, kc_b_100, kc_b_106, kc_b_122, kc_s_206, kc_s_226, kc_s_227, kc_s_255, kc_s_256, kc_s_316, kc_s_318, kc_s_400, kc_s_512, kc_s_999, kc_s_1160, kc_s_1536, kc_s_3003, kc_lm11, kc_lm10, kc_lm9, kc_lm8, kc_lm7, kc_lm6, kc_lm5, kc_lm4, kc_lm3, kc_lm2, kc_lm1, kc_l1, kc_l2, kc_l3, kc_l4, kc_l5, kc_l6, kc_l7, kc_l8, kc_l9, kc_l10, kc_l11, kc_l12, kc_l13, kc_l14, kc_l37, kc_l42, kc_l43, kc_l45, kc_l47, kc_l60, kc_l61, kc_l62, kc_l316, kc_l318, kc_l65536, kc_l99999, kc_l1000000, kc_l252645135, kc_l858993459, kc_l1431655765, kc_0, kc_on, ra_193_20 R, mn_203, gi_n, nx_lt, nx_le, nx_eq, nx_add, nx_sub, nx_mul, nx_cl, n_lt_ng, n_le_ng, n_eq_ng, ng_lt_n, ng_le_n, ng_eq_n, ng_eq, ng_lt, ng_le, nx_dec, hA, h1.1, Option.bind_some]
    rw [if_pos (by simp), if_pos (by omega)]
    rfl
theorem sub_or {a b c : Nat} (h : sub a b) : sub (a ||| c) (b ||| c) := by
  intro i hi
  rw [Nat.testBit_or, Bool.or_eq_true] at hi ⊢
  rcases hi with q | q
  · exact .inl (h i q)
  · exact .inr q
theorem m_fewest_109_sp (M : MI h A) {ords k : Nat} (ho : ords < 2147483648) (hk : k ≤ 1) : SP (m_fewest_109 193 (nI ords) (nI k) (nI (fitN A)) (nI (bb (bN A))) h) (fun z => z.1 = (match fewF A ords (fitN A + 1) with
  | none => ng 2
  | some i => if nI k = nI 0 then nI (pc i) else nI i) ∧ FM h z.2) := by
  have M' := M
  obtain ⟨R, hA, w⟩ := M
  have hf := fit_lt w
  have hp := p2men w
  have hbb : bb (bN A) < 2 ^ 9 := by unfold bb; split <;> decide
  unfold m_fewest_109
  rw [nx_or2]
  refine sp_call (g_ord M' (Nat.or_lt_two_pow (n := 9) (by omega) hbb) (fun m q => ?_)) ?_
  · rw [Nat.testBit_or, Bool.or_eq_true] at q
    rcases q with q | q
    · unfold fitN at q
      rw [bs_bit, Bool.and_eq_true, decide_eq_true_eq] at q
      exact .inl q.1
    · unfold bb at q
      split at q
      · rw [Nat.zero_testBit] at q; cases q
      · rename_i e
        rw [bit_256, decide_eq_true_eq] at q
        exact .inr ⟨q.symm, e⟩
  rintro h2 ⟨f2, E2⟩
  have R2 := R.fm f2
  have key : wh (fun z : (Int32 × Int32 × pm_H) => m_fewest_126 193 (nI ords) (nI k) (nI (fitN A)) (nI (bb (bN A))) z.1 z.2.1 z.2.2) (ng 2, nI 0, h2) = some (ov2 (fewF A ords (fitN A + 1)), h2) := by
    refine wh_for (fun i => (ov2 (fewF A ords i), nI i, h2)) (fitN A + 1) 0 (by omega) (fun i _ hi => ?_) ?_
    · have hor : i ||| bb (bN A) < 2 ^ 9 := Nat.or_lt_two_pow (by omega) hbb
      have hlt1 : sd i (fitN A) ≤ i := sub_le (sub_sd _ _)
      have hlt2 : sd ords (cN A (bN A) (i ||| bb (bN A))) ≤ ords := sub_le (sub_sd _ _)
      unfold m_fewest_126 m_fewest_179
      simp (disch := omega) only [kc_im8, kc_im1, kc_i0, kc_i1, kc_i2, kc_i3, kc_i4, kc_i5, kc_b_m100, kc_b_m16, kc_b_m15, kc_b_m14, kc_b_m13, kc_b_m12, kc_b_m11, kc_b_m2, kc_b_6, kc_b_7, kc_b_8, kc_b_9, kc_b_10, kc_b_11, kc_b_12, kc_b_13, kc_b_14, kc_b_15, kc_b_16, kc_b_20, kc_b_24, kc_b_32, kc_b_37, kc_b_40, kc_b_42, kc_b_43, kc_b_45, kc_b_47, kc_b_48, kc_b_57, kc_b_58, kc_b_59, kc_b_60, kc_b_61, kc_b_62, kc_b_63, kc_b_91, kc_b_93, kc_b_97, kc_b_99, kc_b_100, kc_b_106, kc_b_122, kc_s_206, kc_s_226, kc_s_227, kc_s_255, kc_s_256, kc_s_316, kc_s_318, kc_s_400, kc_s_512, kc_s_999, kc_s_1160, kc_s_1536, kc_s_3003, kc_lm11, kc_lm10, kc_lm9, kc_lm8, kc_lm7, kc_lm6, kc_lm5, kc_lm4, kc_lm3, kc_lm2, kc_lm1, kc_l1, kc_l2, kc_l3, kc_l4, kc_l5, kc_l6, kc_l7, kc_l8, kc_l9, kc_l10, kc_l11, kc_l12, kc_l13, kc_l14, kc_l37, kc_l42, kc_l43, kc_l45, kc_l47, kc_l60, kc_l61, kc_l62, kc_l316, kc_l318, kc_l65536, kc_l99999, kc_l1000000, kc_l252645135, kc_l858993459, kc_l1431655765, kc_0, kc_on, nx_lt, nx_le, nx_eq, nx_add, nx_sub, nx_mul, nx_cl, n_lt_ng, n_le_ng, n_eq_ng, ng_lt_n, ng_le_n, ng_eq_n, ng_eq, ng_lt, ng_le, nx_dec, nx_andn, nx_or2, ra_193_26 R2, Option.bind_some, mn_207, gi_n]
      rw [if_neg (by omega)]
      by_cases q1 : sd i (fitN A) = 0
      · rw [if_neg (by omega), if_pos (by simp; omega), E2 _ (sub_or (sd_0.mp q1)), nx_andn]
        by_cases q2 : sd ords (cN A (bN A) (i ||| bb (bN A))) = 0
        · rw [q2, if_pos rfl]
          cases hb : fewF A ords i with
          | none =>
            rw [if_pos (by show ng 2 < nI 0; decide), fewF, if_pos ⟨⟨q1, q2⟩, fun b e => by rw [hb] at e; cases e⟩]
            rfl
          | some b =>
            have hbl := (fewF_lt A ords i b hb).1
            have p1 := pc_le i (by omega)
            have p2 := pc_le b (by omega)
            rw [show ov2 (some b) = nI b from rfl, if_neg (by rw [nx_lt (by omega) (by omega)]; omega), m_bits_n h2 (by omega), Option.bind_some, m_bits_n h2 (by omega), Option.bind_some]
            by_cases q3 : pc b ≤ pc i
            · rw [if_pos (by rw [nx_le (by omega) (by omega)]; exact q3), fewF, if_neg (fun z => by have := z.2 b hb; omega), hb]
              rfl
            · rw [if_neg (by rw [nx_le (by omega) (by omega)]; exact q3), fewF, if_pos ⟨⟨q1, q2⟩, fun b' e => by rw [hb] at e; cases e; omega⟩]
              rfl
        · rw [if_neg (by rw [nx_eq (by omega) (by omega)]; exact q2), fewF, if_neg (fun z => q2 z.1.2)]
      · rw [if_pos q1, fewF, if_neg (fun z => q1 z.1.1)]
    · unfold m_fewest_126
      simp (disch := omega) only [kc_im8, kc_im1, kc_i0, kc_i1, kc_i2, kc_i3, kc_i4, kc_i5, kc_b_m100, kc_b_m16, kc_b_m15, kc_b_m14, kc_b_m13, kc_b_m12, kc_b_m11, kc_b_m2, kc_b_6, kc_b_7, kc_b_8, kc_b_9, kc_b_10, kc_b_11, kc_b_12, kc_b_13, kc_b_14, kc_b_15, kc_b_16, kc_b_20, kc_b_24, kc_b_32, kc_b_37, kc_b_40, kc_b_42, kc_b_43, kc_b_45, kc_b_47, kc_b_48, kc_b_57, kc_b_58, kc_b_59, kc_b_60, kc_b_61, kc_b_62, kc_b_63, kc_b_91, kc_b_93, kc_b_97, kc_b_99, kc_b_100, kc_b_106, kc_b_122, kc_s_206, kc_s_226, kc_s_227, kc_s_255, kc_s_256, kc_s_316, kc_s_318, kc_s_400, kc_s_512, kc_s_999, kc_s_1160, kc_s_1536, kc_s_3003, kc_lm11, kc_lm10, kc_lm9, kc_lm8, kc_lm7, kc_lm6, kc_lm5, kc_lm4, kc_lm3, kc_lm2, kc_lm1, kc_l1, kc_l2, kc_l3, kc_l4, kc_l5, kc_l6, kc_l7, kc_l8, kc_l9, kc_l10, kc_l11, kc_l12, kc_l13, kc_l14, kc_l37, kc_l42, kc_l43, kc_l45, kc_l47, kc_l60, kc_l61, kc_l62, kc_l316, kc_l318, kc_l65536, kc_l99999, kc_l1000000, kc_l252645135, kc_l858993459, kc_l1431655765, kc_0, kc_on, nx_lt, nx_le, nx_eq, nx_add, nx_sub, nx_mul, nx_cl, n_lt_ng, n_le_ng, n_eq_ng, ng_lt_n, ng_le_n, ng_eq_n, ng_eq, ng_lt, ng_le, nx_dec]
      rw [if_pos (by omega)]
  simp only [kc_im8, kc_im1, kc_i0, kc_i1, kc_i2, kc_i3, kc_i4, kc_i5, kc_b_m100, kc_b_m16, kc_b_m15, kc_b_m14, kc_b_m13, kc_b_m12, kc_b_m11, kc_b_m2, kc_b_6, kc_b_7, kc_b_8, kc_b_9, kc_b_10, kc_b_11, kc_b_12, kc_b_13, kc_b_14, kc_b_15, kc_b_16, kc_b_20, kc_b_24, kc_b_32, kc_b_37, kc_b_40, kc_b_42, kc_b_43, kc_b_45, kc_b_47, kc_b_48, kc_b_57, kc_b_58, kc_b_59, kc_b_60, kc_b_61, kc_b_62, kc_b_63, kc_b_91, kc_b_93, kc_b_97, kc_b_99, kc_b_100, kc_b_106, kc_b_122, kc_s_206, kc_s_226, kc_s_227, kc_s_255, kc_s_256, kc_s_316, kc_s_318, kc_s_400, kc_s_512, kc_s_999, kc_s_1160, kc_s_1536, kc_s_3003, kc_lm11, kc_lm10, kc_lm9, kc_lm8, kc_lm7, kc_lm6, kc_lm5, kc_lm4, kc_lm3, kc_lm2, kc_lm1, kc_l1, kc_l2, kc_l3, kc_l4, kc_l5, kc_l6, kc_l7, kc_l8, kc_l9, kc_l10, kc_l11, kc_l12, kc_l13, kc_l14, kc_l37, kc_l42, kc_l43, kc_l45, kc_l47, kc_l60, kc_l61, kc_l62, kc_l316, kc_l318, kc_l65536, kc_l99999, kc_l1000000, kc_l252645135, kc_l858993459, kc_l1431655765, kc_0, kc_on, key, Option.bind_some]
  have ff := f2.fm (fun c hc => hc.mf) (fun j hj => by unfold FF; omega)
  cases hb : fewF A ords (fitN A + 1) with
  | none => exact sp_neg (by show ¬ nI 0 ≤ ng 2; decide) (sp_some.mpr ⟨rfl, ff⟩)
  | some i =>
    have hi := (fewF_lt A ords _ i hb).1
    refine sp_pos (by show nI 0 ≤ nI i; rw [nx_le (by omega) (by omega)]; omega) ?_
    have : k = 0 ∨ k = 1 := by omega
    rcases this with rfl | rfl
    · refine sp_neg (by simp) ?_
      rw [show ov2 (some i) = nI i from rfl, m_bits_n h2 (by omega), Option.bind_some]
      exact sp_some.mpr ⟨rfl, ff⟩
    · exact sp_pos (by decide) (sp_some.mpr ⟨rfl, ff⟩)
theorem m_fewest_sp (M : MI h A) (x y : Int32) : SP (m_fewest 193 x y h) (fun z => z.1 = vFewest A x y ∧ FM h z.2) := by
  have M' := M
  obtain ⟨R, hA, w⟩ := M
  have h2 := w.e2
  have hp : 2 ^ an A 2 ≤ 256 := Nat.pow_le_pow_right (n := 2) (by decide) (by omega : an A 2 ≤ 8)
  have hp1 : 1 ≤ 2 ^ an A 2 := Nat.one_le_two_pow
  have none_ : ¬ (0 < an A 0 ∧ (∃ k, k ≤ 2 ^ an A 2 - 1 ∧ x = nI k) ∧ ∃ k, k ≤ 1 ∧ y = nI k) → SP (some (ng 1, h)) (fun z : Int32 × pm_H => z.1 = vFewest A x y ∧ FM h z.2) := by
    intro q
    refine sp_some.mpr ⟨?_, FM.refl _⟩
    unfold vFewest
    rw [if_neg q]
  have hall : m_allOrders 193 h = some (nI (2 ^ an A 2 - 1)) := by
    unfold m_allOrders
    simp (disch := omega) only [kc_im8, kc_im1, kc_i0, kc_i1, kc_i2, kc_i3, kc_i4, kc_i5, kc_b_m100, kc_b_m16, kc_b_m15, kc_b_m14, kc_b_m13, kc_b_m12, kc_b_m11, kc_b_m2, kc_b_6, kc_b_7, kc_b_8, kc_b_9, kc_b_10, kc_b_11, kc_b_12, kc_b_13, kc_b_14, kc_b_15, kc_b_16, kc_b_20, kc_b_24, kc_b_32, kc_b_37, kc_b_40, kc_b_42, kc_b_43, kc_b_45, kc_b_47, kc_b_48, kc_b_57, kc_b_58, kc_b_59, kc_b_60, kc_b_61, kc_b_62, kc_b_63, kc_b_91, kc_b_93, kc_b_97, kc_b_99, kc_b_100, kc_b_106, kc_b_122, kc_s_206, kc_s_226, kc_s_227, kc_s_255, kc_s_256, kc_s_316, kc_s_318, kc_s_400, kc_s_512, kc_s_999, kc_s_1160, kc_s_1536, kc_s_3003, kc_lm11, kc_lm10, kc_lm9, kc_lm8, kc_lm7, kc_lm6, kc_lm5, kc_lm4, kc_lm3, kc_lm2, kc_lm1, kc_l1, kc_l2, kc_l3, kc_l4, kc_l5, kc_l6, kc_l7, kc_l8, kc_l9, kc_l10, kc_l11, kc_l12, kc_l13, kc_l14, kc_l37, kc_l42, kc_l43, kc_l45, kc_l47, kc_l60, kc_l61, kc_l62, kc_l316, kc_l318, kc_l65536, kc_l99999, kc_l1000000, kc_l252645135, kc_l858993459, kc_l1431655765, kc_0, kc_on, ra_193_20 R, mn_203, gi_n, nx_cl, hA, h2.1, nx_shl1, Option.bind_some]
    rw [if_pos (by simp), nx_sub hp1]
  unfold m_fewest
  rw [m_isShip_n M', Option.bind_some]
  simp only [kc_im8, kc_im1, kc_i0, kc_i1, kc_i2, kc_i3, kc_i4, kc_i5, kc_b_m100, kc_b_m16, kc_b_m15, kc_b_m14, kc_b_m13, kc_b_m12, kc_b_m11, kc_b_m2, kc_b_6, kc_b_7, kc_b_8, kc_b_9, kc_b_10, kc_b_11, kc_b_12, kc_b_13, kc_b_14, kc_b_15, kc_b_16, kc_b_20, kc_b_24, kc_b_32, kc_b_37, kc_b_40, kc_b_42, kc_b_43, kc_b_45, kc_b_47, kc_b_48, kc_b_57, kc_b_58, kc_b_59, kc_b_60, kc_b_61, kc_b_62, kc_b_63, kc_b_91, kc_b_93, kc_b_97, kc_b_99, kc_b_100, kc_b_106, kc_b_122, kc_s_206, kc_s_226, kc_s_227, kc_s_255, kc_s_256, kc_s_316, kc_s_318, kc_s_400, kc_s_512, kc_s_999, kc_s_1160, kc_s_1536, kc_s_3003, kc_lm11, kc_lm10, kc_lm9, kc_lm8, kc_lm7, kc_lm6, kc_lm5, kc_lm4, kc_lm3, kc_lm2, kc_lm1, kc_l1, kc_l2, kc_l3, kc_l4, kc_l5, kc_l6, kc_l7, kc_l8, kc_l9, kc_l10, kc_l11, kc_l12, kc_l13, kc_l14, kc_l37, kc_l42, kc_l43, kc_l45, kc_l47, kc_l60, kc_l61, kc_l62, kc_l316, kc_l318, kc_l65536, kc_l99999, kc_l1000000, kc_l252645135, kc_l858993459, kc_l1431655765, kc_0, kc_on]
  by_cases h0 : 0 < an A 0
  · refine sp_neg (by rw [decide_eq_true h0]; show ¬ nI 1 = nI 0; decide) ?_
    rw [hall, Option.bind_some]
    by_cases hx : ∃ k, k ≤ 2 ^ an A 2 - 1 ∧ x = nI k
    · obtain ⟨ords, ho, rfl⟩ := hx
      refine sp_neg (by rw [nx_lt (by omega) (by omega)]; omega) (sp_neg (by rw [nx_lt (by omega) (by omega)]; omega) ?_)
      by_cases hy : ∃ k, k ≤ 1 ∧ y = nI k
      · obtain ⟨k, hk, rfl⟩ := hy
        rw [m_in_t h (lo := Int64.ofNat 0) (hi := Int64.ofNat 1) hk (by omega) rfl rfl, Option.bind_some]
        refine sp_pos (by decide) ?_
        rw [m_can M', Option.bind_some]
        dsimp only
        rw [ra_193_20 R, Option.bind_some, mn_203, gi_n (by omega), nx_cl (by omega), hA]
        refine sp_pos (by simp) ?_
        have hbv := bN_bv w
        have main : SP (m_fewest_109 193 (nI ords) (nI k) (nI (fitN A)) (nI (bb (bN A))) h) (fun z => z.1 = vFewest A (nI ords) (nI k) ∧ FM h z.2) := by
          have hv : vFewest A (nI ords) (nI k) = (match fewF A ords (fitN A + 1) with
            | none => ng 2
            | some i => if nI k = nI 0 then nI (pc i) else nI i) := by
            unfold vFewest
            rw [if_pos ⟨h0, ⟨ords, ho, rfl⟩, k, hk, rfl⟩, nx_cl (by omega)]
          rw [hv]
          exact m_fewest_109_sp M' (by omega) hk
        by_cases q : bN A = 0
        · rw [show bb (bN A) = 0 from by unfold bb; rw [if_pos q]] at main
          refine sp_pos (by rw [← hbv.1, bv_neg hbv.2]; exact q) main
        · rw [show bb (bN A) = 256 from by unfold bb; rw [if_neg q]] at main
          refine sp_neg (by rw [← hbv.1, bv_neg hbv.2]; exact q) main
      · rw [m_in_f h (lo := Int64.ofNat 0) (hi := Int64.ofNat 1) hy (by omega) rfl rfl, Option.bind_some]
        exact sp_neg (by simp) (none_ (fun q => hy q.2.2))
    · by_cases q0 : x < nI 0
      · exact sp_pos q0 (none_ (fun q => hx q.2.1))
      · exact sp_neg q0 (sp_pos (nrng (by omega) hx q0).1 (none_ (fun q => hx q.2.1)))
  · exact sp_pos (by rw [decide_eq_false h0]; rfl) (none_ (fun q => h0 q.1))
end FW
