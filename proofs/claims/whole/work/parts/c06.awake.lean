/-! Questions: awake, ask. -/
def agr (A : Nat → Int32) (e : Nat) : Bool := (List.range (an A 226)).find? (fun k => decide (¬ nI (e.testBit (an A (206 + 2 * k))).toNat = A (206 + 2 * k + 1))) == none
def okD (A : Nat → Int32) (i : Nat) : Prop := sd i (alvN A) = 0 ∧ agr A (cN A 0 i) = true
noncomputable def okB (A : Nat → Int32) (i : Nat) : Bool := @decide (okD A i) (Classical.propDecidable _)
noncomputable def gC (A : Nat → Int32) : Nat → Nat
  | 0 => 0
  | i + 1 => gC A i + (okB A i).toNat
noncomputable def gI (A : Nat → Int32) : Nat → Nat
  | 0 => alvN A
  | i + 1 => if okB A i = true then gI A i &&& i else gI A i
noncomputable def gS (A : Nat → Int32) : Nat → Nat
  | 0 => 0
  | i + 1 => if okB A i = true then gS A i ||| i else gS A i
noncomputable def gB (A : Nat → Int32) (o : Nat) : Nat → Nat
  | 0 => 0
  | i + 1 => gB A o i + (okB A i && (cN A 0 i).testBit o).toNat
section AW
variable {h : pm_H} {s : Nat} {A : Nat → Int32}
theorem okB_t {i : Nat} : okB A i = true ↔ okD A i := by unfold okB; simp
theorem okB_f {i : Nat} (hi : alvN A < i) : okB A i = false := by
  cases q : okB A i with
  | false => rfl
  | true =>
    have := sub_le (sd_0.mp (okB_t.mp q).1)
    omega
theorem g_end (A : Nat → Int32) : ∀ d, gC A (alvN A + 1 + d) = gC A (alvN A + 1) ∧ gI A (alvN A + 1 + d) = gI A (alvN A + 1) ∧ gS A (alvN A + 1 + d) = gS A (alvN A + 1) ∧ ∀ o, gB A o (alvN A + 1 + d) = gB A o (alvN A + 1)
  | 0 => ⟨rfl, rfl, rfl, fun _ => rfl⟩
  | d + 1 => by
    obtain ⟨h1, h2, h3, h4⟩ := g_end A d
    have e := okB_f (A := A) (i := alvN A + 1 + d) (by omega)
    rw [show alvN A + 1 + (d + 1) = alvN A + 1 + d + 1 from by omega]
    refine ⟨?_, ?_, ?_, fun o => ?_⟩
    · rw [gC, e, h1]; rfl
    · rw [gI, e, if_neg (by simp), h2]
    · rw [gS, e, if_neg (by simp), h3]
    · rw [gB, e, h4 o]; rfl
theorem gC_le (A : Nat → Int32) : ∀ i, gC A i ≤ i
  | 0 => Nat.le_refl _
  | i + 1 => by
    rw [gC]
    have := gC_le A i
    have h2 : (okB A i).toNat ≤ 1 := Bool.toNat_le _
    omega
theorem gB_le (A : Nat → Int32) (o : Nat) : ∀ i, gB A o i ≤ gC A i
  | 0 => Nat.le_refl _
  | i + 1 => by
    rw [gB, gC]
    have := gB_le A o i
    have : (okB A i && (cN A 0 i).testBit o).toNat ≤ (okB A i).toNat := by cases okB A i <;> cases (cN A 0 i).testBit o <;> decide
    omega
theorem w_agrees_n (D : CDn h 168 A) (w : WFA A) (R : RF h) {e : Nat} (he : e < 2147483648) : w_agrees 168 (nI e) h = some (nI (agr A e).toNat) := by
  have d0 := w.d0
  have h2 := w.e2
  obtain ⟨o9, c1, c2, d, hd, c3, c4⟩ := D
  unfold w_agrees
  have key := wh_find (f := fun q : Int32 => w_agrees_2 168 (nI e) q h) (fun i => nI i) (fun _ => (Sum.inl () : Unit ⊕ Unit)) (.inr ()) (fun k => decide (¬ nI (e.testBit (an A (206 + 2 * k))).toNat = A (206 + 2 * k + 1))) (an A 226) (fun i hi => ?_) ?_
  · simp only [kc_im8, kc_im1, kc_i0, kc_i1, kc_i2, kc_i3, kc_i4, kc_i5, kc_b_m100, kc_b_m16, kc_b_m15, kc_b_m14, kc_b_m13, kc_b_m12, kc_b_m11, kc_b_m2, kc_b_6, kc_b_7, kc_b_8, kc_b_9, kc_b_10, kc_b_11, kc_b_12, kc_b_13, kc_b_14, kc_b_15, kc_b_16, kc_b_20, kc_b_24, kc_b_32, kc_b_37, kc_b_40, kc_b_42, kc_b_43, kc_b_45, kc_b_47, kc_b_48, kc_b_57, kc_b_58, kc_b_59, kc_b_60, kc_b_61, kc_b_62, kc_b_63, kc_b_91, kc_b_93, kc_b_97, kc_b_99, kc_b_100, kc_b_106, kc_b_122, kc_s_206, kc_s_226, kc_s_227, kc_s_255, kc_s_256, kc_s_316, kc_s_318, kc_s_400, kc_s_512, kc_s_999, kc_s_1160, kc_s_1536, kc_s_3003, kc_lm11, kc_lm10, kc_lm9, kc_lm8, kc_lm7, kc_lm6, kc_lm5, kc_lm4, kc_lm3, kc_lm2, kc_lm1, kc_l1, kc_l2, kc_l3, kc_l4, kc_l5, kc_l6, kc_l7, kc_l8, kc_l9, kc_l10, kc_l11, kc_l12, kc_l13, kc_l14, kc_l37, kc_l42, kc_l43, kc_l45, kc_l47, kc_l60, kc_l61, kc_l62, kc_l316, kc_l318, kc_l65536, kc_l99999, kc_l1000000, kc_l252645135, kc_l858993459, kc_l1431655765, kc_0, kc_on, key, Option.bind_some]
    unfold agr
    cases (List.range (an A 226)).find? (fun k => decide (¬ nI (e.testBit (an A (206 + 2 * k))).toNat = A (206 + 2 * k + 1))) <;> rfl
  · have d1 := w.d1 hi
    unfold w_agrees_2
    simp (disch := omega) only [kc_im8, kc_im1, kc_i0, kc_i1, kc_i2, kc_i3, kc_i4, kc_i5, kc_b_m100, kc_b_m16, kc_b_m15, kc_b_m14, kc_b_m13, kc_b_m12, kc_b_m11, kc_b_m2, kc_b_6, kc_b_7, kc_b_8, kc_b_9, kc_b_10, kc_b_11, kc_b_12, kc_b_13, kc_b_14, kc_b_15, kc_b_16, kc_b_20, kc_b_24, kc_b_32, kc_b_37, kc_b_40, kc_b_42, kc_b_43, kc_b_45, kc_b_47, kc_b_48, kc_b_57, kc_b_58, kc_b_59, kc_b_60, kc_b_61, kc_b_62, kc_b_63, kc_b_91, kc_b_93, kc_b_97, kc_b_99, kc_b_100, kc_b_106, kc_b_122, kc_s_206, kc_s_226, kc_s_227, kc_s_255, kc_s_256, kc_s_316, kc_s_318, kc_s_400, kc_s_512, kc_s_999, kc_s_1160, kc_s_1536, kc_s_3003, kc_lm11, kc_lm10, kc_lm9, kc_lm8, kc_lm7, kc_lm6, kc_lm5, kc_lm4, kc_lm3, kc_lm2, kc_lm1, kc_l1, kc_l2, kc_l3, kc_l4, kc_l5, kc_l6, kc_l7, kc_l8, kc_l9, kc_l10, kc_l11, kc_l12, kc_l13, kc_l14, kc_l37, kc_l42, kc_l43, kc_l45, kc_l47, kc_l60, kc_l61, kc_l62, kc_l316, kc_l318, kc_l65536, kc_l99999, kc_l1000000, kc_l252645135, kc_l858993459, kc_l1431655765, kc_0, kc_on, c1, d0.1, nx_lt, nx_le, nx_eq, nx_add, nx_sub, nx_mul, nx_cl, n_lt_ng, n_le_ng, n_eq_ng, ng_lt_n, ng_le_n, ng_eq_n, ng_eq, ng_lt, ng_le, nx_dec, rf_w3 R o169, ln_w3 o169, Option.bind_some, gi_n, c2 i hi, d1.1, c3, x_bit_n]
    rw [if_neg (by omega), if_neg (by omega), if_pos (by simp; omega), c4 i hi]
    by_cases q : nI (e.testBit (an A (206 + 2 * i))).toNat = nI (d.testBit i).toNat
    · rw [if_pos q]; simp [q]
    · rw [if_neg q]; simp [q]
  · unfold w_agrees_2
    simp (disch := omega) only [kc_im8, kc_im1, kc_i0, kc_i1, kc_i2, kc_i3, kc_i4, kc_i5, kc_b_m100, kc_b_m16, kc_b_m15, kc_b_m14, kc_b_m13, kc_b_m12, kc_b_m11, kc_b_m2, kc_b_6, kc_b_7, kc_b_8, kc_b_9, kc_b_10, kc_b_11, kc_b_12, kc_b_13, kc_b_14, kc_b_15, kc_b_16, kc_b_20, kc_b_24, kc_b_32, kc_b_37, kc_b_40, kc_b_42, kc_b_43, kc_b_45, kc_b_47, kc_b_48, kc_b_57, kc_b_58, kc_b_59, kc_b_60, kc_b_61, kc_b_62, kc_b_63, kc_b_91, kc_b_93, kc_b_97, kc_b_99, kc_b_100, kc_b_106, kc_b_122, kc_s_206, kc_s_226, kc_s_227, kc_s_255, kc_s_256, kc_s_316, kc_s_318, kc_s_400, kc_s_512, kc_s_999, kc_s_1160, kc_s_1536, kc_s_3003, kc_lm11, kc_lm10, kc_lm9, kc_lm8, kc_lm7, kc_lm6, kc_lm5, kc_lm4, kc_lm3, kc_lm2, kc_lm1, kc_l1, kc_l2, kc_l3, kc_l4, kc_l5, kc_l6, kc_l7, kc_l8, kc_l9, kc_l10, kc_l11, kc_l12, kc_l13, kc_l14, kc_l37, kc_l42, kc_l43, kc_l45, kc_l47, kc_l60, kc_l61, kc_l62, kc_l316, kc_l318, kc_l65536, kc_l99999, kc_l1000000, kc_l252645135, kc_l858993459, kc_l1431655765, kc_0, kc_on, c1, d0.1, nx_lt, nx_le, nx_eq, nx_add, nx_sub, nx_mul, nx_cl, n_lt_ng, n_le_ng, n_eq_ng, ng_lt_n, ng_le_n, ng_eq_n, ng_eq, ng_lt, ng_le, nx_dec]
    rw [if_pos (by omega)]
theorem m_isDoneSo_n (M : MI h A) {u e : Nat} (hu : u < 512) (he : e < 2147483648) (hs : h.2.1 207 u = nI e) : m_isDoneSo 193 (nI u) h = some (nI (agr A e).toNat) := by
  obtain ⟨R, hA, w⟩ := M
  have d0 := w.d0
  have h2 := w.e2
  unfold m_isDoneSo
  have key := wh_find (f := fun q : Int32 => m_isDoneSo_2 193 (nI u) q h) (fun i => nI i) (fun _ => (Sum.inl () : Unit ⊕ Unit)) (.inr ()) (fun k => decide (¬ nI (e.testBit (an A (206 + 2 * k))).toNat = A (206 + 2 * k + 1))) (an A 226) (fun i hi => ?_) ?_
  · simp only [kc_im8, kc_im1, kc_i0, kc_i1, kc_i2, kc_i3, kc_i4, kc_i5, kc_b_m100, kc_b_m16, kc_b_m15, kc_b_m14, kc_b_m13, kc_b_m12, kc_b_m11, kc_b_m2, kc_b_6, kc_b_7, kc_b_8, kc_b_9, kc_b_10, kc_b_11, kc_b_12, kc_b_13, kc_b_14, kc_b_15, kc_b_16, kc_b_20, kc_b_24, kc_b_32, kc_b_37, kc_b_40, kc_b_42, kc_b_43, kc_b_45, kc_b_47, kc_b_48, kc_b_57, kc_b_58, kc_b_59, kc_b_60, kc_b_61, kc_b_62, kc_b_63, kc_b_91, kc_b_93, kc_b_97, kc_b_99, kc_b_100, kc_b_106, kc_b_122, kc_s_206, kc_s_226, kc_s_227, kc_s_255, kc_s_256, kc_s_316, kc_s_318, kc_s_400, kc_s_512, kc_s_999, kc_s_1160, kc_s_1536, kc_s_3003, kc_lm11, kc_lm10, kc_lm9, kc_lm8, kc_lm7, kc_lm6, kc_lm5, kc_lm4, kc_lm3, kc_lm2, kc_lm1, kc_l1, kc_l2, kc_l3, kc_l4, kc_l5, kc_l6, kc_l7, kc_l8, kc_l9, kc_l10, kc_l11, kc_l12, kc_l13, kc_l14, kc_l37, kc_l42, kc_l43, kc_l45, kc_l47, kc_l60, kc_l61, kc_l62, kc_l316, kc_l318, kc_l65536, kc_l99999, kc_l1000000, kc_l252645135, kc_l858993459, kc_l1431655765, kc_0, kc_on, key, Option.bind_some]
    unfold agr
    cases (List.range (an A 226)).find? (fun k => decide (¬ nI (e.testBit (an A (206 + 2 * k))).toNat = A (206 + 2 * k + 1))) <;> rfl
  · have d1 := w.d1 hi
    unfold m_isDoneSo_2
    simp (disch := omega) only [kc_im8, kc_im1, kc_i0, kc_i1, kc_i2, kc_i3, kc_i4, kc_i5, kc_b_m100, kc_b_m16, kc_b_m15, kc_b_m14, kc_b_m13, kc_b_m12, kc_b_m11, kc_b_m2, kc_b_6, kc_b_7, kc_b_8, kc_b_9, kc_b_10, kc_b_11, kc_b_12, kc_b_13, kc_b_14, kc_b_15, kc_b_16, kc_b_20, kc_b_24, kc_b_32, kc_b_37, kc_b_40, kc_b_42, kc_b_43, kc_b_45, kc_b_47, kc_b_48, kc_b_57, kc_b_58, kc_b_59, kc_b_60, kc_b_61, kc_b_62, kc_b_63, kc_b_91, kc_b_93, kc_b_97, kc_b_99, kc_b_100, kc_b_106, kc_b_122, kc_s_206, kc_s_226, kc_s_227, kc_s_255, kc_s_256, kc_s_316, kc_s_318, kc_s_400, kc_s_512, kc_s_999, kc_s_1160, kc_s_1536, kc_s_3003, kc_lm11, kc_lm10, kc_lm9, kc_lm8, kc_lm7, kc_lm6, kc_lm5, kc_lm4, kc_lm3, kc_lm2, kc_lm1, kc_l1, kc_l2, kc_l3, kc_l4, kc_l5, kc_l6, kc_l7, kc_l8, kc_l9, kc_l10, kc_l11, kc_l12, kc_l13, kc_l14, kc_l37, kc_l42, kc_l43, kc_l45, kc_l47, kc_l60, kc_l61, kc_l62, kc_l316, kc_l318, kc_l65536, kc_l99999, kc_l1000000, kc_l252645135, kc_l858993459, kc_l1431655765, kc_0, kc_on, ra_193_20 R, ra_193_26 R, mn_203, mn_207, hA, d0.1, nx_lt, nx_le, nx_eq, nx_add, nx_sub, nx_mul, nx_cl, n_lt_ng, n_le_ng, n_eq_ng, ng_lt_n, ng_le_n, ng_eq_n, ng_eq, ng_lt, ng_le, nx_dec, Option.bind_some, gi_n, hs, d1.1, nx_bit]
    rw [if_pos (by simp), if_neg (by omega), if_pos (by simpa using hu), if_pos (by simp; omega), if_pos (by simp; omega)]
    by_cases q : nI (e.testBit (an A (206 + 2 * i))).toNat = A (206 + 2 * i + 1)
    · rw [if_pos q]; simp [q]
    · rw [if_neg q]; simp [q]
  · unfold m_isDoneSo_2
    simp (disch := omega) only [kc_im8, kc_im1, kc_i0, kc_i1, kc_i2, kc_i3, kc_i4, kc_i5, kc_b_m100, kc_b_m16, kc_b_m15, kc_b_m14, kc_b_m13, kc_b_m12, kc_b_m11, kc_b_m2, kc_b_6, kc_b_7, kc_b_8, kc_b_9, kc_b_10, kc_b_11, kc_b_12, kc_b_13, kc_b_14, kc_b_15, kc_b_16, kc_b_20, kc_b_24, kc_b_32, kc_b_37, kc_b_40, kc_b_42, kc_b_43, kc_b_45, kc_b_47, kc_b_48, kc_b_57, kc_b_58, kc_b_59, kc_b_60, kc_b_61, kc_b_62, kc_b_63, kc_b_91, kc_b_93, kc_b_97, kc_b_99, kc_b_100, kc_b_106, kc_b_122, kc_s_206, kc_s_226, kc_s_227, kc_s_255, kc_s_256, kc_s_316, kc_s_318, kc_s_400, kc_s_512, kc_s_999, kc_s_1160, kc_s_1536, kc_s_3003, kc_lm11, kc_lm10, kc_lm9, kc_lm8, kc_lm7, kc_lm6, kc_lm5, kc_lm4, kc_lm3, kc_lm2, kc_lm1, kc_l1, kc_l2, kc_l3, kc_l4, kc_l5, kc_l6, kc_l7, kc_l8, kc_l9, kc_l10, kc_l11, kc_l12, kc_l13, kc_l14, kc_l37, kc_l42, kc_l43, kc_l45, kc_l47, kc_l60, kc_l61, kc_l62, kc_l316, kc_l318, kc_l65536, kc_l99999, kc_l1000000, kc_l252645135, kc_l858993459, kc_l1431655765, kc_0, kc_on, ra_193_20 R, mn_203, hA, d0.1, nx_lt, nx_le, nx_eq, nx_add, nx_sub, nx_mul, nx_cl, n_lt_ng, n_le_ng, n_eq_ng, ng_lt_n, ng_le_n, ng_eq_n, ng_eq, ng_lt, ng_le, nx_dec, Option.bind_some, gi_n]
    rw [if_pos (by simp), if_pos (by omega)]
theorem a_noteSaid_sp (R : RF h) {e : Nat} (he : e < 2147483648) {g : Nat → Nat} (hg : ∀ o, o < 8 → h.2.1 85 o = nI (g o)) : SP (a_noteSaid 68 (nI e) h) (fun h' => Fr (· = 85) h h' ∧ ∀ o, o < 8 → h'.2.1 85 o = nI (g o + (e.testBit o).toNat)) := by
  unfold a_noteSaid
  simp only [kc_im8, kc_im1, kc_i0, kc_i1, kc_i2, kc_i3, kc_i4, kc_i5, kc_b_m100, kc_b_m16, kc_b_m15, kc_b_m14, kc_b_m13, kc_b_m12, kc_b_m11, kc_b_m2, kc_b_6, kc_b_7, kc_b_8, kc_b_9, kc_b_10, kc_b_11, kc_b_12, kc_b_13, kc_b_14, kc_b_15, kc_b_16, kc_b_20, kc_b_24, kc_b_32, kc_b_37, kc_b_40, kc_b_42, kc_b_43, kc_b_45, kc_b_47, kc_b_48, kc_b_57, kc_b_58, kc_b_59, kc_b_60, kc_b_61, kc_b_62, kc_b_63, kc_b_91, kc_b_93, kc_b_97, kc_b_99, kc_b_100, kc_b_106, kc_b_122, kc_s_206, kc_s_226, kc_s_227, kc_s_255, kc_s_256, kc_s_316, kc_s_318, kc_s_400, kc_s_512, kc_s_999, kc_s_1160, kc_s_1536, kc_s_3003, kc_lm11, kc_lm10, kc_lm9, kc_lm8, kc_lm7, kc_lm6, kc_lm5, kc_lm4, kc_lm3, kc_lm2, kc_lm1, kc_l1, kc_l2, kc_l3, kc_l4, kc_l5, kc_l6, kc_l7, kc_l8, kc_l9, kc_l10, kc_l11, kc_l12, kc_l13, kc_l14, kc_l37, kc_l42, kc_l43, kc_l45, kc_l47, kc_l60, kc_l61, kc_l62, kc_l316, kc_l318, kc_l65536, kc_l99999, kc_l1000000, kc_l252645135, kc_l858993459, kc_l1431655765, kc_0, kc_on]
  refine sp_call (P := fun h' => Fr (· = 85) h h' ∧ ∀ o, o < 8 → h'.2.1 85 o = nI (g o + (e.testBit o).toNat)) ?_ (fun r hr => sp_some.mpr hr)
  refine wh_cnt (fun i z => z.1 = nI i ∧ Fr (· = 85) h z.2 ∧ ∀ o, o < 8 → z.2.2.1 85 o = nI (if o < i then g o + (e.testBit o).toNat else g o)) _ 8 ?_ ?_ 0 (nI 0, h) (by omega) ⟨rfl, Fr.refl _ _, fun o ho => by simpa using hg o ho⟩
  · rintro i ⟨x, h1⟩ hi ⟨rfl, f1, c1⟩
    dsimp only at f1 c1
    have R1 := R.fr f1
    have c := c1 i hi
    rw [if_neg (Nat.lt_irrefl _)] at c
    unfold a_noteSaid_2
    simp (disch := omega) only [kc_im8, kc_im1, kc_i0, kc_i1, kc_i2, kc_i3, kc_i4, kc_i5, kc_b_m100, kc_b_m16, kc_b_m15, kc_b_m14, kc_b_m13, kc_b_m12, kc_b_m11, kc_b_m2, kc_b_6, kc_b_7, kc_b_8, kc_b_9, kc_b_10, kc_b_11, kc_b_12, kc_b_13, kc_b_14, kc_b_15, kc_b_16, kc_b_20, kc_b_24, kc_b_32, kc_b_37, kc_b_40, kc_b_42, kc_b_43, kc_b_45, kc_b_47, kc_b_48, kc_b_57, kc_b_58, kc_b_59, kc_b_60, kc_b_61, kc_b_62, kc_b_63, kc_b_91, kc_b_93, kc_b_97, kc_b_99, kc_b_100, kc_b_106, kc_b_122, kc_s_206, kc_s_226, kc_s_227, kc_s_255, kc_s_256, kc_s_316, kc_s_318, kc_s_400, kc_s_512, kc_s_999, kc_s_1160, kc_s_1536, kc_s_3003, kc_lm11, kc_lm10, kc_lm9, kc_lm8, kc_lm7, kc_lm6, kc_lm5, kc_lm4, kc_lm3, kc_lm2, kc_lm1, kc_l1, kc_l2, kc_l3, kc_l4, kc_l5, kc_l6, kc_l7, kc_l8, kc_l9, kc_l10, kc_l11, kc_l12, kc_l13, kc_l14, kc_l37, kc_l42, kc_l43, kc_l45, kc_l47, kc_l60, kc_l61, kc_l62, kc_l316, kc_l318, kc_l65536, kc_l99999, kc_l1000000, kc_l252645135, kc_l858993459, kc_l1431655765, kc_0, kc_on, ra_68_15 R1, Option.bind_some, mn_85, nx_lt, nx_le, nx_eq, nx_add, nx_sub, nx_mul, nx_cl, n_lt_ng, n_le_ng, n_eq_ng, ng_lt_n, ng_le_n, ng_eq_n, ng_eq, ng_lt, ng_le, nx_dec, gi_n, x_bit_n, c]
    refine sp_neg (by omega) (sp_pos (by simpa using hi) (sp_pos (by simpa using hi) ?_))
    rw [sp_bd, sp_some]
    refine ⟨rfl, f1.setI rfl, fun o ho => ?_⟩
    show (pm_setI h1 85 i _).2.1 85 o = _
    by_cases e1 : o = i
    · subst e1; rw [ri_s, if_pos (by omega)]
    · rw [ri_j _ e1, c1 o ho]
      by_cases e2 : o < i
      · rw [if_pos e2, if_pos (by omega)]
      · rw [if_neg e2, if_neg (by omega)]
  · rintro ⟨x, h1⟩ ⟨rfl, f1, c1⟩
    dsimp only at f1 c1
    unfold a_noteSaid_2
    simp (disch := omega) only [kc_im8, kc_im1, kc_i0, kc_i1, kc_i2, kc_i3, kc_i4, kc_i5, kc_b_m100, kc_b_m16, kc_b_m15, kc_b_m14, kc_b_m13, kc_b_m12, kc_b_m11, kc_b_m2, kc_b_6, kc_b_7, kc_b_8, kc_b_9, kc_b_10, kc_b_11, kc_b_12, kc_b_13, kc_b_14, kc_b_15, kc_b_16, kc_b_20, kc_b_24, kc_b_32, kc_b_37, kc_b_40, kc_b_42, kc_b_43, kc_b_45, kc_b_47, kc_b_48, kc_b_57, kc_b_58, kc_b_59, kc_b_60, kc_b_61, kc_b_62, kc_b_63, kc_b_91, kc_b_93, kc_b_97, kc_b_99, kc_b_100, kc_b_106, kc_b_122, kc_s_206, kc_s_226, kc_s_227, kc_s_255, kc_s_256, kc_s_316, kc_s_318, kc_s_400, kc_s_512, kc_s_999, kc_s_1160, kc_s_1536, kc_s_3003, kc_lm11, kc_lm10, kc_lm9, kc_lm8, kc_lm7, kc_lm6, kc_lm5, kc_lm4, kc_lm3, kc_lm2, kc_lm1, kc_l1, kc_l2, kc_l3, kc_l4, kc_l5, kc_l6, kc_l7, kc_l8, kc_l9, kc_l10, kc_l11, kc_l12, kc_l13, kc_l14, kc_l37, kc_l42, kc_l43, kc_l45, kc_l47, kc_l60, kc_l61, kc_l62, kc_l316, kc_l318, kc_l65536, kc_l99999, kc_l1000000, kc_l252645135, kc_l858993459, kc_l1431655765, kc_0, kc_on, ra_68_15 (R.fr f1), Option.bind_some, mn_85, nx_lt, nx_le, nx_eq, nx_add, nx_sub, nx_mul, nx_cl, n_lt_ng, n_le_ng, n_eq_ng, ng_lt_n, ng_le_n, ng_eq_n, ng_eq, ng_lt, ng_le, nx_dec]
    exact sp_pos (by omega) (sp_some.mpr ⟨f1, fun o ho => by rw [c1 o ho, if_pos ho]⟩)
theorem gI_lt (w : WFA A) : ∀ i, gI A i < 256
  | 0 => (alv_lt w).2
  | i + 1 => by
    rw [gI]
    split
    · exact Nat.lt_of_le_of_lt Nat.and_le_left (gI_lt w i)
    · exact gI_lt w i
theorem CHO.fr {h' : pm_H} (C : CHO h s A) (h0 : h'.2.2.2 69 0 = h.2.2.2 69 0) (h1 : h'.2.1 69 = h.2.1 69) (h2 : h'.2.1 74 = h.2.1 74) (h3 : h'.2.1 75 = h.2.1 75) : CHO h' s A := by
  unfold CHO REA at C ⊢
  rw [h0, h1, h3]
  exact ⟨C.1, C.2.1.fr h2, C.2.2⟩
/-- a change of the asker's own cells alone -/
theorem QI.ask {h' : pm_H} (Q : QI h s A) {P : Nat → Prop} (f : Fr P h h') (hP : ∀ c, P c → c = 68 ∨ (81 ≤ c ∧ c ≤ 89)) : QI h' s A ∧ Fq QF h h' := by
  have fq : Fq QF h h' := f.q.mono (fun c hc => by have := hP c hc; unfold QF; omega)
  have nP : ∀ c, 69 ≤ c → c ≤ 80 → ¬ P c := fun c h1 h2 q => by have := hP c q; omega
  exact ⟨Q.fq fq (fun h0 => (Q.2.2.2.2.2.2 h0).fr (by rw [f.r]) (f.2.2 69 (nP 69 (by omega) (by omega))).1 (f.2.2 74 (nP 74 (by omega) (by omega))).1 (f.2.2 75 (nP 75 (by omega) (by omega))).1), fq⟩
theorem a_gather_sp (Q : QI h s A) (h0 : 0 < an A 0) : SP (a_gather 68 168 h) (fun h' => Fq QF h h' ∧ QI h' s A ∧ h'.2.1 68 12 = nI (gC A (alvN A + 1)) ∧ h'.2.1 68 13 = nI (if gC A (alvN A + 1) = 0 then 0 else gI A (alvN A + 1)) ∧ h'.2.1 68 14 = nI (if gC A (alvN A + 1) = 0 then 0 else sd (alvN A) (gS A (alvN A + 1))) ∧ ∀ o, o < 8 → h'.2.1 85 o = nI (gB A o (alvN A + 1))) := by
  have Q' := Q
  obtain ⟨R, h1, S, H, D, w, C⟩ := Q
  have ha := alv_lt w
  have hp := p2men w
  unfold a_gather
  rw [Q'.now, Option.bind_some, q_hands Q', Option.bind_some, n_living_c S H w, Option.bind_some, sp_bd, sp_bd]
  simp only [kc_im8, kc_im1, kc_i0, kc_i1, kc_i2, kc_i3, kc_i4, kc_i5, kc_b_m100, kc_b_m16, kc_b_m15, kc_b_m14, kc_b_m13, kc_b_m12, kc_b_m11, kc_b_m2, kc_b_6, kc_b_7, kc_b_8, kc_b_9, kc_b_10, kc_b_11, kc_b_12, kc_b_13, kc_b_14, kc_b_15, kc_b_16, kc_b_20, kc_b_24, kc_b_32, kc_b_37, kc_b_40, kc_b_42, kc_b_43, kc_b_45, kc_b_47, kc_b_48, kc_b_57, kc_b_58, kc_b_59, kc_b_60, kc_b_61, kc_b_62, kc_b_63, kc_b_91, kc_b_93, kc_b_97, kc_b_99, kc_b_100, kc_b_106, kc_b_122, kc_s_206, kc_s_226, kc_s_227, kc_s_255, kc_s_256, kc_s_316, kc_s_318, kc_s_400, kc_s_512, kc_s_999, kc_s_1160, kc_s_1536, kc_s_3003, kc_lm11, kc_lm10, kc_lm9, kc_lm8, kc_lm7, kc_lm6, kc_lm5, kc_lm4, kc_lm3, kc_lm2, kc_lm1, kc_l1, kc_l2, kc_l3, kc_l4, kc_l5, kc_l6, kc_l7, kc_l8, kc_l9, kc_l10, kc_l11, kc_l12, kc_l13, kc_l14, kc_l37, kc_l42, kc_l43, kc_l45, kc_l47, kc_l60, kc_l61, kc_l62, kc_l316, kc_l318, kc_l65536, kc_l99999, kc_l1000000, kc_l252645135, kc_l858993459, kc_l1431655765, kc_0, kc_on]
  generalize hh2 : pm_setI (pm_setI h 68 12 (nI 0)) 68 13 (nI (alvN A)) = h2
  have f2 : Fr (· = 68) h h2 := by rw [← hh2]; exact ((Fr.refl (· = 68) h).setI rfl).setI rfl
  have g12 : h2.2.1 68 12 = nI 0 := by rw [← hh2, ri_j _ (by omega), ri_s]
  have g13 : h2.2.1 68 13 = nI (alvN A) := by rw [← hh2, ri_s]
  clear hh2
  have R2 := R.fr f2
  rw [ra_68_15 R2, Option.bind_some]
  refine sp_call (y_fill_sp (by rw [mn_85]; omega)) ?_
  rintro h3 ⟨f3, z3⟩
  rw [mn_85] at z3
  have f23 : Fr (fun c => c = 68 ∨ c = 85) h h3 := (f2.mono (fun _ q => .inl q)).trans (f3.mono (fun _ q => .inr q))
  have QA := Q'.ask f23 (fun c hc => by omega)
  have key : SP (wh (fun z : (Int32 × Int32 × pm_H) => a_gather_38 68 168 (nI (alvN A)) z.1 z.2.1 z.2.2) (nI 0, nI 0, h3)) (fun z => z.1 = nI (gS A 256) ∧ Fq QF h z.2 ∧ QI z.2 s A ∧ z.2.2.1 68 12 = nI (gC A 256) ∧ z.2.2.1 68 13 = nI (gI A 256) ∧ ∀ o, o < 8 → z.2.2.1 85 o = nI (gB A o 256)) := by
    refine wh_cnt (fun i z => z.1 = nI (gS A i) ∧ z.2.1 = nI i ∧ Fq QF h z.2.2 ∧ QI z.2.2 s A ∧ z.2.2.2.1 68 12 = nI (gC A i) ∧ z.2.2.2.1 68 13 = nI (gI A i) ∧ ∀ o, o < 8 → z.2.2.2.1 85 o = nI (gB A o i)) _ 256 ?_ ?_ 0 (nI 0, nI 0, h3) (by omega) ⟨rfl, rfl, QA.2, QA.1, by rw [f3.i _ (by omega)]; exact g12, by rw [f3.i _ (by omega)]; exact g13, fun o ho => z3 o ho⟩
    · rintro i ⟨x, y, h4⟩ hi ⟨rfl, rfl, f4, Q4, a1, a2, a3⟩
      dsimp only at f4 Q4 a1 a2 a3
      have hl1 : sd i (alvN A) ≤ i := sub_le (sub_sd _ _)
      have stay : ∀ h5, Fq QF h h5 → QI h5 s A → h5.2.1 68 = h4.2.1 68 → h5.2.1 85 = h4.2.1 85 → ¬ okD A i → SP (some (Sum.inl (nI (gS A i), nI (i + 1), h5) : (Int32 × Int32 × pm_H) ⊕ (Int32 × pm_H))) (fun q => match q with
          | .inl s' => s'.1 = nI (gS A (i + 1)) ∧ s'.2.1 = nI (i + 1) ∧ Fq QF h s'.2.2 ∧ QI s'.2.2 s A ∧ s'.2.2.2.1 68 12 = nI (gC A (i + 1)) ∧ s'.2.2.2.1 68 13 = nI (gI A (i + 1)) ∧ ∀ o, o < 8 → s'.2.2.2.1 85 o = nI (gB A o (i + 1))
          | .inr z => z.1 = nI (gS A 256) ∧ Fq QF h z.2 ∧ QI z.2 s A ∧ z.2.2.1 68 12 = nI (gC A 256) ∧ z.2.2.1 68 13 = nI (gI A 256) ∧ ∀ o, o < 8 → z.2.2.1 85 o = nI (gB A o 256)) := by
        intro h5 f5 Q5 e1 e2 no
        have ob : okB A i = false := by
          cases q : okB A i with
          | false => rfl
          | true => exact (no (okB_t.mp q)).elim
        refine sp_some.mpr ⟨?_, rfl, f5, Q5, ?_, ?_, fun o ho => ?_⟩
        · rw [gS, ob, if_neg (by simp)]
        · dsimp only; rw [e1, a1, gC, ob]; rfl
        · dsimp only; rw [e1, a2, gI, ob, if_neg (by simp)]
        · dsimp only; rw [e2, a3 o ho, gB, ob]; rfl
      unfold a_gather_38
      simp (disch := omega) only [kc_im8, kc_im1, kc_i0, kc_i1, kc_i2, kc_i3, kc_i4, kc_i5, kc_b_m100, kc_b_m16, kc_b_m15, kc_b_m14, kc_b_m13, kc_b_m12, kc_b_m11, kc_b_m2, kc_b_6, kc_b_7, kc_b_8, kc_b_9, kc_b_10, kc_b_11, kc_b_12, kc_b_13, kc_b_14, kc_b_15, kc_b_16, kc_b_20, kc_b_24, kc_b_32, kc_b_37, kc_b_40, kc_b_42, kc_b_43, kc_b_45, kc_b_47, kc_b_48, kc_b_57, kc_b_58, kc_b_59, kc_b_60, kc_b_61, kc_b_62, kc_b_63, kc_b_91, kc_b_93, kc_b_97, kc_b_99, kc_b_100, kc_b_106, kc_b_122, kc_s_206, kc_s_226, kc_s_227, kc_s_255, kc_s_256, kc_s_316, kc_s_318, kc_s_400, kc_s_512, kc_s_999, kc_s_1160, kc_s_1536, kc_s_3003, kc_lm11, kc_lm10, kc_lm9, kc_lm8, kc_lm7, kc_lm6, kc_lm5, kc_lm4, kc_lm3, kc_lm2, kc_lm1, kc_l1, kc_l2, kc_l3, kc_l4, kc_l5, kc_l6, kc_l7, kc_l8, kc_l9, kc_l10, kc_l11, kc_l12, kc_l13, kc_l14, kc_l37, kc_l42, kc_l43, kc_l45, kc_l47, kc_l60, kc_l61, kc_l62, kc_l316, kc_l318, kc_l65536, kc_l99999, kc_l1000000, kc_l252645135, kc_l858993459, kc_l1431655765, kc_0, kc_on, nx_lt, nx_le, nx_eq, nx_add, nx_sub, nx_mul, nx_cl, n_lt_ng, n_le_ng, n_eq_ng, ng_lt_n, ng_le_n, ng_eq_n, ng_eq, ng_lt, ng_le, nx_dec, nx_andn]
      refine sp_neg (by omega) ?_
      by_cases q1 : sd i (alvN A) = 0
      · refine sp_neg (by omega) ?_
        have hi2 := sub_le (sd_0.mp q1)
        rw [ra_68_0 Q4.1, Option.bind_some, show ng 1 = bv 0 from rfl]
        refine sp_call (k_ord Q4 h0 (b := 0) (X := i) (by omega) (by rw [i255 hi]; omega)) ?_
        rintro ⟨v, h5⟩ ⟨e5, f5, Q5⟩
        dsimp only at e5 f5 Q5
        subst e5
        have f45 : Fq QF h h5 := f4.trans (f5.q.mono (fun c hc => hc.qf))
        have hc := cN_lt A 0 i
        dsimp only
        rw [i255 hi, show bb 0 = 0 from rfl, Nat.or_zero, w_agrees_n Q5.2.2.2.2.1 w Q5.1 (by omega), Option.bind_some]
        have e68 : h5.2.1 68 = h4.2.1 68 := (f5.2.2 68 (by unfold KF; omega)).1
        have e85 : h5.2.1 85 = h4.2.1 85 := (f5.2.2 85 (by unfold KF; omega)).1
        cases q2 : agr A (cN A 0 i) with
        | false =>
          refine sp_pos rfl ((stay h5 f45 Q5 e68 e85 (fun q => by have := q.2; rw [q2] at this; cases this)).mono ?_)
          rintro (z | z) hz <;> exact hz
        | true =>
          have ob : okB A i = true := okB_t.mpr ⟨q1, q2⟩
          have hgc := gC_le A i
          refine sp_neg (by decide) ?_
          rw [sp_bd, sp_bd, e68, a1, nx_add]
          rw [ri_j _ (by omega), e68, a2, nx_and2]
          have f6 : Fr (fun c => c = 68 ∨ c = 85) h5 (pm_setI (pm_setI h5 68 12 (nI (gC A i + 1))) 68 13 (nI (gI A i &&& i))) := ((Fr.refl _ _).setI (.inl rfl)).setI (.inl rfl)
          refine sp_call (a_noteSaid_sp (Q5.1.fr f6) (e := cN A 0 i) (g := fun o => gB A o i) (by omega) (fun o ho => ?_)) ?_
          · rw [ri_c _ (by omega), ri_c _ (by omega), e85]; exact a3 o ho
          · rintro h7 ⟨f7, c7⟩
            have f67 := f6.trans (f7.mono (fun c hc => .inr hc))
            have QB := Q5.ask f67 (fun c hc => by omega)
            rw [nx_or2]
            refine sp_some.mpr ⟨?_, rfl, f45.trans QB.2, QB.1, ?_, ?_, fun o ho => ?_⟩
            · rw [gS, ob, if_pos rfl]
            · dsimp only; rw [f7.i _ (by omega), ri_j _ (by omega), ri_s, gC, ob]; rfl
            · dsimp only; rw [f7.i _ (by omega), ri_s, gI, ob, if_pos rfl]
            · dsimp only; rw [c7 o ho, gB, ob, Bool.true_and]
      · refine sp_pos q1 ((stay h4 f4 Q4 rfl rfl (fun q => q1 q.1)).mono ?_)
        rintro (z | z) hz <;> exact hz
    · rintro ⟨x, y, h4⟩ ⟨rfl, rfl, f4, Q4, a1, a2, a3⟩
      unfold a_gather_38
      simp (disch := omega) only [kc_im8, kc_im1, kc_i0, kc_i1, kc_i2, kc_i3, kc_i4, kc_i5, kc_b_m100, kc_b_m16, kc_b_m15, kc_b_m14, kc_b_m13, kc_b_m12, kc_b_m11, kc_b_m2, kc_b_6, kc_b_7, kc_b_8, kc_b_9, kc_b_10, kc_b_11, kc_b_12, kc_b_13, kc_b_14, kc_b_15, kc_b_16, kc_b_20, kc_b_24, kc_b_32, kc_b_37, kc_b_40, kc_b_42, kc_b_43, kc_b_45, kc_b_47, kc_b_48, kc_b_57, kc_b_58, kc_b_59, kc_b_60, kc_b_61, kc_b_62, kc_b_63, kc_b_91, kc_b_93, kc_b_97, kc_b_99, kc_b_100, kc_b_106, kc_b_122, kc_s_206, kc_s_226, kc_s_227, kc_s_255, kc_s_256, kc_s_316, kc_s_318, kc_s_400, kc_s_512, kc_s_999, kc_s_1160, kc_s_1536, kc_s_3003, kc_lm11, kc_lm10, kc_lm9, kc_lm8, kc_lm7, kc_lm6, kc_lm5, kc_lm4, kc_lm3, kc_lm2, kc_lm1, kc_l1, kc_l2, kc_l3, kc_l4, kc_l5, kc_l6, kc_l7, kc_l8, kc_l9, kc_l10, kc_l11, kc_l12, kc_l13, kc_l14, kc_l37, kc_l42, kc_l43, kc_l45, kc_l47, kc_l60, kc_l61, kc_l62, kc_l316, kc_l318, kc_l65536, kc_l99999, kc_l1000000, kc_l252645135, kc_l858993459, kc_l1431655765, kc_0, kc_on, nx_lt, nx_le, nx_eq, nx_add, nx_sub, nx_mul, nx_cl, n_lt_ng, n_le_ng, n_eq_ng, ng_lt_n, ng_le_n, ng_eq_n, ng_eq, ng_lt, ng_le, nx_dec]
      exact sp_pos (by omega) (sp_some.mpr ⟨rfl, f4, Q4, a1, a2, a3⟩)
  refine sp_call key ?_
  rintro ⟨x, h4⟩ ⟨e4, f4, Q4, a1, a2, a3⟩
  dsimp only at e4 f4 Q4 a1 a2 a3
  subst e4
  dsimp only
  have hen := g_end A (255 - alvN A)
  rw [show alvN A + 1 + (255 - alvN A) = 256 from by omega] at hen
  rw [hen.2.2.1]
  rw [hen.1] at a1
  rw [hen.2.1] at a2
  have hgc := gC_le A (alvN A + 1)
  have fin : ∀ v, v = (if gC A (alvN A + 1) = 0 then 0 else sd (alvN A) (gS A (alvN A + 1))) → SP (a_gather_134 68 (nI v) 68 h4) (fun h' => Fq QF h h' ∧ QI h' s A ∧ h'.2.1 68 12 = nI (gC A (alvN A + 1)) ∧ h'.2.1 68 13 = nI (if gC A (alvN A + 1) = 0 then 0 else gI A (alvN A + 1)) ∧ h'.2.1 68 14 = nI (if gC A (alvN A + 1) = 0 then 0 else sd (alvN A) (gS A (alvN A + 1))) ∧ ∀ o, o < 8 → h'.2.1 85 o = nI (gB A o (alvN A + 1))) := by
    intro v hv
    unfold a_gather_134
    rw [sp_bd, ri_j _ (by omega), a1, ri_j _ (by omega), a2]
    have last : ∀ u, u = (if gC A (alvN A + 1) = 0 then 0 else gI A (alvN A + 1)) → SP (a_gather_153 (nI u) 68 (pm_setI h4 68 14 (nI v))) (fun h' => Fq QF h h' ∧ QI h' s A ∧ h'.2.1 68 12 = nI (gC A (alvN A + 1)) ∧ h'.2.1 68 13 = nI (if gC A (alvN A + 1) = 0 then 0 else gI A (alvN A + 1)) ∧ h'.2.1 68 14 = nI (if gC A (alvN A + 1) = 0 then 0 else sd (alvN A) (gS A (alvN A + 1))) ∧ ∀ o, o < 8 → h'.2.1 85 o = nI (gB A o (alvN A + 1))) := by
      intro u hu
      unfold a_gather_153
      rw [sp_bd, sp_some]
      have f6 : Fr (· = 68) h4 (pm_setI (pm_setI h4 68 14 (nI v)) 68 13 (nI u)) := ((Fr.refl (· = 68) h4).setI rfl).setI rfl
      have QB := Q4.ask f6 (fun c hc => .inl hc)
      refine ⟨f4.trans QB.2, QB.1, ?_, ?_, ?_, fun o ho => ?_⟩
      · rw [ri_j _ (by omega), ri_j _ (by omega)]; exact a1
      · rw [ri_s, hu]
      · rw [ri_j _ (by omega), ri_s, hv]
      · rw [ri_c _ (by omega), ri_c _ (by omega), a3 o ho, hen.2.2.2 o]
    simp only [kc_im8, kc_im1, kc_i0, kc_i1, kc_i2, kc_i3, kc_i4, kc_i5, kc_b_m100, kc_b_m16, kc_b_m15, kc_b_m14, kc_b_m13, kc_b_m12, kc_b_m11, kc_b_m2, kc_b_6, kc_b_7, kc_b_8, kc_b_9, kc_b_10, kc_b_11, kc_b_12, kc_b_13, kc_b_14, kc_b_15, kc_b_16, kc_b_20, kc_b_24, kc_b_32, kc_b_37, kc_b_40, kc_b_42, kc_b_43, kc_b_45, kc_b_47, kc_b_48, kc_b_57, kc_b_58, kc_b_59, kc_b_60, kc_b_61, kc_b_62, kc_b_63, kc_b_91, kc_b_93, kc_b_97, kc_b_99, kc_b_100, kc_b_106, kc_b_122, kc_s_206, kc_s_226, kc_s_227, kc_s_255, kc_s_256, kc_s_316, kc_s_318, kc_s_400, kc_s_512, kc_s_999, kc_s_1160, kc_s_1536, kc_s_3003, kc_lm11, kc_lm10, kc_lm9, kc_lm8, kc_lm7, kc_lm6, kc_lm5, kc_lm4, kc_lm3, kc_lm2, kc_lm1, kc_l1, kc_l2, kc_l3, kc_l4, kc_l5, kc_l6, kc_l7, kc_l8, kc_l9, kc_l10, kc_l11, kc_l12, kc_l13, kc_l14, kc_l37, kc_l42, kc_l43, kc_l45, kc_l47, kc_l60, kc_l61, kc_l62, kc_l316, kc_l318, kc_l65536, kc_l99999, kc_l1000000, kc_l252645135, kc_l858993459, kc_l1431655765, kc_0, kc_on]
    by_cases q : gC A (alvN A + 1) = 0
    · refine sp_neg (by rw [q]; simp) (last 0 (by rw [if_pos q]))
    · refine sp_pos (by rw [nx_eq (by omega) (by omega)]; exact q) (last _ (by rw [if_neg q]))
  simp only [kc_im8, kc_im1, kc_i0, kc_i1, kc_i2, kc_i3, kc_i4, kc_i5, kc_b_m100, kc_b_m16, kc_b_m15, kc_b_m14, kc_b_m13, kc_b_m12, kc_b_m11, kc_b_m2, kc_b_6, kc_b_7, kc_b_8, kc_b_9, kc_b_10, kc_b_11, kc_b_12, kc_b_13, kc_b_14, kc_b_15, kc_b_16, kc_b_20, kc_b_24, kc_b_32, kc_b_37, kc_b_40, kc_b_42, kc_b_43, kc_b_45, kc_b_47, kc_b_48, kc_b_57, kc_b_58, kc_b_59, kc_b_60, kc_b_61, kc_b_62, kc_b_63, kc_b_91, kc_b_93, kc_b_97, kc_b_99, kc_b_100, kc_b_106, kc_b_122, kc_s_206, kc_s_226, kc_s_227, kc_s_255, kc_s_256, kc_s_316, kc_s_318, kc_s_400, kc_s_512, kc_s_999, kc_s_1160, kc_s_1536, kc_s_3003, kc_lm11, kc_lm10, kc_lm9, kc_lm8, kc_lm7, kc_lm6, kc_lm5, kc_lm4, kc_lm3, kc_lm2, kc_lm1, kc_l1, kc_l2, kc_l3, kc_l4, kc_l5, kc_l6, kc_l7, kc_l8, kc_l9, kc_l10, kc_l11, kc_l12, kc_l13, kc_l14, kc_l37, kc_l42, kc_l43, kc_l45, kc_l47, kc_l60, kc_l61, kc_l62, kc_l316, kc_l318, kc_l65536, kc_l99999, kc_l1000000, kc_l252645135, kc_l858993459, kc_l1431655765, kc_0, kc_on, nx_andn]
  by_cases q : gC A (alvN A + 1) = 0
  · rw [a1]
    refine sp_neg (by rw [q]; simp) (fin 0 (by rw [if_pos q]))
  · rw [a1]
    refine sp_pos (by rw [nx_eq (by omega) (by omega)]; exact q) (fin _ (by rw [if_neg q]))
end AW
