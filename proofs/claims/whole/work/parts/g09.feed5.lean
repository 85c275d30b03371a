/-! The tape: feed. -/
def pB5 (B : Nat → Nat) (L : Nat) (a b c d e : Int32) : Nat → Nat := pB (pB (pB (pB (pB B L a) (L + 4) b) (L + 4 + 4) c) (L + 4 + 4 + 4) d) (L + 4 + 4 + 4 + 4) e
section FF
variable {h : pm_H} {L : Nat} {B : Nat → Nat}
theorem x_feed_ok (R : RF h) (C : CT h L B) (hL : L + 20 ≤ 400) (a b c d e : Int32) : SP (x_feed 0 a b c d e h) (fun z => z.1 = nI (L + 20) ∧ Fr (fun c => c = 1 ∨ c = 2) h z.2 ∧ CT z.2 (L + 20) (pB5 B L a b c d e)) := by
  unfold x_feed
  simp only [kc_im8, kc_im1, kc_i0, kc_i1, kc_i2, kc_i3, kc_i4, kc_i5, kc_b_m100, kc_b_m16, kc_b_m15, kc_b_m14, kc_b_m13, kc_b_m12, kc_b_m11, kc_b_m2, kc_b_6, kc_b_7, kc_b_8, kc_b_9, kc_b_10, kc_b_11, kc_b_12, kc_b_13, kc_b_14, kc_b_15, kc_b_16, kc_b_20, kc_b_24, kc_b_32, kc_b_37, kc_b_40, kc_b_42, kc_b_43, kc_b_45, kc_b_47, kc_b_48, kc_b_57, kc_b_58, kc_b_59, kc_b_60, kc_b_61, kc_b_62, kc_b_63, kc_b_91, kc_b_93, kc_b_97, kc_b_99, kc_b_100, kc_b_106, kc_b_122, kc_s_206, kc_s_226, kc_s_227, kc_s_255, kc_s_256, kc_s_316, kc_s_318, kc_s_400, kc_s_512, kc_s_999, kc_s_1160, kc_s_1536, kc_s_3003, kc_lm11, kc_lm10, kc_lm9, kc_lm8, kc_lm7, kc_lm6, kc_lm5, kc_lm4, kc_lm3, kc_lm2, kc_lm1, kc_l1, kc_l2, kc_l3, kc_l4, kc_l5, kc_l6, kc_l7, kc_l8, kc_l9, kc_l10, kc_l11, kc_l12, kc_l13, kc_l14, kc_l37, kc_l42, kc_l43, kc_l45, kc_l47, kc_l60, kc_l61, kc_l62, kc_l316, kc_l318, kc_l65536, kc_l99999, kc_l1000000, kc_l252645135, kc_l858993459, kc_l1431655765, kc_0, kc_on]
  rw [ra_0_0 R, Option.bind_some, C.1, nx_add]
  refine sp_pos (by rw [nx_le (by omega) (by omega)]; exact hL) ?_
  rw [Option.bind_some]
  refine sp_call (t_put_sp R C (by omega) a) ?_
  rintro h1 ⟨f1, C1⟩
  have R1 := R.fr f1
  rw [ra_0_0 R1, Option.bind_some]
  refine sp_call (t_put_sp R1 C1 (by omega) b) ?_
  rintro h2 ⟨f2, C2⟩
  have R2 := R1.fr f2
  rw [ra_0_0 R2, Option.bind_some]
  refine sp_call (t_put_sp R2 C2 (by omega) c) ?_
  rintro h3 ⟨f3, C3⟩
  have R3 := R2.fr f3
  rw [ra_0_0 R3, Option.bind_some]
  refine sp_call (t_put_sp R3 C3 (by omega) d) ?_
  rintro h4 ⟨f4, C4⟩
  have R4 := R3.fr f4
  rw [ra_0_0 R4, Option.bind_some]
  refine sp_call (t_put_sp R4 C4 (by omega) e) ?_
  rintro h5 ⟨f5, C5⟩
  have R5 := R4.fr f5
  rw [ra_0_0 R5, Option.bind_some, sp_some]
  exact ⟨C5.1, (((f1.trans f2).trans f3).trans f4).trans f5, C5⟩
theorem x_feed_no (R : RF h) (C : CT h L B) (hL : ¬ L + 20 ≤ 400) (a b c d e : Int32) : x_feed 0 a b c d e h = some (ng 1, h) := by
  have := C.2.1
  unfold x_feed
  simp only [kc_im8, kc_im1, kc_i0, kc_i1, kc_i2, kc_i3, kc_i4, kc_i5, kc_b_m100, kc_b_m16, kc_b_m15, kc_b_m14, kc_b_m13, kc_b_m12, kc_b_m11, kc_b_m2, kc_b_6, kc_b_7, kc_b_8, kc_b_9, kc_b_10, kc_b_11, kc_b_12, kc_b_13, kc_b_14, kc_b_15, kc_b_16, kc_b_20, kc_b_24, kc_b_32, kc_b_37, kc_b_40, kc_b_42, kc_b_43, kc_b_45, kc_b_47, kc_b_48, kc_b_57, kc_b_58, kc_b_59, kc_b_60, kc_b_61, kc_b_62, kc_b_63, kc_b_91, kc_b_93, kc_b_97, kc_b_99, kc_b_100, kc_b_106, kc_b_122, kc_s_206, kc_s_226, kc_s_227, kc_s_255, kc_s_256, kc_s_316, kc_s_318, kc_s_400, kc_s_512, kc_s_999, kc_s_1160, kc_s_1536, kc_s_3003, kc_lm11, kc_lm10, kc_lm9, kc_lm8, kc_lm7, kc_lm6, kc_lm5, kc_lm4, kc_lm3, kc_lm2, kc_lm1, kc_l1, kc_l2, kc_l3, kc_l4, kc_l5, kc_l6, kc_l7, kc_l8, kc_l9, kc_l10, kc_l11, kc_l12, kc_l13, kc_l14, kc_l37, kc_l42, kc_l43, kc_l45, kc_l47, kc_l60, kc_l61, kc_l62, kc_l316, kc_l318, kc_l65536, kc_l99999, kc_l1000000, kc_l252645135, kc_l858993459, kc_l1431655765, kc_0, kc_on]
  rw [ra_0_0 R, Option.bind_some, C.1, nx_add, if_neg (by rw [nx_le (by omega) (by omega)]; exact hL)]
theorem m_feed_ok (R : RF h) (C : MT h L B) (hL : L + 20 ≤ 400) (a b c d e : Int32) : SP (m_feed 193 a b c d e h) (fun z => z.1 = nI (L + 20) ∧ FrM (· = 194) (· = 1) h z.2 ∧ MT z.2 (L + 20) (pB5 B L a b c d e)) := by
  unfold m_feed
  simp only [kc_im8, kc_im1, kc_i0, kc_i1, kc_i2, kc_i3, kc_i4, kc_i5, kc_b_m100, kc_b_m16, kc_b_m15, kc_b_m14, kc_b_m13, kc_b_m12, kc_b_m11, kc_b_m2, kc_b_6, kc_b_7, kc_b_8, kc_b_9, kc_b_10, kc_b_11, kc_b_12, kc_b_13, kc_b_14, kc_b_15, kc_b_16, kc_b_20, kc_b_24, kc_b_32, kc_b_37, kc_b_40, kc_b_42, kc_b_43, kc_b_45, kc_b_47, kc_b_48, kc_b_57, kc_b_58, kc_b_59, kc_b_60, kc_b_61, kc_b_62, kc_b_63, kc_b_91, kc_b_93, kc_b_97, kc_b_99, kc_b_100, kc_b_106, kc_b_122, kc_s_206, kc_s_226, kc_s_227, kc_s_255, kc_s_256, kc_s_316, kc_s_318, kc_s_400, kc_s_512, kc_s_999, kc_s_1160, kc_s_1536, kc_s_3003, kc_lm11, kc_lm10, kc_lm9, kc_lm8, kc_lm7, kc_lm6, kc_lm5, kc_lm4, kc_lm3, kc_lm2, kc_lm1, kc_l1, kc_l2, kc_l3, kc_l4, kc_l5, kc_l6, kc_l7, kc_l8, kc_l9, kc_l10, kc_l11, kc_l12, kc_l13, kc_l14, kc_l37, kc_l42, kc_l43, kc_l45, kc_l47, kc_l60, kc_l61, kc_l62, kc_l316, kc_l318, kc_l65536, kc_l99999, kc_l1000000, kc_l252645135, kc_l858993459, kc_l1431655765, kc_0, kc_on]
  rw [C.1, nx_add]
  refine sp_pos (by rw [nx_le (by omega) (by omega)]; exact hL) ?_
  refine sp_call (m_four_sp R C (by omega) a) ?_
  rintro h1 ⟨f1, C1⟩
  have R1 := R.fm f1
  refine sp_call (m_four_sp R1 C1 (by omega) b) ?_
  rintro h2 ⟨f2, C2⟩
  have R2 := R1.fm f2
  refine sp_call (m_four_sp R2 C2 (by omega) c) ?_
  rintro h3 ⟨f3, C3⟩
  have R3 := R2.fm f3
  refine sp_call (m_four_sp R3 C3 (by omega) d) ?_
  rintro h4 ⟨f4, C4⟩
  have R4 := R3.fm f4
  refine sp_call (m_four_sp R4 C4 (by omega) e) ?_
  rintro h5 ⟨f5, C5⟩
  exact sp_some.mpr ⟨C5.1, (((f1.trans f2).trans f3).trans f4).trans f5, C5⟩
theorem m_feed_no (C : MT h L B) (hL : ¬ L + 20 ≤ 400) (a b c d e : Int32) : m_feed 193 a b c d e h = some (ng 1, h) := by
  have := C.2.1
  unfold m_feed
  simp only [kc_im8, kc_im1, kc_i0, kc_i1, kc_i2, kc_i3, kc_i4, kc_i5, kc_b_m100, kc_b_m16, kc_b_m15, kc_b_m14, kc_b_m13, kc_b_m12, kc_b_m11, kc_b_m2, kc_b_6, kc_b_7, kc_b_8, kc_b_9, kc_b_10, kc_b_11, kc_b_12, kc_b_13, kc_b_14, kc_b_15, kc_b_16, kc_b_20, kc_b_24, kc_b_32, kc_b_37, kc_b_40, kc_b_42, kc_b_43, kc_b_45, kc_b_47, kc_b_48, kc_b_57, kc_b_58, kc_b_59, kc_b_60, kc_b_61, kc_b_62, kc_b_63, kc_b_91, kc_b_93, kc_b_97, kc_b_99, kc_b_100, kc_b_106, kc_b_122, kc_s_206, kc_s_226, kc_s_227, kc_s_255, kc_s_256, kc_s_316, kc_s_318, kc_s_400, kc_s_512, kc_s_999, kc_s_1160, kc_s_1536, kc_s_3003, kc_lm11, kc_lm10, kc_lm9, kc_lm8, kc_lm7, kc_lm6, kc_lm5, kc_lm4, kc_lm3, kc_lm2, kc_lm1, kc_l1, kc_l2, kc_l3, kc_l4, kc_l5, kc_l6, kc_l7, kc_l8, kc_l9, kc_l10, kc_l11, kc_l12, kc_l13, kc_l14, kc_l37, kc_l42, kc_l43, kc_l45, kc_l47, kc_l60, kc_l61, kc_l62, kc_l316, kc_l318, kc_l65536, kc_l99999, kc_l1000000, kc_l252645135, kc_l858993459, kc_l1431655765, kc_0, kc_on]
  rw [C.1, nx_add, if_neg (by rw [nx_le (by omega) (by omega)]; exact hL)]
end FF
