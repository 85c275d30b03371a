/-! The tape: end; seed. -/
/-- a byte, with its sign -/
def sb (n : Nat) : Int32 := if n < 128 then nI n else ng (256 - n)
/-- L bytes B on the program's tape, on the reference's tape -/
def CT (h : pm_H) (L : Nat) (B : Nat → Nat) : Prop := h.2.1 1 1 = nI L ∧ L ≤ 400 ∧ ∀ k, k < L → h.2.1 2 k = nI (B k) ∧ B k < 256
def MT (h : pm_H) (L : Nat) (B : Nat → Nat) : Prop := h.2.1 193 1 = nI L ∧ L ≤ 400 ∧ ∀ k, k < L → h.2.1 194 k = sb (B k) ∧ B k < 256
section TA
variable {h : pm_H} {L : Nat} {B : Nat → Nat}
theorem x_end_t (R : RF h) (C : CT h L B) {k : Nat} (hk : k ≤ L) : x_end 0 (nI k) h = some (nI k, pm_setI h 1 1 (nI k)) ∧ CT (pm_setI h 1 1 (nI k)) k B := by
  obtain ⟨c1, c2, c3⟩ := C
  refine ⟨?_, ri_s _, by omega, fun j hj => ?_⟩
  · unfold x_end
    simp only [kc_im8, kc_im1, kc_i0, kc_i1, kc_i2, kc_i3, kc_i4, kc_i5, kc_b_m100, kc_b_m16, kc_b_m15, kc_b_m14, kc_b_m13, kc_b_m12, kc_b_m11, kc_b_m2, kc_b_6, kc_b_7, kc_b_8, kc_b_9, kc_b_10, kc_b_11, kc_b_12, kc_b_13, kc_b_14, kc_b_15, kc_b_16, kc_b_20, kc_b_24, kc_b_32, kc_b_37, kc_b_40, kc_b_42, kc_b_43, kc_b_45, kc_b_47, kc_b_48, kc_b_57, kc_b_58, kc_b_59, kc_b_60, kc_b_61, kc_b_62, kc_b_63, kc_b_91, kc_b_93, kc_b_97, kc_b_99, kc_b_100, kc_b_106, kc_b_122, kc_s_206, kc_s_226, kc_s_227, kc_s_255, kc_s_256, kc_s_316, kc_s_318, kc_s_400, kc_s_512, kc_s_999, kc_s_1160, kc_s_1536, kc_s_3003, kc_lm11, kc_lm10, kc_lm9, kc_lm8, kc_lm7, kc_lm6, kc_lm5, kc_lm4, kc_lm3, kc_lm2, kc_lm1, kc_l1, kc_l2, kc_l3, kc_l4, kc_l5, kc_l6, kc_l7, kc_l8, kc_l9, kc_l10, kc_l11, kc_l12, kc_l13, kc_l14, kc_l37, kc_l42, kc_l43, kc_l45, kc_l47, kc_l60, kc_l61, kc_l62, kc_l316, kc_l318, kc_l65536, kc_l99999, kc_l1000000, kc_l252645135, kc_l858993459, kc_l1431655765, kc_0, kc_on, bd]
    rw [if_neg (by rw [nx_lt (by omega) (by omega)]; omega), ra_0_0 R, Option.bind_some, c1, if_pos (by rw [nx_le (by omega) (by omega)]; exact hk), Option.bind_some]
  · rw [ri_c _ (by omega)]; exact c3 j (by omega)
theorem x_end_f (R : RF h) (C : CT h L B) {x : Int32} (no : ¬ ∃ k, k ≤ L ∧ x = nI k) : x_end 0 x h = some (ng 1, h) := by
  obtain ⟨c1, c2, c3⟩ := C
  unfold x_end
  simp only [kc_im8, kc_im1, kc_i0, kc_i1, kc_i2, kc_i3, kc_i4, kc_i5, kc_b_m100, kc_b_m16, kc_b_m15, kc_b_m14, kc_b_m13, kc_b_m12, kc_b_m11, kc_b_m2, kc_b_6, kc_b_7, kc_b_8, kc_b_9, kc_b_10, kc_b_11, kc_b_12, kc_b_13, kc_b_14, kc_b_15, kc_b_16, kc_b_20, kc_b_24, kc_b_32, kc_b_37, kc_b_40, kc_b_42, kc_b_43, kc_b_45, kc_b_47, kc_b_48, kc_b_57, kc_b_58, kc_b_59, kc_b_60, kc_b_61, kc_b_62, kc_b_63, kc_b_91, kc_b_93, kc_b_97, kc_b_99, kc_b_100, kc_b_106, kc_b_122, kc_s_206, kc_s_226, kc_s_227, kc_s_255, kc_s_256, kc_s_316, kc_s_318, kc_s_400, kc_s_512, kc_s_999, kc_s_1160, kc_s_1536, kc_s_3003, kc_lm11, kc_lm10, kc_lm9, kc_lm8, kc_lm7, kc_lm6, kc_lm5, kc_lm4, kc_lm3, kc_lm2, kc_lm1, kc_l1, kc_l2, kc_l3, kc_l4, kc_l5, kc_l6, kc_l7, kc_l8, kc_l9, kc_l10, kc_l11, kc_l12, kc_l13, kc_l14, kc_l37, kc_l42, kc_l43, kc_l45, kc_l47, kc_l60, kc_l61, kc_l62, kc_l316, kc_l318, kc_l65536, kc_l99999, kc_l1000000, kc_l252645135, kc_l858993459, kc_l1431655765, kc_0, kc_on, bd]
  rcases ixx x (n := L + 1) (by omega) with q | q | ⟨k, hk, rfl⟩
  · rw [if_pos q]
  · by_cases q0 : x < nI 0
    · rw [if_pos q0]
    · rw [if_neg q0, ra_0_0 R, Option.bind_some, c1, if_neg]
      intro z
      have := Int32.le_trans q z
      rw [nx_le (by omega) (by omega)] at this
      omega
  · exact (no ⟨k, by omega, rfl⟩).elim
theorem m_end_t (C : MT h L B) {k : Nat} (hk : k ≤ L) : m_end 193 (nI k) h = some (nI k, pm_setI h 193 1 (nI k)) ∧ MT (pm_setI h 193 1 (nI k)) k B := by
  obtain ⟨c1, c2, c3⟩ := C
  refine ⟨?_, ri_s _, by omega, fun j hj => ?_⟩
  · unfold m_end
    simp only [kc_im8, kc_im1, kc_i0, kc_i1, kc_i2, kc_i3, kc_i4, kc_i5, kc_b_m100, kc_b_m16, kc_b_m15, kc_b_m14, kc_b_m13, kc_b_m12, kc_b_m11, kc_b_m2, kc_b_6, kc_b_7, kc_b_8, kc_b_9, kc_b_10, kc_b_11, kc_b_12, kc_b_13, kc_b_14, kc_b_15, kc_b_16, kc_b_20, kc_b_24, kc_b_32, kc_b_37, kc_b_40, kc_b_42, kc_b_43, kc_b_45, kc_b_47, kc_b_48, kc_b_57, kc_b_58, kc_b_59, kc_b_60, kc_b_61, kc_b_62, kc_b_63, kc_b_91, kc_b_93, kc_b_97, kc_b_99, kc_b_100, kc_b_106, kc_b_122, kc_s_206, kc_s_226, kc_s_227, kc_s_255, kc_s_256, kc_s_316, kc_s_318, kc_s_400, kc_s_512, kc_s_999, kc_s_1160, kc_s_1536, kc_s_3003, kc_lm11, kc_lm10, kc_lm9, kc_lm8, kc_lm7, kc_lm6, kc_lm5, kc_lm4, kc_lm3, kc_lm2, kc_lm1, kc_l1, kc_l2, kc_l3, kc_l4, kc_l5, kc_l6, kc_l7, kc_l8, kc_l9, kc_l10, kc_l11, kc_l12, kc_l13, kc_l14, kc_l37, kc_l42, kc_l43, kc_l45, kc_l47, kc_l60, kc_l61, kc_l62, kc_l316, kc_l318, kc_l65536, kc_l99999, kc_l1000000, kc_l252645135, kc_l858993459, kc_l1431655765, kc_0, kc_on, bd]
    rw [if_neg (by rw [nx_lt (by omega) (by omega)]; omega), c1, if_pos (by rw [nx_le (by omega) (by omega)]; exact hk)]
  · rw [ri_c _ (by omega)]; exact c3 j (by omega)
theorem m_end_f (C : MT h L B) {x : Int32} (no : ¬ ∃ k, k ≤ L ∧ x = nI k) : m_end 193 x h = some (ng 1, h) := by
  obtain ⟨c1, c2, c3⟩ := C
  unfold m_end
  simp only [kc_im8, kc_im1, kc_i0, kc_i1, kc_i2, kc_i3, kc_i4, kc_i5, kc_b_m100, kc_b_m16, kc_b_m15, kc_b_m14, kc_b_m13, kc_b_m12, kc_b_m11, kc_b_m2, kc_b_6, kc_b_7, kc_b_8, kc_b_9, kc_b_10, kc_b_11, kc_b_12, kc_b_13, kc_b_14, kc_b_15, kc_b_16, kc_b_20, kc_b_24, kc_b_32, kc_b_37, kc_b_40, kc_b_42, kc_b_43, kc_b_45, kc_b_47, kc_b_48, kc_b_57, kc_b_58, kc_b_59, kc_b_60, kc_b_61, kc_b_62, kc_b_63, kc_b_91, kc_b_93, kc_b_97, kc_b_99, kc_b_100, kc_b_106, kc_b_122, kc_s_206, kc_s_226, kc_s_227, kc_s_255, kc_s_256, kc_s_316, kc_s_318, kc_s_400, kc_s_512, kc_s_999, kc_s_1160, kc_s_1536, kc_s_3003, kc_lm11, kc_lm10, kc_lm9, kc_lm8, kc_lm7, kc_lm6, kc_lm5, kc_lm4, kc_lm3, kc_lm2, kc_lm1, kc_l1, kc_l2, kc_l3, kc_l4, kc_l5, kc_l6, kc_l7, kc_l8, kc_l9, kc_l10, kc_l11, kc_l12, kc_l13, kc_l14, kc_l37, kc_l42, kc_l43, kc_l45, kc_l47, kc_l60, kc_l61, kc_l62, kc_l316, kc_l318, kc_l65536, kc_l99999, kc_l1000000, kc_l252645135, kc_l858993459, kc_l1431655765, kc_0, kc_on, bd]
  rcases ixx x (n := L + 1) (by omega) with q | q | ⟨k, hk, rfl⟩
  · rw [if_pos q]
  · by_cases q0 : x < nI 0
    · rw [if_pos q0]
    · rw [if_neg q0, c1, if_neg]
      intro z
      have := Int32.le_trans q z
      rw [nx_le (by omega) (by omega)] at this
      omega
  · exact (no ⟨k, by omega, rfl⟩).elim
/-! seed -/
theorem x_seed_t (R : RF h) {x : Int32} (hx : nI 0 ≤ x) : x_seed 0 x h = some (h.2.1 168 5, pm_setI h 168 5 x) := by
  unfold x_seed
  simp only [kc_im8, kc_im1, kc_i0, kc_i1, kc_i2, kc_i3, kc_i4, kc_i5, kc_b_m100, kc_b_m16, kc_b_m15, kc_b_m14, kc_b_m13, kc_b_m12, kc_b_m11, kc_b_m2, kc_b_6, kc_b_7, kc_b_8, kc_b_9, kc_b_10, kc_b_11, kc_b_12, kc_b_13, kc_b_14, kc_b_15, kc_b_16, kc_b_20, kc_b_24, kc_b_32, kc_b_37, kc_b_40, kc_b_42, kc_b_43, kc_b_45, kc_b_47, kc_b_48, kc_b_57, kc_b_58, kc_b_59, kc_b_60, kc_b_61, kc_b_62, kc_b_63, kc_b_91, kc_b_93, kc_b_97, kc_b_99, kc_b_100, kc_b_106, kc_b_122, kc_s_206, kc_s_226, kc_s_227, kc_s_255, kc_s_256, kc_s_316, kc_s_318, kc_s_400, kc_s_512, kc_s_999, kc_s_1160, kc_s_1536, kc_s_3003, kc_lm11, kc_lm10, kc_lm9, kc_lm8, kc_lm7, kc_lm6, kc_lm5, kc_lm4, kc_lm3, kc_lm2, kc_lm1, kc_l1, kc_l2, kc_l3, kc_l4, kc_l5, kc_l6, kc_l7, kc_l8, kc_l9, kc_l10, kc_l11, kc_l12, kc_l13, kc_l14, kc_l37, kc_l42, kc_l43, kc_l45, kc_l47, kc_l60, kc_l61, kc_l62, kc_l316, kc_l318, kc_l65536, kc_l99999, kc_l1000000, kc_l252645135, kc_l858993459, kc_l1431655765, kc_0, kc_on, bd]
  rw [if_pos hx, ra_0_4 R, Option.bind_some, Option.bind_some]
theorem x_seed_f {x : Int32} (hx : ¬ nI 0 ≤ x) : x_seed 0 x h = some (ng 1, h) := by
  unfold x_seed
  simp only [kc_im8, kc_im1, kc_i0, kc_i1, kc_i2, kc_i3, kc_i4, kc_i5, kc_b_m100, kc_b_m16, kc_b_m15, kc_b_m14, kc_b_m13, kc_b_m12, kc_b_m11, kc_b_m2, kc_b_6, kc_b_7, kc_b_8, kc_b_9, kc_b_10, kc_b_11, kc_b_12, kc_b_13, kc_b_14, kc_b_15, kc_b_16, kc_b_20, kc_b_24, kc_b_32, kc_b_37, kc_b_40, kc_b_42, kc_b_43, kc_b_45, kc_b_47, kc_b_48, kc_b_57, kc_b_58, kc_b_59, kc_b_60, kc_b_61, kc_b_62, kc_b_63, kc_b_91, kc_b_93, kc_b_97, kc_b_99, kc_b_100, kc_b_106, kc_b_122, kc_s_206, kc_s_226, kc_s_227, kc_s_255, kc_s_256, kc_s_316, kc_s_318, kc_s_400, kc_s_512, kc_s_999, kc_s_1160, kc_s_1536, kc_s_3003, kc_lm11, kc_lm10, kc_lm9, kc_lm8, kc_lm7, kc_lm6, kc_lm5, kc_lm4, kc_lm3, kc_lm2, kc_lm1, kc_l1, kc_l2, kc_l3, kc_l4, kc_l5, kc_l6, kc_l7, kc_l8, kc_l9, kc_l10, kc_l11, kc_l12, kc_l13, kc_l14, kc_l37, kc_l42, kc_l43, kc_l45, kc_l47, kc_l60, kc_l61, kc_l62, kc_l316, kc_l318, kc_l65536, kc_l99999, kc_l1000000, kc_l252645135, kc_l858993459, kc_l1431655765, kc_0, kc_on, bd]
  rw [if_neg hx]
theorem m_seed_t {x : Int32} (hx : nI 0 ≤ x) : m_seed 193 x h = some (h.2.1 193 21, pm_setI h 193 21 x) := by
  unfold m_seed
  simp only [kc_im8, kc_im1, kc_i0, kc_i1, kc_i2, kc_i3, kc_i4, kc_i5, kc_b_m100, kc_b_m16, kc_b_m15, kc_b_m14, kc_b_m13, kc_b_m12, kc_b_m11, kc_b_m2, kc_b_6, kc_b_7, kc_b_8, kc_b_9, kc_b_10, kc_b_11, kc_b_12, kc_b_13, kc_b_14, kc_b_15, kc_b_16, kc_b_20, kc_b_24, kc_b_32, kc_b_37, kc_b_40, kc_b_42, kc_b_43, kc_b_45, kc_b_47, kc_b_48, kc_b_57, kc_b_58, kc_b_59, kc_b_60, kc_b_61, kc_b_62, kc_b_63, kc_b_91, kc_b_93, kc_b_97, kc_b_99, kc_b_100, kc_b_106, kc_b_122, kc_s_206, kc_s_226, kc_s_227, kc_s_255, kc_s_256, kc_s_316, kc_s_318, kc_s_400, kc_s_512, kc_s_999, kc_s_1160, kc_s_1536, kc_s_3003, kc_lm11, kc_lm10, kc_lm9, kc_lm8, kc_lm7, kc_lm6, kc_lm5, kc_lm4, kc_lm3, kc_lm2, kc_lm1, kc_l1, kc_l2, kc_l3, kc_l4, kc_l5, kc_l6, kc_l7, kc_l8, kc_l9, kc_l10, kc_l11, kc_l12, kc_l13, kc_l14, kc_l37, kc_l42, kc_l43, kc_l45, kc_l47, kc_l60, kc_l61, kc_l62, kc_l316, kc_l318, kc_l65536, kc_l99999, kc_l1000000, kc_l252645135, kc_l858993459, kc_l1431655765, kc_0, kc_on, bd]
  rw [if_pos hx]
theorem m_seed_f {x : Int32} (hx : ¬ nI 0 ≤ x) : m_seed 193 x h = some (ng 1, h) := by
  unfold m_seed
  simp only [kc_im8, kc_im1, kc_i0, kc_i1, kc_i2, kc_i3, kc_i4, kc_i5, kc_b_m100, kc_b_m16, kc_b_m15, kc_b_m14, kc_b_m13, kc_b_m12, kc_b_m11, kc_b_m2, kc_b_6, kc_b_7, kc_b_8, kc_b_9, kc_b_10, kc_b_11, kc_b_12, kc_b_13, kc_b_14, kc_b_15, kc_b_16, kc_b_20, kc_b_24, kc_b_32, kc_b_37, kc_b_40, kc_b_42, kc_b_43, kc_b_45, kc_b_47, kc_b_48, kc_b_57, kc_b_58, kc_b_59, kc_b_60, kc_b_61, kc_b_62, kc_b_63, kc_b_91, kc_b_93, kc_b_97, kc_b_99, kc_b_100, kc_b_106, kc_b_122, kc_s_206, kc_s_226, kc_s_227, kc_s_255, kc_s_256, kc_s_316, kc_s_318, kc_s_400, kc_s_512, kc_s_999, kc_s_1160, kc_s_1536, kc_s_3003, kc_lm11, kc_lm10, kc_lm9, kc_lm8, kc_lm7, kc_lm6, kc_lm5, kc_lm4, kc_lm3, kc_lm2, kc_lm1, kc_l1, kc_l2, kc_l3, kc_l4, kc_l5, kc_l6, kc_l7, kc_l8, kc_l9, kc_l10, kc_l11, kc_l12, kc_l13, kc_l14, kc_l37, kc_l42, kc_l43, kc_l45, kc_l47, kc_l60, kc_l61, kc_l62, kc_l316, kc_l318, kc_l65536, kc_l99999, kc_l1000000, kc_l252645135, kc_l858993459, kc_l1431655765, kc_0, kc_on, bd]
  rw [if_neg hx]
end TA
