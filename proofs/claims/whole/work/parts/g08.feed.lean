/-! The tape: four bytes are put. -/
def w_ (i : Nat) : Int32 := if i = 4 then ng 8 else nI (24 - 8 * i)
/-- the bytes B, and from L on those of x -/
def pB (B : Nat → Nat) (L : Nat) (x : Int32) (k : Nat) : Nat := if L ≤ k then by8 (x >>> (nI (24 - 8 * (k - L)) &&& 31)) else B k
theorem w_next {i : Nat} (hi : i < 4) : nI (24 - 8 * i) + ng 8 = w_ (i + 1) := by
  have : i = 0 ∨ i = 1 ∨ i = 2 ∨ i = 3 := by omega
  rcases this with rfl | rfl | rfl | rfl <;> decide
section FE
variable {h : pm_H} {L : Nat} {B : Nat → Nat}
theorem t_put_sp (R : RF h) (C : CT h L B) (hL : L + 4 ≤ 400) (x : Int32) : SP (t_put 1 x h) (fun h' => Fr (fun c => c = 1 ∨ c = 2) h h' ∧ CT h' (L + 4) (pB B L x)) := by
  unfold t_put
  simp only [kc_im8, kc_im1, kc_i0, kc_i1, kc_i2, kc_i3, kc_i4, kc_i5, kc_b_m100, kc_b_m16, kc_b_m15, kc_b_m14, kc_b_m13, kc_b_m12, kc_b_m11, kc_b_m2, kc_b_6, kc_b_7, kc_b_8, kc_b_9, kc_b_10, kc_b_11, kc_b_12, kc_b_13, kc_b_14, kc_b_15, kc_b_16, kc_b_20, kc_b_24, kc_b_32, kc_b_37, kc_b_40, kc_b_42, kc_b_43, kc_b_45, kc_b_47, kc_b_48, kc_b_57, kc_b_58, kc_b_59, kc_b_60, kc_b_61, kc_b_62, kc_b_63, kc_b_91, kc_b_93, kc_b_97, kc_b_99, kc_b_100, kc_b_106, kc_b_122, kc_s_206, kc_s_226, kc_s_227, kc_s_255, kc_s_256, kc_s_316, kc_s_318, kc_s_400, kc_s_512, kc_s_999, kc_s_1160, kc_s_1536, kc_s_3003, kc_lm11, kc_lm10, kc_lm9, kc_lm8, kc_lm7, kc_lm6, kc_lm5, kc_lm4, kc_lm3, kc_lm2, kc_lm1, kc_l1, kc_l2, kc_l3, kc_l4, kc_l5, kc_l6, kc_l7, kc_l8, kc_l9, kc_l10, kc_l11, kc_l12, kc_l13, kc_l14, kc_l37, kc_l42, kc_l43, kc_l45, kc_l47, kc_l60, kc_l61, kc_l62, kc_l316, kc_l318, kc_l65536, kc_l99999, kc_l1000000, kc_l252645135, kc_l858993459, kc_l1431655765, kc_0, kc_on]
  have key : SP (wh (fun s : (Int32 × pm_H) => t_put_3 1 x s.1 s.2) (nI 24, h)) (fun h' => Fr (fun c => c = 1 ∨ c = 2) h h' ∧ CT h' (L + 4) (pB B L x)) := by
    refine wh_cnt (fun i z => z.1 = w_ i ∧ Fr (fun c => c = 1 ∨ c = 2) h z.2 ∧ CT z.2 (L + i) (pB B L x)) _ 4 ?_ ?_ 0 (nI 24, h) (by omega) ⟨rfl, Fr.refl _ _, C.1, by omega, fun k hk => ?_⟩
    · rintro i ⟨y, h1⟩ hi ⟨hy, f1, c1, c2, c3⟩
      dsimp only at hy f1 c1 c2 c3
      have R1 := R.fr f1
      have hw : w_ i = nI (24 - 8 * i) := if_neg (by omega)
      rw [hw] at hy
      subst hy
      unfold t_put_3
      simp only [kc_im8, kc_im1, kc_i0, kc_i1, kc_i2, kc_i3, kc_i4, kc_i5, kc_b_m100, kc_b_m16, kc_b_m15, kc_b_m14, kc_b_m13, kc_b_m12, kc_b_m11, kc_b_m2, kc_b_6, kc_b_7, kc_b_8, kc_b_9, kc_b_10, kc_b_11, kc_b_12, kc_b_13, kc_b_14, kc_b_15, kc_b_16, kc_b_20, kc_b_24, kc_b_32, kc_b_37, kc_b_40, kc_b_42, kc_b_43, kc_b_45, kc_b_47, kc_b_48, kc_b_57, kc_b_58, kc_b_59, kc_b_60, kc_b_61, kc_b_62, kc_b_63, kc_b_91, kc_b_93, kc_b_97, kc_b_99, kc_b_100, kc_b_106, kc_b_122, kc_s_206, kc_s_226, kc_s_227, kc_s_255, kc_s_256, kc_s_316, kc_s_318, kc_s_400, kc_s_512, kc_s_999, kc_s_1160, kc_s_1536, kc_s_3003, kc_lm11, kc_lm10, kc_lm9, kc_lm8, kc_lm7, kc_lm6, kc_lm5, kc_lm4, kc_lm3, kc_lm2, kc_lm1, kc_l1, kc_l2, kc_l3, kc_l4, kc_l5, kc_l6, kc_l7, kc_l8, kc_l9, kc_l10, kc_l11, kc_l12, kc_l13, kc_l14, kc_l37, kc_l42, kc_l43, kc_l45, kc_l47, kc_l60, kc_l61, kc_l62, kc_l316, kc_l318, kc_l65536, kc_l99999, kc_l1000000, kc_l252645135, kc_l858993459, kc_l1431655765, kc_0, kc_on]
      rw [c1, ra_1_0 R1]
      refine sp_neg (by rw [nx_lt (by omega) (by omega)]; omega) (sp_neg (by rw [nx_lt (by omega) (by omega)]; omega) ?_)
      rw [Option.bind_some, mn_2]
      refine sp_neg (by rw [nx_le (by omega) (by omega)]; omega) ?_
      rw [Option.bind_some, mn_2, gi_n (by omega), nx_cl (by omega)]
      refine sp_pos (by simp; omega) ?_
      rw [sp_bd, sp_bd, sp_some, ri_c _ (by omega), c1, nx_add, by8_and, w_next hi]
      refine ⟨rfl, (f1.setI (.inr rfl)).setI (.inl rfl), ri_s _, by omega, fun k hk => ?_⟩
      show (pm_setI (pm_setI h1 2 (L + i) _) 1 1 _).2.1 2 k = _ ∧ _
      rw [ri_c _ (by omega)]
      by_cases q : k = L + i
      · subst q
        rw [ri_s]
        unfold pB
        rw [if_pos (by omega), show L + i - L = i from by omega]
        exact ⟨rfl, by8_lt _⟩
      · rw [ri_j _ q]
        exact c3 k (by omega)
    · rintro ⟨y, h1⟩ ⟨hy, f1, c1⟩
      dsimp only at hy f1 c1
      subst hy
      unfold t_put_3
      simp only [kc_im8, kc_im1, kc_i0, kc_i1, kc_i2, kc_i3, kc_i4, kc_i5, kc_b_m100, kc_b_m16, kc_b_m15, kc_b_m14, kc_b_m13, kc_b_m12, kc_b_m11, kc_b_m2, kc_b_6, kc_b_7, kc_b_8, kc_b_9, kc_b_10, kc_b_11, kc_b_12, kc_b_13, kc_b_14, kc_b_15, kc_b_16, kc_b_20, kc_b_24, kc_b_32, kc_b_37, kc_b_40, kc_b_42, kc_b_43, kc_b_45, kc_b_47, kc_b_48, kc_b_57, kc_b_58, kc_b_59, kc_b_60, kc_b_61, kc_b_62, kc_b_63, kc_b_91, kc_b_93, kc_b_97, kc_b_99, kc_b_100, kc_b_106, kc_b_122, kc_s_206, kc_s_226, kc_s_227, kc_s_255, kc_s_256, kc_s_316, kc_s_318, kc_s_400, kc_s_512, kc_s_999, kc_s_1160, kc_s_1536, kc_s_3003, kc_lm11, kc_lm10, kc_lm9, kc_lm8, kc_lm7, kc_lm6, kc_lm5, kc_lm4, kc_lm3, kc_lm2, kc_lm1, kc_l1, kc_l2, kc_l3, kc_l4, kc_l5, kc_l6, kc_l7, kc_l8, kc_l9, kc_l10, kc_l11, kc_l12, kc_l13, kc_l14, kc_l37, kc_l42, kc_l43, kc_l45, kc_l47, kc_l60, kc_l61, kc_l62, kc_l316, kc_l318, kc_l65536, kc_l99999, kc_l1000000, kc_l252645135, kc_l858993459, kc_l1431655765, kc_0, kc_on]
      exact sp_pos (by decide) (sp_some.mpr ⟨f1, c1⟩)
    · have q := C.2.2 k (by omega)
      unfold pB
      rw [if_neg (by omega)]
      exact q
  refine sp_call key ?_
  rintro h' q
  exact sp_some.mpr q
theorem m_four_sp (R : RF h) (C : MT h L B) (hL : L + 4 ≤ 400) (x : Int32) : SP (m_four 193 x h) (fun h' => FrM (· = 194) (· = 1) h h' ∧ MT h' (L + 4) (pB B L x)) := by
  unfold m_four
  simp only [kc_im8, kc_im1, kc_i0, kc_i1, kc_i2, kc_i3, kc_i4, kc_i5, kc_b_m100, kc_b_m16, kc_b_m15, kc_b_m14, kc_b_m13, kc_b_m12, kc_b_m11, kc_b_m2, kc_b_6, kc_b_7, kc_b_8, kc_b_9, kc_b_10, kc_b_11, kc_b_12, kc_b_13, kc_b_14, kc_b_15, kc_b_16, kc_b_20, kc_b_24, kc_b_32, kc_b_37, kc_b_40, kc_b_42, kc_b_43, kc_b_45, kc_b_47, kc_b_48, kc_b_57, kc_b_58, kc_b_59, kc_b_60, kc_b_61, kc_b_62, kc_b_63, kc_b_91, kc_b_93, kc_b_97, kc_b_99, kc_b_100, kc_b_106, kc_b_122, kc_s_206, kc_s_226, kc_s_227, kc_s_255, kc_s_256, kc_s_316, kc_s_318, kc_s_400, kc_s_512, kc_s_999, kc_s_1160, kc_s_1536, kc_s_3003, kc_lm11, kc_lm10, kc_lm9, kc_lm8, kc_lm7, kc_lm6, kc_lm5, kc_lm4, kc_lm3, kc_lm2, kc_lm1, kc_l1, kc_l2, kc_l3, kc_l4, kc_l5, kc_l6, kc_l7, kc_l8, kc_l9, kc_l10, kc_l11, kc_l12, kc_l13, kc_l14, kc_l37, kc_l42, kc_l43, kc_l45, kc_l47, kc_l60, kc_l61, kc_l62, kc_l316, kc_l318, kc_l65536, kc_l99999, kc_l1000000, kc_l252645135, kc_l858993459, kc_l1431655765, kc_0, kc_on]
  have key : SP (wh (fun s : (Int32 × pm_H) => m_four_3 193 x s.1 s.2) (nI 24, h)) (fun h' => FrM (· = 194) (· = 1) h h' ∧ MT h' (L + 4) (pB B L x)) := by
    refine wh_cnt (fun i z => z.1 = w_ i ∧ FrM (· = 194) (· = 1) h z.2 ∧ MT z.2 (L + i) (pB B L x)) _ 4 ?_ ?_ 0 (nI 24, h) (by omega) ⟨rfl, FrM.refl _ _ _, C.1, by omega, fun k hk => ?_⟩
    · rintro i ⟨y, h1⟩ hi ⟨hy, f1, c1, c2, c3⟩
      dsimp only at hy f1 c1 c2 c3
      have R1 := R.fm f1
      have hw : w_ i = nI (24 - 8 * i) := if_neg (by omega)
      rw [hw] at hy
      subst hy
      unfold m_four_3
      simp only [kc_im8, kc_im1, kc_i0, kc_i1, kc_i2, kc_i3, kc_i4, kc_i5, kc_b_m100, kc_b_m16, kc_b_m15, kc_b_m14, kc_b_m13, kc_b_m12, kc_b_m11, kc_b_m2, kc_b_6, kc_b_7, kc_b_8, kc_b_9, kc_b_10, kc_b_11, kc_b_12, kc_b_13, kc_b_14, kc_b_15, kc_b_16, kc_b_20, kc_b_24, kc_b_32, kc_b_37, kc_b_40, kc_b_42, kc_b_43, kc_b_45, kc_b_47, kc_b_48, kc_b_57, kc_b_58, kc_b_59, kc_b_60, kc_b_61, kc_b_62, kc_b_63, kc_b_91, kc_b_93, kc_b_97, kc_b_99, kc_b_100, kc_b_106, kc_b_122, kc_s_206, kc_s_226, kc_s_227, kc_s_255, kc_s_256, kc_s_316, kc_s_318, kc_s_400, kc_s_512, kc_s_999, kc_s_1160, kc_s_1536, kc_s_3003, kc_lm11, kc_lm10, kc_lm9, kc_lm8, kc_lm7, kc_lm6, kc_lm5, kc_lm4, kc_lm3, kc_lm2, kc_lm1, kc_l1, kc_l2, kc_l3, kc_l4, kc_l5, kc_l6, kc_l7, kc_l8, kc_l9, kc_l10, kc_l11, kc_l12, kc_l13, kc_l14, kc_l37, kc_l42, kc_l43, kc_l45, kc_l47, kc_l60, kc_l61, kc_l62, kc_l316, kc_l318, kc_l65536, kc_l99999, kc_l1000000, kc_l252645135, kc_l858993459, kc_l1431655765, kc_0, kc_on]
      rw [c1, ra_193_0 R1]
      refine sp_neg (by rw [nx_lt (by omega) (by omega)]; omega) ?_
      rw [Option.bind_some, mn_194, gi_n (by omega), nx_cl (by omega)]
      refine sp_pos (by simp; omega) ?_
      rw [sp_bd, sp_bd, sp_some, ri_c _ (by omega), c1, nx_add, by8_nar, w_next hi]
      refine ⟨rfl, (f1.setI (by omega) rfl).setF rfl, ri_s _, by omega, fun k hk => ?_⟩
      show (pm_setI (pm_setI h1 194 (L + i) _) 193 1 _).2.1 194 k = _ ∧ _
      rw [ri_c _ (by omega)]
      by_cases q : k = L + i
      · subst q
        rw [ri_s]
        unfold pB
        rw [if_pos (by omega), show L + i - L = i from by omega]
        exact ⟨rfl, by8_lt _⟩
      · rw [ri_j _ q]
        exact c3 k (by omega)
    · rintro ⟨y, h1⟩ ⟨hy, f1, c1⟩
      dsimp only at hy f1 c1
      subst hy
      unfold m_four_3
      simp only [kc_im8, kc_im1, kc_i0, kc_i1, kc_i2, kc_i3, kc_i4, kc_i5, kc_b_m100, kc_b_m16, kc_b_m15, kc_b_m14, kc_b_m13, kc_b_m12, kc_b_m11, kc_b_m2, kc_b_6, kc_b_7, kc_b_8, kc_b_9, kc_b_10, kc_b_11, kc_b_12, kc_b_13, kc_b_14, kc_b_15, kc_b_16, kc_b_20, kc_b_24, kc_b_32, kc_b_37, kc_b_40, kc_b_42, kc_b_43, kc_b_45, kc_b_47, kc_b_48, kc_b_57, kc_b_58, kc_b_59, kc_b_60, kc_b_61, kc_b_62, kc_b_63, kc_b_91, kc_b_93, kc_b_97, kc_b_99, kc_b_100, kc_b_106, kc_b_122, kc_s_206, kc_s_226, kc_s_227, kc_s_255, kc_s_256, kc_s_316, kc_s_318, kc_s_400, kc_s_512, kc_s_999, kc_s_1160, kc_s_1536, kc_s_3003, kc_lm11, kc_lm10, kc_lm9, kc_lm8, kc_lm7, kc_lm6, kc_lm5, kc_lm4, kc_lm3, kc_lm2, kc_lm1, kc_l1, kc_l2, kc_l3, kc_l4, kc_l5, kc_l6, kc_l7, kc_l8, kc_l9, kc_l10, kc_l11, kc_l12, kc_l13, kc_l14, kc_l37, kc_l42, kc_l43, kc_l45, kc_l47, kc_l60, kc_l61, kc_l62, kc_l316, kc_l318, kc_l65536, kc_l99999, kc_l1000000, kc_l252645135, kc_l858993459, kc_l1431655765, kc_0, kc_on]
      exact sp_pos (by decide) (sp_some.mpr ⟨f1, c1⟩)
    · have q := C.2.2 k (by omega)
      unfold pB
      rw [if_neg (by omega)]
      exact q
  refine sp_call key ?_
  rintro h' q
  exact sp_some.mpr q
end FE
