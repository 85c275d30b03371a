/-! Questions: shortest, seats. -/
section SH
variable {h : pm_H} {s : Nat} {A : Nat → Int32}
theorem dec_t {p : Prop} {i : Decidable p} (hp : p) : @decide p i = true := by cases i with
  | isTrue _ => rfl
  | isFalse q => exact (q hp).elim
theorem dec_f {p : Prop} {i : Decidable p} (hp : ¬ p) : @decide p i = false := by cases i with
  | isTrue q => exact (hp q).elim
  | isFalse _ => rfl
/-- the best row in the asker's cells -/
def BH (h : pm_H) (best : Option (List Nat)) : Prop := match best with
  | none => h.2.1 68 3 = nI 0
  | some t => h.2.1 68 3 = nI t.length ∧ 0 < t.length ∧ t.length ≤ 5 ∧ ∀ i, i < t.length → h.2.1 81 i = nI (t.getD i 0) ∧ t.getD i 0 < 9
theorem a_isBetter_n (R : RF h) {v t : List Nat} {best : Option (List Nat)} (C : CUR h 77 v) (B : BH h best) (hvt : v.length = t.length) (ht : ∀ i, i < t.length → h.2.1 82 i = nI (t.getD i 0) ∧ t.getD i 0 < 9) : a_isBetter 68 h = some (nI (match best with | none => true | some b0 => !(@decide (bef b0 t) (Classical.propDecidable _))).toNat) := by
  have hv5 := C.2.2.1
  cases best with
  | none =>
    have B : h.2.1 68 3 = nI 0 := B
    unfold a_isBetter a_isBetter_21 a_isBetter_42
    simp only [kc_im8, kc_im1, kc_i0, kc_i1, kc_i2, kc_i3, kc_i4, kc_i5, kc_b_m100, kc_b_m16, kc_b_m15, kc_b_m14, kc_b_m13, kc_b_m12, kc_b_m11, kc_b_m2, kc_b_6, kc_b_7, kc_b_8, kc_b_9, kc_b_10, kc_b_11, kc_b_12, kc_b_13, kc_b_14, kc_b_15, kc_b_16, kc_b_20, kc_b_24, kc_b_32, kc_b_37, kc_b_40, kc_b_42, kc_b_43, kc_b_45, kc_b_47, kc_b_48, kc_b_57, kc_b_58, kc_b_59, kc_b_60, kc_b_61, kc_b_62, kc_b_63, kc_b_91, kc_b_93, kc_b_97, kc_b_99, kc_b_100, kc_b_106, kc_b_122, kc_s_206, kc_s_226, kc_s_227, kc_s_255, kc_s_256, kc_s_316, kc_s_318, kc_s_400, kc_s_512, kc_s_999, kc_s_1160, kc_s_1536, kc_s_3003, kc_lm11, kc_lm10, kc_lm9, kc_lm8, kc_lm7, kc_lm6, kc_lm5, kc_lm4, kc_lm3, kc_lm2, kc_lm1, kc_l1, kc_l2, kc_l3, kc_l4, kc_l5, kc_l6, kc_l7, kc_l8, kc_l9, kc_l10, kc_l11, kc_l12, kc_l13, kc_l14, kc_l37, kc_l42, kc_l43, kc_l45, kc_l47, kc_l60, kc_l61, kc_l62, kc_l316, kc_l318, kc_l65536, kc_l99999, kc_l1000000, kc_l252645135, kc_l858993459, kc_l1431655765, kc_0, kc_on, B, if_true]
    rfl
  | some b0 =>
    obtain ⟨b1, b2, b3, b4⟩ := B
    unfold a_isBetter a_isBetter_21 a_isBetter_42
    simp (disch := omega) only [kc_im8, kc_im1, kc_i0, kc_i1, kc_i2, kc_i3, kc_i4, kc_i5, kc_b_m100, kc_b_m16, kc_b_m15, kc_b_m14, kc_b_m13, kc_b_m12, kc_b_m11, kc_b_m2, kc_b_6, kc_b_7, kc_b_8, kc_b_9, kc_b_10, kc_b_11, kc_b_12, kc_b_13, kc_b_14, kc_b_15, kc_b_16, kc_b_20, kc_b_24, kc_b_32, kc_b_37, kc_b_40, kc_b_42, kc_b_43, kc_b_45, kc_b_47, kc_b_48, kc_b_57, kc_b_58, kc_b_59, kc_b_60, kc_b_61, kc_b_62, kc_b_63, kc_b_91, kc_b_93, kc_b_97, kc_b_99, kc_b_100, kc_b_106, kc_b_122, kc_s_206, kc_s_226, kc_s_227, kc_s_255, kc_s_256, kc_s_316, kc_s_318, kc_s_400, kc_s_512, kc_s_999, kc_s_1160, kc_s_1536, kc_s_3003, kc_lm11, kc_lm10, kc_lm9, kc_lm8, kc_lm7, kc_lm6, kc_lm5, kc_lm4, kc_lm3, kc_lm2, kc_lm1, kc_l1, kc_l2, kc_l3, kc_l4, kc_l5, kc_l6, kc_l7, kc_l8, kc_l9, kc_l10, kc_l11, kc_l12, kc_l13, kc_l14, kc_l37, kc_l42, kc_l43, kc_l45, kc_l47, kc_l60, kc_l61, kc_l62, kc_l316, kc_l318, kc_l65536, kc_l99999, kc_l1000000, kc_l252645135, kc_l858993459, kc_l1431655765, kc_0, kc_on, b1, nx_lt, nx_le, nx_eq, nx_add, nx_sub, nx_mul, nx_cl, n_lt_ng, n_le_ng, n_eq_ng, ng_lt_n, ng_le_n, ng_eq_n, ng_eq, ng_lt, ng_le, nx_dec, ra_68_1 R, Option.bind_some, C.1]
    rw [if_neg (by omega)]
    by_cases hl : v.length = b0.length
    · rw [if_pos hl]
      have key := wh_find (f := fun q : Int32 => a_isBetter_50 68 q h) (fun i => nI i) (fun i => (Sum.inl (nI i) : Int32 ⊕ Unit)) (.inr ()) (fun i => decide (¬ t.getD i 0 = b0.getD i 0)) b0.length (fun i hi => ?_) ?_
      · rw [key, Option.bind_some]
        cases hf : (List.range b0.length).find? (fun i => decide (¬ t.getD i 0 = b0.getD i 0)) with
        | none =>
          have heq : t = b0 := by
            rw [← tl_of t, ← tl_of b0, show t.length = b0.length from by omega]
            exact tl_congr (fun i hi => by simpa using find_all.mp hf i hi)
          dsimp only
          rw [dec_t (show bef b0 t from .inr ⟨by omega, by rw [heq]; exact lxle_refl _⟩)]
          rfl
        | some i =>
          have hi := List.find?_range_eq_some.mp hf
          have hi1 := List.mem_range.mp hi.2.1
          have hi2 : ¬ t.getD i 0 = b0.getD i 0 := by simpa using hi.1
          have ti := ht i (by omega)
          have bi := b4 i hi1
          dsimp only
          simp (disch := omega) only [ra_68_4 R, ra_68_2 R, Option.bind_some, mn_81, mn_82, gi_n, nx_cl, ti.1, bi.1, nx_le]
          rw [if_pos (by simp; omega), if_pos (by simp; omega)]
          have pre : ∀ j, j < i → t.getD j 0 = b0.getD j 0 := fun j hj => by simpa using hi.2.2 j hj
          by_cases q : b0.getD i 0 ≤ t.getD i 0
          · rw [if_pos q, dec_t (show bef b0 t from .inr ⟨by omega, by
              rw [← tl_of t, ← tl_of b0, show t.length = b0.length from by omega]
              exact lx_gt i _ _ _ hi1 pre (by omega)⟩)]
            rfl
          · rw [if_neg q, dec_f (show ¬ bef b0 t from by
              rintro (z | ⟨_, z⟩)
              · omega
              · rw [← tl_of t, ← tl_of b0, show t.length = b0.length from by omega] at z
                exact lx_lt i _ _ _ hi1 pre (by omega) z)]
            rfl
      · have ti := ht i (by omega)
        have bi := b4 i hi
        unfold a_isBetter_50
        simp (disch := omega) only [kc_im8, kc_im1, kc_i0, kc_i1, kc_i2, kc_i3, kc_i4, kc_i5, kc_b_m100, kc_b_m16, kc_b_m15, kc_b_m14, kc_b_m13, kc_b_m12, kc_b_m11, kc_b_m2, kc_b_6, kc_b_7, kc_b_8, kc_b_9, kc_b_10, kc_b_11, kc_b_12, kc_b_13, kc_b_14, kc_b_15, kc_b_16, kc_b_20, kc_b_24, kc_b_32, kc_b_37, kc_b_40, kc_b_42, kc_b_43, kc_b_45, kc_b_47, kc_b_48, kc_b_57, kc_b_58, kc_b_59, kc_b_60, kc_b_61, kc_b_62, kc_b_63, kc_b_91, kc_b_93, kc_b_97, kc_b_99, kc_b_100, kc_b_106, kc_b_122, kc_s_206, kc_s_226, kc_s_227, kc_s_255, kc_s_256, kc_s_316, kc_s_318, kc_s_400, kc_s_512, kc_s_999, kc_s_1160, kc_s_1536, kc_s_3003, kc_lm11, kc_lm10, kc_lm9, kc_lm8, kc_lm7, kc_lm6, kc_lm5, kc_lm4, kc_lm3, kc_lm2, kc_lm1, kc_l1, kc_l2, kc_l3, kc_l4, kc_l5, kc_l6, kc_l7, kc_l8, kc_l9, kc_l10, kc_l11, kc_l12, kc_l13, kc_l14, kc_l37, kc_l42, kc_l43, kc_l45, kc_l47, kc_l60, kc_l61, kc_l62, kc_l316, kc_l318, kc_l65536, kc_l99999, kc_l1000000, kc_l252645135, kc_l858993459, kc_l1431655765, kc_0, kc_on, b1, nx_lt, nx_le, nx_eq, nx_add, nx_sub, nx_mul, nx_cl, n_lt_ng, n_le_ng, n_eq_ng, ng_lt_n, ng_le_n, ng_eq_n, ng_eq, ng_lt, ng_le, nx_dec, ra_68_4 R, ra_68_2 R, Option.bind_some, mn_81, mn_82, gi_n, ti.1, bi.1]
        rw [if_neg (by omega), if_neg (by omega), if_pos (by simp; omega), if_pos (by simp; omega)]
        by_cases q : t.getD i 0 = b0.getD i 0
        · rw [if_pos q, dec_f (fun z => z q)]; rfl
        · rw [if_neg q, dec_t q]; rfl
      · unfold a_isBetter_50
        simp (disch := omega) only [kc_im8, kc_im1, kc_i0, kc_i1, kc_i2, kc_i3, kc_i4, kc_i5, kc_b_m100, kc_b_m16, kc_b_m15, kc_b_m14, kc_b_m13, kc_b_m12, kc_b_m11, kc_b_m2, kc_b_6, kc_b_7, kc_b_8, kc_b_9, kc_b_10, kc_b_11, kc_b_12, kc_b_13, kc_b_14, kc_b_15, kc_b_16, kc_b_20, kc_b_24, kc_b_32, kc_b_37, kc_b_40, kc_b_42, kc_b_43, kc_b_45, kc_b_47, kc_b_48, kc_b_57, kc_b_58, kc_b_59, kc_b_60, kc_b_61, kc_b_62, kc_b_63, kc_b_91, kc_b_93, kc_b_97, kc_b_99, kc_b_100, kc_b_106, kc_b_122, kc_s_206, kc_s_226, kc_s_227, kc_s_255, kc_s_256, kc_s_316, kc_s_318, kc_s_400, kc_s_512, kc_s_999, kc_s_1160, kc_s_1536, kc_s_3003, kc_lm11, kc_lm10, kc_lm9, kc_lm8, kc_lm7, kc_lm6, kc_lm5, kc_lm4, kc_lm3, kc_lm2, kc_lm1, kc_l1, kc_l2, kc_l3, kc_l4, kc_l5, kc_l6, kc_l7, kc_l8, kc_l9, kc_l10, kc_l11, kc_l12, kc_l13, kc_l14, kc_l37, kc_l42, kc_l43, kc_l45, kc_l47, kc_l60, kc_l61, kc_l62, kc_l316, kc_l318, kc_l65536, kc_l99999, kc_l1000000, kc_l252645135, kc_l858993459, kc_l1431655765, kc_0, kc_on, b1, nx_lt, nx_le, nx_eq, nx_add, nx_sub, nx_mul, nx_cl, n_lt_ng, n_le_ng, n_eq_ng, ng_lt_n, ng_le_n, ng_eq_n, ng_eq, ng_lt, ng_le, nx_dec]
        rw [if_pos (by omega)]
    · rw [if_neg hl, if_neg (by omega)]
      by_cases q : b0.length ≤ v.length
      · rw [if_pos q, dec_t (show bef b0 t from .inl (by omega))]
        rfl
      · rw [if_neg q, dec_f (show ¬ bef b0 t from by rintro (z | ⟨z, _⟩) <;> omega)]
        rfl
end SH
