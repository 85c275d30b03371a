/-! nearest: the reference's table. -/
section CY
variable {h : pm_H} {A : Nat → Int32} {r : Nat → Nat}
theorem m_chgJ (M : MI h A) {k o i z : Nat} (ho : o < an A 2) (hk : k ≤ 5) (hi : i ≤ k) (ez : z = an A (58 + 6 * o + 1)) (hr : ROW h 204 r k) (T : TB h 209 r (oW A o) z i) : SP (wh (fun q : (Int32 × pm_H) => m_changesTo_20 193 (nI o) (nI z) (nI i) q.1 q.2) (nI 0, h)) (fun h' => FrM (· = 209) (fun _ => False) h h' ∧ TB h' 209 r (oW A o) z (i + 1)) := by
  obtain ⟨R0, hA, w⟩ := M
  have hz := w.o1 ho
  have e2 := w.e2
  rw [← ez] at hz
  refine wh_cnt (fun j q => q.1 = nI j ∧ FrM (· = 209) (fun _ => False) h q.2 ∧ TB q.2 209 r (oW A o) z i ∧ TJ q.2 209 r (oW A o) i j) _ (z + 1) ?_ ?_ 0 (nI 0, h) (by omega) ⟨rfl, FrM.refl _ _ _, T, fun j' q => by omega⟩
  · rintro j ⟨y, h1⟩ hj ⟨hy, f1, T1, J1⟩
    dsimp only at hy f1 T1 J1
    subst hy
    have R := R0.fm f1
    have A1 : h1.2.1 203 = A := by rw [f1.i (by omega) (by omega)]; exact hA
    have fin : ∀ v : Int32, v = nI (ch r (oW A o) i j) → SP (some (Sum.inl (nI j + nI 1, pm_setI h1 209 (5 * i + j) v)) : Option ((Int32 × pm_H) ⊕ pm_H)) (fun q => match q with | .inl q => q.1 = nI (j + 1) ∧ FrM (· = 209) (fun _ => False) h q.2 ∧ TB q.2 209 r (oW A o) z i ∧ TJ q.2 209 r (oW A o) i (j + 1) | .inr h' => FrM (· = 209) (fun _ => False) h h' ∧ TB h' 209 r (oW A o) z (i + 1)) := by
      rintro v rfl
      exact sp_some.mpr ⟨nx_add j 1, f1.setI (by omega) rfl, T1.put (by omega), J1.put⟩
    unfold m_changesTo_20
    simp only [kc_im8, kc_im1, kc_i0, kc_i1, kc_i2, kc_i3, kc_i4, kc_i5, kc_b_m100, kc_b_m16, kc_b_m15, kc_b_m14, kc_b_m13, kc_b_m12, kc_b_m11, kc_b_m2, kc_b_6, kc_b_7, kc_b_8, kc_b_9, kc_b_10, kc_b_11, kc_b_12, kc_b_13, kc_b_14, kc_b_15, kc_b_16, kc_b_20, kc_b_24, kc_b_32, kc_b_37, kc_b_40, kc_b_42, kc_b_43, kc_b_45, kc_b_47, kc_b_48, kc_b_57, kc_b_58, kc_b_59, kc_b_60, kc_b_61, kc_b_62, kc_b_63, kc_b_91, kc_b_93, kc_b_97, kc_b_99, kc_b_100, kc_b_106, kc_b_122, kc_s_206, kc_s_226, kc_s_227, kc_s_255, kc_s_256, kc_s_316, kc_s_318, kc_s_400, kc_s_512, kc_s_999, kc_s_1160, kc_s_1536, kc_s_3003, kc_lm11, kc_lm10, kc_lm9, kc_lm8, kc_lm7, kc_lm6, kc_lm5, kc_lm4, kc_lm3, kc_lm2, kc_lm1, kc_l1, kc_l2, kc_l3, kc_l4, kc_l5, kc_l6, kc_l7, kc_l8, kc_l9, kc_l10, kc_l11, kc_l12, kc_l13, kc_l14, kc_l37, kc_l42, kc_l43, kc_l45, kc_l47, kc_l60, kc_l61, kc_l62, kc_l316, kc_l318, kc_l65536, kc_l99999, kc_l1000000, kc_l252645135, kc_l858993459, kc_l1431655765, kc_0, kc_on]
    refine sp_neg (by rw [nx_lt (by omega) (by omega)]; omega) ?_
    rw [nx_mul, nx_add]
    by_cases i0 : i = 0
    · refine sp_pos (by rw [nx_eq (by omega) (by omega)]; exact i0) ?_
      unfold m_changesTo_43
      simp only [kc_im8, kc_im1, kc_i0, kc_i1, kc_i2, kc_i3, kc_i4, kc_i5, kc_b_m100, kc_b_m16, kc_b_m15, kc_b_m14, kc_b_m13, kc_b_m12, kc_b_m11, kc_b_m2, kc_b_6, kc_b_7, kc_b_8, kc_b_9, kc_b_10, kc_b_11, kc_b_12, kc_b_13, kc_b_14, kc_b_15, kc_b_16, kc_b_20, kc_b_24, kc_b_32, kc_b_37, kc_b_40, kc_b_42, kc_b_43, kc_b_45, kc_b_47, kc_b_48, kc_b_57, kc_b_58, kc_b_59, kc_b_60, kc_b_61, kc_b_62, kc_b_63, kc_b_91, kc_b_93, kc_b_97, kc_b_99, kc_b_100, kc_b_106, kc_b_122, kc_s_206, kc_s_226, kc_s_227, kc_s_255, kc_s_256, kc_s_316, kc_s_318, kc_s_400, kc_s_512, kc_s_999, kc_s_1160, kc_s_1536, kc_s_3003, kc_lm11, kc_lm10, kc_lm9, kc_lm8, kc_lm7, kc_lm6, kc_lm5, kc_lm4, kc_lm3, kc_lm2, kc_lm1, kc_l1, kc_l2, kc_l3, kc_l4, kc_l5, kc_l6, kc_l7, kc_l8, kc_l9, kc_l10, kc_l11, kc_l12, kc_l13, kc_l14, kc_l37, kc_l42, kc_l43, kc_l45, kc_l47, kc_l60, kc_l61, kc_l62, kc_l316, kc_l318, kc_l65536, kc_l99999, kc_l1000000, kc_l252645135, kc_l858993459, kc_l1431655765, kc_0, kc_on]
      rw [ra_193_29 R, Option.bind_some, mn_209, gi_n (by omega), nx_cl (by omega)]
      refine sp_pos (by simp; omega) ?_
      rw [sp_bd]
      refine (fin _ ?_).mono (by rintro (q | q) hq <;> exact hq)
      rw [nx_add, i0, ch_0, Nat.zero_add]
    · refine sp_neg (by rw [nx_eq (by omega) (by omega)]; exact i0) ?_
      by_cases j0 : j = 0
      · refine sp_neg (by rw [nx_eq (by omega) (by omega)]; exact fun z => z j0) ?_
        unfold m_changesTo_43
        simp only [kc_im8, kc_im1, kc_i0, kc_i1, kc_i2, kc_i3, kc_i4, kc_i5, kc_b_m100, kc_b_m16, kc_b_m15, kc_b_m14, kc_b_m13, kc_b_m12, kc_b_m11, kc_b_m2, kc_b_6, kc_b_7, kc_b_8, kc_b_9, kc_b_10, kc_b_11, kc_b_12, kc_b_13, kc_b_14, kc_b_15, kc_b_16, kc_b_20, kc_b_24, kc_b_32, kc_b_37, kc_b_40, kc_b_42, kc_b_43, kc_b_45, kc_b_47, kc_b_48, kc_b_57, kc_b_58, kc_b_59, kc_b_60, kc_b_61, kc_b_62, kc_b_63, kc_b_91, kc_b_93, kc_b_97, kc_b_99, kc_b_100, kc_b_106, kc_b_122, kc_s_206, kc_s_226, kc_s_227, kc_s_255, kc_s_256, kc_s_316, kc_s_318, kc_s_400, kc_s_512, kc_s_999, kc_s_1160, kc_s_1536, kc_s_3003, kc_lm11, kc_lm10, kc_lm9, kc_lm8, kc_lm7, kc_lm6, kc_lm5, kc_lm4, kc_lm3, kc_lm2, kc_lm1, kc_l1, kc_l2, kc_l3, kc_l4, kc_l5, kc_l6, kc_l7, kc_l8, kc_l9, kc_l10, kc_l11, kc_l12, kc_l13, kc_l14, kc_l37, kc_l42, kc_l43, kc_l45, kc_l47, kc_l60, kc_l61, kc_l62, kc_l316, kc_l318, kc_l65536, kc_l99999, kc_l1000000, kc_l252645135, kc_l858993459, kc_l1431655765, kc_0, kc_on]
        rw [ra_193_29 R, Option.bind_some, mn_209, gi_n (by omega), nx_cl (by omega)]
        refine sp_pos (by simp; omega) ?_
        rw [sp_bd]
        refine (fin _ ?_).mono (by rintro (q | q) hq <;> exact hq)
        rw [nx_add, j0, ch_1, Nat.add_zero]
      · refine sp_pos (by rw [nx_eq (by omega) (by omega)]; exact j0) ?_
        obtain ⟨i, rfl⟩ : ∃ i', i = i' + 1 := ⟨i - 1, by omega⟩
        obtain ⟨j, rfl⟩ : ∃ j', j = j' + 1 := ⟨j - 1, by omega⟩
        have o2 := w.o2 (i := j) ho (by omega)
        have r1 : h1.2.1 204 i = nI (r i) := by rw [f1.i (by omega) (by omega)]; exact (hr i (by omega)).1
        have r10 := (hr i (by omega)).2
        have e0 := w.e0
        have c1 := T1 i (by omega) (j + 1) (by omega)
        have c2 := J1 j (by omega)
        have c3 := T1 i (by omega) j (by omega)
        have b1 := ch_le r (oW A o) i (j + 1)
        have b2 := ch_le r (oW A o) (i + 1) j
        have b3 := ch_le r (oW A o) i j
        have b4 : min (ch r (oW A o) i (j + 1)) (ch r (oW A o) (i + 1) j) ≤ ch r (oW A o) i (j + 1) := Nat.min_le_left _ _
        rw [ra_193_29 R, Option.bind_some, ra_193_22 R, nx_sub (by omega), nx_sub (by omega), nx_add, Nat.add_sub_cancel, show 5 * (i + 1) + (j + 1) - 6 = 5 * i + j from by omega, mn_209, gi_n (by omega), nx_cl (by omega), nx_cl (by omega), c3]
        refine sp_pos (by simp; omega) ?_
        rw [Option.bind_some, mn_204, gi_n (by omega), r1]
        refine sp_pos (by simp; omega) ?_
        rw [m_orderOf_n R A1 (by omega), Option.bind_some, show 58 + 6 * o + (1 + (j + 1)) = 58 + 6 * o + 2 + j from by omega, o2.1]
        have st : ∀ e : Nat, e = (if r i = oW A o j then 0 else 1) → SP (m_changesTo_92 193 (nI o) (nI z) (nI (i + 1)) (nI (j + 1)) (nI (5 * (i + 1) + (j + 1))) (nI e) (nI (ch r (oW A o) i j)) h1) (fun q => match q with | .inl q => q.1 = nI (j + 1 + 1) ∧ FrM (· = 209) (fun _ => False) h q.2 ∧ TB q.2 209 r (oW A o) z (i + 1) ∧ TJ q.2 209 r (oW A o) (i + 1) (j + 1 + 1) | .inr h' => FrM (· = 209) (fun _ => False) h h' ∧ TB h' 209 r (oW A o) z (i + 1 + 1)) := by
          intro e he
          have e1 : e < 2 := by rw [he]; split <;> omega
          unfold m_changesTo_92
          simp only [kc_im8, kc_im1, kc_i0, kc_i1, kc_i2, kc_i3, kc_i4, kc_i5, kc_b_m100, kc_b_m16, kc_b_m15, kc_b_m14, kc_b_m13, kc_b_m12, kc_b_m11, kc_b_m2, kc_b_6, kc_b_7, kc_b_8, kc_b_9, kc_b_10, kc_b_11, kc_b_12, kc_b_13, kc_b_14, kc_b_15, kc_b_16, kc_b_20, kc_b_24, kc_b_32, kc_b_37, kc_b_40, kc_b_42, kc_b_43, kc_b_45, kc_b_47, kc_b_48, kc_b_57, kc_b_58, kc_b_59, kc_b_60, kc_b_61, kc_b_62, kc_b_63, kc_b_91, kc_b_93, kc_b_97, kc_b_99, kc_b_100, kc_b_106, kc_b_122, kc_s_206, kc_s_226, kc_s_227, kc_s_255, kc_s_256, kc_s_316, kc_s_318, kc_s_400, kc_s_512, kc_s_999, kc_s_1160, kc_s_1536, kc_s_3003, kc_lm11, kc_lm10, kc_lm9, kc_lm8, kc_lm7, kc_lm6, kc_lm5, kc_lm4, kc_lm3, kc_lm2, kc_lm1, kc_l1, kc_l2, kc_l3, kc_l4, kc_l5, kc_l6, kc_l7, kc_l8, kc_l9, kc_l10, kc_l11, kc_l12, kc_l13, kc_l14, kc_l37, kc_l42, kc_l43, kc_l45, kc_l47, kc_l60, kc_l61, kc_l62, kc_l316, kc_l318, kc_l65536, kc_l99999, kc_l1000000, kc_l252645135, kc_l858993459, kc_l1431655765, kc_0, kc_on]
          rw [nx_sub (by omega), nx_sub (by omega), show 5 * (i + 1) + (j + 1) - 5 = 5 * i + (j + 1) from by omega, show 5 * (i + 1) + (j + 1) - 1 = 5 * (i + 1) + j from by omega]
          simp (disch := omega) only [ra_193_29 R, Option.bind_some, mn_209, gi_n, nx_cl, c1, c2]
          refine sp_pos (by simp; omega) (sp_pos (by simp; omega) ?_)
          rw [m_lesser_n h1 (by omega) (by omega), Option.bind_some, nx_add, nx_add, m_lesser_n h1 (by omega) (by omega), Option.bind_some]
          refine sp_pos (by simp; omega) ?_
          rw [sp_bd]
          refine (fin _ ?_).mono (by rintro (q | q) hq <;> exact hq)
          rw [ch_s, he, Nat.min_comm]
        by_cases q : r i = oW A o j
        · have q' : r i = an A (58 + 6 * o + 2 + j) := q
          exact sp_neg (by rw [nx_eq (by omega) (by omega)]; exact fun z => z q') ((st 0 (by rw [if_pos q])).mono (by rintro (q | q) hq <;> exact hq))
        · have q' : ¬ r i = an A (58 + 6 * o + 2 + j) := q
          exact sp_pos (by rw [nx_eq (by omega) (by omega)]; exact q') ((st 1 (by rw [if_neg q])).mono (by rintro (q | q) hq <;> exact hq))
  · rintro ⟨y, h1⟩ ⟨hy, f1, T1, J1⟩
    dsimp only at hy f1 T1 J1
    subst hy
    unfold m_changesTo_20
    exact sp_pos (by rw [nx_lt (by omega) (by omega)]; omega) (sp_some.mpr ⟨f1, T1.row J1⟩)
theorem m_changesTo_sp (M : MI h A) {k o : Nat} (ho : o < an A 2) (hk : k ≤ 5) (h23 : h.2.1 193 23 = nI k) (hr : ROW h 204 r k) : SP (m_changesTo 193 (nI o) h) (fun q => q.1 = nI (ch r (oW A o) k (an A (58 + 6 * o + 1))) ∧ FrM (· = 209) (fun _ => False) h q.2) := by
  have M' := M
  obtain ⟨R, hA, w⟩ := M
  have hz := w.o1 ho
  have e2 := w.e2
  unfold m_changesTo
  simp only [kc_im8, kc_im1, kc_i0, kc_i1, kc_i2, kc_i3, kc_i4, kc_i5, kc_b_m100, kc_b_m16, kc_b_m15, kc_b_m14, kc_b_m13, kc_b_m12, kc_b_m11, kc_b_m2, kc_b_6, kc_b_7, kc_b_8, kc_b_9, kc_b_10, kc_b_11, kc_b_12, kc_b_13, kc_b_14, kc_b_15, kc_b_16, kc_b_20, kc_b_24, kc_b_32, kc_b_37, kc_b_40, kc_b_42, kc_b_43, kc_b_45, kc_b_47, kc_b_48, kc_b_57, kc_b_58, kc_b_59, kc_b_60, kc_b_61, kc_b_62, kc_b_63, kc_b_91, kc_b_93, kc_b_97, kc_b_99, kc_b_100, kc_b_106, kc_b_122, kc_s_206, kc_s_226, kc_s_227, kc_s_255, kc_s_256, kc_s_316, kc_s_318, kc_s_400, kc_s_512, kc_s_999, kc_s_1160, kc_s_1536, kc_s_3003, kc_lm11, kc_lm10, kc_lm9, kc_lm8, kc_lm7, kc_lm6, kc_lm5, kc_lm4, kc_lm3, kc_lm2, kc_lm1, kc_l1, kc_l2, kc_l3, kc_l4, kc_l5, kc_l6, kc_l7, kc_l8, kc_l9, kc_l10, kc_l11, kc_l12, kc_l13, kc_l14, kc_l37, kc_l42, kc_l43, kc_l45, kc_l47, kc_l60, kc_l61, kc_l62, kc_l316, kc_l318, kc_l65536, kc_l99999, kc_l1000000, kc_l252645135, kc_l858993459, kc_l1431655765, kc_0, kc_on]
  rw [m_orderOf_n R hA (k := 1) (by omega), Option.bind_some, hz.1]
  have key : SP (wh (fun q : (Int32 × pm_H) => m_changesTo_9 193 (nI o) (nI (an A (58 + 6 * o + 1))) q.1 q.2) (nI 0, h)) (fun h' => FrM (· = 209) (fun _ => False) h h' ∧ TB h' 209 r (oW A o) (an A (58 + 6 * o + 1)) (k + 1)) := by
    refine wh_cnt (fun i q => q.1 = nI i ∧ FrM (· = 209) (fun _ => False) h q.2 ∧ TB q.2 209 r (oW A o) (an A (58 + 6 * o + 1)) i) _ (k + 1) ?_ ?_ 0 (nI 0, h) (by omega) ⟨rfl, FrM.refl _ _ _, fun i' q => by omega⟩
    · rintro i ⟨y, h1⟩ hi ⟨hy, f1, T1⟩
      dsimp only at hy f1 T1
      subst hy
      have M1 : MI h1 A := ⟨R.fm f1, by rw [f1.i (by omega) (by omega)]; exact hA, w⟩
      unfold m_changesTo_9
      simp only [kc_im8, kc_im1, kc_i0, kc_i1, kc_i2, kc_i3, kc_i4, kc_i5, kc_b_m100, kc_b_m16, kc_b_m15, kc_b_m14, kc_b_m13, kc_b_m12, kc_b_m11, kc_b_m2, kc_b_6, kc_b_7, kc_b_8, kc_b_9, kc_b_10, kc_b_11, kc_b_12, kc_b_13, kc_b_14, kc_b_15, kc_b_16, kc_b_20, kc_b_24, kc_b_32, kc_b_37, kc_b_40, kc_b_42, kc_b_43, kc_b_45, kc_b_47, kc_b_48, kc_b_57, kc_b_58, kc_b_59, kc_b_60, kc_b_61, kc_b_62, kc_b_63, kc_b_91, kc_b_93, kc_b_97, kc_b_99, kc_b_100, kc_b_106, kc_b_122, kc_s_206, kc_s_226, kc_s_227, kc_s_255, kc_s_256, kc_s_316, kc_s_318, kc_s_400, kc_s_512, kc_s_999, kc_s_1160, kc_s_1536, kc_s_3003, kc_lm11, kc_lm10, kc_lm9, kc_lm8, kc_lm7, kc_lm6, kc_lm5, kc_lm4, kc_lm3, kc_lm2, kc_lm1, kc_l1, kc_l2, kc_l3, kc_l4, kc_l5, kc_l6, kc_l7, kc_l8, kc_l9, kc_l10, kc_l11, kc_l12, kc_l13, kc_l14, kc_l37, kc_l42, kc_l43, kc_l45, kc_l47, kc_l60, kc_l61, kc_l62, kc_l316, kc_l318, kc_l65536, kc_l99999, kc_l1000000, kc_l252645135, kc_l858993459, kc_l1431655765, kc_0, kc_on]
      rw [f1.f id, h23]
      refine sp_neg (by rw [nx_lt (by omega) (by omega)]; omega) ?_
      refine sp_call (m_chgJ M1 ho hk (by omega) rfl (fun j hj => by rw [f1.i (by omega) (by omega)]; exact hr j hj) T1) ?_
      rintro h2 ⟨f2, T2⟩
      exact sp_some.mpr ⟨nx_add i 1, f1.trans f2, T2⟩
    · rintro ⟨y, h1⟩ ⟨hy, f1, T1⟩
      dsimp only at hy f1 T1
      subst hy
      unfold m_changesTo_9
      rw [f1.f id, h23]
      exact sp_pos (by rw [nx_lt (by omega) (by omega)]; omega) (sp_some.mpr ⟨f1, T1⟩)
  refine sp_call key ?_
  rintro h1 ⟨f1, T1⟩
  rw [ra_193_29 (R.fm f1), Option.bind_some, f1.f id, h23, nx_mul, nx_add, mn_209, gi_n (by omega), nx_cl (by omega)]
  refine sp_pos (by simp; omega) ?_
  exact sp_some.mpr ⟨T1 k (by omega) _ (Nat.le_refl _), f1⟩
end CY
