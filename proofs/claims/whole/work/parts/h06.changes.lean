/-! nearest: how far a row is from another, by both tables. -/
def ch (r o : Nat → Nat) : Nat → Nat → Nat
  | 0, j => j
  | i + 1, 0 => i + 1
  | i + 1, j + 1 => min (min (ch r o i (j + 1)) (ch r o (i + 1) j) + 1) (ch r o i j + if r i = o j then 0 else 1)
theorem ch_0 (r o : Nat → Nat) (j : Nat) : ch r o 0 j = j := by rw [ch]
theorem ch_1 (r o : Nat → Nat) (i : Nat) : ch r o i 0 = i := by cases i <;> rw [ch]
theorem ch_s (r o : Nat → Nat) (i j : Nat) : ch r o (i + 1) (j + 1) = min (min (ch r o i (j + 1)) (ch r o (i + 1) j) + 1) (ch r o i j + if r i = o j then 0 else 1) := by rw [ch]
theorem ch_le (r o : Nat → Nat) : ∀ i j, ch r o i j ≤ i + j
  | 0, j => by rw [ch_0]; omega
  | i + 1, 0 => by rw [ch_1]; omega
  | i + 1, j + 1 => by
    rw [ch_s]
    have h1 := ch_le r o i (j + 1)
    have h2 : min (min (ch r o i (j + 1)) (ch r o (i + 1) j) + 1) (ch r o i j + if r i = o j then 0 else 1) ≤ min (ch r o i (j + 1)) (ch r o (i + 1) j) + 1 := Nat.min_le_left _ _
    have h3 : min (ch r o i (j + 1)) (ch r o (i + 1) j) ≤ ch r o i (j + 1) := Nat.min_le_left _ _
    omega
theorem min_c {a b d e : Nat} (ha : a < 1000) (hb : b < 1000) (hd : d < 1000) (he : e < 1000) : (if nI d + nI e < (if nI b < nI a then nI b else nI a) + nI 1 then nI d + nI e else (if nI b < nI a then nI b else nI a) + nI 1) = nI (min (min a b + 1) (d + e)) := by
  have e1 : (if nI b < nI a then nI b else nI a) = nI (min a b) := by
    by_cases q : b < a
    · rw [if_pos (by rw [nx_lt (by omega) (by omega)]; exact q), Nat.min_eq_right (by omega)]
    · rw [if_neg (by rw [nx_lt (by omega) (by omega)]; exact q), Nat.min_eq_left (by omega)]
  have e2 : min a b < 1000 := Nat.lt_of_le_of_lt (Nat.min_le_left _ _) ha
  rw [e1, nx_add, nx_add]
  by_cases q : d + e < min a b + 1
  · rw [if_pos (by rw [nx_lt (by omega) (by omega)]; exact q), Nat.min_eq_right (by omega)]
  · rw [if_neg (by rw [nx_lt (by omega) (by omega)]; exact q), show min (min a b + 1) (d + e) = min a b + 1 from Nat.min_eq_left (by omega)]
theorem m_lesser_n (h : pm_H) {a b : Nat} (ha : a < 1000) (hb : b < 1000) : m_lesser (nI a) (nI b) h = some (nI (min a b)) := by
  unfold m_lesser
  by_cases q : b ≤ a
  · rw [if_pos (by rw [nx_le (by omega) (by omega)]; exact q), Nat.min_eq_right (by omega)]
  · rw [if_neg (by rw [nx_le (by omega) (by omega)]; exact q), Nat.min_eq_left (by omega)]
/-- the words of an order, and the table's rows above i -/
def oW (A : Nat → Int32) (o j : Nat) : Nat := an A (58 + 6 * o + 2 + j)
def TB (h : pm_H) (c : Nat) (r o : Nat → Nat) (z i : Nat) : Prop := ∀ i', i' < i → ∀ j, j ≤ z → h.2.1 c (5 * i' + j) = nI (ch r o i' j)
def TJ (h : pm_H) (c : Nat) (r o : Nat → Nat) (i j : Nat) : Prop := ∀ j', j' < j → h.2.1 c (5 * i + j') = nI (ch r o i j')
theorem TB.put {h : pm_H} {c : Nat} {r o : Nat → Nat} {z i j : Nat} {v : Int32} (T : TB h c r o z i) (hz : z ≤ 4) : TB (pm_setI h c (5 * i + j) v) c r o z i := fun i' hi' j' hj' => by
  rw [ri_j _ (by omega)]
  exact T i' hi' j' hj'
theorem TJ.put {h : pm_H} {c : Nat} {r o : Nat → Nat} {i j : Nat} (T : TJ h c r o i j) : TJ (pm_setI h c (5 * i + j) (nI (ch r o i j))) c r o i (j + 1) := fun j' hj' => by
  by_cases q : j' = j
  · subst q; rw [ri_s]
  · rw [ri_j _ (by omega)]
    exact T j' (by omega)
theorem TB.row {h : pm_H} {c : Nat} {r o : Nat → Nat} {z i : Nat} (T : TB h c r o z i) (J : TJ h c r o i (z + 1)) : TB h c r o z (i + 1) := fun i' hi' j hj => by
  by_cases q : i' = i
  · subst q; exact J j (by omega)
  · exact T i' (by omega) j hj
section CX
variable {h : pm_H} {s : Nat} {A : Nat → Int32} {r : Nat → Nat}
theorem a_chgJ (Q : QI h s A) {k o i z : Nat} (ho : o < an A 2) (hk : k ≤ 5) (hi : i ≤ k) (ez : z = an A (58 + 6 * o + 1)) (hr : ∀ j, j < k → h.2.1 89 j = nI (r j) ∧ r j < 10) (T : TB h 84 r (oW A o) z i) : SP (wh (fun q : (Int32 × pm_H) => a_changesTo_53 68 s (nI o) 89 (nI 5) (nI z) (nI k) (nI i) q.1 q.2) (nI 0, h)) (fun h' => Fr (· = 84) h h' ∧ TB h' 84 r (oW A o) z (i + 1)) := by
  have hz := Q.2.2.2.2.2.1.o1 ho
  have e2 := Q.2.2.2.2.2.1.e2
  rw [← ez] at hz
  refine wh_cnt (fun j q => q.1 = nI j ∧ Fr (· = 84) h q.2 ∧ TB q.2 84 r (oW A o) z i ∧ TJ q.2 84 r (oW A o) i j) _ (z + 1) ?_ ?_ 0 (nI 0, h) (by omega) ⟨rfl, Fr.refl _ _, T, fun j' q => by omega⟩
  · rintro j ⟨y, h1⟩ hj ⟨hy, f1, T1, J1⟩
    dsimp only at hy f1 T1 J1
    subst hy
    have Q1 := (Q.ask f1 (fun c hc => by omega)).1
    obtain ⟨R, _, S, H, D, w, K⟩ := Q1
    have fin : ∀ v : Int32, v = nI (ch r (oW A o) i j) → SP (some (Sum.inl (nI j + nI 1, pm_setI h1 84 (5 * i + j) v)) : Option ((Int32 × pm_H) ⊕ pm_H)) (fun q => match q with | .inl q => q.1 = nI (j + 1) ∧ Fr (· = 84) h q.2 ∧ TB q.2 84 r (oW A o) z i ∧ TJ q.2 84 r (oW A o) i (j + 1) | .inr h' => Fr (· = 84) h h' ∧ TB h' 84 r (oW A o) z (i + 1)) := by
      rintro v rfl
      exact sp_some.mpr ⟨nx_add j 1, f1.setI rfl, T1.put (by omega), J1.put⟩
    unfold a_changesTo_53
    simp only [kc_im8, kc_im1, kc_i0, kc_i1, kc_i2, kc_i3, kc_i4, kc_i5, kc_b_m100, kc_b_m16, kc_b_m15, kc_b_m14, kc_b_m13, kc_b_m12, kc_b_m11, kc_b_m2, kc_b_6, kc_b_7, kc_b_8, kc_b_9, kc_b_10, kc_b_11, kc_b_12, kc_b_13, kc_b_14, kc_b_15, kc_b_16, kc_b_20, kc_b_24, kc_b_32, kc_b_37, kc_b_40, kc_b_42, kc_b_43, kc_b_45, kc_b_47, kc_b_48, kc_b_57, kc_b_58, kc_b_59, kc_b_60, kc_b_61, kc_b_62, kc_b_63, kc_b_91, kc_b_93, kc_b_97, kc_b_99, kc_b_100, kc_b_106, kc_b_122, kc_s_206, kc_s_226, kc_s_227, kc_s_255, kc_s_256, kc_s_316, kc_s_318, kc_s_400, kc_s_512, kc_s_999, kc_s_1160, kc_s_1536, kc_s_3003, kc_lm11, kc_lm10, kc_lm9, kc_lm8, kc_lm7, kc_lm6, kc_lm5, kc_lm4, kc_lm3, kc_lm2, kc_lm1, kc_l1, kc_l2, kc_l3, kc_l4, kc_l5, kc_l6, kc_l7, kc_l8, kc_l9, kc_l10, kc_l11, kc_l12, kc_l13, kc_l14, kc_l37, kc_l42, kc_l43, kc_l45, kc_l47, kc_l60, kc_l61, kc_l62, kc_l316, kc_l318, kc_l65536, kc_l99999, kc_l1000000, kc_l252645135, kc_l858993459, kc_l1431655765, kc_0, kc_on]
    refine sp_neg (by rw [nx_lt (by omega) (by omega)]; omega) ?_
    rw [nx_mul, nx_add, Nat.mul_comm i 5]
    by_cases i0 : i = 0
    · refine sp_pos (by rw [nx_eq (by omega) (by omega)]; exact i0) ?_
      unfold a_changesTo_80
      simp only [kc_im8, kc_im1, kc_i0, kc_i1, kc_i2, kc_i3, kc_i4, kc_i5, kc_b_m100, kc_b_m16, kc_b_m15, kc_b_m14, kc_b_m13, kc_b_m12, kc_b_m11, kc_b_m2, kc_b_6, kc_b_7, kc_b_8, kc_b_9, kc_b_10, kc_b_11, kc_b_12, kc_b_13, kc_b_14, kc_b_15, kc_b_16, kc_b_20, kc_b_24, kc_b_32, kc_b_37, kc_b_40, kc_b_42, kc_b_43, kc_b_45, kc_b_47, kc_b_48, kc_b_57, kc_b_58, kc_b_59, kc_b_60, kc_b_61, kc_b_62, kc_b_63, kc_b_91, kc_b_93, kc_b_97, kc_b_99, kc_b_100, kc_b_106, kc_b_122, kc_s_206, kc_s_226, kc_s_227, kc_s_255, kc_s_256, kc_s_316, kc_s_318, kc_s_400, kc_s_512, kc_s_999, kc_s_1160, kc_s_1536, kc_s_3003, kc_lm11, kc_lm10, kc_lm9, kc_lm8, kc_lm7, kc_lm6, kc_lm5, kc_lm4, kc_lm3, kc_lm2, kc_lm1, kc_l1, kc_l2, kc_l3, kc_l4, kc_l5, kc_l6, kc_l7, kc_l8, kc_l9, kc_l10, kc_l11, kc_l12, kc_l13, kc_l14, kc_l37, kc_l42, kc_l43, kc_l45, kc_l47, kc_l60, kc_l61, kc_l62, kc_l316, kc_l318, kc_l65536, kc_l99999, kc_l1000000, kc_l252645135, kc_l858993459, kc_l1431655765, kc_0, kc_on]
      rw [ra_68_11 R, Option.bind_some, mn_84, gi_n (by omega), nx_cl (by omega)]
      refine sp_pos (by simp; omega) ?_
      rw [sp_bd]
      refine (fin _ ?_).mono (by rintro (q | q) hq <;> exact hq)
      rw [nx_add, i0, ch_0, Nat.zero_add]
    · refine sp_neg (by rw [nx_eq (by omega) (by omega)]; exact i0) ?_
      by_cases j0 : j = 0
      · refine sp_neg (by rw [nx_eq (by omega) (by omega)]; exact fun z => z j0) ?_
        unfold a_changesTo_80
        simp only [kc_im8, kc_im1, kc_i0, kc_i1, kc_i2, kc_i3, kc_i4, kc_i5, kc_b_m100, kc_b_m16, kc_b_m15, kc_b_m14, kc_b_m13, kc_b_m12, kc_b_m11, kc_b_m2, kc_b_6, kc_b_7, kc_b_8, kc_b_9, kc_b_10, kc_b_11, kc_b_12, kc_b_13, kc_b_14, kc_b_15, kc_b_16, kc_b_20, kc_b_24, kc_b_32, kc_b_37, kc_b_40, kc_b_42, kc_b_43, kc_b_45, kc_b_47, kc_b_48, kc_b_57, kc_b_58, kc_b_59, kc_b_60, kc_b_61, kc_b_62, kc_b_63, kc_b_91, kc_b_93, kc_b_97, kc_b_99, kc_b_100, kc_b_106, kc_b_122, kc_s_206, kc_s_226, kc_s_227, kc_s_255, kc_s_256, kc_s_316, kc_s_318, kc_s_400, kc_s_512, kc_s_999, kc_s_1160, kc_s_1536, kc_s_3003, kc_lm11, kc_lm10, kc_lm9, kc_lm8, kc_lm7, kc_lm6, kc_lm5, kc_lm4, kc_lm3, kc_lm2, kc_lm1, kc_l1, kc_l2, kc_l3, kc_l4, kc_l5, kc_l6, kc_l7, kc_l8, kc_l9, kc_l10, kc_l11, kc_l12, kc_l13, kc_l14, kc_l37, kc_l42, kc_l43, kc_l45, kc_l47, kc_l60, kc_l61, kc_l62, kc_l316, kc_l318, kc_l65536, kc_l99999, kc_l1000000, kc_l252645135, kc_l858993459, kc_l1431655765, kc_0, kc_on]
        rw [ra_68_11 R, Option.bind_some, mn_84, gi_n (by omega), nx_cl (by omega)]
        refine sp_pos (by simp; omega) ?_
        rw [sp_bd]
        refine (fin _ ?_).mono (by rintro (q | q) hq <;> exact hq)
        rw [nx_add, j0, ch_1, Nat.add_zero]
      · refine sp_pos (by rw [nx_eq (by omega) (by omega)]; exact j0) ?_
        obtain ⟨i, rfl⟩ : ∃ i', i = i' + 1 := ⟨i - 1, by omega⟩
        obtain ⟨j, rfl⟩ : ∃ j', j = j' + 1 := ⟨j - 1, by omega⟩
        have o2 := w.o2 (i := j) ho (by omega)
        have r1 : h1.2.1 89 i = nI (r i) := by rw [f1.i _ (by omega)]; exact (hr i (by omega)).1
        have r10 := (hr i (by omega)).2
        have e0 := w.e0
        have c1 := T1 i (by omega) (j + 1) (by omega)
        have c2 := J1 j (by omega)
        have c3 := T1 i (by omega) j (by omega)
        have b1 := ch_le r (oW A o) i (j + 1)
        have b2 := ch_le r (oW A o) (i + 1) j
        have b3 := ch_le r (oW A o) i j
        rw [nx_sub (by omega), nx_sub (by omega), Nat.add_sub_cancel, Nat.add_sub_cancel, mn_89, gi_n (by omega), nx_cl (by omega)]
        refine sp_pos (by simp; omega) ?_
        rw [c_rowWord S w R ho (by omega), Option.bind_some, r1, o2.1]
        have st : ∀ e : Nat, e = (if r i = oW A o j then 0 else 1) → SP (a_changesTo_118 68 s (nI o) 89 (nI 5) (nI z) (nI k) (nI (i + 1)) (nI (j + 1)) (nI (5 * (i + 1) + (j + 1))) (nI e) h1) (fun q => match q with | .inl q => q.1 = nI (j + 1 + 1) ∧ Fr (· = 84) h q.2 ∧ TB q.2 84 r (oW A o) z (i + 1) ∧ TJ q.2 84 r (oW A o) (i + 1) (j + 1 + 1) | .inr h' => Fr (· = 84) h h' ∧ TB h' 84 r (oW A o) z (i + 1 + 1)) := by
          intro e he
          have e1 : e < 2 := by rw [he]; split <;> omega
          unfold a_changesTo_118
          simp only [kc_im8, kc_im1, kc_i0, kc_i1, kc_i2, kc_i3, kc_i4, kc_i5, kc_b_m100, kc_b_m16, kc_b_m15, kc_b_m14, kc_b_m13, kc_b_m12, kc_b_m11, kc_b_m2, kc_b_6, kc_b_7, kc_b_8, kc_b_9, kc_b_10, kc_b_11, kc_b_12, kc_b_13, kc_b_14, kc_b_15, kc_b_16, kc_b_20, kc_b_24, kc_b_32, kc_b_37, kc_b_40, kc_b_42, kc_b_43, kc_b_45, kc_b_47, kc_b_48, kc_b_57, kc_b_58, kc_b_59, kc_b_60, kc_b_61, kc_b_62, kc_b_63, kc_b_91, kc_b_93, kc_b_97, kc_b_99, kc_b_100, kc_b_106, kc_b_122, kc_s_206, kc_s_226, kc_s_227, kc_s_255, kc_s_256, kc_s_316, kc_s_318, kc_s_400, kc_s_512, kc_s_999, kc_s_1160, kc_s_1536, kc_s_3003, kc_lm11, kc_lm10, kc_lm9, kc_lm8, kc_lm7, kc_lm6, kc_lm5, kc_lm4, kc_lm3, kc_lm2, kc_lm1, kc_l1, kc_l2, kc_l3, kc_l4, kc_l5, kc_l6, kc_l7, kc_l8, kc_l9, kc_l10, kc_l11, kc_l12, kc_l13, kc_l14, kc_l37, kc_l42, kc_l43, kc_l45, kc_l47, kc_l60, kc_l61, kc_l62, kc_l316, kc_l318, kc_l65536, kc_l99999, kc_l1000000, kc_l252645135, kc_l858993459, kc_l1431655765, kc_0, kc_on]
          rw [nx_sub (by omega), nx_sub (by omega), nx_sub (by omega), show 5 * (i + 1) + (j + 1) - 5 = 5 * i + (j + 1) from by omega, show 5 * (i + 1) + (j + 1) - 1 = 5 * (i + 1) + j from by omega, show 5 * i + (j + 1) - 1 = 5 * i + j from by omega]
          simp (disch := omega) only [ra_68_11 R, Option.bind_some, mn_84, gi_n, nx_cl, c1, c2, c3]
          refine sp_pos (by simp; omega) (sp_pos (by simp; omega) (sp_pos (by simp; omega) (sp_pos (by simp; omega) ?_)))
          rw [sp_bd]
          refine (fin _ ?_).mono (by rintro (q | q) hq <;> exact hq)
          rw [min_c (by omega) (by omega) (by omega) (by omega), ch_s, he]
        by_cases q : r i = oW A o j
        · have q' : r i = an A (58 + 6 * o + 2 + j) := q
          exact sp_neg (by rw [nx_eq (by omega) (by omega)]; exact fun z => z q') ((st 0 (by rw [if_pos q])).mono (by rintro (q | q) hq <;> exact hq))
        · have q' : ¬ r i = an A (58 + 6 * o + 2 + j) := q
          exact sp_pos (by rw [nx_eq (by omega) (by omega)]; exact q') ((st 1 (by rw [if_neg q])).mono (by rintro (q | q) hq <;> exact hq))
  · rintro ⟨y, h1⟩ ⟨hy, f1, T1, J1⟩
    dsimp only at hy f1 T1 J1
    subst hy
    unfold a_changesTo_53
    exact sp_pos (by rw [nx_lt (by omega) (by omega)]; omega) (sp_some.mpr ⟨f1, T1.row J1⟩)
theorem mn5 {k : Nat} (hk : k ≤ 5) : (if nI 5 < (if nI 5 < nI k then nI 5 else nI k) then nI 5 else (if nI 5 < nI k then nI 5 else nI k)) = nI k := by
  have : ¬ nI 5 < nI k := by rw [nx_lt (by omega) (by omega)]; omega
  simp only [if_neg this]
theorem a_changesTo_sp (Q : QI h s A) {k o : Nat} (ho : o < an A 2) (hk : k ≤ 5) (hr : ∀ j, j < k → h.2.1 89 j = nI (r j) ∧ r j < 10) : SP (a_changesTo 68 s (nI o) 89 (nI k) h) (fun q => q.1 = nI (ch r (oW A o) k (an A (58 + 6 * o + 1))) ∧ Fr (· = 84) h q.2) := by
  have Q' := Q
  obtain ⟨R, _, S, H, D, w, K⟩ := Q
  have hz := w.o1 ho
  have e2 := w.e2
  unfold a_changesTo
  simp only [kc_im8, kc_im1, kc_i0, kc_i1, kc_i2, kc_i3, kc_i4, kc_i5, kc_b_m100, kc_b_m16, kc_b_m15, kc_b_m14, kc_b_m13, kc_b_m12, kc_b_m11, kc_b_m2, kc_b_6, kc_b_7, kc_b_8, kc_b_9, kc_b_10, kc_b_11, kc_b_12, kc_b_13, kc_b_14, kc_b_15, kc_b_16, kc_b_20, kc_b_24, kc_b_32, kc_b_37, kc_b_40, kc_b_42, kc_b_43, kc_b_45, kc_b_47, kc_b_48, kc_b_57, kc_b_58, kc_b_59, kc_b_60, kc_b_61, kc_b_62, kc_b_63, kc_b_91, kc_b_93, kc_b_97, kc_b_99, kc_b_100, kc_b_106, kc_b_122, kc_s_206, kc_s_226, kc_s_227, kc_s_255, kc_s_256, kc_s_316, kc_s_318, kc_s_400, kc_s_512, kc_s_999, kc_s_1160, kc_s_1536, kc_s_3003, kc_lm11, kc_lm10, kc_lm9, kc_lm8, kc_lm7, kc_lm6, kc_lm5, kc_lm4, kc_lm3, kc_lm2, kc_lm1, kc_l1, kc_l2, kc_l3, kc_l4, kc_l5, kc_l6, kc_l7, kc_l8, kc_l9, kc_l10, kc_l11, kc_l12, kc_l13, kc_l14, kc_l37, kc_l42, kc_l43, kc_l45, kc_l47, kc_l60, kc_l61, kc_l62, kc_l316, kc_l318, kc_l65536, kc_l99999, kc_l1000000, kc_l252645135, kc_l858993459, kc_l1431655765, kc_0, kc_on]
  rw [c_hasOrder_t S w ho, Option.bind_some]
  refine sp_neg (by decide) ?_
  rw [rf_s7 R S.1, Option.bind_some, ln_s7 S.1, gi_n (by omega), nx_cl (by omega), (S.2.2.2.2.2.2.1 o ho).2.1, hz.1]
  refine sp_pos (by simp; omega) ?_
  rw [if_neg (show ¬ nI 4 < nI (an A (58 + 6 * o + 1)) by rw [nx_lt (by omega) (by omega)]; omega)]
  unfold a_changesTo_25
  simp only [kc_im8, kc_im1, kc_i0, kc_i1, kc_i2, kc_i3, kc_i4, kc_i5, kc_b_m100, kc_b_m16, kc_b_m15, kc_b_m14, kc_b_m13, kc_b_m12, kc_b_m11, kc_b_m2, kc_b_6, kc_b_7, kc_b_8, kc_b_9, kc_b_10, kc_b_11, kc_b_12, kc_b_13, kc_b_14, kc_b_15, kc_b_16, kc_b_20, kc_b_24, kc_b_32, kc_b_37, kc_b_40, kc_b_42, kc_b_43, kc_b_45, kc_b_47, kc_b_48, kc_b_57, kc_b_58, kc_b_59, kc_b_60, kc_b_61, kc_b_62, kc_b_63, kc_b_91, kc_b_93, kc_b_97, kc_b_99, kc_b_100, kc_b_106, kc_b_122, kc_s_206, kc_s_226, kc_s_227, kc_s_255, kc_s_256, kc_s_316, kc_s_318, kc_s_400, kc_s_512, kc_s_999, kc_s_1160, kc_s_1536, kc_s_3003, kc_lm11, kc_lm10, kc_lm9, kc_lm8, kc_lm7, kc_lm6, kc_lm5, kc_lm4, kc_lm3, kc_lm2, kc_lm1, kc_l1, kc_l2, kc_l3, kc_l4, kc_l5, kc_l6, kc_l7, kc_l8, kc_l9, kc_l10, kc_l11, kc_l12, kc_l13, kc_l14, kc_l37, kc_l42, kc_l43, kc_l45, kc_l47, kc_l60, kc_l61, kc_l62, kc_l316, kc_l318, kc_l65536, kc_l99999, kc_l1000000, kc_l252645135, kc_l858993459, kc_l1431655765, kc_0, kc_on, mn_89, mn5 hk]
  have key : SP (wh (fun q : (Int32 × pm_H) => a_changesTo_43 68 s (nI o) 89 (nI 5) (nI (an A (58 + 6 * o + 1))) (nI k) q.1 q.2) (nI 0, h)) (fun h' => Fr (· = 84) h h' ∧ TB h' 84 r (oW A o) (an A (58 + 6 * o + 1)) (k + 1)) := by
    refine wh_cnt (fun i q => q.1 = nI i ∧ Fr (· = 84) h q.2 ∧ TB q.2 84 r (oW A o) (an A (58 + 6 * o + 1)) i) _ (k + 1) ?_ ?_ 0 (nI 0, h) (by omega) ⟨rfl, Fr.refl _ _, fun i' q => by omega⟩
    · rintro i ⟨y, h1⟩ hi ⟨hy, f1, T1⟩
      dsimp only at hy f1 T1
      subst hy
      have Q1 := (Q'.ask f1 (fun c hc => by omega)).1
      unfold a_changesTo_43
      simp only [kc_im8, kc_im1, kc_i0, kc_i1, kc_i2, kc_i3, kc_i4, kc_i5, kc_b_m100, kc_b_m16, kc_b_m15, kc_b_m14, kc_b_m13, kc_b_m12, kc_b_m11, kc_b_m2, kc_b_6, kc_b_7, kc_b_8, kc_b_9, kc_b_10, kc_b_11, kc_b_12, kc_b_13, kc_b_14, kc_b_15, kc_b_16, kc_b_20, kc_b_24, kc_b_32, kc_b_37, kc_b_40, kc_b_42, kc_b_43, kc_b_45, kc_b_47, kc_b_48, kc_b_57, kc_b_58, kc_b_59, kc_b_60, kc_b_61, kc_b_62, kc_b_63, kc_b_91, kc_b_93, kc_b_97, kc_b_99, kc_b_100, kc_b_106, kc_b_122, kc_s_206, kc_s_226, kc_s_227, kc_s_255, kc_s_256, kc_s_316, kc_s_318, kc_s_400, kc_s_512, kc_s_999, kc_s_1160, kc_s_1536, kc_s_3003, kc_lm11, kc_lm10, kc_lm9, kc_lm8, kc_lm7, kc_lm6, kc_lm5, kc_lm4, kc_lm3, kc_lm2, kc_lm1, kc_l1, kc_l2, kc_l3, kc_l4, kc_l5, kc_l6, kc_l7, kc_l8, kc_l9, kc_l10, kc_l11, kc_l12, kc_l13, kc_l14, kc_l37, kc_l42, kc_l43, kc_l45, kc_l47, kc_l60, kc_l61, kc_l62, kc_l316, kc_l318, kc_l65536, kc_l99999, kc_l1000000, kc_l252645135, kc_l858993459, kc_l1431655765, kc_0, kc_on]
      refine sp_neg (by rw [nx_lt (by omega) (by omega)]; omega) ?_
      refine sp_call (a_chgJ Q1 ho hk (by omega) rfl (fun j hj => by rw [f1.i _ (by omega)]; exact hr j hj) T1) ?_
      rintro h2 ⟨f2, T2⟩
      exact sp_some.mpr ⟨nx_add i 1, f1.trans f2, T2⟩
    · rintro ⟨y, h1⟩ ⟨hy, f1, T1⟩
      dsimp only at hy f1 T1
      subst hy
      unfold a_changesTo_43
      exact sp_pos (by rw [nx_lt (by omega) (by omega)]; omega) (sp_some.mpr ⟨f1, T1⟩)
  refine sp_call key ?_
  rintro h1 ⟨f1, T1⟩
  refine sp_pos (by rw [nx_le (by omega) (by omega)]; omega) ?_
  rw [ra_68_11 (R.fr f1), Option.bind_some, nx_mul, nx_add, mn_84, gi_n (by omega), nx_cl (by omega), Nat.mul_comm k 5]
  refine sp_pos (by simp; omega) ?_
  exact sp_some.mpr ⟨T1 k (by omega) _ (Nat.le_refl _), f1⟩
end CX
