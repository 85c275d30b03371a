/-! Questions: shortest, seats. -/
section SH
variable {h : pm_H} {s : Nat} {A : Nat → Int32}
theorem MS.sd {b S : Nat} (hS : MS A b S) (m : Nat) : MS A b (sd S (2 ^ m)) := ⟨Nat.lt_of_le_of_lt (sub_le (sub_sd _ _)) hS.1, fun i hi => hS.2 i (sub_sd _ _ i hi)⟩
theorem a_seat_sp (S0 : CSh h s A) (w : WFA A) (R : RF h) {b S : Nat} (hb : b ≤ 10) (hS : MS A b S) {v : List Nat} (C : CUR h 77 v) : SP (a_seat 68 s (nI S) (bv b) h) (fun z => Fr (· = 82) h z.2 ∧ match seatL (wfb A b) S v with
    | none => z.1 = nI 0
    | some t => z.1 = nI 1 ∧ ∀ i, i < t.length → z.2.2.1 82 i = nI (t.getD i 0)) := by
  have hsv := hull_ge S0.1
  have hl := C.2.2.1
  have key : SP (wh (fun z : (Int32 × Int32 × pm_H) => a_seat_6 68 s (bv b) z.1 z.2.1 z.2.2) (nI S, nI 0, h)) (fun r => match r with
      | .inl h' => Fr (· = 82) h h' ∧ seatL (wfb A b) S v = none
      | .inr h' => Fr (· = 82) h h' ∧ ∃ t, seatL (wfb A b) S v = some t ∧ ∀ i, i < t.length → h'.2.1 82 i = nI (t.getD i 0)) := by
    refine wh_cnt (fun i z => ∃ T t, z.1 = nI T ∧ z.2.1 = nI i ∧ Fr (· = 82) h z.2.2 ∧ MS A b T ∧ t.length = i ∧ (∀ j, j < i → z.2.2.2.1 82 j = nI (t.getD j 0)) ∧ seatL (wfb A b) S v = (seatL (wfb A b) T (v.drop i)).map (t ++ ·)) _ v.length ?_ ?_ 0 (nI S, nI 0, h) (by omega) ⟨S, [], rfl, rfl, Fr.refl _ _, hS, rfl, fun j hj => by omega, by simp⟩
    · rintro i ⟨x, y, h1⟩ hi ⟨T, t, rfl, rfl, f1, hT, ht, c1, e1⟩
      dsimp only at f1 c1
      have R1 := R.fr f1
      have C1 : CUR h1 77 v := C.fr (f1.2.2 77 (by omega)).1 (f1.2.2 78 (by omega)).1
      have S1 := S0.fr f1 (fun c a b => by omega)
      have hd : v.drop i = v.getD i 0 :: v.drop (i + 1) := by
        rw [List.drop_eq_getElem_cons hi, List.getD_eq_getElem?_getD, List.getElem?_eq_getElem hi]
        rfl
      unfold a_seat_6
      simp (disch := omega) only [kc_im8, kc_im1, kc_i0, kc_i1, kc_i2, kc_i3, kc_i4, kc_i5, kc_b_m100, kc_b_m16, kc_b_m15, kc_b_m14, kc_b_m13, kc_b_m12, kc_b_m11, kc_b_m2, kc_b_6, kc_b_7, kc_b_8, kc_b_9, kc_b_10, kc_b_11, kc_b_12, kc_b_13, kc_b_14, kc_b_15, kc_b_16, kc_b_20, kc_b_24, kc_b_32, kc_b_37, kc_b_40, kc_b_42, kc_b_43, kc_b_45, kc_b_47, kc_b_48, kc_b_57, kc_b_58, kc_b_59, kc_b_60, kc_b_61, kc_b_62, kc_b_63, kc_b_91, kc_b_93, kc_b_97, kc_b_99, kc_b_100, kc_b_106, kc_b_122, kc_s_206, kc_s_226, kc_s_227, kc_s_255, kc_s_256, kc_s_316, kc_s_318, kc_s_400, kc_s_512, kc_s_999, kc_s_1160, kc_s_1536, kc_s_3003, kc_lm11, kc_lm10, kc_lm9, kc_lm8, kc_lm7, kc_lm6, kc_lm5, kc_lm4, kc_lm3, kc_lm2, kc_lm1, kc_l1, kc_l2, kc_l3, kc_l4, kc_l5, kc_l6, kc_l7, kc_l8, kc_l9, kc_l10, kc_l11, kc_l12, kc_l13, kc_l14, kc_l37, kc_l42, kc_l43, kc_l45, kc_l47, kc_l60, kc_l61, kc_l62, kc_l316, kc_l318, kc_l65536, kc_l99999, kc_l1000000, kc_l252645135, kc_l858993459, kc_l1431655765, kc_0, kc_on, ra_68_1 R1, ra_68_4 R1, Option.bind_some, C1.1, mn_82, nx_lt, nx_le, nx_eq, nx_add, nx_sub, nx_mul, nx_cl, n_lt_ng, n_le_ng, n_eq_ng, ng_lt_n, ng_le_n, ng_eq_n, ng_eq, ng_lt, ng_le, nx_dec, r_wordAt_c R1 q77 C1 hi, a_leastWith_n S1 w R1 hb hT (C.2.2.2 i hi).2, gi_n]
      refine sp_neg (by omega) (sp_neg (by omega) ?_)
      rw [hd, seatL] at e1
      cases hlw : lw (wfb A b) T (v.getD i 0) with
      | none =>
        rw [hlw] at e1
        refine sp_neg (by show ¬ nI 0 ≤ ng 1; decide) (sp_some.mpr ⟨f1, e1⟩)
      | some m =>
        rw [hlw] at e1
        have hm := (lw_some _).mp hlw
        dsimp only
        refine sp_pos (by rw [nx_le (by omega) (by omega)]; omega) (sp_pos (by simp; omega) ?_)
        rw [sp_bd, nx_shl1 (by omega), nx_andn, sp_some]
        refine ⟨sd T (2 ^ m), t ++ [m], rfl, rfl, f1.setI rfl, hT.sd m, by rw [List.length_append, ht]; rfl, fun j hj => ?_, ?_⟩
        · show (pm_setI h1 82 i (nI m)).2.1 82 j = _
          by_cases ej : j = i
          · subst ej; rw [ri_s, ← ht, getD_snoc]
          · rw [ri_j _ ej, getD_snoc_lt _ _ (by omega)]; exact c1 j (by omega)
        · rw [e1, Option.map_map]
          congr 1
          funext z
          simp
    · rintro ⟨x, y, h1⟩ ⟨T, t, rfl, rfl, f1, hT, ht, c1, e1⟩
      dsimp only at f1 c1
      have R1 := R.fr f1
      have C1 : CUR h1 77 v := C.fr (f1.2.2 77 (by omega)).1 (f1.2.2 78 (by omega)).1
      unfold a_seat_6
      simp (disch := omega) only [kc_im8, kc_im1, kc_i0, kc_i1, kc_i2, kc_i3, kc_i4, kc_i5, kc_b_m100, kc_b_m16, kc_b_m15, kc_b_m14, kc_b_m13, kc_b_m12, kc_b_m11, kc_b_m2, kc_b_6, kc_b_7, kc_b_8, kc_b_9, kc_b_10, kc_b_11, kc_b_12, kc_b_13, kc_b_14, kc_b_15, kc_b_16, kc_b_20, kc_b_24, kc_b_32, kc_b_37, kc_b_40, kc_b_42, kc_b_43, kc_b_45, kc_b_47, kc_b_48, kc_b_57, kc_b_58, kc_b_59, kc_b_60, kc_b_61, kc_b_62, kc_b_63, kc_b_91, kc_b_93, kc_b_97, kc_b_99, kc_b_100, kc_b_106, kc_b_122, kc_s_206, kc_s_226, kc_s_227, kc_s_255, kc_s_256, kc_s_316, kc_s_318, kc_s_400, kc_s_512, kc_s_999, kc_s_1160, kc_s_1536, kc_s_3003, kc_lm11, kc_lm10, kc_lm9, kc_lm8, kc_lm7, kc_lm6, kc_lm5, kc_lm4, kc_lm3, kc_lm2, kc_lm1, kc_l1, kc_l2, kc_l3, kc_l4, kc_l5, kc_l6, kc_l7, kc_l8, kc_l9, kc_l10, kc_l11, kc_l12, kc_l13, kc_l14, kc_l37, kc_l42, kc_l43, kc_l45, kc_l47, kc_l60, kc_l61, kc_l62, kc_l316, kc_l318, kc_l65536, kc_l99999, kc_l1000000, kc_l252645135, kc_l858993459, kc_l1431655765, kc_0, kc_on, ra_68_1 R1, Option.bind_some, C1.1, nx_lt, nx_le, nx_eq, nx_add, nx_sub, nx_mul, nx_cl, n_lt_ng, n_le_ng, n_eq_ng, ng_lt_n, ng_le_n, ng_eq_n, ng_eq, ng_lt, ng_le, nx_dec]
      refine sp_pos (by omega) (sp_some.mpr ⟨f1, t, ?_, fun j hj => c1 j (by omega)⟩)
      rw [e1, List.drop_length, seatL]
      simp
  unfold a_seat
  simp only [kc_im8, kc_im1, kc_i0, kc_i1, kc_i2, kc_i3, kc_i4, kc_i5, kc_b_m100, kc_b_m16, kc_b_m15, kc_b_m14, kc_b_m13, kc_b_m12, kc_b_m11, kc_b_m2, kc_b_6, kc_b_7, kc_b_8, kc_b_9, kc_b_10, kc_b_11, kc_b_12, kc_b_13, kc_b_14, kc_b_15, kc_b_16, kc_b_20, kc_b_24, kc_b_32, kc_b_37, kc_b_40, kc_b_42, kc_b_43, kc_b_45, kc_b_47, kc_b_48, kc_b_57, kc_b_58, kc_b_59, kc_b_60, kc_b_61, kc_b_62, kc_b_63, kc_b_91, kc_b_93, kc_b_97, kc_b_99, kc_b_100, kc_b_106, kc_b_122, kc_s_206, kc_s_226, kc_s_227, kc_s_255, kc_s_256, kc_s_316, kc_s_318, kc_s_400, kc_s_512, kc_s_999, kc_s_1160, kc_s_1536, kc_s_3003, kc_lm11, kc_lm10, kc_lm9, kc_lm8, kc_lm7, kc_lm6, kc_lm5, kc_lm4, kc_lm3, kc_lm2, kc_lm1, kc_l1, kc_l2, kc_l3, kc_l4, kc_l5, kc_l6, kc_l7, kc_l8, kc_l9, kc_l10, kc_l11, kc_l12, kc_l13, kc_l14, kc_l37, kc_l42, kc_l43, kc_l45, kc_l47, kc_l60, kc_l61, kc_l62, kc_l316, kc_l318, kc_l65536, kc_l99999, kc_l1000000, kc_l252645135, kc_l858993459, kc_l1431655765, kc_0, kc_on]
  refine sp_call key ?_
  rintro (h1 | h1) hz
  · refine sp_some.mpr ⟨hz.1, ?_⟩
    rw [hz.2]
  · obtain ⟨f1, t, e1, c1⟩ := hz
    refine sp_some.mpr ⟨f1, ?_⟩
    rw [e1]
    exact ⟨rfl, c1⟩
end SH
