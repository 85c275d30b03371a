/-! Hands: copies, an hour goes by: the program and the reference. -/
theorem hands_far : ∀ c ∈ [8, 11, 14, 17, 20, 23, 26, 29, 32, 35, 38, 41, 44, 47, 50, 53, 56, 59, 62, 65, 86, 169, 174, 179, 184, 189], ∀ d ∈ [8, 11, 14, 17, 20, 23, 26, 29, 32, 35, 38, 41, 44, 47, 50, 53, 56, 59, 62, 65, 86, 169, 174, 179, 184, 189], c ≠ d → c + 3 ≤ d ∨ d + 3 ≤ c := by decide +kernel
theorem hands_apart {c d : Nat} (hc : mi_o c 3 = true) (hd : mi_o d 3 = true) (h : c ≠ d) : c + 3 ≤ d ∨ d + 3 ≤ c := hands_far c (ob_n c hc) d (ob_n d hd) h
def HC (c x : Nat) : Prop := x = c ∨ x = c + 1 ∨ x = c + 2
section CP
variable {h : pm_H} {c d : Nat} {A : Nat → Int32}
theorem n_copy_sp (R : RF h) (hc : mi_o c 3 = true) (hd : mi_o d 3 = true) (hne : c ≠ d) : SP (n_copy d c h) (fun h' => Fr (HC d) h h' ∧ (∀ j, j < 5 → h'.2.1 d j = h.2.1 c j) ∧ (∀ m, m < 8 → h'.2.1 (d + 1) m = h.2.1 (c + 1) m) ∧ ∀ m, m < 8 → h'.2.1 (d + 2) m = h.2.1 (c + 2) m) := by
  have far := hands_apart hc hd hne
  unfold n_copy
  simp only [sp_bd]
  simp (disch := omega) only [ri_c]
  generalize hh5 : pm_setI (pm_setI (pm_setI (pm_setI (pm_setI h d 0 (h.2.1 c 0)) d 1 (h.2.1 c 1)) d 2 (h.2.1 c 2)) d 3 (h.2.1 c 3)) d 4 (h.2.1 c 4) = h5
  have f5 : Fr (HC d) h h5 := by rw [← hh5]; exact (((((Fr.refl (HC d) h).setI (.inl rfl)).setI (.inl rfl)).setI (.inl rfl)).setI (.inl rfl)).setI (.inl rfl)
  have c5 : ∀ j, j < 5 → h5.2.1 d j = h.2.1 c j := by
    intro j hj
    rw [← hh5]
    have : j = 0 ∨ j = 1 ∨ j = 2 ∨ j = 3 ∨ j = 4 := by omega
    rcases this with rfl | rfl | rfl | rfl | rfl <;> simp [ri]
  clear hh5
  have R5 := R.fr f5
  simp (disch := omega) only [kc_im8, kc_im1, kc_i0, kc_i1, kc_i2, kc_i3, kc_i4, kc_i5, kc_b_m100, kc_b_m16, kc_b_m15, kc_b_m14, kc_b_m13, kc_b_m12, kc_b_m11, kc_b_m2, kc_b_6, kc_b_7, kc_b_8, kc_b_9, kc_b_10, kc_b_11, kc_b_12, kc_b_13, kc_b_14, kc_b_15, kc_b_16, kc_b_20, kc_b_24, kc_b_32, kc_b_37, kc_b_40, kc_b_42, kc_b_43, kc_b_45, kc_b_47, kc_b_48, kc_b_57, kc_b_58, kc_b_59, kc_b_60, kc_b_61, kc_b_62, kc_b_63, kc_b_91, kc_b_93, kc_b_97, kc_b_99, kc_b_100, kc_b_106, kc_b_122, kc_s_206, kc_s_226, kc_s_227, kc_s_255, kc_s_256, kc_s_316, kc_s_318, kc_s_400, kc_s_512, kc_s_999, kc_s_1160, kc_s_1536, kc_s_3003, kc_lm11, kc_lm10, kc_lm9, kc_lm8, kc_lm7, kc_lm6, kc_lm5, kc_lm4, kc_lm3, kc_lm2, kc_lm1, kc_l1, kc_l2, kc_l3, kc_l4, kc_l5, kc_l6, kc_l7, kc_l8, kc_l9, kc_l10, kc_l11, kc_l12, kc_l13, kc_l14, kc_l37, kc_l42, kc_l43, kc_l45, kc_l47, kc_l60, kc_l61, kc_l62, kc_l316, kc_l318, kc_l65536, kc_l99999, kc_l1000000, kc_l252645135, kc_l858993459, kc_l1431655765, kc_0, kc_on, rf_n5 R5 hc, rf_n5 R5 hd, ln_n5 hc, ln_n5 hd, Option.bind_some, nx_cl]
  refine sp_pos (mi_cp_t (by omega) (by omega) (by omega) (by omega)) ?_
  rw [sp_bd]
  generalize hh9 : pm_rowI h5 (d + 1) (va_cpy (h5.2.1 (c + 1)) (h5.2.1 (d + 1)) 0 0 8) = h9
  have f9 : Fr (HC d) h h9 := by rw [← hh9]; exact f5.rowI (.inr (.inl rfl))
  have c9 : ∀ j, j < 5 → h9.2.1 d j = h.2.1 c j := by intro j hj; rw [← hh9, ri_rc _ (by omega)]; exact c5 j hj
  have s9 : ∀ m, m < 8 → h9.2.1 (d + 1) m = h.2.1 (c + 1) m := by
    intro m hm
    rw [← hh9, ri_r]
    unfold va_cpy
    rw [if_pos (by omega), Nat.zero_add, Nat.sub_zero, f5.i _ (by unfold HC; omega)]
  clear hh9
  have R9 := R.fr f9
  simp (disch := omega) only [rf_n6 R9 hc, rf_n6 R9 hd, ln_n6 hc, ln_n6 hd, Option.bind_some]
  refine sp_pos (mi_cp_t (by omega) (by omega) (by omega) (by omega)) ?_
  rw [sp_bd, sp_some]
  refine ⟨f9.rowI (.inr (.inr rfl)), fun j hj => ?_, fun m hm => ?_, fun m hm => ?_⟩
  · rw [ri_rc _ (by omega)]; exact c9 j hj
  · rw [ri_rc _ (by omega)]; exact s9 m hm
  · rw [ri_r]
    unfold va_cpy
    rw [if_pos (by omega), Nat.zero_add, Nat.sub_zero, f9.i _ (by unfold HC; omega)]
/-- a copy stands for what it is a copy of -/
theorem CHd.cp {h' : pm_H} (H : CHd h c A) (hm8 : an A 1 ≤ 8) (hd : mi_o d 3 = true) (h5 : ∀ j, j < 5 → h'.2.1 d j = h.2.1 c j) (hs : ∀ m, m < 8 → h'.2.1 (d + 1) m = h.2.1 (c + 1) m) (ht : ∀ m, m < 8 → h'.2.1 (d + 2) m = h.2.1 (c + 2) m) : CHd h' d A := by
  obtain ⟨_, a0, a1, a2, a3, a4, a5⟩ := H
  refine ⟨hd, by rw [h5 0 (by omega)]; exact a0, by rw [h5 1 (by omega)]; exact a1, by rw [h5 2 (by omega)]; exact a2, by rw [h5 3 (by omega)]; exact a3, by rw [h5 4 (by omega)]; exact a4, fun m hm => ?_⟩
  rw [hs m (by omega), ht m (by omega)]
  exact a5 m hm
/-- an hour goes by -/
def psK (A : Nat → Int32) (i : Nat) : Nat → Int32 := fun j => if 10 ≤ j ∧ j < 10 + 6 * i then (if (j - 10) % 6 = 3 then (if A j ≤ nI 0 then A j else A j - nI 1) else if (j - 10) % 6 = 5 then (if A (j - 3) = nI 1 then A j + nI 1 else nI 0) else A j) else A j
def psA (A : Nat → Int32) : Nat → Int32 := fun j => if j = 4 then A 4 + nI 1 else psK A (an A 1) j
theorem psA_out {j : Nat} (h4 : j ≠ 4) (h : j < 10 ∨ 10 + 6 * an A 1 ≤ j) : psA A j = A j := by
  unfold psA psK
  rw [if_neg h4, if_neg (by omega)]
theorem psA_in {m r : Nat} (hm : m < an A 1) (hr : r < 6) (h3 : r ≠ 3) (h5 : r ≠ 5) : psA A (10 + 6 * m + r) = A (10 + 6 * m + r) := by
  unfold psA psK
  have e : (10 + 6 * m + r - 10) % 6 = r := by omega
  rw [if_neg (by omega), if_pos (by omega), e, if_neg h3, if_neg h5]
theorem psA_3 (w : WFA A) {m : Nat} (hm : m < an A 1) : psA A (10 + 6 * m + 3) = nI (an A (10 + 6 * m + 3) - 1) := by
  have m3 := w.m3 hm
  unfold psA psK
  have e : (10 + 6 * m + 3 - 10) % 6 = 3 := by omega
  rw [if_neg (by omega), if_pos (by omega), e, if_pos rfl, m3.1]
  simp (disch := omega) only [nx_le]
  by_cases q : an A (10 + 6 * m + 3) ≤ 0
  · rw [if_pos q, show an A (10 + 6 * m + 3) = 0 from by omega]
  · rw [if_neg q, nx_sub (by omega)]
theorem psA_5 (w : WFA A) {m : Nat} (hm : m < an A 1) : psA A (10 + 6 * m + 5) = if isAw A m = true then A (10 + 6 * m + 5) + nI 1 else nI 0 := by
  unfold psA psK isAw
  have e : (10 + 6 * m + 5 - 10) % 6 = 5 := by omega
  rw [if_neg (by omega), if_pos (by omega), e, if_neg (by omega), if_pos rfl, show 10 + 6 * m + 5 - 3 = 10 + 6 * m + 2 from by omega]
  simp
theorem psA_an {j : Nat} (h4 : j ≠ 4) (h : j < 10 ∨ 10 + 6 * an A 1 ≤ j) : an (psA A) j = an A j := by unfold an; rw [psA_out h4 h]
theorem psA_wf (w : WFA A) (h4 : an A 4 < 1999) : WFA (psA A) := by
  have w' := w
  have e4 := w.e4
  have e1 := w.e1
  obtain ⟨a0, a1, a2, a3, a4, a5, a6, a7, a8, a9, a10, a11⟩ := w
  unfold WFA
  simp only [psA_an (A := A) (j := 0) (by omega) (by omega), psA_an (A := A) (j := 1) (by omega) (by omega), psA_an (A := A) (j := 2) (by omega) (by omega), psA_an (A := A) (j := 226) (by omega) (by omega)]
  refine ⟨?_, ?_, ?_, ?_, ?_, ?_, ?_, fun m hm => ?_, fun o ho => ?_, fun a b ha hb => ?_, ?_, fun k hk => ?_⟩
  · rw [psA_out (by omega) (by omega)]; exact a0
  · rw [psA_out (by omega) (by omega)]; exact a1
  · rw [psA_out (by omega) (by omega)]; exact a2
  · rw [psA_out (by omega) (by omega)]; exact a3
  · unfold psA
    rw [if_pos rfl, e4.1, nx_add]
    exact ⟨_, by omega, rfl⟩
  · rw [psA_out (by omega) (by omega)]; exact a5
  · rw [psA_out (by omega) (by omega)]; exact a6
  · have b := a7 m hm
    have r0 : psA A (10 + 6 * m) = A (10 + 6 * m) := psA_in (r := 0) hm (by omega) (by omega) (by omega)
    have r1 : psA A (10 + 6 * m + 1) = A (10 + 6 * m + 1) := psA_in (r := 1) hm (by omega) (by omega) (by omega)
    have r2 : psA A (10 + 6 * m + 2) = A (10 + 6 * m + 2) := psA_in (r := 2) hm (by omega) (by omega) (by omega)
    have r4 : psA A (10 + 6 * m + 4) = A (10 + 6 * m + 4) := psA_in (r := 4) hm (by omega) (by omega) (by omega)
    rw [r0, r1, r2, r4, psA_3 w' hm]
    have := (w'.m3 hm).2
    exact ⟨b.1, b.2.1, b.2.2.1, ⟨_, by omega, rfl⟩, b.2.2.2.2⟩
  · rw [psA_out (by omega) (by omega), psA_out (by omega) (by omega), psA_an (by omega) (by omega)]
    refine ⟨(a8 o ho).1, (a8 o ho).2.1, (a8 o ho).2.2.1, fun i hi => ?_⟩
    rw [psA_out (by omega) (by omega)]; exact (a8 o ho).2.2.2 i hi
  · rw [psA_out (by omega) (by omega)]; exact a9 a b ha hb
  · rw [psA_out (by omega) (by omega)]; exact a10
  · rw [psA_out (by omega) (by omega), psA_out (by omega) (by omega)]; exact a11 k hk
theorem psA_aw {m : Nat} (hm : m < an A 1) : isAw (psA A) m = isAw A m ∧ isDd (psA A) m = isDd A m := by
  unfold isAw isDd
  rw [psA_in (r := 2) hm (by omega) (by omega) (by omega), psA_in (r := 4) hm (by omega) (by omega) (by omega)]
  exact ⟨rfl, rfl⟩
theorem n_pass_sp (w : WFA A) (R : RF h) (H : CHd h c A) : SP (n_pass c h) (fun h' => Fr (HC c) h h' ∧ CHd h' c (psA A)) := by
  have e1 := w.e1
  obtain ⟨hc, a0, a1, a2, a3, a4, a5⟩ := H
  unfold n_pass
  simp only [kc_im8, kc_im1, kc_i0, kc_i1, kc_i2, kc_i3, kc_i4, kc_i5, kc_b_m100, kc_b_m16, kc_b_m15, kc_b_m14, kc_b_m13, kc_b_m12, kc_b_m11, kc_b_m2, kc_b_6, kc_b_7, kc_b_8, kc_b_9, kc_b_10, kc_b_11, kc_b_12, kc_b_13, kc_b_14, kc_b_15, kc_b_16, kc_b_20, kc_b_24, kc_b_32, kc_b_37, kc_b_40, kc_b_42, kc_b_43, kc_b_45, kc_b_47, kc_b_48, kc_b_57, kc_b_58, kc_b_59, kc_b_60, kc_b_61, kc_b_62, kc_b_63, kc_b_91, kc_b_93, kc_b_97, kc_b_99, kc_b_100, kc_b_106, kc_b_122, kc_s_206, kc_s_226, kc_s_227, kc_s_255, kc_s_256, kc_s_316, kc_s_318, kc_s_400, kc_s_512, kc_s_999, kc_s_1160, kc_s_1536, kc_s_3003, kc_lm11, kc_lm10, kc_lm9, kc_lm8, kc_lm7, kc_lm6, kc_lm5, kc_lm4, kc_lm3, kc_lm2, kc_lm1, kc_l1, kc_l2, kc_l3, kc_l4, kc_l5, kc_l6, kc_l7, kc_l8, kc_l9, kc_l10, kc_l11, kc_l12, kc_l13, kc_l14, kc_l37, kc_l42, kc_l43, kc_l45, kc_l47, kc_l60, kc_l61, kc_l62, kc_l316, kc_l318, kc_l65536, kc_l99999, kc_l1000000, kc_l252645135, kc_l858993459, kc_l1431655765, kc_0, kc_on]
  rw [sp_bd, a2]
  generalize hh1 : pm_setI h c 2 (A 4 + nI 1) = h1
  have f1 : Fr (HC c) h h1 := by rw [← hh1]; exact (Fr.refl (HC c) h).setI (.inl rfl)
  have b2 : h1.2.1 c 2 = A 4 + nI 1 := by rw [← hh1, ri_s]
  have b0 : ∀ j, j ≠ 2 → h1.2.1 c j = h.2.1 c j := by intro j hj; rw [← hh1, ri_j _ hj]
  have bs1 : h1.2.1 (c + 1) = h.2.1 (c + 1) := by rw [← hh1]; funext j; exact ri_c _ (by omega)
  have bt1 : h1.2.1 (c + 2) = h.2.1 (c + 2) := by rw [← hh1]; funext j; exact ri_c _ (by omega)
  clear hh1
  have hbs : bs (isAw A) (an A 1) < 256 := Nat.lt_of_lt_of_le (bs_lt _ _) (p256 w)
  have key : SP (wh (fun z : (Int32 × pm_H) => n_pass_12 c z.1 z.2) (nI 0, h1)) (fun h' => Fr (fun x => x = c + 1 ∨ x = c + 2) h1 h' ∧ ∀ m, m < an A 1 → h'.2.1 (c + 1) m = psA A (10 + 6 * m + 3) ∧ h'.2.1 (c + 2) m = psA A (10 + 6 * m + 5)) := by
    refine wh_cnt (fun i z => z.1 = nI i ∧ Fr (fun x => x = c + 1 ∨ x = c + 2) h1 z.2 ∧ (∀ m, m < an A 1 → m < i → z.2.2.1 (c + 1) m = psA A (10 + 6 * m + 3) ∧ z.2.2.1 (c + 2) m = psA A (10 + 6 * m + 5)) ∧ ∀ m, i ≤ m → z.2.2.1 (c + 1) m = h.2.1 (c + 1) m ∧ z.2.2.1 (c + 2) m = h.2.1 (c + 2) m) _ 8 ?_ ?_ 0 (nI 0, h1) (by omega) ⟨rfl, Fr.refl _ _, fun m _ hm => by omega, fun m _ => by rw [bs1, bt1]; exact ⟨rfl, rfl⟩⟩
    · rintro i ⟨x, h2⟩ hi ⟨rfl, f2, c2, d2⟩
      dsimp only at f2 c2 d2
      have R2 := (R.fr f1).fr f2
      have aw : h2.2.1 c 0 = nI (bs (isAw A) (an A 1)) := by rw [f2.i _ (by omega), b0 0 (by omega)]; exact a0
      have di := d2 i (Nat.le_refl _)
      unfold n_pass_12
      simp (disch := omega) only [kc_im8, kc_im1, kc_i0, kc_i1, kc_i2, kc_i3, kc_i4, kc_i5, kc_b_m100, kc_b_m16, kc_b_m15, kc_b_m14, kc_b_m13, kc_b_m12, kc_b_m11, kc_b_m2, kc_b_6, kc_b_7, kc_b_8, kc_b_9, kc_b_10, kc_b_11, kc_b_12, kc_b_13, kc_b_14, kc_b_15, kc_b_16, kc_b_20, kc_b_24, kc_b_32, kc_b_37, kc_b_40, kc_b_42, kc_b_43, kc_b_45, kc_b_47, kc_b_48, kc_b_57, kc_b_58, kc_b_59, kc_b_60, kc_b_61, kc_b_62, kc_b_63, kc_b_91, kc_b_93, kc_b_97, kc_b_99, kc_b_100, kc_b_106, kc_b_122, kc_s_206, kc_s_226, kc_s_227, kc_s_255, kc_s_256, kc_s_316, kc_s_318, kc_s_400, kc_s_512, kc_s_999, kc_s_1160, kc_s_1536, kc_s_3003, kc_lm11, kc_lm10, kc_lm9, kc_lm8, kc_lm7, kc_lm6, kc_lm5, kc_lm4, kc_lm3, kc_lm2, kc_lm1, kc_l1, kc_l2, kc_l3, kc_l4, kc_l5, kc_l6, kc_l7, kc_l8, kc_l9, kc_l10, kc_l11, kc_l12, kc_l13, kc_l14, kc_l37, kc_l42, kc_l43, kc_l45, kc_l47, kc_l60, kc_l61, kc_l62, kc_l316, kc_l318, kc_l65536, kc_l99999, kc_l1000000, kc_l252645135, kc_l858993459, kc_l1431655765, kc_0, kc_on, nx_lt, nx_le, nx_eq, nx_add, nx_sub, nx_mul, nx_cl, n_lt_ng, n_le_ng, n_eq_ng, ng_lt_n, ng_le_n, ng_eq_n, ng_eq, ng_lt, ng_le, nx_dec, rf_n5 R2 hc, ln_n5 hc, Option.bind_some, gi_n]
      refine sp_neg (by omega) (sp_pos (by simpa using hi) (sp_pos (by simpa using hi) ?_))
      rw [sp_bd, di.1]
      generalize hv : (if nI 0 < h.2.1 (c + 1) i - nI 1 then h.2.1 (c + 1) i - nI 1 else nI 0) = v
      generalize hh3 : pm_setI h2 (c + 1) i v = h3
      have f3 : Fr (fun x => x = c + 1 ∨ x = c + 2) h1 h3 := by rw [← hh3]; exact f2.setI (.inl rfl)
      have R3 := (R.fr f1).fr f3
      have aw3 : h3.2.1 c 0 = nI (bs (isAw A) (an A 1)) := by rw [← hh3, ri_c _ (by omega)]; exact aw
      have t3 : ∀ m, h3.2.1 (c + 2) m = h2.2.1 (c + 2) m := by intro m; rw [← hh3, ri_c _ (by omega)]
      have s3 : ∀ m, h3.2.1 (c + 1) m = if m = i then v else h2.2.1 (c + 1) m := by intro m; rw [← hh3, ri, if_pos rfl]
      clear hh3
      simp (disch := omega) only [rf_n6 R3 hc, ln_n6 hc, Option.bind_some, aw3, x_bit_n, gi_n, nx_cl, t3, di.2]
      have fin : ∀ u, (i < an A 1 → u = psA A (10 + 6 * i + 5)) → SP (n_pass_65 c (nI i) u (nI i) (c + 2) h3) (fun q => match q with
          | .inl s' => s'.1 = nI (i + 1) ∧ Fr (fun x => x = c + 1 ∨ x = c + 2) h1 s'.2 ∧ (∀ m, m < an A 1 → m < i + 1 → s'.2.2.1 (c + 1) m = psA A (10 + 6 * m + 3) ∧ s'.2.2.1 (c + 2) m = psA A (10 + 6 * m + 5)) ∧ ∀ m, i + 1 ≤ m → s'.2.2.1 (c + 1) m = h.2.1 (c + 1) m ∧ s'.2.2.1 (c + 2) m = h.2.1 (c + 2) m
          | .inr r => Fr (fun x => x = c + 1 ∨ x = c + 2) h1 r ∧ ∀ m, m < an A 1 → r.2.1 (c + 1) m = psA A (10 + 6 * m + 3) ∧ r.2.1 (c + 2) m = psA A (10 + 6 * m + 5)) := by
        intro u hu
        unfold n_pass_65
        simp (disch := omega) only [kc_im8, kc_im1, kc_i0, kc_i1, kc_i2, kc_i3, kc_i4, kc_i5, kc_b_m100, kc_b_m16, kc_b_m15, kc_b_m14, kc_b_m13, kc_b_m12, kc_b_m11, kc_b_m2, kc_b_6, kc_b_7, kc_b_8, kc_b_9, kc_b_10, kc_b_11, kc_b_12, kc_b_13, kc_b_14, kc_b_15, kc_b_16, kc_b_20, kc_b_24, kc_b_32, kc_b_37, kc_b_40, kc_b_42, kc_b_43, kc_b_45, kc_b_47, kc_b_48, kc_b_57, kc_b_58, kc_b_59, kc_b_60, kc_b_61, kc_b_62, kc_b_63, kc_b_91, kc_b_93, kc_b_97, kc_b_99, kc_b_100, kc_b_106, kc_b_122, kc_s_206, kc_s_226, kc_s_227, kc_s_255, kc_s_256, kc_s_316, kc_s_318, kc_s_400, kc_s_512, kc_s_999, kc_s_1160, kc_s_1536, kc_s_3003, kc_lm11, kc_lm10, kc_lm9, kc_lm8, kc_lm7, kc_lm6, kc_lm5, kc_lm4, kc_lm3, kc_lm2, kc_lm1, kc_l1, kc_l2, kc_l3, kc_l4, kc_l5, kc_l6, kc_l7, kc_l8, kc_l9, kc_l10, kc_l11, kc_l12, kc_l13, kc_l14, kc_l37, kc_l42, kc_l43, kc_l45, kc_l47, kc_l60, kc_l61, kc_l62, kc_l316, kc_l318, kc_l65536, kc_l99999, kc_l1000000, kc_l252645135, kc_l858993459, kc_l1431655765, kc_0, kc_on, ln_n6 hc, gi_n, nx_cl, nx_add]
        refine sp_pos (by simpa using hi) ?_
        rw [sp_bd, sp_some]
        refine ⟨rfl, f3.setI (.inr rfl), fun m hm hmi => ⟨?_, ?_⟩, fun m hm => ⟨?_, ?_⟩⟩
        · show (pm_setI h3 (c + 2) i u).2.1 (c + 1) m = _
          rw [ri_c _ (by omega), s3]
          by_cases e : m = i
          · subst e
            rw [if_pos rfl, ← hv, (a5 m hm).1, psA_3 w hm, (w.m3 hm).1]
            have := (w.m3 hm).2
            by_cases q : an A (10 + 6 * m + 3) = 0
            · rw [q, nx_sub_ng (by omega) (by omega) (by omega), if_neg (by decide)]
            · rw [nx_sub (by omega)]
              by_cases q2 : an A (10 + 6 * m + 3) - 1 = 0
              · rw [q2, if_neg (by decide)]
              · rw [if_pos (by rw [nx_lt (by omega) (by omega)]; omega)]
          · rw [if_neg e]; exact (c2 m hm (by omega)).1
        · show (pm_setI h3 (c + 2) i u).2.1 (c + 2) m = _
          by_cases e : m = i
          · subst e; rw [ri_s]; exact hu hm
          · rw [ri_j _ e, t3]; exact (c2 m hm (by omega)).2
        · show (pm_setI h3 (c + 2) i u).2.1 (c + 1) m = _
          rw [ri_c _ (by omega), s3, if_neg (by omega)]; exact (d2 m (by omega)).1
        · show (pm_setI h3 (c + 2) i u).2.1 (c + 2) m = _
          rw [ri_j _ (by omega), t3]; exact (d2 m (by omega)).2
      cases hb : (bs (isAw A) (an A 1)).testBit i with
      | false =>
        refine sp_pos (by decide) ((fin _ (fun him => ?_)).mono (by rintro (z | z) hz <;> exact hz))
        rw [bs_bit] at hb
        rw [psA_5 w him, if_neg]
        intro q; rw [q] at hb; simp [him] at hb
      | true =>
        refine sp_neg (by simp) (sp_pos (by simpa using hi) ((fin _ (fun him => ?_)).mono (by rintro (z | z) hz <;> exact hz)))
        rw [bs_bit, Bool.and_eq_true] at hb
        rw [psA_5 w him, if_pos hb.2, (a5 i him).2]
    · rintro ⟨x, h2⟩ ⟨rfl, f2, c2, d2⟩
      unfold n_pass_12
      simp (disch := omega) only [kc_im8, kc_im1, kc_i0, kc_i1, kc_i2, kc_i3, kc_i4, kc_i5, kc_b_m100, kc_b_m16, kc_b_m15, kc_b_m14, kc_b_m13, kc_b_m12, kc_b_m11, kc_b_m2, kc_b_6, kc_b_7, kc_b_8, kc_b_9, kc_b_10, kc_b_11, kc_b_12, kc_b_13, kc_b_14, kc_b_15, kc_b_16, kc_b_20, kc_b_24, kc_b_32, kc_b_37, kc_b_40, kc_b_42, kc_b_43, kc_b_45, kc_b_47, kc_b_48, kc_b_57, kc_b_58, kc_b_59, kc_b_60, kc_b_61, kc_b_62, kc_b_63, kc_b_91, kc_b_93, kc_b_97, kc_b_99, kc_b_100, kc_b_106, kc_b_122, kc_s_206, kc_s_226, kc_s_227, kc_s_255, kc_s_256, kc_s_316, kc_s_318, kc_s_400, kc_s_512, kc_s_999, kc_s_1160, kc_s_1536, kc_s_3003, kc_lm11, kc_lm10, kc_lm9, kc_lm8, kc_lm7, kc_lm6, kc_lm5, kc_lm4, kc_lm3, kc_lm2, kc_lm1, kc_l1, kc_l2, kc_l3, kc_l4, kc_l5, kc_l6, kc_l7, kc_l8, kc_l9, kc_l10, kc_l11, kc_l12, kc_l13, kc_l14, kc_l37, kc_l42, kc_l43, kc_l45, kc_l47, kc_l60, kc_l61, kc_l62, kc_l316, kc_l318, kc_l65536, kc_l99999, kc_l1000000, kc_l252645135, kc_l858993459, kc_l1431655765, kc_0, kc_on, nx_lt, nx_le, nx_eq, nx_add, nx_sub, nx_mul, nx_cl, n_lt_ng, n_le_ng, n_eq_ng, ng_lt_n, ng_le_n, ng_eq_n, ng_eq, ng_lt, ng_le, nx_dec]
      exact sp_pos (by omega) (sp_some.mpr ⟨f2, fun m hm => c2 m hm (by omega)⟩)
  refine sp_call key ?_
  rintro h2 ⟨f2, c2⟩
  have e1' : an (psA A) 1 = an A 1 := psA_an (by omega) (by omega)
  refine sp_some.mpr ⟨f1.trans (f2.mono (fun x hx => .inr hx)), hc, ?_, ?_, ?_, ?_, ?_, fun m hm => ?_⟩
  · rw [f2.i _ (by omega), b0 0 (by omega), a0, e1']
    exact congrArg nI (bs_congr (fun m hm => (psA_aw hm).1.symm))
  · rw [f2.i _ (by omega), b0 1 (by omega), a1, e1']
    exact congrArg nI (bs_congr (fun m hm => (psA_aw hm).2.symm))
  · rw [f2.i _ (by omega), b2]; unfold psA; rw [if_pos rfl]
  · rw [f2.i _ (by omega), b0 3 (by omega), a3, psA_out (by omega) (by omega)]
  · rw [f2.i _ (by omega), b0 4 (by omega), a4, psA_out (by omega) (by omega)]
  · rw [e1'] at hm; exact c2 m hm
/-- the reference -/
theorem m_passes_sp (M : MI h A) : SP (m_passes 193 h) (fun h' => FrM (· = 203) (fun _ => False) h h' ∧ h'.2.1 203 = psA A) := by
  obtain ⟨R, hA, w⟩ := M
  have e1 := w.e1
  have key : SP (wh (fun z : (Int32 × pm_H) => m_passes_2 193 z.1 z.2) (nI 0, h)) (fun h' => FrM (· = 203) (fun _ => False) h h' ∧ h'.2.1 203 = psK A (an A 1)) := by
    refine wh_cnt (fun i z => z.1 = nI i ∧ FrM (· = 203) (fun _ => False) h z.2 ∧ z.2.2.1 203 = psK A i) _ (an A 1) ?_ ?_ 0 (nI 0, h) (by omega) ⟨rfl, FrM.refl _ _ _, ?_⟩
    · rintro i ⟨x, h1⟩ hi ⟨rfl, f1, c1⟩
      dsimp only at f1 c1
      have R1 := R.fm f1
      have m3 := w.m3 hi
      have old : ∀ j, 10 + 6 * i ≤ j ∨ j < 10 → h1.2.1 203 j = A j := by
        intro j hj
        rw [c1]
        unfold psK
        rw [if_neg (by omega)]
      unfold m_passes_2
      simp (disch := omega) only [kc_im8, kc_im1, kc_i0, kc_i1, kc_i2, kc_i3, kc_i4, kc_i5, kc_b_m100, kc_b_m16, kc_b_m15, kc_b_m14, kc_b_m13, kc_b_m12, kc_b_m11, kc_b_m2, kc_b_6, kc_b_7, kc_b_8, kc_b_9, kc_b_10, kc_b_11, kc_b_12, kc_b_13, kc_b_14, kc_b_15, kc_b_16, kc_b_20, kc_b_24, kc_b_32, kc_b_37, kc_b_40, kc_b_42, kc_b_43, kc_b_45, kc_b_47, kc_b_48, kc_b_57, kc_b_58, kc_b_59, kc_b_60, kc_b_61, kc_b_62, kc_b_63, kc_b_91, kc_b_93, kc_b_97, kc_b_99, kc_b_100, kc_b_106, kc_b_122, kc_s_206, kc_s_226, kc_s_227, kc_s_255, kc_s_256, kc_s_316, kc_s_318, kc_s_400, kc_s_512, kc_s_999, kc_s_1160, kc_s_1536, kc_s_3003, kc_lm11, kc_lm10, kc_lm9, kc_lm8, kc_lm7, kc_lm6, kc_lm5, kc_lm4, kc_lm3, kc_lm2, kc_lm1, kc_l1, kc_l2, kc_l3, kc_l4, kc_l5, kc_l6, kc_l7, kc_l8, kc_l9, kc_l10, kc_l11, kc_l12, kc_l13, kc_l14, kc_l37, kc_l42, kc_l43, kc_l45, kc_l47, kc_l60, kc_l61, kc_l62, kc_l316, kc_l318, kc_l65536, kc_l99999, kc_l1000000, kc_l252645135, kc_l858993459, kc_l1431655765, kc_0, kc_on, ra_193_20 R1, Option.bind_some, mn_203, gi_n, nx_lt, nx_le, nx_eq, nx_add, nx_sub, nx_mul, nx_cl, n_lt_ng, n_le_ng, n_eq_ng, ng_lt_n, ng_le_n, ng_eq_n, ng_eq, ng_lt, ng_le, nx_dec, old 1 (by omega), e1.1, old (10 + 6 * i + 3) (by omega), m3.1]
      refine sp_pos (by simp) (sp_neg (by omega) (sp_pos (by simp; omega) ?_))
      have fin : ∀ h2, FrM (· = 203) (fun _ => False) h h2 → (∀ j, h2.2.1 203 j = if j = 10 + 6 * i + 3 then nI (an A (10 + 6 * i + 3) - 1) else h1.2.1 203 j) → SP (m_passes_43 193 (nI i) (nI (10 + 6 * i)) h2) (fun q => match q with
          | .inl s' => s'.1 = nI (i + 1) ∧ FrM (· = 203) (fun _ => False) h s'.2 ∧ s'.2.2.1 203 = psK A (i + 1)
          | .inr r => FrM (· = 203) (fun _ => False) h r ∧ r.2.1 203 = psK A (an A 1)) := by
        intro h2 f2 c2
        have R2 := R.fm f2
        have v2 : h2.2.1 203 (10 + 6 * i + 2) = A (10 + 6 * i + 2) := by rw [c2, if_neg (by omega), old _ (by omega)]
        have v5 : h2.2.1 203 (10 + 6 * i + 5) = A (10 + 6 * i + 5) := by rw [c2, if_neg (by omega), old _ (by omega)]
        have last : ∀ u, u = (if A (10 + 6 * i + 2) = nI 1 then A (10 + 6 * i + 5) + nI 1 else nI 0) → SP (m_passes_76 193 (nI i) u (nI (10 + 6 * i + 5)) 203 h2) (fun q => match q with
            | .inl s' => s'.1 = nI (i + 1) ∧ FrM (· = 203) (fun _ => False) h s'.2 ∧ s'.2.2.1 203 = psK A (i + 1)
            | .inr r => FrM (· = 203) (fun _ => False) h r ∧ r.2.1 203 = psK A (an A 1)) := by
          intro u hu
          unfold m_passes_76
          simp (disch := omega) only [kc_im8, kc_im1, kc_i0, kc_i1, kc_i2, kc_i3, kc_i4, kc_i5, kc_b_m100, kc_b_m16, kc_b_m15, kc_b_m14, kc_b_m13, kc_b_m12, kc_b_m11, kc_b_m2, kc_b_6, kc_b_7, kc_b_8, kc_b_9, kc_b_10, kc_b_11, kc_b_12, kc_b_13, kc_b_14, kc_b_15, kc_b_16, kc_b_20, kc_b_24, kc_b_32, kc_b_37, kc_b_40, kc_b_42, kc_b_43, kc_b_45, kc_b_47, kc_b_48, kc_b_57, kc_b_58, kc_b_59, kc_b_60, kc_b_61, kc_b_62, kc_b_63, kc_b_91, kc_b_93, kc_b_97, kc_b_99, kc_b_100, kc_b_106, kc_b_122, kc_s_206, kc_s_226, kc_s_227, kc_s_255, kc_s_256, kc_s_316, kc_s_318, kc_s_400, kc_s_512, kc_s_999, kc_s_1160, kc_s_1536, kc_s_3003, kc_lm11, kc_lm10, kc_lm9, kc_lm8, kc_lm7, kc_lm6, kc_lm5, kc_lm4, kc_lm3, kc_lm2, kc_lm1, kc_l1, kc_l2, kc_l3, kc_l4, kc_l5, kc_l6, kc_l7, kc_l8, kc_l9, kc_l10, kc_l11, kc_l12, kc_l13, kc_l14, kc_l37, kc_l42, kc_l43, kc_l45, kc_l47, kc_l60, kc_l61, kc_l62, kc_l316, kc_l318, kc_l65536, kc_l99999, kc_l1000000, kc_l252645135, kc_l858993459, kc_l1431655765, kc_0, kc_on, mn_203, gi_n, nx_cl, nx_add]
          refine sp_pos (by simp; omega) ?_
          rw [sp_bd, sp_some]
          refine ⟨rfl, f2.setI (by omega) rfl, ?_⟩
          funext j
          show (pm_setI h2 203 (10 + 6 * i + 5) u).2.1 203 j = _
          rw [ri, if_pos rfl, c2, c1]
          unfold psK
          by_cases j5 : j = 10 + 6 * i + 5
          · subst j5
            have e : (10 + 6 * i + 5 - 10) % 6 = 5 := by omega
            rw [if_pos rfl, if_pos (by omega), e, if_neg (by omega), if_pos rfl, hu, show 10 + 6 * i + 5 - 3 = 10 + 6 * i + 2 from by omega]
          · rw [if_neg j5]
            by_cases j3 : j = 10 + 6 * i + 3
            · subst j3
              have e : (10 + 6 * i + 3 - 10) % 6 = 3 := by omega
              rw [if_pos rfl, if_pos (by omega), e, if_pos rfl, m3.1]
              simp (disch := omega) only [nx_le]
              by_cases q : an A (10 + 6 * i + 3) ≤ 0
              · rw [if_pos q, show an A (10 + 6 * i + 3) = 0 from by omega]
              · rw [if_neg q, nx_sub (by omega)]
            · rw [if_neg j3]
              by_cases jl : 10 ≤ j ∧ j < 10 + 6 * i
              · have jn : 10 ≤ j ∧ j < 10 + 6 * (i + 1) := by omega
                rw [if_pos jl, if_pos jn]
              · rw [if_neg jl]
                by_cases jn : 10 ≤ j ∧ j < 10 + 6 * (i + 1)
                · rw [if_pos jn, if_neg (by omega), if_neg (by omega)]
                · rw [if_neg jn]
        unfold m_passes_43
        simp (disch := omega) only [kc_im8, kc_im1, kc_i0, kc_i1, kc_i2, kc_i3, kc_i4, kc_i5, kc_b_m100, kc_b_m16, kc_b_m15, kc_b_m14, kc_b_m13, kc_b_m12, kc_b_m11, kc_b_m2, kc_b_6, kc_b_7, kc_b_8, kc_b_9, kc_b_10, kc_b_11, kc_b_12, kc_b_13, kc_b_14, kc_b_15, kc_b_16, kc_b_20, kc_b_24, kc_b_32, kc_b_37, kc_b_40, kc_b_42, kc_b_43, kc_b_45, kc_b_47, kc_b_48, kc_b_57, kc_b_58, kc_b_59, kc_b_60, kc_b_61, kc_b_62, kc_b_63, kc_b_91, kc_b_93, kc_b_97, kc_b_99, kc_b_100, kc_b_106, kc_b_122, kc_s_206, kc_s_226, kc_s_227, kc_s_255, kc_s_256, kc_s_316, kc_s_318, kc_s_400, kc_s_512, kc_s_999, kc_s_1160, kc_s_1536, kc_s_3003, kc_lm11, kc_lm10, kc_lm9, kc_lm8, kc_lm7, kc_lm6, kc_lm5, kc_lm4, kc_lm3, kc_lm2, kc_lm1, kc_l1, kc_l2, kc_l3, kc_l4, kc_l5, kc_l6, kc_l7, kc_l8, kc_l9, kc_l10, kc_l11, kc_l12, kc_l13, kc_l14, kc_l37, kc_l42, kc_l43, kc_l45, kc_l47, kc_l60, kc_l61, kc_l62, kc_l316, kc_l318, kc_l65536, kc_l99999, kc_l1000000, kc_l252645135, kc_l858993459, kc_l1431655765, kc_0, kc_on, ra_193_20 R2, Option.bind_some, mn_203, gi_n, nx_lt, nx_le, nx_eq, nx_add, nx_sub, nx_mul, nx_cl, n_lt_ng, n_le_ng, n_eq_ng, ng_lt_n, ng_le_n, ng_eq_n, ng_eq, ng_lt, ng_le, nx_dec, v2, v5]
        refine sp_pos (by simp; omega) ?_
        by_cases q : A (10 + 6 * i + 2) = nI 1
        · refine sp_neg (by simp [q]) (sp_pos (by simp; omega) (last _ (by rw [if_pos q])))
        · exact sp_pos q (last _ (by rw [if_neg q]))
      by_cases q : an A (10 + 6 * i + 3) ≤ 0
      · refine sp_pos q ((fin h1 f1 (fun j => ?_)).mono ?_)
        · by_cases e : j = 10 + 6 * i + 3
          · subst e; rw [if_pos rfl, old _ (by omega), m3.1, show an A (10 + 6 * i + 3) = 0 from by omega]
          · rw [if_neg e]
        · rintro (z | z) hz <;> exact hz
      · refine sp_neg q (sp_pos (by simp; omega) (sp_pos (by simp; omega) ?_))
        rw [sp_bd]
        refine (fin _ (f1.setI (by omega) rfl) (fun j => ?_)).mono ?_
        · rw [ri, if_pos rfl]
        · rintro (z | z) hz <;> exact hz
    · rintro ⟨x, h1⟩ ⟨rfl, f1, c1⟩
      dsimp only at f1 c1
      have o1 : h1.2.1 203 1 = A 1 := by rw [c1]; unfold psK; rw [if_neg (by omega)]
      unfold m_passes_2
      simp (disch := omega) only [kc_im8, kc_im1, kc_i0, kc_i1, kc_i2, kc_i3, kc_i4, kc_i5, kc_b_m100, kc_b_m16, kc_b_m15, kc_b_m14, kc_b_m13, kc_b_m12, kc_b_m11, kc_b_m2, kc_b_6, kc_b_7, kc_b_8, kc_b_9, kc_b_10, kc_b_11, kc_b_12, kc_b_13, kc_b_14, kc_b_15, kc_b_16, kc_b_20, kc_b_24, kc_b_32, kc_b_37, kc_b_40, kc_b_42, kc_b_43, kc_b_45, kc_b_47, kc_b_48, kc_b_57, kc_b_58, kc_b_59, kc_b_60, kc_b_61, kc_b_62, kc_b_63, kc_b_91, kc_b_93, kc_b_97, kc_b_99, kc_b_100, kc_b_106, kc_b_122, kc_s_206, kc_s_226, kc_s_227, kc_s_255, kc_s_256, kc_s_316, kc_s_318, kc_s_400, kc_s_512, kc_s_999, kc_s_1160, kc_s_1536, kc_s_3003, kc_lm11, kc_lm10, kc_lm9, kc_lm8, kc_lm7, kc_lm6, kc_lm5, kc_lm4, kc_lm3, kc_lm2, kc_lm1, kc_l1, kc_l2, kc_l3, kc_l4, kc_l5, kc_l6, kc_l7, kc_l8, kc_l9, kc_l10, kc_l11, kc_l12, kc_l13, kc_l14, kc_l37, kc_l42, kc_l43, kc_l45, kc_l47, kc_l60, kc_l61, kc_l62, kc_l316, kc_l318, kc_l65536, kc_l99999, kc_l1000000, kc_l252645135, kc_l858993459, kc_l1431655765, kc_0, kc_on, ra_193_20 (R.fm f1), Option.bind_some, mn_203, gi_n, nx_lt, nx_le, nx_eq, nx_add, nx_sub, nx_mul, nx_cl, n_lt_ng, n_le_ng, n_eq_ng, ng_lt_n, ng_le_n, ng_eq_n, ng_eq, ng_lt, ng_le, nx_dec, o1, e1.1]
      exact sp_pos (by simp) (sp_pos (by omega) (sp_some.mpr ⟨f1, c1⟩))
    · show h.2.1 203 = psK A 0
      rw [hA]
      funext j
      unfold psK
      rw [if_neg (by omega)]
  unfold m_passes
  refine sp_call key ?_
  rintro h1 ⟨f1, c1⟩
  simp (disch := omega) only [kc_im8, kc_im1, kc_i0, kc_i1, kc_i2, kc_i3, kc_i4, kc_i5, kc_b_m100, kc_b_m16, kc_b_m15, kc_b_m14, kc_b_m13, kc_b_m12, kc_b_m11, kc_b_m2, kc_b_6, kc_b_7, kc_b_8, kc_b_9, kc_b_10, kc_b_11, kc_b_12, kc_b_13, kc_b_14, kc_b_15, kc_b_16, kc_b_20, kc_b_24, kc_b_32, kc_b_37, kc_b_40, kc_b_42, kc_b_43, kc_b_45, kc_b_47, kc_b_48, kc_b_57, kc_b_58, kc_b_59, kc_b_60, kc_b_61, kc_b_62, kc_b_63, kc_b_91, kc_b_93, kc_b_97, kc_b_99, kc_b_100, kc_b_106, kc_b_122, kc_s_206, kc_s_226, kc_s_227, kc_s_255, kc_s_256, kc_s_316, kc_s_318, kc_s_400, kc_s_512, kc_s_999, kc_s_1160, kc_s_1536, kc_s_3003, kc_lm11, kc_lm10, kc_lm9, kc_lm8, kc_lm7, kc_lm6, kc_lm5, kc_lm4, kc_lm3, kc_lm2, kc_lm1, kc_l1, kc_l2, kc_l3, kc_l4, kc_l5, kc_l6, kc_l7, kc_l8, kc_l9, kc_l10, kc_l11, kc_l12, kc_l13, kc_l14, kc_l37, kc_l42, kc_l43, kc_l45, kc_l47, kc_l60, kc_l61, kc_l62, kc_l316, kc_l318, kc_l65536, kc_l99999, kc_l1000000, kc_l252645135, kc_l858993459, kc_l1431655765, kc_0, kc_on, ra_193_20 (R.fm f1), Option.bind_some, mn_203, gi_n, nx_cl]
  refine sp_pos (by simp) (sp_pos (by simp) ?_)
  rw [sp_bd, sp_some]
  refine ⟨f1.setI (by omega) rfl, ?_⟩
  funext j
  rw [ri, if_pos rfl, c1]
  unfold psA
  by_cases e : j = 4
  · subst e
    rw [if_pos rfl, if_pos rfl]
    unfold psK
    rw [if_neg (by omega)]
  · rw [if_neg e, if_neg e]
end CP
