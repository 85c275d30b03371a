/-! The past: the program's ring, the reference's row. -/
def CP (h : pm_H) (n : Nat) (P : Nat → Nat → Int32) : Prop := n ≤ 20 ∧ h.2.1 6 2 = nI n ∧ ∃ l, l < 20 ∧ h.2.1 6 1 = nI l ∧ ∀ i, i < n → CHd h (8 + 3 * ((l + 20 - i) % 20)) (P i) ∧ an (P i) 1 ≤ 8
def MP (h : pm_H) (n : Nat) (P : Nat → Nat → Int32) : Prop := n ≤ 20 ∧ h.2.1 193 28 = nI n ∧ ∀ i, i < n → ∀ k, k < 58 → h.2.1 208 (58 * (n - 1 - i) + k) = P i k
def push (A : Nat → Int32) (P : Nat → Nat → Int32) : Nat → Nat → Int32 := fun i => if i = 0 then A else P (i - 1)
def PF (c : Nat) : Prop := c = 6 ∨ (8 ≤ c ∧ c ≤ 67)
def mix (P A : Nat → Int32) : Nat → Int32 := fun j => if j < 58 then P j else A j
theorem n20_min {n : Nat} (hn : n ≤ 20) : (if nI 20 < nI (n + 1) then nI 20 else nI (n + 1)) = nI (min (n + 1) 20) := by
  simp (disch := omega) only [nx_lt]
  by_cases q : 20 < n + 1
  · rw [if_pos q, Nat.min_eq_right (by omega)]
  · rw [if_neg q, Nat.min_eq_left (by omega)]
theorem r_ring {l : Nat} (hl : l < 20) : mi_o (8 + 3 * l) 3 = true := ro_ring hl
theorem o_169 : mi_o 169 3 = true := by decide +kernel
section PS
variable {h : pm_H} {A : Nat → Int32} {n : Nat} {P : Nat → Nat → Int32}
theorem p_keep_sp (w : WFA A) (R : RF h) (H : CHd h 169 A) (C : CP h n P) : SP (p_keep 6 169 h) (fun h' => Fr PF h h' ∧ CP h' (min (n + 1) 20) (push A P)) := by
  have e1 := w.e1
  obtain ⟨hn, g2, l, hl, g1, c⟩ := C
  unfold p_keep
  simp (disch := omega) only [kc_im8, kc_im1, kc_i0, kc_i1, kc_i2, kc_i3, kc_i4, kc_i5, kc_b_m100, kc_b_m16, kc_b_m15, kc_b_m14, kc_b_m13, kc_b_m12, kc_b_m11, kc_b_m2, kc_b_6, kc_b_7, kc_b_8, kc_b_9, kc_b_10, kc_b_11, kc_b_12, kc_b_13, kc_b_14, kc_b_15, kc_b_16, kc_b_20, kc_b_24, kc_b_32, kc_b_37, kc_b_40, kc_b_42, kc_b_43, kc_b_45, kc_b_47, kc_b_48, kc_b_57, kc_b_58, kc_b_59, kc_b_60, kc_b_61, kc_b_62, kc_b_63, kc_b_91, kc_b_93, kc_b_97, kc_b_99, kc_b_100, kc_b_106, kc_b_122, kc_s_206, kc_s_226, kc_s_227, kc_s_255, kc_s_256, kc_s_316, kc_s_318, kc_s_400, kc_s_512, kc_s_999, kc_s_1160, kc_s_1536, kc_s_3003, kc_lm11, kc_lm10, kc_lm9, kc_lm8, kc_lm7, kc_lm6, kc_lm5, kc_lm4, kc_lm3, kc_lm2, kc_lm1, kc_l1, kc_l2, kc_l3, kc_l4, kc_l5, kc_l6, kc_l7, kc_l8, kc_l9, kc_l10, kc_l11, kc_l12, kc_l13, kc_l14, kc_l37, kc_l42, kc_l43, kc_l45, kc_l47, kc_l60, kc_l61, kc_l62, kc_l316, kc_l318, kc_l65536, kc_l99999, kc_l1000000, kc_l252645135, kc_l858993459, kc_l1431655765, kc_0, kc_on, g1, nx_add, nx_rem, sp_bd]
  generalize hl' : (l + 1) % 20 = l'
  have hl'2 : l' < 20 := by omega
  generalize hh1 : pm_setI h 6 1 (nI l') = h1
  have f1 : Fr PF h h1 := by rw [← hh1]; exact (Fr.refl PF h).setI (.inl rfl)
  have k1 : h1.2.1 6 1 = nI l' := by rw [← hh1, ri_s]
  have k2 : h1.2.1 6 2 = nI n := by rw [← hh1, ri_j _ (by omega)]; exact g2
  have ko : ∀ c, c ≠ 6 → h1.2.1 c = h.2.1 c := by intro c hc; rw [← hh1]; funext j; exact ri_c _ hc
  clear hh1
  have R1 := R.fr f1
  rw [ra_6_0 R1, Option.bind_some, mn_7, k1, gi_n (by omega), nx_cl (by omega)]
  refine sp_pos (by simpa using hl'2) ?_
  rw [rg_ring R1 hl'2, Option.bind_some]
  refine sp_call (n_copy_sp R1 o_169 (r_ring hl'2) (by omega)) ?_
  rintro h2 ⟨f2, a5, as, at'⟩
  have k22 : h2.2.1 6 2 = nI n := by rw [f2.i _ (by unfold HC; omega)]; exact k2
  have k21 : h2.2.1 6 1 = nI l' := by rw [f2.i _ (by unfold HC; omega)]; exact k1
  simp (disch := omega) only [k22, nx_add, n20_min hn]
  rw [sp_bd, sp_some]
  have f12 : Fr PF h h2 := f1.trans (f2.mono (fun c hc => by unfold HC at hc; unfold PF; omega))
  refine ⟨f12.setI (.inl rfl), by omega, ri_s _, l', hl'2, ?_, fun i hi => ?_⟩
  · rw [ri_j _ (by omega)]; exact k21
  · have go : ∀ c B, 8 ≤ c → CHd h2 c B → CHd (pm_setI h2 6 2 (nI (min (n + 1) 20))) c B := fun c B hc q => q.of (by funext j; exact ri_c _ (by omega)) (by funext j; exact ri_c _ (by omega)) (by funext j; exact ri_c _ (by omega))
    by_cases i0 : i = 0
    · subst i0
      have e : (l' + 20 - 0) % 20 = l' := by omega
      rw [e]
      refine ⟨go _ _ (by omega) ?_, by unfold push; rw [if_pos rfl]; omega⟩
      unfold push
      rw [if_pos rfl]
      have H1 : CHd h1 169 A := H.of (ko 169 (by omega)) (ko 170 (by omega)) (ko 171 (by omega))
      exact H1.cp (by omega) (r_ring hl'2) a5 as at'
    · have e : (l' + 20 - i) % 20 = (l + 20 - (i - 1)) % 20 := by omega
      have hne : (l + 20 - (i - 1)) % 20 ≠ l' := by omega
      have hlt : (l + 20 - (i - 1)) % 20 < 20 := by omega
      rw [e]
      have ci := c (i - 1) (by omega)
      generalize (l + 20 - (i - 1)) % 20 = q at *
      unfold push
      rw [if_neg i0]
      refine ⟨go _ _ (by omega) ?_, ci.2⟩
      exact (ci.1.of (ko _ (by omega)) (ko _ (by omega)) (ko _ (by omega)) : CHd h1 _ _).of (f2.2.2 _ (by unfold HC; omega)).1 (f2.2.2 _ (by unfold HC; omega)).1 (f2.2.2 _ (by unfold HC; omega)).1
theorem p_restore_sp (R : RF h) (C : CP h n P) : SP (p_restore 6 169 h) (fun z => (n = 0 ∧ z = (nI 0, h)) ∨ (0 < n ∧ z.1 = nI 1 ∧ Fr (fun c => c = 6 ∨ HC 169 c) h z.2 ∧ CP z.2 (n - 1) (fun i => P (i + 1)) ∧ CHd z.2 169 (P 0))) := by
  obtain ⟨hn, g2, l, hl, g1, c⟩ := C
  unfold p_restore
  simp (disch := omega) only [kc_im8, kc_im1, kc_i0, kc_i1, kc_i2, kc_i3, kc_i4, kc_i5, kc_b_m100, kc_b_m16, kc_b_m15, kc_b_m14, kc_b_m13, kc_b_m12, kc_b_m11, kc_b_m2, kc_b_6, kc_b_7, kc_b_8, kc_b_9, kc_b_10, kc_b_11, kc_b_12, kc_b_13, kc_b_14, kc_b_15, kc_b_16, kc_b_20, kc_b_24, kc_b_32, kc_b_37, kc_b_40, kc_b_42, kc_b_43, kc_b_45, kc_b_47, kc_b_48, kc_b_57, kc_b_58, kc_b_59, kc_b_60, kc_b_61, kc_b_62, kc_b_63, kc_b_91, kc_b_93, kc_b_97, kc_b_99, kc_b_100, kc_b_106, kc_b_122, kc_s_206, kc_s_226, kc_s_227, kc_s_255, kc_s_256, kc_s_316, kc_s_318, kc_s_400, kc_s_512, kc_s_999, kc_s_1160, kc_s_1536, kc_s_3003, kc_lm11, kc_lm10, kc_lm9, kc_lm8, kc_lm7, kc_lm6, kc_lm5, kc_lm4, kc_lm3, kc_lm2, kc_lm1, kc_l1, kc_l2, kc_l3, kc_l4, kc_l5, kc_l6, kc_l7, kc_l8, kc_l9, kc_l10, kc_l11, kc_l12, kc_l13, kc_l14, kc_l37, kc_l42, kc_l43, kc_l45, kc_l47, kc_l60, kc_l61, kc_l62, kc_l316, kc_l318, kc_l65536, kc_l99999, kc_l1000000, kc_l252645135, kc_l858993459, kc_l1431655765, kc_0, kc_on, g2, g1, nx_le, gi_n, nx_cl]
  by_cases n0 : n = 0
  · refine sp_neg (by omega) (sp_some.mpr (.inl ⟨n0, rfl⟩))
  · refine sp_pos (by omega) ?_
    rw [ra_6_0 R, Option.bind_some, mn_7]
    refine sp_pos (by simpa using hl) ?_
    rw [rg_ring R hl, Option.bind_some]
    refine sp_call (n_copy_sp R (r_ring hl) o_169 (by omega)) ?_
    rintro h2 ⟨f2, a5, as, at'⟩
    have k1 : h2.2.1 6 1 = nI l := by rw [f2.i _ (by unfold HC; omega)]; exact g1
    have k2 : h2.2.1 6 2 = nI n := by rw [f2.i _ (by unfold HC; omega)]; exact g2
    simp (disch := omega) only [sp_bd, k1, nx_add, nx_sub, nx_rem, ri_j, k2]
    rw [sp_some]
    have f3 : Fr (fun c => c = 6 ∨ HC 169 c) h (pm_setI (pm_setI h2 6 1 (nI ((l + 20 - 1) % 20))) 6 2 (nI (n - 1))) := ((f2.mono (fun c hc => .inr hc)).setI (.inl rfl)).setI (.inl rfl)
    have c0 := c 0 (by omega)
    rw [show (l + 20 - 0) % 20 = l from by omega] at c0
    have go : ∀ c B, 7 ≤ c → CHd h2 c B → CHd (pm_setI (pm_setI h2 6 1 (nI ((l + 20 - 1) % 20))) 6 2 (nI (n - 1))) c B := fun c B hc q => q.of (by funext j; rw [ri_c _ (by omega), ri_c _ (by omega)]) (by funext j; rw [ri_c _ (by omega), ri_c _ (by omega)]) (by funext j; rw [ri_c _ (by omega), ri_c _ (by omega)])
    refine .inr ⟨by omega, rfl, f3, ⟨by omega, ri_s _, (l + 20 - 1) % 20, by omega, ?_, fun i hi => ?_⟩, go _ _ (by omega) (c0.1.cp c0.2 o_169 a5 as at')⟩
    · rw [ri_j _ (by omega), ri_s]
    · have ci := c (i + 1) (by omega)
      rw [show ((l + 20 - 1) % 20 + 20 - i) % 20 = (l + 20 - (i + 1)) % 20 from by omega]
      have hlt : (l + 20 - (i + 1)) % 20 < 20 := by omega
      generalize (l + 20 - (i + 1)) % 20 = q at *
      exact ⟨go _ _ (by omega) (ci.1.of (f2.2.2 _ (by unfold HC; omega)).1 (f2.2.2 _ (by unfold HC; omega)).1 (f2.2.2 _ (by unfold HC; omega)).1), ci.2⟩
theorem m_keep50 (M : MI h A) (C : MP h n P) (hn : n < 20) : SP (m_keepsAct_50 193 h) (fun h' => FrM (· = 208) (· = 28) h h' ∧ MP h' (n + 1) (push A P)) := by
  obtain ⟨R, hA, w⟩ := M
  obtain ⟨_, g28, c⟩ := C
  have key : SP (wh (fun z : (Int32 × pm_H) => m_keepsAct_52 193 z.1 z.2) (nI 0, h)) (fun h' => FrM (· = 208) (fun _ => False) h h' ∧ (∀ k, k < 58 → h'.2.1 208 (58 * n + k) = A k) ∧ ∀ j, j < 58 * n → h'.2.1 208 j = h.2.1 208 j) := by
    refine wh_cnt (fun i z => z.1 = nI i ∧ FrM (· = 208) (fun _ => False) h z.2 ∧ (∀ k, k < i → z.2.2.1 208 (58 * n + k) = A k) ∧ ∀ j, j < 58 * n → z.2.2.1 208 j = h.2.1 208 j) _ 58 ?_ ?_ 0 (nI 0, h) (by omega) ⟨rfl, FrM.refl _ _ _, fun k hk => by omega, fun _ _ => rfl⟩
    · rintro i ⟨x, h1⟩ hi ⟨rfl, f1, c1, d1⟩
      dsimp only at f1 c1 d1
      have R1 := R.fm f1
      have k28 : h1.2.1 193 28 = nI n := by rw [f1.f (fun q => q)]; exact g28
      have hA1 : h1.2.1 203 = A := by rw [f1.i (by omega) (by omega)]; exact hA
      unfold m_keepsAct_52
      simp (disch := omega) only [kc_im8, kc_im1, kc_i0, kc_i1, kc_i2, kc_i3, kc_i4, kc_i5, kc_b_m100, kc_b_m16, kc_b_m15, kc_b_m14, kc_b_m13, kc_b_m12, kc_b_m11, kc_b_m2, kc_b_6, kc_b_7, kc_b_8, kc_b_9, kc_b_10, kc_b_11, kc_b_12, kc_b_13, kc_b_14, kc_b_15, kc_b_16, kc_b_20, kc_b_24, kc_b_32, kc_b_37, kc_b_40, kc_b_42, kc_b_43, kc_b_45, kc_b_47, kc_b_48, kc_b_57, kc_b_58, kc_b_59, kc_b_60, kc_b_61, kc_b_62, kc_b_63, kc_b_91, kc_b_93, kc_b_97, kc_b_99, kc_b_100, kc_b_106, kc_b_122, kc_s_206, kc_s_226, kc_s_227, kc_s_255, kc_s_256, kc_s_316, kc_s_318, kc_s_400, kc_s_512, kc_s_999, kc_s_1160, kc_s_1536, kc_s_3003, kc_lm11, kc_lm10, kc_lm9, kc_lm8, kc_lm7, kc_lm6, kc_lm5, kc_lm4, kc_lm3, kc_lm2, kc_lm1, kc_l1, kc_l2, kc_l3, kc_l4, kc_l5, kc_l6, kc_l7, kc_l8, kc_l9, kc_l10, kc_l11, kc_l12, kc_l13, kc_l14, kc_l37, kc_l42, kc_l43, kc_l45, kc_l47, kc_l60, kc_l61, kc_l62, kc_l316, kc_l318, kc_l65536, kc_l99999, kc_l1000000, kc_l252645135, kc_l858993459, kc_l1431655765, kc_0, kc_on, nx_lt, nx_le, nx_eq, nx_add, nx_sub, nx_mul, nx_cl, n_lt_ng, n_le_ng, n_eq_ng, ng_lt_n, ng_le_n, ng_eq_n, ng_eq, ng_lt, ng_le, nx_dec, ra_193_27 R1, ra_193_20 R1, Option.bind_some, mn_203, mn_208, gi_n, k28, hA1]
      refine sp_neg (by omega) (sp_pos (by simp; omega) (sp_pos (by simp; omega) ?_))
      rw [sp_bd, sp_some]
      refine ⟨rfl, f1.setI (by omega) rfl, fun k hk => ?_, fun j hj => ?_⟩
      · show (pm_setI h1 208 (58 * n + i) (A i)).2.1 208 (58 * n + k) = A k
        by_cases e : k = i
        · subst e; exact ri_s _
        · rw [ri_j _ (by omega)]; exact c1 k (by omega)
      · show (pm_setI h1 208 (58 * n + i) (A i)).2.1 208 j = _
        rw [ri_j _ (by omega)]; exact d1 j hj
    · rintro ⟨x, h1⟩ ⟨rfl, f1, c1, d1⟩
      unfold m_keepsAct_52
      simp (disch := omega) only [kc_im8, kc_im1, kc_i0, kc_i1, kc_i2, kc_i3, kc_i4, kc_i5, kc_b_m100, kc_b_m16, kc_b_m15, kc_b_m14, kc_b_m13, kc_b_m12, kc_b_m11, kc_b_m2, kc_b_6, kc_b_7, kc_b_8, kc_b_9, kc_b_10, kc_b_11, kc_b_12, kc_b_13, kc_b_14, kc_b_15, kc_b_16, kc_b_20, kc_b_24, kc_b_32, kc_b_37, kc_b_40, kc_b_42, kc_b_43, kc_b_45, kc_b_47, kc_b_48, kc_b_57, kc_b_58, kc_b_59, kc_b_60, kc_b_61, kc_b_62, kc_b_63, kc_b_91, kc_b_93, kc_b_97, kc_b_99, kc_b_100, kc_b_106, kc_b_122, kc_s_206, kc_s_226, kc_s_227, kc_s_255, kc_s_256, kc_s_316, kc_s_318, kc_s_400, kc_s_512, kc_s_999, kc_s_1160, kc_s_1536, kc_s_3003, kc_lm11, kc_lm10, kc_lm9, kc_lm8, kc_lm7, kc_lm6, kc_lm5, kc_lm4, kc_lm3, kc_lm2, kc_lm1, kc_l1, kc_l2, kc_l3, kc_l4, kc_l5, kc_l6, kc_l7, kc_l8, kc_l9, kc_l10, kc_l11, kc_l12, kc_l13, kc_l14, kc_l37, kc_l42, kc_l43, kc_l45, kc_l47, kc_l60, kc_l61, kc_l62, kc_l316, kc_l318, kc_l65536, kc_l99999, kc_l1000000, kc_l252645135, kc_l858993459, kc_l1431655765, kc_0, kc_on, nx_lt, nx_le, nx_eq, nx_add, nx_sub, nx_mul, nx_cl, n_lt_ng, n_le_ng, n_eq_ng, ng_lt_n, ng_le_n, ng_eq_n, ng_eq, ng_lt, ng_le, nx_dec]
      exact sp_pos (by omega) (sp_some.mpr ⟨f1, c1, d1⟩)
  unfold m_keepsAct_50
  refine sp_call key ?_
  rintro h1 ⟨f1, c1, d1⟩
  have k28 : h1.2.1 193 28 = nI n := by rw [f1.f (fun q => q)]; exact g28
  simp (disch := omega) only [kc_im8, kc_im1, kc_i0, kc_i1, kc_i2, kc_i3, kc_i4, kc_i5, kc_b_m100, kc_b_m16, kc_b_m15, kc_b_m14, kc_b_m13, kc_b_m12, kc_b_m11, kc_b_m2, kc_b_6, kc_b_7, kc_b_8, kc_b_9, kc_b_10, kc_b_11, kc_b_12, kc_b_13, kc_b_14, kc_b_15, kc_b_16, kc_b_20, kc_b_24, kc_b_32, kc_b_37, kc_b_40, kc_b_42, kc_b_43, kc_b_45, kc_b_47, kc_b_48, kc_b_57, kc_b_58, kc_b_59, kc_b_60, kc_b_61, kc_b_62, kc_b_63, kc_b_91, kc_b_93, kc_b_97, kc_b_99, kc_b_100, kc_b_106, kc_b_122, kc_s_206, kc_s_226, kc_s_227, kc_s_255, kc_s_256, kc_s_316, kc_s_318, kc_s_400, kc_s_512, kc_s_999, kc_s_1160, kc_s_1536, kc_s_3003, kc_lm11, kc_lm10, kc_lm9, kc_lm8, kc_lm7, kc_lm6, kc_lm5, kc_lm4, kc_lm3, kc_lm2, kc_lm1, kc_l1, kc_l2, kc_l3, kc_l4, kc_l5, kc_l6, kc_l7, kc_l8, kc_l9, kc_l10, kc_l11, kc_l12, kc_l13, kc_l14, kc_l37, kc_l42, kc_l43, kc_l45, kc_l47, kc_l60, kc_l61, kc_l62, kc_l316, kc_l318, kc_l65536, kc_l99999, kc_l1000000, kc_l252645135, kc_l858993459, kc_l1431655765, kc_0, kc_on, sp_bd, k28, nx_add]
  rw [sp_some]
  refine ⟨(f1.mono (fun _ q => q) (fun _ q => q.elim)).setF rfl, by omega, ri_s _, fun i hi k hk => ?_⟩
  rw [ri_c _ (by omega)]
  unfold push
  by_cases i0 : i = 0
  · subst i0
    rw [if_pos rfl, show 58 * (n + 1 - 1 - 0) + k = 58 * n + k from by omega]
    exact c1 k hk
  · rw [if_neg i0, d1 _ (by have : n + 1 - 1 - i + 1 ≤ n := by omega
                            have : 58 * (n + 1 - 1 - i + 1) ≤ 58 * n := Nat.mul_le_mul_left _ this
                            omega), show n + 1 - 1 - i = n - 1 - (i - 1) from by omega]
    exact c (i - 1) (by omega) k hk
theorem m_keepsAct_sp (M : MI h A) (C : MP h n P) : SP (m_keepsAct 193 h) (fun h' => FrM (· = 208) (· = 28) h h' ∧ MP h' (min (n + 1) 20) (push A P)) := by
  have M' := M
  have C' := C
  obtain ⟨R, hA, w⟩ := M
  obtain ⟨hn, g28, c⟩ := C
  unfold m_keepsAct
  simp (disch := omega) only [kc_im8, kc_im1, kc_i0, kc_i1, kc_i2, kc_i3, kc_i4, kc_i5, kc_b_m100, kc_b_m16, kc_b_m15, kc_b_m14, kc_b_m13, kc_b_m12, kc_b_m11, kc_b_m2, kc_b_6, kc_b_7, kc_b_8, kc_b_9, kc_b_10, kc_b_11, kc_b_12, kc_b_13, kc_b_14, kc_b_15, kc_b_16, kc_b_20, kc_b_24, kc_b_32, kc_b_37, kc_b_40, kc_b_42, kc_b_43, kc_b_45, kc_b_47, kc_b_48, kc_b_57, kc_b_58, kc_b_59, kc_b_60, kc_b_61, kc_b_62, kc_b_63, kc_b_91, kc_b_93, kc_b_97, kc_b_99, kc_b_100, kc_b_106, kc_b_122, kc_s_206, kc_s_226, kc_s_227, kc_s_255, kc_s_256, kc_s_316, kc_s_318, kc_s_400, kc_s_512, kc_s_999, kc_s_1160, kc_s_1536, kc_s_3003, kc_lm11, kc_lm10, kc_lm9, kc_lm8, kc_lm7, kc_lm6, kc_lm5, kc_lm4, kc_lm3, kc_lm2, kc_lm1, kc_l1, kc_l2, kc_l3, kc_l4, kc_l5, kc_l6, kc_l7, kc_l8, kc_l9, kc_l10, kc_l11, kc_l12, kc_l13, kc_l14, kc_l37, kc_l42, kc_l43, kc_l45, kc_l47, kc_l60, kc_l61, kc_l62, kc_l316, kc_l318, kc_l65536, kc_l99999, kc_l1000000, kc_l252645135, kc_l858993459, kc_l1431655765, kc_0, kc_on, g28, nx_eq]
  by_cases q : n = 20
  · refine sp_neg (by omega) ?_
    have key : SP (wh (fun z : (Int32 × pm_H) => m_keepsAct_12 193 z.1 z.2) (nI 58, h)) (fun h' => FrM (· = 208) (fun _ => False) h h' ∧ ∀ j, j < 1102 → h'.2.1 208 j = h.2.1 208 (j + 58)) := by
      refine wh_cnt (fun i z => 58 ≤ i ∧ z.1 = nI i ∧ FrM (· = 208) (fun _ => False) h z.2 ∧ (∀ j, j + 58 < i → z.2.2.1 208 j = h.2.1 208 (j + 58)) ∧ ∀ j, i ≤ j + 58 → z.2.2.1 208 j = h.2.1 208 j) _ 1160 ?_ ?_ 58 (nI 58, h) (by omega) ⟨by omega, rfl, FrM.refl _ _ _, fun j hj => by omega, fun _ _ => rfl⟩
      · rintro i ⟨x, h1⟩ hi ⟨hi58, rfl, f1, c1, d1⟩
        dsimp only at f1 c1 d1
        have R1 := R.fm f1
        unfold m_keepsAct_12
        simp (disch := omega) only [kc_im8, kc_im1, kc_i0, kc_i1, kc_i2, kc_i3, kc_i4, kc_i5, kc_b_m100, kc_b_m16, kc_b_m15, kc_b_m14, kc_b_m13, kc_b_m12, kc_b_m11, kc_b_m2, kc_b_6, kc_b_7, kc_b_8, kc_b_9, kc_b_10, kc_b_11, kc_b_12, kc_b_13, kc_b_14, kc_b_15, kc_b_16, kc_b_20, kc_b_24, kc_b_32, kc_b_37, kc_b_40, kc_b_42, kc_b_43, kc_b_45, kc_b_47, kc_b_48, kc_b_57, kc_b_58, kc_b_59, kc_b_60, kc_b_61, kc_b_62, kc_b_63, kc_b_91, kc_b_93, kc_b_97, kc_b_99, kc_b_100, kc_b_106, kc_b_122, kc_s_206, kc_s_226, kc_s_227, kc_s_255, kc_s_256, kc_s_316, kc_s_318, kc_s_400, kc_s_512, kc_s_999, kc_s_1160, kc_s_1536, kc_s_3003, kc_lm11, kc_lm10, kc_lm9, kc_lm8, kc_lm7, kc_lm6, kc_lm5, kc_lm4, kc_lm3, kc_lm2, kc_lm1, kc_l1, kc_l2, kc_l3, kc_l4, kc_l5, kc_l6, kc_l7, kc_l8, kc_l9, kc_l10, kc_l11, kc_l12, kc_l13, kc_l14, kc_l37, kc_l42, kc_l43, kc_l45, kc_l47, kc_l60, kc_l61, kc_l62, kc_l316, kc_l318, kc_l65536, kc_l99999, kc_l1000000, kc_l252645135, kc_l858993459, kc_l1431655765, kc_0, kc_on, nx_lt, nx_le, nx_eq, nx_add, nx_sub, nx_mul, nx_cl, n_lt_ng, n_le_ng, n_eq_ng, ng_lt_n, ng_le_n, ng_eq_n, ng_eq, ng_lt, ng_le, nx_dec, ra_193_27 R1, Option.bind_some, mn_208, gi_n]
        refine sp_neg (by omega) (sp_pos (by simp; omega) (sp_pos (by simp; omega) ?_))
        rw [sp_bd, sp_some, d1 i (by omega)]
        refine ⟨by omega, rfl, f1.setI (by omega) rfl, fun j hj => ?_, fun j hj => ?_⟩
        · show (pm_setI h1 208 (i - 58) _).2.1 208 j = _
          by_cases e : j = i - 58
          · subst e; rw [ri_s, show i - 58 + 58 = i from by omega]
          · rw [ri_j _ e]; exact c1 j (by omega)
        · show (pm_setI h1 208 (i - 58) _).2.1 208 j = _
          rw [ri_j _ (by omega)]; exact d1 j (by omega)
      · rintro ⟨x, h1⟩ ⟨_, rfl, f1, c1, d1⟩
        unfold m_keepsAct_12
        simp (disch := omega) only [kc_im8, kc_im1, kc_i0, kc_i1, kc_i2, kc_i3, kc_i4, kc_i5, kc_b_m100, kc_b_m16, kc_b_m15, kc_b_m14, kc_b_m13, kc_b_m12, kc_b_m11, kc_b_m2, kc_b_6, kc_b_7, kc_b_8, kc_b_9, kc_b_10, kc_b_11, kc_b_12, kc_b_13, kc_b_14, kc_b_15, kc_b_16, kc_b_20, kc_b_24, kc_b_32, kc_b_37, kc_b_40, kc_b_42, kc_b_43, kc_b_45, kc_b_47, kc_b_48, kc_b_57, kc_b_58, kc_b_59, kc_b_60, kc_b_61, kc_b_62, kc_b_63, kc_b_91, kc_b_93, kc_b_97, kc_b_99, kc_b_100, kc_b_106, kc_b_122, kc_s_206, kc_s_226, kc_s_227, kc_s_255, kc_s_256, kc_s_316, kc_s_318, kc_s_400, kc_s_512, kc_s_999, kc_s_1160, kc_s_1536, kc_s_3003, kc_lm11, kc_lm10, kc_lm9, kc_lm8, kc_lm7, kc_lm6, kc_lm5, kc_lm4, kc_lm3, kc_lm2, kc_lm1, kc_l1, kc_l2, kc_l3, kc_l4, kc_l5, kc_l6, kc_l7, kc_l8, kc_l9, kc_l10, kc_l11, kc_l12, kc_l13, kc_l14, kc_l37, kc_l42, kc_l43, kc_l45, kc_l47, kc_l60, kc_l61, kc_l62, kc_l316, kc_l318, kc_l65536, kc_l99999, kc_l1000000, kc_l252645135, kc_l858993459, kc_l1431655765, kc_0, kc_on, nx_lt, nx_le, nx_eq, nx_add, nx_sub, nx_mul, nx_cl, n_lt_ng, n_le_ng, n_eq_ng, ng_lt_n, ng_le_n, ng_eq_n, ng_eq, ng_lt, ng_le, nx_dec]
        exact sp_pos (by omega) (sp_some.mpr ⟨f1, fun j hj => c1 j (by omega)⟩)
    refine sp_call key ?_
    rintro h1 ⟨f1, c1⟩
    have k28 : h1.2.1 193 28 = nI n := by rw [f1.f (fun q => q)]; exact g28
    rw [sp_bd, k28, nx_sub (by omega)]
    have f2 : FrM (· = 208) (· = 28) h (pm_setI h1 193 28 (nI (n - 1))) := (f1.mono (fun _ q => q) (fun _ q => q.elim)).setF rfl
    have M2 : MI (pm_setI h1 193 28 (nI (n - 1))) A := ⟨(R.fm f1).setI, by rw [f2.i (by omega) (by omega)]; exact hA, w⟩
    have C2 : MP (pm_setI h1 193 28 (nI (n - 1))) (n - 1) P := by
      refine ⟨by omega, ri_s _, fun i hi k hk => ?_⟩
      rw [ri_c _ (by omega), c1 _ (by omega), ← c i (by omega) k hk]
      exact congrArg _ (by omega)
    refine (m_keep50 M2 C2 (by omega)).mono ?_
    rintro h3 ⟨f3, C3⟩
    refine ⟨f2.trans f3, ?_⟩
    rw [Nat.min_eq_right (by omega), show 20 = n - 1 + 1 from by omega]
    exact C3
  · refine sp_pos q ((m_keep50 M' C' (by omega)).mono ?_)
    rintro h3 ⟨f3, C3⟩
    rw [Nat.min_eq_left (by omega)]
    exact ⟨f3, C3⟩
theorem m_undo_sp (M : MI h A) (C : MP h n P) : SP (m_undo 193 h) (fun z => (n = 0 ∧ z = (ng 1, h)) ∨ (0 < n ∧ z.1 = nI (n - 1) ∧ FrM (· = 203) (· = 28) h z.2 ∧ MP z.2 (n - 1) (fun i => P (i + 1)) ∧ z.2.2.1 203 = mix (P 0) A)) := by
  obtain ⟨R, hA, w⟩ := M
  obtain ⟨hn, g28, c⟩ := C
  unfold m_undo
  simp (disch := omega) only [kc_im8, kc_im1, kc_i0, kc_i1, kc_i2, kc_i3, kc_i4, kc_i5, kc_b_m100, kc_b_m16, kc_b_m15, kc_b_m14, kc_b_m13, kc_b_m12, kc_b_m11, kc_b_m2, kc_b_6, kc_b_7, kc_b_8, kc_b_9, kc_b_10, kc_b_11, kc_b_12, kc_b_13, kc_b_14, kc_b_15, kc_b_16, kc_b_20, kc_b_24, kc_b_32, kc_b_37, kc_b_40, kc_b_42, kc_b_43, kc_b_45, kc_b_47, kc_b_48, kc_b_57, kc_b_58, kc_b_59, kc_b_60, kc_b_61, kc_b_62, kc_b_63, kc_b_91, kc_b_93, kc_b_97, kc_b_99, kc_b_100, kc_b_106, kc_b_122, kc_s_206, kc_s_226, kc_s_227, kc_s_255, kc_s_256, kc_s_316, kc_s_318, kc_s_400, kc_s_512, kc_s_999, kc_s_1160, kc_s_1536, kc_s_3003, kc_lm11, kc_lm10, kc_lm9, kc_lm8, kc_lm7, kc_lm6, kc_lm5, kc_lm4, kc_lm3, kc_lm2, kc_lm1, kc_l1, kc_l2, kc_l3, kc_l4, kc_l5, kc_l6, kc_l7, kc_l8, kc_l9, kc_l10, kc_l11, kc_l12, kc_l13, kc_l14, kc_l37, kc_l42, kc_l43, kc_l45, kc_l47, kc_l60, kc_l61, kc_l62, kc_l316, kc_l318, kc_l65536, kc_l99999, kc_l1000000, kc_l252645135, kc_l858993459, kc_l1431655765, kc_0, kc_on, g28, nx_eq]
  by_cases q : n = 0
  · exact sp_neg (by omega) (sp_some.mpr (.inl ⟨q, rfl⟩))
  · refine sp_pos q ?_
    rw [nx_sub (by omega), sp_bd]
    have f0 : FrM (· = 203) (· = 28) h (pm_setI h 193 28 (nI (n - 1))) := (FrM.refl _ _ _).setF rfl
    have key : SP (wh (fun z : (Int32 × pm_H) => m_undo_21 193 z.1 z.2) (nI 0, pm_setI h 193 28 (nI (n - 1)))) (fun h' => FrM (· = 203) (· = 28) h h' ∧ h'.2.1 193 28 = nI (n - 1) ∧ h'.2.1 203 = mix (P 0) A) := by
      refine wh_cnt (fun i z => z.1 = nI i ∧ FrM (· = 203) (· = 28) h z.2 ∧ z.2.2.1 193 28 = nI (n - 1) ∧ ∀ j, z.2.2.1 203 j = if j < i then P 0 j else A j) _ 58 ?_ ?_ 0 (nI 0, _) (by omega) ⟨rfl, f0, ri_s _, fun j => by rw [if_neg (by omega)]; show (pm_setI h 193 28 _).2.1 203 j = _; rw [ri_c _ (by omega), hA]⟩
      · rintro i ⟨x, h1⟩ hi ⟨rfl, f1, k1, c1⟩
        dsimp only at f1 k1 c1
        have R1 := R.fm f1
        have v : h1.2.1 208 (58 * (n - 1) + i) = P 0 i := by rw [f1.i (by omega) (by omega)]; exact c 0 (by omega) i hi
        unfold m_undo_21
        simp (disch := omega) only [kc_im8, kc_im1, kc_i0, kc_i1, kc_i2, kc_i3, kc_i4, kc_i5, kc_b_m100, kc_b_m16, kc_b_m15, kc_b_m14, kc_b_m13, kc_b_m12, kc_b_m11, kc_b_m2, kc_b_6, kc_b_7, kc_b_8, kc_b_9, kc_b_10, kc_b_11, kc_b_12, kc_b_13, kc_b_14, kc_b_15, kc_b_16, kc_b_20, kc_b_24, kc_b_32, kc_b_37, kc_b_40, kc_b_42, kc_b_43, kc_b_45, kc_b_47, kc_b_48, kc_b_57, kc_b_58, kc_b_59, kc_b_60, kc_b_61, kc_b_62, kc_b_63, kc_b_91, kc_b_93, kc_b_97, kc_b_99, kc_b_100, kc_b_106, kc_b_122, kc_s_206, kc_s_226, kc_s_227, kc_s_255, kc_s_256, kc_s_316, kc_s_318, kc_s_400, kc_s_512, kc_s_999, kc_s_1160, kc_s_1536, kc_s_3003, kc_lm11, kc_lm10, kc_lm9, kc_lm8, kc_lm7, kc_lm6, kc_lm5, kc_lm4, kc_lm3, kc_lm2, kc_lm1, kc_l1, kc_l2, kc_l3, kc_l4, kc_l5, kc_l6, kc_l7, kc_l8, kc_l9, kc_l10, kc_l11, kc_l12, kc_l13, kc_l14, kc_l37, kc_l42, kc_l43, kc_l45, kc_l47, kc_l60, kc_l61, kc_l62, kc_l316, kc_l318, kc_l65536, kc_l99999, kc_l1000000, kc_l252645135, kc_l858993459, kc_l1431655765, kc_0, kc_on, nx_lt, nx_le, nx_eq, nx_add, nx_sub, nx_mul, nx_cl, n_lt_ng, n_le_ng, n_eq_ng, ng_lt_n, ng_le_n, ng_eq_n, ng_eq, ng_lt, ng_le, nx_dec, ra_193_27 R1, ra_193_20 R1, Option.bind_some, mn_203, mn_208, gi_n, k1, v]
        refine sp_neg (by omega) (sp_pos (by simp; omega) (sp_pos (by simp; omega) ?_))
        rw [sp_bd, sp_some]
        refine ⟨rfl, f1.setI (by omega) rfl, by show (pm_setI h1 203 i _).2.1 193 28 = _; rw [ri_c _ (by omega)]; exact k1, fun j => ?_⟩
        show (pm_setI h1 203 i (P 0 i)).2.1 203 j = _
        by_cases e : j = i
        · subst e; rw [ri_s, if_pos (by omega)]
        · rw [ri_j _ e, c1 j]
          by_cases e2 : j < i
          · rw [if_pos e2, if_pos (by omega)]
          · rw [if_neg e2, if_neg (by omega)]
      · rintro ⟨x, h1⟩ ⟨rfl, f1, k1, c1⟩
        unfold m_undo_21
        simp (disch := omega) only [kc_im8, kc_im1, kc_i0, kc_i1, kc_i2, kc_i3, kc_i4, kc_i5, kc_b_m100, kc_b_m16, kc_b_m15, kc_b_m14, kc_b_m13, kc_b_m12, kc_b_m11, kc_b_m2, kc_b_6, kc_b_7, kc_b_8, kc_b_9, kc_b_10, kc_b_11, kc_b_12, kc_b_13, kc_b_14, kc_b_15, kc_b_16, kc_b_20, kc_b_24, kc_b_32, kc_b_37, kc_b_40, kc_b_42, kc_b_43, kc_b_45, kc_b_47, kc_b_48, kc_b_57, kc_b_58, kc_b_59, kc_b_60, kc_b_61, kc_b_62, kc_b_63, kc_b_91, kc_b_93, kc_b_97, kc_b_99, kc_b_100, kc_b_106, kc_b_122, kc_s_206, kc_s_226, kc_s_227, kc_s_255, kc_s_256, kc_s_316, kc_s_318, kc_s_400, kc_s_512, kc_s_999, kc_s_1160, kc_s_1536, kc_s_3003, kc_lm11, kc_lm10, kc_lm9, kc_lm8, kc_lm7, kc_lm6, kc_lm5, kc_lm4, kc_lm3, kc_lm2, kc_lm1, kc_l1, kc_l2, kc_l3, kc_l4, kc_l5, kc_l6, kc_l7, kc_l8, kc_l9, kc_l10, kc_l11, kc_l12, kc_l13, kc_l14, kc_l37, kc_l42, kc_l43, kc_l45, kc_l47, kc_l60, kc_l61, kc_l62, kc_l316, kc_l318, kc_l65536, kc_l99999, kc_l1000000, kc_l252645135, kc_l858993459, kc_l1431655765, kc_0, kc_on, nx_lt, nx_le, nx_eq, nx_add, nx_sub, nx_mul, nx_cl, n_lt_ng, n_le_ng, n_eq_ng, ng_lt_n, ng_le_n, ng_eq_n, ng_eq, ng_lt, ng_le, nx_dec]
        exact sp_pos (by omega) (sp_some.mpr ⟨f1, k1, funext c1⟩)
    refine sp_call key ?_
    rintro h1 ⟨f1, k1, c1⟩
    refine sp_some.mpr (.inr ⟨by omega, k1, f1, ⟨by omega, k1, fun i hi k hk => ?_⟩, c1⟩)
    show h1.2.1 208 _ = P (i + 1) k
    rw [f1.i (by omega) (by omega), ← c (i + 1) (by omega) k hk]
    exact congrArg _ (by omega)
end PS
