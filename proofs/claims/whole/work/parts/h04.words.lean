/-! The words of a row's men: wordsOf of the program; who of a row is heard. -/
def wm (A : Nat → Int32) (m : Nat) : Nat := wfb A (bN A) m
/-- the words of those of the first i men of a row who are in K -/
def hdL (A : Nat → Int32) (K N n i : Nat) : List Nat := ((tl (dg N n) i).filter (fun m => K.testBit m)).map (wm A)
def isHd (A : Nat → Int32) (N n : Nat) : Prop := ∀ k, k < n → (hrdN A).testBit (dg N n k) = true
section WO
variable {h : pm_H} {s : Nat} {A : Nat → Int32} {K N n : Nat}
theorem hdL_t {i : Nat} (q : K.testBit (dg N n i) = true) : hdL A K N n (i + 1) = hdL A K N n i ++ [wm A (dg N n i)] := by
  unfold hdL
  rw [tl_snoc, List.filter_append, List.map_append]
  simp [q]
theorem hdL_f {i : Nat} (q : K.testBit (dg N n i) = false) : hdL A K N n (i + 1) = hdL A K N n i := by
  unfold hdL
  rw [tl_snoc, List.filter_append, List.map_append]
  simp [q]
theorem hdL_len (i : Nat) : (hdL A K N n i).length ≤ i := by
  unfold hdL
  rw [List.length_map]
  exact Nat.le_trans (List.length_filter_le _ _) (by rw [tl_len]; omega)
theorem hdL_all (all : ∀ k, k < n → K.testBit (dg N n k) = true) : hdL A K N n n = (tl (dg N n) n).map (wm A) := by
  unfold hdL
  rw [List.filter_eq_self.mpr]
  intro m hm
  obtain ⟨i, hi, rfl⟩ := tl_mem.mp hm
  exact all i hi
theorem wm_man (w : WFA A) {m : Nat} (hm : m < an A 1) : A (10 + 6 * m) = nI (wm A m) ∧ wm A m < an A 0 := by
  have e1 := w.e1
  have e : wm A m = an A (10 + 6 * m) := by
    unfold wm wfb wdA
    rw [if_neg (by omega)]
  rw [e]
  exact w.m0 hm
theorem wm_boy (w : WFA A) (hb : bN A ≠ 0) : A 6 = nI (wm A 8) ∧ wm A 8 < an A 0 := by
  have e0 := w.e0
  have e : wm A 8 = bN A - 1 := by
    unfold wm wfb
    rw [if_pos rfl]
  rw [e]
  rcases w.e6 with q | q
  · exfalso
    apply hb
    unfold bN
    rw [if_pos q]
  · have hne : ¬ A 6 = ng 1 := by rw [q.1, n_eq_ng (by omega) (by omega) (by omega)]; exact id
    have e2 : bN A = an A 6 + 1 := by unfold bN; rw [if_neg hne]
    rw [e2, Nat.add_sub_cancel]
    exact q
theorem okM_or {m : Nat} (ok : okM A m = true) : m < an A 1 ∨ (m = 8 ∧ bN A ≠ 0) := by
  unfold okM at ok
  simpa using ok
theorem wm_lt (w : WFA A) {m : Nat} (ok : okM A m = true) : wm A m < 10 := by
  have e0 := w.e0
  rcases okM_or ok with q | ⟨rfl, q⟩
  · have := (wm_man w q).2; omega
  · have := (wm_boy w q).2; omega
theorem hdL_lt (w : WFA A) {i : Nat} (ok : ∀ k, k < i → okM A (dg N n k) = true) : ∀ x ∈ hdL A K N n i, x < 10 := by
  intro x hx
  unfold hdL at hx
  obtain ⟨m, hm, rfl⟩ := List.mem_map.mp hx
  obtain ⟨j, hj, rfl⟩ := tl_mem.mp (List.mem_filter.mp hm).1
  exact wm_lt w (ok j hj)
theorem getD_app {l : List Nat} {x j : Nat} (hj : j ≤ l.length) : (l ++ [x]).getD j 0 = if j = l.length then x else l.getD j 0 := by
  by_cases q : j = l.length
  · subst q; simp
  · rw [if_neg q, List.getD_eq_getElem?_getD, List.getElem?_append_left (by omega), ← List.getD_eq_getElem?_getD]
def WO (h : pm_H) (A : Nat → Int32) (K N n i : Nat) (h' : pm_H) : Prop := Fr (· = 89) h h' ∧ (∀ j, j < (hdL A K N n i).length → h'.2.1 89 j = nI ((hdL A K N n i).getD j 0)) ∧ ∀ j, i ≤ j → j < n → h'.2.1 89 j = nI (dg N n j)
theorem WO.put {h1 : pm_H} {i : Nat} (W : WO h A K N n i h1) (hi : i < n) (q : K.testBit (dg N n i) = true) : WO h A K N n (i + 1) (pm_setI h1 89 (hdL A K N n i).length (nI (wm A (dg N n i)))) := by
  obtain ⟨f, r, d⟩ := W
  have hl := hdL_len (A := A) (K := K) (N := N) (n := n) i
  refine ⟨f.setI rfl, fun j hj => ?_, fun j h1 h2 => ?_⟩
  · rw [hdL_t q, List.length_append, List.length_singleton] at hj
    rw [hdL_t q, getD_app (by omega)]
    by_cases e : j = (hdL A K N n i).length
    · rw [if_pos e, e, ri_s]
    · rw [if_neg e, ri_j _ e]
      exact r j (by omega)
  · rw [ri_j _ (by omega)]
    exact d j (by omega) h2
theorem x_wordsOf_sp (Q : QI h s A) (hn : n ≤ 5) (hK : K < 1024) (ok : ∀ k, k < n → okM A (dg N n k) = true) (hr : ∀ i, i < n → h.2.1 89 i = nI (dg N n i)) : SP (x_wordsOf 0 (nI n) (nI K) h) (fun z => z.1 = nI (hdL A K N n n).length ∧ WO h A K N n n z.2) := by
  unfold x_wordsOf
  simp only [kc_im8, kc_im1, kc_i0, kc_i1, kc_i2, kc_i3, kc_i4, kc_i5, kc_b_m100, kc_b_m16, kc_b_m15, kc_b_m14, kc_b_m13, kc_b_m12, kc_b_m11, kc_b_m2, kc_b_6, kc_b_7, kc_b_8, kc_b_9, kc_b_10, kc_b_11, kc_b_12, kc_b_13, kc_b_14, kc_b_15, kc_b_16, kc_b_20, kc_b_24, kc_b_32, kc_b_37, kc_b_40, kc_b_42, kc_b_43, kc_b_45, kc_b_47, kc_b_48, kc_b_57, kc_b_58, kc_b_59, kc_b_60, kc_b_61, kc_b_62, kc_b_63, kc_b_91, kc_b_93, kc_b_97, kc_b_99, kc_b_100, kc_b_106, kc_b_122, kc_s_206, kc_s_226, kc_s_227, kc_s_255, kc_s_256, kc_s_316, kc_s_318, kc_s_400, kc_s_512, kc_s_999, kc_s_1160, kc_s_1536, kc_s_3003, kc_lm11, kc_lm10, kc_lm9, kc_lm8, kc_lm7, kc_lm6, kc_lm5, kc_lm4, kc_lm3, kc_lm2, kc_lm1, kc_l1, kc_l2, kc_l3, kc_l4, kc_l5, kc_l6, kc_l7, kc_l8, kc_l9, kc_l10, kc_l11, kc_l12, kc_l13, kc_l14, kc_l37, kc_l42, kc_l43, kc_l45, kc_l47, kc_l60, kc_l61, kc_l62, kc_l316, kc_l318, kc_l65536, kc_l99999, kc_l1000000, kc_l252645135, kc_l858993459, kc_l1431655765, kc_0, kc_on]
  have key : SP (wh (fun z : (Int32 × Int32 × pm_H) => x_wordsOf_5 0 (nI n) (nI K) z.1 z.2.1 z.2.2) (nI 0, nI 0, h)) (fun z => z.1 = nI (hdL A K N n n).length ∧ WO h A K N n n z.2) := by
    refine wh_cnt (fun i z => z.1 = nI (hdL A K N n i).length ∧ z.2.1 = nI i ∧ WO h A K N n i z.2.2) _ n ?_ ?_ 0 (nI 0, nI 0, h) (by omega) ⟨rfl, rfl, Fr.refl _ _, fun j hj => absurd hj (by show ¬ j < 0; omega), fun j _ hj => hr j hj⟩
    · rintro i ⟨l, y, h1⟩ hi ⟨hl, hy, W⟩
      dsimp only at hl hy W
      subst hl hy
      have hd := dg_lt N n i
      have Q1 := (Q.ask W.1 (fun c hc => by omega)).1
      have Q1' := Q1
      obtain ⟨R, _, S, H, D, w, C⟩ := Q1
      have e1 := w.e1
      have hl := hdL_len (A := A) (K := K) (N := N) (n := n) i
      have di := W.2.2 i (Nat.le_refl _) hi
      unfold x_wordsOf_5
      simp only [kc_im8, kc_im1, kc_i0, kc_i1, kc_i2, kc_i3, kc_i4, kc_i5, kc_b_m100, kc_b_m16, kc_b_m15, kc_b_m14, kc_b_m13, kc_b_m12, kc_b_m11, kc_b_m2, kc_b_6, kc_b_7, kc_b_8, kc_b_9, kc_b_10, kc_b_11, kc_b_12, kc_b_13, kc_b_14, kc_b_15, kc_b_16, kc_b_20, kc_b_24, kc_b_32, kc_b_37, kc_b_40, kc_b_42, kc_b_43, kc_b_45, kc_b_47, kc_b_48, kc_b_57, kc_b_58, kc_b_59, kc_b_60, kc_b_61, kc_b_62, kc_b_63, kc_b_91, kc_b_93, kc_b_97, kc_b_99, kc_b_100, kc_b_106, kc_b_122, kc_s_206, kc_s_226, kc_s_227, kc_s_255, kc_s_256, kc_s_316, kc_s_318, kc_s_400, kc_s_512, kc_s_999, kc_s_1160, kc_s_1536, kc_s_3003, kc_lm11, kc_lm10, kc_lm9, kc_lm8, kc_lm7, kc_lm6, kc_lm5, kc_lm4, kc_lm3, kc_lm2, kc_lm1, kc_l1, kc_l2, kc_l3, kc_l4, kc_l5, kc_l6, kc_l7, kc_l8, kc_l9, kc_l10, kc_l11, kc_l12, kc_l13, kc_l14, kc_l37, kc_l42, kc_l43, kc_l45, kc_l47, kc_l60, kc_l61, kc_l62, kc_l316, kc_l318, kc_l65536, kc_l99999, kc_l1000000, kc_l252645135, kc_l858993459, kc_l1431655765, kc_0, kc_on]
      rw [ra_0_8 R, ra_0_4 R]
      refine sp_neg (by rw [nx_le (by omega) (by omega)]; omega) ?_
      rw [Option.bind_some, mn_89]
      refine sp_neg (by rw [nx_le (by omega) (by omega)]; omega) ?_
      rw [Option.bind_some, mn_89, gi_n (by omega), nx_cl (by omega), di, x_bit_n (by omega) (by omega), Option.bind_some]
      refine sp_pos (by simp; omega) ?_
      by_cases q : K.testBit (dg N n i) = true
      · refine sp_neg (by rw [nx_bt1]; exact fun z => z q) ?_
        rw [Option.bind_some, mn_89]
        refine sp_neg (by rw [nx_le (by omega) (by omega)]; omega) ?_
        rw [Option.bind_some]
        rcases okM_or (ok i hi) with hm | ⟨h8, hb⟩
        · refine sp_pos (by rw [nx_eq (by omega) (by omega)]; omega) ?_
          rw [Option.bind_some, Q1'.now, Option.bind_some, c_wordOf S w R hm, Option.bind_some, (wm_man w hm).1]
          unfold x_wordsOf_86
          simp only [kc_im8, kc_im1, kc_i0, kc_i1, kc_i2, kc_i3, kc_i4, kc_i5, kc_b_m100, kc_b_m16, kc_b_m15, kc_b_m14, kc_b_m13, kc_b_m12, kc_b_m11, kc_b_m2, kc_b_6, kc_b_7, kc_b_8, kc_b_9, kc_b_10, kc_b_11, kc_b_12, kc_b_13, kc_b_14, kc_b_15, kc_b_16, kc_b_20, kc_b_24, kc_b_32, kc_b_37, kc_b_40, kc_b_42, kc_b_43, kc_b_45, kc_b_47, kc_b_48, kc_b_57, kc_b_58, kc_b_59, kc_b_60, kc_b_61, kc_b_62, kc_b_63, kc_b_91, kc_b_93, kc_b_97, kc_b_99, kc_b_100, kc_b_106, kc_b_122, kc_s_206, kc_s_226, kc_s_227, kc_s_255, kc_s_256, kc_s_316, kc_s_318, kc_s_400, kc_s_512, kc_s_999, kc_s_1160, kc_s_1536, kc_s_3003, kc_lm11, kc_lm10, kc_lm9, kc_lm8, kc_lm7, kc_lm6, kc_lm5, kc_lm4, kc_lm3, kc_lm2, kc_lm1, kc_l1, kc_l2, kc_l3, kc_l4, kc_l5, kc_l6, kc_l7, kc_l8, kc_l9, kc_l10, kc_l11, kc_l12, kc_l13, kc_l14, kc_l37, kc_l42, kc_l43, kc_l45, kc_l47, kc_l60, kc_l61, kc_l62, kc_l316, kc_l318, kc_l65536, kc_l99999, kc_l1000000, kc_l252645135, kc_l858993459, kc_l1431655765, kc_0, kc_on]
          rw [mn_89, gi_n (by omega), nx_cl (by omega)]
          refine sp_pos (by simp; omega) ?_
          rw [sp_bd, sp_some, nx_add, nx_add]
          exact ⟨by rw [hdL_t q, List.length_append, List.length_singleton], rfl, W.put hi q⟩
        · refine sp_neg (by rw [nx_eq (by omega) (by omega)]; omega) ?_
          rw [Option.bind_some, q_hands Q1', Option.bind_some, H.2.2.2.2.2.1, (wm_boy w hb).1]
          unfold x_wordsOf_86
          simp only [kc_im8, kc_im1, kc_i0, kc_i1, kc_i2, kc_i3, kc_i4, kc_i5, kc_b_m100, kc_b_m16, kc_b_m15, kc_b_m14, kc_b_m13, kc_b_m12, kc_b_m11, kc_b_m2, kc_b_6, kc_b_7, kc_b_8, kc_b_9, kc_b_10, kc_b_11, kc_b_12, kc_b_13, kc_b_14, kc_b_15, kc_b_16, kc_b_20, kc_b_24, kc_b_32, kc_b_37, kc_b_40, kc_b_42, kc_b_43, kc_b_45, kc_b_47, kc_b_48, kc_b_57, kc_b_58, kc_b_59, kc_b_60, kc_b_61, kc_b_62, kc_b_63, kc_b_91, kc_b_93, kc_b_97, kc_b_99, kc_b_100, kc_b_106, kc_b_122, kc_s_206, kc_s_226, kc_s_227, kc_s_255, kc_s_256, kc_s_316, kc_s_318, kc_s_400, kc_s_512, kc_s_999, kc_s_1160, kc_s_1536, kc_s_3003, kc_lm11, kc_lm10, kc_lm9, kc_lm8, kc_lm7, kc_lm6, kc_lm5, kc_lm4, kc_lm3, kc_lm2, kc_lm1, kc_l1, kc_l2, kc_l3, kc_l4, kc_l5, kc_l6, kc_l7, kc_l8, kc_l9, kc_l10, kc_l11, kc_l12, kc_l13, kc_l14, kc_l37, kc_l42, kc_l43, kc_l45, kc_l47, kc_l60, kc_l61, kc_l62, kc_l316, kc_l318, kc_l65536, kc_l99999, kc_l1000000, kc_l252645135, kc_l858993459, kc_l1431655765, kc_0, kc_on]
          rw [mn_89, gi_n (by omega), nx_cl (by omega)]
          refine sp_pos (by simp; omega) ?_
          rw [sp_bd, sp_some, nx_add, nx_add]
          have P := W.put hi q
          rw [h8] at P
          exact ⟨by rw [hdL_t q, List.length_append, List.length_singleton], rfl, P⟩
      · have q' : K.testBit (dg N n i) = false := by simpa using q
        refine sp_pos (by rw [nx_bt1]; exact q) ?_
        rw [sp_some, nx_add]
        refine ⟨by rw [hdL_f q'], rfl, W.1, ?_, fun j h1 h2 => W.2.2 j (by omega) h2⟩
        rw [hdL_f q']
        exact W.2.1
    · rintro ⟨l, y, h1⟩ ⟨hl, hy, W⟩
      dsimp only at hl hy W
      subst hl hy
      unfold x_wordsOf_5
      exact sp_pos (by rw [nx_le (by omega) (by omega)]; omega) (sp_some.mpr ⟨rfl, W⟩)
  refine sp_call key ?_
  rintro ⟨l, h1⟩ q
  exact sp_some.mpr q
theorem dset_bit : ∀ k i, (dset N n k).testBit i = true ↔ ∃ j, j < k ∧ dg N n j = i
  | 0, i => by
    show (0 : Nat).testBit i = true ↔ _
    rw [Nat.zero_testBit]
    constructor
    · intro q; cases q
    · rintro ⟨j, hj, _⟩; omega
  | k + 1, i => by
    show (dset N n k ||| 2 ^ dg N n k).testBit i = true ↔ _
    rw [Nat.testBit_or, Bool.or_eq_true, dset_bit k i, Nat.testBit_two_pow, decide_eq_true_eq]
    constructor
    · rintro (⟨j, hj, e⟩ | e)
      · exact ⟨j, by omega, e⟩
      · exact ⟨k, by omega, e⟩
    · rintro ⟨j, hj, e⟩
      by_cases q : j = k
      · exact .inr (q ▸ e)
      · exact .inl ⟨j, by omega, e⟩
theorem isHd_sd : sd (dset N n n) (hrdN A) = 0 ↔ isHd A N n := by
  rw [sd_0]
  constructor
  · intro q k hk
    exact q _ ((dset_bit n _).mpr ⟨k, hk, rfl⟩)
  · intro q i hi
    obtain ⟨j, hj, rfl⟩ := (dset_bit n i).mp hi
    exact q j hj
theorem hrd_boy (w : WFA A) : (hrdN A).testBit 8 = decide (bN A ≠ 0) := by
  have h8 : hrdM A < 2 ^ 8 := by
    have h1 := p2men w
    have hl : hrdM A < 2 ^ an A 1 := bs_lt _ _
    omega
  unfold hrdN
  rw [Nat.testBit_or, Nat.testBit_lt_two_pow h8, Bool.false_or]
  unfold bb
  by_cases q : bN A = 0
  · rw [if_pos q, q]; rfl
  · rw [if_neg q, dec_t q]; rfl
theorem m_isHeard_k (M : MI h A) {m : Nat} (ok : okM A m = true) : m_isHeard 193 (nI m) h = some (nI ((hrdN A).testBit m).toNat) := by
  obtain ⟨R, hA, w⟩ := M
  rcases okM_or ok with q | ⟨rfl, q⟩
  · rw [m_isHeard_t w R hA q, hrd_man w q]
  · rw [m_isHeard_b w R hA, hrd_boy w]
theorem m_wordOfMan_k (M : MI h A) {m : Nat} (ok : okM A m = true) : m_wordOfMan 193 (nI m) h = some (nI (wm A m)) := by
  obtain ⟨R, hA, w⟩ := M
  have e1 := w.e1
  unfold m_wordOfMan
  simp only [kc_im8, kc_im1, kc_i0, kc_i1, kc_i2, kc_i3, kc_i4, kc_i5, kc_b_m100, kc_b_m16, kc_b_m15, kc_b_m14, kc_b_m13, kc_b_m12, kc_b_m11, kc_b_m2, kc_b_6, kc_b_7, kc_b_8, kc_b_9, kc_b_10, kc_b_11, kc_b_12, kc_b_13, kc_b_14, kc_b_15, kc_b_16, kc_b_20, kc_b_24, kc_b_32, kc_b_37, kc_b_40, kc_b_42, kc_b_43, kc_b_45, kc_b_47, kc_b_48, kc_b_57, kc_b_58, kc_b_59, kc_b_60, kc_b_61, kc_b_62, kc_b_63, kc_b_91, kc_b_93, kc_b_97, kc_b_99, kc_b_100, kc_b_106, kc_b_122, kc_s_206, kc_s_226, kc_s_227, kc_s_255, kc_s_256, kc_s_316, kc_s_318, kc_s_400, kc_s_512, kc_s_999, kc_s_1160, kc_s_1536, kc_s_3003, kc_lm11, kc_lm10, kc_lm9, kc_lm8, kc_lm7, kc_lm6, kc_lm5, kc_lm4, kc_lm3, kc_lm2, kc_lm1, kc_l1, kc_l2, kc_l3, kc_l4, kc_l5, kc_l6, kc_l7, kc_l8, kc_l9, kc_l10, kc_l11, kc_l12, kc_l13, kc_l14, kc_l37, kc_l42, kc_l43, kc_l45, kc_l47, kc_l60, kc_l61, kc_l62, kc_l316, kc_l318, kc_l65536, kc_l99999, kc_l1000000, kc_l252645135, kc_l858993459, kc_l1431655765, kc_0, kc_on]
  rcases okM_or ok with q | ⟨rfl, q⟩
  · rw [if_pos (by rw [nx_eq (by omega) (by omega)]; omega), m_manOf_n R hA (k := 0) (by omega), Option.bind_some, Nat.add_zero, (wm_man w q).1]
  · rw [if_neg (fun z => z rfl), ra_193_20 R, Option.bind_some, mn_203, gi_n (by omega), if_pos (by simp), nx_cl (by omega), hA, (wm_boy w q).1]
end WO
