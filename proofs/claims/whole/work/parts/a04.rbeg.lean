/-! The program's Rows: begin, advance. -/
section RB
variable {h : pm_H} {s q : Nat} {A : Nat → Int32} {one oth thd : Nat → Nat}
def QC (q c : Nat) : Prop := c = q ∨ c = q + 1 ∨ c = q + 2 ∨ c = q + 3
/-- the row that Rows stands at -/
def CUR (h : pm_H) (q : Nat) (c : List Nat) : Prop := h.2.1 q 6 = nI c.length ∧ 0 < c.length ∧ c.length ≤ 5 ∧ ∀ j, j < c.length → h.2.1 (q + 1) (c.length * 5 + j) = nI (c.getD j 0) ∧ c.getD j 0 < 10
/-- Rows with rem to come -/
def RS (A : Nat → Int32) (one oth thd : Nat → Nat) (h : pm_H) (q s : Nat) (rem : List (List Nat)) : Prop :=
  h.2.2.2 q 0 = some s ∧ ((h.2.1 q 5 = nI 1 ∧ ((h.2.1 q 6 = nI 0 ∧ rem = []) ∨ ∃ r, h.2.1 q 6 = nI r.length ∧ stOK A h q r.length [(r, 0, 0)] ∧ rem = r :: remSt (mnA A) (an A 3) one oth thd [(r, 0, 0)])) ∨
    (h.2.1 q 5 = nI 0 ∧ ∃ L st, h.2.1 q 6 = nI L ∧ L ≤ 5 ∧ stOK A h q L st ∧ rem = remSt (mnA A) (an A 3) one oth thd st))
theorem stOK_cur {c : List Nat} {i k : Nat} {st : List (List Nat × Nat × Nat)} {L : Nat} (h6 : h.2.1 q 6 = nI L) (T : stOK A h q L ((c, i, k) :: st)) : CUR h q c := by
  obtain ⟨t1, t2, t3, t4, _⟩ := T
  dsimp only at t1 t4
  subst t1
  exact ⟨h6, t3, t2, t4⟩
theorem r_adv_loop (S : CSh h s A) (w : WFA A) (R : RF h) (hz0 : 0 < an A 0) (hq : mi_o q 5 = true) (hs : h.2.2.2 q 0 = some s) (K : KT h s one oth thd) {L : Nat} {st : List (List Nat × Nat × Nat)} (h6 : h.2.1 q 6 = nI L) (hL : L ≤ 5) (T : stOK A h q L st) : SP (wh (fun z : (Int32 × pm_H) => r_advance_27 q z.1 z.2) (nI 0, h)) (fun r => match r with
    | .inl h' => Fr (QC q) h h' ∧ h'.2.1 q 5 = h.2.1 q 5 ∧ ∃ L' c st', h'.2.1 q 6 = nI L' ∧ L' < 5 ∧ stOK A h' q (L' + 1) ((c, 0, 0) :: st') ∧ remSt (mnA A) (an A 3) one oth thd st = c :: remSt (mnA A) (an A 3) one oth thd ((c, 0, 0) :: st')
    | .inr h' => Fr (QC q) h h' ∧ h'.2.1 q 5 = h.2.1 q 5 ∧ remSt (mnA A) (an A 3) one oth thd st = []) := by
  have hqv := rows_lt hq
  have hsv := hull_ge S.1
  refine wh_sp (fun z => ∃ n L' st', z.1 = nI n ∧ n + L' = L ∧ Fr (QC q) h z.2 ∧ z.2.2.1 q 5 = h.2.1 q 5 ∧ z.2.2.1 q 6 = nI L' ∧ stOK A z.2 q L' st' ∧ remSt (mnA A) (an A 3) one oth thd st = remSt (mnA A) (an A 3) one oth thd st') (fun z => (z.2.2.1 q 6).toNatClampNeg) _ ?_ ⟨0, L, st, rfl, by omega, Fr.refl _ _, rfl, h6, T, rfl⟩
  rintro ⟨x, h1⟩ ⟨n, L', st', rfl, hn, f1, g1, l1, T1, e1⟩
  dsimp only at f1 g1 l1 T1
  have R1 := R.fr f1
  have S1 := S.fr f1 (fun c a b => by unfold QC; omega)
  have K1 := K.fr f1 (fun c a b => by unfold QC; omega)
  have s1 : h1.2.2.2 q 0 = some s := by rw [f1.r]; exact hs
  obtain ⟨r, r1, r2, r3, r4⟩ := stOK_root st' L' T1
  unfold r_advance_27
  simp (disch := omega) only [kc_im8, kc_im1, kc_i0, kc_i1, kc_i2, kc_i3, kc_i4, kc_i5, kc_b_m100, kc_b_m16, kc_b_m15, kc_b_m14, kc_b_m13, kc_b_m12, kc_b_m11, kc_b_m2, kc_b_6, kc_b_7, kc_b_8, kc_b_9, kc_b_10, kc_b_11, kc_b_12, kc_b_13, kc_b_14, kc_b_15, kc_b_16, kc_b_20, kc_b_24, kc_b_32, kc_b_37, kc_b_40, kc_b_42, kc_b_43, kc_b_45, kc_b_47, kc_b_48, kc_b_57, kc_b_58, kc_b_59, kc_b_60, kc_b_61, kc_b_62, kc_b_63, kc_b_91, kc_b_93, kc_b_97, kc_b_99, kc_b_100, kc_b_106, kc_b_122, kc_s_206, kc_s_226, kc_s_227, kc_s_255, kc_s_256, kc_s_316, kc_s_318, kc_s_400, kc_s_512, kc_s_999, kc_s_1160, kc_s_1536, kc_s_3003, kc_lm11, kc_lm10, kc_lm9, kc_lm8, kc_lm7, kc_lm6, kc_lm5, kc_lm4, kc_lm3, kc_lm2, kc_lm1, kc_l1, kc_l2, kc_l3, kc_l4, kc_l5, kc_l6, kc_l7, kc_l8, kc_l9, kc_l10, kc_l11, kc_l12, kc_l13, kc_l14, kc_l37, kc_l42, kc_l43, kc_l45, kc_l47, kc_l60, kc_l61, kc_l62, kc_l316, kc_l318, kc_l65536, kc_l99999, kc_l1000000, kc_l252645135, kc_l858993459, kc_l1431655765, kc_0, kc_on, l1, r1, nx_lt, nx_le, nx_eq, nx_add, nx_sub, nx_mul, nx_cl, n_lt_ng, n_le_ng, n_eq_ng, ng_lt_n, ng_le_n, ng_eq_n, ng_eq, ng_lt, ng_le, nx_dec]
  refine sp_neg (by omega) ?_
  cases st' with
  | nil =>
    refine sp_pos (by have := r4 rfl; omega) (sp_some.mpr ⟨f1, g1, ?_⟩)
    rw [e1]
    rfl
  | cons y st'' =>
    obtain ⟨l, i, k⟩ := y
    have T1' := T1
    obtain ⟨t1, t2, t3, t4, t5, t6, t7, t8, t9, t10⟩ := T1
    dsimp only at t1
    refine sp_neg (by have := r3 (by simp); omega) (sp_neg (by omega) ?_)
    have down : ∀ h2 : pm_H, Fr (QC q) h h2 → h2.2.1 q 5 = h.2.1 q 5 → h2.2.1 q 6 = nI L' → stOK A h2 q (L' - 1) st'' → restOf (mnA A) (an A 3) one oth thd l i k = [] → SP (r_advance_78 q (nI n) h2) (fun q_1 => match q_1 with
        | .inl s' => (∃ n L' st', s'.1 = nI n ∧ n + L' = L ∧ Fr (QC q) h s'.2 ∧ s'.2.2.1 q 5 = h.2.1 q 5 ∧ s'.2.2.1 q 6 = nI L' ∧ stOK A s'.2 q L' st' ∧ remSt (mnA A) (an A 3) one oth thd st = remSt (mnA A) (an A 3) one oth thd st') ∧ (s'.2.2.1 q 6).toNatClampNeg < L'
        | .inr r => False) := by
      intro h2 f2 g2 l2 T2 e2
      unfold r_advance_78
      rw [sp_bd, l2]
      simp (disch := omega) only [kc_im8, kc_im1, kc_i0, kc_i1, kc_i2, kc_i3, kc_i4, kc_i5, kc_b_m100, kc_b_m16, kc_b_m15, kc_b_m14, kc_b_m13, kc_b_m12, kc_b_m11, kc_b_m2, kc_b_6, kc_b_7, kc_b_8, kc_b_9, kc_b_10, kc_b_11, kc_b_12, kc_b_13, kc_b_14, kc_b_15, kc_b_16, kc_b_20, kc_b_24, kc_b_32, kc_b_37, kc_b_40, kc_b_42, kc_b_43, kc_b_45, kc_b_47, kc_b_48, kc_b_57, kc_b_58, kc_b_59, kc_b_60, kc_b_61, kc_b_62, kc_b_63, kc_b_91, kc_b_93, kc_b_97, kc_b_99, kc_b_100, kc_b_106, kc_b_122, kc_s_206, kc_s_226, kc_s_227, kc_s_255, kc_s_256, kc_s_316, kc_s_318, kc_s_400, kc_s_512, kc_s_999, kc_s_1160, kc_s_1536, kc_s_3003, kc_lm11, kc_lm10, kc_lm9, kc_lm8, kc_lm7, kc_lm6, kc_lm5, kc_lm4, kc_lm3, kc_lm2, kc_lm1, kc_l1, kc_l2, kc_l3, kc_l4, kc_l5, kc_l6, kc_l7, kc_l8, kc_l9, kc_l10, kc_l11, kc_l12, kc_l13, kc_l14, kc_l37, kc_l42, kc_l43, kc_l45, kc_l47, kc_l60, kc_l61, kc_l62, kc_l316, kc_l318, kc_l65536, kc_l99999, kc_l1000000, kc_l252645135, kc_l858993459, kc_l1431655765, kc_0, kc_on, nx_lt, nx_le, nx_eq, nx_add, nx_sub, nx_mul, nx_cl, n_lt_ng, n_le_ng, n_eq_ng, ng_lt_n, ng_le_n, ng_eq_n, ng_eq, ng_lt, ng_le, nx_dec]
      refine sp_some.mpr ⟨⟨n + 1, L' - 1, st'', rfl, by omega, f2.setI (.inl rfl), ?_, ri_s _, ?_, ?_⟩, ?_⟩
      · rw [ri_j _ (by omega)]; exact g2
      · exact stOK_fr st'' _ T2 (ri_j _ (by omega)) (fun r hr => ⟨fun j hj => ri_c _ (by omega), ri_c _ (by omega), ri_c _ (by omega)⟩)
      · rw [e1, remSt, e2]
        rfl
      · show ((pm_setI h2 q 6 (nI (L' - 1))).2.1 q 6).toNatClampNeg < L'
        rw [ri_s, nx_cl (by omega)]
        omega
    by_cases h5 : 5 ≤ L'
    · refine sp_pos h5 ((down h1 f1 g1 l1 t10 ?_).mono ?_)
      · unfold restOf
        rw [if_neg (by omega)]
      · rintro (z | z) hz
        · exact hz
        · exact hz.elim
    · refine sp_neg h5 (sp_call (r_part_sp S1 w R1 hz0 hq s1 K1 l1 (by omega) T1') ?_)
      rintro ⟨v, h2⟩ ⟨f2, hz⟩
      dsimp only at f2 hz
      have f3 : Fr (QC q) h h2 := f1.trans (f2.mono (fun c hc => .inr hc))
      have g3 : h2.2.1 q 5 = h.2.1 q 5 := by rw [f2.i _ (by omega)]; exact g1
      have l3 : h2.2.1 q 6 = nI L' := by rw [f2.i _ (by omega)]; exact l1
      rcases hz with ⟨rfl, e2, T2⟩ | ⟨rfl, c, i', k', e2, T2⟩
      · refine sp_pos rfl ((down h2 f3 g3 l3 T2 ?_).mono ?_)
        · unfold restOf
          rw [if_pos (by omega), t1, e2]
          rfl
        · rintro (z | z) hz
          · exact hz
          · exact hz.elim
      · refine sp_neg (by rw [nx_eq (by omega) (by omega)]; omega) (sp_some.mpr ⟨f3, g3, L', c, (l, i', k') :: st'', l3, by omega, T2, ?_⟩)
        have hcl : c.length = L' + 1 := T2.1
        rw [e1, remSt, remSt, remSt, restOf_desc]
        unfold restOf
        rw [if_pos (by dsimp only; omega), if_pos (by dsimp only; omega)]
        dsimp only
        rw [t1, e2, List.flatMap_cons, hcl, show 5 - (L' + 1) = 4 - L' from by omega]
        simp
theorem r_adv_sp (S : CSh h s A) (w : WFA A) (R : RF h) (hz0 : 0 < an A 0) (hq : mi_o q 5 = true) (K : KT h s one oth thd) {rem : List (List Nat)} (H : RS A one oth thd h q s rem) : SP (r_advance q h) (fun z => Fr (QC q) h z.2 ∧ ((z.1 = nI 0 ∧ rem = []) ∨ (z.1 = nI 1 ∧ ∃ c rem', rem = c :: rem' ∧ RS A one oth thd z.2 q s rem' ∧ CUR z.2 q c))) := by
  obtain ⟨hs, H⟩ := H
  unfold r_advance
  rcases H with ⟨h5, H⟩ | ⟨h5, L, st, h6, hL, T, rfl⟩
  · rw [h5]
    simp (disch := omega) only [kc_im8, kc_im1, kc_i0, kc_i1, kc_i2, kc_i3, kc_i4, kc_i5, kc_b_m100, kc_b_m16, kc_b_m15, kc_b_m14, kc_b_m13, kc_b_m12, kc_b_m11, kc_b_m2, kc_b_6, kc_b_7, kc_b_8, kc_b_9, kc_b_10, kc_b_11, kc_b_12, kc_b_13, kc_b_14, kc_b_15, kc_b_16, kc_b_20, kc_b_24, kc_b_32, kc_b_37, kc_b_40, kc_b_42, kc_b_43, kc_b_45, kc_b_47, kc_b_48, kc_b_57, kc_b_58, kc_b_59, kc_b_60, kc_b_61, kc_b_62, kc_b_63, kc_b_91, kc_b_93, kc_b_97, kc_b_99, kc_b_100, kc_b_106, kc_b_122, kc_s_206, kc_s_226, kc_s_227, kc_s_255, kc_s_256, kc_s_316, kc_s_318, kc_s_400, kc_s_512, kc_s_999, kc_s_1160, kc_s_1536, kc_s_3003, kc_lm11, kc_lm10, kc_lm9, kc_lm8, kc_lm7, kc_lm6, kc_lm5, kc_lm4, kc_lm3, kc_lm2, kc_lm1, kc_l1, kc_l2, kc_l3, kc_l4, kc_l5, kc_l6, kc_l7, kc_l8, kc_l9, kc_l10, kc_l11, kc_l12, kc_l13, kc_l14, kc_l37, kc_l42, kc_l43, kc_l45, kc_l47, kc_l60, kc_l61, kc_l62, kc_l316, kc_l318, kc_l65536, kc_l99999, kc_l1000000, kc_l252645135, kc_l858993459, kc_l1431655765, kc_0, kc_on, nx_lt, nx_le, nx_eq, nx_add, nx_sub, nx_mul, nx_cl, n_lt_ng, n_le_ng, n_eq_ng, ng_lt_n, ng_le_n, ng_eq_n, ng_eq, ng_lt, ng_le, nx_dec]
    refine sp_neg (by omega) ?_
    rw [sp_bd, ri_j _ (by omega)]
    rcases H with ⟨h6, rfl⟩ | ⟨r, h6, T, rfl⟩
    · rw [h6]
      simp (disch := omega) only [nx_lt, nx_le, nx_eq, nx_add, nx_sub, nx_mul, nx_cl, n_lt_ng, n_le_ng, n_eq_ng, ng_lt_n, ng_le_n, ng_eq_n, ng_eq, ng_lt, ng_le, nx_dec]
      exact sp_pos (by omega) (sp_some.mpr ⟨(Fr.refl _ _).setI (.inl rfl), .inl ⟨by simp, by simp⟩⟩)
    · have hr := T.2.2.1
      have hr5 := T.2.1
      rw [h6]
      simp (disch := omega) only [nx_lt, nx_le, nx_eq, nx_add, nx_sub, nx_mul, nx_cl, n_lt_ng, n_le_ng, n_eq_ng, ng_lt_n, ng_le_n, ng_eq_n, ng_eq, ng_lt, ng_le, nx_dec]
      have T' : stOK A (pm_setI h q 5 (nI 0)) q r.length [(r, 0, 0)] := stOK_fr _ _ T (ri_j _ (by omega)) (fun x hx => ⟨fun j hj => ri_c _ (by omega), ri_c _ (by omega), ri_c _ (by omega)⟩)
      refine sp_neg (by omega) (sp_some.mpr ⟨(Fr.refl _ _).setI (.inl rfl), .inr ⟨rfl, r, _, rfl, ⟨hs, .inr ⟨ri_s _, r.length, [(r, 0, 0)], ?_, hr5, T', rfl⟩⟩, stOK_cur (i := 0) (k := 0) (st := []) (L := r.length) ?_ T'⟩⟩)
      · rw [ri_j _ (by omega)]; exact h6
      · rw [ri_j _ (by omega)]; exact h6
  · rw [h5]
    simp (disch := omega) only [kc_im8, kc_im1, kc_i0, kc_i1, kc_i2, kc_i3, kc_i4, kc_i5, kc_b_m100, kc_b_m16, kc_b_m15, kc_b_m14, kc_b_m13, kc_b_m12, kc_b_m11, kc_b_m2, kc_b_6, kc_b_7, kc_b_8, kc_b_9, kc_b_10, kc_b_11, kc_b_12, kc_b_13, kc_b_14, kc_b_15, kc_b_16, kc_b_20, kc_b_24, kc_b_32, kc_b_37, kc_b_40, kc_b_42, kc_b_43, kc_b_45, kc_b_47, kc_b_48, kc_b_57, kc_b_58, kc_b_59, kc_b_60, kc_b_61, kc_b_62, kc_b_63, kc_b_91, kc_b_93, kc_b_97, kc_b_99, kc_b_100, kc_b_106, kc_b_122, kc_s_206, kc_s_226, kc_s_227, kc_s_255, kc_s_256, kc_s_316, kc_s_318, kc_s_400, kc_s_512, kc_s_999, kc_s_1160, kc_s_1536, kc_s_3003, kc_lm11, kc_lm10, kc_lm9, kc_lm8, kc_lm7, kc_lm6, kc_lm5, kc_lm4, kc_lm3, kc_lm2, kc_lm1, kc_l1, kc_l2, kc_l3, kc_l4, kc_l5, kc_l6, kc_l7, kc_l8, kc_l9, kc_l10, kc_l11, kc_l12, kc_l13, kc_l14, kc_l37, kc_l42, kc_l43, kc_l45, kc_l47, kc_l60, kc_l61, kc_l62, kc_l316, kc_l318, kc_l65536, kc_l99999, kc_l1000000, kc_l252645135, kc_l858993459, kc_l1431655765, kc_0, kc_on, nx_lt, nx_le, nx_eq, nx_add, nx_sub, nx_mul, nx_cl, n_lt_ng, n_le_ng, n_eq_ng, ng_lt_n, ng_le_n, ng_eq_n, ng_eq, ng_lt, ng_le, nx_dec]
    refine sp_pos trivial ?_
    refine sp_call (r_adv_loop S w R hz0 hq hs K h6 hL T) ?_
    rintro (h1 | h1) hz
    · obtain ⟨f1, g1, L', c, st', l1, hL', T1, e1⟩ := hz
      dsimp only
      rw [sp_bd, sp_some, l1, nx_add]
      have T2 : stOK A (pm_setI h1 q 6 (nI (L' + 1))) q (L' + 1) ((c, 0, 0) :: st') := stOK_fr _ _ T1 (ri_j _ (by omega)) (fun x hx => ⟨fun j hj => ri_c _ (by omega), ri_c _ (by omega), ri_c _ (by omega)⟩)
      refine ⟨f1.setI (.inl rfl), .inr ⟨rfl, c, _, e1, ⟨?_, .inr ⟨?_, L' + 1, (c, 0, 0) :: st', ri_s _, by omega, T2, rfl⟩⟩, stOK_cur (ri_s _) T2⟩⟩
      · show h1.2.2.2 q 0 = some s
        rw [f1.r]; exact hs
      · show (pm_setI h1 q 6 (nI (L' + 1))).2.1 q 5 = nI 0
        rw [ri_j _ (by omega), g1, h5]
    · exact sp_some.mpr ⟨hz.1, .inl ⟨rfl, hz.2.2⟩⟩
/-- the rows that mean the order o -/
def enumO (A : Nat → Int32) (one oth thd : Nat → Nat) (o : Nat) : List (List Nat) := if cbm A o = true then enumR (mnA A) (an A 3) one oth thd (rowL A o) else []
theorem r_begin_sp (S : CSh h s A) (w : WFA A) (R : RF h) (hq : mi_o q 5 = true) {o : Nat} (ho : o < an A 2) : SP (r_begin q s (nI o) h) (fun h' => Fq (QC q) h h' ∧ (∀ k j, ¬ (k = q ∧ j = 0) → h'.2.2.2 k j = h.2.2.2 k j) ∧ RS A one oth thd h' q s (enumO A one oth thd o)) := by
  have hqv := rows_lt hq
  have hsv := hull_ge S.1
  have h2 := w.e2
  have h0 := w.e0
  have lo := w.o1 ho
  have lp := w.o1p ho
  unfold r_begin
  rw [sp_bd, sp_bd]
  generalize hh1 : pm_setI (pm_setR h q 0 (some s)) q 5 (Int32.ofInt 1) = h1
  have rf1 : ∀ k j, ¬ (k = q ∧ j = 0) → h1.2.2.2 k j = h.2.2.2 k j := by
    intro k j hkj
    rw [← hh1]
    show pm_up h.2.2.2 q 0 (some s) k j = _
    unfold pm_up
    by_cases e : k = q
    · rw [if_pos e, if_neg (fun e2 => hkj ⟨e, e2⟩)]
    · rw [if_neg e]
  have f1 : Fq (QC q) h h1 := by
    refine ⟨by rw [← hh1]; rfl, fun k j hj => rf1 k j (fun e => ?_), fun c hc => ⟨?_, by rw [← hh1]; rfl⟩⟩
    · have := hj e.2; omega
    · rw [← hh1]; funext j; exact ri_c _ (fun e => hc (.inl e))
  have R1 := R.fq f1
  have S1 := S.fq f1 (fun c a b => by unfold QC; omega)
  have s1 : h1.2.2.2 q 0 = some s := by rw [← hh1]; show pm_up h.2.2.2 q 0 (some s) q 0 = _; simp [pm_up]
  have g1 : h1.2.1 q 5 = nI 1 := by rw [← hh1, ri_s]; rfl
  clear hh1
  rw [c_canBeMeant S1 w R1 ho, Option.bind_some]
  have main : ∀ n, ((n = 0 ∧ cbm A o = false) ∨ (n = an A (58 + 6 * o + 1) ∧ cbm A o = true)) → SP (r_begin_29 q s (nI o) (nI n) q h1) (fun h' => Fr (QC q) h1 h' ∧ RS A one oth thd h' q s (enumO A one oth thd o)) := by
    intro n hn
    have hn4 : n ≤ 4 := by omega
    unfold r_begin_29
    rw [sp_bd]
    generalize hh2 : pm_setI h1 q 4 (nI n) = h2
    have f2 : Fr (QC q) h1 h2 := by rw [← hh2]; exact (Fr.refl _ _).setI (.inl rfl)
    have q4 : h2.2.1 q 4 = nI n := by rw [← hh2, ri_s]
    have q5 : h2.2.1 q 5 = nI 1 := by rw [← hh2, ri_j _ (by omega)]; exact g1
    clear hh2
    have key : SP (wh (fun z : (Int32 × pm_H) => r_begin_34 q s (nI o) z.1 z.2) (nI 0, h2)) (fun h3 => Fr (fun c => c = q + 1) h2 h3 ∧ ∀ j, j < n → h3.2.1 (q + 1) (n * 5 + j) = A (58 + 6 * o + 2 + j)) := by
      refine wh_cnt (fun i z => z.1 = nI i ∧ Fr (fun c => c = q + 1) h2 z.2 ∧ ∀ j, j < i → z.2.2.1 (q + 1) (n * 5 + j) = A (58 + 6 * o + 2 + j)) _ n ?_ ?_ 0 (nI 0, h2) (by omega) ⟨rfl, Fr.refl _ _, fun j hj => by omega⟩
      · rintro i ⟨x, h3⟩ hi ⟨rfl, f3, c3⟩
        dsimp only at f3 c3
        have R3 := (R1.fr f2).fr f3
        have S3 := (S1.fr f2 (fun c a b => by unfold QC; omega)).fr f3 (fun c a b => by omega)
        have l3 : h3.2.1 q 4 = nI n := by rw [f3.i _ (by omega)]; exact q4
        unfold r_begin_34
        simp (disch := omega) only [kc_im8, kc_im1, kc_i0, kc_i1, kc_i2, kc_i3, kc_i4, kc_i5, kc_b_m100, kc_b_m16, kc_b_m15, kc_b_m14, kc_b_m13, kc_b_m12, kc_b_m11, kc_b_m2, kc_b_6, kc_b_7, kc_b_8, kc_b_9, kc_b_10, kc_b_11, kc_b_12, kc_b_13, kc_b_14, kc_b_15, kc_b_16, kc_b_20, kc_b_24, kc_b_32, kc_b_37, kc_b_40, kc_b_42, kc_b_43, kc_b_45, kc_b_47, kc_b_48, kc_b_57, kc_b_58, kc_b_59, kc_b_60, kc_b_61, kc_b_62, kc_b_63, kc_b_91, kc_b_93, kc_b_97, kc_b_99, kc_b_100, kc_b_106, kc_b_122, kc_s_206, kc_s_226, kc_s_227, kc_s_255, kc_s_256, kc_s_316, kc_s_318, kc_s_400, kc_s_512, kc_s_999, kc_s_1160, kc_s_1536, kc_s_3003, kc_lm11, kc_lm10, kc_lm9, kc_lm8, kc_lm7, kc_lm6, kc_lm5, kc_lm4, kc_lm3, kc_lm2, kc_lm1, kc_l1, kc_l2, kc_l3, kc_l4, kc_l5, kc_l6, kc_l7, kc_l8, kc_l9, kc_l10, kc_l11, kc_l12, kc_l13, kc_l14, kc_l37, kc_l42, kc_l43, kc_l45, kc_l47, kc_l60, kc_l61, kc_l62, kc_l316, kc_l318, kc_l65536, kc_l99999, kc_l1000000, kc_l252645135, kc_l858993459, kc_l1431655765, kc_0, kc_on, l3, rf_r1 R3 hq, ln_r1 hq, Option.bind_some, c_rowWord S3 w R3 ho (by omega : i < an A (58 + 6 * o + 1)), nx_lt, nx_le, nx_eq, nx_add, nx_sub, nx_mul, nx_cl, n_lt_ng, n_le_ng, n_eq_ng, ng_lt_n, ng_le_n, ng_eq_n, ng_eq, ng_lt, ng_le, nx_dec, gi_n]
        refine sp_neg (by omega) (sp_pos (by simp; omega) ?_)
        rw [sp_bd, sp_some]
        refine ⟨rfl, f3.setI rfl, fun j hj => ?_⟩
        show (pm_setI h3 (q + 1) (n * 5 + i) (A (58 + 6 * o + 2 + i))).2.1 (q + 1) (n * 5 + j) = _
        by_cases e : j = i
        · subst e; rw [ri_s]
        · rw [ri_j _ (by omega)]; exact c3 j (by omega)
      · rintro ⟨x, h3⟩ ⟨rfl, f3, c3⟩
        dsimp only at f3 c3
        have l3 : h3.2.1 q 4 = nI n := by rw [f3.i _ (by omega)]; exact q4
        unfold r_begin_34
        simp (disch := omega) only [kc_im8, kc_im1, kc_i0, kc_i1, kc_i2, kc_i3, kc_i4, kc_i5, kc_b_m100, kc_b_m16, kc_b_m15, kc_b_m14, kc_b_m13, kc_b_m12, kc_b_m11, kc_b_m2, kc_b_6, kc_b_7, kc_b_8, kc_b_9, kc_b_10, kc_b_11, kc_b_12, kc_b_13, kc_b_14, kc_b_15, kc_b_16, kc_b_20, kc_b_24, kc_b_32, kc_b_37, kc_b_40, kc_b_42, kc_b_43, kc_b_45, kc_b_47, kc_b_48, kc_b_57, kc_b_58, kc_b_59, kc_b_60, kc_b_61, kc_b_62, kc_b_63, kc_b_91, kc_b_93, kc_b_97, kc_b_99, kc_b_100, kc_b_106, kc_b_122, kc_s_206, kc_s_226, kc_s_227, kc_s_255, kc_s_256, kc_s_316, kc_s_318, kc_s_400, kc_s_512, kc_s_999, kc_s_1160, kc_s_1536, kc_s_3003, kc_lm11, kc_lm10, kc_lm9, kc_lm8, kc_lm7, kc_lm6, kc_lm5, kc_lm4, kc_lm3, kc_lm2, kc_lm1, kc_l1, kc_l2, kc_l3, kc_l4, kc_l5, kc_l6, kc_l7, kc_l8, kc_l9, kc_l10, kc_l11, kc_l12, kc_l13, kc_l14, kc_l37, kc_l42, kc_l43, kc_l45, kc_l47, kc_l60, kc_l61, kc_l62, kc_l316, kc_l318, kc_l65536, kc_l99999, kc_l1000000, kc_l252645135, kc_l858993459, kc_l1431655765, kc_0, kc_on, l3, nx_lt, nx_le, nx_eq, nx_add, nx_sub, nx_mul, nx_cl, n_lt_ng, n_le_ng, n_eq_ng, ng_lt_n, ng_le_n, ng_eq_n, ng_eq, ng_lt, ng_le, nx_dec]
        exact sp_pos (by omega) (sp_some.mpr ⟨f3, c3⟩)
    refine sp_call key ?_
    rintro h3 ⟨f3, c3⟩
    have R3 := (R1.fr f2).fr f3
    have l3 : h3.2.1 q 4 = nI n := by rw [f3.i _ (by omega)]; exact q4
    have l5 : h3.2.1 q 5 = nI 1 := by rw [f3.i _ (by omega)]; exact q5
    have f3' : Fr (QC q) h1 h3 := f2.trans (f3.mono (fun c hc => .inr (.inl hc)))
    rw [sp_bd, l3]
    simp (disch := omega) only [kc_im8, kc_im1, kc_i0, kc_i1, kc_i2, kc_i3, kc_i4, kc_i5, kc_b_m100, kc_b_m16, kc_b_m15, kc_b_m14, kc_b_m13, kc_b_m12, kc_b_m11, kc_b_m2, kc_b_6, kc_b_7, kc_b_8, kc_b_9, kc_b_10, kc_b_11, kc_b_12, kc_b_13, kc_b_14, kc_b_15, kc_b_16, kc_b_20, kc_b_24, kc_b_32, kc_b_37, kc_b_40, kc_b_42, kc_b_43, kc_b_45, kc_b_47, kc_b_48, kc_b_57, kc_b_58, kc_b_59, kc_b_60, kc_b_61, kc_b_62, kc_b_63, kc_b_91, kc_b_93, kc_b_97, kc_b_99, kc_b_100, kc_b_106, kc_b_122, kc_s_206, kc_s_226, kc_s_227, kc_s_255, kc_s_256, kc_s_316, kc_s_318, kc_s_400, kc_s_512, kc_s_999, kc_s_1160, kc_s_1536, kc_s_3003, kc_lm11, kc_lm10, kc_lm9, kc_lm8, kc_lm7, kc_lm6, kc_lm5, kc_lm4, kc_lm3, kc_lm2, kc_lm1, kc_l1, kc_l2, kc_l3, kc_l4, kc_l5, kc_l6, kc_l7, kc_l8, kc_l9, kc_l10, kc_l11, kc_l12, kc_l13, kc_l14, kc_l37, kc_l42, kc_l43, kc_l45, kc_l47, kc_l60, kc_l61, kc_l62, kc_l316, kc_l318, kc_l65536, kc_l99999, kc_l1000000, kc_l252645135, kc_l858993459, kc_l1431655765, kc_0, kc_on, rf_r2 R3.setI hq, ln_r2 hq, Option.bind_some, ri_j, l3, nx_lt, nx_le, nx_eq, nx_add, nx_sub, nx_mul, nx_cl, n_lt_ng, n_le_ng, n_eq_ng, ng_lt_n, ng_le_n, ng_eq_n, ng_eq, ng_lt, ng_le, nx_dec, gi_n]
    refine sp_pos (by simp; omega) ?_
    rw [sp_bd]
    simp (disch := omega) only [rf_r3 R3.setI.setI hq, ln_r3 hq, Option.bind_some, ri_c, ri_j, l3, nx_lt, nx_le, nx_eq, nx_add, nx_sub, nx_mul, nx_cl, n_lt_ng, n_le_ng, n_eq_ng, ng_lt_n, ng_le_n, ng_eq_n, ng_eq, ng_lt, ng_le, nx_dec, gi_n]
    refine sp_pos (by simp; omega) ?_
    rw [sp_bd, sp_some]
    refine ⟨((f3'.setI (.inl rfl)).setI (.inr (.inr (.inl rfl)))).setI (.inr (.inr (.inr rfl))), ?_, .inl ⟨?_, ?_⟩⟩
    · show h3.2.2.2 q 0 = some s
      rw [f3'.r]; exact s1
    · rw [ri_c _ (by omega), ri_c _ (by omega), ri_j _ (by omega)]; exact l5
    · rcases hn with ⟨rfl, hc⟩ | ⟨rfl, hc⟩
      · refine .inl ⟨by rw [ri_c _ (by omega), ri_c _ (by omega), ri_s], ?_⟩
        unfold enumO
        rw [hc]
        rfl
      · have hrl : (rowL A o).length = an A (58 + 6 * o + 1) := tl_len _ _
        refine .inr ⟨rowL A o, ?_, ?_, ?_⟩
        · rw [ri_c _ (by omega), ri_c _ (by omega), ri_s, hrl]
        · rw [hrl]
          refine ⟨hrl, by omega, lp, fun j hj => ?_, ?_, Nat.zero_le _, ri_s _, by dsimp only; omega, fun j hj => by dsimp only at hj; omega, ?_⟩
          · dsimp only
            have ww := w.o2 ho hj
            rw [ri_c _ (by omega), ri_c _ (by omega), ri_c _ (by omega), c3 j hj, ww.1]
            rw [show (rowL A o).getD j 0 = an A (58 + 6 * o + 2 + j) from tl_getD _ hj]
            exact ⟨rfl, by omega⟩
          · rw [ri_c _ (by omega), ri_s]
          · show _ = nI (an A (58 + 6 * o + 1) - 1 + 1)
            rw [ri_c _ (by omega), ri_c _ (by omega), ri_j _ (by omega), l3, show an A (58 + 6 * o + 1) - 1 + 1 = an A (58 + 6 * o + 1) from by omega]
        · unfold enumO
          rw [if_pos hc, enumR, remSt, remSt, restOf_desc, List.append_nil]
  cases hc : cbm A o with
  | false =>
    refine sp_pos rfl ((main 0 (.inl ⟨rfl, hc⟩)).mono ?_)
    rintro h' ⟨f, H⟩
    exact ⟨f1.trans f.q, fun k j hkj => by rw [f.r]; exact rf1 k j hkj, H⟩
  | true =>
    refine sp_neg (by show ¬ nI 1 = nI 0; rw [nx_eq (by omega) (by omega)]; omega) ?_
    simp (disch := omega) only [rf_s7 R1 S1.1, ln_s7 S1.1, Option.bind_some, nx_lt, nx_le, nx_eq, nx_add, nx_sub, nx_mul, nx_cl, n_lt_ng, n_le_ng, n_eq_ng, ng_lt_n, ng_le_n, ng_eq_n, ng_eq, ng_lt, ng_le, nx_dec, gi_n, (S1.2.2.2.2.2.2.1 o ho).2.1, lo.1]
    refine sp_pos (by simp; omega) ((main _ (.inr ⟨rfl, hc⟩)).mono ?_)
    rintro h' ⟨f, H⟩
    exact ⟨f1.trans f.q, fun k j hkj => by rw [f.r]; exact rf1 k j hkj, H⟩
end RB
