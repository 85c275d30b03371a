/-! The program's ship: what a row means, which order it is. -/
section FIND
variable {S R : Type}
theorem wh_find {f : S → Option (S ⊕ R)} (st : Nat → S) (e : Nat → R) (r : R) (p : Nat → Bool) (n : Nat) (hs : ∀ i, i < n → f (st i) = if p i = true then some (.inr (e i)) else some (.inl (st (i + 1)))) (he : f (st n) = some (.inr r)) : wh f (st 0) = some (match (List.range n).find? p with | some i => e i | none => r) := by
  cases hf : (List.range n).find? p with
  | none =>
    refine wh_for st n 0 (by omega) (fun i _ hi => ?_) he
    rw [hs i hi, if_neg]
    simpa using List.find?_range_eq_none.mp hf i hi
  | some k =>
    have hk := List.find?_range_eq_some.mp hf
    refine wh_for st k 0 (by omega) (fun i _ hi => ?_) ?_
    · rw [hs i (by have := List.mem_range.mp hk.2.1; omega), if_neg]
      simpa using hk.2.2 i hi
    · rw [hs k (List.mem_range.mp hk.2.1), if_pos hk.1]
end FIND
theorem find_all {p : Nat → Bool} {n : Nat} : (List.range n).find? p = none ↔ ∀ i, i < n → p i = false := by
  rw [List.find?_range_eq_none]
  simp
section CS2
variable {h : pm_H} {s : Nat} {A : Nat → Int32}
theorem c_shift {r left a : Nat} {g : Nat → Nat} (hr : mi_n r = 5) (hl : left ≤ 5) (ha : a + 1 < left) (hg : ∀ i, i < left → h.2.1 r i = nI (g i)) : SP (wh (fun q : (Int32 × pm_H) => s_settle_49 s r (nI left) q.1 q.2) (nI (a + 1), h)) (fun h' => Fr (· = r) h h' ∧ ∀ j, j < left - 1 → h'.2.1 r j = if j ≤ a then nI (g j) else nI (g (j + 1))) := by
  refine wh_cnt (fun i q => a < i ∧ q.1 = nI i ∧ Fr (· = r) h q.2 ∧ ∀ j, j < left → q.2.2.1 r j = if a < j ∧ j < i then nI (g (j + 1)) else nI (g j)) _ (left - 1) ?_ ?_ (a + 1) (nI (a + 1), h) (by omega) ⟨by omega, rfl, Fr.refl _ _, fun j hj => ?_⟩
  · rintro i ⟨q1, q2⟩ hi ⟨hai, rfl, hf, hc⟩
    unfold s_settle_49
    simp (disch := omega) only [kc_im8, kc_im1, kc_i0, kc_i1, kc_i2, kc_i3, kc_i4, kc_i5, kc_b_m100, kc_b_m16, kc_b_m15, kc_b_m14, kc_b_m13, kc_b_m12, kc_b_m11, kc_b_m2, kc_b_6, kc_b_7, kc_b_8, kc_b_9, kc_b_10, kc_b_11, kc_b_12, kc_b_13, kc_b_14, kc_b_15, kc_b_16, kc_b_20, kc_b_24, kc_b_32, kc_b_37, kc_b_40, kc_b_42, kc_b_43, kc_b_45, kc_b_47, kc_b_48, kc_b_57, kc_b_58, kc_b_59, kc_b_60, kc_b_61, kc_b_62, kc_b_63, kc_b_91, kc_b_93, kc_b_97, kc_b_99, kc_b_100, kc_b_106, kc_b_122, kc_s_206, kc_s_226, kc_s_227, kc_s_255, kc_s_256, kc_s_316, kc_s_318, kc_s_400, kc_s_512, kc_s_999, kc_s_1160, kc_s_1536, kc_s_3003, kc_lm11, kc_lm10, kc_lm9, kc_lm8, kc_lm7, kc_lm6, kc_lm5, kc_lm4, kc_lm3, kc_lm2, kc_lm1, kc_l1, kc_l2, kc_l3, kc_l4, kc_l5, kc_l6, kc_l7, kc_l8, kc_l9, kc_l10, kc_l11, kc_l12, kc_l13, kc_l14, kc_l37, kc_l42, kc_l43, kc_l45, kc_l47, kc_l60, kc_l61, kc_l62, kc_l316, kc_l318, kc_l65536, kc_l99999, kc_l1000000, kc_l252645135, kc_l858993459, kc_l1431655765, kc_0, kc_on, hr, nx_lt, nx_le, nx_eq, nx_add, nx_sub, nx_mul, nx_cl, n_lt_ng, n_le_ng, n_eq_ng, ng_lt_n, ng_le_n, ng_eq_n, ng_eq, ng_lt, ng_le, nx_dec, gi_n]
    refine sp_neg (by omega) (sp_pos (by simp; omega) (sp_pos (by simp; omega) ?_))
    rw [sp_bd, sp_some]
    refine ⟨by omega, rfl, hf.setI rfl, fun j hj => ?_⟩
    have h1 := hc (i + 1) (by omega)
    rw [if_neg (by omega)] at h1
    show (pm_setI q2 r i (q2.2.1 r (i + 1))).2.1 r j = _
    rw [h1]
    by_cases hji : j = i
    · subst hji
      rw [ri_s]
      rw [if_pos (by omega)]
    · rw [ri_j _ hji, hc j hj]
      by_cases hx : a < j ∧ j < i
      · rw [if_pos hx, if_pos (by omega)]
      · rw [if_neg hx, if_neg (by omega)]
  · rintro ⟨q1, q2⟩ ⟨_, rfl, hf, hc⟩
    unfold s_settle_49
    simp (disch := omega) only [kc_im8, kc_im1, kc_i0, kc_i1, kc_i2, kc_i3, kc_i4, kc_i5, kc_b_m100, kc_b_m16, kc_b_m15, kc_b_m14, kc_b_m13, kc_b_m12, kc_b_m11, kc_b_m2, kc_b_6, kc_b_7, kc_b_8, kc_b_9, kc_b_10, kc_b_11, kc_b_12, kc_b_13, kc_b_14, kc_b_15, kc_b_16, kc_b_20, kc_b_24, kc_b_32, kc_b_37, kc_b_40, kc_b_42, kc_b_43, kc_b_45, kc_b_47, kc_b_48, kc_b_57, kc_b_58, kc_b_59, kc_b_60, kc_b_61, kc_b_62, kc_b_63, kc_b_91, kc_b_93, kc_b_97, kc_b_99, kc_b_100, kc_b_106, kc_b_122, kc_s_206, kc_s_226, kc_s_227, kc_s_255, kc_s_256, kc_s_316, kc_s_318, kc_s_400, kc_s_512, kc_s_999, kc_s_1160, kc_s_1536, kc_s_3003, kc_lm11, kc_lm10, kc_lm9, kc_lm8, kc_lm7, kc_lm6, kc_lm5, kc_lm4, kc_lm3, kc_lm2, kc_lm1, kc_l1, kc_l2, kc_l3, kc_l4, kc_l5, kc_l6, kc_l7, kc_l8, kc_l9, kc_l10, kc_l11, kc_l12, kc_l13, kc_l14, kc_l37, kc_l42, kc_l43, kc_l45, kc_l47, kc_l60, kc_l61, kc_l62, kc_l316, kc_l318, kc_l65536, kc_l99999, kc_l1000000, kc_l252645135, kc_l858993459, kc_l1431655765, kc_0, kc_on, hr, nx_lt, nx_le, nx_eq, nx_add, nx_sub, nx_mul, nx_cl, n_lt_ng, n_le_ng, n_eq_ng, ng_lt_n, ng_le_n, ng_eq_n, ng_eq, ng_lt, ng_le, nx_dec, gi_n]
    refine sp_pos (by omega) (sp_some.mpr ⟨hf, fun j hj => ?_⟩)
    rw [hc j (by omega)]
    by_cases hx : j ≤ a
    · rw [if_pos hx, if_neg (by omega)]
    · rw [if_neg hx, if_pos (by omega)]
  · rw [if_neg (by omega)]
    exact hg j hj
theorem c_settle (S : CSh h s A) (w : WFA A) (R : RF h) (hz : 0 < an A 0) {r n : Nat} {g : Nat → Nat} (hr : mi_n r = 5) (hrs : r < 108) (hn : n ≤ 5) (hg : ∀ i, i < n → h.2.1 r i = nI (g i) ∧ g i < 10) : SP (s_settle s r (nI n) h) (fun q => ∃ k g', q.1 = nI k ∧ k ≤ n ∧ Fr (· = r) h q.2 ∧ (∀ i, i < k → q.2.2.1 r i = nI (g' i) ∧ g' i < 10) ∧ tl g' k = meaning (mnA A) (tl g n)) := by
  have hs := hull_ge S.1
  have h0 := w.e0
  unfold s_settle
  simp (disch := omega) only [kc_im8, kc_im1, kc_i0, kc_i1, kc_i2, kc_i3, kc_i4, kc_i5, kc_b_m100, kc_b_m16, kc_b_m15, kc_b_m14, kc_b_m13, kc_b_m12, kc_b_m11, kc_b_m2, kc_b_6, kc_b_7, kc_b_8, kc_b_9, kc_b_10, kc_b_11, kc_b_12, kc_b_13, kc_b_14, kc_b_15, kc_b_16, kc_b_20, kc_b_24, kc_b_32, kc_b_37, kc_b_40, kc_b_42, kc_b_43, kc_b_45, kc_b_47, kc_b_48, kc_b_57, kc_b_58, kc_b_59, kc_b_60, kc_b_61, kc_b_62, kc_b_63, kc_b_91, kc_b_93, kc_b_97, kc_b_99, kc_b_100, kc_b_106, kc_b_122, kc_s_206, kc_s_226, kc_s_227, kc_s_255, kc_s_256, kc_s_316, kc_s_318, kc_s_400, kc_s_512, kc_s_999, kc_s_1160, kc_s_1536, kc_s_3003, kc_lm11, kc_lm10, kc_lm9, kc_lm8, kc_lm7, kc_lm6, kc_lm5, kc_lm4, kc_lm3, kc_lm2, kc_lm1, kc_l1, kc_l2, kc_l3, kc_l4, kc_l5, kc_l6, kc_l7, kc_l8, kc_l9, kc_l10, kc_l11, kc_l12, kc_l13, kc_l14, kc_l37, kc_l42, kc_l43, kc_l45, kc_l47, kc_l60, kc_l61, kc_l62, kc_l316, kc_l318, kc_l65536, kc_l99999, kc_l1000000, kc_l252645135, kc_l858993459, kc_l1431655765, kc_0, kc_on, hr, nx_lt, nx_le, nx_eq, nx_add, nx_sub, nx_mul, nx_cl, n_lt_ng, n_le_ng, n_eq_ng, ng_lt_n, ng_le_n, ng_eq_n, ng_eq, ng_lt, ng_le, nx_dec]
  rw [if_neg (by omega), c_firstPair S w R hz hr hn hg]
  rw [Option.bind_some]
  refine sp_call (P := fun q => ∃ k g', q.1 = nI k ∧ k ≤ n ∧ Fr (· = r) h q.2 ∧ (∀ i, i < k → q.2.2.1 r i = nI (g' i) ∧ g' i < 10) ∧ tl g' k = meaning (mnA A) (tl g n)) ?_ (fun q hq => sp_some.mpr hq)
  refine wh_sp (fun st : Int32 × Int32 × pm_H => ∃ k g', st.1 = nI k ∧ st.2.1 = fpA A g' k ∧ k ≤ n ∧ Fr (· = r) h st.2.2 ∧ (∀ i, i < k → st.2.2.2.1 r i = nI (g' i) ∧ g' i < 10) ∧ meaning (mnA A) (tl g' k) = meaning (mnA A) (tl g n)) (fun st => st.1.toNatClampNeg) _ ?_ ⟨n, g, rfl, rfl, by omega, Fr.refl _ _, hg, rfl⟩
  rintro ⟨x, y, h1⟩ ⟨k, g', rfl, rfl, hk, hf, hc, hm⟩
  have S1 : CSh h1 s A := S.fr hf (fun c h1 h2 => by omega)
  have R1 : RF h1 := R.fr hf
  unfold s_settle_15
  unfold fpA
  cases hfd : (List.range (k - 1)).find? (fun i => (mnA A (g' i) (g' (i + 1))).isSome) with
  | none =>
    simp (disch := omega) only [kc_im8, kc_im1, kc_i0, kc_i1, kc_i2, kc_i3, kc_i4, kc_i5, kc_b_m100, kc_b_m16, kc_b_m15, kc_b_m14, kc_b_m13, kc_b_m12, kc_b_m11, kc_b_m2, kc_b_6, kc_b_7, kc_b_8, kc_b_9, kc_b_10, kc_b_11, kc_b_12, kc_b_13, kc_b_14, kc_b_15, kc_b_16, kc_b_20, kc_b_24, kc_b_32, kc_b_37, kc_b_40, kc_b_42, kc_b_43, kc_b_45, kc_b_47, kc_b_48, kc_b_57, kc_b_58, kc_b_59, kc_b_60, kc_b_61, kc_b_62, kc_b_63, kc_b_91, kc_b_93, kc_b_97, kc_b_99, kc_b_100, kc_b_106, kc_b_122, kc_s_206, kc_s_226, kc_s_227, kc_s_255, kc_s_256, kc_s_316, kc_s_318, kc_s_400, kc_s_512, kc_s_999, kc_s_1160, kc_s_1536, kc_s_3003, kc_lm11, kc_lm10, kc_lm9, kc_lm8, kc_lm7, kc_lm6, kc_lm5, kc_lm4, kc_lm3, kc_lm2, kc_lm1, kc_l1, kc_l2, kc_l3, kc_l4, kc_l5, kc_l6, kc_l7, kc_l8, kc_l9, kc_l10, kc_l11, kc_l12, kc_l13, kc_l14, kc_l37, kc_l42, kc_l43, kc_l45, kc_l47, kc_l60, kc_l61, kc_l62, kc_l316, kc_l318, kc_l65536, kc_l99999, kc_l1000000, kc_l252645135, kc_l858993459, kc_l1431655765, kc_0, kc_on, nx_lt, nx_le, nx_eq, nx_add, nx_sub, nx_mul, nx_cl, n_lt_ng, n_le_ng, n_eq_ng, ng_lt_n, ng_le_n, ng_eq_n, ng_eq, ng_lt, ng_le, nx_dec, if_true]
    refine sp_some.mpr ⟨k, g', rfl, hk, hf, hc, ?_⟩
    rw [← hm]
    refine (mean_fix _ (mstep_none _ _ _ (fun j hj => ?_))).symm
    have := List.find?_range_eq_none.mp hfd j (by omega)
    simpa using this
  | some i =>
    have hi := List.find?_range_eq_some.mp hfd
    have hi1 : i < k - 1 := List.mem_range.mp hi.2.1
    obtain ⟨c, hcc⟩ := Option.isSome_iff_exists.mp hi.1
    have hc10 : c < 10 := by have := (w.mn_lt hcc).1; omega
    simp (disch := omega) only [kc_im8, kc_im1, kc_i0, kc_i1, kc_i2, kc_i3, kc_i4, kc_i5, kc_b_m100, kc_b_m16, kc_b_m15, kc_b_m14, kc_b_m13, kc_b_m12, kc_b_m11, kc_b_m2, kc_b_6, kc_b_7, kc_b_8, kc_b_9, kc_b_10, kc_b_11, kc_b_12, kc_b_13, kc_b_14, kc_b_15, kc_b_16, kc_b_20, kc_b_24, kc_b_32, kc_b_37, kc_b_40, kc_b_42, kc_b_43, kc_b_45, kc_b_47, kc_b_48, kc_b_57, kc_b_58, kc_b_59, kc_b_60, kc_b_61, kc_b_62, kc_b_63, kc_b_91, kc_b_93, kc_b_97, kc_b_99, kc_b_100, kc_b_106, kc_b_122, kc_s_206, kc_s_226, kc_s_227, kc_s_255, kc_s_256, kc_s_316, kc_s_318, kc_s_400, kc_s_512, kc_s_999, kc_s_1160, kc_s_1536, kc_s_3003, kc_lm11, kc_lm10, kc_lm9, kc_lm8, kc_lm7, kc_lm6, kc_lm5, kc_lm4, kc_lm3, kc_lm2, kc_lm1, kc_l1, kc_l2, kc_l3, kc_l4, kc_l5, kc_l6, kc_l7, kc_l8, kc_l9, kc_l10, kc_l11, kc_l12, kc_l13, kc_l14, kc_l37, kc_l42, kc_l43, kc_l45, kc_l47, kc_l60, kc_l61, kc_l62, kc_l316, kc_l318, kc_l65536, kc_l99999, kc_l1000000, kc_l252645135, kc_l858993459, kc_l1431655765, kc_0, kc_on, hr, nx_lt, nx_le, nx_eq, nx_add, nx_sub, nx_mul, nx_cl, n_lt_ng, n_le_ng, n_eq_ng, ng_lt_n, ng_le_n, ng_eq_n, ng_eq, ng_lt, ng_le, nx_dec, gi_n]
    refine sp_neg (by omega) (sp_neg (by omega) (sp_pos (by simp; omega) (sp_pos (by simp; omega) ?_)))
    rw [(hc i (by omega)).1, (hc (i + 1) (by omega)).1, c_pair S1 w R1 hz (hc i (by omega)).2 (hc (i + 1) (by omega)).2, Option.bind_some]
    refine sp_pos (by simp; omega) ?_
    rw [sp_bd]
    have hpr : pr A (g' i) (g' (i + 1)) = nI c := by unfold pr; rw [hcc]
    rw [hpr]
    refine sp_call (c_shift (s := s) (a := i) (left := k) (g := fun j => if j = i then c else g' j) hr (by omega) (by omega) (fun j hj => ?_)) ?_
    · by_cases hji : j = i
      · subst hji; rw [ri_s, if_pos rfl]
      · rw [ri_j _ hji, if_neg hji]; exact (hc j hj).1
    · rintro h2 ⟨hf2, hc2⟩
      have hf3 : Fr (· = r) h h2 := (hf.setI rfl).trans hf2
      have hc3 : ∀ j, j < k - 1 → h2.2.1 r j = nI ((fun j => if j < i then g' j else if j = i then c else g' (j + 1)) j) ∧ (fun j => if j < i then g' j else if j = i then c else g' (j + 1)) j < 10 := by
        intro j hj
        rw [hc2 j hj]
        by_cases h1 : j < i
        · have e1 : j ≤ i := by omega
          have e2 : ¬ j = i := by omega
          simp only [h1, e1, e2, if_true, if_false]; exact ⟨trivial, (hc j (by omega)).2⟩
        · by_cases h2 : j = i
          · simp only [h2, Nat.lt_irrefl, Nat.le_refl, if_true, if_false]; exact ⟨trivial, hc10⟩
          · have e1 : ¬ j ≤ i := by omega
            have e2 : ¬ j + 1 = i := by omega
            simp only [h1, h2, e1, e2, if_false]; exact ⟨trivial, (hc (j + 1) (by omega)).2⟩
      rw [c_firstPair (S.fr hf3 (fun c h1 h2 => by omega)) w (R.fr hf3) hz hr (by omega) hc3, Option.bind_some, sp_some]
      refine ⟨⟨k - 1, _, rfl, rfl, by omega, hf3, hc3, ?_⟩, ?_⟩
      · rw [← hm]
        refine (mean_step _ (mstep_some _ i k g' c (by omega) (fun j hj => ?_) hcc)).symm
        simpa using hi.2.2 j hj
      · show (nI (k - 1)).toNatClampNeg < k
        rw [nx_cl (by omega)]
        omega
theorem c_isRow (S : CSh h s A) (w : WFA A) (R : RF h) {r n o : Nat} {g : Nat → Nat} (hr : mi_n r = 5) (hn : n ≤ 5) (hg : ∀ i, i < n → h.2.1 r i = nI (g i) ∧ g i < 10) (ho : o < an A 2) : s_isRow s (nI o) r (nI n) h = some (nI (rowL A o == tl g n).toNat) := by
  have h2 := w.e2
  have h0 := w.e0
  have h3 := w.o1 ho
  unfold s_isRow
  simp (disch := omega) only [c_hasOrder_t S w ho, kc_im8, kc_im1, kc_i0, kc_i1, kc_i2, kc_i3, kc_i4, kc_i5, kc_b_m100, kc_b_m16, kc_b_m15, kc_b_m14, kc_b_m13, kc_b_m12, kc_b_m11, kc_b_m2, kc_b_6, kc_b_7, kc_b_8, kc_b_9, kc_b_10, kc_b_11, kc_b_12, kc_b_13, kc_b_14, kc_b_15, kc_b_16, kc_b_20, kc_b_24, kc_b_32, kc_b_37, kc_b_40, kc_b_42, kc_b_43, kc_b_45, kc_b_47, kc_b_48, kc_b_57, kc_b_58, kc_b_59, kc_b_60, kc_b_61, kc_b_62, kc_b_63, kc_b_91, kc_b_93, kc_b_97, kc_b_99, kc_b_100, kc_b_106, kc_b_122, kc_s_206, kc_s_226, kc_s_227, kc_s_255, kc_s_256, kc_s_316, kc_s_318, kc_s_400, kc_s_512, kc_s_999, kc_s_1160, kc_s_1536, kc_s_3003, kc_lm11, kc_lm10, kc_lm9, kc_lm8, kc_lm7, kc_lm6, kc_lm5, kc_lm4, kc_lm3, kc_lm2, kc_lm1, kc_l1, kc_l2, kc_l3, kc_l4, kc_l5, kc_l6, kc_l7, kc_l8, kc_l9, kc_l10, kc_l11, kc_l12, kc_l13, kc_l14, kc_l37, kc_l42, kc_l43, kc_l45, kc_l47, kc_l60, kc_l61, kc_l62, kc_l316, kc_l318, kc_l65536, kc_l99999, kc_l1000000, kc_l252645135, kc_l858993459, kc_l1431655765, kc_0, kc_on, rf_s7 R S.1, ln_s7 S.1, hr, nx_lt, nx_le, nx_eq, nx_add, nx_sub, nx_mul, nx_cl, n_lt_ng, n_le_ng, n_eq_ng, ng_lt_n, ng_le_n, ng_eq_n, ng_eq, ng_lt, ng_le, nx_dec, Option.bind_some, gi_n, (S.2.2.2.2.2.2.1 o ho).2.1, h3.1]
  rw [if_neg (by omega), if_pos (by simp; omega)]
  by_cases hl : an A (58 + 6 * o + 1) = n
  · rw [if_neg (by omega), if_pos (by omega)]
    have key := wh_find (f := fun q : Int32 => s_isRow_29 s (nI o) r (nI n) q h) (fun i => nI i) (fun _ => (Sum.inl () : Unit ⊕ Unit)) (.inr ()) (fun i => decide (an A (58 + 6 * o + 2 + i) ≠ g i)) n (fun i hi => ?_) ?_
    · rw [key]
      cases hf : (List.range n).find? (fun i => decide (an A (58 + 6 * o + 2 + i) ≠ g i)) with
      | none =>
        have : rowL A o = tl g n := by
          unfold rowL
          rw [tl_inj]
          exact ⟨hl, fun i hi => by simpa using find_all.mp hf i (by omega)⟩
        rw [this]
        simp
      | some k =>
        have hk := List.find?_range_eq_some.mp hf
        have : ¬ rowL A o = tl g n := by
          unfold rowL
          rw [tl_inj]
          rintro ⟨_, q⟩
          have := q k (by have := List.mem_range.mp hk.2.1; omega)
          have h1 := hk.1
          simp [this] at h1
        rw [beq_eq_false_iff_ne.mpr this]
        rfl
    · unfold s_isRow_29
      simp (disch := omega) only [kc_im8, kc_im1, kc_i0, kc_i1, kc_i2, kc_i3, kc_i4, kc_i5, kc_b_m100, kc_b_m16, kc_b_m15, kc_b_m14, kc_b_m13, kc_b_m12, kc_b_m11, kc_b_m2, kc_b_6, kc_b_7, kc_b_8, kc_b_9, kc_b_10, kc_b_11, kc_b_12, kc_b_13, kc_b_14, kc_b_15, kc_b_16, kc_b_20, kc_b_24, kc_b_32, kc_b_37, kc_b_40, kc_b_42, kc_b_43, kc_b_45, kc_b_47, kc_b_48, kc_b_57, kc_b_58, kc_b_59, kc_b_60, kc_b_61, kc_b_62, kc_b_63, kc_b_91, kc_b_93, kc_b_97, kc_b_99, kc_b_100, kc_b_106, kc_b_122, kc_s_206, kc_s_226, kc_s_227, kc_s_255, kc_s_256, kc_s_316, kc_s_318, kc_s_400, kc_s_512, kc_s_999, kc_s_1160, kc_s_1536, kc_s_3003, kc_lm11, kc_lm10, kc_lm9, kc_lm8, kc_lm7, kc_lm6, kc_lm5, kc_lm4, kc_lm3, kc_lm2, kc_lm1, kc_l1, kc_l2, kc_l3, kc_l4, kc_l5, kc_l6, kc_l7, kc_l8, kc_l9, kc_l10, kc_l11, kc_l12, kc_l13, kc_l14, kc_l37, kc_l42, kc_l43, kc_l45, kc_l47, kc_l60, kc_l61, kc_l62, kc_l316, kc_l318, kc_l65536, kc_l99999, kc_l1000000, kc_l252645135, kc_l858993459, kc_l1431655765, kc_0, kc_on, hr, nx_lt, nx_le, nx_eq, nx_add, nx_sub, nx_mul, nx_cl, n_lt_ng, n_le_ng, n_eq_ng, ng_lt_n, ng_le_n, ng_eq_n, ng_eq, ng_lt, ng_le, nx_dec, gi_n]
      have hw := w.o2 ho (i := i) (by omega)
      have hgi := (hg i hi).2
      rw [if_neg (by omega), c_rowWord S w R ho (by omega), Option.bind_some, if_pos (by simp; omega), (hg i hi).1, hw.1]
      simp (disch := omega) only [nx_lt, nx_le, nx_eq, nx_add, nx_sub, nx_mul, nx_cl, n_lt_ng, n_le_ng, n_eq_ng, ng_lt_n, ng_le_n, ng_eq_n, ng_eq, ng_lt, ng_le, nx_dec]
      by_cases hq : an A (58 + 6 * o + 2 + i) = g i
      · rw [if_pos hq]; simp [hq]
      · rw [if_neg hq]; simp [hq]
    · unfold s_isRow_29
      simp (disch := omega) only [kc_im8, kc_im1, kc_i0, kc_i1, kc_i2, kc_i3, kc_i4, kc_i5, kc_b_m100, kc_b_m16, kc_b_m15, kc_b_m14, kc_b_m13, kc_b_m12, kc_b_m11, kc_b_m2, kc_b_6, kc_b_7, kc_b_8, kc_b_9, kc_b_10, kc_b_11, kc_b_12, kc_b_13, kc_b_14, kc_b_15, kc_b_16, kc_b_20, kc_b_24, kc_b_32, kc_b_37, kc_b_40, kc_b_42, kc_b_43, kc_b_45, kc_b_47, kc_b_48, kc_b_57, kc_b_58, kc_b_59, kc_b_60, kc_b_61, kc_b_62, kc_b_63, kc_b_91, kc_b_93, kc_b_97, kc_b_99, kc_b_100, kc_b_106, kc_b_122, kc_s_206, kc_s_226, kc_s_227, kc_s_255, kc_s_256, kc_s_316, kc_s_318, kc_s_400, kc_s_512, kc_s_999, kc_s_1160, kc_s_1536, kc_s_3003, kc_lm11, kc_lm10, kc_lm9, kc_lm8, kc_lm7, kc_lm6, kc_lm5, kc_lm4, kc_lm3, kc_lm2, kc_lm1, kc_l1, kc_l2, kc_l3, kc_l4, kc_l5, kc_l6, kc_l7, kc_l8, kc_l9, kc_l10, kc_l11, kc_l12, kc_l13, kc_l14, kc_l37, kc_l42, kc_l43, kc_l45, kc_l47, kc_l60, kc_l61, kc_l62, kc_l316, kc_l318, kc_l65536, kc_l99999, kc_l1000000, kc_l252645135, kc_l858993459, kc_l1431655765, kc_0, kc_on, hr, nx_lt, nx_le, nx_eq, nx_add, nx_sub, nx_mul, nx_cl, n_lt_ng, n_le_ng, n_eq_ng, ng_lt_n, ng_le_n, ng_eq_n, ng_eq, ng_lt, ng_le, nx_dec, gi_n]
      rw [if_pos (by omega)]
  · rw [if_pos hl]
    have : ¬ rowL A o = tl g n := by
      unfold rowL
      rw [tl_inj]
      rintro ⟨q, _⟩
      exact hl q
    rw [beq_eq_false_iff_ne.mpr this]
    rfl
theorem c_orderOf (S : CSh h s A) (w : WFA A) (R : RF h) {r n : Nat} {g : Nat → Nat} (hr : mi_n r = 5) (hn : n ≤ 5) (hg : ∀ i, i < n → h.2.1 r i = nI (g i) ∧ g i < 10) : s_orderOf s r (nI n) h = some (match ordOf A (tl g n) with | some o => nI o | none => ng 2) := by
  have h2 := w.e2
  unfold s_orderOf
  have key := wh_find (f := fun q : Int32 => s_orderOf_2 s r (nI n) q h) (fun i => nI i) (fun i => (Sum.inl (nI i) : Int32 ⊕ Unit)) (.inr ()) (fun o => rowL A o == tl g n) (an A 2) (fun i hi => ?_) ?_
  · simp only [kc_im8, kc_im1, kc_i0, kc_i1, kc_i2, kc_i3, kc_i4, kc_i5, kc_b_m100, kc_b_m16, kc_b_m15, kc_b_m14, kc_b_m13, kc_b_m12, kc_b_m11, kc_b_m2, kc_b_6, kc_b_7, kc_b_8, kc_b_9, kc_b_10, kc_b_11, kc_b_12, kc_b_13, kc_b_14, kc_b_15, kc_b_16, kc_b_20, kc_b_24, kc_b_32, kc_b_37, kc_b_40, kc_b_42, kc_b_43, kc_b_45, kc_b_47, kc_b_48, kc_b_57, kc_b_58, kc_b_59, kc_b_60, kc_b_61, kc_b_62, kc_b_63, kc_b_91, kc_b_93, kc_b_97, kc_b_99, kc_b_100, kc_b_106, kc_b_122, kc_s_206, kc_s_226, kc_s_227, kc_s_255, kc_s_256, kc_s_316, kc_s_318, kc_s_400, kc_s_512, kc_s_999, kc_s_1160, kc_s_1536, kc_s_3003, kc_lm11, kc_lm10, kc_lm9, kc_lm8, kc_lm7, kc_lm6, kc_lm5, kc_lm4, kc_lm3, kc_lm2, kc_lm1, kc_l1, kc_l2, kc_l3, kc_l4, kc_l5, kc_l6, kc_l7, kc_l8, kc_l9, kc_l10, kc_l11, kc_l12, kc_l13, kc_l14, kc_l37, kc_l42, kc_l43, kc_l45, kc_l47, kc_l60, kc_l61, kc_l62, kc_l316, kc_l318, kc_l65536, kc_l99999, kc_l1000000, kc_l252645135, kc_l858993459, kc_l1431655765, kc_0, kc_on, key, Option.bind_some]
    unfold ordOf
    cases (List.range (an A 2)).find? (fun o => rowL A o == tl g n) <;> rfl
  · unfold s_orderOf_2
    simp (disch := omega) only [kc_im8, kc_im1, kc_i0, kc_i1, kc_i2, kc_i3, kc_i4, kc_i5, kc_b_m100, kc_b_m16, kc_b_m15, kc_b_m14, kc_b_m13, kc_b_m12, kc_b_m11, kc_b_m2, kc_b_6, kc_b_7, kc_b_8, kc_b_9, kc_b_10, kc_b_11, kc_b_12, kc_b_13, kc_b_14, kc_b_15, kc_b_16, kc_b_20, kc_b_24, kc_b_32, kc_b_37, kc_b_40, kc_b_42, kc_b_43, kc_b_45, kc_b_47, kc_b_48, kc_b_57, kc_b_58, kc_b_59, kc_b_60, kc_b_61, kc_b_62, kc_b_63, kc_b_91, kc_b_93, kc_b_97, kc_b_99, kc_b_100, kc_b_106, kc_b_122, kc_s_206, kc_s_226, kc_s_227, kc_s_255, kc_s_256, kc_s_316, kc_s_318, kc_s_400, kc_s_512, kc_s_999, kc_s_1160, kc_s_1536, kc_s_3003, kc_lm11, kc_lm10, kc_lm9, kc_lm8, kc_lm7, kc_lm6, kc_lm5, kc_lm4, kc_lm3, kc_lm2, kc_lm1, kc_l1, kc_l2, kc_l3, kc_l4, kc_l5, kc_l6, kc_l7, kc_l8, kc_l9, kc_l10, kc_l11, kc_l12, kc_l13, kc_l14, kc_l37, kc_l42, kc_l43, kc_l45, kc_l47, kc_l60, kc_l61, kc_l62, kc_l316, kc_l318, kc_l65536, kc_l99999, kc_l1000000, kc_l252645135, kc_l858993459, kc_l1431655765, kc_0, kc_on, S.2.2.2.1, h2.1, nx_lt, nx_le, nx_eq, nx_add, nx_sub, nx_mul, nx_cl, n_lt_ng, n_le_ng, n_eq_ng, ng_lt_n, ng_le_n, ng_eq_n, ng_eq, ng_lt, ng_le, nx_dec]
    rw [if_neg (by omega), c_isRow S w R hr hn hg hi, Option.bind_some]
    cases rowL A i == tl g n <;> simp (disch := omega) [nx_eq]
  · unfold s_orderOf_2
    simp (disch := omega) only [kc_im8, kc_im1, kc_i0, kc_i1, kc_i2, kc_i3, kc_i4, kc_i5, kc_b_m100, kc_b_m16, kc_b_m15, kc_b_m14, kc_b_m13, kc_b_m12, kc_b_m11, kc_b_m2, kc_b_6, kc_b_7, kc_b_8, kc_b_9, kc_b_10, kc_b_11, kc_b_12, kc_b_13, kc_b_14, kc_b_15, kc_b_16, kc_b_20, kc_b_24, kc_b_32, kc_b_37, kc_b_40, kc_b_42, kc_b_43, kc_b_45, kc_b_47, kc_b_48, kc_b_57, kc_b_58, kc_b_59, kc_b_60, kc_b_61, kc_b_62, kc_b_63, kc_b_91, kc_b_93, kc_b_97, kc_b_99, kc_b_100, kc_b_106, kc_b_122, kc_s_206, kc_s_226, kc_s_227, kc_s_255, kc_s_256, kc_s_316, kc_s_318, kc_s_400, kc_s_512, kc_s_999, kc_s_1160, kc_s_1536, kc_s_3003, kc_lm11, kc_lm10, kc_lm9, kc_lm8, kc_lm7, kc_lm6, kc_lm5, kc_lm4, kc_lm3, kc_lm2, kc_lm1, kc_l1, kc_l2, kc_l3, kc_l4, kc_l5, kc_l6, kc_l7, kc_l8, kc_l9, kc_l10, kc_l11, kc_l12, kc_l13, kc_l14, kc_l37, kc_l42, kc_l43, kc_l45, kc_l47, kc_l60, kc_l61, kc_l62, kc_l316, kc_l318, kc_l65536, kc_l99999, kc_l1000000, kc_l252645135, kc_l858993459, kc_l1431655765, kc_0, kc_on, S.2.2.2.1, h2.1, nx_lt, nx_le, nx_eq, nx_add, nx_sub, nx_mul, nx_cl, n_lt_ng, n_le_ng, n_eq_ng, ng_lt_n, ng_le_n, ng_eq_n, ng_eq, ng_lt, ng_le, nx_dec]
    rw [if_pos (by omega)]
end CS2
