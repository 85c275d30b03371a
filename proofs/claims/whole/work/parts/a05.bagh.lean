/-! The program's Choir: bags. -/
theorem y_fill_sp {h : pm_H} {r : Nat} {v : Int32} (hn : mi_n r < 2147483647) : SP (y_fill r v h) (fun h' => Fr (· = r) h h' ∧ ∀ j, j < mi_n r → h'.2.1 r j = v) := by
  unfold y_fill
  refine sp_call (P := fun h' => Fr (· = r) h h' ∧ ∀ j, j < mi_n r → h'.2.1 r j = v) ?_ (fun q hq => sp_some.mpr hq)
  refine wh_cnt (fun i z => z.1 = nI i ∧ Fr (· = r) h z.2 ∧ ∀ j, j < i → z.2.2.1 r j = v) _ (mi_n r) ?_ ?_ 0 (nI 0, h) (by omega) ⟨rfl, Fr.refl _ _, fun j hj => by omega⟩
  · rintro i ⟨x, h1⟩ hi ⟨rfl, f1, c1⟩
    dsimp only at f1 c1
    unfold y_fill_5
    simp (disch := omega) only [kc_im8, kc_im1, kc_i0, kc_i1, kc_i2, kc_i3, kc_i4, kc_i5, kc_b_m100, kc_b_m16, kc_b_m15, kc_b_m14, kc_b_m13, kc_b_m12, kc_b_m11, kc_b_m2, kc_b_6, kc_b_7, kc_b_8, kc_b_9, kc_b_10, kc_b_11, kc_b_12, kc_b_13, kc_b_14, kc_b_15, kc_b_16, kc_b_20, kc_b_24, kc_b_32, kc_b_37, kc_b_40, kc_b_42, kc_b_43, kc_b_45, kc_b_47, kc_b_48, kc_b_57, kc_b_58, kc_b_59, kc_b_60, kc_b_61, kc_b_62, kc_b_63, kc_b_91, kc_b_93, kc_b_97, kc_b_99, kc_b_100, kc_b_106, kc_b_122, kc_s_206, kc_s_226, kc_s_227, kc_s_255, kc_s_256, kc_s_316, kc_s_318, kc_s_400, kc_s_512, kc_s_999, kc_s_1160, kc_s_1536, kc_s_3003, kc_lm11, kc_lm10, kc_lm9, kc_lm8, kc_lm7, kc_lm6, kc_lm5, kc_lm4, kc_lm3, kc_lm2, kc_lm1, kc_l1, kc_l2, kc_l3, kc_l4, kc_l5, kc_l6, kc_l7, kc_l8, kc_l9, kc_l10, kc_l11, kc_l12, kc_l13, kc_l14, kc_l37, kc_l42, kc_l43, kc_l45, kc_l47, kc_l60, kc_l61, kc_l62, kc_l316, kc_l318, kc_l65536, kc_l99999, kc_l1000000, kc_l252645135, kc_l858993459, kc_l1431655765, kc_0, kc_on, nx_lt, nx_le, nx_eq, nx_add, nx_sub, nx_mul, nx_cl, n_lt_ng, n_le_ng, n_eq_ng, ng_lt_n, ng_le_n, ng_eq_n, ng_eq, ng_lt, ng_le, nx_dec, gi_n]
    refine sp_neg (by omega) (sp_pos (by simpa using hi) ?_)
    rw [sp_bd, sp_some]
    refine ⟨rfl, f1.setI rfl, fun j hj => ?_⟩
    show (pm_setI h1 r i v).2.1 r j = v
    by_cases e : j = i
    · subst e; exact ri_s _
    · rw [ri_j _ e]; exact c1 j (by omega)
  · rintro ⟨x, h1⟩ ⟨rfl, f1, c1⟩
    unfold y_fill_5
    simp (disch := omega) only [kc_im8, kc_im1, kc_i0, kc_i1, kc_i2, kc_i3, kc_i4, kc_i5, kc_b_m100, kc_b_m16, kc_b_m15, kc_b_m14, kc_b_m13, kc_b_m12, kc_b_m11, kc_b_m2, kc_b_6, kc_b_7, kc_b_8, kc_b_9, kc_b_10, kc_b_11, kc_b_12, kc_b_13, kc_b_14, kc_b_15, kc_b_16, kc_b_20, kc_b_24, kc_b_32, kc_b_37, kc_b_40, kc_b_42, kc_b_43, kc_b_45, kc_b_47, kc_b_48, kc_b_57, kc_b_58, kc_b_59, kc_b_60, kc_b_61, kc_b_62, kc_b_63, kc_b_91, kc_b_93, kc_b_97, kc_b_99, kc_b_100, kc_b_106, kc_b_122, kc_s_206, kc_s_226, kc_s_227, kc_s_255, kc_s_256, kc_s_316, kc_s_318, kc_s_400, kc_s_512, kc_s_999, kc_s_1160, kc_s_1536, kc_s_3003, kc_lm11, kc_lm10, kc_lm9, kc_lm8, kc_lm7, kc_lm6, kc_lm5, kc_lm4, kc_lm3, kc_lm2, kc_lm1, kc_l1, kc_l2, kc_l3, kc_l4, kc_l5, kc_l6, kc_l7, kc_l8, kc_l9, kc_l10, kc_l11, kc_l12, kc_l13, kc_l14, kc_l37, kc_l42, kc_l43, kc_l45, kc_l47, kc_l60, kc_l61, kc_l62, kc_l316, kc_l318, kc_l65536, kc_l99999, kc_l1000000, kc_l252645135, kc_l858993459, kc_l1431655765, kc_0, kc_on, nx_lt, nx_le, nx_eq, nx_add, nx_sub, nx_mul, nx_cl, n_lt_ng, n_le_ng, n_eq_ng, ng_lt_n, ng_le_n, ng_eq_n, ng_eq, ng_lt, ng_le, nx_dec, gi_n]
    exact sp_pos (by omega) (sp_some.mpr ⟨f1, c1⟩)
/-- the bag's counts are those of l -/
def BAG (h : pm_H) (l : List Nat) : Prop := ∀ x, x < 10 → h.2.1 76 x = nI (cntW l x)
theorem k_put {h : pm_H} {l : List Nat} {x : Nat} (R : RF h) (B : BAG h l) (hl : l.length < 100) (hx : x < 10) : SP (c_put 69 (nI x) h) (fun h' => Fr (· = 76) h h' ∧ BAG h' (x :: l)) := by
  have hc : ∀ y, cntW l y < 100 := fun y => Nat.lt_of_le_of_lt List.count_le_length hl
  unfold c_put
  simp (disch := omega) only [kc_im8, kc_im1, kc_i0, kc_i1, kc_i2, kc_i3, kc_i4, kc_i5, kc_b_m100, kc_b_m16, kc_b_m15, kc_b_m14, kc_b_m13, kc_b_m12, kc_b_m11, kc_b_m2, kc_b_6, kc_b_7, kc_b_8, kc_b_9, kc_b_10, kc_b_11, kc_b_12, kc_b_13, kc_b_14, kc_b_15, kc_b_16, kc_b_20, kc_b_24, kc_b_32, kc_b_37, kc_b_40, kc_b_42, kc_b_43, kc_b_45, kc_b_47, kc_b_48, kc_b_57, kc_b_58, kc_b_59, kc_b_60, kc_b_61, kc_b_62, kc_b_63, kc_b_91, kc_b_93, kc_b_97, kc_b_99, kc_b_100, kc_b_106, kc_b_122, kc_s_206, kc_s_226, kc_s_227, kc_s_255, kc_s_256, kc_s_316, kc_s_318, kc_s_400, kc_s_512, kc_s_999, kc_s_1160, kc_s_1536, kc_s_3003, kc_lm11, kc_lm10, kc_lm9, kc_lm8, kc_lm7, kc_lm6, kc_lm5, kc_lm4, kc_lm3, kc_lm2, kc_lm1, kc_l1, kc_l2, kc_l3, kc_l4, kc_l5, kc_l6, kc_l7, kc_l8, kc_l9, kc_l10, kc_l11, kc_l12, kc_l13, kc_l14, kc_l37, kc_l42, kc_l43, kc_l45, kc_l47, kc_l60, kc_l61, kc_l62, kc_l316, kc_l318, kc_l65536, kc_l99999, kc_l1000000, kc_l252645135, kc_l858993459, kc_l1431655765, kc_0, kc_on, ra_69_5 R, mn_76, Option.bind_some, nx_lt, nx_le, nx_eq, nx_add, nx_sub, nx_mul, nx_cl, n_lt_ng, n_le_ng, n_eq_ng, ng_lt_n, ng_le_n, ng_eq_n, ng_eq, ng_lt, ng_le, nx_dec, gi_n]
  refine sp_neg (by omega) (sp_neg (by omega) (sp_pos (by simpa using hx) (sp_pos (by simpa using hx) ?_)))
  rw [sp_bd, sp_some]
  refine ⟨(Fr.refl _ _).setI rfl, fun y hy => ?_⟩
  have hh : cntW (x :: l) y = cntW l y + if x = y then 1 else 0 := by
    unfold cntW
    rw [List.count_cons]
    by_cases e : x = y <;> simp [e]
  rw [hh]
  by_cases e : y = x
  · subst e
    rw [ri_s, B y hy, nx_add, if_pos rfl]
  · rw [ri_j _ e, if_neg (fun q => e q.symm)]
    exact B y hy
theorem numL_append : ∀ (a b : List Nat) (j : Nat), numL j (a ++ b) = numL j a + numL (j + a.length) b
  | [], b, j => by simp [numL]
  | x :: a, b, j => by
    rw [List.cons_append, numL, numL, numL_append a b (j + 1), List.length_cons, show j + 1 + a.length = j + (a.length + 1) from by omega]
    omega
theorem numL_bd : ∀ (l : List Nat) (j : Nat), (∀ x ∈ l, x < 10) → j + l.length ≤ 5 → numL j l ≤ l.length * 2003
  | [], j, _, _ => by simp [numL]
  | x :: l, j, h, hj => by
    rw [numL, List.length_cons, Nat.succ_mul]
    rw [List.length_cons] at hj
    have h1 := numL_bd l (j + 1) (fun y hy => h y (List.mem_cons_of_mem _ hy)) (by omega)
    have h2 := h x List.mem_cons_self
    have := chN_lt (x * 5 + j) (by omega)
    omega
theorem srtK_mono (c : Nat → Nat) : ∀ a b, a ≤ b → (srtK c a).length ≤ (srtK c b).length := by
  intro a b hab
  induction hab with
  | refl => exact Nat.le_refl _
  | step _ ih => rw [Nat.succ_eq_add_one, srtK_len]; omega
theorem k_bagNumber {h : pm_H} {l : List Nat} (R : RF h) (B : BAG h l) (hl : l.length ≤ 5) (hx : ∀ x ∈ l, x < 10) : c_bagNumber 69 (nI l.length) h = some (nI (bn l)) := by
  have hP := srtK_perm hx
  have hPl := hP.length_eq
  have hc : ∀ y, cntW l y ≤ 5 := fun y => Nat.le_trans List.count_le_length hl
  have hbn := bn_lt hx hl
  have bnd : ∀ v i, v < 10 → i ≤ cntW l v → numL (5 - l.length) (srtK (cntW l) v ++ List.replicate i v) ≤ 5 * 2003 ∧ (srtK (cntW l) v).length + i ≤ l.length := by
    intro v i hv hi
    have h1 := srtK_mono (cntW l) (v + 1) 10 (by omega)
    rw [srtK_len] at h1
    have h2 : (srtK (cntW l) v ++ List.replicate i v).length ≤ l.length := by rw [List.length_append, List.length_replicate]; omega
    have h3 := numL_bd (srtK (cntW l) v ++ List.replicate i v) (5 - l.length) (fun y hy => ?_) (by omega)
    · refine ⟨?_, by omega⟩
      exact Nat.le_trans h3 (Nat.mul_le_mul_right _ (by omega))
    · rcases List.mem_append.mp hy with q | q
      · have := srtK_lt (cntW l) v y q; omega
      · have := (List.mem_replicate.mp q).2; omega
  have key : wh (fun s : (Int32 × Int32 × Int32) => c_bagNumber_9 69 s.1 s.2.1 s.2.2 h) (nI 0, nI (5 - l.length), nI 0) = some (nI (bn l)) := by
    refine wh_for (fun v => (nI (numL (5 - l.length) (srtK (cntW l) v)), nI (5 - l.length + (srtK (cntW l) v).length), nI v)) 10 0 (by omega) (fun v _ hv => ?_) ?_
    · unfold c_bagNumber_9
      simp (disch := omega) only [kc_im8, kc_im1, kc_i0, kc_i1, kc_i2, kc_i3, kc_i4, kc_i5, kc_b_m100, kc_b_m16, kc_b_m15, kc_b_m14, kc_b_m13, kc_b_m12, kc_b_m11, kc_b_m2, kc_b_6, kc_b_7, kc_b_8, kc_b_9, kc_b_10, kc_b_11, kc_b_12, kc_b_13, kc_b_14, kc_b_15, kc_b_16, kc_b_20, kc_b_24, kc_b_32, kc_b_37, kc_b_40, kc_b_42, kc_b_43, kc_b_45, kc_b_47, kc_b_48, kc_b_57, kc_b_58, kc_b_59, kc_b_60, kc_b_61, kc_b_62, kc_b_63, kc_b_91, kc_b_93, kc_b_97, kc_b_99, kc_b_100, kc_b_106, kc_b_122, kc_s_206, kc_s_226, kc_s_227, kc_s_255, kc_s_256, kc_s_316, kc_s_318, kc_s_400, kc_s_512, kc_s_999, kc_s_1160, kc_s_1536, kc_s_3003, kc_lm11, kc_lm10, kc_lm9, kc_lm8, kc_lm7, kc_lm6, kc_lm5, kc_lm4, kc_lm3, kc_lm2, kc_lm1, kc_l1, kc_l2, kc_l3, kc_l4, kc_l5, kc_l6, kc_l7, kc_l8, kc_l9, kc_l10, kc_l11, kc_l12, kc_l13, kc_l14, kc_l37, kc_l42, kc_l43, kc_l45, kc_l47, kc_l60, kc_l61, kc_l62, kc_l316, kc_l318, kc_l65536, kc_l99999, kc_l1000000, kc_l252645135, kc_l858993459, kc_l1431655765, kc_0, kc_on, nx_lt, nx_le, nx_eq, nx_add, nx_sub, nx_mul, nx_cl, n_lt_ng, n_le_ng, n_eq_ng, ng_lt_n, ng_le_n, ng_eq_n, ng_eq, ng_lt, ng_le, nx_dec]
      rw [if_neg (by omega)]
      have inner : wh (fun s : (Int32 × Int32 × Int32) => c_bagNumber_19 69 s.1 s.2.1 (nI v) s.2.2 h) (nI (numL (5 - l.length) (srtK (cntW l) v)), nI (5 - l.length + (srtK (cntW l) v).length), nI 0) = some (nI (numL (5 - l.length) (srtK (cntW l) (v + 1))), nI (5 - l.length + (srtK (cntW l) (v + 1)).length)) := by
        have := wh_for (f := fun s : (Int32 × Int32 × Int32) => c_bagNumber_19 69 s.1 s.2.1 (nI v) s.2.2 h) (r := (nI (numL (5 - l.length) (srtK (cntW l) (v + 1))), nI (5 - l.length + (srtK (cntW l) (v + 1)).length))) (fun i => (nI (numL (5 - l.length) (srtK (cntW l) v ++ List.replicate i v)), nI (5 - l.length + (srtK (cntW l) v).length + i), nI i)) (cntW l v) 0 (by omega) (fun i _ hi => ?_) ?_
        · simpa using this
        · have hb := bnd v i hv (by omega)
          have hb1 := bnd v (i + 1) hv (by omega)
          unfold c_bagNumber_19
          have hcv := hc v
          simp (disch := omega) only [kc_im8, kc_im1, kc_i0, kc_i1, kc_i2, kc_i3, kc_i4, kc_i5, kc_b_m100, kc_b_m16, kc_b_m15, kc_b_m14, kc_b_m13, kc_b_m12, kc_b_m11, kc_b_m2, kc_b_6, kc_b_7, kc_b_8, kc_b_9, kc_b_10, kc_b_11, kc_b_12, kc_b_13, kc_b_14, kc_b_15, kc_b_16, kc_b_20, kc_b_24, kc_b_32, kc_b_37, kc_b_40, kc_b_42, kc_b_43, kc_b_45, kc_b_47, kc_b_48, kc_b_57, kc_b_58, kc_b_59, kc_b_60, kc_b_61, kc_b_62, kc_b_63, kc_b_91, kc_b_93, kc_b_97, kc_b_99, kc_b_100, kc_b_106, kc_b_122, kc_s_206, kc_s_226, kc_s_227, kc_s_255, kc_s_256, kc_s_316, kc_s_318, kc_s_400, kc_s_512, kc_s_999, kc_s_1160, kc_s_1536, kc_s_3003, kc_lm11, kc_lm10, kc_lm9, kc_lm8, kc_lm7, kc_lm6, kc_lm5, kc_lm4, kc_lm3, kc_lm2, kc_lm1, kc_l1, kc_l2, kc_l3, kc_l4, kc_l5, kc_l6, kc_l7, kc_l8, kc_l9, kc_l10, kc_l11, kc_l12, kc_l13, kc_l14, kc_l37, kc_l42, kc_l43, kc_l45, kc_l47, kc_l60, kc_l61, kc_l62, kc_l316, kc_l318, kc_l65536, kc_l99999, kc_l1000000, kc_l252645135, kc_l858993459, kc_l1431655765, kc_0, kc_on, ra_69_5 R, mn_76, Option.bind_some, B v hv, nx_lt, nx_le, nx_eq, nx_add, nx_sub, nx_mul, nx_cl, n_lt_ng, n_le_ng, n_eq_ng, ng_lt_n, ng_le_n, ng_eq_n, ng_eq, ng_lt, ng_le, nx_dec, gi_n]
          rw [if_pos (by simpa using hv), if_neg (by omega), if_neg (by omega), if_neg (by omega), if_pos (by simp; omega), show tb_choose.getD (v * 5 + (5 - l.length + (srtK (cntW l) v).length + i)) (nI 0) = nI (chN.getD (v * 5 + (5 - l.length + (srtK (cntW l) v).length + i)) 0) from chN_at _ (by omega), nx_add]
          refine congrArg some (congrArg Sum.inl ?_)
          refine Prod.ext (congrArg nI ?_) (Prod.ext ?_ rfl)
          · rw [List.replicate_succ', ← List.append_assoc, numL_append (srtK (cntW l) v ++ List.replicate i v), numL, numL, List.length_append, List.length_replicate, Nat.add_zero, Nat.add_assoc (5 - l.length)]
          · rfl
        · have hb := bnd v (cntW l v) hv (Nat.le_refl _)
          have hcv := hc v
          unfold c_bagNumber_19
          simp (disch := omega) only [kc_im8, kc_im1, kc_i0, kc_i1, kc_i2, kc_i3, kc_i4, kc_i5, kc_b_m100, kc_b_m16, kc_b_m15, kc_b_m14, kc_b_m13, kc_b_m12, kc_b_m11, kc_b_m2, kc_b_6, kc_b_7, kc_b_8, kc_b_9, kc_b_10, kc_b_11, kc_b_12, kc_b_13, kc_b_14, kc_b_15, kc_b_16, kc_b_20, kc_b_24, kc_b_32, kc_b_37, kc_b_40, kc_b_42, kc_b_43, kc_b_45, kc_b_47, kc_b_48, kc_b_57, kc_b_58, kc_b_59, kc_b_60, kc_b_61, kc_b_62, kc_b_63, kc_b_91, kc_b_93, kc_b_97, kc_b_99, kc_b_100, kc_b_106, kc_b_122, kc_s_206, kc_s_226, kc_s_227, kc_s_255, kc_s_256, kc_s_316, kc_s_318, kc_s_400, kc_s_512, kc_s_999, kc_s_1160, kc_s_1536, kc_s_3003, kc_lm11, kc_lm10, kc_lm9, kc_lm8, kc_lm7, kc_lm6, kc_lm5, kc_lm4, kc_lm3, kc_lm2, kc_lm1, kc_l1, kc_l2, kc_l3, kc_l4, kc_l5, kc_l6, kc_l7, kc_l8, kc_l9, kc_l10, kc_l11, kc_l12, kc_l13, kc_l14, kc_l37, kc_l42, kc_l43, kc_l45, kc_l47, kc_l60, kc_l61, kc_l62, kc_l316, kc_l318, kc_l65536, kc_l99999, kc_l1000000, kc_l252645135, kc_l858993459, kc_l1431655765, kc_0, kc_on, ra_69_5 R, mn_76, Option.bind_some, B v hv, nx_lt, nx_le, nx_eq, nx_add, nx_sub, nx_mul, nx_cl, n_lt_ng, n_le_ng, n_eq_ng, ng_lt_n, ng_le_n, ng_eq_n, ng_eq, ng_lt, ng_le, nx_dec, gi_n]
          rw [if_pos (by simpa using hv), if_pos (by omega), srtK_len, Nat.add_assoc]
          rfl
      rw [inner, Option.bind_some]
    · unfold c_bagNumber_9
      simp (disch := omega) only [kc_im8, kc_im1, kc_i0, kc_i1, kc_i2, kc_i3, kc_i4, kc_i5, kc_b_m100, kc_b_m16, kc_b_m15, kc_b_m14, kc_b_m13, kc_b_m12, kc_b_m11, kc_b_m2, kc_b_6, kc_b_7, kc_b_8, kc_b_9, kc_b_10, kc_b_11, kc_b_12, kc_b_13, kc_b_14, kc_b_15, kc_b_16, kc_b_20, kc_b_24, kc_b_32, kc_b_37, kc_b_40, kc_b_42, kc_b_43, kc_b_45, kc_b_47, kc_b_48, kc_b_57, kc_b_58, kc_b_59, kc_b_60, kc_b_61, kc_b_62, kc_b_63, kc_b_91, kc_b_93, kc_b_97, kc_b_99, kc_b_100, kc_b_106, kc_b_122, kc_s_206, kc_s_226, kc_s_227, kc_s_255, kc_s_256, kc_s_316, kc_s_318, kc_s_400, kc_s_512, kc_s_999, kc_s_1160, kc_s_1536, kc_s_3003, kc_lm11, kc_lm10, kc_lm9, kc_lm8, kc_lm7, kc_lm6, kc_lm5, kc_lm4, kc_lm3, kc_lm2, kc_lm1, kc_l1, kc_l2, kc_l3, kc_l4, kc_l5, kc_l6, kc_l7, kc_l8, kc_l9, kc_l10, kc_l11, kc_l12, kc_l13, kc_l14, kc_l37, kc_l42, kc_l43, kc_l45, kc_l47, kc_l60, kc_l61, kc_l62, kc_l316, kc_l318, kc_l65536, kc_l99999, kc_l1000000, kc_l252645135, kc_l858993459, kc_l1431655765, kc_0, kc_on, nx_lt, nx_le, nx_eq, nx_add, nx_sub, nx_mul, nx_cl, n_lt_ng, n_le_ng, n_eq_ng, ng_lt_n, ng_le_n, ng_eq_n, ng_eq, ng_lt, ng_le, nx_dec]
      rw [if_pos (by omega)]
      rfl
  unfold c_bagNumber
  simp (disch := omega) only [kc_im8, kc_im1, kc_i0, kc_i1, kc_i2, kc_i3, kc_i4, kc_i5, kc_b_m100, kc_b_m16, kc_b_m15, kc_b_m14, kc_b_m13, kc_b_m12, kc_b_m11, kc_b_m2, kc_b_6, kc_b_7, kc_b_8, kc_b_9, kc_b_10, kc_b_11, kc_b_12, kc_b_13, kc_b_14, kc_b_15, kc_b_16, kc_b_20, kc_b_24, kc_b_32, kc_b_37, kc_b_40, kc_b_42, kc_b_43, kc_b_45, kc_b_47, kc_b_48, kc_b_57, kc_b_58, kc_b_59, kc_b_60, kc_b_61, kc_b_62, kc_b_63, kc_b_91, kc_b_93, kc_b_97, kc_b_99, kc_b_100, kc_b_106, kc_b_122, kc_s_206, kc_s_226, kc_s_227, kc_s_255, kc_s_256, kc_s_316, kc_s_318, kc_s_400, kc_s_512, kc_s_999, kc_s_1160, kc_s_1536, kc_s_3003, kc_lm11, kc_lm10, kc_lm9, kc_lm8, kc_lm7, kc_lm6, kc_lm5, kc_lm4, kc_lm3, kc_lm2, kc_lm1, kc_l1, kc_l2, kc_l3, kc_l4, kc_l5, kc_l6, kc_l7, kc_l8, kc_l9, kc_l10, kc_l11, kc_l12, kc_l13, kc_l14, kc_l37, kc_l42, kc_l43, kc_l45, kc_l47, kc_l60, kc_l61, kc_l62, kc_l316, kc_l318, kc_l65536, kc_l99999, kc_l1000000, kc_l252645135, kc_l858993459, kc_l1431655765, kc_0, kc_on, nx_lt, nx_le, nx_eq, nx_add, nx_sub, nx_mul, nx_cl, n_lt_ng, n_le_ng, n_eq_ng, ng_lt_n, ng_le_n, ng_eq_n, ng_eq, ng_lt, ng_le, nx_dec, key, Option.bind_some]
  rw [if_neg (by omega)]
