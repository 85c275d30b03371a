/-! lacks, of the program. -/
section LA
variable {h : pm_H} {s : Nat} {A : Nat → Int32}
theorem a_add_n (R : RF h) {x : Nat} (hx : x < 10) (v : Int32) : a_addSpare 68 (nI x) v h = some (pm_setI h 83 x (h.2.1 83 x + v)) := by
  unfold a_addSpare
  refine (if_neg (by rw [kc_0, nx_lt (by omega) (by omega)]; omega)).trans ?_
  rw [ra_68_8 R, Option.bind_some, mn_83]
  refine (if_neg (by rw [kc_on, nx_le (by omega) (by omega)]; omega)).trans ?_
  rw [Option.bind_some, mn_83, gi_n (by omega), nx_cl (by omega), if_pos (by simp; omega), if_pos (by simp; omega)]
  rfl
theorem a_add_no (v : Int32) : a_addSpare 68 (ng 1) v h = some h := by
  unfold a_addSpare
  exact if_pos (by decide)
theorem a_lkMen (Q : QI h s A) (x2 x5 : Int32) (l2 : Nat) (S0 : ∀ x, x < 10 → h.2.1 83 x = nI 0) : SP (wh (fun z : (Int32 × pm_H) => a_findLacks_52 68 s l2 (nI (hrdN A)) x5 z.1 z.2) (nI 0, h)) (fun h' => Fr (· = 83) h h' ∧ SPR h' (spC A (an A 1))) := by
  have w := Q.2.2.2.2.2.1
  have e1 := w.e1
  have h512 := hrd_512 w
  have S0' : SPR h (spC A 0) := S0
  refine wh_cnt (fun i z => z.1 = nI i ∧ Fr (· = 83) h z.2 ∧ SPR z.2 (spC A i)) _ (an A 1) ?_ ?_ 0 (nI 0, h) (by omega) ⟨rfl, Fr.refl _ _, S0'⟩
  · rintro i ⟨y, h1⟩ hi ⟨hy, f1, S1⟩
    dsimp only at hy f1 S1
    subst hy
    have Q1 := (Q.ask f1 (fun c hc => by omega)).1
    obtain ⟨R, _, S, H, D, _, K⟩ := Q1
    have wl := (wm_man w hi).2
    have e0 := w.e0
    unfold a_findLacks_52
    simp only [kc_im8, kc_im1, kc_i0, kc_i1, kc_i2, kc_i3, kc_i4, kc_i5, kc_b_m100, kc_b_m16, kc_b_m15, kc_b_m14, kc_b_m13, kc_b_m12, kc_b_m11, kc_b_m2, kc_b_6, kc_b_7, kc_b_8, kc_b_9, kc_b_10, kc_b_11, kc_b_12, kc_b_13, kc_b_14, kc_b_15, kc_b_16, kc_b_20, kc_b_24, kc_b_32, kc_b_37, kc_b_40, kc_b_42, kc_b_43, kc_b_45, kc_b_47, kc_b_48, kc_b_57, kc_b_58, kc_b_59, kc_b_60, kc_b_61, kc_b_62, kc_b_63, kc_b_91, kc_b_93, kc_b_97, kc_b_99, kc_b_100, kc_b_106, kc_b_122, kc_s_206, kc_s_226, kc_s_227, kc_s_255, kc_s_256, kc_s_316, kc_s_318, kc_s_400, kc_s_512, kc_s_999, kc_s_1160, kc_s_1536, kc_s_3003, kc_lm11, kc_lm10, kc_lm9, kc_lm8, kc_lm7, kc_lm6, kc_lm5, kc_lm4, kc_lm3, kc_lm2, kc_lm1, kc_l1, kc_l2, kc_l3, kc_l4, kc_l5, kc_l6, kc_l7, kc_l8, kc_l9, kc_l10, kc_l11, kc_l12, kc_l13, kc_l14, kc_l37, kc_l42, kc_l43, kc_l45, kc_l47, kc_l60, kc_l61, kc_l62, kc_l316, kc_l318, kc_l65536, kc_l99999, kc_l1000000, kc_l252645135, kc_l858993459, kc_l1431655765, kc_0, kc_on]
    rw [S.2.2.1, e1.1]
    refine sp_neg (by rw [nx_le (by omega) (by omega)]; omega) ?_
    rw [c_wordOf S w R hi, Option.bind_some, x_bit_n (by omega) (by omega), Option.bind_some, (wm_man w hi).1, a_add_n R (by omega), Option.bind_some, sp_some, S1 _ (by omega), nx_add, nx_add]
    refine ⟨rfl, f1.setI rfl, fun x hx => ?_⟩
    show (pm_setI h1 83 (wm A i) _).2.1 83 x = _
    rw [spC]
    by_cases q : x = wm A i
    · subst q
      rw [ri_s]
      cases e : (hrdN A).testBit i with
      | true => rw [if_pos ⟨rfl, rfl⟩]; rfl
      | false => rw [if_neg (by simp)]; rfl
    · rw [ri_j _ q, if_neg (fun z => q z.2.symm)]
      exact S1 x hx
  · rintro ⟨y, h1⟩ ⟨hy, f1, S1⟩
    dsimp only at hy f1 S1
    subst hy
    have Q1 := (Q.ask f1 (fun c hc => by omega)).1
    unfold a_findLacks_52
    rw [Q1.2.2.1.2.2.1, e1.1]
    exact sp_pos (by rw [nx_le (by omega) (by omega)]; omega) (sp_some.mpr ⟨f1, S1⟩)
theorem cnP_le (v : Nat → Nat) (x : Nat) : ∀ i, cnP v i x ≤ i
  | 0 => Nat.le_refl _
  | i + 1 => by
    have := cnP_le v x i
    rw [cnP]
    split <;> omega
theorem spw_le (x : Nat) : spw A x ≤ 9 := by
  unfold spw
  have h1 : ((elems (hrdN A) 9).map (wm A)).count x ≤ ((elems (hrdN A) 9).map (wm A)).length := List.count_le_length
  have h2 : (elems (hrdN A) 9).length ≤ (List.range 9).length := List.length_filter_le _ _
  rw [List.length_map] at h1
  rw [List.length_range] at h2
  omega
theorem a_try (Q : QI h s A) {c : List Nat} (C : CUR h 77 c) (S0 : SPR h (spw A)) {K : Nat} (B : BK h K) : SP (a_tryLack 68 h) (fun h' => Fr (fun x => x = 68 ∨ x = 83) h h' ∧ BK h' (min K (lkK (lkL (spw A) c)))) := by
  have R := Q.1
  obtain ⟨c1, c2, c3, c4⟩ := C
  have hv : ∀ i, i < c.length → c.getD i 0 < 10 := fun i hi => (c4 i hi).2
  unfold a_tryLack
  simp only [kc_im8, kc_im1, kc_i0, kc_i1, kc_i2, kc_i3, kc_i4, kc_i5, kc_b_m100, kc_b_m16, kc_b_m15, kc_b_m14, kc_b_m13, kc_b_m12, kc_b_m11, kc_b_m2, kc_b_6, kc_b_7, kc_b_8, kc_b_9, kc_b_10, kc_b_11, kc_b_12, kc_b_13, kc_b_14, kc_b_15, kc_b_16, kc_b_20, kc_b_24, kc_b_32, kc_b_37, kc_b_40, kc_b_42, kc_b_43, kc_b_45, kc_b_47, kc_b_48, kc_b_57, kc_b_58, kc_b_59, kc_b_60, kc_b_61, kc_b_62, kc_b_63, kc_b_91, kc_b_93, kc_b_97, kc_b_99, kc_b_100, kc_b_106, kc_b_122, kc_s_206, kc_s_226, kc_s_227, kc_s_255, kc_s_256, kc_s_316, kc_s_318, kc_s_400, kc_s_512, kc_s_999, kc_s_1160, kc_s_1536, kc_s_3003, kc_lm11, kc_lm10, kc_lm9, kc_lm8, kc_lm7, kc_lm6, kc_lm5, kc_lm4, kc_lm3, kc_lm2, kc_lm1, kc_l1, kc_l2, kc_l3, kc_l4, kc_l5, kc_l6, kc_l7, kc_l8, kc_l9, kc_l10, kc_l11, kc_l12, kc_l13, kc_l14, kc_l37, kc_l42, kc_l43, kc_l45, kc_l47, kc_l60, kc_l61, kc_l62, kc_l316, kc_l318, kc_l65536, kc_l99999, kc_l1000000, kc_l252645135, kc_l858993459, kc_l1431655765, kc_0, kc_on]
  have T0 : TR (msP (spw A) (fun i => c.getD i 0) 0) (nI 0) (ng 2) (ng 2) := by
    show TR [] (nI 0) (ng 2) (ng 2)
    exact ⟨rfl, fun _ => ⟨rfl, rfl⟩, fun a q => (by cases q), fun a b q => (by cases q)⟩
  have V0 : ∀ x, x < 10 → h.2.1 83 x = sv (spw A x) (cnP (fun i => c.getD i 0) 0 x) := by
    intro x hx
    rw [show cnP (fun i => c.getD i 0) 0 x = 0 from rfl]
    unfold sv
    rw [if_pos (by omega), Nat.sub_zero]
    exact S0 x hx
  have key : SP (wh (fun z : (Int32 × Int32 × Int32 × Int32 × pm_H) => a_tryLack_11 68 z.1 z.2.1 z.2.2.1 z.2.2.2.1 z.2.2.2.2) (nI 0, ng 2, ng 2, nI 0, h)) (fun z => Fr (· = 83) h z.2.2.2 ∧ TR (lkL (spw A) c) z.1 z.2.1 z.2.2.1) := by
    refine wh_cnt (fun i z => z.2.2.2.1 = nI i ∧ Fr (· = 83) h z.2.2.2.2 ∧ TR (msP (spw A) (fun i => c.getD i 0) i) z.1 z.2.1 z.2.2.1 ∧ ∀ x, x < 10 → z.2.2.2.2.2.1 83 x = sv (spw A x) (cnP (fun i => c.getD i 0) i x)) _ c.length ?_ ?_ 0 (nI 0, ng 2, ng 2, nI 0, h) (by omega) ⟨rfl, Fr.refl _ _, T0, V0⟩
    · rintro i ⟨n, f, t, y, h1⟩ hi ⟨hy, f1, T1, V1⟩
      dsimp only at hy f1 T1 V1
      subst hy
      have R1 := R.fr f1
      have hx := hv i hi
      have C1 : CUR h1 77 c := ⟨by rw [f1.i _ (by omega)]; exact c1, c2, c3, fun j hj => by rw [f1.i _ (by omega)]; exact c4 j hj⟩
      have sl := spw_le (A := A) (c.getD i 0)
      have cl := cnP_le (fun i => c.getD i 0) (c.getD i 0) i
      have hM : ∀ a ∈ msP (spw A) (fun i => c.getD i 0) i, a < 10 := by
        intro a ha
        obtain ⟨j, hj, rfl⟩ := msP_mem _ _ i a ha
        exact hv j (by omega)
      have hlen : (msP (spw A) (fun i => c.getD i 0) i).length ≤ 5 := by
        have : ∀ j, (msP (spw A) (fun i => c.getD i 0) j).length ≤ j := by
          intro j
          induction j with
          | zero => exact Nat.le_refl _
          | succ j ih =>
            rw [msP]
            split
            · rw [List.length_append, List.length_singleton]; omega
            · omega
        have := this i
        omega
      unfold a_tryLack_11
      simp only [kc_im8, kc_im1, kc_i0, kc_i1, kc_i2, kc_i3, kc_i4, kc_i5, kc_b_m100, kc_b_m16, kc_b_m15, kc_b_m14, kc_b_m13, kc_b_m12, kc_b_m11, kc_b_m2, kc_b_6, kc_b_7, kc_b_8, kc_b_9, kc_b_10, kc_b_11, kc_b_12, kc_b_13, kc_b_14, kc_b_15, kc_b_16, kc_b_20, kc_b_24, kc_b_32, kc_b_37, kc_b_40, kc_b_42, kc_b_43, kc_b_45, kc_b_47, kc_b_48, kc_b_57, kc_b_58, kc_b_59, kc_b_60, kc_b_61, kc_b_62, kc_b_63, kc_b_91, kc_b_93, kc_b_97, kc_b_99, kc_b_100, kc_b_106, kc_b_122, kc_s_206, kc_s_226, kc_s_227, kc_s_255, kc_s_256, kc_s_316, kc_s_318, kc_s_400, kc_s_512, kc_s_999, kc_s_1160, kc_s_1536, kc_s_3003, kc_lm11, kc_lm10, kc_lm9, kc_lm8, kc_lm7, kc_lm6, kc_lm5, kc_lm4, kc_lm3, kc_lm2, kc_lm1, kc_l1, kc_l2, kc_l3, kc_l4, kc_l5, kc_l6, kc_l7, kc_l8, kc_l9, kc_l10, kc_l11, kc_l12, kc_l13, kc_l14, kc_l37, kc_l42, kc_l43, kc_l45, kc_l47, kc_l60, kc_l61, kc_l62, kc_l316, kc_l318, kc_l65536, kc_l99999, kc_l1000000, kc_l252645135, kc_l858993459, kc_l1431655765, kc_0, kc_on]
      rw [ra_68_1 R1, Option.bind_some, C1.1]
      refine sp_neg (by rw [nx_le (by omega) (by omega)]; omega) ?_
      rw [Option.bind_some, r_wordAt_c R1 q77 C1 hi, Option.bind_some, a_add_n R1 hx, Option.bind_some]
      have R2 : RF (pm_setI h1 83 (c.getD i 0) (h1.2.1 83 (c.getD i 0) + ng 1)) := R1.setI
      refine sp_neg (by rw [nx_lt (by omega) (by omega)]; omega) ?_
      rw [ra_68_8 R2, Option.bind_some, mn_83]
      refine sp_neg (by rw [nx_le (by omega) (by omega)]; omega) ?_
      rw [Option.bind_some, mn_83, gi_n (by omega), nx_cl (by omega)]
      refine sp_pos (dec_t hx) ?_
      rw [ri_s, V1 _ hx, sv_dec (by omega) (by omega), nx_add]
      have f2 : Fr (· = 83) h (pm_setI h1 83 (c.getD i 0) (sv (spw A (c.getD i 0)) (cnP (fun i => c.getD i 0) i (c.getD i 0) + 1))) := f1.setI rfl
      have V2 : ∀ x, x < 10 → (pm_setI h1 83 (c.getD i 0) (sv (spw A (c.getD i 0)) (cnP (fun i => c.getD i 0) i (c.getD i 0) + 1))).2.1 83 x = sv (spw A x) (cnP (fun i => c.getD i 0) (i + 1) x) := by
        intro x hx2
        rw [cnP]
        by_cases q : x = c.getD i 0
        · subst q
          rw [ri_s, if_pos rfl]
        · rw [ri_j _ q, if_neg (fun z => q z.symm), Nat.add_zero]
          exact V1 x hx2
      by_cases q : spw A (c.getD i 0) ≤ cnP (fun i => c.getD i 0) i (c.getD i 0)
      · have eM : msP (spw A) (fun i => c.getD i 0) (i + 1) = msP (spw A) (fun i => c.getD i 0) i ++ [c.getD i 0] := by
          rw [msP]
          exact if_pos q
        refine sp_neg (by rw [sv_neg (by omega) (by omega)]; omega) ?_
        have T2 := T1.step hM hx
        rw [← eM] at T2
        have t1 := T1.1
        rw [t1] at T2 ⊢
        rw [nx_add]
        by_cases q0 : msP (spw A) (fun i => c.getD i 0) i = []
        · rw [q0] at T2 ⊢
          rw [if_pos rfl, if_pos rfl] at T2
          refine sp_neg (by simp) ?_
          unfold a_tryLack_85 a_tryLack_102
          simp only [kc_im8, kc_im1, kc_i0, kc_i1, kc_i2, kc_i3, kc_i4, kc_i5, kc_b_m100, kc_b_m16, kc_b_m15, kc_b_m14, kc_b_m13, kc_b_m12, kc_b_m11, kc_b_m2, kc_b_6, kc_b_7, kc_b_8, kc_b_9, kc_b_10, kc_b_11, kc_b_12, kc_b_13, kc_b_14, kc_b_15, kc_b_16, kc_b_20, kc_b_24, kc_b_32, kc_b_37, kc_b_40, kc_b_42, kc_b_43, kc_b_45, kc_b_47, kc_b_48, kc_b_57, kc_b_58, kc_b_59, kc_b_60, kc_b_61, kc_b_62, kc_b_63, kc_b_91, kc_b_93, kc_b_97, kc_b_99, kc_b_100, kc_b_106, kc_b_122, kc_s_206, kc_s_226, kc_s_227, kc_s_255, kc_s_256, kc_s_316, kc_s_318, kc_s_400, kc_s_512, kc_s_999, kc_s_1160, kc_s_1536, kc_s_3003, kc_lm11, kc_lm10, kc_lm9, kc_lm8, kc_lm7, kc_lm6, kc_lm5, kc_lm4, kc_lm3, kc_lm2, kc_lm1, kc_l1, kc_l2, kc_l3, kc_l4, kc_l5, kc_l6, kc_l7, kc_l8, kc_l9, kc_l10, kc_l11, kc_l12, kc_l13, kc_l14, kc_l37, kc_l42, kc_l43, kc_l45, kc_l47, kc_l60, kc_l61, kc_l62, kc_l316, kc_l318, kc_l65536, kc_l99999, kc_l1000000, kc_l252645135, kc_l858993459, kc_l1431655765, kc_0, kc_on]
          refine sp_neg (by simp) (sp_some.mpr ⟨nx_add i 1, f2, T2, V2⟩)
        · rw [if_neg q0, if_neg q0] at T2
          have l0 : 0 < (msP (spw A) (fun i => c.getD i 0) i).length := List.length_pos_iff.mpr q0
          refine sp_pos (by rw [nx_eq (by omega) (by omega)]; omega) ?_
          unfold a_tryLack_85 a_tryLack_102
          simp only [kc_im8, kc_im1, kc_i0, kc_i1, kc_i2, kc_i3, kc_i4, kc_i5, kc_b_m100, kc_b_m16, kc_b_m15, kc_b_m14, kc_b_m13, kc_b_m12, kc_b_m11, kc_b_m2, kc_b_6, kc_b_7, kc_b_8, kc_b_9, kc_b_10, kc_b_11, kc_b_12, kc_b_13, kc_b_14, kc_b_15, kc_b_16, kc_b_20, kc_b_24, kc_b_32, kc_b_37, kc_b_40, kc_b_42, kc_b_43, kc_b_45, kc_b_47, kc_b_48, kc_b_57, kc_b_58, kc_b_59, kc_b_60, kc_b_61, kc_b_62, kc_b_63, kc_b_91, kc_b_93, kc_b_97, kc_b_99, kc_b_100, kc_b_106, kc_b_122, kc_s_206, kc_s_226, kc_s_227, kc_s_255, kc_s_256, kc_s_316, kc_s_318, kc_s_400, kc_s_512, kc_s_999, kc_s_1160, kc_s_1536, kc_s_3003, kc_lm11, kc_lm10, kc_lm9, kc_lm8, kc_lm7, kc_lm6, kc_lm5, kc_lm4, kc_lm3, kc_lm2, kc_lm1, kc_l1, kc_l2, kc_l3, kc_l4, kc_l5, kc_l6, kc_l7, kc_l8, kc_l9, kc_l10, kc_l11, kc_l12, kc_l13, kc_l14, kc_l37, kc_l42, kc_l43, kc_l45, kc_l47, kc_l60, kc_l61, kc_l62, kc_l316, kc_l318, kc_l65536, kc_l99999, kc_l1000000, kc_l252645135, kc_l858993459, kc_l1431655765, kc_0, kc_on]
          refine sp_pos (by rw [nx_eq (by omega) (by omega)]; omega) (sp_some.mpr ⟨nx_add i 1, f2, ?_, V2⟩)
          rw [nx_add] at T2
          exact T2
      · have eM : msP (spw A) (fun i => c.getD i 0) (i + 1) = msP (spw A) (fun i => c.getD i 0) i := by
          rw [msP]
          exact if_neg q
        refine sp_pos (by rw [sv_neg (by omega) (by omega)]; omega) (sp_some.mpr ⟨rfl, f2, ?_, V2⟩)
        rw [eM]
        exact T1
    · rintro ⟨n, f, t, y, h1⟩ ⟨hy, f1, T1, V1⟩
      dsimp only at hy f1 T1 V1
      subst hy
      have R1 := R.fr f1
      unfold a_tryLack_11
      rw [ra_68_1 R1, Option.bind_some, f1.i _ (by omega), c1]
      exact sp_pos (by rw [nx_le (by omega) (by omega)]; omega) (sp_some.mpr ⟨f1, T1⟩)
  refine sp_call key ?_
  rintro ⟨n, f, t, h1⟩ ⟨f1, T1⟩
  dsimp only at f1 T1 ⊢
  have B1 : BK h1 K := B.fr (f1.2.2 68 (by omega)).1
  have hM : ∀ a ∈ lkL (spw A) c, a < 10 := by
    intro a ha
    obtain ⟨j, hj, rfl⟩ := msP_mem _ _ _ a ha
    exact hv j hj
  have hl : (lkL (spw A) c).length ≤ 5 := by
    have := (cnt_len (lkL (spw A) c) c (fun x => by rw [lkL_cnt]; omega)).1
    omega
  have ci := lkC_iff B1 T1 hM hl
  by_cases q : lkC h1 n f t
  · rw [t_tail.1 q]
    refine (BK_take B1 (ci.mp q) T1 hM).mono ?_
    rintro h2 ⟨f2, B2⟩
    refine ⟨(f1.mono (fun x hx => .inr hx)).trans (f2.mono (fun x hx => .inl hx)), ?_⟩
    rw [Nat.min_eq_right (by have := ci.mp q; omega)]
    exact B2
  · rw [t_tail.2 q, sp_some]
    refine ⟨f1.mono (fun x hx => .inr hx), ?_⟩
    rw [Nat.min_eq_left (Nat.le_of_not_lt (fun z => q (ci.mpr z)))]
    exact B1
end LA
