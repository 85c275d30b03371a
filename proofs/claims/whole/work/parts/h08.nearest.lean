/-! nearest, of the program and of the reference. -/
theorem ch_congr {r r' o : Nat → Nat} : ∀ i j, (∀ m, m < i → r m = r' m) → ch r o i j = ch r' o i j
  | 0, j, _ => by rw [ch_0, ch_0]
  | i + 1, 0, _ => by rw [ch_1, ch_1]
  | i + 1, j + 1, h => by
    rw [ch_s, ch_s, ch_congr i (j + 1) (fun m hm => h m (by omega)), ch_congr (i + 1) j h, ch_congr i j (fun m hm => h m (by omega)), h i (by omega)]
/-- how far the words l are from an order's row -/
def chL (A : Nat → Int32) (l : List Nat) (o : Nat) : Nat := ch (fun i => l.getD i 0) (oW A o) l.length (an A (58 + 6 * o + 1))
/-- the nearest of the first i orders -/
def nrF (A : Nat → Int32) (l : List Nat) : Nat → Option (Nat × Nat)
  | 0 => none
  | i + 1 => match nrF A l i with
    | none => some (i, chL A l i)
    | some b => if chL A l i < b.2 then some (i, chL A l i) else some b
def nv1 (o : Option (Nat × Nat)) : Int32 := match o with
  | some b => nI b.1
  | none => ng 2
def nv2 (o : Option (Nat × Nat)) : Int32 := match o with
  | some b => nI b.2
  | none => ng 2
theorem nrF_lt {A : Nat → Int32} {l : List Nat} (hl : l.length ≤ 5) (hA : ∀ o, o < an A 2 → an A (58 + 6 * o + 1) < 5) : ∀ i b, i ≤ an A 2 → nrF A l i = some b → b.1 < i ∧ b.2 < 10
  | 0, b, _, h => by cases h
  | i + 1, b, hi, h => by
    have hc : chL A l i < 10 := by
      have h1 := ch_le (fun i => l.getD i 0) (oW A i) l.length (an A (58 + 6 * i + 1))
      have h2 := hA i (by omega)
      unfold chL
      omega
    have ih := nrF_lt hl hA i
    rw [nrF] at h
    cases e : nrF A l i with
    | none => rw [e] at h; cases h; exact ⟨by simp, hc⟩
    | some b' =>
      rw [e] at h
      dsimp only at h
      have := ih b' (by omega) e
      split at h
      · cases h; exact ⟨by simp, hc⟩
      · cases h; exact ⟨by omega, this.2⟩
def vNear (A : Nat → Int32) (N n k : Nat) : Int32 := if k = 0 then nv1 (nrF A (meaning (mnA A) (hdL A (hrdN A) N n n)) (an A 2)) else nv2 (nrF A (meaning (mnA A) (hdL A (hrdN A) N n n)) (an A 2))
theorem tl_row {g : Nat → Nat} {k : Nat} {l : List Nat} (e : tl g k = l) : k = l.length ∧ ∀ i, i < k → g i = l.getD i 0 := by
  subst e
  refine ⟨(tl_len g k).symm, fun i hi => ?_⟩
  rw [List.getD_eq_getElem?_getD, tl_get g hi]
  rfl
section NE
variable {h : pm_H} {s : Nat} {A : Nat → Int32} {l : List Nat}
theorem nrF_step {v1 v2 : Int32} {i c : Nat} (hl : l.length ≤ 5) (w : WFA A) (hi : i < an A 2) (hc : c = chL A l i) (e1 : v1 = nv1 (nrF A l i)) (e2 : v2 = nv2 (nrF A l i)) : (v1 < nI 0 ∧ nrF A l (i + 1) = some (i, c)) ∨ (¬ v1 < nI 0 ∧ nI c < v2 ∧ ¬ v2 ≤ nI c ∧ nrF A l (i + 1) = some (i, c)) ∨ (¬ v1 < nI 0 ∧ ¬ nI c < v2 ∧ v2 ≤ nI c ∧ nrF A l (i + 1) = nrF A l i) := by
  have a2 := w.e2
  have b10 := nrF_lt hl (fun o ho => (w.o1 ho).2)
  have hc10 : c < 10 := by
    have h1 := ch_le (fun i => l.getD i 0) (oW A i) l.length (an A (58 + 6 * i + 1))
    have h2 := (w.o1 hi).2
    rw [hc]
    unfold chL
    omega
  cases e : nrF A l i with
  | none =>
    refine .inl ⟨?_, ?_⟩
    · rw [e1, e]; show ng 2 < nI 0; decide
    · rw [nrF, e, hc]
  | some b =>
    have hb := b10 i b (by omega) e
    have q1 : ¬ v1 < nI 0 := by rw [e1, e]; show ¬ nI b.1 < nI 0; rw [nx_lt (by omega) (by omega)]; omega
    have q2 : v2 = nI b.2 := by rw [e2, e]; rfl
    by_cases q : c < b.2
    · refine .inr (.inl ⟨q1, ?_, ?_, ?_⟩)
      · rw [q2, nx_lt (by omega) (by omega)]; exact q
      · rw [q2, nx_le (by omega) (by omega)]; omega
      · rw [nrF, e]
        dsimp only
        rw [← hc, if_pos q]
    · refine .inr (.inr ⟨q1, ?_, ?_, ?_⟩)
      · rw [q2, nx_lt (by omega) (by omega)]; exact q
      · rw [q2, nx_le (by omega) (by omega)]; omega
      · rw [nrF, e]
        dsimp only
        rw [← hc, if_neg q]
theorem a_findNearest_sp (Q : QI h s A) (hl : l.length ≤ 5) (hr : ∀ j, j < l.length → h.2.1 89 j = nI (l.getD j 0) ∧ l.getD j 0 < 10) : SP (a_findNearest 68 s 89 (nI l.length) h) (fun h' => Fr (fun c => c = 68 ∨ c = 84) h h' ∧ h'.2.1 68 9 = nv1 (nrF A l (an A 2)) ∧ h'.2.1 68 10 = nv2 (nrF A l (an A 2))) := by
  have w := Q.2.2.2.2.2.1
  have a2 := w.e2
  unfold a_findNearest
  simp only [kc_im8, kc_im1, kc_i0, kc_i1, kc_i2, kc_i3, kc_i4, kc_i5, kc_b_m100, kc_b_m16, kc_b_m15, kc_b_m14, kc_b_m13, kc_b_m12, kc_b_m11, kc_b_m2, kc_b_6, kc_b_7, kc_b_8, kc_b_9, kc_b_10, kc_b_11, kc_b_12, kc_b_13, kc_b_14, kc_b_15, kc_b_16, kc_b_20, kc_b_24, kc_b_32, kc_b_37, kc_b_40, kc_b_42, kc_b_43, kc_b_45, kc_b_47, kc_b_48, kc_b_57, kc_b_58, kc_b_59, kc_b_60, kc_b_61, kc_b_62, kc_b_63, kc_b_91, kc_b_93, kc_b_97, kc_b_99, kc_b_100, kc_b_106, kc_b_122, kc_s_206, kc_s_226, kc_s_227, kc_s_255, kc_s_256, kc_s_316, kc_s_318, kc_s_400, kc_s_512, kc_s_999, kc_s_1160, kc_s_1536, kc_s_3003, kc_lm11, kc_lm10, kc_lm9, kc_lm8, kc_lm7, kc_lm6, kc_lm5, kc_lm4, kc_lm3, kc_lm2, kc_lm1, kc_l1, kc_l2, kc_l3, kc_l4, kc_l5, kc_l6, kc_l7, kc_l8, kc_l9, kc_l10, kc_l11, kc_l12, kc_l13, kc_l14, kc_l37, kc_l42, kc_l43, kc_l45, kc_l47, kc_l60, kc_l61, kc_l62, kc_l316, kc_l318, kc_l65536, kc_l99999, kc_l1000000, kc_l252645135, kc_l858993459, kc_l1431655765, kc_0, kc_on]
  rw [sp_bd, sp_bd]
  have key : SP (wh (fun q : (Int32 × pm_H) => a_findNearest_15 68 s 89 (nI l.length) q.1 q.2) (nI 0, pm_setI (pm_setI h 68 9 (ng 2)) 68 10 (ng 2))) (fun h' => Fr (fun c => c = 68 ∨ c = 84) h h' ∧ h'.2.1 68 9 = nv1 (nrF A l (an A 2)) ∧ h'.2.1 68 10 = nv2 (nrF A l (an A 2))) := by
    refine wh_cnt (fun i q => q.1 = nI i ∧ Fr (fun c => c = 68 ∨ c = 84) h q.2 ∧ q.2.2.1 68 9 = nv1 (nrF A l i) ∧ q.2.2.1 68 10 = nv2 (nrF A l i)) _ (an A 2) ?_ ?_ 0 (nI 0, pm_setI (pm_setI h 68 9 (ng 2)) 68 10 (ng 2)) (by omega) ⟨rfl, ((Fr.refl _ h).setI (.inl rfl)).setI (.inl rfl), ?_, ?_⟩
    · rintro i ⟨y, h1⟩ hi ⟨hy, f1, v1, v2⟩
      dsimp only at hy f1 v1 v2
      subst hy
      have Q1 := (Q.ask f1 (fun c hc => by omega)).1
      unfold a_findNearest_15
      simp only [kc_im8, kc_im1, kc_i0, kc_i1, kc_i2, kc_i3, kc_i4, kc_i5, kc_b_m100, kc_b_m16, kc_b_m15, kc_b_m14, kc_b_m13, kc_b_m12, kc_b_m11, kc_b_m2, kc_b_6, kc_b_7, kc_b_8, kc_b_9, kc_b_10, kc_b_11, kc_b_12, kc_b_13, kc_b_14, kc_b_15, kc_b_16, kc_b_20, kc_b_24, kc_b_32, kc_b_37, kc_b_40, kc_b_42, kc_b_43, kc_b_45, kc_b_47, kc_b_48, kc_b_57, kc_b_58, kc_b_59, kc_b_60, kc_b_61, kc_b_62, kc_b_63, kc_b_91, kc_b_93, kc_b_97, kc_b_99, kc_b_100, kc_b_106, kc_b_122, kc_s_206, kc_s_226, kc_s_227, kc_s_255, kc_s_256, kc_s_316, kc_s_318, kc_s_400, kc_s_512, kc_s_999, kc_s_1160, kc_s_1536, kc_s_3003, kc_lm11, kc_lm10, kc_lm9, kc_lm8, kc_lm7, kc_lm6, kc_lm5, kc_lm4, kc_lm3, kc_lm2, kc_lm1, kc_l1, kc_l2, kc_l3, kc_l4, kc_l5, kc_l6, kc_l7, kc_l8, kc_l9, kc_l10, kc_l11, kc_l12, kc_l13, kc_l14, kc_l37, kc_l42, kc_l43, kc_l45, kc_l47, kc_l60, kc_l61, kc_l62, kc_l316, kc_l318, kc_l65536, kc_l99999, kc_l1000000, kc_l252645135, kc_l858993459, kc_l1431655765, kc_0, kc_on]
      rw [Q1.2.2.1.2.2.2.1, a2.1]
      refine sp_neg (by rw [nx_le (by omega) (by omega)]; omega) ?_
      refine sp_call (a_changesTo_sp Q1 hi hl (fun j hj => by rw [f1.i _ (by omega)]; exact hr j hj)) ?_
      rintro ⟨c, h2⟩ ⟨hc, f2⟩
      dsimp only at hc f2
      subst hc
      dsimp only
      have f3 : Fr (fun c => c = 68 ∨ c = 84) h h2 := f1.trans (f2.mono (fun c hc => .inr hc))
      have u1 : h2.2.1 68 9 = nv1 (nrF A l i) := by rw [f2.i _ (by omega)]; exact v1
      have u2 : h2.2.1 68 10 = nv2 (nrF A l i) := by rw [f2.i _ (by omega)]; exact v2
      have put : nrF A l (i + 1) = some (i, chL A l i) → SP (a_findNearest_51 68 s 89 (nI l.length) (nI i) (nI (chL A l i)) h2) (fun q => match q with | .inl q => q.1 = nI (i + 1) ∧ Fr (fun c => c = 68 ∨ c = 84) h q.2 ∧ q.2.2.1 68 9 = nv1 (nrF A l (i + 1)) ∧ q.2.2.1 68 10 = nv2 (nrF A l (i + 1)) | .inr h' => Fr (fun c => c = 68 ∨ c = 84) h h' ∧ h'.2.1 68 9 = nv1 (nrF A l (an A 2)) ∧ h'.2.1 68 10 = nv2 (nrF A l (an A 2))) := by
        intro e
        unfold a_findNearest_51
        simp only [kc_im8, kc_im1, kc_i0, kc_i1, kc_i2, kc_i3, kc_i4, kc_i5, kc_b_m100, kc_b_m16, kc_b_m15, kc_b_m14, kc_b_m13, kc_b_m12, kc_b_m11, kc_b_m2, kc_b_6, kc_b_7, kc_b_8, kc_b_9, kc_b_10, kc_b_11, kc_b_12, kc_b_13, kc_b_14, kc_b_15, kc_b_16, kc_b_20, kc_b_24, kc_b_32, kc_b_37, kc_b_40, kc_b_42, kc_b_43, kc_b_45, kc_b_47, kc_b_48, kc_b_57, kc_b_58, kc_b_59, kc_b_60, kc_b_61, kc_b_62, kc_b_63, kc_b_91, kc_b_93, kc_b_97, kc_b_99, kc_b_100, kc_b_106, kc_b_122, kc_s_206, kc_s_226, kc_s_227, kc_s_255, kc_s_256, kc_s_316, kc_s_318, kc_s_400, kc_s_512, kc_s_999, kc_s_1160, kc_s_1536, kc_s_3003, kc_lm11, kc_lm10, kc_lm9, kc_lm8, kc_lm7, kc_lm6, kc_lm5, kc_lm4, kc_lm3, kc_lm2, kc_lm1, kc_l1, kc_l2, kc_l3, kc_l4, kc_l5, kc_l6, kc_l7, kc_l8, kc_l9, kc_l10, kc_l11, kc_l12, kc_l13, kc_l14, kc_l37, kc_l42, kc_l43, kc_l45, kc_l47, kc_l60, kc_l61, kc_l62, kc_l316, kc_l318, kc_l65536, kc_l99999, kc_l1000000, kc_l252645135, kc_l858993459, kc_l1431655765, kc_0, kc_on]
        rw [sp_bd, sp_bd, sp_some, e]
        refine ⟨nx_add i 1, (f3.setI (.inl rfl)).setI (.inl rfl), ?_, ?_⟩
        · show (pm_setI (pm_setI h2 68 9 _) 68 10 _).2.1 68 9 = _
          rw [ri_j _ (by omega), ri_s]; rfl
        · show (pm_setI (pm_setI h2 68 9 _) 68 10 _).2.1 68 10 = _
          rw [ri_s]; rfl
      rcases nrF_step (c := chL A l i) hl w hi rfl u1 u2 with ⟨q1, q2⟩ | ⟨q1, _, q2, q3⟩ | ⟨q1, _, q2, q3⟩
      · exact sp_pos q1 ((put q2).mono (by rintro (q | q) hq <;> exact hq))
      · exact sp_neg q1 (sp_neg q2 ((put q3).mono (by rintro (q | q) hq <;> exact hq)))
      · refine sp_neg q1 (sp_pos q2 (sp_some.mpr ⟨nx_add i 1, f3, ?_, ?_⟩))
        · rw [q3]; exact u1
        · rw [q3]; exact u2
    · rintro ⟨y, h1⟩ ⟨hy, f1, v1, v2⟩
      dsimp only at hy f1 v1 v2
      subst hy
      have Q1 := (Q.ask f1 (fun c hc => by omega)).1
      unfold a_findNearest_15
      rw [Q1.2.2.1.2.2.2.1, a2.1]
      exact sp_pos (by rw [nx_le (by omega) (by omega)]; omega) (sp_some.mpr ⟨f1, v1, v2⟩)
    · show (pm_setI (pm_setI h 68 9 _) 68 10 _).2.1 68 9 = _
      rw [ri_j _ (by omega), ri_s]; rfl
    · show (pm_setI (pm_setI h 68 9 _) 68 10 _).2.1 68 10 = _
      rw [ri_s]; rfl
  refine sp_call key ?_
  intro h' q
  exact sp_some.mpr q
theorem x_nearest_ok (Q : QI h s A) {N n k : Nat} (h0 : 0 < n) (hn : n ≤ 5) (hN : N < 10 ^ n) (ok : isM A N n) (hk : k ≤ 1) : SP (x_nearest 0 (nI N) (nI n) (nI k) h) (fun z => z.1 = vNear A N n k ∧ Fq QF h z.2 ∧ QI z.2 s A) := by
  have okk : ∀ j, j < n → okM A (dg N n j) = true := fun j hj => (Bool.and_eq_true_iff.mp (ok j hj)).1
  have hD := dset_lt N n n
  unfold x_nearest
  refine sp_call (x_menOf_ok Q h0 hn hN ok) ?_
  rintro ⟨y, h1⟩ ⟨hy, f1, c1⟩
  dsimp only at hy f1 c1
  subst hy
  have Q1 := (Q.ask f1 (fun c hc => by omega)).1
  have Q1' := Q1
  obtain ⟨R, _, S, H, D, w, K⟩ := Q1
  have h512 := hrd_512 w
  refine sp_neg (by rw [kc_im1, n_eq_ng (by omega) (by omega) (by omega)]; exact id) (sp_neg (by rw [kc_0, nx_lt (by omega) (by omega)]; omega) (sp_pos (by rw [kc_i1, nx_le (by omega) (by omega)]; omega) ?_))
  dsimp only
  rw [ra_0_4 R, Option.bind_some, Q1'.now, Option.bind_some, ra_0_8 R, Option.bind_some, Option.bind_some, q_hands Q1', Option.bind_some, Option.bind_some, Q1'.now, Option.bind_some, n_heard_c S H w R, Option.bind_some]
  refine sp_call (x_wordsOf_sp Q1' hn (by omega) okk c1) ?_
  rintro ⟨m, h3⟩ ⟨hm, W⟩
  dsimp only at hm W
  subst hm
  have hl := hdL_len (A := A) (K := hrdN A) (N := N) (n := n) n
  have Q3 := (Q1'.ask W.1 (fun c hc => by omega)).1
  have Q3' := Q3
  obtain ⟨R3, _, S3, H3, D3, w3, K3⟩ := Q3
  have r3 : ∀ i, i < (hdL A (hrdN A) N n n).length → h3.2.1 89 i = nI ((hdL A (hrdN A) N n n).getD i 0) ∧ (hdL A (hrdN A) N n n).getD i 0 < 10 := fun i hi => ⟨W.2.1 i hi, by
    rw [List.getD_eq_getElem?_getD, List.getElem?_eq_getElem hi]
    exact hdL_lt w okk _ (List.getElem_mem _)⟩
  dsimp only
  refine sp_call (c_settle S3 w3 R3 (isM_p w3 h0 ok) mn_89 (by omega) (by omega) r3) ?_
  rintro ⟨l4, h4⟩ ⟨m, g', hm, hmk, f4, r4, e4⟩
  dsimp only at hm hmk f4 r4 e4
  subst hm
  rw [tl_of] at e4
  obtain ⟨t1, t2⟩ := tl_row e4
  have Q4 := (Q3'.ask f4 (fun c hc => by omega)).1
  dsimp only
  rw [ra_0_7 Q4.1, Option.bind_some, ra_0_4 Q4.1, Option.bind_some, Q4.now, Option.bind_some, ra_0_8 Q4.1, Option.bind_some, t1]
  refine sp_call (a_findNearest_sp Q4 (l := meaning (mnA A) (hdL A (hrdN A) N n n)) (by omega) (fun j hj => by rw [← t2 j (by omega)]; exact r4 j (by omega))) ?_
  rintro h5 ⟨f5, v1, v2⟩
  have Q5 := Q4.ask f5 (fun c hc => by omega)
  have fq : Fq QF h h5 := (((Q.ask f1 (fun c hc => by omega)).2.trans (Q1'.ask W.1 (fun c hc => by omega)).2).trans (Q3'.ask f4 (fun c hc => by omega)).2).trans Q5.2
  unfold vNear
  by_cases k0 : k = 0
  · refine sp_neg (by rw [kc_0, nx_eq (by omega) (by omega)]; exact fun z => z k0) ?_
    rw [ra_0_7 Q5.1.1, Option.bind_some, sp_some, if_pos k0]
    exact ⟨v1, fq, Q5.1⟩
  · refine sp_pos (by rw [kc_0, nx_eq (by omega) (by omega)]; exact k0) ?_
    rw [ra_0_7 Q5.1.1, Option.bind_some, sp_some, if_neg k0]
    exact ⟨v2, fq, Q5.1⟩
theorem x_nearest_no (Q : QI h s A) {x y v : Int32} (no : ¬ ∃ N n k, isRD x y N n ∧ isM A N n ∧ k ≤ 1 ∧ v = nI k) : SP (x_nearest 0 x y v h) (fun z => z.1 = ng 1 ∧ Fr (· = 89) h z.2) := by
  unfold x_nearest
  by_cases hr : ∃ N n, isRD x y N n ∧ isM A N n
  · obtain ⟨N, n, q, ok⟩ := hr
    have nk : ¬ ∃ k, k ≤ 1 ∧ v = nI k := fun ⟨k, z1, z2⟩ => no ⟨N, n, k, q, ok, z1, z2⟩
    obtain ⟨rfl, rfl, h0, hn, hN⟩ := q
    have hD := dset_lt N n n
    refine sp_call (x_menOf_ok Q h0 hn hN ok) ?_
    rintro ⟨y, h1⟩ ⟨hy, f1, c1⟩
    dsimp only at hy f1 c1
    subst hy
    refine sp_neg (by rw [kc_im1, n_eq_ng (by omega) (by omega) (by omega)]; exact id) ?_
    by_cases v0 : v < nI 0
    · exact sp_pos v0 (sp_some.mpr ⟨kc_im1, f1⟩)
    · exact sp_neg v0 (sp_neg (by rw [kc_i1]; exact (nrng (by omega) nk v0).2) (sp_some.mpr ⟨kc_im1, f1⟩))
  · refine sp_call (x_menOf_no Q hr) ?_
    rintro ⟨y, h1⟩ ⟨hy, f1⟩
    dsimp only at hy f1
    subst hy
    exact sp_pos kc_im1.symm (sp_some.mpr ⟨kc_im1, f1⟩)
end NE
