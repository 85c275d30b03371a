/-! say, of the program and of the reference. -/
section SA
variable {h : pm_H} {s n N k : Nat} {A : Nat → Int32} {P : Nat → Nat → Int32}
/-- the ends: an act that changes no hands, and the row too -/
def XS (h : pm_H) (s n : Nat) (A : Nat → Int32) (P : Nat → Nat → Int32) (h' : pm_H) : Prop := Fr (fun c => AF c ∨ c = 89) h h' ∧ QI h' s A ∧ CP h' (min (n + 1) 20) (push A P)
def YS (h : pm_H) (n : Nat) (A : Nat → Int32) (P : Nat → Nat → Int32) (h' : pm_H) : Prop := FrM (fun c => c = 203 ∨ c = 204 ∨ c = 205 ∨ c = 208) (fun j => j = 23 ∨ j = 28) h h' ∧ MI h' A ∧ MP h' (min (n + 1) 20) (push A P)
def vSay (A : Nat → Int32) (N k : Nat) : Int32 := ov2 (syA A ((tl (dg N k) k).map (wm A)))
theorem CP.f89 {h' : pm_H} (C : CP h n P) (f : Fr (· = 89) h h') : CP h' n P := C.fr (f.2.2 6 (by omega)).1 (fun c h1 h2 => (f.2.2 c (by omega)).1)
theorem x_say_ok (Q : QI h s A) (C : CP h n P) (h0 : 0 < k) (hk : k ≤ 5) (hN : N < 10 ^ k) (ok : isM A N k) (hd : isHd A N k) : SP (x_say 0 (nI N) (nI k) h) (fun z => z.1 = vSay A N k ∧ XS h s n A P z.2) := by
  have okk : ∀ j, j < k → okM A (dg N k j) = true := fun j hj => (Bool.and_eq_true_iff.mp (ok j hj)).1
  have hD := dset_lt N k k
  unfold x_say
  refine sp_call (x_menOf_ok Q h0 hk hN ok) ?_
  rintro ⟨y, h1⟩ ⟨hy, f1, c1⟩
  dsimp only at hy f1 c1
  subst hy
  have Q1 := (Q.ask f1 (fun c hc => by omega)).1
  have Q1' := Q1
  obtain ⟨R, _, S, H, D, w, K⟩ := Q1
  simp only [kc_im8, kc_im1, kc_i0, kc_i1, kc_i2, kc_i3, kc_i4, kc_i5, kc_b_m100, kc_b_m16, kc_b_m15, kc_b_m14, kc_b_m13, kc_b_m12, kc_b_m11, kc_b_m2, kc_b_6, kc_b_7, kc_b_8, kc_b_9, kc_b_10, kc_b_11, kc_b_12, kc_b_13, kc_b_14, kc_b_15, kc_b_16, kc_b_20, kc_b_24, kc_b_32, kc_b_37, kc_b_40, kc_b_42, kc_b_43, kc_b_45, kc_b_47, kc_b_48, kc_b_57, kc_b_58, kc_b_59, kc_b_60, kc_b_61, kc_b_62, kc_b_63, kc_b_91, kc_b_93, kc_b_97, kc_b_99, kc_b_100, kc_b_106, kc_b_122, kc_s_206, kc_s_226, kc_s_227, kc_s_255, kc_s_256, kc_s_316, kc_s_318, kc_s_400, kc_s_512, kc_s_999, kc_s_1160, kc_s_1536, kc_s_3003, kc_lm11, kc_lm10, kc_lm9, kc_lm8, kc_lm7, kc_lm6, kc_lm5, kc_lm4, kc_lm3, kc_lm2, kc_lm1, kc_l1, kc_l2, kc_l3, kc_l4, kc_l5, kc_l6, kc_l7, kc_l8, kc_l9, kc_l10, kc_l11, kc_l12, kc_l13, kc_l14, kc_l37, kc_l42, kc_l43, kc_l45, kc_l47, kc_l60, kc_l61, kc_l62, kc_l316, kc_l318, kc_l65536, kc_l99999, kc_l1000000, kc_l252645135, kc_l858993459, kc_l1431655765, kc_0, kc_on]
  refine sp_neg (by rw [n_eq_ng (by omega) (by omega) (by omega)]; exact id) ?_
  simp only [ra_0_4 R, Option.bind_some, q_hands Q1', Q1'.now, n_heard_c S H w R, nx_andn]
  have hs : sd (dset N k k) (hrdN A) = 0 := isHd_sd.mpr hd
  refine sp_pos (by rw [hs]) ?_
  rw [ra_0_6 R, Option.bind_some]
  refine sp_call (q_keep Q1' (C.f89 f1)) ?_
  rintro h2 ⟨f2, Q2, C2⟩
  have c2 : ∀ i, i < k → h2.2.1 89 i = nI (dg N k i) := fun i hi => by rw [f2.i _ (by unfold AF; omega)]; exact c1 i hi
  refine sp_call (x_wordsOf_sp Q2 hk hD okk c2) ?_
  rintro ⟨l, h3⟩ ⟨hl, W⟩
  dsimp only at hl W
  have e3 : hdL A (dset N k k) N k k = (tl (dg N k) k).map (wm A) := hdL_all (fun j hj => (dset_bit k _).mpr ⟨j, hj, rfl⟩)
  have l3 : (hdL A (dset N k k) N k k).length = k := by rw [e3, List.length_map, tl_len]
  have Q3 := (Q2.ask W.1 (fun c hc => by omega)).1
  have Q3' := Q3
  obtain ⟨R3, _, S3, H3, D3, w3, K3⟩ := Q3
  have r3 : ∀ i, i < k → h3.2.1 89 i = nI ((hdL A (dset N k k) N k k).getD i 0) ∧ (hdL A (dset N k k) N k k).getD i 0 < 10 := fun i hi => ⟨W.2.1 i (by omega), by
    rw [List.getD_eq_getElem?_getD, List.getElem?_eq_getElem (by omega)]
    exact hdL_lt w okk _ (List.getElem_mem _)⟩
  dsimp only
  simp only [ra_0_4 R3, Option.bind_some, Q3'.now, ra_0_8 R3]
  refine sp_call (c_settle S3 w3 R3 (isM_p w3 h0 ok) mn_89 (by omega) hk r3) ?_
  rintro ⟨l4, h4⟩ ⟨m, g', hm, hmk, f4, r4, e4⟩
  dsimp only at hm hmk f4 r4 e4
  subst hm
  have Q4 := (Q3'.ask f4 (fun c hc => by omega)).1
  have Q4' := Q4
  obtain ⟨R4, _, S4, H4, D4, w4, K4⟩ := Q4
  dsimp only
  rw [c_orderOf S4 w4 R4 mn_89 (by omega) r4, Option.bind_some, sp_some]
  refine ⟨?_, (((f1.mono (fun c hc => .inr hc)).trans (f2.mono (fun c hc => .inl hc))).trans (W.1.mono (fun c hc => .inr hc))).trans (f4.mono (fun c hc => .inr hc)), Q4', (C2.f89 W.1).f89 f4⟩
  have e5 : tl (fun i => (hdL A (dset N k k) N k k).getD i 0) k = (tl (dg N k) k).map (wm A) := by
    have := tl_of (hdL A (dset N k k) N k k)
    rw [l3] at this
    rw [this, e3]
  unfold vSay syA
  dsimp only
  rw [e4, e5]
  rfl
theorem x_say_no (Q : QI h s A) {x y : Int32} (no : ¬ ∃ N k, isRD x y N k ∧ isM A N k ∧ isHd A N k) : SP (x_say 0 x y h) (fun z => z.1 = ng 1 ∧ Fr (· = 89) h z.2) := by
  unfold x_say
  by_cases hr : ∃ N n, isRD x y N n ∧ isM A N n
  · obtain ⟨N, k, q, ok⟩ := hr
    have nm : ¬ isHd A N k := fun z => no ⟨N, k, q, ok, z⟩
    obtain ⟨rfl, rfl, h0, hn, hN⟩ := q
    have hD := dset_lt N k k
    refine sp_call (x_menOf_ok Q h0 hn hN ok) ?_
    rintro ⟨y, h1⟩ ⟨hy, f1, c1⟩
    dsimp only at hy f1 c1
    subst hy
    have Q1 := (Q.ask f1 (fun c hc => by omega)).1
    have Q1' := Q1
    obtain ⟨R, _, S, H, D, w, K⟩ := Q1
    simp only [kc_im8, kc_im1, kc_i0, kc_i1, kc_i2, kc_i3, kc_i4, kc_i5, kc_b_m100, kc_b_m16, kc_b_m15, kc_b_m14, kc_b_m13, kc_b_m12, kc_b_m11, kc_b_m2, kc_b_6, kc_b_7, kc_b_8, kc_b_9, kc_b_10, kc_b_11, kc_b_12, kc_b_13, kc_b_14, kc_b_15, kc_b_16, kc_b_20, kc_b_24, kc_b_32, kc_b_37, kc_b_40, kc_b_42, kc_b_43, kc_b_45, kc_b_47, kc_b_48, kc_b_57, kc_b_58, kc_b_59, kc_b_60, kc_b_61, kc_b_62, kc_b_63, kc_b_91, kc_b_93, kc_b_97, kc_b_99, kc_b_100, kc_b_106, kc_b_122, kc_s_206, kc_s_226, kc_s_227, kc_s_255, kc_s_256, kc_s_316, kc_s_318, kc_s_400, kc_s_512, kc_s_999, kc_s_1160, kc_s_1536, kc_s_3003, kc_lm11, kc_lm10, kc_lm9, kc_lm8, kc_lm7, kc_lm6, kc_lm5, kc_lm4, kc_lm3, kc_lm2, kc_lm1, kc_l1, kc_l2, kc_l3, kc_l4, kc_l5, kc_l6, kc_l7, kc_l8, kc_l9, kc_l10, kc_l11, kc_l12, kc_l13, kc_l14, kc_l37, kc_l42, kc_l43, kc_l45, kc_l47, kc_l60, kc_l61, kc_l62, kc_l316, kc_l318, kc_l65536, kc_l99999, kc_l1000000, kc_l252645135, kc_l858993459, kc_l1431655765, kc_0, kc_on]
    refine sp_neg (by rw [n_eq_ng (by omega) (by omega) (by omega)]; exact id) ?_
    simp only [ra_0_4 R, Option.bind_some, q_hands Q1', Q1'.now, n_heard_c S H w R, nx_andn]
    have hs : sd (dset N k k) (hrdN A) < 2 ^ 10 := sub_lt (sub_sd _ _) hD
    exact sp_neg (by rw [nx_eq (by omega) (by omega)]; exact fun z => nm (isHd_sd.mp z)) (sp_some.mpr ⟨rfl, f1⟩)
  · refine sp_call (x_menOf_no Q hr) ?_
    rintro ⟨y, h1⟩ ⟨hy, f1⟩
    dsimp only at hy f1
    subst hy
    simp only [kc_im8, kc_im1, kc_i0, kc_i1, kc_i2, kc_i3, kc_i4, kc_i5, kc_b_m100, kc_b_m16, kc_b_m15, kc_b_m14, kc_b_m13, kc_b_m12, kc_b_m11, kc_b_m2, kc_b_6, kc_b_7, kc_b_8, kc_b_9, kc_b_10, kc_b_11, kc_b_12, kc_b_13, kc_b_14, kc_b_15, kc_b_16, kc_b_20, kc_b_24, kc_b_32, kc_b_37, kc_b_40, kc_b_42, kc_b_43, kc_b_45, kc_b_47, kc_b_48, kc_b_57, kc_b_58, kc_b_59, kc_b_60, kc_b_61, kc_b_62, kc_b_63, kc_b_91, kc_b_93, kc_b_97, kc_b_99, kc_b_100, kc_b_106, kc_b_122, kc_s_206, kc_s_226, kc_s_227, kc_s_255, kc_s_256, kc_s_316, kc_s_318, kc_s_400, kc_s_512, kc_s_999, kc_s_1160, kc_s_1536, kc_s_3003, kc_lm11, kc_lm10, kc_lm9, kc_lm8, kc_lm7, kc_lm6, kc_lm5, kc_lm4, kc_lm3, kc_lm2, kc_lm1, kc_l1, kc_l2, kc_l3, kc_l4, kc_l5, kc_l6, kc_l7, kc_l8, kc_l9, kc_l10, kc_l11, kc_l12, kc_l13, kc_l14, kc_l37, kc_l42, kc_l43, kc_l45, kc_l47, kc_l60, kc_l61, kc_l62, kc_l316, kc_l318, kc_l65536, kc_l99999, kc_l1000000, kc_l252645135, kc_l858993459, kc_l1431655765, kc_0, kc_on]
    exact sp_pos (by first | rfl | trivial) (sp_some.mpr ⟨rfl, f1⟩)
theorem m_sayW (M : MI h A) (hk : k ≤ 5) (hN : N < 10 ^ k) (ok : isM A N k) : SP (wh (fun z : (Int32 × pm_H) => m_say_13 193 (nI N) (nI k) z.1 z.2) (nI 0, h)) (fun z => match z with | .inl h' => ¬ isHd A N k ∧ FrM (· = 205) (fun _ => False) h h' | .inr h' => isHd A N k ∧ FrM (· = 205) (fun _ => False) h h' ∧ MROW h' (tl (dg N k) k)) := by
  have okk : ∀ j, j < k → okM A (dg N k j) = true := fun j hj => (Bool.and_eq_true_iff.mp (ok j hj)).1
  obtain ⟨R, hA, w⟩ := M
  refine wh_cnt (fun i z => z.1 = nI i ∧ (∀ j, j < i → (hrdN A).testBit (dg N k j) = true) ∧ FrM (· = 205) (fun _ => False) h z.2 ∧ ∀ j, j < i → z.2.2.1 205 j = nI (dg N k j)) _ k ?_ ?_ 0 (nI 0, h) (by omega) ⟨rfl, fun j q => by omega, FrM.refl _ _ _, fun j q => by omega⟩
  · rintro i ⟨y, h1⟩ hi ⟨hy, wd1, f1, r1⟩
    dsimp only at hy wd1 f1 r1
    subst hy
    have R1 := R.fm f1
    have f2 : FrM (· = 205) (fun _ => False) h (pm_setI h1 205 i (nI (dg N k i))) := f1.setI (by omega) rfl
    have R2 := R.fm f2
    have A2 : (pm_setI h1 205 i (nI (dg N k i))).2.1 203 = A := by rw [f2.i (by omega) (by omega)]; exact hA
    unfold m_say_13
    simp only [kc_im8, kc_im1, kc_i0, kc_i1, kc_i2, kc_i3, kc_i4, kc_i5, kc_b_m100, kc_b_m16, kc_b_m15, kc_b_m14, kc_b_m13, kc_b_m12, kc_b_m11, kc_b_m2, kc_b_6, kc_b_7, kc_b_8, kc_b_9, kc_b_10, kc_b_11, kc_b_12, kc_b_13, kc_b_14, kc_b_15, kc_b_16, kc_b_20, kc_b_24, kc_b_32, kc_b_37, kc_b_40, kc_b_42, kc_b_43, kc_b_45, kc_b_47, kc_b_48, kc_b_57, kc_b_58, kc_b_59, kc_b_60, kc_b_61, kc_b_62, kc_b_63, kc_b_91, kc_b_93, kc_b_97, kc_b_99, kc_b_100, kc_b_106, kc_b_122, kc_s_206, kc_s_226, kc_s_227, kc_s_255, kc_s_256, kc_s_316, kc_s_318, kc_s_400, kc_s_512, kc_s_999, kc_s_1160, kc_s_1536, kc_s_3003, kc_lm11, kc_lm10, kc_lm9, kc_lm8, kc_lm7, kc_lm6, kc_lm5, kc_lm4, kc_lm3, kc_lm2, kc_lm1, kc_l1, kc_l2, kc_l3, kc_l4, kc_l5, kc_l6, kc_l7, kc_l8, kc_l9, kc_l10, kc_l11, kc_l12, kc_l13, kc_l14, kc_l37, kc_l42, kc_l43, kc_l45, kc_l47, kc_l60, kc_l61, kc_l62, kc_l316, kc_l318, kc_l65536, kc_l99999, kc_l1000000, kc_l252645135, kc_l858993459, kc_l1431655765, kc_0, kc_on]
    rw [if_neg (by rw [nx_le (by omega) (by omega)]; omega), ra_193_24 R1, Option.bind_some, m_digit_n h1 hk hN hi, Option.bind_some, mn_205, gi_n (by omega), if_pos (by simp; omega), nx_cl (by omega), sp_bd, ra_193_24 R2, Option.bind_some, mn_205, gi_n (by omega), if_pos (by simp; omega), ri_s, m_isHeard_k ⟨R2, A2, w⟩ (okk i hi), Option.bind_some]
    by_cases hm : (hrdN A).testBit (dg N k i) = true
    · rw [if_pos (by rw [nx_bt0, hm]; simp), nx_add]
      refine sp_some.mpr ⟨rfl, fun j hj => ?_, f2, fun j hj => ?_⟩
      · by_cases q : j = i
        · subst q; exact hm
        · exact wd1 j (by omega)
      · show (pm_setI h1 205 i _).2.1 205 j = _
        by_cases q : j = i
        · subst q; rw [ri_s]
        · rw [ri_j _ q]; exact r1 j (by omega)
    · have hm' : (hrdN A).testBit (dg N k i) = false := by simpa using hm
      rw [if_neg (by rw [nx_bt0, hm']; simp)]
      exact sp_some.mpr ⟨fun z => hm (z i hi), f2⟩
  · rintro ⟨y, h1⟩ ⟨hy, wd1, f1, r1⟩
    dsimp only at hy wd1 f1 r1
    subst hy
    unfold m_say_13
    rw [if_pos (by rw [nx_le (by omega) (by omega)]; omega)]
    refine sp_some.mpr ⟨wd1, f1, fun i hi => ?_⟩
    rw [tl_len] at hi
    rw [List.getD_eq_getElem?_getD, tl_get _ hi]
    exact r1 i hi
theorem ov_ov2 (w : WFA A) (l : List Nat) : (if nI 0 ≤ ov (syA A l) then ov (syA A l) else ng 2) = ov2 (syA A l) := by
  have e2 := w.e2
  cases e : syA A l with
  | none => exact if_neg (by show ¬ nI 0 ≤ ng 1; decide)
  | some o =>
    have : o < an A 2 := by
      unfold syA ordOf at e
      exact List.mem_range.mp (List.mem_of_find?_eq_some e)
    exact if_pos (by show nI 0 ≤ nI o; rw [nx_le (by omega) (by omega)]; omega)
theorem m_say_ok (M : MI h A) (C : MP h n P) (h0 : 0 < k) (hk : k ≤ 5) (hN : N < 10 ^ k) (ok : isM A N k) (hd : isHd A N k) : SP (m_say 193 (nI N) (nI k) h) (fun z => z.1 = vSay A N k ∧ YS h n A P z.2) := by
  unfold m_say
  rw [m_areMen_t M h0 hk hN ok, Option.bind_some]
  simp only [kc_im8, kc_im1, kc_i0, kc_i1, kc_i2, kc_i3, kc_i4, kc_i5, kc_b_m100, kc_b_m16, kc_b_m15, kc_b_m14, kc_b_m13, kc_b_m12, kc_b_m11, kc_b_m2, kc_b_6, kc_b_7, kc_b_8, kc_b_9, kc_b_10, kc_b_11, kc_b_12, kc_b_13, kc_b_14, kc_b_15, kc_b_16, kc_b_20, kc_b_24, kc_b_32, kc_b_37, kc_b_40, kc_b_42, kc_b_43, kc_b_45, kc_b_47, kc_b_48, kc_b_57, kc_b_58, kc_b_59, kc_b_60, kc_b_61, kc_b_62, kc_b_63, kc_b_91, kc_b_93, kc_b_97, kc_b_99, kc_b_100, kc_b_106, kc_b_122, kc_s_206, kc_s_226, kc_s_227, kc_s_255, kc_s_256, kc_s_316, kc_s_318, kc_s_400, kc_s_512, kc_s_999, kc_s_1160, kc_s_1536, kc_s_3003, kc_lm11, kc_lm10, kc_lm9, kc_lm8, kc_lm7, kc_lm6, kc_lm5, kc_lm4, kc_lm3, kc_lm2, kc_lm1, kc_l1, kc_l2, kc_l3, kc_l4, kc_l5, kc_l6, kc_l7, kc_l8, kc_l9, kc_l10, kc_l11, kc_l12, kc_l13, kc_l14, kc_l37, kc_l42, kc_l43, kc_l45, kc_l47, kc_l60, kc_l61, kc_l62, kc_l316, kc_l318, kc_l65536, kc_l99999, kc_l1000000, kc_l252645135, kc_l858993459, kc_l1431655765, kc_0, kc_on]
  refine sp_pos (by decide) (sp_call (m_sayW M hk hN ok) ?_)
  obtain ⟨R, hA, w⟩ := M
  rintro (h1 | h1) q
  · exact (q.1 hd).elim
  obtain ⟨_, f1, r1⟩ := q
  have M1 : MI h1 A := ⟨R.fm f1, by rw [f1.i (by omega) (by omega)]; exact hA, w⟩
  have C1 : MP h1 n P := ⟨C.1, by rw [f1.f id]; exact C.2.1, fun i hi j hj => by rw [f1.i (by omega) (by omega)]; exact C.2.2 i hi j hj⟩
  dsimp only
  refine sp_call (y_keep M1 C1) ?_
  rintro h2 ⟨f2, M2, C2⟩
  have r2 : MROW h2 (tl (dg N k) k) := fun i hi => by rw [f2.i (by omega) (by omega)]; exact r1 i hi
  have := m_says M2.2.2 M2.1 M2.2.1 (p := tl (dg N k) k) (wf := wm A) r2 (by rw [tl_len]; exact hk) (fun m hm => by
    obtain ⟨j, hj, rfl⟩ := tl_mem.mp hm
    have d := dg_lt N k j
    exact ⟨by omega, hrd_WM w _ _ (hd j hj)⟩)
  rw [tl_len] at this
  refine sp_call this ?_
  rintro ⟨v, h3⟩ ⟨hv, f3⟩
  dsimp only at hv f3
  subst hv
  have Y : YS h n A P h3 := by
    refine ⟨((f1.mono (fun c hc => by omega) (fun j hj => hj.elim)).trans (f2.mono (fun c hc => by omega) (fun j hj => by omega))).trans (f3.mono (fun c hc => by omega) (fun j hj => by omega)), ⟨M2.1.fm f3, by rw [f3.i (by omega) (by omega)]; exact M2.2.1, w⟩, C2.1, by rw [f3.f (by omega)]; exact C2.2.1, fun i hi j hj => ?_⟩
    rw [f3.i (by omega) (by omega)]
    exact C2.2.2 i hi j hj
  have e := ov_ov2 w ((tl (dg N k) k).map (wm A))
  dsimp only
  by_cases q : nI 0 ≤ ov (syA A ((tl (dg N k) k).map (wm A)))
  · rw [if_pos q] at e
    exact sp_pos q (sp_some.mpr ⟨e, Y⟩)
  · rw [if_neg q] at e
    exact sp_neg q (sp_some.mpr ⟨e, Y⟩)
theorem m_say_no (M : MI h A) {x y : Int32} (no : ¬ ∃ N k, isRD x y N k ∧ isM A N k ∧ isHd A N k) : SP (m_say 193 x y h) (fun z => z.1 = ng 1 ∧ FM h z.2) := by
  unfold m_say
  by_cases hr : ∃ N n, isRD x y N n ∧ isM A N n
  · obtain ⟨N, k, q, ok⟩ := hr
    have nm : ¬ isHd A N k := fun z => no ⟨N, k, q, ok, z⟩
    obtain ⟨rfl, rfl, h0, hn, hN⟩ := q
    rw [m_areMen_t M h0 hn hN ok, Option.bind_some]
    simp only [kc_im8, kc_im1, kc_i0, kc_i1, kc_i2, kc_i3, kc_i4, kc_i5, kc_b_m100, kc_b_m16, kc_b_m15, kc_b_m14, kc_b_m13, kc_b_m12, kc_b_m11, kc_b_m2, kc_b_6, kc_b_7, kc_b_8, kc_b_9, kc_b_10, kc_b_11, kc_b_12, kc_b_13, kc_b_14, kc_b_15, kc_b_16, kc_b_20, kc_b_24, kc_b_32, kc_b_37, kc_b_40, kc_b_42, kc_b_43, kc_b_45, kc_b_47, kc_b_48, kc_b_57, kc_b_58, kc_b_59, kc_b_60, kc_b_61, kc_b_62, kc_b_63, kc_b_91, kc_b_93, kc_b_97, kc_b_99, kc_b_100, kc_b_106, kc_b_122, kc_s_206, kc_s_226, kc_s_227, kc_s_255, kc_s_256, kc_s_316, kc_s_318, kc_s_400, kc_s_512, kc_s_999, kc_s_1160, kc_s_1536, kc_s_3003, kc_lm11, kc_lm10, kc_lm9, kc_lm8, kc_lm7, kc_lm6, kc_lm5, kc_lm4, kc_lm3, kc_lm2, kc_lm1, kc_l1, kc_l2, kc_l3, kc_l4, kc_l5, kc_l6, kc_l7, kc_l8, kc_l9, kc_l10, kc_l11, kc_l12, kc_l13, kc_l14, kc_l37, kc_l42, kc_l43, kc_l45, kc_l47, kc_l60, kc_l61, kc_l62, kc_l316, kc_l318, kc_l65536, kc_l99999, kc_l1000000, kc_l252645135, kc_l858993459, kc_l1431655765, kc_0, kc_on]
    refine sp_pos (by decide) (sp_call (m_sayW M hn hN ok) ?_)
    rintro (h1 | h1) q
    · refine sp_some.mpr ⟨rfl, q.2.fm (fun c hc => ?_) (fun j hj => hj.elim)⟩
      unfold MF; omega
    · exact (nm q.1).elim
  · rw [m_areMen_f M hr, Option.bind_some]
    simp only [kc_im8, kc_im1, kc_i0, kc_i1, kc_i2, kc_i3, kc_i4, kc_i5, kc_b_m100, kc_b_m16, kc_b_m15, kc_b_m14, kc_b_m13, kc_b_m12, kc_b_m11, kc_b_m2, kc_b_6, kc_b_7, kc_b_8, kc_b_9, kc_b_10, kc_b_11, kc_b_12, kc_b_13, kc_b_14, kc_b_15, kc_b_16, kc_b_20, kc_b_24, kc_b_32, kc_b_37, kc_b_40, kc_b_42, kc_b_43, kc_b_45, kc_b_47, kc_b_48, kc_b_57, kc_b_58, kc_b_59, kc_b_60, kc_b_61, kc_b_62, kc_b_63, kc_b_91, kc_b_93, kc_b_97, kc_b_99, kc_b_100, kc_b_106, kc_b_122, kc_s_206, kc_s_226, kc_s_227, kc_s_255, kc_s_256, kc_s_316, kc_s_318, kc_s_400, kc_s_512, kc_s_999, kc_s_1160, kc_s_1536, kc_s_3003, kc_lm11, kc_lm10, kc_lm9, kc_lm8, kc_lm7, kc_lm6, kc_lm5, kc_lm4, kc_lm3, kc_lm2, kc_lm1, kc_l1, kc_l2, kc_l3, kc_l4, kc_l5, kc_l6, kc_l7, kc_l8, kc_l9, kc_l10, kc_l11, kc_l12, kc_l13, kc_l14, kc_l37, kc_l42, kc_l43, kc_l45, kc_l47, kc_l60, kc_l61, kc_l62, kc_l316, kc_l318, kc_l65536, kc_l99999, kc_l1000000, kc_l252645135, kc_l858993459, kc_l1431655765, kc_0, kc_on]
    exact sp_neg (by first | (exact fun q => q rfl) | (exact fun q => q trivial) | decide) (sp_some.mpr ⟨rfl, FM.refl h⟩)
end SA
