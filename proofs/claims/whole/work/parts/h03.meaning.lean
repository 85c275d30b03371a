/-! meaning, of the program and of the reference. -/
def isWd (A : Nat → Int32) (N n : Nat) : Prop := ∀ k, k < n → dg N n k < an A 0
/-- a one, and the words behind it as digits -/
def mngN (l : List Nat) : Nat := l.foldl (fun v d => v * 10 + d) 1
theorem mngN_snoc (g : Nat → Nat) (i : Nat) : mngN (tl g (i + 1)) = mngN (tl g i) * 10 + g i := by
  unfold mngN
  rw [tl_snoc, List.foldl_append]
  rfl
def vMng (A : Nat → Int32) (N n : Nat) : Int32 := nI (mngN (meaning (mnA A) (tl (dg N n) n)))
section ME
variable {h : pm_H} {s : Nat} {A : Nat → Int32}
theorem no_word (w : WFA A) {d : Nat} (hd : d < 10) (hm : ¬ d < an A 0) : ¬ ∃ m, m < an A 0 ∧ nI d = nI m := by
  have e0 := w.e0
  rintro ⟨m, q1, q2⟩
  rw [nx_eq (by omega) (by omega)] at q2
  omega
theorem wdW (Q : QI h s A) {N n : Nat} (hn : n ≤ 5) (hr : ∀ i, i < n → h.2.1 89 i = nI (dg N n i)) : wh (fun z : (Int32 × pm_H) => x_meaning_13 0 (nI n) z.1 z.2) (nI 0, h) = some (match (List.range n).find? (fun k => !decide (dg N n k < an A 0)) with | some _ => .inl h | none => .inr h) := by
  have Q' := Q
  obtain ⟨R, h1, S, H, D, w, K⟩ := Q
  refine wh_find (fun i => (nI i, h)) (fun _ => Sum.inl h) (Sum.inr h) (fun k => !decide (dg N n k < an A 0)) n (fun i hi => ?_) ?_
  · have hd := dg_lt N n i
    dsimp only
    unfold x_meaning_13
    simp only [kc_im8, kc_im1, kc_i0, kc_i1, kc_i2, kc_i3, kc_i4, kc_i5, kc_b_m100, kc_b_m16, kc_b_m15, kc_b_m14, kc_b_m13, kc_b_m12, kc_b_m11, kc_b_m2, kc_b_6, kc_b_7, kc_b_8, kc_b_9, kc_b_10, kc_b_11, kc_b_12, kc_b_13, kc_b_14, kc_b_15, kc_b_16, kc_b_20, kc_b_24, kc_b_32, kc_b_37, kc_b_40, kc_b_42, kc_b_43, kc_b_45, kc_b_47, kc_b_48, kc_b_57, kc_b_58, kc_b_59, kc_b_60, kc_b_61, kc_b_62, kc_b_63, kc_b_91, kc_b_93, kc_b_97, kc_b_99, kc_b_100, kc_b_106, kc_b_122, kc_s_206, kc_s_226, kc_s_227, kc_s_255, kc_s_256, kc_s_316, kc_s_318, kc_s_400, kc_s_512, kc_s_999, kc_s_1160, kc_s_1536, kc_s_3003, kc_lm11, kc_lm10, kc_lm9, kc_lm8, kc_lm7, kc_lm6, kc_lm5, kc_lm4, kc_lm3, kc_lm2, kc_lm1, kc_l1, kc_l2, kc_l3, kc_l4, kc_l5, kc_l6, kc_l7, kc_l8, kc_l9, kc_l10, kc_l11, kc_l12, kc_l13, kc_l14, kc_l37, kc_l42, kc_l43, kc_l45, kc_l47, kc_l60, kc_l61, kc_l62, kc_l316, kc_l318, kc_l65536, kc_l99999, kc_l1000000, kc_l252645135, kc_l858993459, kc_l1431655765, kc_0, kc_on]
    rw [if_neg (by rw [nx_le (by omega) (by omega)]; omega), ra_0_4 R, Option.bind_some, Q'.now, Option.bind_some, ra_0_8 R, Option.bind_some, mn_89, gi_n (by omega), if_pos (by simp; omega), nx_cl (by omega), hr i hi]
    by_cases hm : dg N n i < an A 0
    · rw [c_hasWord_t S w hm, Option.bind_some, if_pos (by decide), dec_t hm, nx_add]
      rfl
    · rw [c_hasWord_f S w (no_word w hd hm), Option.bind_some, if_neg (by decide), dec_f hm]
      rfl
  · dsimp only
    unfold x_meaning_13
    rw [if_pos (by rw [nx_le (by omega) (by omega)]; omega)]
theorem numW (R : RF h) {k : Nat} {g : Nat → Nat} (hk : k ≤ 5) (hr : ∀ i, i < k → h.2.1 89 i = nI (g i) ∧ g i < 10) : wh (fun z : (Int32 × Int32 × pm_H) => x_meaning_67 0 (nI k) z.1 z.2.1 z.2.2) (nI 1, nI 0, h) = some (nI (mngN (tl g k)), h) := by
  refine wh_for (fun i => (nI (mngN (tl g i)), nI i, h)) k 0 (by omega) (fun i _ hi => ?_) ?_
  · dsimp only
    unfold x_meaning_67
    simp only [kc_im8, kc_im1, kc_i0, kc_i1, kc_i2, kc_i3, kc_i4, kc_i5, kc_b_m100, kc_b_m16, kc_b_m15, kc_b_m14, kc_b_m13, kc_b_m12, kc_b_m11, kc_b_m2, kc_b_6, kc_b_7, kc_b_8, kc_b_9, kc_b_10, kc_b_11, kc_b_12, kc_b_13, kc_b_14, kc_b_15, kc_b_16, kc_b_20, kc_b_24, kc_b_32, kc_b_37, kc_b_40, kc_b_42, kc_b_43, kc_b_45, kc_b_47, kc_b_48, kc_b_57, kc_b_58, kc_b_59, kc_b_60, kc_b_61, kc_b_62, kc_b_63, kc_b_91, kc_b_93, kc_b_97, kc_b_99, kc_b_100, kc_b_106, kc_b_122, kc_s_206, kc_s_226, kc_s_227, kc_s_255, kc_s_256, kc_s_316, kc_s_318, kc_s_400, kc_s_512, kc_s_999, kc_s_1160, kc_s_1536, kc_s_3003, kc_lm11, kc_lm10, kc_lm9, kc_lm8, kc_lm7, kc_lm6, kc_lm5, kc_lm4, kc_lm3, kc_lm2, kc_lm1, kc_l1, kc_l2, kc_l3, kc_l4, kc_l5, kc_l6, kc_l7, kc_l8, kc_l9, kc_l10, kc_l11, kc_l12, kc_l13, kc_l14, kc_l37, kc_l42, kc_l43, kc_l45, kc_l47, kc_l60, kc_l61, kc_l62, kc_l316, kc_l318, kc_l65536, kc_l99999, kc_l1000000, kc_l252645135, kc_l858993459, kc_l1431655765, kc_0, kc_on]
    rw [if_neg (by rw [nx_le (by omega) (by omega)]; omega), ra_0_8 R, Option.bind_some, mn_89, gi_n (by omega), if_pos (by simp; omega), nx_cl (by omega), (hr i hi).1, nx_mul, nx_add, nx_add, mngN_snoc]
  · dsimp only
    unfold x_meaning_67
    rw [if_pos (by rw [nx_le (by omega) (by omega)]; omega)]
theorem x_meaning_ok (Q : QI h s A) {N n : Nat} (h0 : 0 < n) (hn : n ≤ 5) (hN : N < 10 ^ n) (ok : isWd A N n) : SP (x_meaning 0 (nI N) (nI n) h) (fun z => z.1 = vMng A N n ∧ Fr (· = 89) h z.2) := by
  unfold x_meaning
  simp only [kc_im8, kc_im1, kc_i0, kc_i1, kc_i2, kc_i3, kc_i4, kc_i5, kc_b_m100, kc_b_m16, kc_b_m15, kc_b_m14, kc_b_m13, kc_b_m12, kc_b_m11, kc_b_m2, kc_b_6, kc_b_7, kc_b_8, kc_b_9, kc_b_10, kc_b_11, kc_b_12, kc_b_13, kc_b_14, kc_b_15, kc_b_16, kc_b_20, kc_b_24, kc_b_32, kc_b_37, kc_b_40, kc_b_42, kc_b_43, kc_b_45, kc_b_47, kc_b_48, kc_b_57, kc_b_58, kc_b_59, kc_b_60, kc_b_61, kc_b_62, kc_b_63, kc_b_91, kc_b_93, kc_b_97, kc_b_99, kc_b_100, kc_b_106, kc_b_122, kc_s_206, kc_s_226, kc_s_227, kc_s_255, kc_s_256, kc_s_316, kc_s_318, kc_s_400, kc_s_512, kc_s_999, kc_s_1160, kc_s_1536, kc_s_3003, kc_lm11, kc_lm10, kc_lm9, kc_lm8, kc_lm7, kc_lm6, kc_lm5, kc_lm4, kc_lm3, kc_lm2, kc_lm1, kc_l1, kc_l2, kc_l3, kc_l4, kc_l5, kc_l6, kc_l7, kc_l8, kc_l9, kc_l10, kc_l11, kc_l12, kc_l13, kc_l14, kc_l37, kc_l42, kc_l43, kc_l45, kc_l47, kc_l60, kc_l61, kc_l62, kc_l316, kc_l318, kc_l65536, kc_l99999, kc_l1000000, kc_l252645135, kc_l858993459, kc_l1431655765, kc_0, kc_on]
  refine sp_call (x_split_ok Q.1 h0 hn hN) ?_
  rintro ⟨y, h1⟩ ⟨hy, f1, c1⟩
  dsimp only at hy f1 c1
  subst hy
  have Q1 := (Q.ask f1 (fun c hc => by omega)).1
  refine sp_pos n10 ?_
  rw [wdW Q1 hn c1, find_all.mpr (fun i hi => by rw [dec_t (ok i hi)]; rfl), Option.bind_some]
  dsimp only
  rw [ra_0_4 Q1.1, Option.bind_some, Q1.now, Option.bind_some, ra_0_8 Q1.1, Option.bind_some]
  obtain ⟨R, _, S, H, D, w, K⟩ := Q1
  refine sp_call (c_settle S w R (by have := ok 0 h0; omega) mn_89 (by omega) hn (fun i hi => ⟨c1 i hi, dg_lt N n i⟩)) ?_
  rintro ⟨l, h2⟩ ⟨k, g', hl, hk, f2, r2, e2⟩
  dsimp only at hl hk f2 r2 e2
  subst hl
  have R2 := R.fr f2
  rw [numW R2 (by omega) r2, Option.bind_some]
  exact sp_some.mpr ⟨by unfold vMng; rw [← e2], f1.trans f2⟩
theorem x_meaning_no (Q : QI h s A) {x y : Int32} (no : ¬ ∃ N n, isRD x y N n ∧ isWd A N n) : SP (x_meaning 0 x y h) (fun z => z.1 = ng 1 ∧ Fr (· = 89) h z.2) := by
  unfold x_meaning
  simp only [kc_im8, kc_im1, kc_i0, kc_i1, kc_i2, kc_i3, kc_i4, kc_i5, kc_b_m100, kc_b_m16, kc_b_m15, kc_b_m14, kc_b_m13, kc_b_m12, kc_b_m11, kc_b_m2, kc_b_6, kc_b_7, kc_b_8, kc_b_9, kc_b_10, kc_b_11, kc_b_12, kc_b_13, kc_b_14, kc_b_15, kc_b_16, kc_b_20, kc_b_24, kc_b_32, kc_b_37, kc_b_40, kc_b_42, kc_b_43, kc_b_45, kc_b_47, kc_b_48, kc_b_57, kc_b_58, kc_b_59, kc_b_60, kc_b_61, kc_b_62, kc_b_63, kc_b_91, kc_b_93, kc_b_97, kc_b_99, kc_b_100, kc_b_106, kc_b_122, kc_s_206, kc_s_226, kc_s_227, kc_s_255, kc_s_256, kc_s_316, kc_s_318, kc_s_400, kc_s_512, kc_s_999, kc_s_1160, kc_s_1536, kc_s_3003, kc_lm11, kc_lm10, kc_lm9, kc_lm8, kc_lm7, kc_lm6, kc_lm5, kc_lm4, kc_lm3, kc_lm2, kc_lm1, kc_l1, kc_l2, kc_l3, kc_l4, kc_l5, kc_l6, kc_l7, kc_l8, kc_l9, kc_l10, kc_l11, kc_l12, kc_l13, kc_l14, kc_l37, kc_l42, kc_l43, kc_l45, kc_l47, kc_l60, kc_l61, kc_l62, kc_l316, kc_l318, kc_l65536, kc_l99999, kc_l1000000, kc_l252645135, kc_l858993459, kc_l1431655765, kc_0, kc_on]
  by_cases hr : ∃ N n, isRD x y N n
  · obtain ⟨N, n, q⟩ := hr
    have nm : ¬ isWd A N n := fun z => no ⟨N, n, q, z⟩
    obtain ⟨rfl, rfl, h0, hn, hN⟩ := q
    refine sp_call (x_split_ok Q.1 h0 hn hN) ?_
    rintro ⟨y, h1⟩ ⟨hy, f1, c1⟩
    dsimp only at hy f1 c1
    subst hy
    have Q1 := (Q.ask f1 (fun c hc => by omega)).1
    refine sp_pos n10 ?_
    have : ∃ i, (List.range n).find? (fun k => !decide (dg N n k < an A 0)) = some i := by
      cases e : (List.range n).find? (fun k => !decide (dg N n k < an A 0)) with
      | some i => exact ⟨i, rfl⟩
      | none =>
        exfalso
        apply nm
        intro k hk
        have q := find_all.mp e k hk
        apply Classical.byContradiction
        intro q2
        rw [dec_f q2] at q
        cases q
    obtain ⟨i, e⟩ := this
    rw [wdW Q1 hn c1, e, Option.bind_some]
    exact sp_some.mpr ⟨rfl, f1⟩
  · refine sp_call (x_split_no Q.1 hr) ?_
    rintro ⟨y, h1⟩ ⟨hy, f1⟩
    dsimp only at hy f1
    subst hy
    exact sp_neg (fun q => q rfl) (sp_some.mpr ⟨rfl, f1⟩)
theorem m_wdW (M : MI h A) {N n : Nat} (hn : n ≤ 5) (hN : N < 10 ^ n) : SP (wh (fun z : (Int32 × pm_H) => m_meaning_19 193 (nI N) (nI n) z.1 z.2) (nI 0, h)) (fun z => match z with | .inl h' => ¬ isWd A N n ∧ FrM (· = 204) (fun _ => False) h h' | .inr h' => isWd A N n ∧ FrM (· = 204) (fun _ => False) h h' ∧ ROW h' 204 (dg N n) n) := by
  obtain ⟨R, hA, w⟩ := M
  refine wh_cnt (fun i z => z.1 = nI i ∧ (∀ k, k < i → dg N n k < an A 0) ∧ FrM (· = 204) (fun _ => False) h z.2 ∧ ROW z.2 204 (dg N n) i) _ n ?_ ?_ 0 (nI 0, h) (by omega) ⟨rfl, fun k q => by omega, FrM.refl _ _ _, fun k q => by omega⟩
  · rintro i ⟨y, h1⟩ hi ⟨hy, wd1, f1, r1⟩
    dsimp only at hy wd1 f1 r1
    subst hy
    have R1 := R.fm f1
    have hd := dg_lt N n i
    have A1 : h1.2.1 203 = A := by rw [f1.i (by omega) (by omega)]; exact hA
    have f2 : FrM (· = 204) (fun _ => False) h (pm_setI h1 204 i (nI (dg N n i))) := f1.setI (by omega) rfl
    have R2 := R.fm f2
    have A2 : (pm_setI h1 204 i (nI (dg N n i))).2.1 203 = A := by rw [f2.i (by omega) (by omega)]; exact hA
    unfold m_meaning_19
    simp only [kc_im8, kc_im1, kc_i0, kc_i1, kc_i2, kc_i3, kc_i4, kc_i5, kc_b_m100, kc_b_m16, kc_b_m15, kc_b_m14, kc_b_m13, kc_b_m12, kc_b_m11, kc_b_m2, kc_b_6, kc_b_7, kc_b_8, kc_b_9, kc_b_10, kc_b_11, kc_b_12, kc_b_13, kc_b_14, kc_b_15, kc_b_16, kc_b_20, kc_b_24, kc_b_32, kc_b_37, kc_b_40, kc_b_42, kc_b_43, kc_b_45, kc_b_47, kc_b_48, kc_b_57, kc_b_58, kc_b_59, kc_b_60, kc_b_61, kc_b_62, kc_b_63, kc_b_91, kc_b_93, kc_b_97, kc_b_99, kc_b_100, kc_b_106, kc_b_122, kc_s_206, kc_s_226, kc_s_227, kc_s_255, kc_s_256, kc_s_316, kc_s_318, kc_s_400, kc_s_512, kc_s_999, kc_s_1160, kc_s_1536, kc_s_3003, kc_lm11, kc_lm10, kc_lm9, kc_lm8, kc_lm7, kc_lm6, kc_lm5, kc_lm4, kc_lm3, kc_lm2, kc_lm1, kc_l1, kc_l2, kc_l3, kc_l4, kc_l5, kc_l6, kc_l7, kc_l8, kc_l9, kc_l10, kc_l11, kc_l12, kc_l13, kc_l14, kc_l37, kc_l42, kc_l43, kc_l45, kc_l47, kc_l60, kc_l61, kc_l62, kc_l316, kc_l318, kc_l65536, kc_l99999, kc_l1000000, kc_l252645135, kc_l858993459, kc_l1431655765, kc_0, kc_on]
    rw [if_neg (by rw [nx_le (by omega) (by omega)]; omega), ra_193_22 R1, Option.bind_some, m_digit_n h1 hn hN hi, Option.bind_some, mn_204, gi_n (by omega), if_pos (by simp; omega), nx_cl (by omega), sp_bd, ra_193_22 R2, Option.bind_some, mn_204, gi_n (by omega), if_pos (by simp; omega), ri_s]
    by_cases hm : dg N n i < an A 0
    · rw [m_isWordOf_t ⟨R2, A2, w⟩ hm, Option.bind_some, if_pos (by decide), nx_add]
      refine sp_some.mpr ⟨rfl, fun k hk => ?_, f2, fun k hk => ?_⟩
      · by_cases q : k = i
        · subst q; exact hm
        · exact wd1 k (by omega)
      · show (pm_setI h1 204 i _).2.1 204 k = _ ∧ _
        by_cases q : k = i
        · subst q; rw [ri_s]; exact ⟨rfl, hd⟩
        · rw [ri_j _ q]; exact r1 k (by omega)
    · rw [m_isWordOf_f ⟨R2, A2, w⟩ (no_word w hd hm), Option.bind_some, if_neg (by decide)]
      exact sp_some.mpr ⟨fun z => hm (z i hi), f2⟩
  · rintro ⟨y, h1⟩ ⟨hy, wd1, f1, r1⟩
    dsimp only at hy wd1 f1 r1
    subst hy
    unfold m_meaning_19
    rw [if_pos (by rw [nx_le (by omega) (by omega)]; omega)]
    exact sp_some.mpr ⟨wd1, f1, r1⟩
theorem m_numW (R : RF h) {k : Nat} {g : Nat → Nat} (hk : k ≤ 5) (h23 : h.2.1 193 23 = nI k) (hr : ROW h 204 g k) : wh (fun z : (Int32 × Int32 × pm_H) => m_meaning_71 193 z.1 z.2.1 z.2.2) (nI 1, nI 0, h) = some (nI (mngN (tl g k)), h) := by
  refine wh_for (fun i => (nI (mngN (tl g i)), nI i, h)) k 0 (by omega) (fun i _ hi => ?_) ?_
  · dsimp only
    unfold m_meaning_71
    simp only [kc_im8, kc_im1, kc_i0, kc_i1, kc_i2, kc_i3, kc_i4, kc_i5, kc_b_m100, kc_b_m16, kc_b_m15, kc_b_m14, kc_b_m13, kc_b_m12, kc_b_m11, kc_b_m2, kc_b_6, kc_b_7, kc_b_8, kc_b_9, kc_b_10, kc_b_11, kc_b_12, kc_b_13, kc_b_14, kc_b_15, kc_b_16, kc_b_20, kc_b_24, kc_b_32, kc_b_37, kc_b_40, kc_b_42, kc_b_43, kc_b_45, kc_b_47, kc_b_48, kc_b_57, kc_b_58, kc_b_59, kc_b_60, kc_b_61, kc_b_62, kc_b_63, kc_b_91, kc_b_93, kc_b_97, kc_b_99, kc_b_100, kc_b_106, kc_b_122, kc_s_206, kc_s_226, kc_s_227, kc_s_255, kc_s_256, kc_s_316, kc_s_318, kc_s_400, kc_s_512, kc_s_999, kc_s_1160, kc_s_1536, kc_s_3003, kc_lm11, kc_lm10, kc_lm9, kc_lm8, kc_lm7, kc_lm6, kc_lm5, kc_lm4, kc_lm3, kc_lm2, kc_lm1, kc_l1, kc_l2, kc_l3, kc_l4, kc_l5, kc_l6, kc_l7, kc_l8, kc_l9, kc_l10, kc_l11, kc_l12, kc_l13, kc_l14, kc_l37, kc_l42, kc_l43, kc_l45, kc_l47, kc_l60, kc_l61, kc_l62, kc_l316, kc_l318, kc_l65536, kc_l99999, kc_l1000000, kc_l252645135, kc_l858993459, kc_l1431655765, kc_0, kc_on]
    rw [h23, if_neg (by rw [nx_le (by omega) (by omega)]; omega), ra_193_22 R, Option.bind_some, mn_204, gi_n (by omega), if_pos (by simp; omega), nx_cl (by omega), (hr i hi).1, nx_mul, nx_add, nx_add, mngN_snoc, Nat.mul_comm 10]
  · dsimp only
    unfold m_meaning_71
    rw [h23, if_pos (by rw [nx_le (by omega) (by omega)]; omega)]
theorem m_meaning_ok (M : MI h A) {N n : Nat} (h0 : 0 < n) (hn : n ≤ 5) (hN : N < 10 ^ n) (ok : isWd A N n) : SP (m_meaning 193 (nI N) (nI n) h) (fun z => z.1 = vMng A N n ∧ FM h z.2) := by
  have s0 : 0 < an A 0 := by have := ok 0 h0; omega
  unfold m_meaning
  rw [m_isShip_n M, Option.bind_some, dec_t s0, m_isRowOf_t h h0 hn hN]
  simp only [kc_im8, kc_im1, kc_i0, kc_i1, kc_i2, kc_i3, kc_i4, kc_i5, kc_b_m100, kc_b_m16, kc_b_m15, kc_b_m14, kc_b_m13, kc_b_m12, kc_b_m11, kc_b_m2, kc_b_6, kc_b_7, kc_b_8, kc_b_9, kc_b_10, kc_b_11, kc_b_12, kc_b_13, kc_b_14, kc_b_15, kc_b_16, kc_b_20, kc_b_24, kc_b_32, kc_b_37, kc_b_40, kc_b_42, kc_b_43, kc_b_45, kc_b_47, kc_b_48, kc_b_57, kc_b_58, kc_b_59, kc_b_60, kc_b_61, kc_b_62, kc_b_63, kc_b_91, kc_b_93, kc_b_97, kc_b_99, kc_b_100, kc_b_106, kc_b_122, kc_s_206, kc_s_226, kc_s_227, kc_s_255, kc_s_256, kc_s_316, kc_s_318, kc_s_400, kc_s_512, kc_s_999, kc_s_1160, kc_s_1536, kc_s_3003, kc_lm11, kc_lm10, kc_lm9, kc_lm8, kc_lm7, kc_lm6, kc_lm5, kc_lm4, kc_lm3, kc_lm2, kc_lm1, kc_l1, kc_l2, kc_l3, kc_l4, kc_l5, kc_l6, kc_l7, kc_l8, kc_l9, kc_l10, kc_l11, kc_l12, kc_l13, kc_l14, kc_l37, kc_l42, kc_l43, kc_l45, kc_l47, kc_l60, kc_l61, kc_l62, kc_l316, kc_l318, kc_l65536, kc_l99999, kc_l1000000, kc_l252645135, kc_l858993459, kc_l1431655765, kc_0, kc_on]
  rw [if_neg (by decide), Option.bind_some]
  refine sp_pos (by decide) (sp_call (m_wdW M hn hN) ?_)
  obtain ⟨R, hA, w⟩ := M
  rintro (h1 | h1) q
  · exact (q.1 ok).elim
  obtain ⟨_, f1, r1⟩ := q
  have f2 : FrM (· = 204) (· = 23) h (pm_setI h1 193 23 (nI n)) := (f1.mono (fun _ q => q) (fun _ q => q.elim)).setF rfl
  have r2 : ROW (pm_setI h1 193 23 (nI n)) 204 (dg N n) n := fun i hi => by rw [ri_c _ (by omega)]; exact r1 i hi
  dsimp only
  rw [sp_bd]
  refine sp_call (m_mean w (R.fm f2) (by rw [f2.i (by omega) (by omega)]; exact hA) (ri_s _) hn r2) ?_
  rintro h3 ⟨f3, k, g', e23, hk, r3, e3⟩
  rw [m_numW ((R.fm f2).fm f3) (by omega) e23 r3, Option.bind_some]
  refine sp_some.mpr ⟨by unfold vMng; rw [← e3], (f2.trans f3).fm (fun c hc => ?_) (fun j hj => ?_)⟩
  · unfold MF; omega
  · unfold FF; omega
theorem m_meaning_no (M : MI h A) {x y : Int32} (no : ¬ ∃ N n, isRD x y N n ∧ isWd A N n) : SP (m_meaning 193 x y h) (fun z => z.1 = ng 1 ∧ FM h z.2) := by
  unfold m_meaning
  rw [m_isShip_n M, Option.bind_some]
  simp only [kc_im8, kc_im1, kc_i0, kc_i1, kc_i2, kc_i3, kc_i4, kc_i5, kc_b_m100, kc_b_m16, kc_b_m15, kc_b_m14, kc_b_m13, kc_b_m12, kc_b_m11, kc_b_m2, kc_b_6, kc_b_7, kc_b_8, kc_b_9, kc_b_10, kc_b_11, kc_b_12, kc_b_13, kc_b_14, kc_b_15, kc_b_16, kc_b_20, kc_b_24, kc_b_32, kc_b_37, kc_b_40, kc_b_42, kc_b_43, kc_b_45, kc_b_47, kc_b_48, kc_b_57, kc_b_58, kc_b_59, kc_b_60, kc_b_61, kc_b_62, kc_b_63, kc_b_91, kc_b_93, kc_b_97, kc_b_99, kc_b_100, kc_b_106, kc_b_122, kc_s_206, kc_s_226, kc_s_227, kc_s_255, kc_s_256, kc_s_316, kc_s_318, kc_s_400, kc_s_512, kc_s_999, kc_s_1160, kc_s_1536, kc_s_3003, kc_lm11, kc_lm10, kc_lm9, kc_lm8, kc_lm7, kc_lm6, kc_lm5, kc_lm4, kc_lm3, kc_lm2, kc_lm1, kc_l1, kc_l2, kc_l3, kc_l4, kc_l5, kc_l6, kc_l7, kc_l8, kc_l9, kc_l10, kc_l11, kc_l12, kc_l13, kc_l14, kc_l37, kc_l42, kc_l43, kc_l45, kc_l47, kc_l60, kc_l61, kc_l62, kc_l316, kc_l318, kc_l65536, kc_l99999, kc_l1000000, kc_l252645135, kc_l858993459, kc_l1431655765, kc_0, kc_on]
  by_cases s0 : 0 < an A 0
  · rw [dec_t s0, if_neg (by decide)]
    by_cases hr : ∃ N n, isRD x y N n
    · obtain ⟨N, n, q⟩ := hr
      have nm : ¬ isWd A N n := fun z => no ⟨N, n, q, z⟩
      obtain ⟨rfl, rfl, h0, hn, hN⟩ := q
      rw [m_isRowOf_t h h0 hn hN, Option.bind_some]
      refine sp_pos (by decide) (sp_call (m_wdW M hn hN) ?_)
      rintro (h1 | h1) q
      · refine sp_some.mpr ⟨rfl, q.2.fm (fun c hc => ?_) (fun j hj => hj.elim)⟩
        unfold MF; omega
      · exact (nm q.1).elim
    · rw [m_isRowOf_f h hr, Option.bind_some]
      exact sp_neg (fun q => q rfl) (sp_some.mpr ⟨rfl, FM.refl h⟩)
  · rw [dec_f s0]
    exact sp_pos (by first | rfl | trivial | decide) (sp_some.mpr ⟨rfl, FM.refl h⟩)
end ME
