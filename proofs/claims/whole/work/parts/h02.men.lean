/-! The men of a row: menOf of the program, areMen of the reference. -/
def okM (A : Nat → Int32) (m : Nat) : Bool := decide (m < an A 1) || (decide (m = 8) && decide (bN A ≠ 0))
/-- the set of the first k digits -/
def dset (N n : Nat) : Nat → Nat
  | 0 => 0
  | k + 1 => dset N n k ||| 2 ^ dg N n k
def areM (A : Nat → Int32) (N n k : Nat) : Bool := okM A (dg N n k) && !(dset N n k).testBit (dg N n k)
def isM (A : Nat → Int32) (N n : Nat) : Prop := ∀ k, k < n → areM A N n k = true
theorem dset_lt (N n : Nat) : ∀ k, dset N n k < 1024
  | 0 => by show 0 < 1024; omega
  | k + 1 => by
    have h1 := dset_lt N n k
    have h2 : 2 ^ dg N n k < 2 ^ 10 := Nat.pow_lt_pow_right (by decide) (dg_lt N n k)
    exact Nat.or_lt_two_pow (n := 10) h1 h2
section MN
variable {h : pm_H} {s : Nat} {A : Nat → Int32}
theorem a6neg (w : WFA A) : (A 6 < nI 0) = (bN A = 0) := by
  have h0 := w.e0
  rcases w.e6 with q | q
  · have e : bN A = 0 := by unfold bN; rw [if_pos q]
    rw [q, e, ng_lt_n (by omega) (by omega) (by omega)]
    simp
  · have hne : ¬ A 6 = ng 1 := by rw [q.1, n_eq_ng (by omega) (by omega) (by omega)]; exact id
    have e : bN A = an A 6 + 1 := by unfold bN; rw [if_neg hne]
    rw [q.1, e, nx_lt (by omega) (by omega)]
    simp
theorem isM_p (w : WFA A) {N n : Nat} (h0 : 0 < n) (ok : isM A N n) : 0 < an A 0 := by
  have q := ok 0 h0
  unfold areM at q
  rw [Bool.and_eq_true] at q
  have q1 := q.1
  unfold okM at q1
  rw [Bool.or_eq_true, Bool.and_eq_true, decide_eq_true_iff, decide_eq_true_iff, decide_eq_true_iff] at q1
  rcases q1 with q1 | ⟨_, q1⟩
  · exact w.p1 q1
  · rcases w.e6 with z | z
    · exact absurd (by unfold bN; rw [if_pos z]) q1
    · omega
theorem a6pos (w : WFA A) : (nI 0 ≤ A 6) = (bN A ≠ 0) := by
  have h0 := w.e0
  rcases w.e6 with q | q
  · have e : bN A = 0 := by unfold bN; rw [if_pos q]
    rw [q, e, n_le_ng (by omega) (by omega) (by omega)]
    simp
  · have hne : ¬ A 6 = ng 1 := by rw [q.1, n_eq_ng (by omega) (by omega) (by omega)]; exact id
    have e : bN A = an A 6 + 1 := by unfold bN; rw [if_neg hne]
    rw [q.1, e, nx_le (by omega) (by omega)]
    simp
theorem menOf72 (R : RF h) {n S i d : Nat} (hi : i < 5) (hS : S < 1024) (hd : d < 10) (hr : h.2.1 89 i = nI d) : x_menOf_72 0 (nI n) (nI S) (nI i) (nI 1) h = if S.testBit d = true then some (.inr (.inl h)) else some (.inl (nI (S ||| 2 ^ d), nI (i + 1), h)) := by
  unfold x_menOf_72
  simp only [kc_im8, kc_im1, kc_i0, kc_i1, kc_i2, kc_i3, kc_i4, kc_i5, kc_b_m100, kc_b_m16, kc_b_m15, kc_b_m14, kc_b_m13, kc_b_m12, kc_b_m11, kc_b_m2, kc_b_6, kc_b_7, kc_b_8, kc_b_9, kc_b_10, kc_b_11, kc_b_12, kc_b_13, kc_b_14, kc_b_15, kc_b_16, kc_b_20, kc_b_24, kc_b_32, kc_b_37, kc_b_40, kc_b_42, kc_b_43, kc_b_45, kc_b_47, kc_b_48, kc_b_57, kc_b_58, kc_b_59, kc_b_60, kc_b_61, kc_b_62, kc_b_63, kc_b_91, kc_b_93, kc_b_97, kc_b_99, kc_b_100, kc_b_106, kc_b_122, kc_s_206, kc_s_226, kc_s_227, kc_s_255, kc_s_256, kc_s_316, kc_s_318, kc_s_400, kc_s_512, kc_s_999, kc_s_1160, kc_s_1536, kc_s_3003, kc_lm11, kc_lm10, kc_lm9, kc_lm8, kc_lm7, kc_lm6, kc_lm5, kc_lm4, kc_lm3, kc_lm2, kc_lm1, kc_l1, kc_l2, kc_l3, kc_l4, kc_l5, kc_l6, kc_l7, kc_l8, kc_l9, kc_l10, kc_l11, kc_l12, kc_l13, kc_l14, kc_l37, kc_l42, kc_l43, kc_l45, kc_l47, kc_l60, kc_l61, kc_l62, kc_l316, kc_l318, kc_l65536, kc_l99999, kc_l1000000, kc_l252645135, kc_l858993459, kc_l1431655765, kc_0, kc_on]
  rw [if_neg (by decide), ra_0_8 R, Option.bind_some, mn_89, gi_n (by omega), if_pos (by simp; omega), nx_cl (by omega), hr, x_bit_n (by omega) (by omega), Option.bind_some]
  by_cases q : S.testBit d = true
  · rw [if_neg (by rw [nx_bt1]; exact fun z => z q), if_pos q]
  · rw [if_pos (by rw [nx_bt1]; exact q), if_neg q, Option.bind_some, mn_89, gi_n (by omega), if_pos (by simp; omega), hr, nx_shl1 (by omega), nx_or2, nx_add]
theorem menOf72_0 {n S i : Int32} : x_menOf_72 0 n S i (nI 0) h = some (.inr (.inl h)) := by
  unfold x_menOf_72
  exact if_pos rfl
theorem no_man (w : WFA A) {d : Nat} (hd : d < 10) (hm : ¬ d < an A 1) : ¬ ∃ m, m < an A 1 ∧ nI d = nI m := by
  have e1 := w.e1
  rintro ⟨m, q1, q2⟩
  rw [nx_eq (by omega) (by omega)] at q2
  omega
theorem menOfW (Q : QI h s A) {N n : Nat} (hn : n ≤ 5) (hr : ∀ i, i < n → h.2.1 89 i = nI (dg N n i)) : wh (fun z : (Int32 × Int32 × pm_H) => x_menOf_16 0 (nI n) z.1 z.2.1 z.2.2) (nI 0, nI 0, h) = some (match (List.range n).find? (fun k => !areM A N n k) with | some _ => .inl h | none => .inr (nI (dset N n n), h)) := by
  have Q' := Q
  obtain ⟨R, h1, S, H, D, w, K⟩ := Q
  refine wh_find (fun i => (nI (dset N n i), nI i, h)) (fun _ => Sum.inl h) (Sum.inr (nI (dset N n n), h)) (fun k => !areM A N n k) n (fun i hi => ?_) ?_
  · have hd := dg_lt N n i
    have hS := dset_lt N n i
    have m72 := menOf72 (n := n) R (by omega : i < 5) hS hd (hr i hi)
    have e1 := w.e1
    dsimp only
    unfold x_menOf_16
    simp only [kc_im8, kc_im1, kc_i0, kc_i1, kc_i2, kc_i3, kc_i4, kc_i5, kc_b_m100, kc_b_m16, kc_b_m15, kc_b_m14, kc_b_m13, kc_b_m12, kc_b_m11, kc_b_m2, kc_b_6, kc_b_7, kc_b_8, kc_b_9, kc_b_10, kc_b_11, kc_b_12, kc_b_13, kc_b_14, kc_b_15, kc_b_16, kc_b_20, kc_b_24, kc_b_32, kc_b_37, kc_b_40, kc_b_42, kc_b_43, kc_b_45, kc_b_47, kc_b_48, kc_b_57, kc_b_58, kc_b_59, kc_b_60, kc_b_61, kc_b_62, kc_b_63, kc_b_91, kc_b_93, kc_b_97, kc_b_99, kc_b_100, kc_b_106, kc_b_122, kc_s_206, kc_s_226, kc_s_227, kc_s_255, kc_s_256, kc_s_316, kc_s_318, kc_s_400, kc_s_512, kc_s_999, kc_s_1160, kc_s_1536, kc_s_3003, kc_lm11, kc_lm10, kc_lm9, kc_lm8, kc_lm7, kc_lm6, kc_lm5, kc_lm4, kc_lm3, kc_lm2, kc_lm1, kc_l1, kc_l2, kc_l3, kc_l4, kc_l5, kc_l6, kc_l7, kc_l8, kc_l9, kc_l10, kc_l11, kc_l12, kc_l13, kc_l14, kc_l37, kc_l42, kc_l43, kc_l45, kc_l47, kc_l60, kc_l61, kc_l62, kc_l316, kc_l318, kc_l65536, kc_l99999, kc_l1000000, kc_l252645135, kc_l858993459, kc_l1431655765, kc_0, kc_on]
    rw [if_neg (by rw [nx_le (by omega) (by omega)]; omega), ra_0_4 R, Option.bind_some, Q'.now, Option.bind_some, ra_0_8 R, Option.bind_some, mn_89, gi_n (by omega), if_pos (by simp; omega), nx_cl (by omega), hr i hi]
    by_cases hm : dg N n i < an A 1
    · rw [c_hasMan_t S w hm, Option.bind_some, if_pos (by decide)]
      unfold x_menOf_67
      simp only [kc_im8, kc_im1, kc_i0, kc_i1, kc_i2, kc_i3, kc_i4, kc_i5, kc_b_m100, kc_b_m16, kc_b_m15, kc_b_m14, kc_b_m13, kc_b_m12, kc_b_m11, kc_b_m2, kc_b_6, kc_b_7, kc_b_8, kc_b_9, kc_b_10, kc_b_11, kc_b_12, kc_b_13, kc_b_14, kc_b_15, kc_b_16, kc_b_20, kc_b_24, kc_b_32, kc_b_37, kc_b_40, kc_b_42, kc_b_43, kc_b_45, kc_b_47, kc_b_48, kc_b_57, kc_b_58, kc_b_59, kc_b_60, kc_b_61, kc_b_62, kc_b_63, kc_b_91, kc_b_93, kc_b_97, kc_b_99, kc_b_100, kc_b_106, kc_b_122, kc_s_206, kc_s_226, kc_s_227, kc_s_255, kc_s_256, kc_s_316, kc_s_318, kc_s_400, kc_s_512, kc_s_999, kc_s_1160, kc_s_1536, kc_s_3003, kc_lm11, kc_lm10, kc_lm9, kc_lm8, kc_lm7, kc_lm6, kc_lm5, kc_lm4, kc_lm3, kc_lm2, kc_lm1, kc_l1, kc_l2, kc_l3, kc_l4, kc_l5, kc_l6, kc_l7, kc_l8, kc_l9, kc_l10, kc_l11, kc_l12, kc_l13, kc_l14, kc_l37, kc_l42, kc_l43, kc_l45, kc_l47, kc_l60, kc_l61, kc_l62, kc_l316, kc_l318, kc_l65536, kc_l99999, kc_l1000000, kc_l252645135, kc_l858993459, kc_l1431655765, kc_0, kc_on]
      rw [m72]
      have e : okM A (dg N n i) = true := by unfold okM; simp [hm]
      unfold areM
      rw [e]
      cases (dset N n i).testBit (dg N n i) <;> rfl
    · rw [c_hasMan_f S w (no_man w hd hm), Option.bind_some, if_neg (by decide), Option.bind_some, mn_89, gi_n (by omega), if_pos (by simp; omega), hr i hi]
      by_cases h8 : dg N n i = 8
      · rw [if_neg (by rw [nx_eq (by omega) (by omega)]; omega), Option.bind_some, q_hands Q', Option.bind_some, H.2.2.2.2.2.1]
        by_cases hb : bN A = 0
        · rw [if_pos (by rw [a6neg w]; exact hb), menOf72_0]
          have e : areM A N n i = false := by unfold areM okM; simp [hm, hb]
          rw [e]
          rfl
        · rw [if_neg (by rw [a6neg w]; exact hb)]
          unfold x_menOf_67
          simp only [kc_im8, kc_im1, kc_i0, kc_i1, kc_i2, kc_i3, kc_i4, kc_i5, kc_b_m100, kc_b_m16, kc_b_m15, kc_b_m14, kc_b_m13, kc_b_m12, kc_b_m11, kc_b_m2, kc_b_6, kc_b_7, kc_b_8, kc_b_9, kc_b_10, kc_b_11, kc_b_12, kc_b_13, kc_b_14, kc_b_15, kc_b_16, kc_b_20, kc_b_24, kc_b_32, kc_b_37, kc_b_40, kc_b_42, kc_b_43, kc_b_45, kc_b_47, kc_b_48, kc_b_57, kc_b_58, kc_b_59, kc_b_60, kc_b_61, kc_b_62, kc_b_63, kc_b_91, kc_b_93, kc_b_97, kc_b_99, kc_b_100, kc_b_106, kc_b_122, kc_s_206, kc_s_226, kc_s_227, kc_s_255, kc_s_256, kc_s_316, kc_s_318, kc_s_400, kc_s_512, kc_s_999, kc_s_1160, kc_s_1536, kc_s_3003, kc_lm11, kc_lm10, kc_lm9, kc_lm8, kc_lm7, kc_lm6, kc_lm5, kc_lm4, kc_lm3, kc_lm2, kc_lm1, kc_l1, kc_l2, kc_l3, kc_l4, kc_l5, kc_l6, kc_l7, kc_l8, kc_l9, kc_l10, kc_l11, kc_l12, kc_l13, kc_l14, kc_l37, kc_l42, kc_l43, kc_l45, kc_l47, kc_l60, kc_l61, kc_l62, kc_l316, kc_l318, kc_l65536, kc_l99999, kc_l1000000, kc_l252645135, kc_l858993459, kc_l1431655765, kc_0, kc_on]
          rw [m72]
          have e : okM A (dg N n i) = true := by unfold okM; simp [h8, hb]
          unfold areM
          rw [e]
          cases (dset N n i).testBit (dg N n i) <;> rfl
      · rw [if_pos (by rw [nx_eq (by omega) (by omega)]; omega), menOf72_0]
        have e : areM A N n i = false := by unfold areM okM; simp [hm, h8]
        rw [e]
        rfl
  · dsimp only
    unfold x_menOf_16
    rw [if_pos (by rw [nx_le (by omega) (by omega)]; omega)]
theorem find_isM {N n : Nat} (ok : isM A N n) : (List.range n).find? (fun k => !areM A N n k) = none := find_all.mpr (fun i hi => by rw [ok i hi]; rfl)
theorem find_noM {N n : Nat} (no : ¬ isM A N n) : ∃ i, (List.range n).find? (fun k => !areM A N n k) = some i := by
  cases e : (List.range n).find? (fun k => !areM A N n k) with
  | some i => exact ⟨i, rfl⟩
  | none =>
    exfalso
    apply no
    intro k hk
    have := find_all.mp e k hk
    cases q : areM A N n k with
    | true => rfl
    | false => rw [q] at this; cases this
theorem x_menOf_ok (Q : QI h s A) {N n : Nat} (h0 : 0 < n) (hn : n ≤ 5) (hN : N < 10 ^ n) (ok : isM A N n) : SP (x_menOf 0 (nI N) (nI n) h) (fun z => z.1 = nI (dset N n n) ∧ Fr (· = 89) h z.2 ∧ ∀ i, i < n → z.2.2.1 89 i = nI (dg N n i)) := by
  unfold x_menOf
  simp only [kc_im8, kc_im1, kc_i0, kc_i1, kc_i2, kc_i3, kc_i4, kc_i5, kc_b_m100, kc_b_m16, kc_b_m15, kc_b_m14, kc_b_m13, kc_b_m12, kc_b_m11, kc_b_m2, kc_b_6, kc_b_7, kc_b_8, kc_b_9, kc_b_10, kc_b_11, kc_b_12, kc_b_13, kc_b_14, kc_b_15, kc_b_16, kc_b_20, kc_b_24, kc_b_32, kc_b_37, kc_b_40, kc_b_42, kc_b_43, kc_b_45, kc_b_47, kc_b_48, kc_b_57, kc_b_58, kc_b_59, kc_b_60, kc_b_61, kc_b_62, kc_b_63, kc_b_91, kc_b_93, kc_b_97, kc_b_99, kc_b_100, kc_b_106, kc_b_122, kc_s_206, kc_s_226, kc_s_227, kc_s_255, kc_s_256, kc_s_316, kc_s_318, kc_s_400, kc_s_512, kc_s_999, kc_s_1160, kc_s_1536, kc_s_3003, kc_lm11, kc_lm10, kc_lm9, kc_lm8, kc_lm7, kc_lm6, kc_lm5, kc_lm4, kc_lm3, kc_lm2, kc_lm1, kc_l1, kc_l2, kc_l3, kc_l4, kc_l5, kc_l6, kc_l7, kc_l8, kc_l9, kc_l10, kc_l11, kc_l12, kc_l13, kc_l14, kc_l37, kc_l42, kc_l43, kc_l45, kc_l47, kc_l60, kc_l61, kc_l62, kc_l316, kc_l318, kc_l65536, kc_l99999, kc_l1000000, kc_l252645135, kc_l858993459, kc_l1431655765, kc_0, kc_on]
  refine sp_call (x_split_ok Q.1 h0 hn hN) ?_
  rintro ⟨y, h1⟩ ⟨hy, f1, c1⟩
  dsimp only at hy f1 c1
  subst hy
  have Q1 := (Q.ask f1 (fun c hc => by omega)).1
  refine sp_pos n10 ?_
  rw [menOfW Q1 hn c1, find_isM ok, Option.bind_some]
  exact sp_some.mpr ⟨rfl, f1, c1⟩
theorem x_menOf_no (Q : QI h s A) {x y : Int32} (no : ¬ ∃ N n, isRD x y N n ∧ isM A N n) : SP (x_menOf 0 x y h) (fun z => z.1 = ng 1 ∧ Fr (· = 89) h z.2) := by
  unfold x_menOf
  simp only [kc_im8, kc_im1, kc_i0, kc_i1, kc_i2, kc_i3, kc_i4, kc_i5, kc_b_m100, kc_b_m16, kc_b_m15, kc_b_m14, kc_b_m13, kc_b_m12, kc_b_m11, kc_b_m2, kc_b_6, kc_b_7, kc_b_8, kc_b_9, kc_b_10, kc_b_11, kc_b_12, kc_b_13, kc_b_14, kc_b_15, kc_b_16, kc_b_20, kc_b_24, kc_b_32, kc_b_37, kc_b_40, kc_b_42, kc_b_43, kc_b_45, kc_b_47, kc_b_48, kc_b_57, kc_b_58, kc_b_59, kc_b_60, kc_b_61, kc_b_62, kc_b_63, kc_b_91, kc_b_93, kc_b_97, kc_b_99, kc_b_100, kc_b_106, kc_b_122, kc_s_206, kc_s_226, kc_s_227, kc_s_255, kc_s_256, kc_s_316, kc_s_318, kc_s_400, kc_s_512, kc_s_999, kc_s_1160, kc_s_1536, kc_s_3003, kc_lm11, kc_lm10, kc_lm9, kc_lm8, kc_lm7, kc_lm6, kc_lm5, kc_lm4, kc_lm3, kc_lm2, kc_lm1, kc_l1, kc_l2, kc_l3, kc_l4, kc_l5, kc_l6, kc_l7, kc_l8, kc_l9, kc_l10, kc_l11, kc_l12, kc_l13, kc_l14, kc_l37, kc_l42, kc_l43, kc_l45, kc_l47, kc_l60, kc_l61, kc_l62, kc_l316, kc_l318, kc_l65536, kc_l99999, kc_l1000000, kc_l252645135, kc_l858993459, kc_l1431655765, kc_0, kc_on]
  by_cases hr : ∃ N n, isRD x y N n
  · obtain ⟨N, n, q⟩ := hr
    have nm : ¬ isM A N n := fun z => no ⟨N, n, q, z⟩
    obtain ⟨rfl, rfl, h0, hn, hN⟩ := q
    refine sp_call (x_split_ok Q.1 h0 hn hN) ?_
    rintro ⟨y, h1⟩ ⟨hy, f1, c1⟩
    dsimp only at hy f1 c1
    subst hy
    have Q1 := (Q.ask f1 (fun c hc => by omega)).1
    refine sp_pos n10 ?_
    obtain ⟨i, e⟩ := find_noM nm
    rw [menOfW Q1 hn c1, e, Option.bind_some]
    exact sp_some.mpr ⟨rfl, f1⟩
  · refine sp_call (x_split_no Q.1 hr) ?_
    rintro ⟨y, h1⟩ ⟨hy, f1⟩
    dsimp only at hy f1
    subst hy
    exact sp_neg (fun q => q rfl) (sp_some.mpr ⟨rfl, f1⟩)
theorem areMenW (M : MI h A) {N n : Nat} (hn : n ≤ 5) (hN : N < 10 ^ n) : wh (fun z : (Int32 × Int32) => m_areMen_22 193 (nI N) (nI n) z.1 z.2 h) (nI 0, nI 0) = some (match (List.range n).find? (fun k => !areM A N n k) with | some _ => .inl () | none => .inr ()) := by
  obtain ⟨R, hA, w⟩ := M
  refine wh_find (fun i => (nI (dset N n i), nI i)) (fun _ => Sum.inl ()) (Sum.inr ()) (fun k => !areM A N n k) n (fun i hi => ?_) ?_
  · have hd := dg_lt N n i
    have hS := dset_lt N n i
    have e1 := w.e1
    dsimp only
    unfold m_areMen_22
    simp only [kc_im8, kc_im1, kc_i0, kc_i1, kc_i2, kc_i3, kc_i4, kc_i5, kc_b_m100, kc_b_m16, kc_b_m15, kc_b_m14, kc_b_m13, kc_b_m12, kc_b_m11, kc_b_m2, kc_b_6, kc_b_7, kc_b_8, kc_b_9, kc_b_10, kc_b_11, kc_b_12, kc_b_13, kc_b_14, kc_b_15, kc_b_16, kc_b_20, kc_b_24, kc_b_32, kc_b_37, kc_b_40, kc_b_42, kc_b_43, kc_b_45, kc_b_47, kc_b_48, kc_b_57, kc_b_58, kc_b_59, kc_b_60, kc_b_61, kc_b_62, kc_b_63, kc_b_91, kc_b_93, kc_b_97, kc_b_99, kc_b_100, kc_b_106, kc_b_122, kc_s_206, kc_s_226, kc_s_227, kc_s_255, kc_s_256, kc_s_316, kc_s_318, kc_s_400, kc_s_512, kc_s_999, kc_s_1160, kc_s_1536, kc_s_3003, kc_lm11, kc_lm10, kc_lm9, kc_lm8, kc_lm7, kc_lm6, kc_lm5, kc_lm4, kc_lm3, kc_lm2, kc_lm1, kc_l1, kc_l2, kc_l3, kc_l4, kc_l5, kc_l6, kc_l7, kc_l8, kc_l9, kc_l10, kc_l11, kc_l12, kc_l13, kc_l14, kc_l37, kc_l42, kc_l43, kc_l45, kc_l47, kc_l60, kc_l61, kc_l62, kc_l316, kc_l318, kc_l65536, kc_l99999, kc_l1000000, kc_l252645135, kc_l858993459, kc_l1431655765, kc_0, kc_on]
    rw [if_neg (by rw [nx_le (by omega) (by omega)]; omega), m_digit_n h hn hN hi, Option.bind_some, m_isOf_n h (by omega) (by omega), Option.bind_some]
    by_cases q : (dset N n i).testBit (dg N n i) = true
    · have e : areM A N n i = false := by unfold areM; rw [q]; simp
      rw [if_pos (by rw [nx_bt0, q]; simp), e]
      rfl
    · have q' : (dset N n i).testBit (dg N n i) = false := by simpa using q
      rw [if_neg (by rw [nx_bt0, q']; simp)]
      by_cases hm : dg N n i < an A 1
      · have e : areM A N n i = true := by unfold areM okM; rw [q']; simp [hm]
        rw [m_isMan_t w R hA hm, Option.bind_some, if_pos (by decide), e]
        unfold m_areMen_74
        simp only [kc_im8, kc_im1, kc_i0, kc_i1, kc_i2, kc_i3, kc_i4, kc_i5, kc_b_m100, kc_b_m16, kc_b_m15, kc_b_m14, kc_b_m13, kc_b_m12, kc_b_m11, kc_b_m2, kc_b_6, kc_b_7, kc_b_8, kc_b_9, kc_b_10, kc_b_11, kc_b_12, kc_b_13, kc_b_14, kc_b_15, kc_b_16, kc_b_20, kc_b_24, kc_b_32, kc_b_37, kc_b_40, kc_b_42, kc_b_43, kc_b_45, kc_b_47, kc_b_48, kc_b_57, kc_b_58, kc_b_59, kc_b_60, kc_b_61, kc_b_62, kc_b_63, kc_b_91, kc_b_93, kc_b_97, kc_b_99, kc_b_100, kc_b_106, kc_b_122, kc_s_206, kc_s_226, kc_s_227, kc_s_255, kc_s_256, kc_s_316, kc_s_318, kc_s_400, kc_s_512, kc_s_999, kc_s_1160, kc_s_1536, kc_s_3003, kc_lm11, kc_lm10, kc_lm9, kc_lm8, kc_lm7, kc_lm6, kc_lm5, kc_lm4, kc_lm3, kc_lm2, kc_lm1, kc_l1, kc_l2, kc_l3, kc_l4, kc_l5, kc_l6, kc_l7, kc_l8, kc_l9, kc_l10, kc_l11, kc_l12, kc_l13, kc_l14, kc_l37, kc_l42, kc_l43, kc_l45, kc_l47, kc_l60, kc_l61, kc_l62, kc_l316, kc_l318, kc_l65536, kc_l99999, kc_l1000000, kc_l252645135, kc_l858993459, kc_l1431655765, kc_0, kc_on]
        rw [nx_shl1 (by omega), nx_or2, nx_add]
        rfl
      · rw [m_isMan_f w R hA (no_man w hd hm), Option.bind_some, if_neg (by decide)]
        by_cases h8 : dg N n i = 8
        · rw [if_neg (by rw [nx_eq (by omega) (by omega)]; omega), ra_193_20 R, Option.bind_some, mn_203, gi_n (by omega), if_pos (by simp), nx_cl (by omega), hA]
          by_cases hb : bN A = 0
          · have e : areM A N n i = false := by unfold areM okM; simp [hm, hb]
            rw [if_neg (by rw [a6pos w]; exact fun z => z hb), e]
            rfl
          · have e : areM A N n i = true := by unfold areM okM; rw [q']; simp [h8, hb]
            rw [if_pos (by rw [a6pos w]; exact hb), e]
            unfold m_areMen_74
            simp only [kc_im8, kc_im1, kc_i0, kc_i1, kc_i2, kc_i3, kc_i4, kc_i5, kc_b_m100, kc_b_m16, kc_b_m15, kc_b_m14, kc_b_m13, kc_b_m12, kc_b_m11, kc_b_m2, kc_b_6, kc_b_7, kc_b_8, kc_b_9, kc_b_10, kc_b_11, kc_b_12, kc_b_13, kc_b_14, kc_b_15, kc_b_16, kc_b_20, kc_b_24, kc_b_32, kc_b_37, kc_b_40, kc_b_42, kc_b_43, kc_b_45, kc_b_47, kc_b_48, kc_b_57, kc_b_58, kc_b_59, kc_b_60, kc_b_61, kc_b_62, kc_b_63, kc_b_91, kc_b_93, kc_b_97, kc_b_99, kc_b_100, kc_b_106, kc_b_122, kc_s_206, kc_s_226, kc_s_227, kc_s_255, kc_s_256, kc_s_316, kc_s_318, kc_s_400, kc_s_512, kc_s_999, kc_s_1160, kc_s_1536, kc_s_3003, kc_lm11, kc_lm10, kc_lm9, kc_lm8, kc_lm7, kc_lm6, kc_lm5, kc_lm4, kc_lm3, kc_lm2, kc_lm1, kc_l1, kc_l2, kc_l3, kc_l4, kc_l5, kc_l6, kc_l7, kc_l8, kc_l9, kc_l10, kc_l11, kc_l12, kc_l13, kc_l14, kc_l37, kc_l42, kc_l43, kc_l45, kc_l47, kc_l60, kc_l61, kc_l62, kc_l316, kc_l318, kc_l65536, kc_l99999, kc_l1000000, kc_l252645135, kc_l858993459, kc_l1431655765, kc_0, kc_on]
            rw [nx_shl1 (by omega), nx_or2, nx_add]
            rfl
        · have e : areM A N n i = false := by unfold areM okM; simp [hm, h8]
          rw [if_pos (by rw [nx_eq (by omega) (by omega)]; omega), e]
          rfl
  · dsimp only
    unfold m_areMen_22
    rw [if_pos (by rw [nx_le (by omega) (by omega)]; omega)]
theorem isM_ship (w : WFA A) {N n : Nat} (h0 : 0 < n) (ok : isM A N n) : 0 < an A 0 := by
  apply Classical.byContradiction
  intro q
  have z := w.men0 (by omega)
  have k := ok 0 h0
  have e : bN A = 0 := by unfold bN; rw [if_pos z.2.2]
  unfold areM okM at k
  rw [z.1, e] at k
  simp at k
theorem m_areMen_t (M : MI h A) {N n : Nat} (h0 : 0 < n) (hn : n ≤ 5) (hN : N < 10 ^ n) (ok : isM A N n) : m_areMen 193 (nI N) (nI n) h = some (nI 1) := by
  unfold m_areMen
  rw [m_isShip_n M, Option.bind_some, dec_t (isM_ship M.2.2 h0 ok), m_isRowOf_t h h0 hn hN]
  simp only [kc_im8, kc_im1, kc_i0, kc_i1, kc_i2, kc_i3, kc_i4, kc_i5, kc_b_m100, kc_b_m16, kc_b_m15, kc_b_m14, kc_b_m13, kc_b_m12, kc_b_m11, kc_b_m2, kc_b_6, kc_b_7, kc_b_8, kc_b_9, kc_b_10, kc_b_11, kc_b_12, kc_b_13, kc_b_14, kc_b_15, kc_b_16, kc_b_20, kc_b_24, kc_b_32, kc_b_37, kc_b_40, kc_b_42, kc_b_43, kc_b_45, kc_b_47, kc_b_48, kc_b_57, kc_b_58, kc_b_59, kc_b_60, kc_b_61, kc_b_62, kc_b_63, kc_b_91, kc_b_93, kc_b_97, kc_b_99, kc_b_100, kc_b_106, kc_b_122, kc_s_206, kc_s_226, kc_s_227, kc_s_255, kc_s_256, kc_s_316, kc_s_318, kc_s_400, kc_s_512, kc_s_999, kc_s_1160, kc_s_1536, kc_s_3003, kc_lm11, kc_lm10, kc_lm9, kc_lm8, kc_lm7, kc_lm6, kc_lm5, kc_lm4, kc_lm3, kc_lm2, kc_lm1, kc_l1, kc_l2, kc_l3, kc_l4, kc_l5, kc_l6, kc_l7, kc_l8, kc_l9, kc_l10, kc_l11, kc_l12, kc_l13, kc_l14, kc_l37, kc_l42, kc_l43, kc_l45, kc_l47, kc_l60, kc_l61, kc_l62, kc_l316, kc_l318, kc_l65536, kc_l99999, kc_l1000000, kc_l252645135, kc_l858993459, kc_l1431655765, kc_0, kc_on]
  rw [if_neg (by decide), Option.bind_some, if_pos (by decide), areMenW M hn hN, find_isM ok, Option.bind_some]
theorem m_areMen_f (M : MI h A) {x y : Int32} (no : ¬ ∃ N n, isRD x y N n ∧ isM A N n) : m_areMen 193 x y h = some (nI 0) := by
  unfold m_areMen
  rw [m_isShip_n M, Option.bind_some]
  simp only [kc_im8, kc_im1, kc_i0, kc_i1, kc_i2, kc_i3, kc_i4, kc_i5, kc_b_m100, kc_b_m16, kc_b_m15, kc_b_m14, kc_b_m13, kc_b_m12, kc_b_m11, kc_b_m2, kc_b_6, kc_b_7, kc_b_8, kc_b_9, kc_b_10, kc_b_11, kc_b_12, kc_b_13, kc_b_14, kc_b_15, kc_b_16, kc_b_20, kc_b_24, kc_b_32, kc_b_37, kc_b_40, kc_b_42, kc_b_43, kc_b_45, kc_b_47, kc_b_48, kc_b_57, kc_b_58, kc_b_59, kc_b_60, kc_b_61, kc_b_62, kc_b_63, kc_b_91, kc_b_93, kc_b_97, kc_b_99, kc_b_100, kc_b_106, kc_b_122, kc_s_206, kc_s_226, kc_s_227, kc_s_255, kc_s_256, kc_s_316, kc_s_318, kc_s_400, kc_s_512, kc_s_999, kc_s_1160, kc_s_1536, kc_s_3003, kc_lm11, kc_lm10, kc_lm9, kc_lm8, kc_lm7, kc_lm6, kc_lm5, kc_lm4, kc_lm3, kc_lm2, kc_lm1, kc_l1, kc_l2, kc_l3, kc_l4, kc_l5, kc_l6, kc_l7, kc_l8, kc_l9, kc_l10, kc_l11, kc_l12, kc_l13, kc_l14, kc_l37, kc_l42, kc_l43, kc_l45, kc_l47, kc_l60, kc_l61, kc_l62, kc_l316, kc_l318, kc_l65536, kc_l99999, kc_l1000000, kc_l252645135, kc_l858993459, kc_l1431655765, kc_0, kc_on]
  by_cases s0 : 0 < an A 0
  · rw [dec_t s0, if_neg (by decide)]
    by_cases hr : ∃ N n, isRD x y N n
    · obtain ⟨N, n, q⟩ := hr
      have nm : ¬ isM A N n := fun z => no ⟨N, n, q, z⟩
      obtain ⟨rfl, rfl, h0, hn, hN⟩ := q
      obtain ⟨i, e⟩ := find_noM nm
      rw [m_isRowOf_t h h0 hn hN, Option.bind_some, if_pos (by decide), areMenW M hn hN, e, Option.bind_some]
    · rw [m_isRowOf_f h hr, Option.bind_some, if_neg (by decide)]
  · rw [dec_f s0, if_pos (show nI false.toNat = nI 0 from rfl)]
end MN
