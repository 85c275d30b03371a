/-! voyages, of the reference; refused voyages of both. -/
theorem rng2 {x : Int32} {a b : Nat} (ha : a < 2147483647) (hb : b < 2147483647) (h1 : ¬ x < nI a) (h2 : ¬ nI b < x) : ∃ m, a ≤ m ∧ m ≤ b ∧ x = nI m := by
  rw [Int32.lt_iff_toInt_lt, nx_toInt (by omega)] at h1 h2
  refine ⟨x.toInt.toNat, by omega, by omega, ?_⟩
  apply Int32.toInt_inj.1
  rw [nx_toInt (by omega)]
  omega
theorem le_nlt {x y : Int32} (h : x ≤ y) : ¬ y < x := by
  rw [Int32.le_iff_toInt_le] at h
  rw [Int32.lt_iff_toInt_lt]
  omega
theorem nle_lt {x y : Int32} (h : ¬ x ≤ y) : y < x := by
  rw [Int32.le_iff_toInt_le] at h
  rw [Int32.lt_iff_toInt_lt]
  omega
theorem in_t (h : pm_H) {lo hi : Int64} {a k n : Nat} (h1 : a ≤ k) (h2 : k ≤ n) (hn : n < 2147483647) (ha : lo = (nI a).toInt64) (hb : hi = (nI n).toInt64) : m_in (nI k).toInt64 lo hi h = some (nI 1) := by
  rw [m_in_n h (nI k) ha hb, dec_t]
  · rfl
  · rw [nx_lt (by omega) (by omega), nx_lt (by omega) (by omega)]
    omega
theorem in_f (h : pm_H) {x : Int32} {lo hi : Int64} {a n : Nat} (no : ¬ (¬ x < nI a ∧ ¬ nI n < x)) (ha : lo = (nI a).toInt64) (hb : hi = (nI n).toInt64) : m_in x.toInt64 lo hi h = some (nI 0) := by
  rw [m_in_n h x ha hb, dec_f no]
  rfl
section MV
variable {h0 h : pm_H} {s : Nat} {A B : Nat → Int32} {p k X : Nat}
theorem x_voyages_no (Q : QI h s A) {a b c d : Int32} (no : ¬ ∃ m n p k, a = nI m ∧ b = nI n ∧ c = nI p ∧ d = nI k ∧ voyOk A m n p k) : x_voyages 0 a b c d h = some (ng 1, h) := by
  have Q' := Q
  obtain ⟨R, _, S, H, D, w, K⟩ := Q
  unfold x_voyages
  rw [ra_0_4 R, Option.bind_some, Q'.now, Option.bind_some, c_sails S w, Option.bind_some]
  simp only [kc_im8, kc_im1, kc_i0, kc_i1, kc_i2, kc_i3, kc_i4, kc_i5, kc_b_m100, kc_b_m16, kc_b_m15, kc_b_m14, kc_b_m13, kc_b_m12, kc_b_m11, kc_b_m2, kc_b_6, kc_b_7, kc_b_8, kc_b_9, kc_b_10, kc_b_11, kc_b_12, kc_b_13, kc_b_14, kc_b_15, kc_b_16, kc_b_20, kc_b_24, kc_b_32, kc_b_37, kc_b_40, kc_b_42, kc_b_43, kc_b_45, kc_b_47, kc_b_48, kc_b_57, kc_b_58, kc_b_59, kc_b_60, kc_b_61, kc_b_62, kc_b_63, kc_b_91, kc_b_93, kc_b_97, kc_b_99, kc_b_100, kc_b_106, kc_b_122, kc_s_206, kc_s_226, kc_s_227, kc_s_255, kc_s_256, kc_s_316, kc_s_318, kc_s_400, kc_s_512, kc_s_999, kc_s_1160, kc_s_1536, kc_s_3003, kc_lm11, kc_lm10, kc_lm9, kc_lm8, kc_lm7, kc_lm6, kc_lm5, kc_lm4, kc_lm3, kc_lm2, kc_lm1, kc_l1, kc_l2, kc_l3, kc_l4, kc_l5, kc_l6, kc_l7, kc_l8, kc_l9, kc_l10, kc_l11, kc_l12, kc_l13, kc_l14, kc_l37, kc_l42, kc_l43, kc_l45, kc_l47, kc_l60, kc_l61, kc_l62, kc_l316, kc_l318, kc_l65536, kc_l99999, kc_l1000000, kc_l252645135, kc_l858993459, kc_l1431655765, kc_0, kc_on]
  by_cases s0 : 0 < an A 0
  · rw [dec_t s0, if_neg (by decide)]
    by_cases a1 : a < nI 1
    · rw [if_pos a1]
    rw [if_neg a1]
    by_cases a2 : nI 10 < a
    · rw [if_pos a2]
    rw [if_neg a2]
    by_cases b1 : b < nI 1
    · rw [if_pos b1]
    rw [if_neg b1]
    by_cases b2 : b ≤ nI 20
    · rw [if_pos b2]
      by_cases c1 : c < nI 0
      · rw [if_pos c1]
      rw [if_neg c1]
      by_cases c2 : nI 100 < c
      · rw [if_pos c2]
      rw [if_neg c2]
      by_cases d1 : d < nI 0
      · rw [if_pos d1]
      rw [if_neg d1]
      by_cases d2 : d ≤ nI 1
      · exfalso
        obtain ⟨m, m1, m2, rfl⟩ := rng2 (by omega) (by omega) a1 a2
        obtain ⟨n, n1, n2, rfl⟩ := rng2 (by omega) (by omega) b1 (le_nlt b2)
        obtain ⟨p, p1, p2, rfl⟩ := rng2 (by omega) (by omega) c1 c2
        obtain ⟨k, k1, k2, rfl⟩ := rng2 (by omega) (by omega) d1 (le_nlt d2)
        exact no ⟨m, n, p, k, rfl, rfl, rfl, rfl, s0, m1, m2, n1, n2, p2, k2⟩
      · rw [if_neg d2]
    · rw [if_neg b2]
  · rw [dec_f s0, if_pos (by first | rfl | trivial | decide)]
theorem m_voyages_no (M : MI h A) {a b c d : Int32} (no : ¬ ∃ m n p k, a = nI m ∧ b = nI n ∧ c = nI p ∧ d = nI k ∧ voyOk A m n p k) : m_voyages 193 a b c d h = some (ng 1, h) := by
  unfold m_voyages
  rw [m_isShip_n M, Option.bind_some]
  simp only [kc_im8, kc_im1, kc_i0, kc_i1, kc_i2, kc_i3, kc_i4, kc_i5, kc_b_m100, kc_b_m16, kc_b_m15, kc_b_m14, kc_b_m13, kc_b_m12, kc_b_m11, kc_b_m2, kc_b_6, kc_b_7, kc_b_8, kc_b_9, kc_b_10, kc_b_11, kc_b_12, kc_b_13, kc_b_14, kc_b_15, kc_b_16, kc_b_20, kc_b_24, kc_b_32, kc_b_37, kc_b_40, kc_b_42, kc_b_43, kc_b_45, kc_b_47, kc_b_48, kc_b_57, kc_b_58, kc_b_59, kc_b_60, kc_b_61, kc_b_62, kc_b_63, kc_b_91, kc_b_93, kc_b_97, kc_b_99, kc_b_100, kc_b_106, kc_b_122, kc_s_206, kc_s_226, kc_s_227, kc_s_255, kc_s_256, kc_s_316, kc_s_318, kc_s_400, kc_s_512, kc_s_999, kc_s_1160, kc_s_1536, kc_s_3003, kc_lm11, kc_lm10, kc_lm9, kc_lm8, kc_lm7, kc_lm6, kc_lm5, kc_lm4, kc_lm3, kc_lm2, kc_lm1, kc_l1, kc_l2, kc_l3, kc_l4, kc_l5, kc_l6, kc_l7, kc_l8, kc_l9, kc_l10, kc_l11, kc_l12, kc_l13, kc_l14, kc_l37, kc_l42, kc_l43, kc_l45, kc_l47, kc_l60, kc_l61, kc_l62, kc_l316, kc_l318, kc_l65536, kc_l99999, kc_l1000000, kc_l252645135, kc_l858993459, kc_l1431655765, kc_0, kc_on]
  by_cases s0 : 0 < an A 0
  · rw [dec_t s0, if_neg (by decide)]
    by_cases a1 : ¬ a < nI 1 ∧ ¬ nI 10 < a
    · obtain ⟨m, m1, m2, rfl⟩ := rng2 (by omega) (by omega) a1.1 a1.2
      rw [in_t h (lo := Int64.ofNat 1) (hi := 10) (a := 1) (n := 10) m1 m2 (by omega) rfl rfl, Option.bind_some, if_neg (by decide)]
      by_cases b1 : ¬ b < nI 1 ∧ ¬ nI 20 < b
      · obtain ⟨n, n1, n2, rfl⟩ := rng2 (by omega) (by omega) b1.1 b1.2
        rw [in_t h (lo := Int64.ofNat 1) (hi := 20) (a := 1) (n := 20) n1 n2 (by omega) rfl rfl, Option.bind_some, if_neg (by decide)]
        by_cases c1 : ¬ c < nI 0 ∧ ¬ nI 100 < c
        · obtain ⟨p, p1, p2, rfl⟩ := rng2 (by omega) (by omega) c1.1 c1.2
          rw [in_t h (lo := Int64.ofNat 0) (hi := 100) (a := 0) (n := 100) p1 p2 (by omega) rfl rfl, Option.bind_some, if_neg (by decide)]
          by_cases d1 : ¬ d < nI 0 ∧ ¬ nI 1 < d
          · exfalso
            obtain ⟨k, k1, k2, rfl⟩ := rng2 (by omega) (by omega) d1.1 d1.2
            exact no ⟨m, n, p, k, rfl, rfl, rfl, rfl, s0, m1, m2, n1, n2, p2, k2⟩
          · rw [in_f h (lo := Int64.ofNat 0) (hi := Int64.ofNat 1) (a := 0) (n := 1) d1 rfl rfl, Option.bind_some, if_neg (by decide)]
        · rw [in_f h (lo := Int64.ofNat 0) (hi := 100) (a := 0) (n := 100) c1 rfl rfl, Option.bind_some, if_pos (by first | rfl | trivial | decide)]
      · rw [in_f h (lo := Int64.ofNat 1) (hi := 20) (a := 1) (n := 20) b1 rfl rfl, Option.bind_some, if_pos (by first | rfl | trivial | decide)]
    · rw [in_f h (lo := Int64.ofNat 1) (hi := 10) (a := 1) (n := 10) a1 rfl rfl, Option.bind_some, if_pos (by first | rfl | trivial | decide)]
  · rw [dec_f s0, if_pos (by first | rfl | trivial | decide)]
theorem ndN_same (e : SameS B A) (o : Nat) : ndN B o = ndN A o := by
  have : ∀ i, ndS B o i = ndS A o i := by
    intro i
    induction i with
    | zero => rfl
    | succ i ih => rw [ndS, ndS, ih, e.n (.inr (by omega))]
  unfold ndN
  rw [e.n (.inl (by omega))]
  exact this _
theorem FN.setL (h : pm_H) (k : Nat) (v : Int64) : FN h (pm_setL h 193 k v) := by
  refine ⟨rfl, rfl, fun c hc => ⟨rfl, ?_⟩, fun c hc => rfl, fun j _ => rfl⟩
  funext j
  exact rl_c _ (by omega)
/-- the reference at sea -/
def RV (h0 h : pm_H) (A B : Nat → Int32) (X : Nat) : Prop := MI h B ∧ h.2.2.1 193 31 = qN X ∧ X < 2147483648 ∧ (∀ u, sub u (alvN A ||| bb (bN A)) → h.2.1 207 u = nI (cN A (bN A) u)) ∧ (∀ k, k < 58 → h.2.1 210 k = A k) ∧ FN h0 h
theorem RV.draw {Y : Nat} (V : RV h0 h A B X) (hY : Y < 2147483648) : RV h0 (pm_setL h 193 31 (qN Y)) A B Y := by
  obtain ⟨M, x, hX, c, d, f⟩ := V
  exact ⟨⟨M.1, M.2.1, M.2.2⟩, rl_s _, hY, c, d, f.trans (FN.setL h 31 _)⟩
theorem RV.set {j : Nat} {v : Int32} (V : RV h0 h A B X) (w : WFA (upA B j v)) : RV h0 (pm_setI h 203 j v) A (upA B j v) X := by
  obtain ⟨M, x, hX, c, d, f⟩ := V
  exact ⟨⟨M.1.setI, set203 M.2.1 j v, w⟩, x, hX, fun u hu => by rw [ri_c _ (by omega)]; exact c u hu, fun k hk => by rw [ri_c _ (by omega)]; exact d k hk, f.trans (FN.set h j v)⟩
theorem m_rsW (W : RV h0 h A B X) (V : VI A B k) (hp : p ≤ 100) (x1 x2 x4 x5 x6 x8 x9 : Int32) : SP (wh (fun q : (Int32 × pm_H) => m_voyages_163 193 x1 x2 (nI p) x4 x5 x6 x8 x9 q.1 q.2) (nI 0, h)) (fun h' => RV h0 h' A (rsV p (an A 1) B X).1 (rsV p (an A 1) B X).2) := by
  refine wh_cnt (fun i q => q.1 = nI i ∧ RV h0 q.2 A (rsV p i B X).1 (rsV p i B X).2) _ (an A 1) ?_ ?_ 0 (nI 0, h) (by omega) ⟨rfl, W⟩
  · rintro i ⟨y, h1⟩ hi ⟨hy, W1⟩
    dsimp only at hy W1
    subst hy
    have V1 := (V.rs (p := p) i (X := X) (by omega) W.2.2.1).1
    have b1 := V1.e1
    have W1' := W1
    obtain ⟨M, x31, hX, c, d, f⟩ := W1
    have w := V1.2.1
    have e1 := w.e1
    unfold m_voyages_163
    simp only [kc_im8, kc_im1, kc_i0, kc_i1, kc_i2, kc_i3, kc_i4, kc_i5, kc_b_m100, kc_b_m16, kc_b_m15, kc_b_m14, kc_b_m13, kc_b_m12, kc_b_m11, kc_b_m2, kc_b_6, kc_b_7, kc_b_8, kc_b_9, kc_b_10, kc_b_11, kc_b_12, kc_b_13, kc_b_14, kc_b_15, kc_b_16, kc_b_20, kc_b_24, kc_b_32, kc_b_37, kc_b_40, kc_b_42, kc_b_43, kc_b_45, kc_b_47, kc_b_48, kc_b_57, kc_b_58, kc_b_59, kc_b_60, kc_b_61, kc_b_62, kc_b_63, kc_b_91, kc_b_93, kc_b_97, kc_b_99, kc_b_100, kc_b_106, kc_b_122, kc_s_206, kc_s_226, kc_s_227, kc_s_255, kc_s_256, kc_s_316, kc_s_318, kc_s_400, kc_s_512, kc_s_999, kc_s_1160, kc_s_1536, kc_s_3003, kc_lm11, kc_lm10, kc_lm9, kc_lm8, kc_lm7, kc_lm6, kc_lm5, kc_lm4, kc_lm3, kc_lm2, kc_lm1, kc_l1, kc_l2, kc_l3, kc_l4, kc_l5, kc_l6, kc_l7, kc_l8, kc_l9, kc_l10, kc_l11, kc_l12, kc_l13, kc_l14, kc_l37, kc_l42, kc_l43, kc_l45, kc_l47, kc_l60, kc_l61, kc_l62, kc_l316, kc_l318, kc_l65536, kc_l99999, kc_l1000000, kc_l252645135, kc_l858993459, kc_l1431655765, kc_0, kc_on]
    rw [ra_193_20 M.1, Option.bind_some, mn_203, gi_n (by omega), nx_cl (by omega), M.2.1, e1.1]
    refine sp_pos (by simp) (sp_neg (by rw [nx_le (by omega) (by omega)]; omega) ?_)
    rw [m_isAlive_t w M.1 M.2.1 (by omega), Option.bind_some]
    by_cases dd : isDd (rsV p i B X).1 i = true
    · rw [dd]
      refine sp_pos (by decide) ?_
      rw [nx_add, sp_some, rsV, if_pos dd]
      exact ⟨rfl, W1'⟩
    · have dd' : isDd (rsV p i B X).1 i = false := by simpa using dd
      rw [dd']
      refine sp_neg (by decide) ?_
      have hdr := dr_lt (rsV p i B X).2
      rw [Option.bind_some, m_draw_n x31 hX (by omega) (by omega), Option.bind_some]
      dsimp only
      have go : ∀ z : Bool, z = !decide (dr (rsV p i B X).2 / 65536 % 100 < p) → SP (m_voyages_212 193 x1 x2 (nI p) x4 x5 x6 x8 x9 (nI i) (nI z.toNat) (nI 10 + nI 6 * nI i + nI 2) 203 (pm_setL h1 193 31 (qN (dr (rsV p i B X).2)))) (fun q => match q with | .inl q => q.1 = nI (i + 1) ∧ RV h0 q.2 A (rsV p (i + 1) B X).1 (rsV p (i + 1) B X).2 | .inr h' => RV h0 h' A (rsV p (an A 1) B X).1 (rsV p (an A 1) B X).2) := by
        intro z hz
        unfold m_voyages_212
        simp only [kc_im8, kc_im1, kc_i0, kc_i1, kc_i2, kc_i3, kc_i4, kc_i5, kc_b_m100, kc_b_m16, kc_b_m15, kc_b_m14, kc_b_m13, kc_b_m12, kc_b_m11, kc_b_m2, kc_b_6, kc_b_7, kc_b_8, kc_b_9, kc_b_10, kc_b_11, kc_b_12, kc_b_13, kc_b_14, kc_b_15, kc_b_16, kc_b_20, kc_b_24, kc_b_32, kc_b_37, kc_b_40, kc_b_42, kc_b_43, kc_b_45, kc_b_47, kc_b_48, kc_b_57, kc_b_58, kc_b_59, kc_b_60, kc_b_61, kc_b_62, kc_b_63, kc_b_91, kc_b_93, kc_b_97, kc_b_99, kc_b_100, kc_b_106, kc_b_122, kc_s_206, kc_s_226, kc_s_227, kc_s_255, kc_s_256, kc_s_316, kc_s_318, kc_s_400, kc_s_512, kc_s_999, kc_s_1160, kc_s_1536, kc_s_3003, kc_lm11, kc_lm10, kc_lm9, kc_lm8, kc_lm7, kc_lm6, kc_lm5, kc_lm4, kc_lm3, kc_lm2, kc_lm1, kc_l1, kc_l2, kc_l3, kc_l4, kc_l5, kc_l6, kc_l7, kc_l8, kc_l9, kc_l10, kc_l11, kc_l12, kc_l13, kc_l14, kc_l37, kc_l42, kc_l43, kc_l45, kc_l47, kc_l60, kc_l61, kc_l62, kc_l316, kc_l318, kc_l65536, kc_l99999, kc_l1000000, kc_l252645135, kc_l858993459, kc_l1431655765, kc_0, kc_on]
        rw [ix_man (by omega) (by omega), mn_203, gi_n (by omega), nx_cl (by omega)]
        refine sp_pos (by simp; omega) ?_
        rw [sp_bd, sp_some, rsV, if_neg dd, ← hz, nx_add]
        exact ⟨rfl, (W1'.draw hdr).set (up2_wf w (by omega) z).2⟩
      by_cases q : dr (rsV p i B X).2 / 65536 % 100 < p
      · exact sp_neg (by rw [nx_le (by omega) (by omega)]; omega) ((go false (by rw [dec_t q]; rfl)).mono (by rintro (q | q) hq <;> exact hq))
      · exact sp_pos (by rw [nx_le (by omega) (by omega)]; omega) ((go true (by rw [dec_f q]; rfl)).mono (by rintro (q | q) hq <;> exact hq))
  · rintro ⟨y, h1⟩ ⟨hy, W1⟩
    dsimp only at hy W1
    subst hy
    have V1 := (V.rs (p := p) (an A 1) (X := X) (Nat.le_refl _) W.2.2.1).1
    have b1 := V1.e1
    have e1 := V1.2.1.e1
    unfold m_voyages_163
    simp only [kc_im8, kc_im1, kc_i0, kc_i1, kc_i2, kc_i3, kc_i4, kc_i5, kc_b_m100, kc_b_m16, kc_b_m15, kc_b_m14, kc_b_m13, kc_b_m12, kc_b_m11, kc_b_m2, kc_b_6, kc_b_7, kc_b_8, kc_b_9, kc_b_10, kc_b_11, kc_b_12, kc_b_13, kc_b_14, kc_b_15, kc_b_16, kc_b_20, kc_b_24, kc_b_32, kc_b_37, kc_b_40, kc_b_42, kc_b_43, kc_b_45, kc_b_47, kc_b_48, kc_b_57, kc_b_58, kc_b_59, kc_b_60, kc_b_61, kc_b_62, kc_b_63, kc_b_91, kc_b_93, kc_b_97, kc_b_99, kc_b_100, kc_b_106, kc_b_122, kc_s_206, kc_s_226, kc_s_227, kc_s_255, kc_s_256, kc_s_316, kc_s_318, kc_s_400, kc_s_512, kc_s_999, kc_s_1160, kc_s_1536, kc_s_3003, kc_lm11, kc_lm10, kc_lm9, kc_lm8, kc_lm7, kc_lm6, kc_lm5, kc_lm4, kc_lm3, kc_lm2, kc_lm1, kc_l1, kc_l2, kc_l3, kc_l4, kc_l5, kc_l6, kc_l7, kc_l8, kc_l9, kc_l10, kc_l11, kc_l12, kc_l13, kc_l14, kc_l37, kc_l42, kc_l43, kc_l45, kc_l47, kc_l60, kc_l61, kc_l62, kc_l316, kc_l318, kc_l65536, kc_l99999, kc_l1000000, kc_l252645135, kc_l858993459, kc_l1431655765, kc_0, kc_on]
    rw [ra_193_20 W1.1.1, Option.bind_some, mn_203, gi_n (by omega), nx_cl (by omega), W1.1.2.1, e1.1]
    exact sp_pos (by simp) (sp_pos (by rw [nx_le (by omega) (by omega)]; omega) (sp_some.mpr W1))
def RVt (h0 h : pm_H) (A : Nat → Int32) (q : (Nat → Int32) × Nat × Nat × Nat) : Prop := RV h0 h A q.1 q.2.1
theorem m_hour_st {q : (Nat → Int32) × Nat × Nat × Nat} (W : RVt h0 h A q) (V : VI A q.1 k) (hk : k < 1999) (hp : p ≤ 100) (x1 x4 x8 : Int32) {j n : Nat} (hj : j < n) (hn : n ≤ 20) : SP (m_voyages_143 193 x1 (nI n) (nI p) x4 (nI q.2.2.1) (nI q.2.2.2) x8 (nI j) h) (fun z => ∃ h', z = .inl (nI (stV A p q).2.2.1, nI (stV A p q).2.2.2, nI (j + 1), h') ∧ RVt h0 h' A (stV A p q)) := by
  obtain ⟨B, X, u, v⟩ := q
  have W' := W
  obtain ⟨M, x31, hX, c, d, f⟩ := W
  dsimp only at M x31 hX V
  have hdr := dr_lt X
  have VH := V.hour (p := p) hX
  unfold m_voyages_143
  simp only [kc_im8, kc_im1, kc_i0, kc_i1, kc_i2, kc_i3, kc_i4, kc_i5, kc_b_m100, kc_b_m16, kc_b_m15, kc_b_m14, kc_b_m13, kc_b_m12, kc_b_m11, kc_b_m2, kc_b_6, kc_b_7, kc_b_8, kc_b_9, kc_b_10, kc_b_11, kc_b_12, kc_b_13, kc_b_14, kc_b_15, kc_b_16, kc_b_20, kc_b_24, kc_b_32, kc_b_37, kc_b_40, kc_b_42, kc_b_43, kc_b_45, kc_b_47, kc_b_48, kc_b_57, kc_b_58, kc_b_59, kc_b_60, kc_b_61, kc_b_62, kc_b_63, kc_b_91, kc_b_93, kc_b_97, kc_b_99, kc_b_100, kc_b_106, kc_b_122, kc_s_206, kc_s_226, kc_s_227, kc_s_255, kc_s_256, kc_s_316, kc_s_318, kc_s_400, kc_s_512, kc_s_999, kc_s_1160, kc_s_1536, kc_s_3003, kc_lm11, kc_lm10, kc_lm9, kc_lm8, kc_lm7, kc_lm6, kc_lm5, kc_lm4, kc_lm3, kc_lm2, kc_lm1, kc_l1, kc_l2, kc_l3, kc_l4, kc_l5, kc_l6, kc_l7, kc_l8, kc_l9, kc_l10, kc_l11, kc_l12, kc_l13, kc_l14, kc_l37, kc_l42, kc_l43, kc_l45, kc_l47, kc_l60, kc_l61, kc_l62, kc_l316, kc_l318, kc_l65536, kc_l99999, kc_l1000000, kc_l252645135, kc_l858993459, kc_l1431655765, kc_0, kc_on]
  refine sp_neg (by rw [nx_le (by omega) (by omega)]; omega) ?_
  rw [ra_193_20 M.1, Option.bind_some, m_draw_n x31 hX (by omega) (by omega), Option.bind_some]
  dsimp only
  rw [mn_203, gi_n (by omega), nx_cl (by omega)]
  refine sp_pos (by simp) ?_
  rw [sp_bd]
  have V2 := V.up5 (j := dr X / 65536 % 3) (by omega)
  have W2 := (RV.draw W' hdr).set V2.2.1
  refine sp_call (m_rsW W2 V2 hp x1 (nI n) x4 (nI u) (nI v) x8 (nI j)) ?_
  intro h3 W3
  have e : rsV p (an A 1) (upA B 5 (nI (dr X / 65536 % 3))) (dr X) = hourV p B X := by unfold hourV; rw [V.e1]
  rw [e] at W3
  unfold stV RVt
  dsimp only
  generalize hourV p B X = C at W3 VH ⊢
  obtain ⟨C, Y⟩ := C
  dsimp only at W3 VH ⊢
  have V3 := VH.1
  obtain ⟨M3, y31, hY, c3, d3, f3⟩ := W3
  have w3 := V3.2.1
  have e2 := w3.e2
  have a2 : an C 2 = an A 2 := V3.1.n (.inl (by omega))
  have h512 := hrd_512 w3
  have p2 : 1 ≤ 2 ^ an C 2 := Nat.one_le_two_pow
  have hm : sd (2 ^ an C 2 - 1) (cN A (bN A) (hrdN C)) = muteN A C := by unfold muteN; rw [a2]
  have hml : muteN A C < 256 := by
    rw [← hm]
    have h1 : 2 ^ an C 2 ≤ 2 ^ 8 := Nat.pow_le_pow_right (by decide) (by omega)
    have h2 : 2 ^ an C 2 - 1 < 2 ^ 8 := by omega
    exact sd_lt _ h2
  have ao : m_allOrders 193 h3 = some (nI (2 ^ an C 2 - 1)) := by
    unfold m_allOrders
    simp only [kc_im8, kc_im1, kc_i0, kc_i1, kc_i2, kc_i3, kc_i4, kc_i5, kc_b_m100, kc_b_m16, kc_b_m15, kc_b_m14, kc_b_m13, kc_b_m12, kc_b_m11, kc_b_m2, kc_b_6, kc_b_7, kc_b_8, kc_b_9, kc_b_10, kc_b_11, kc_b_12, kc_b_13, kc_b_14, kc_b_15, kc_b_16, kc_b_20, kc_b_24, kc_b_32, kc_b_37, kc_b_40, kc_b_42, kc_b_43, kc_b_45, kc_b_47, kc_b_48, kc_b_57, kc_b_58, kc_b_59, kc_b_60, kc_b_61, kc_b_62, kc_b_63, kc_b_91, kc_b_93, kc_b_97, kc_b_99, kc_b_100, kc_b_106, kc_b_122, kc_s_206, kc_s_226, kc_s_227, kc_s_255, kc_s_256, kc_s_316, kc_s_318, kc_s_400, kc_s_512, kc_s_999, kc_s_1160, kc_s_1536, kc_s_3003, kc_lm11, kc_lm10, kc_lm9, kc_lm8, kc_lm7, kc_lm6, kc_lm5, kc_lm4, kc_lm3, kc_lm2, kc_lm1, kc_l1, kc_l2, kc_l3, kc_l4, kc_l5, kc_l6, kc_l7, kc_l8, kc_l9, kc_l10, kc_l11, kc_l12, kc_l13, kc_l14, kc_l37, kc_l42, kc_l43, kc_l45, kc_l47, kc_l60, kc_l61, kc_l62, kc_l316, kc_l318, kc_l65536, kc_l99999, kc_l1000000, kc_l252645135, kc_l858993459, kc_l1431655765, kc_0, kc_on]
    rw [ra_193_20 M3.1, Option.bind_some, mn_203, gi_n (by omega), nx_cl (by omega), M3.2.1, e2.1, if_pos (by simp), nx_shl1 (by omega), nx_sub p2]
  rw [ao, Option.bind_some, ra_193_26 M3.1, Option.bind_some, m_heardSet_n w3 M3.1 M3.2.1, Option.bind_some, mn_207, gi_n (by omega), nx_cl (by omega), c3 _ V3.hrd, nx_andn, hm, m_bits_n h3 (by omega), Option.bind_some, m_needOf_n M3 (by omega), Option.bind_some, ndN_same V3.1]
  refine sp_pos (by simp; omega) ?_
  refine sp_call (m_passes_sp M3) ?_
  rintro h4 ⟨f4, e4⟩
  rw [nx_add, nx_add, nx_add]
  refine sp_some.mpr ⟨h4, rfl, ⟨M3.1.fm f4, e4, (V3.ps hk).2.1⟩, ?_, hY, fun u hu => ?_, fun k hk => ?_, f3.trans ⟨f4.1, f4.2.1, fun c hc => ⟨f4.i (by omega) (by omega), by rw [f4.2.2.1]⟩, fun c hc => ?_, fun j _ => f4.f id⟩⟩
  · rw [f4.2.2.1]; exact y31
  · rw [f4.i (by omega) (by omega)]; exact c3 u hu
  · rw [f4.i (by omega) (by omega)]; exact d3 k hk
  · simp only [List.mem_cons, List.not_mem_nil, or_false] at hc
    exact f4.i (by omega) (by omega)
end MV
