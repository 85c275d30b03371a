/-! A ship's text: its clauses, read by the program. -/
abbrev CLO := Nat ⊕ (Nat × (Nat → Int32))
def clShip (B : Nat → Nat) (L : Nat) (D : Nat → Int32) (p1 : Nat) : CLO := match nrE B L p1 1 10 with
  | some e => .inl e
  | none => .inr (skp B L (bh B L p1), upA D 0 (nI (nrV B L p1)))
def clMan (B : Nat → Nat) (L : Nat) (D : Nat → Int32) (p1 : Nat) : CLO := match nrE B L p1 0 (an D 0 - 1) with
  | some e => .inl e
  | none => match nrE B L (skp B L (bh B L p1)) 0 2 with
    | some e => .inl e
    | none => .inr (skp B L (bh B L (skp B L (bh B L p1))), rdMan D (nrV B L p1) (nrV B L (skp B L (bh B L p1))))
/-- the words of an order's row at p2, when a word isn't there: its place -/
def orF (B : Nat → Nat) (D : Nat → Int32) (p2 n : Nat) : Option Nat := (List.range n).find? (fun i => !decide (B (p2 + i) - 48 < an D 0))
def clOrd (B : Nat → Nat) (L : Nat) (D : Nat → Int32) (p1 : Nat) : CLO := match nrE B L p1 0 99 with
  | some e => .inl e
  | none => if kd (ca B L (skp B L (bh B L p1))) = 1 then (if bh B L (skp B L (bh B L p1)) - skp B L (bh B L p1) ≤ 4 then (match orF B D (skp B L (bh B L p1)) (bh B L (skp B L (bh B L p1)) - skp B L (bh B L p1)) with
      | some i => .inl (1 + 8 * (skp B L (bh B L p1) + i) + 1)
      | none => .inr (skp B L (bh B L (skp B L (bh B L p1))), rdOrd D (nrV B L p1) (fun i => B (skp B L (bh B L p1) + i) - 48) (bh B L (skp B L (bh B L p1)) - skp B L (bh B L p1)))) else .inl (1 + 8 * skp B L (bh B L p1) + 1)) else .inl (1 + 8 * skp B L (bh B L p1))
def clMea (B : Nat → Nat) (L : Nat) (D : Nat → Int32) (p1 : Nat) : CLO := match nrE B L p1 0 (an D 0 - 1) with
  | some e => .inl e
  | none => match nrE B L (skp B L (bh B L p1)) 0 (an D 0 - 1) with
    | some e => .inl e
    | none => if (mnA D (nrV B L p1) (nrV B L (skp B L (bh B L p1)))).isSome = true then .inl (1 + 8 * skp B L (bh B L p1) + 1) else
      match nrE B L (skp B L (bh B L (skp B L (bh B L p1)))) 0 (an D 0 - 1) with
      | some e => .inl e
      | none => .inr (skp B L (bh B L (skp B L (bh B L (skp B L (bh B L p1))))), rdMea D (nrV B L p1) (nrV B L (skp B L (bh B L p1))) (nrV B L (skp B L (bh B L (skp B L (bh B L p1))))))
def CO (h : pm_H) (s : Nat) (B : Nat → Nat) (L : Nat) (o : CLO) (z : Int32 × pm_H) : Prop := FH s h z.2 ∧ (match o with
  | .inl e => z.1 = nI 0 ∧ z.2.2.1 1 7 = nI e
  | .inr q => z.1 = nI 1 ∧ CSh z.2 s q.2 ∧ UNT z.2 B L q.1 ∧ z.2.2.1 1 7 = h.2.1 1 7)
section CLS
variable {h : pm_H} {s L p1 : Nat} {B : Nat → Nat} {D : Nat → Int32}
theorem nrE_none {p lo hi : Nat} (e : nrE B L p lo hi = none) : kd (ca B L p) = 1 ∧ bh B L p - p ≤ 5 ∧ lo ≤ nrV B L p ∧ nrV B L p ≤ hi := by
  unfold nrE at e
  split at e
  · rename_i k1
    split at e
    · cases e
    · rename_i q
      have : dgv B p (bh B L p - p) = nrV B L p := rfl
      exact ⟨k1, by omega, by omega, by omega⟩
  · cases e
theorem blame_fh {e : Nat} (hs : 108 ≤ s) : FH s h (pm_setI h 1 7 (nI e)) := ⟨(Fr.refl _ h).setI (.inl rfl), by rw [ri_j _ (by omega)]⟩
theorem s_words_n (R : RF h) (C : CT h L B) (U : UNT h B L p1) (S : CSh h s D) (W : WR D) (h0 : an D 0 = 0) (h3 : an D 3 = 0) (tg : TGs h s D) : SP (s_readWords s 1 h) (CO h s B L (clShip B L D p1)) := by
  have hs := hull_ge S.1
  unfold s_readWords clShip
  rw [kc_i1, kc_b_10]
  refine sp_call (t_number_n R C U (lo := 1) (hi := 10) (by omega) (by omega)) ?_
  rintro ⟨v, h1⟩ hz
  cases e : nrE B L p1 1 10 with
  | some er =>
    rw [e] at hz
    obtain ⟨z1, z2⟩ := hz
    dsimp only at z1 z2
    subst z1 z2
    dsimp only
    exact sp_neg (by decide) (sp_some.mpr ⟨blame_fh (by omega), kc_i0, ri_s _⟩)
  | none =>
    rw [e] at hz
    have n := nrE_none e
    obtain ⟨z1, f1, U1, z7⟩ := hz
    dsimp only at z1 f1 U1 z7
    subst z1
    refine sp_pos (by rw [kc_0, nx_le (by omega) (by omega)]; omega) ?_
    rw [sp_bd, sp_some]
    have S1 := S.ft f1
    refine ⟨(f1.fh s).set (by omega) (by omega), rfl, S1.ship W h0 h3 (fun a b ha hb => by rw [f1.fr.i _ (by omega)]; exact tg a b ha hb) (by omega), U1.hull (funext (fun j => ri_c _ (by omega))), by rw [ri_c _ (by omega)]; exact z7⟩
theorem s_man_n (R : RF h) (C : CT h L B) (U : UNT h B L p1) (S : CSh h s D) (W : WR D) (h0 : 0 < an D 0) (h1 : an D 1 < 8) : SP (s_readMan s 1 h) (CO h s B L (clMan B L D p1)) := by
  have hs := hull_ge S.1
  have c0 := W.c0
  have c1 := W.c1
  unfold s_readMan clMan
  rw [S.2.1, c0.1, kc_i0, kc_i1, nx_sub (by omega), kc_i2]
  refine sp_call (t_number_n R C U (lo := 0) (hi := an D 0 - 1) (by omega) (by omega)) ?_
  rintro ⟨v, h2⟩ hz
  cases e : nrE B L p1 0 (an D 0 - 1) with
  | some er =>
    rw [e] at hz
    obtain ⟨z1, z2⟩ := hz
    dsimp only at z1 z2
    subst z1 z2
    dsimp only
    refine sp_neg (by decide) ?_
    unfold s_readMan_26
    rw [kc_im1]
    exact sp_pos (by decide) (sp_some.mpr ⟨blame_fh (by omega), kc_i0, ri_s _⟩)
  | none =>
    rw [e] at hz
    have n := nrE_none e
    obtain ⟨z1, f1, U1, z7⟩ := hz
    dsimp only at z1 f1 U1 z7
    subst z1
    refine sp_pos (by rw [kc_0, nx_le (by omega) (by omega)]; omega) ?_
    refine sp_call (t_number_n (f1.rf R) (f1.ct C) U1 (lo := 0) (hi := 2) (by omega) (by omega)) ?_
    rintro ⟨v2, h3⟩ hz2
    dsimp only at hz2 ⊢
    cases e2 : nrE B L (skp B L (bh B L p1)) 0 2 with
    | some er =>
      rw [e2] at hz2
      obtain ⟨z1, z2⟩ := hz2
      subst z1 z2
      unfold s_readMan_26
      exact sp_pos (by decide) (sp_some.mpr ⟨(f1.fh s).trans (blame_fh (by omega)), kc_i0, ri_s _⟩)
    | none =>
      rw [e2] at hz2
      have n2 := nrE_none e2
      obtain ⟨z1, f2, U2, z72⟩ := hz2
      subst z1
      have f12 := f1.trans f2
      have S3 := S.ft f12
      have R3 := f12.rf R
      unfold s_readMan_26
      refine sp_neg (by rw [kc_0, nx_lt (by omega) (by omega)]; omega) ?_
      rw [S3.2.2.1, c1.1, kc_b_8]
      refine sp_pos (by rw [nx_lt (by omega) (by omega)]; omega) ?_
      rw [rf_s4 R3 S.1, Option.bind_some, ln_s4 S.1, gi_n (by omega), nx_cl (by omega)]
      refine sp_pos (dec_t h1) ?_
      rw [sp_bd]
      have R4 : RF (pm_setI h3 (s + 1) (an D 1) (nI (nrV B L p1))) := R3
      rw [rf_s5 R4 S.1, Option.bind_some, ln_s5 S.1, ri_c _ (by omega), S3.2.2.1, c1.1, gi_n (by omega), nx_cl (by omega)]
      refine sp_pos (dec_t h1) ?_
      rw [sp_bd, sp_bd, ri_c _ (by omega), ri_c _ (by omega), S3.2.2.1, c1.1, kc_i1, nx_add, sp_some]
      refine ⟨(((f12.fh s).set (by omega) (by omega)).set (by omega) (by omega)).set (by omega) (by omega), rfl, S3.man W h1, U2.hull (funext (fun j => by rw [ri_c _ (by omega), ri_c _ (by omega), ri_c _ (by omega)])), ?_⟩
      rw [ri_c _ (by omega), ri_c _ (by omega), ri_c _ (by omega), z72, z7]
theorem WR.mn (W : WR D) {a b : Nat} (ha : a < 10) (hb : b < 10) : (D (106 + 10 * a + b) = ng 1 ∧ mnA D a b = none) ∨ (∃ c, D (106 + 10 * a + b) = nI c ∧ c < an D 0 ∧ mnA D a b = some c) := by
  have h0 := W.c0
  rcases W.2.2.2.2.2.2.2.2 a b ha hb with h | ⟨h1, h2, h3⟩
  · refine .inl ⟨h, ?_⟩
    unfold mnA
    rw [if_neg]
    rintro ⟨_, _, h3⟩
    rw [h, ng_lt_n (by omega) (by omega) (by omega)] at h3
    exact h3 trivial
  · have h4 := h1.get (by omega)
    refine .inr ⟨_, h4.1, h4.2, ?_⟩
    unfold mnA
    rw [if_pos]
    refine ⟨ha, hb, ?_⟩
    rw [h4.1, nx_lt (by omega) (by omega)]
    omega
theorem c_pairD (S : CSh h s D) (W : WR D) (R : RF h) (hz : 0 < an D 0) {a b : Nat} (ha : a < 10) (hb : b < 10) : s_pair s (nI a) (nI b) h = some (pr D a b) := by
  unfold s_pair s_pair_25
  simp (disch := omega) only [kc_im8, kc_im1, kc_i0, kc_i1, kc_i2, kc_i3, kc_i4, kc_i5, kc_b_m100, kc_b_m16, kc_b_m15, kc_b_m14, kc_b_m13, kc_b_m12, kc_b_m11, kc_b_m2, kc_b_6, kc_b_7, kc_b_8, kc_b_9, kc_b_10, kc_b_11, kc_b_12, kc_b_13, kc_b_14, kc_b_15, kc_b_16, kc_b_20, kc_b_24, kc_b_32, kc_b_37, kc_b_40, kc_b_42, kc_b_43, kc_b_45, kc_b_47, kc_b_48, kc_b_57, kc_b_58, kc_b_59, kc_b_60, kc_b_61, kc_b_62, kc_b_63, kc_b_91, kc_b_93, kc_b_97, kc_b_99, kc_b_100, kc_b_106, kc_b_122, kc_s_206, kc_s_226, kc_s_227, kc_s_255, kc_s_256, kc_s_316, kc_s_318, kc_s_400, kc_s_512, kc_s_999, kc_s_1160, kc_s_1536, kc_s_3003, kc_lm11, kc_lm10, kc_lm9, kc_lm8, kc_lm7, kc_lm6, kc_lm5, kc_lm4, kc_lm3, kc_lm2, kc_lm1, kc_l1, kc_l2, kc_l3, kc_l4, kc_l5, kc_l6, kc_l7, kc_l8, kc_l9, kc_l10, kc_l11, kc_l12, kc_l13, kc_l14, kc_l37, kc_l42, kc_l43, kc_l45, kc_l47, kc_l60, kc_l61, kc_l62, kc_l316, kc_l318, kc_l65536, kc_l99999, kc_l1000000, kc_l252645135, kc_l858993459, kc_l1431655765, kc_0, kc_on, rf_s12 R S.1, ln_s12 S.1, nx_lt, nx_le, nx_eq, nx_add, nx_sub, nx_mul, nx_cl, n_lt_ng, n_le_ng, n_eq_ng, ng_lt_n, ng_le_n, ng_eq_n, ng_eq, ng_lt, ng_le, nx_dec, Option.bind_some, gi_n]
  rw [if_neg (by omega), if_neg (by omega), if_neg (by omega), if_neg (by omega), if_neg (by omega), if_pos (by simp; omega), S.2.2.2.2.2.2.2.1 a b ha hb hz]
  unfold pr
  have h0 := W.c0
  rcases W.mn ha hb with ⟨q1, q2⟩ | ⟨c, q1, q3, q2⟩
  · rw [q2, q1, if_pos rfl]
  · rw [q2, q1, if_neg (by rw [n_eq_ng (by omega) (by omega) (by omega)]; exact id)]
theorem s_mea_n (R : RF h) (C : CT h L B) (U : UNT h B L p1) (S : CSh h s D) (W : WR D) (h0 : 0 < an D 0) (h1 : an D 3 < 10) : SP (s_readMeans s 1 h) (CO h s B L (clMea B L D p1)) := by
  have hs := hull_ge S.1
  have c0 := W.c0
  have c3 := W.c3
  unfold s_readMeans clMea
  rw [S.2.1, c0.1, kc_i0, kc_i1, nx_sub (by omega)]
  refine sp_call (t_number_n R C U (lo := 0) (hi := an D 0 - 1) (by omega) (by omega)) ?_
  rintro ⟨v, h2⟩ hz
  cases e : nrE B L p1 0 (an D 0 - 1) with
  | some er =>
    rw [e] at hz
    obtain ⟨z1, z2⟩ := hz
    dsimp only at z1 z2
    subst z1 z2
    dsimp only
    exact sp_neg (by decide) (sp_some.mpr ⟨blame_fh (by omega), rfl, ri_s _⟩)
  | none =>
    rw [e] at hz
    have n := nrE_none e
    obtain ⟨z1, f1, U1, z7⟩ := hz
    dsimp only at z1 f1 U1 z7
    subst z1
    have S1 := S.ft f1
    dsimp only
    refine sp_pos (by rw [kc_0, nx_le (by omega) (by omega)]; omega) ?_
    rw [S1.2.1, c0.1, nx_sub (by omega)]
    refine sp_call (t_number_n (f1.rf R) (f1.ct C) U1 (lo := 0) (hi := an D 0 - 1) (by omega) (by omega)) ?_
    rintro ⟨v2, h3⟩ hz2
    dsimp only at hz2 ⊢
    cases e2 : nrE B L (skp B L (bh B L p1)) 0 (an D 0 - 1) with
    | some er =>
      rw [e2] at hz2
      obtain ⟨z1, z2⟩ := hz2
      subst z1 z2
      exact sp_neg (by decide) (sp_some.mpr ⟨(f1.fh s).trans (blame_fh (by omega)), rfl, ri_s _⟩)
    | none =>
      rw [e2] at hz2
      have n2 := nrE_none e2
      obtain ⟨z1, f2, U2, z72⟩ := hz2
      subst z1
      have f12 := f1.trans f2
      have S3 := S.ft f12
      have R3 := f12.rf R
      refine sp_pos (by rw [kc_0, nx_le (by omega) (by omega)]; omega) ?_
      have a10 : nrV B L p1 < 10 := by omega
      have b10 : nrV B L (skp B L (bh B L p1)) < 10 := by omega
      rw [c_pairD S3 W R3 h0 a10 b10, Option.bind_some]
      have mn := W.mn a10 b10
      unfold pr
      rcases mn with ⟨_, m2⟩ | ⟨c, _, m1, m2⟩
      · rw [m2]
        refine sp_pos (by decide) ?_
        rw [S3.2.1, c0.1, nx_sub (by omega)]
        refine sp_call (t_number_n R3 (f12.ct C) U2 (lo := 0) (hi := an D 0 - 1) (by omega) (by omega)) ?_
        rintro ⟨v3, h4⟩ hz3
        dsimp only at hz3 ⊢
        rw [if_neg (show ¬ ((none : Option Nat).isSome = true) by decide)]
        cases e3 : nrE B L (skp B L (bh B L (skp B L (bh B L p1)))) 0 (an D 0 - 1) with
        | some er =>
          rw [e3] at hz3
          obtain ⟨z1, z2⟩ := hz3
          subst z1 z2
          exact sp_pos (by decide) (sp_some.mpr ⟨(f12.fh s).trans (blame_fh (by omega)), rfl, ri_s _⟩)
        | none =>
          rw [e3] at hz3
          have n3 := nrE_none e3
          obtain ⟨z1, f3, U3, z73⟩ := hz3
          subst z1
          have f13 := f12.trans f3
          have S4 := S.ft f13
          have R4 := f13.rf R
          refine sp_neg (by rw [kc_0, nx_lt (by omega) (by omega)]; omega) ?_
          rw [S4.2.2.2.2.1, c3.1, kc_b_10]
          refine sp_pos (by rw [nx_lt (by omega) (by omega)]; omega) ?_
          rw [rf_s9 R4 S.1, Option.bind_some, ln_s9 S.1, gi_n (by omega), nx_cl (by omega)]
          refine sp_pos (dec_t h1) ?_
          rw [sp_bd, rf_s10 R4.setI S.1, Option.bind_some, ln_s10 S.1, ri_c _ (by omega), S4.2.2.2.2.1, c3.1, gi_n (by omega), nx_cl (by omega)]
          refine sp_pos (dec_t h1) ?_
          rw [sp_bd, rf_s11 R4.setI.setI S.1, Option.bind_some, ln_s11 S.1, ri_c _ (by omega), ri_c _ (by omega), S4.2.2.2.2.1, c3.1, gi_n (by omega), nx_cl (by omega)]
          refine sp_pos (dec_t h1) ?_
          rw [sp_bd, rf_s12 R4.setI.setI.setI S.1, Option.bind_some, ln_s12 S.1, nx_mul, nx_add, gi_n (by omega), nx_cl (by omega)]
          refine sp_pos (dec_t (by omega)) ?_
          rw [sp_bd, sp_bd, ri_c _ (by omega), ri_c _ (by omega), ri_c _ (by omega), ri_c _ (by omega), S4.2.2.2.2.1, c3.1, nx_add, sp_some]
          refine ⟨(((((f13.fh s).set (by omega) (by omega)).set (by omega) (by omega)).set (by omega) (by omega)).set (by omega) (by omega)).set (by omega) (by omega), rfl, S4.mea W h1 (by omega) (by omega) (by omega) m2, U3.hull (funext (fun j => by rw [ri_c _ (by omega), ri_c _ (by omega), ri_c _ (by omega), ri_c _ (by omega), ri_c _ (by omega)])), ?_⟩
          rw [ri_c _ (by omega), ri_c _ (by omega), ri_c _ (by omega), ri_c _ (by omega), ri_c _ (by omega), z73, z72, z7]
      · rw [m2]
        have c0' := c0.2
        refine sp_neg (by show ¬ nI c < 0; rw [kc_0, nx_lt (by omega) (by omega)]; omega) ?_
        rw [U1.2.2.2.1, t_blame_n, Option.bind_some, if_pos (show (some c : Option Nat).isSome = true from rfl)]
        exact sp_pos mi_bo0 (sp_some.mpr ⟨(f12.fh s).trans (blame_fh (by omega)), rfl, ri_s _⟩)
theorem s_ord_n (R : RF h) (C : CT h L B) (U : UNT h B L p1) (S : CSh h s D) (W : WR D) (h0 : 0 < an D 0) (h1 : an D 2 < 8) : SP (s_readOrder s 1 h) (CO h s B L (clOrd B L D p1)) := by
  have hs := hull_ge S.1
  have hL := C.2.1
  have c0 := W.c0
  have c2 := W.c2
  unfold s_readOrder clOrd
  rw [kc_i0, kc_b_99]
  refine sp_call (t_number_n R C U (lo := 0) (hi := 99) (by omega) (by omega)) ?_
  rintro ⟨v, h2⟩ hz
  cases e : nrE B L p1 0 99 with
  | some er =>
    rw [e] at hz
    obtain ⟨z1, z2⟩ := hz
    dsimp only at z1 z2
    subst z1 z2
    dsimp only
    exact sp_pos (by decide) (sp_some.mpr ⟨blame_fh (by omega), rfl, ri_s _⟩)
  | none =>
    rw [e] at hz
    have n := nrE_none e
    obtain ⟨z1, f1, U1, z7⟩ := hz
    dsimp only at z1 f1 U1 z7
    subst z1
    have S1 := S.ft f1
    have R1 := f1.rf R
    have C1 := f1.ct C
    dsimp only
    generalize skp B L (bh B L p1) = p2 at U1 ⊢
    have U1' := U1
    obtain ⟨u1, u2, u3, u4, u5, u6, u7⟩ := U1
    have bg := bh_ge (B := B) u1
    have kl := kd_le (ca B L p2)
    have hB := fun k hk => (C1.2.2 k hk).2
    refine sp_neg (by rw [kc_0, nx_lt (by omega) (by omega)]; omega) ?_
    rw [S1.2.2.2.1, c2.1, kc_b_8]
    refine sp_pos (by rw [nx_lt (by omega) (by omega)]; omega) ?_
    rw [u3]
    by_cases k1 : kd (ca B L p2) = 1
    · rw [if_pos k1]
      refine sp_pos (by rw [k1, kc_i1]) ?_
      rw [u6]
      by_cases sz : bh B L p2 - p2 ≤ 4
      · rw [if_pos sz]
        refine sp_pos (by rw [kc_i4, nx_le (by omega) (by omega)]; exact sz) ?_
        have eb := bh_dig k1
        have dg_ : ∀ i, i < bh B L p2 - p2 → p2 + i < L ∧ 48 ≤ B (p2 + i) ∧ B (p2 + i) ≤ 57 := by
          intro i hi
          rw [eb] at hi
          have := dig_of (of_decide_eq_true (nx_in (c := isKd B 1) u1 (q := p2 + i) (by omega) (by omega)))
          exact ⟨by rw [← eb] at hi; omega, this⟩
        have key : SP (wh (fun z : (Int32 × pm_H) => s_readOrder_64 s 1 (nI (nrV B L p1)) (nI (bh B L p2 - p2)) z.1 z.2) (nI 0, h2)) (fun z => match z with
            | .inl q => ∃ i, orF B D p2 (bh B L p2 - p2) = some i ∧ q.1 = nI i ∧ Fr (· = s + 5) h2 q.2
            | .inr h' => orF B D p2 (bh B L p2 - p2) = none ∧ Fr (· = s + 5) h2 h' ∧ (∀ j, j < an D 2 * 4 → h'.2.1 (s + 5) j = h2.2.1 (s + 5) j) ∧ ∀ i, i < bh B L p2 - p2 → h'.2.1 (s + 5) (an D 2 * 4 + i) = nI (B (p2 + i) - 48)) := by
          refine wh_cnt (fun i z => z.1 = nI i ∧ Fr (· = s + 5) h2 z.2 ∧ (∀ k, k < i → B (p2 + k) - 48 < an D 0) ∧ (∀ j, j < an D 2 * 4 → z.2.2.1 (s + 5) j = h2.2.1 (s + 5) j) ∧ ∀ k, k < i → z.2.2.1 (s + 5) (an D 2 * 4 + k) = nI (B (p2 + k) - 48)) _ (bh B L p2 - p2) ?_ ?_ 0 (nI 0, h2) (by omega) ⟨rfl, Fr.refl _ _, fun k q => by omega, fun j _ => rfl, fun k q => by omega⟩
          · rintro i ⟨y, h3⟩ hi ⟨hy, f3, w3, l3, g3⟩
            dsimp only at hy f3 l3 g3
            subst hy
            have R3 := R1.fr f3
            have C3 : CT h3 L B := ⟨by rw [f3.i _ (by omega)]; exact C1.1, C1.2.1, fun k hk => by rw [f3.i _ (by omega)]; exact C1.2.2 k hk⟩
            have d1 := dg_ i hi
            have ec : cv (B (p2 + i)) = nI (B (p2 + i)) := by unfold cv; rw [if_neg (by omega)]
            unfold s_readOrder_64
            refine sp_neg (by rw [nx_le (by omega) (by omega)]; omega) ?_
            rw [f3.i _ (by omega), u4, nx_add, t_byte_n R3 C3 (by omega), Option.bind_some, ca_lt d1.1, ec, kc_b_48, nx_sub d1.2.1]
            by_cases wq : B (p2 + i) - 48 < an D 0
            · have hw : s_hasWord s (nI (B (p2 + i) - 48)) h3 = some (nI 1) := by
                unfold s_hasWord
                simp (disch := omega) only [kc_im8, kc_im1, kc_i0, kc_i1, kc_i2, kc_i3, kc_i4, kc_i5, kc_b_m100, kc_b_m16, kc_b_m15, kc_b_m14, kc_b_m13, kc_b_m12, kc_b_m11, kc_b_m2, kc_b_6, kc_b_7, kc_b_8, kc_b_9, kc_b_10, kc_b_11, kc_b_12, kc_b_13, kc_b_14, kc_b_15, kc_b_16, kc_b_20, kc_b_24, kc_b_32, kc_b_37, kc_b_40, kc_b_42, kc_b_43, kc_b_45, kc_b_47, kc_b_48, kc_b_57, kc_b_58, kc_b_59, kc_b_60, kc_b_61, kc_b_62, kc_b_63, kc_b_91, kc_b_93, kc_b_97, kc_b_99, kc_b_100, kc_b_106, kc_b_122, kc_s_206, kc_s_226, kc_s_227, kc_s_255, kc_s_256, kc_s_316, kc_s_318, kc_s_400, kc_s_512, kc_s_999, kc_s_1160, kc_s_1536, kc_s_3003, kc_lm11, kc_lm10, kc_lm9, kc_lm8, kc_lm7, kc_lm6, kc_lm5, kc_lm4, kc_lm3, kc_lm2, kc_lm1, kc_l1, kc_l2, kc_l3, kc_l4, kc_l5, kc_l6, kc_l7, kc_l8, kc_l9, kc_l10, kc_l11, kc_l12, kc_l13, kc_l14, kc_l37, kc_l42, kc_l43, kc_l45, kc_l47, kc_l60, kc_l61, kc_l62, kc_l316, kc_l318, kc_l65536, kc_l99999, kc_l1000000, kc_l252645135, kc_l858993459, kc_l1431655765, kc_0, kc_on, f3.i 0 (show ¬ s = s + 5 by omega), S1.2.1, c0.1, nx_lt, nx_le, nx_eq, nx_add, nx_sub, nx_mul, nx_cl, n_lt_ng, n_le_ng, n_eq_ng, ng_lt_n, ng_le_n, ng_eq_n, ng_eq, ng_lt, ng_le, nx_dec]
                rw [if_neg (by omega), if_neg (by omega)]
              rw [hw, Option.bind_some]
              refine sp_pos n10 ?_
              rw [rf_s8 R3 S.1, Option.bind_some, ln_s8 S.1, f3.i _ (by omega), S1.2.2.2.1, c2.1, kc_i4, nx_mul, nx_add, gi_n (by omega), nx_cl (by omega)]
              refine sp_pos (dec_t (by omega)) ?_
              rw [sp_bd, sp_some, kc_i1, nx_add]
              refine ⟨rfl, f3.setI rfl, fun k hk => ?_, fun j hj => ?_, fun k hk => ?_⟩
              · by_cases z : k = i
                · rw [z]; exact wq
                · exact w3 k (by omega)
              · show (pm_setI h3 (s + 5) (an D 2 * 4 + i) _).2.1 (s + 5) j = _
                rw [ri_j _ (by omega)]
                exact l3 j hj
              · show (pm_setI h3 (s + 5) (an D 2 * 4 + i) _).2.1 (s + 5) (an D 2 * 4 + k) = _
                by_cases z : k = i
                · rw [z, ri_s]
                · rw [ri_j _ (by omega)]
                  exact g3 k (by omega)
            · have hw : s_hasWord s (nI (B (p2 + i) - 48)) h3 = some (nI 0) := by
                unfold s_hasWord
                simp (disch := omega) only [kc_im8, kc_im1, kc_i0, kc_i1, kc_i2, kc_i3, kc_i4, kc_i5, kc_b_m100, kc_b_m16, kc_b_m15, kc_b_m14, kc_b_m13, kc_b_m12, kc_b_m11, kc_b_m2, kc_b_6, kc_b_7, kc_b_8, kc_b_9, kc_b_10, kc_b_11, kc_b_12, kc_b_13, kc_b_14, kc_b_15, kc_b_16, kc_b_20, kc_b_24, kc_b_32, kc_b_37, kc_b_40, kc_b_42, kc_b_43, kc_b_45, kc_b_47, kc_b_48, kc_b_57, kc_b_58, kc_b_59, kc_b_60, kc_b_61, kc_b_62, kc_b_63, kc_b_91, kc_b_93, kc_b_97, kc_b_99, kc_b_100, kc_b_106, kc_b_122, kc_s_206, kc_s_226, kc_s_227, kc_s_255, kc_s_256, kc_s_316, kc_s_318, kc_s_400, kc_s_512, kc_s_999, kc_s_1160, kc_s_1536, kc_s_3003, kc_lm11, kc_lm10, kc_lm9, kc_lm8, kc_lm7, kc_lm6, kc_lm5, kc_lm4, kc_lm3, kc_lm2, kc_lm1, kc_l1, kc_l2, kc_l3, kc_l4, kc_l5, kc_l6, kc_l7, kc_l8, kc_l9, kc_l10, kc_l11, kc_l12, kc_l13, kc_l14, kc_l37, kc_l42, kc_l43, kc_l45, kc_l47, kc_l60, kc_l61, kc_l62, kc_l316, kc_l318, kc_l65536, kc_l99999, kc_l1000000, kc_l252645135, kc_l858993459, kc_l1431655765, kc_0, kc_on, f3.i 0 (show ¬ s = s + 5 by omega), S1.2.1, c0.1, nx_lt, nx_le, nx_eq, nx_add, nx_sub, nx_mul, nx_cl, n_lt_ng, n_le_ng, n_eq_ng, ng_lt_n, ng_le_n, ng_eq_n, ng_eq, ng_lt, ng_le, nx_dec]
                rw [if_neg (by omega), if_pos (by omega)]
              rw [hw, Option.bind_some]
              refine sp_neg (fun z => z rfl) (sp_some.mpr ⟨i, ?_, rfl, f3⟩)
              unfold orF
              rw [List.find?_range_eq_some]
              exact ⟨by rw [dec_f wq]; rfl, List.mem_range.mpr hi, fun j hj => by rw [dec_t (w3 j hj)]; rfl⟩
          · rintro ⟨y, h3⟩ ⟨hy, f3, w3, l3, g3⟩
            dsimp only at hy f3 l3 g3
            subst hy
            unfold s_readOrder_64
            refine sp_pos (by rw [nx_le (by omega) (by omega)]; omega) (sp_some.mpr ⟨?_, f3, l3, g3⟩)
            exact find_all.mpr (fun k hk => by rw [dec_t (w3 k hk)]; rfl)
        refine sp_call key ?_
        rintro (⟨y, h3⟩ | h3) hq
        · obtain ⟨i, ei, hy, f3⟩ := hq
          dsimp only at hy f3
          subst hy
          rw [ei]
          dsimp only
          have fh3 : FH s h2 h3 := ⟨f3.mono (fun c hc => .inr (by omega)), by rw [f3.i _ (by omega)]⟩
          rw [f3.i _ (by omega), u4, nx_add, kc_i1, t_blame_n, Option.bind_some]
          exact sp_pos mi_bo0 (sp_some.mpr ⟨((f1.fh s).trans fh3).trans (blame_fh (by omega)), rfl, ri_s _⟩)
        · obtain ⟨ei, f3, l3, g3⟩ := hq
          rw [ei]
          dsimp only
          have fh3 : FH s h2 h3 := ⟨f3.mono (fun c hc => .inr (by omega)), by rw [f3.i _ (by omega)]⟩
          have R3 := R1.fr f3
          have C3 := fh3.ct (by omega) C1
          have bp : 0 < bh B L p2 - p2 := by
            have pL : p2 < L := by
              apply Classical.byContradiction
              intro q2
              unfold ca at k1
              rw [if_neg q2] at k1
              exact absurd k1 (by decide)
            have z : isKd B 1 p2 = true := by
              rw [ca_lt pL] at k1
              exact decide_eq_true k1
            rw [bh_dig k1, nx_t pL z]
            have := (nx_ge (c := isKd B 1) (L := L) (p := p2 + 1) (by omega)).1
            omega
          rw [rf_s6 R3 S.1, Option.bind_some, ln_s6 S.1, f3.i _ (by omega), S1.2.2.2.1, c2.1, gi_n (by omega), nx_cl (by omega)]
          refine sp_pos (dec_t h1) ?_
          rw [sp_bd, rf_s7 R3.setI S.1, Option.bind_some, ln_s7 S.1, ri_c _ (by omega), f3.i _ (by omega), S1.2.2.2.1, c2.1, gi_n (by omega), nx_cl (by omega)]
          refine sp_pos (dec_t h1) ?_
          rw [sp_bd, sp_bd, ri_c _ (by omega), ri_c _ (by omega), f3.i _ (by omega), S1.2.2.2.1, c2.1, kc_i1, nx_add]
          have So := S1.ord (n := nrV B L p1) (k := bh B L p2 - p2) (g := fun i => B (p2 + i) - 48) W h1 sz f3 l3 g3
          have fo : FH s h2 (pm_setI (pm_setI (pm_setI h3 (s + 3) (an D 2) (nI (nrV B L p1))) (s + 4) (an D 2) (nI (bh B L p2 - p2))) s 2 (nI (an D 2 + 1))) := ((fh3.set (by omega) (by omega)).set (by omega) (by omega)).set (by omega) (by omega)
          have e1 : ∀ j, (pm_setI (pm_setI (pm_setI h3 (s + 3) (an D 2) (nI (nrV B L p1))) (s + 4) (an D 2) (nI (bh B L p2 - p2))) s 2 (nI (an D 2 + 1))).2.1 1 j = h2.2.1 1 j := fun j => by rw [ri_c _ (by omega), ri_c _ (by omega), ri_c _ (by omega), f3.i _ (by omega)]
          generalize pm_setI (pm_setI (pm_setI h3 (s + 3) (an D 2) (nI (nrV B L p1))) (s + 4) (an D 2) (nI (bh B L p2 - p2))) s 2 (nI (an D 2 + 1)) = h4 at So fo e1 ⊢
          refine sp_call (t_advance_sp (fo.rf R1) (fo.ct (by omega) C1) (b := bh B L p2) (by rw [e1]; exact u5) bg.2) ?_
          rintro h5 ⟨f5, U5, z5⟩
          refine sp_some.mpr ⟨((f1.fh s).trans fo).trans (f5.fh s), rfl, So.ft f5, U5, ?_⟩
          rw [z5, e1, z7]
      · rw [if_neg sz]
        refine sp_neg (by rw [kc_i4, nx_le (by omega) (by omega)]; exact sz) ?_
        rw [u4, kc_i1, t_blame_n, Option.bind_some]
        exact sp_pos mi_bo0 (sp_some.mpr ⟨(f1.fh s).trans (blame_fh (by omega)), rfl, ri_s _⟩)
    · rw [if_neg k1]
      refine sp_neg (by rw [kc_i1, nx_eq (by omega) (by omega)]; exact k1) ?_
      rw [u4, t_blame_n, Option.bind_some]
      exact sp_pos mi_bo0 (sp_some.mpr ⟨(f1.fh s).trans (blame_fh (by omega)), rfl, ri_s _⟩)
end CLS
