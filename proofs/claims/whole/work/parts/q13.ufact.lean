/-! A rule's text: facts and tests, read by the program. -/
section UFA
variable {h h0 : pm_H} {u n0 L : Nat} {B : Nat → Nat} {c : List Int32}
theorem u_closing_n {p : Nat} (R : RF h) (C : CT h L B) (U : UNT h B L p) : SP (u_readClosing 1 h) (fun z => if ca B L p = 93 then z.1 = nI 1 ∧ FT h z.2 ∧ UNT z.2 B L (skp B L (bh B L p)) else z.1 = nI 0 ∧ z.2 = pm_setI h 1 7 (nI (1 + 8 * p))) := by
  have hB := fun k hk => (C.2.2 k hk).2
  have nl : nbr B L p < 2147483648 := by have := nbr_lt (B := B) (L := L) (p := p) (fun k hk => (C.2.2 k hk).2) U.1; omega
  unfold u_readClosing
  rw [kc_b_93, t_isSign_n U (by omega) nl, Option.bind_some]
  by_cases q : ca B L p = 93
  · refine SP.mono (?_ : SP _ (fun z => z.1 = nI 1 ∧ FT h z.2 ∧ UNT z.2 B L (skp B L (bh B L p)))) (fun z hz => by rw [if_pos q]; exact hz)
    rw [decide_eq_true ((sign_at (by omega) (by omega) (by omega) (by decide)).mpr q)]
    refine sp_pos n10 ?_
    refine sp_call (t_advance_sp R C U.2.2.2.2.1 (bh_ge (B := B) U.1).2) ?_
    rintro h1 ⟨f1, U1, _⟩
    exact sp_some.mpr ⟨by rw [kc_i1], f1, U1⟩
  · refine SP.mono (?_ : SP _ (fun z => z.1 = nI 0 ∧ z.2 = pm_setI h 1 7 (nI (1 + 8 * p)))) (fun z hz => by rw [if_neg q]; exact hz)
    rw [decide_eq_false (fun z => q ((sign_at (by omega) (by omega) (by omega) (by decide)).mp z))]
    refine sp_neg (fun z => z rfl) ?_
    rw [U.2.2.2.1, kc_i0, t_blame_n, Option.bind_some]
    exact sp_pos mi_bo0 (sp_some.mpr ⟨rfl, rfl⟩)
theorem u_rd_n (hu : mi_o u 6 = true) : ∀ (n : Nat) (b : Bool) (D k : Nat) (l : List Nat) (p : Nat) (ts : List Bool) (h : pm_H), RF h → CT h L B → UNT h B L p → US h u k (c ++ l.map tkc) → k ≤ 60 → GT n0 ts k l → c.length + l.length ≤ p + 12 → D ≤ 10 → 2 * (11 - D) ≤ n + (if b = true then 0 else 1) → SP (u_rt n b u 1 (nI D) h) (UO h u B L c (rdP B L n b D k l p))
  | 0, b, D, k, l, p, ts, h, R, C, U, S, hk, G, hb, hD, hn => by
    exfalso
    split at hn <;> omega
  | n + 1, true, D, k, l, p, ts, h, R, C, U, S, hk, G, hb, hD, hn => by
    have hn' : 2 * (11 - D) ≤ n + 1 + 0 := hn
    show SP (u_readTest (u_rt n) u 1 (nI D) h) _
    unfold u_readTest
    refine sp_call (u_rd_n hu n false D k l p ts h R C U S hk G hb hD (by show 2 * (11 - D) ≤ n + 1; omega)) ?_
    rintro ⟨v, h1⟩ ⟨f1, hz⟩
    dsimp only at f1 hz ⊢
    rw [kc_i0]
    cases ev : rdP B L n false D k l p with
    | inl e =>
      rw [ev] at hz
      obtain ⟨y1, y2, y3⟩ := hz
      subst y1
      rw [rdP, ev]
      exact sp_call (u_tst_fail (G := u_rt n) (v2 := nI D) (B := B) (L := L) (c := c) (f1.rf R) hu f1 y2 y3 _ _) (fun q hq => hq)
    | inr y =>
      rw [ev] at hz
      obtain ⟨y1, y2, y3⟩ := hz
      obtain ⟨o1, o2, o3, o4, o5, o6, G1⟩ := rdP_ok n false D k l p y ts ev U.1 U.2.1 hk G
      subst y1
      rw [rdP, ev]
      exact sp_call (u_tstW (G := u_rt n) (v2 := nI D) (F := rdP B L n false D) (n0 := n0) hu (fun k l p y ts => rdP_ok n false D k l p y ts) (fun k l p ts h R C U S hk G hb => u_rd_n hu n false D k l p ts h R C U S hk G hb hD (by show 2 * (11 - D) ≤ n + 1; omega)) 400 0 false y.1 y.2.1 y.2.2 ts h1 rfl (f1.rf R) (f1.ct hu C) f1 y3 y2 o5 G1 (by show c.length + y.2.1.length + 0 ≤ _; omega)) (fun q hq => hq)
  | n + 1, false, D, k, l, p, ts, h, R, C, U, S, hk, G, hb, hD, hn => by
    have hn' : 2 * (11 - D) ≤ n + 1 + 1 := hn
    have hL := C.2.1
    have nl : nbr B L p < 2147483648 := by have := nbr_lt (B := B) (L := L) (p := p) (fun k hk => (C.2.2 k hk).2) U.1; omega
    have u1 := U.1
    have bg := bh_ge (B := B) u1
    have sg := skp_ge (B := B) bg.2
    show SP (u_readFact (u_rt n) u 1 (nI D) h) _
    unfold u_readFact
    rw [kc_b_91, t_isWord_n R C U tx11.1 tx11.2.1 tx11.2.2.1 tx11.2.2.2, Option.bind_some, t_isSign_n U (by omega) nl, Option.bind_some, rdP]
    have sa : (kd (ca B L p) = 3 ∧ nbr B L p = 91) ↔ ca B L p = 91 := sign_at (by omega) (by omega) (by omega) (by decide)
    have dsa : decide (kd (ca B L p) = 3 ∧ nbr B L p = 91) = decide (ca B L p = 91) := decide_eq_decide.mpr sa
    rw [dsa]
    -- too deep
    have deep : ∀ x1 x2, ¬ D < 10 → SP (u_readFact_24 (u_rt n) u 1 (nI D) x1 x2 h) (UO h u B L c (.inl (1 + 8 * p + 2))) := by
      intro x1 x2 q
      unfold u_readFact_24
      refine sp_neg (by rw [kc_b_10, nx_lt (by omega) (by omega)]; exact q) ?_
      rw [U.2.2.2.1, kc_i2, t_blame_n, Option.bind_some]
      exact sp_pos mi_bo0 (sp_some.mpr (u_blame_n hu S.any))
    cases en : isW B L p wNot with
    | true =>
      rw [if_pos rfl]
      refine sp_pos n10 ?_
      by_cases q : D < 10
      · rw [if_pos q]
        unfold u_readFact_24
        refine sp_pos (by rw [kc_b_10, nx_lt (by omega) (by omega)]; exact q) ?_
        unfold u_readFact_40
        refine sp_neg n10 ?_
        refine sp_call (t_advance_sp R C U.2.2.2.2.1 bg.2) ?_
        rintro h1 ⟨f1, U1, _⟩
        obtain ⟨b1, b2, b3, b4⟩ := word_bh u1 en
        rw [kc_i1, nx_add]
        refine sp_call (u_rd_n hu n false (D + 1) k l _ ts h1 (f1.rf R) (f1.ct C) U1 (f1.us hu S) hk G (by omega) (by omega) (by show 2 * (11 - (D + 1)) ≤ n + 1; omega)) ?_
        rintro ⟨v, h2⟩ ⟨f2, hz⟩
        dsimp only at f2 hz ⊢
        have f02 := (f1.fv u).trans f2
        have R2 := f2.rf (f1.rf R)
        cases ev : rdP B L n false (D + 1) k l (skp B L (bh B L p)) with
        | inl e =>
          rw [ev] at hz
          obtain ⟨y1, y2, m, m1, m2⟩ := hz
          subst y1
          refine sp_call (u_step_any R2 hu m1 m2) ?_
          rintro h3 ⟨f3, hn3, e3⟩
          exact sp_pos mi_bo0 (sp_some.mpr ⟨f02.trans f3, rfl, by rw [e3]; exact y2, hn3⟩)
        | inr y =>
          rw [ev] at hz
          obtain ⟨y1, S2, U2⟩ := hz
          obtain ⟨o1, o2, o3, o4, o5, o6, G1⟩ := rdP_ok n false (D + 1) k l _ y ts ev b3 b4 hk G
          subst y1
          have e : (Int8.ofInt (-12)).toInt32 = tkc 11 := by decide +kernel
          rw [e]
          refine sp_call (u_step_n R2 hu S2 (by rw [List.length_append, List.length_map]; omega)) ?_
          rintro h3 ⟨f3, S3, e3⟩
          refine sp_pos mi_bo1 (sp_some.mpr ⟨f02.trans f3, rfl, ?_, U2.of e3⟩)
          show US h3 u y.1 (c ++ (y.2.1 ++ [11]).map tkc)
          rw [List.map_append, ← List.append_assoc]
          exact S3
      · rw [if_neg q]
        exact deep _ _ q
    | false =>
      rw [if_neg (show ¬ (false = true) by decide)]
      refine sp_neg (fun z => z rfl) ?_
      by_cases e91 : ca B L p = 91
      · rw [if_pos e91, decide_eq_true e91]
        refine sp_neg n10 ?_
        by_cases q : D < 10
        · rw [if_pos q]
          unfold u_readFact_24
          refine sp_pos (by rw [kc_b_10, nx_lt (by omega) (by omega)]; exact q) ?_
          unfold u_readFact_40
          refine sp_pos rfl (sp_neg n10 ?_)
          refine sp_call (t_advance_sp R C U.2.2.2.2.1 bg.2) ?_
          rintro h1 ⟨f1, U1, _⟩
          have gt := bh_gt u1 (show ca B L p ≠ 256 by omega)
          rw [kc_i1, nx_add]
          refine sp_call (u_rd_n hu n true (D + 1) k l _ ts h1 (f1.rf R) (f1.ct C) U1 (f1.us hu S) hk G (by omega) (by omega) (by show 2 * (11 - (D + 1)) ≤ n + 0; omega)) ?_
          rintro ⟨v, h2⟩ ⟨f2, hz⟩
          dsimp only at f2 hz ⊢
          have f02 := (f1.fv u).trans f2
          have R2 := f2.rf (f1.rf R)
          have C2 := f2.ct hu (f1.ct C)
          cases ev : rdP B L n true (D + 1) k l (skp B L (bh B L p)) with
          | inl e =>
            rw [ev] at hz
            obtain ⟨y1, y2, y3⟩ := hz
            subst y1
            exact sp_pos rfl (sp_some.mpr ⟨f02, by rw [kc_i0], y2, y3⟩)
          | inr y =>
            rw [ev] at hz
            obtain ⟨y1, S2, U2⟩ := hz
            subst y1
            refine sp_neg n10 ?_
            refine sp_call (u_closing_n R2 C2 U2) ?_
            rintro ⟨v, h3⟩ hq
            dsimp only at hq ⊢
            by_cases e93 : ca B L y.2.2 = 93
            · rw [if_pos e93] at hq
              obtain ⟨y1, f3, U3⟩ := hq
              subst y1
              rw [if_pos e93]
              exact sp_neg n10 (sp_some.mpr ⟨f02.trans (f3.fv u), rfl, f3.us hu S2, U3⟩)
            · rw [if_neg e93] at hq
              obtain ⟨y1, y2⟩ := hq
              subst y1 y2
              rw [if_neg e93]
              have g := (u_blame_n (B := B) (L := L) (c := c) (e := 1 + 8 * y.2.2) hu S2.any).of f02
              exact sp_pos rfl (sp_some.mpr ⟨g.1, by rw [kc_i0], g.2.2.1, g.2.2.2⟩)
        · rw [if_neg q]
          exact deep _ _ q
      · rw [if_neg e91, decide_eq_false e91]
        refine sp_pos rfl ?_
        exact u_cmp_n _ _ R C hu U S hk G hb
end UFA
