/-! A rule's text: read by the program. -/
abbrev R7 := pm_H ⊕ pm_H ⊕ pm_H ⊕ pm_H ⊕ pm_H ⊕ pm_H ⊕ pm_H
noncomputable def uTail (q4 : R7) : Option (Int32 × pm_H) := (match q4 with | (.inl eq4_0) => (t_blame 1 (eq4_0.2.1 1 3) (Int32.ofInt 0) eq4_0).bind fun q5 => if mi_bo q5.1 = true then some (q5.1, q5.2) else none | (.inr (.inl eq4_1)) => (t_blame 1 (eq4_1.2.1 1 3) (Int32.ofInt 4) eq4_1).bind fun q7 => if mi_bo q7.1 = true then some (q7.1, q7.2) else none | (.inr (.inr (.inl eq4_2))) => some ((Int32.ofInt 0), eq4_2) | (.inr (.inr (.inr (.inl eq4_3)))) => some ((Int32.ofInt 0), eq4_3) | (.inr (.inr (.inr (.inr (.inl eq4_4))))) => some ((Int32.ofInt 1), eq4_4) | (.inr (.inr (.inr (.inr (.inr (.inl eq4_5)))))) => (t_blame 1 (eq4_5.2.1 1 3) (Int32.ofInt 0) eq4_5).bind fun q9 => if mi_bo q9.1 = true then some (q9.1, q9.2) else none | (.inr (.inr (.inr (.inr (.inr (.inr eq4_6)))))) => some ((Int32.ofInt 0), eq4_6))
def UF (h0 : pm_H) (u : Nat) (o : Nat ⊕ List (List Nat × Option (List Nat))) (q : R7) : Prop := SP (uTail q) (fun z => FV u h0 z.2 ∧ (match o with
  | .inl e => z.1 = nI 0 ∧ z.2.2.1 1 7 = nI e
  | .inr cls => z.1 = nI 1 ∧ RC z.2 u cls))
def UG (h0 : pm_H) (u : Nat) (o : Nat ⊕ List (List Nat × Option (List Nat))) (q : (Int32 × pm_H) ⊕ R7) : Prop := match q with
  | .inl s' => SP (wh (fun s : (Int32 × pm_H) => u_read_16 u 1 s.1 s.2) s') (UF h0 u o)
  | .inr r => UF h0 u o r
section URD
variable {h h0 : pm_H} {u L : Nat} {B : Nat → Nat}
theorem cods_app (a b : List (List Nat × Option (List Nat))) : cods (a ++ b) = cods a ++ cods b := by
  induction a with
  | nil => rfl
  | cons x a ih => show cod x ++ cods (a ++ b) = cod x ++ cods a ++ cods b; rw [ih, List.append_assoc]
theorem cods_one (x : List Nat × Option (List Nat)) : cods [x] = cod x := List.append_nil _
theorem cod_len (x : List Nat × Option (List Nat)) : (cod x).length = x.1.length + (teL x).length + 1 := by
  obtain ⟨a, b⟩ := x
  cases b with
  | none => unfold cod teL; simp
  | some l => unfold cod teL; simp; omega
theorem u_readW (hu : mi_o u 6 = true) : ∀ (f ln k : Nat) (cls : List (List Nat × Option (List Nat))) (p : Nat) (h : pm_H), f + ln = 13 → ln ≤ 12 → RF h → CT h L B → FV u h0 h → UNT h B L p → US h u k (cods cls) → k ≤ 60 → (cods cls).length ≤ p → SP (wh (fun s : (Int32 × pm_H) => u_read_16 u 1 s.1 s.2) (nI ln, h)) (UF h0 u (rulP B L f ln k cls p))
  | 0, ln, k, cls, p, h, hf, hl, R, C, f0, U, S, hk, hb => by omega
  | f + 1, ln, k, cls, p, h, hf, hl, R, C, f0, U, S, hk, hb => by
    have hL := C.2.1
    have hv := rule_ge hu
    have u1 := U.1
    have bl : ∀ (h1 : pm_H) (p1 j : Nat), FV u h0 h1 → FV u h0 (pm_setI h1 1 7 (nI (1 + 8 * p1 + j))) := fun h1 p1 j f1 => f1.trans ⟨(Fr.refl _ h1).setI (.inl rfl), by rw [ri_j _ (by omega)]⟩
    suffices hs : SP (u_read_16 u 1 (nI ln) h) (UG h0 u (rulP B L (f + 1) ln k cls p)) from wh_step (hs.mono (by rintro (q | q) hq <;> exact hq))
    unfold u_read_16
    rw [kc_b_12]
    refine sp_neg (by rw [nx_lt (by omega) (by omega)]; omega) ?_
    rw [t_isWord_n R C U tx5.1 tx5.2.1 tx5.2.2.1 tx5.2.2.2, Option.bind_some]
    cases ew : isW B L p wWake with
    | false =>
      refine sp_neg (fun z => z rfl) (sp_some.mpr ?_)
      have e : rulP B L (f + 1) ln k cls p = .inl (1 + 8 * p) := by rw [rulP, ew, if_neg (by decide)]
      rw [e]
      show SP ((t_blame 1 (h.2.1 1 3) (Int32.ofInt 0) h).bind (fun q5 => if mi_bo q5.1 = true then some (q5.1, q5.2) else none)) _
      rw [U.2.2.2.1, kc_i0, t_blame_n, Option.bind_some]
      exact sp_pos mi_bo0 (sp_some.mpr ⟨bl h p 0 f0, rfl, ri_s _⟩)
    | true =>
      refine sp_pos n10 ?_
      by_cases q : ln < 12
      · refine sp_pos (by rw [nx_lt (by omega) (by omega)]; exact q) ?_
        obtain ⟨b1, b2, b3, b4⟩ := word_bh u1 ew
        refine sp_call (t_advance_sp R C U.2.2.2.2.1 (bh_ge (B := B) u1).2) ?_
        rintro h1 ⟨f1, U1, _⟩
        have f01 := f0.trans (f1.fv u)
        have R1 := f1.rf R
        have C1 := f1.ct C
        have S1 : US h1 u k (cods cls ++ ([] : List Nat).map tkc) := by
          show US h1 u k (cods cls ++ [])
          rw [List.append_nil]
          exact f1.us hu S
        refine sp_call (u_sum_n R1 C1 hu U1 S1 hk (by show (cods cls).length + 0 ≤ _; omega)) ?_
        rintro ⟨v, h2⟩ ⟨f2, hz⟩
        dsimp only at f2 hz ⊢
        have f02 := f01.trans f2
        have R2 := f2.rf R1
        have C2 := f2.ct hu C1
        -- the end of a clause
        have last : ∀ (x : List Nat × Option (List Nat)) (y3 : Nat) (h4 : pm_H) (p4 : Nat) (c4 : List Int32) (z0 : Int32), cluP B L k (skp B L (bh B L p)) = .inr (y3, x, p4) → FV u h0 h4 → RF h4 → CT h4 L B → UNT h4 B L p4 → US h4 u y3 c4 → c4 ++ [z0] = cods cls ++ cod x → SP (u_read_109 u 1 (nI ln) z0 u h4) (UG h0 u (rulP B L (f + 1) ln k cls p)) := by
          intro x y3 h4 p4 c4 z0 ex f4 R4 C4 U4 S4 ec
          obtain ⟨g1, g2, g3, g4, g5, g6⟩ := cluP_ok ex b3 b4 hk
          dsimp only at g1 g2 g3 g4 g5 g6
          have cl := cod_len x
          have cl2 : c4.length + 1 = (cods cls).length + (cod x).length := by
            have := congrArg List.length ec
            rw [List.length_append, List.length_append] at this
            exact this
          have ec' : c4 ++ [z0] = cods (cls ++ [x]) := by rw [ec, cods_app, cods_one]
          unfold u_read_109
          refine sp_call (u_step_n R4 hu S4 (by omega)) ?_
          rintro h5 ⟨f5, S5, e5⟩
          have U5 := U4.of e5
          have R5 := f5.rf R4
          have C5 := f5.ct hu C4
          have f05 := f4.trans f5
          rw [ec'] at S5
          have kl := kd_le (ca B L p4)
          have hB := fun k hk => (C5.2.2 k hk).2
          have er : rulP B L (f + 1) ln k cls p = (if ca B L p4 = 256 then .inr (cls ++ [x]) else if ca B L p4 = 59 then rulP B L f (ln + 1) y3 (cls ++ [x]) (skp B L (bh B L p4)) else .inl (1 + 8 * p4)) := by
            rw [rulP, if_pos ew, if_pos q, ex]
          rw [er, U5.2.2.1]
          have k0 : kd (ca B L p4) = 0 ↔ ca B L p4 = 256 := by
            unfold kd
            constructor
            · intro z
              apply Classical.byContradiction
              intro y
              rw [if_neg y] at z
              split at z
              · omega
              · split at z <;> omega
            · intro z
              rw [if_pos z]
          by_cases z256 : ca B L p4 = 256
          · rw [if_pos z256]
            refine sp_neg (fun y => y (by rw [k0.mpr z256]; rfl)) (sp_some.mpr ?_)
            exact sp_some.mpr ⟨f05, by rw [kc_i1], S5.2.1, S5.2.2.1, S5.2.2.2⟩
          · rw [if_neg z256]
            refine sp_pos (by rw [kc_0, nx_eq (by omega) (by omega)]; exact fun y => z256 (k0.mp y)) ?_
            have nl : nbr B L p4 < 2147483648 := by have := nbr_lt (B := B) (L := L) (p := p4) hB g4; omega
            rw [kc_b_59, t_isSign_n U5 (by omega) nl, Option.bind_some]
            have sa : (kd (ca B L p4) = 3 ∧ nbr B L p4 = 59) ↔ ca B L p4 = 59 := sign_at (by omega) (by omega) (by omega) (by decide)
            rw [decide_eq_decide.mpr sa]
            by_cases z59 : ca B L p4 = 59
            · rw [if_pos z59, decide_eq_true z59]
              refine sp_pos n10 ?_
              have gt := bh_gt g4 (show ca B L p4 ≠ 256 by omega)
              have bg := bh_ge (B := B) g4
              have sg := skp_ge (B := B) bg.2
              refine sp_call (t_advance_sp R5 C5 U5.2.2.2.2.1 bg.2) ?_
              rintro h6 ⟨f6, U6, _⟩
              refine sp_some.mpr ?_
              rw [kc_i1, nx_add]
              have ln2 : (cods (cls ++ [x])).length = (cods cls).length + (cod x).length := by rw [cods_app, cods_one, List.length_append]
              exact u_readW hu f (ln + 1) y3 (cls ++ [x]) _ h6 (by omega) (by omega) (f6.rf R5) (f6.ct C5) (f05.trans (f6.fv u)) U6 (f6.us hu S5) g6 (by omega)
            · rw [if_neg z59, decide_eq_false z59]
              refine sp_neg (fun y => y rfl) (sp_some.mpr ?_)
              show SP ((t_blame 1 (h5.2.1 1 3) (Int32.ofInt 0) h5).bind (fun q5 => if mi_bo q5.1 = true then some (q5.1, q5.2) else none)) _
              rw [U5.2.2.2.1, kc_i0, t_blame_n, Option.bind_some]
              exact sp_pos mi_bo0 (sp_some.mpr ⟨bl h5 p4 0 f05, rfl, ri_s _⟩)
        cases ev : sumP B L k [] (skp B L (bh B L p)) with
        | inl e =>
          rw [ev] at hz
          obtain ⟨y1, y2, y3⟩ := hz
          subst y1
          refine sp_neg (fun z => z rfl) (sp_some.mpr ?_)
          have er : rulP B L (f + 1) ln k cls p = .inl e := by rw [rulP, if_pos ew, if_pos q, cluP, ev]
          rw [er]
          exact sp_some.mpr ⟨f02, by rw [kc_i0], y2⟩
        | inr y =>
          rw [ev] at hz
          obtain ⟨y1, S2, U2⟩ := hz
          obtain ⟨o1, o2, o3, o4, o5, o6, G1⟩ := sumP_ok (n0 := 0) ev b3 (GT.nil (Nat.zero_le k))
          have o1' : y.2.1.length + skp B L (bh B L p) ≤ 0 + y.2.2 := o1
          subst y1
          refine sp_pos n10 ?_
          rw [t_isWord_n R2 C2 U2 tx9.1 tx9.2.1 tx9.2.2.1 tx9.2.2.2, Option.bind_some]
          cases ei : isW B L y.2.2 wIf with
          | false =>
            refine sp_pos rfl ?_
            unfold u_read_97
            refine sp_pos rfl ?_
            rw [kc_b_m15]
            refine last (y.2.1, none) y.1 h2 y.2.2 _ (ng 15) ?_ f02 R2 C2 U2 S2 ?_
            · rw [cluP, ev]
              show (if isW B L y.2.2 wIf = true then _ else _) = _
              rw [ei, if_neg (by decide)]
            · unfold cod
              rw [List.append_assoc]
          | true =>
            refine sp_neg n10 ?_
            obtain ⟨d1, d2, d3, d4⟩ := word_bh o3 ei
            refine sp_call (t_advance_sp R2 C2 U2.2.2.2.2.1 (bh_ge (B := B) o3).2) ?_
            rintro h3 ⟨f3, U3, _⟩
            have S3 : US h3 u y.1 (cods cls ++ y.2.1.map tkc ++ ([] : List Nat).map tkc) := by
              show US h3 u y.1 (cods cls ++ y.2.1.map tkc ++ [])
              rw [List.append_nil]
              exact f3.us hu S2
            rw [kc_i0]
            refine sp_call (u_rd_n (n0 := 0) hu 30 true 0 y.1 [] _ [] h3 (f3.rf R2) (f3.ct C2) U3 S3 o5 (GT.nil (Nat.zero_le _)) (by rw [List.length_append, List.length_map]; show (cods cls).length + y.2.1.length + 0 ≤ _; omega) (by omega) (by decide)) ?_
            rintro ⟨v, h4⟩ ⟨f4, hz⟩
            dsimp only at f4 hz ⊢
            have f04 := (f02.trans (f3.fv u)).trans f4
            have R4 := f4.rf (f3.rf R2)
            have C4 := f4.ct hu (f3.ct C2)
            cases eg : rdP B L 30 true 0 y.1 [] (skp B L (bh B L y.2.2)) with
            | inl e =>
              rw [eg] at hz
              obtain ⟨y1, y2, y3⟩ := hz
              subst y1
              refine sp_neg (fun z => z rfl) (sp_some.mpr ?_)
              have er : rulP B L (f + 1) ln k cls p = .inl e := by
                have : cluP B L k (skp B L (bh B L p)) = .inl e := by
                  rw [cluP, ev]
                  show (if isW B L y.2.2 wIf = true then _ else _) = _
                  rw [if_pos ei, eg]
                rw [rulP, if_pos ew, if_pos q, this]
              rw [er]
              exact sp_some.mpr ⟨f04, by rw [kc_i0], y2⟩
            | inr z =>
              rw [eg] at hz
              obtain ⟨y1, S4, U4⟩ := hz
              subst y1
              refine sp_pos n10 ?_
              unfold u_read_97
              refine sp_neg n10 ?_
              rw [kc_b_m16]
              refine last (y.2.1, some z.2.1) z.1 h4 z.2.2 _ (ng 16) ?_ f04 R4 C4 U4 S4 ?_
              · rw [cluP, ev]
                show (if isW B L y.2.2 wIf = true then _ else _) = _
                rw [if_pos ei, eg]
              · unfold cod
                rw [List.append_assoc, List.append_assoc]
      · refine sp_neg (by rw [nx_lt (by omega) (by omega)]; exact q) (sp_some.mpr ?_)
        have e : rulP B L (f + 1) ln k cls p = .inl (1 + 8 * p + 4) := by rw [rulP, if_pos ew, if_neg q]
        rw [e]
        show SP ((t_blame 1 (h.2.1 1 3) (Int32.ofInt 4) h).bind (fun q5 => if mi_bo q5.1 = true then some (q5.1, q5.2) else none)) _
        rw [U.2.2.2.1, kc_i4, t_blame_n, Option.bind_some]
        exact sp_pos mi_bo0 (sp_some.mpr ⟨bl h p 4 f0, rfl, ri_s _⟩)
end URD
