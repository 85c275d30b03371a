/-! A rule's text: tests, read by the program. -/
theorem tx11 : tx_ok 11 = true ∧ tx_l 11 = wNot.map nI ∧ (∀ x ∈ wNot, x < 256) ∧ wNot.length < 1000 := by decide +kernel
theorem tx13 : tx_ok 13 = true ∧ tx_l 13 = wAnd.map nI ∧ (∀ x ∈ wAnd, x < 256) ∧ wAnd.length < 1000 := by decide +kernel
theorem tx15 : tx_ok 15 = true ∧ tx_l 15 = wOrw.map nI ∧ (∀ x ∈ wOrw, x < 256) ∧ wOrw.length < 1000 := by decide +kernel
abbrev RDG := Bool → Nat → Nat → Int32 → pm_H → Option (Int32 × pm_H)
def TS (G : RDG) (h0 : pm_H) (u : Nat) (B : Nat → Nat) (L : Nat) (c : List Int32) (o : RDO) (q : (Int32 × Int32 × pm_H) ⊕ (Int32 × Int32 × pm_H)) : Prop := SP (match q with | (.inl y) => u_readTest_110 G u y.1 y.2.1 y.2.2 | (.inr y) => u_readTest_110 G u y.1 y.2.1 y.2.2) (UO h0 u B L c o)
def TSQ (G : RDG) (v2 : Int32) (h0 : pm_H) (u : Nat) (B : Nat → Nat) (L : Nat) (c : List Int32) (o : RDO) (q : (Int32 × Int32 × Int32 × pm_H) ⊕ (Int32 × Int32 × pm_H) ⊕ (Int32 × Int32 × pm_H)) : Prop := match q with
  | .inl s' => SP (wh (fun s : (Int32 × Int32 × Int32 × pm_H) => u_readTest_13 G u 1 v2 s.1 s.2.1 s.2.2.1 s.2.2.2) s') (TS G h0 u B L c o)
  | .inr r => TS G h0 u B L c o r
section UTE
variable {h h0 : pm_H} {u n0 L : Nat} {B : Nat → Nat} {c : List Int32} {G : RDG} {v2 : Int32} {F : Nat → List Nat → Nat → RDO}
theorem u_tst_end {k p : Nat} {l : List Nat} {w : Bool} (R : RF h) (C : CT h L B) (hu : mi_o u 6 = true) (U : UNT h B L p) (S : US h u k (c ++ l.map tkc)) (hb : c.length + l.length + w.toNat ≤ p + 12) : SP (u_readTest_110 G u (nI w.toNat) (nI 1) h) (UO h u B L c (.inr (k, finO w l, p))) := by
  have hL := C.2.1
  have u1 := U.1
  unfold u_readTest_110
  cases w with
  | false => exact sp_pos rfl (sp_pos mi_bo1 (sp_some.mpr ⟨FV.refl u h, rfl, S, U⟩))
  | true =>
    have hb' : c.length + l.length + 1 ≤ p + 12 := hb
    refine sp_neg n10 ?_
    have e : (Int8.ofInt (-14)).toInt32 = tkc 13 := by decide +kernel
    rw [e]
    refine sp_call (u_step_n R hu S (by rw [List.length_append, List.length_map]; omega)) ?_
    rintro h1 ⟨f1, S1, e1⟩
    refine sp_pos mi_bo1 (sp_some.mpr ⟨f1, rfl, ?_, U.of e1⟩)
    show US h1 u k (c ++ (l ++ [13]).map tkc)
    rw [List.map_append, ← List.append_assoc]
    exact S1
theorem u_tst_fail (R : RF h) (hu : mi_o u 6 = true) (f : FV u h0 h) {e : Nat} (e7 : h.2.1 1 7 = nI e) (hn : ∃ n, n ≤ 412 ∧ h.2.1 u 1 = nI n) (v x : Int32) : SP (wh (fun s : (Int32 × Int32 × Int32 × pm_H) => u_readTest_13 G u 1 v2 s.1 s.2.1 s.2.2.1 s.2.2.2) (v, nI 0, x, h)) (TS G h0 u B L c (.inl e)) := by
  have : wh (fun s : (Int32 × Int32 × Int32 × pm_H) => u_readTest_13 G u 1 v2 s.1 s.2.1 s.2.2.1 s.2.2.2) (v, nI 0, x, h) = some (.inr (v, nI 0, h)) := by
    refine wh_inr ?_
    unfold u_readTest_13
    exact if_pos rfl
  rw [this]
  refine sp_some.mpr ?_
  show SP (u_readTest_110 G u v (nI 0) h) _
  unfold u_readTest_110
  by_cases q : v = 0
  · exact sp_pos q (sp_pos mi_bo0 (sp_some.mpr ⟨f, rfl, e7, hn⟩))
  · refine sp_neg q ?_
    obtain ⟨n, n1, n2⟩ := hn
    refine sp_call (u_step_any R hu n1 n2) ?_
    rintro h1 ⟨f1, hn1, e1⟩
    exact sp_pos mi_bo0 (sp_some.mpr ⟨f.trans f1, rfl, by rw [e1]; exact e7, hn1⟩)
theorem u_tstW (hu : mi_o u 6 = true) (hF : ∀ k l p y ts, F k l p = .inr y → p ≤ L → ca B L p ≠ 32 → k ≤ 60 → GT n0 ts k l → RK B L n0 k l p (true :: ts) y)
    (hG : ∀ k l p ts h, RF h → CT h L B → UNT h B L p → US h u k (c ++ l.map tkc) → k ≤ 60 → GT n0 ts k l → c.length + l.length ≤ p + 12 → SP (G false u 1 v2 h) (UO h u B L c (F k l p))) :
    ∀ (f i : Nat) (w : Bool) (k : Nat) (l : List Nat) (p : Nat) (ts : List Bool) (h : pm_H), f + i = 400 → RF h → CT h L B → FV u h0 h → UNT h B L p → US h u k (c ++ l.map tkc) → k ≤ 60 → GT n0 (tso w ts) k l → c.length + l.length + w.toNat ≤ p + 12 → SP (wh (fun s : (Int32 × Int32 × Int32 × pm_H) => u_readTest_13 G u 1 v2 s.1 s.2.1 s.2.2.1 s.2.2.2) (nI w.toNat, nI 1, nI i, h)) (TS G h0 u B L c (tstL B L F f w k l p))
  | 0, i, w, k, l, p, ts, h, hi, R, C, f0, U, S, hk, T, hb => by
    have : wh (fun s : (Int32 × Int32 × Int32 × pm_H) => u_readTest_13 G u 1 v2 s.1 s.2.1 s.2.2.1 s.2.2.2) (nI w.toNat, nI 1, nI i, h) = some (.inr (nI w.toNat, nI 1, h)) := by
      refine wh_inr ?_
      unfold u_readTest_13
      refine (if_neg n10).trans (if_pos ?_)
      rw [kc_s_400, nx_le (by omega) (by omega)]
      omega
    rw [this]
    exact sp_some.mpr ((u_tst_end R C hu U S hb).mono (fun z hz => hz.of f0))
  | f + 1, i, w, k, l, p, ts, h, hi, R, C, f0, U, S, hk, T, hb => by
    have hL := C.2.1
    have hv := rule_ge hu
    have u1 := U.1
    have len : (c ++ l.map tkc).length = c.length + l.length := by rw [List.length_append, List.length_map]
    -- a word that joins and the fact behind it
    have go : ∀ (j : Bool) (w1 : Bool) (l1 : List Nat) (h1 : pm_H) (o : RDO), FV u h0 h1 → RF h1 → CT h1 L B → UNT h1 B L p → US h1 u k (c ++ l1.map tkc) → p < bh B L p → GT n0 (if j = true then tso w1 ts else true :: ts) k l1 → (j = false → w1 = true) → c.length + l1.length + w1.toNat + j.toNat ≤ p + 13 → o = (match F k l1 (skp B L (bh B L p)) with | .inl e => .inl e | .inr y => tstL B L F f w1 y.1 (if j = true then y.2.1 ++ [12] else y.2.1) y.2.2) → SP (u_readTest_80 G u 1 v2 (nI i) (nI j.toNat) (nI w1.toNat) h1) (TSQ G v2 h0 u B L c o) := by
      intro j w1 l1 h1 o f1 R1 C1 U1 S1 gt T1 hj hb1 ho
      have bg := bh_ge (B := B) u1
      have sg := skp_ge (B := B) bg.2
      unfold u_readTest_80
      refine sp_call (t_advance_sp R1 C1 U1.2.2.2.2.1 bg.2) ?_
      rintro h2 ⟨f2, U2, _⟩
      have f02 := f1.trans (f2.fv u)
      refine sp_call (hG k l1 _ _ h2 (f2.rf R1) (f2.ct C1) U2 (f2.us hu S1) hk T1 (by omega)) ?_
      rintro ⟨v, h3⟩ ⟨f3, hz⟩
      dsimp only at f3 hz ⊢
      have f03 := f02.trans f3
      have R3 := f3.rf (f2.rf R1)
      have C3 := f3.ct hu (f2.ct C1)
      rw [kc_i1, nx_add]
      cases ev : F k l1 (skp B L (bh B L p)) with
      | inl e =>
        rw [ev] at hz ho
        dsimp only at ho
        obtain ⟨y1, y2, y3⟩ := hz
        subst y1 ho
        cases j with
        | false => exact sp_pos rfl (sp_some.mpr (u_tst_fail R3 hu f03 y2 y3 _ _))
        | true =>
          refine sp_neg n10 ?_
          obtain ⟨n, n1, n2⟩ := y3
          refine sp_call (u_step_any R3 hu n1 n2) ?_
          rintro h4 ⟨f4, hn4, e4⟩
          exact sp_some.mpr (u_tst_fail (f4.rf R3) hu (f03.trans f4) (by rw [e4]; exact y2) hn4 _ _)
      | inr y =>
        rw [ev] at hz ho
        dsimp only at ho
        obtain ⟨y1, y2, y3⟩ := hz
        obtain ⟨o1, o2, o3, o4, o5, o6, G1⟩ := hF _ _ _ _ _ ev sg.2 (skp_ca bg.2) hk T1
        subst y1 ho
        cases j with
        | false =>
          refine sp_pos rfl (sp_some.mpr ?_)
          have hw := hj rfl
          subst hw
          have hb1' : c.length + l1.length + 1 + 0 ≤ p + 13 := hb1
          exact u_tstW hu hF hG f (i + 1) true y.1 y.2.1 y.2.2 ts h3 (by omega) R3 C3 f03 y3 y2 o5 G1 (by show c.length + y.2.1.length + 1 ≤ _; omega)
        | true =>
          refine sp_neg n10 ?_
          have hb1' : c.length + l1.length + w1.toNat + 1 ≤ p + 13 := hb1
          have e : (Int8.ofInt (-13)).toInt32 = tkc 12 := by decide +kernel
          rw [e]
          refine sp_call (u_step_n R3 hu y2 (by rw [List.length_append, List.length_map]; omega)) ?_
          rintro h4 ⟨f4, S4, e4⟩
          refine sp_some.mpr ?_
          rw [if_pos rfl]
          have G2 : GT n0 (tso w1 ts) y.1 (y.2.1 ++ [12]) := by
            cases w1 with
            | false => exact GT.fact G1 (.inl rfl)
            | true => exact GT.fact G1 (.inl rfl)
          refine u_tstW hu hF hG f (i + 1) w1 y.1 (y.2.1 ++ [12]) y.2.2 ts h4 (by omega) (f4.rf R3) (f4.ct hu C3) (f03.trans f4) (y3.of e4) ?_ o5 G2 ?_
          · rw [List.map_append, ← List.append_assoc]
            exact S4
          · rw [List.length_append]
            show c.length + (y.2.1.length + 1) + w1.toNat ≤ _
            omega
    suffices hs : SP (u_readTest_13 G u 1 v2 (nI w.toNat) (nI 1) (nI i) h) (TSQ G v2 h0 u B L c (tstL B L F (f + 1) w k l p)) from wh_step (hs.mono (by rintro (q | q) hq <;> exact hq))
    unfold u_readTest_13
    refine sp_neg n10 (sp_neg (by rw [kc_s_400, nx_le (by omega) (by omega)]; omega) ?_)
    rw [t_isWord_n R C U tx13.1 tx13.2.1 tx13.2.2.1 tx13.2.2.2, Option.bind_some]
    cases ea : isW B L p wAnd with
    | true =>
      obtain ⟨b1, _⟩ := word_bh u1 ea
      refine sp_pos n10 ?_
      have g := go true w l h _ f0 R C U S b1 T (fun z => by cases z) (by show c.length + l.length + w.toNat + 1 ≤ _; omega) (show tstL B L F (f + 1) w k l p = _ by
        rw [tstL, if_pos ea]
        cases F k l (skp B L (bh B L p)) <;> rfl)
      unfold u_readTest_51
      refine sp_pos n10 ?_
      unfold u_readTest_66
      cases w with
      | false => exact sp_neg (fun z => z rfl) (sp_pos n10 (by rw [kc_i0]; exact g))
      | true => exact sp_pos n10 (by unfold u_readTest_75; rw [kc_i1]; exact g)
    | false =>
      refine sp_neg (fun z => z rfl) ?_
      rw [t_isWord_n R C U tx15.1 tx15.2.1 tx15.2.2.1 tx15.2.2.2, Option.bind_some]
      cases eo : isW B L p wOrw with
      | true =>
        obtain ⟨b1, _⟩ := word_bh u1 eo
        refine sp_pos n10 ?_
        have fl := finO_len w l
        have g : ∀ h1, FV u h0 h1 → RF h1 → CT h1 L B → UNT h1 B L p → US h1 u k (c ++ (finO w l).map tkc) → SP (u_readTest_80 G u 1 v2 (nI i) (nI false.toNat) (Int32.ofInt 1) h1) (TSQ G v2 h0 u B L c (tstL B L F (f + 1) w k l p)) := by
          intro h1 f1 R1 C1 U1 S1
          rw [kc_i1]
          exact go false true (finO w l) h1 _ f1 R1 C1 U1 S1 b1 T.finO (fun _ => rfl) (by show c.length + (finO w l).length + 1 + 0 ≤ _; omega) (show tstL B L F (f + 1) w k l p = _ by
            rw [tstL, ea, if_neg (by decide), if_pos eo]
            cases F k (finO w l) (skp B L (bh B L p)) <;> rfl)
        unfold u_readTest_51
        refine sp_neg (fun z => z rfl) ?_
        cases w with
        | false =>
          refine sp_pos rfl ?_
          unfold u_readTest_66
          exact sp_neg (fun z => z rfl) (sp_neg (fun z => z rfl) (g h f0 R C U S))
        | true =>
          refine sp_neg n10 ?_
          have e : (Int8.ofInt (-14)).toInt32 = tkc 13 := by decide +kernel
          have hb' : c.length + l.length + 1 ≤ p + 12 := hb
          rw [e]
          refine sp_call (u_step_n R hu S (by rw [len]; omega)) ?_
          rintro h1 ⟨f1, S1, e1⟩
          unfold u_readTest_66
          refine sp_pos n10 (g h1 (f0.trans f1) (f1.rf R) (f1.ct hu C) (U.of e1) ?_)
          show US h1 u k (c ++ (l ++ [13]).map tkc)
          rw [List.map_append, ← List.append_assoc]
          exact S1
      | false =>
        refine sp_neg (fun z => z rfl) (sp_some.mpr ?_)
        have es2 : tstL B L F (f + 1) w k l p = .inr (k, finO w l, p) := by
          rw [tstL, ea, eo, if_neg (by decide), if_neg (by decide)]
        rw [es2]
        exact (u_tst_end R C hu U S hb).mono (fun z hz => hz.of f0)
end UTE
