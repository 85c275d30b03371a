/-! A ship's text: its clauses, read by the reference. -/
def FY (h h' : pm_H) : Prop := FrM (· = 199) (fun j => j = 8 ∨ j = 9 ∨ j = 10) h h'
section MCL
variable {h : pm_H} {L p q : Nat} {B : Nat → Nat} {D : Nat → Int32}
theorem FX.fy {h' : pm_H} (f : FX h h') : FY h h' := f.mono (fun _ q => q.elim) (fun j hj => by omega)
theorem FY.mt {h' : pm_H} (f : FY h h') (C : MT h L B) : MT h' L B := ⟨by rw [f.f (by omega)]; exact C.1, C.2.1, fun k hk => by rw [f.i (by omega) (by omega)]; exact C.2.2 k hk⟩
theorem set199 {h : pm_H} {D : Nat → Int32} (e : h.2.1 199 = D) (j : Nat) (v : Int32) : (pm_setI h 199 j v).2.1 199 = upA D j v := by
  funext i
  unfold upA
  by_cases z : i = j
  · rw [if_pos z, z, ri_s]
  · rw [if_neg z, ri_j _ z, e]
/-- what the reference has at the end of a clause -/
def MO (h : pm_H) (B : Nat → Nat) (L : Nat) (o : CLO) (z : Int32 × pm_H) : Prop := FY h z.2 ∧ (match o with
  | .inl e => z.1 = nI 0 ∧ z.2.2.1 193 9 = nI e
  | .inr r => z.1 = nI 1 ∧ z.2.2.1 193 9 = nI 0 ∧ z.2.2.1 199 = r.2 ∧ ∃ q', z.2.2.1 193 8 = nI q' ∧ q' ≤ L ∧ skp B L q' = r.1)
theorem m_cell_n (R : RF h) (C : MT h L B) (e199 : h.2.1 199 = D) (e8 : h.2.1 193 8 = nI q) (hq : q ≤ L) (e9 : h.2.1 193 9 = nI 0) (ep : skp B L q = p) {cell lo hi : Nat} (hc : cell < 206) (hlo : lo < 2147483648) (hhi : hi < 2147483647) : SP (m_cellHere 193 (nI cell) (nI lo) (nI hi) h) (fun z => FY h z.2 ∧ (match nrE B L p lo hi with
    | some e => z.1 = nI 0 ∧ z.2.2.1 193 9 = nI e
    | none => z.1 = nI 1 ∧ z.2.2.1 193 9 = nI 0 ∧ z.2.2.1 199 = upA D cell (nI (nrV B L p)) ∧ z.2.2.1 193 8 = nI (bh B L p))) := by
  unfold m_cellHere
  refine sp_call (m_number_n R C e8 hq e9 ep hlo hhi) ?_
  rintro ⟨v, h1⟩ ⟨f1, hz⟩
  dsimp only at f1
  cases e : nrE B L p lo hi with
  | some er =>
    rw [e] at hz
    obtain ⟨z1, z2⟩ := hz
    dsimp only at z1 z2
    subst z1
    exact sp_neg (fun z => z rfl) (sp_some.mpr ⟨f1.fy, kc_i0, z2⟩)
  | none =>
    rw [e] at hz
    obtain ⟨z1, z2, z3, z4⟩ := hz
    dsimp only at z1 z2 z3 z4
    subst z1
    refine sp_pos n10 ?_
    dsimp only
    rw [ra_193_7 (R.fm f1), Option.bind_some, mn_199, gi_n (by omega), nx_cl (by omega), z3]
    refine sp_pos (dec_t hc) ?_
    rw [sp_bd, sp_some]
    refine ⟨f1.fy.setI (by omega) rfl, kc_i1, by rw [ri_c _ (by omega)]; exact z4, set199 (by rw [f1.i (by omega) id]; exact e199) _ _, by rw [ri_c _ (by omega)]; exact z2⟩
theorem m_passw (R : RF h) (C : MT h L B) (e8 : h.2.1 193 8 = nI p) (hp : p ≤ L) (k2 : kd (ca B L p) = 2) : m_passWord 193 h = some (pm_setI h 193 8 (nI (bh B L p))) := by
  rw [m_pass_n R C e8 hp, bh_let k2]
theorem m_shipH (R : RF h) (C : MT h L B) (e199 : h.2.1 199 = D) (e8 : h.2.1 193 8 = nI p) (hp : p ≤ L) (e9 : h.2.1 193 9 = nI 0) (k2 : kd (ca B L p) = 2) (W : WR D) : SP (m_isShipHere 193 (nI p) h) (MO h B L (if an D 0 = 0 then clShip B L D (skp B L (bh B L p)) else .inl (1 + 8 * p + 4))) := by
  have c0 := W.c0
  have bg := bh_ge (B := B) hp
  have hL := C.2.1
  unfold m_isShipHere
  rw [ra_193_7 R, Option.bind_some, mn_199, kc_i0, gi_n (by omega), nx_cl (by omega), e199, c0.1]
  refine sp_pos (dec_t (by omega)) ?_
  by_cases z : an D 0 = 0
  · rw [if_pos z]
    refine sp_pos (by rw [kc_0, nx_le (by omega) (by omega)]; omega) ?_
    rw [m_passw R C e8 hp k2, Option.bind_some, kc_i1, kc_b_10]
    have f1 := fx8 h (nI (bh B L p))
    have a199 : (pm_setI h 193 8 (nI (bh B L p))).2.1 199 = D := by rw [f1.i (by omega) id]; exact e199
    refine sp_call (m_cell_n (R.fm f1) (f1.mt C) a199 (ri_s _) bg.2 (by rw [ri_j _ (by omega)]; exact e9) rfl (cell := 0) (lo := 1) (hi := 10) (by omega) (by omega) (by omega)) ?_
    rintro ⟨v, h2⟩ ⟨f2, hz⟩
    dsimp only at f2
    unfold clShip
    have p1 := skp_ge (B := B) bg.2
    have b1 := bh_ge (B := B) p1.2
    cases e : nrE B L (skp B L (bh B L p)) 1 10 with
    | some er =>
      rw [e] at hz
      obtain ⟨z1, z2⟩ := hz
      dsimp only at z1 z2
      subst z1
      exact sp_pos mi_bo0 (sp_some.mpr ⟨f1.fy.trans f2, rfl, z2⟩)
    | none =>
      rw [e] at hz
      obtain ⟨z1, z2, z3, z4⟩ := hz
      dsimp only at z1 z2 z3 z4
      subst z1
      exact sp_pos mi_bo1 (sp_some.mpr ⟨f1.fy.trans f2, rfl, z2, z3, _, z4, b1.2, rfl⟩)
  · rw [if_neg z]
    refine sp_neg (by rw [kc_0, nx_le (by omega) (by omega)]; omega) ?_
    rw [kc_i4, m_fails_n e9, Option.bind_some]
    exact sp_pos mi_bo0 (sp_some.mpr ⟨(FrM.refl _ _ h).setF (by omega), rfl, ri_s _⟩)
theorem m_manH (R : RF h) (C : MT h L B) (e199 : h.2.1 199 = D) (e8 : h.2.1 193 8 = nI p) (hp : p ≤ L) (e9 : h.2.1 193 9 = nI 0) (k2 : kd (ca B L p) = 2) (W : WR D) (h0 : 0 < an D 0) : SP (m_isManHere 193 (nI p) h) (MO h B L (if an D 1 = 8 then .inl (1 + 8 * p + 4) else clMan B L D (skp B L (bh B L p)))) := by
  have c0 := W.c0
  have c1 := W.c1
  have bg := bh_ge (B := B) hp
  have hL := C.2.1
  unfold m_isManHere
  rw [ra_193_7 R, Option.bind_some, mn_199, kc_i0, kc_i1, kc_i2, kc_i3, kc_i4, kc_b_6, kc_b_8, kc_b_10, gi_n (by omega), nx_cl (by omega), e199, c1.1]
  refine sp_pos (dec_t (by omega)) ?_
  by_cases z : an D 1 = 8
  · rw [if_pos z]
    refine sp_neg (by rw [z]; exact fun q => q rfl) ?_
    rw [m_fails_n e9, Option.bind_some]
    exact sp_pos mi_bo0 (sp_some.mpr ⟨(FrM.refl _ _ h).setF (by omega), rfl, ri_s _⟩)
  · rw [if_neg z]
    refine sp_pos (by rw [nx_eq (by omega) (by omega)]; exact z) ?_
    rw [m_passw R C e8 hp k2, Option.bind_some]
    have f1 := fx8 h (nI (bh B L p))
    have a8 : (pm_setI h 193 8 (nI (bh B L p))).2.1 193 8 = nI (bh B L p) := ri_s _
    have a9 : (pm_setI h 193 8 (nI (bh B L p))).2.1 193 9 = nI 0 := by rw [ri_j _ (by omega)]; exact e9
    have a199 : (pm_setI h 193 8 (nI (bh B L p))).2.1 199 = D := by rw [f1.i (by omega) id]; exact e199
    generalize pm_setI h 193 8 (nI (bh B L p)) = h1 at f1 a8 a9 a199 ⊢
    have R1 := R.fm f1
    have C1 := f1.mt C
    rw [ra_193_7 R1, Option.bind_some, mn_199, gi_n (by omega), a199, c1.1]
    refine sp_pos (dec_t (by omega)) ?_
    rw [Option.bind_some, mn_199, gi_n (by omega), nx_cl (by omega), a199, c0.1, nx_mul, nx_add, nx_sub (by omega)]
    refine sp_pos (dec_t (by omega)) ?_
    refine sp_call (m_cell_n R1 C1 a199 a8 bg.2 a9 rfl (cell := 10 + 6 * an D 1) (lo := 0) (hi := an D 0 - 1) (by omega) (by omega) (by omega)) ?_
    rintro ⟨v, h2⟩ ⟨f2, hz⟩
    dsimp only at f2 ⊢
    unfold clMan
    have p1 := skp_ge (B := B) bg.2
    have b1 := bh_ge (B := B) p1.2
    have p2 := skp_ge (B := B) b1.2
    have b2 := bh_ge (B := B) p2.2
    cases e : nrE B L (skp B L (bh B L p)) 0 (an D 0 - 1) with
    | some er =>
      rw [e] at hz
      obtain ⟨z1, z2⟩ := hz
      dsimp only at z1 z2
      subst z1
      exact sp_pos rfl (sp_some.mpr ⟨f1.fy.trans f2, rfl, z2⟩)
    | none =>
      rw [e] at hz
      obtain ⟨z1, z2, z3, z4⟩ := hz
      dsimp only at z1 z2 z3 z4
      subst z1
      refine sp_neg n10 ?_
      rw [nx_add]
      refine sp_call (m_cell_n (R1.fm f2) (f2.mt C1) z3 z4 b1.2 z2 rfl (cell := 10 + 6 * an D 1 + 1) (lo := 0) (hi := 2) (by omega) (by omega) (by omega)) ?_
      rintro ⟨v2, h3⟩ ⟨f3, hz2⟩
      dsimp only at f3 ⊢
      cases e2 : nrE B L (skp B L (bh B L (skp B L (bh B L p)))) 0 2 with
      | some er =>
        rw [e2] at hz2
        obtain ⟨y1, y2⟩ := hz2
        dsimp only at y1 y2
        subst y1
        exact sp_neg (fun z => z rfl) (sp_some.mpr ⟨(f1.fy.trans f2).trans f3, rfl, y2⟩)
      | none =>
        rw [e2] at hz2
        obtain ⟨y1, y2, y3, y4⟩ := hz2
        dsimp only at y1 y2 y3 y4
        subst y1
        have f13 := (f1.fy.trans f2).trans f3
        have R3 := R.fm f13
        refine sp_pos n10 ?_
        rw [ra_193_7 R3, Option.bind_some, nx_add, mn_199, gi_n (by omega), nx_cl (by omega)]
        refine sp_pos (dec_t (by omega)) ?_
        rw [sp_bd]
        have g4 : ∀ j, (pm_setI h3 199 (10 + 6 * an D 1 + 2) (nI 1)).2.1 199 j = if j = 10 + 6 * an D 1 + 2 then nI 1 else if j = 10 + 6 * an D 1 + 1 then nI (nrV B L (skp B L (bh B L (skp B L (bh B L p))))) else if j = 10 + 6 * an D 1 then nI (nrV B L (skp B L (bh B L p))) else D j := by
          intro j
          by_cases w1 : j = 10 + 6 * an D 1 + 2
          · rw [if_pos w1, w1, ri_s]
          · rw [if_neg w1, ri_j _ w1, y3]
            unfold upA
            rfl
        have f4 : FY h3 (pm_setI h3 199 (10 + 6 * an D 1 + 2) (nI 1)) := (FrM.refl _ _ h3).setI (by omega) rfl
        have a48 : (pm_setI h3 199 (10 + 6 * an D 1 + 2) (nI 1)).2.1 193 8 = h3.2.1 193 8 := by rw [ri_c _ (by omega)]
        have a49 : (pm_setI h3 199 (10 + 6 * an D 1 + 2) (nI 1)).2.1 193 9 = h3.2.1 193 9 := by rw [ri_c _ (by omega)]
        generalize pm_setI h3 199 (10 + 6 * an D 1 + 2) (nI 1) = h4 at g4 f4 a48 a49 ⊢
        have key : SP (wh (fun z : (Int32 × pm_H) => m_isManHere_77 193 (nI (10 + 6 * an D 1)) z.1 z.2) (nI 3, h4)) (fun h' => FrM (· = 199) (fun _ => False) h4 h' ∧ ∀ j, h'.2.1 199 j = if 10 + 6 * an D 1 + 3 ≤ j ∧ j < 10 + 6 * an D 1 + 6 then nI 0 else h4.2.1 199 j) := by
          refine wh_cnt (fun i z => z.1 = nI i ∧ 3 ≤ i ∧ FrM (· = 199) (fun _ => False) h4 z.2 ∧ ∀ j, z.2.2.1 199 j = if 10 + 6 * an D 1 + 3 ≤ j ∧ j < 10 + 6 * an D 1 + i then nI 0 else h4.2.1 199 j) _ 6 ?_ ?_ 3 (nI 3, h4) (by omega) ⟨rfl, Nat.le_refl _, FrM.refl _ _ _, fun j => by rw [if_neg (by omega)]⟩
          · rintro i ⟨y, h5⟩ hi ⟨hy, i3, f5, g5⟩
            dsimp only at hy f5 g5
            subst hy
            unfold m_isManHere_77
            refine sp_neg (by rw [kc_b_6, nx_le (by omega) (by omega)]; omega) ?_
            rw [ra_193_7 ((R3.fm f4).fm f5), Option.bind_some, nx_add, mn_199, gi_n (by omega), nx_cl (by omega)]
            refine sp_pos (dec_t (by omega)) ?_
            rw [sp_bd, sp_some, kc_i1, nx_add, kc_i0]
            refine ⟨rfl, by omega, f5.setI (by omega) rfl, fun j => ?_⟩
            show (pm_setI h5 199 (10 + 6 * an D 1 + i) (nI 0)).2.1 199 j = _
            by_cases w1 : j = 10 + 6 * an D 1 + i
            · rw [w1, ri_s, if_pos (by omega)]
            · rw [ri_j _ w1, g5]
              by_cases w2 : 10 + 6 * an D 1 + 3 ≤ j ∧ j < 10 + 6 * an D 1 + i
              · rw [if_pos w2, if_pos (by omega)]
              · rw [if_neg w2, if_neg (by omega)]
          · rintro ⟨y, h5⟩ ⟨hy, i3, f5, g5⟩
            dsimp only at hy f5 g5
            subst hy
            unfold m_isManHere_77
            exact sp_pos (by rw [kc_b_6, nx_le (by omega) (by omega)]; omega) (sp_some.mpr ⟨f5, g5⟩)
        refine sp_call key ?_
        rintro h5 ⟨f5, g5⟩
        have f5' : FY h4 h5 := f5.mono (fun _ q => q) (fun _ q => q.elim)
        have e1 : h5.2.1 199 1 = nI (an D 1) := by
          rw [g5, if_neg (by omega), g4, if_neg (by omega), if_neg (by omega), if_neg (by omega)]
          exact c1.1
        rw [ra_193_7 ((R3.fm f4).fm f5), Option.bind_some, mn_199, gi_n (by omega), e1, nx_add]
        refine sp_pos (dec_t (by omega)) (sp_pos (dec_t (by omega)) ?_)
        rw [sp_bd, sp_some]
        refine ⟨((f13.trans f4).trans f5').setI (by omega) rfl, rfl, ?_, ?_, bh B L (skp B L (bh B L (skp B L (bh B L p)))), ?_, b2.2, rfl⟩
        · rw [ri_c _ (by omega), f5.f id, a49]; exact y2
        · funext j
          show (pm_setI h5 199 1 (nI (an D 1 + 1))).2.1 199 j = rdMan D _ _ j
          unfold rdMan
          by_cases w0 : j = 1
          · rw [w0, ri_s, if_neg (by omega), if_neg (by omega), if_neg (by omega), if_neg (by omega), if_pos rfl]
          · rw [ri_j _ w0, g5, g4]
            by_cases w1 : j = 10 + 6 * an D 1
            · rw [if_neg (by omega), if_neg (by omega), if_neg (by omega), if_pos w1, if_pos w1]
            · rw [if_neg w1, if_neg w1]
              by_cases w2 : j = 10 + 6 * an D 1 + 1
              · rw [if_neg (by omega), if_neg (by omega), if_pos w2, if_pos w2]
              · rw [if_neg w2, if_neg w2]
                by_cases w3 : j = 10 + 6 * an D 1 + 2
                · rw [if_neg (by omega), if_pos w3, if_pos w3]
                · rw [if_neg w3, if_neg w3]
                  by_cases w4 : 10 + 6 * an D 1 + 3 ≤ j ∧ j < 10 + 6 * an D 1 + 6
                  · rw [if_pos w4, if_pos w4]
                  · rw [if_neg w4, if_neg w4, if_neg w0]
        · rw [ri_c _ (by omega), f5.f id, a48]; exact y4
theorem m_meaH (R : RF h) (C : MT h L B) (e199 : h.2.1 199 = D) (e8 : h.2.1 193 8 = nI p) (hp : p ≤ L) (e9 : h.2.1 193 9 = nI 0) (k2 : kd (ca B L p) = 2) (W : WR D) (h0 : 0 < an D 0) : SP (m_isMeaningHere 193 (nI p) h) (MO h B L (if an D 3 = 10 then .inl (1 + 8 * p + 4) else clMea B L D (skp B L (bh B L p)))) := by
  have c0 := W.c0
  have c3 := W.c3
  have bg := bh_ge (B := B) hp
  have hL := C.2.1
  unfold m_isMeaningHere
  rw [ra_193_7 R, Option.bind_some, mn_199, kc_i0, kc_i1, kc_i3, kc_i4, kc_b_10, kc_b_106, gi_n (by omega), nx_cl (by omega), e199, c3.1]
  refine sp_pos (dec_t (by omega)) ?_
  by_cases z : an D 3 = 10
  · rw [if_pos z]
    refine sp_neg (by rw [z]; exact fun q => q rfl) ?_
    rw [m_fails_n e9, Option.bind_some]
    exact sp_pos mi_bo0 (sp_some.mpr ⟨(FrM.refl _ _ h).setF (by omega), rfl, ri_s _⟩)
  · rw [if_neg z]
    refine sp_pos (by rw [nx_eq (by omega) (by omega)]; exact z) ?_
    rw [m_passw R C e8 hp k2, Option.bind_some]
    have f1 := fx8 h (nI (bh B L p))
    have a8 : (pm_setI h 193 8 (nI (bh B L p))).2.1 193 8 = nI (bh B L p) := ri_s _
    have a9 : (pm_setI h 193 8 (nI (bh B L p))).2.1 193 9 = nI 0 := by rw [ri_j _ (by omega)]; exact e9
    have a199 : (pm_setI h 193 8 (nI (bh B L p))).2.1 199 = D := by rw [f1.i (by omega) id]; exact e199
    generalize pm_setI h 193 8 (nI (bh B L p)) = h1 at f1 a8 a9 a199 ⊢
    have R1 := R.fm f1
    have C1 := f1.mt C
    have p1 := skp_ge (B := B) bg.2
    have b1 := bh_ge (B := B) p1.2
    have p2 := skp_ge (B := B) b1.2
    have b2 := bh_ge (B := B) p2.2
    have p3 := skp_ge (B := B) b2.2
    have b3 := bh_ge (B := B) p3.2
    rw [ra_193_7 R1, Option.bind_some, mn_199, gi_n (by omega), nx_cl (by omega), a199, c0.1, nx_sub (by omega)]
    refine sp_pos (dec_t (by omega)) ?_
    refine sp_call (m_number_n R1 C1 a8 bg.2 a9 rfl (lo := 0) (hi := an D 0 - 1) (by omega) (by omega)) ?_
    rintro ⟨v, h2⟩ ⟨f2, hz⟩
    dsimp only at f2 ⊢
    unfold clMea
    cases e : nrE B L (skp B L (bh B L p)) 0 (an D 0 - 1) with
    | some er =>
      rw [e] at hz
      obtain ⟨z1, z2⟩ := hz
      dsimp only at z1 z2
      subst z1
      exact sp_neg (fun z => z rfl) (sp_some.mpr ⟨FX.fy (f1.trans f2), rfl, z2⟩)
    | none =>
      rw [e] at hz
      have n1 := nrE_none e
      obtain ⟨z1, z2, z3, z4⟩ := hz
      dsimp only at z1 z2 z3 z4
      subst z1
      have R2 := R1.fm f2
      have C2 := f2.mt C1
      refine sp_pos n10 ?_
      rw [m_see_n R2 C2 z2 b1.2, Option.bind_some]
      dsimp only
      have f3 := fx8 h2 (nI (skp B L (bh B L (skp B L (bh B L p)))))
      have g8 : (pm_setI h2 193 8 (nI (skp B L (bh B L (skp B L (bh B L p)))))).2.1 193 8 = nI (skp B L (bh B L (skp B L (bh B L p)))) := ri_s _
      have g9 : (pm_setI h2 193 8 (nI (skp B L (bh B L (skp B L (bh B L p)))))).2.1 193 9 = nI 0 := by rw [ri_j _ (by omega)]; exact z4
      have g199 : (pm_setI h2 193 8 (nI (skp B L (bh B L (skp B L (bh B L p)))))).2.1 199 = D := by rw [f3.i (by omega) id, f2.i (by omega) id]; exact a199
      generalize pm_setI h2 193 8 (nI (skp B L (bh B L (skp B L (bh B L p))))) = h3 at f3 g8 g9 g199 ⊢
      have R3 := R2.fm f3
      have C3 := f3.mt C2
      have sid : skp B L (skp B L (bh B L (skp B L (bh B L p)))) = skp B L (bh B L (skp B L (bh B L p))) := skp_id (skp_ca b1.2)
      rw [ra_193_7 R3, Option.bind_some, mn_199, gi_n (by omega), g199, c0.1, nx_sub (by omega)]
      refine sp_pos (dec_t (by omega)) ?_
      refine sp_call (m_number_n R3 C3 g8 p2.2 g9 sid (lo := 0) (hi := an D 0 - 1) (by omega) (by omega)) ?_
      rintro ⟨v2, h4⟩ ⟨f4, hz2⟩
      dsimp only at f4 ⊢
      have f14 : FX h h4 := ((f1.trans f2).trans f3).trans f4
      cases e2 : nrE B L (skp B L (bh B L (skp B L (bh B L p)))) 0 (an D 0 - 1) with
      | some er =>
        rw [e2] at hz2
        obtain ⟨y1, y2⟩ := hz2
        dsimp only at y1 y2
        subst y1
        exact sp_neg (fun z => z rfl) (sp_some.mpr ⟨f14.fy, rfl, y2⟩)
      | none =>
        rw [e2] at hz2
        have n2 := nrE_none e2
        obtain ⟨y1, y2, y3, y4⟩ := hz2
        dsimp only at y1 y2 y3 y4
        subst y1
        have R4 := R3.fm f4
        have C4 := f4.mt C3
        have d199 : h4.2.1 199 = D := by rw [f4.i (by omega) id]; exact g199
        refine sp_pos n10 ?_
        rw [ra_193_7 R4, Option.bind_some, z3, y3, nx_mul, nx_add, nx_add, mn_199, gi_n (by omega), nx_cl (by omega), d199]
        refine sp_pos (dec_t (by omega)) ?_
        rcases W.mn (a := nrV B L (skp B L (bh B L p))) (b := nrV B L (skp B L (bh B L (skp B L (bh B L p))))) (by omega) (by omega) with ⟨m1, m2⟩ | ⟨c, m1, m3, m2⟩
        · rw [m1, m2, if_neg (show ¬ ((none : Option Nat).isSome = true) by decide)]
          refine sp_pos (by decide) ?_
          rw [Option.bind_some, mn_199, gi_n (by omega), d199, c0.1, nx_sub (by omega)]
          refine sp_pos (dec_t (by omega)) ?_
          refine sp_call (m_cell_n R4 C4 d199 y2 b2.2 y4 rfl (cell := 106 + 10 * nrV B L (skp B L (bh B L p)) + nrV B L (skp B L (bh B L (skp B L (bh B L p))))) (lo := 0) (hi := an D 0 - 1) (by omega) (by omega) (by omega)) ?_
          rintro ⟨v3, h5⟩ ⟨f5, hz3⟩
          dsimp only at f5 ⊢
          cases e3 : nrE B L (skp B L (bh B L (skp B L (bh B L (skp B L (bh B L p)))))) 0 (an D 0 - 1) with
          | some er =>
            rw [e3] at hz3
            obtain ⟨x1, x2⟩ := hz3
            dsimp only at x1 x2
            subst x1
            exact sp_neg (fun z => z rfl) (sp_some.mpr ⟨f14.fy.trans f5, rfl, x2⟩)
          | none =>
            rw [e3] at hz3
            obtain ⟨x1, x2, x3, x4⟩ := hz3
            dsimp only at x1 x2 x3 x4
            subst x1
            have R5 := R4.fm f5
            have e53 : h5.2.1 199 3 = nI (an D 3) := by rw [x3, upA_ne (by omega)]; exact c3.1
            refine sp_pos n10 ?_
            rw [ra_193_7 R5, Option.bind_some, mn_199, gi_n (by omega), e53, nx_add]
            refine sp_pos (dec_t (by omega)) (sp_pos (dec_t (by omega)) ?_)
            rw [sp_bd, sp_some]
            refine ⟨(f14.fy.trans f5).setI (by omega) rfl, rfl, by rw [ri_c _ (by omega)]; exact x2, ?_, _, by rw [ri_c _ (by omega)]; exact x4, b3.2, rfl⟩
            funext j
            show (pm_setI h5 199 3 (nI (an D 3 + 1))).2.1 199 j = rdMea D _ _ _ j
            unfold rdMea
            by_cases w0 : j = 3
            · rw [w0, ri_s, if_neg (by omega), if_pos rfl]
            · rw [ri_j _ w0, x3]
              unfold upA
              by_cases w1 : j = 106 + 10 * nrV B L (skp B L (bh B L p)) + nrV B L (skp B L (bh B L (skp B L (bh B L p))))
              · rw [if_pos w1, if_pos w1]
              · rw [if_neg w1, if_neg w1, if_neg w0]
        · rw [m1, m2, if_pos (show (some c : Option Nat).isSome = true from rfl)]
          refine sp_neg (by rw [kc_0, nx_lt (by omega) (by omega)]; omega) ?_
          rw [g8, m_fails_n y4, Option.bind_some]
          exact sp_pos mi_bo0 (sp_some.mpr ⟨f14.fy.setF (by omega), rfl, ri_s _⟩)
end MCL
