/-! A ship's text: orders, and any clause, read by the reference. -/
section MOR
variable {h : pm_H} {L p q : Nat} {B : Nat → Nat} {D : Nat → Int32}
theorem m_ordH (R : RF h) (C : MT h L B) (e199 : h.2.1 199 = D) (e8 : h.2.1 193 8 = nI p) (hp : p ≤ L) (e9 : h.2.1 193 9 = nI 0) (k2 : kd (ca B L p) = 2) (W : WR D) (h0 : 0 < an D 0) : SP (m_isOrderHere 193 (nI p) h) (MO h B L (if an D 2 = 8 then .inl (1 + 8 * p + 4) else clOrd B L D (skp B L (bh B L p)))) := by
  have c0 := W.c0
  have c2 := W.c2
  have bg := bh_ge (B := B) hp
  have hL := C.2.1
  unfold m_isOrderHere
  rw [ra_193_7 R, Option.bind_some, mn_199, kc_i0, kc_i1, kc_i2, kc_i4, kc_b_6, kc_b_8, kc_b_58, kc_b_99, gi_n (by omega), nx_cl (by omega), e199, c2.1]
  refine sp_pos (dec_t (by omega)) ?_
  by_cases z : an D 2 = 8
  · rw [if_pos z]
    refine sp_neg (by rw [z]; exact fun q => q rfl) ?_
    rw [m_fails_n e9, Option.bind_some]
    exact sp_pos mi_bo0 (sp_some.mpr ⟨(FrM.refl _ _ h).setF (by omega), rfl, ri_s _⟩)
  · rw [if_neg z]
    refine sp_pos (by rw [nx_eq (by omega) (by omega)]; exact z) ?_
    rw [m_passw R C e8 hp k2, Option.bind_some]
    have f1 := fx8 h (nI (bh B L p))
    have a8 : (pm_setI h 193 8 (nI (bh B L p))).2.1 193 8 = nI (bh B L p) := ri_s _
    have a9 : (pm_setI h 193 8 (nI (bh B L p))).2.1 193 9 = nI 0 := by rw [ri_j _ (by omega)]; exact e9
    have a199 : (pm_setI h 193 8 (nI (bh B L p))).2.1 199 = D := by rw [f1.i (by omega) id]; exact e199
    generalize pm_setI h 193 8 (nI (bh B L p)) = h1 at f1 a8 a9 a199 ⊢
    have R1 := R.fm f1
    have C1 := f1.mt C
    have p1 := skp_ge (B := B) bg.2
    have b1 := bh_ge (B := B) p1.2
    have p2 := skp_ge (B := B) b1.2
    have b2 := bh_ge (B := B) p2.2
    rw [ra_193_7 R1, Option.bind_some, mn_199, gi_n (by omega), a199, c2.1, nx_mul, nx_add]
    refine sp_pos (dec_t (by omega)) ?_
    refine sp_call (m_cell_n R1 C1 a199 a8 bg.2 a9 rfl (cell := 58 + 6 * an D 2) (lo := 0) (hi := 99) (by omega) (by omega) (by omega)) ?_
    rintro ⟨v, h2⟩ ⟨f2, hz⟩
    dsimp only at f2 ⊢
    unfold clOrd
    cases e : nrE B L (skp B L (bh B L p)) 0 99 with
    | some er =>
      rw [e] at hz
      obtain ⟨z1, z2⟩ := hz
      dsimp only at z1 z2
      subst z1
      exact sp_neg (fun z => z rfl) (sp_some.mpr ⟨f1.fy.trans f2, rfl, z2⟩)
    | none =>
      rw [e] at hz
      obtain ⟨z1, z2, z3, z4⟩ := hz
      dsimp only at z1 z2 z3 z4
      subst z1
      refine sp_pos n10 ?_
      have R2 := R1.fm f2
      have C2 := f2.mt C1
      rw [m_see_n R2 C2 z4 b1.2, Option.bind_some]
      dsimp only
      generalize ex : skp B L (bh B L (skp B L (bh B L p))) = x at p2 b2 ⊢
      have cx : ca B L x ≠ 32 := by rw [← ex]; exact skp_ca b1.2
      have f3 := fx8 h2 (nI x)
      have g8 : (pm_setI h2 193 8 (nI x)).2.1 193 8 = nI x := ri_s _
      have g9 : (pm_setI h2 193 8 (nI x)).2.1 193 9 = nI 0 := by rw [ri_j _ (by omega)]; exact z2
      have g199 : (pm_setI h2 193 8 (nI x)).2.1 199 = upA D (58 + 6 * an D 2) (nI (nrV B L (skp B L (bh B L p)))) := by rw [f3.i (by omega) id]; exact z3
      generalize pm_setI h2 193 8 (nI x) = h3 at f3 g8 g9 g199 ⊢
      have R3 := R2.fm f3
      have C3 := f3.mt C2
      have hB := fun k hk => (C3.2.2 k hk).2
      have f03 : FY h h3 := (f1.fy.trans f2).trans f3.fy
      have nxg := nx_ge (c := isKd B 1) p2.2
      have cnt : wh (fun z : (Int32 × pm_H) => m_isOrderHere_61 193 (nI (58 + 6 * an D 2)) (nI x) z.1 z.2) (nI 0, h3) = some (nI (nx (isKd B 1) L x - x), h3) := by
        have e0 : (nI 0, h3) = (fun k => (nI (k - x), h3)) x := by
          dsimp only
          rw [Nat.sub_self]
        rw [e0]
        refine wh_nx (c := isKd B 1) (L := L) (p := x) (fun k => (nI (k - x), h3)) (fun k => (nI (k - x), h3)) p2.2 (fun k b1 b2 b3 => ?_) (fun k b1 b2 b3 => ?_)
        · dsimp only
          unfold m_isOrderHere_61
          rw [nx_add, show x + (k - x) = k from by omega, m_isDigit_n R3 C3 (by omega), Option.bind_some, ca_lt b2, dec_t (show kd (B k) = 1 from of_decide_eq_true b3)]
          refine (if_neg n10).trans ?_
          rw [kc_i1, nx_add, show k - x + 1 = k + 1 - x from by omega]
        · dsimp only
          have : ¬ kd (ca B L k) = 1 := by
            unfold ca
            by_cases q2 : k < L
            · rw [if_pos q2]
              exact of_decide_eq_false (b3 q2)
            · rw [if_neg q2]
              decide
          unfold m_isOrderHere_61
          rw [nx_add, show x + (k - x) = k from by omega, m_isDigit_n R3 C3 (by omega), Option.bind_some, dec_f this]
          exact if_pos rfl
      rw [g8, cnt, Option.bind_some]
      dsimp only
      by_cases k1 : kd (ca B L x) = 1
      · rw [if_pos k1]
        have eb := bh_dig k1
        rw [← eb]
        have xL : x < L := by
          apply Classical.byContradiction
          intro q2
          unfold ca at k1
          rw [if_neg q2] at k1
          exact absurd k1 (by decide)
        have bp : x < bh B L x := by
          have zz : isKd B 1 x = true := by
            have k1' := k1
            rw [ca_lt xL] at k1'
            exact decide_eq_true k1'
          rw [eb, nx_t xL zz]
          have := (nx_ge (c := isKd B 1) (L := L) (p := x + 1) (by omega)).1
          omega
        refine sp_pos (by rw [kc_0, nx_eq (by omega) (by omega)]; omega) ?_
        by_cases sz : bh B L x - x ≤ 4
        · rw [if_pos sz]
          refine sp_pos (by rw [nx_le (by omega) (by omega)]; exact sz) ?_
          rw [ra_193_7 R3, Option.bind_some, nx_add, mn_199, gi_n (by omega), nx_cl (by omega)]
          refine sp_pos (dec_t (by omega)) ?_
          rw [sp_bd]
          have g4 : (pm_setI h3 199 (58 + 6 * an D 2 + 1) (nI (bh B L x - x))).2.1 199 = upA (upA D (58 + 6 * an D 2) (nI (nrV B L (skp B L (bh B L p))))) (58 + 6 * an D 2 + 1) (nI (bh B L x - x)) := set199 g199 _ _
          have f4 : FY h3 (pm_setI h3 199 (58 + 6 * an D 2 + 1) (nI (bh B L x - x))) := (FrM.refl _ _ h3).setI (by omega) rfl
          have a48 : (pm_setI h3 199 (58 + 6 * an D 2 + 1) (nI (bh B L x - x))).2.1 193 9 = nI 0 := by rw [ri_c _ (by omega)]; exact g9
          generalize pm_setI h3 199 (58 + 6 * an D 2 + 1) (nI (bh B L x - x)) = h4 at g4 f4 a48 ⊢
          have R4 := R3.fm f4
          have C4 := f4.mt C3
          have dg_ : ∀ i, i < bh B L x - x → x + i < L ∧ 48 ≤ B (x + i) ∧ B (x + i) ≤ 57 := by
            intro i hi
            have hi2 := hi
            rw [eb] at hi2
            exact ⟨by omega, dig_of (of_decide_eq_true (nx_in (c := isKd B 1) p2.2 (q := x + i) (by omega) (by omega)))⟩
          have key : SP (wh (fun z : (Int32 × pm_H) => m_isOrderHere_116 193 (nI (58 + 6 * an D 2)) (nI x) (nI (bh B L x - x)) z.1 z.2) (nI 0, h4)) (fun z => match z with
              | .inl r => ∃ i, orF B D x (bh B L x - x) = some i ∧ r.1 = nI i ∧ FrM (· = 199) (fun _ => False) h4 r.2
              | .inr h' => orF B D x (bh B L x - x) = none ∧ FrM (· = 199) (fun _ => False) h4 h' ∧ ∀ j, h'.2.1 199 j = if 58 + 6 * an D 2 + 2 ≤ j ∧ j < 58 + 6 * an D 2 + 2 + (bh B L x - x) then nI (B (x + (j - (58 + 6 * an D 2 + 2))) - 48) else h4.2.1 199 j) := by
            refine wh_cnt (fun i z => z.1 = nI i ∧ FrM (· = 199) (fun _ => False) h4 z.2 ∧ (∀ k, k < i → B (x + k) - 48 < an D 0) ∧ ∀ j, z.2.2.1 199 j = if 58 + 6 * an D 2 + 2 ≤ j ∧ j < 58 + 6 * an D 2 + 2 + i then nI (B (x + (j - (58 + 6 * an D 2 + 2))) - 48) else h4.2.1 199 j) _ (bh B L x - x) ?_ ?_ 0 (nI 0, h4) (by omega) ⟨rfl, FrM.refl _ _ _, fun k q => by omega, fun j => by rw [if_neg (by omega)]⟩
            · rintro i ⟨y, h5⟩ hi ⟨hy, f5, w5, g5⟩
              dsimp only at hy f5 g5
              subst hy
              have R5 := R4.fm f5
              have d1 := dg_ i hi
              have es : sb (B (x + i)) = nI (B (x + i)) := by unfold sb; rw [if_pos (by omega)]
              have b5 : h5.2.1 194 (x + i) = nI (B (x + i)) := by rw [f5.i (by omega) (by omega), (C4.2.2 _ d1.1).1, es]
              have f6 : FrM (· = 199) (fun _ => False) h4 (pm_setI h5 199 (58 + 6 * an D 2 + 2 + i) (nI (B (x + i) - 48))) := f5.setI (by omega) rfl
              have e60 : (pm_setI h5 199 (58 + 6 * an D 2 + 2 + i) (nI (B (x + i) - 48))).2.1 199 0 = nI (an D 0) := by
                rw [ri_j _ (by omega), g5, if_neg (by omega), g4, upA_ne (by omega), upA_ne (by omega)]
                exact c0.1
              unfold m_isOrderHere_116
              refine sp_neg (by rw [nx_le (by omega) (by omega)]; omega) ?_
              rw [ra_193_7 R5, Option.bind_some, ra_193_0 R5, Option.bind_some, kc_i2, nx_add, nx_add, nx_add, mn_194, mn_199, gi_n (by omega), gi_n (by omega), nx_cl (by omega), nx_cl (by omega), b5, kc_b_48, nx_sub d1.2.1]
              refine sp_pos (dec_t (by omega)) (sp_pos (dec_t (by omega)) ?_)
              rw [sp_bd, ra_193_7 (R4.fm f6), Option.bind_some, mn_199, gi_n (by omega), ri_s]
              refine sp_pos (dec_t (by omega)) ?_
              rw [Option.bind_some, mn_199, kc_i0, gi_n (by omega), nx_cl (by omega), e60]
              refine sp_pos (dec_t (by omega)) ?_
              by_cases wq : B (x + i) - 48 < an D 0
              · refine sp_pos (by rw [nx_lt (by omega) (by omega)]; exact wq) ?_
                rw [sp_some, kc_i1, nx_add]
                refine ⟨rfl, f6, fun k hk => ?_, fun j => ?_⟩
                · by_cases zk : k = i
                  · rw [zk]; exact wq
                  · exact w5 k (by omega)
                · show (pm_setI h5 199 (58 + 6 * an D 2 + 2 + i) _).2.1 199 j = _
                  by_cases zj : j = 58 + 6 * an D 2 + 2 + i
                  · rw [zj, ri_s, if_pos (by omega), Nat.add_sub_cancel_left]
                  · rw [ri_j _ zj, g5]
                    by_cases w2 : 58 + 6 * an D 2 + 2 ≤ j ∧ j < 58 + 6 * an D 2 + 2 + i
                    · rw [if_pos w2, if_pos (by omega)]
                    · rw [if_neg w2, if_neg (by omega)]
              · refine sp_neg (by rw [nx_lt (by omega) (by omega)]; exact wq) (sp_some.mpr ⟨i, ?_, rfl, f6⟩)
                unfold orF
                rw [List.find?_range_eq_some]
                exact ⟨by rw [dec_f wq]; rfl, List.mem_range.mpr hi, fun j hj => by rw [dec_t (w5 j hj)]; rfl⟩
            · rintro ⟨y, h5⟩ ⟨hy, f5, w5, g5⟩
              dsimp only at hy f5 g5
              subst hy
              unfold m_isOrderHere_116
              refine sp_pos (by rw [nx_le (by omega) (by omega)]; omega) (sp_some.mpr ⟨?_, f5, g5⟩)
              exact find_all.mpr (fun k hk => by rw [dec_t (w5 k hk)]; rfl)
          refine sp_call key ?_
          rintro (⟨y, h5⟩ | h5) hq
          · obtain ⟨i, ei, hy, f5⟩ := hq
            dsimp only at hy f5
            subst hy
            rw [ei]
            dsimp only
            have f5' : FY h4 h5 := f5.mono (fun _ q => q) (fun _ q => q.elim)
            rw [nx_add, m_fails_n (by rw [f5.f id]; exact a48), Option.bind_some]
            exact sp_pos mi_bo0 (sp_some.mpr ⟨((f03.trans f4).trans f5').setF (by omega), rfl, ri_s _⟩)
          · obtain ⟨ei, f5, g5⟩ := hq
            rw [ei]
            dsimp only
            have f5' : FY h4 h5 := f5.mono (fun _ q => q) (fun _ q => q.elim)
            rw [sp_bd, nx_add, show x + (bh B L x - x) = bh B L x from by omega]
            have f6 : FY h5 (pm_setI h5 193 8 (nI (bh B L x))) := (FrM.refl _ _ h5).setF (.inl rfl)
            have R6 := (R4.fm f5).fm f6
            have e62 : (pm_setI h5 193 8 (nI (bh B L x))).2.1 199 2 = nI (an D 2) := by
              rw [ri_c _ (by omega), g5, if_neg (by omega), g4, upA_ne (by omega), upA_ne (by omega)]
              exact c2.1
            rw [ra_193_7 R6, Option.bind_some, mn_199, gi_n (by omega), e62, nx_add]
            refine sp_pos (dec_t (by omega)) (sp_pos (dec_t (by omega)) ?_)
            rw [sp_bd, sp_some]
            refine ⟨(((f03.trans f4).trans f5').trans f6).setI (by omega) rfl, rfl, ?_, ?_, bh B L x, ?_, b2.2, rfl⟩
            · rw [ri_c _ (by omega), ri_j _ (by omega), f5.f id]; exact a48
            · funext j
              show (pm_setI (pm_setI h5 193 8 (nI (bh B L x))) 199 2 (nI (an D 2 + 1))).2.1 199 j = rdOrd D (nrV B L (skp B L (bh B L p))) (fun i => B (x + i) - 48) (bh B L x - x) j
              unfold rdOrd
              by_cases w0 : j = 2
              · rw [w0, ri_s, if_neg (by omega), if_neg (by omega), if_neg (by omega), if_pos rfl]
              · rw [ri_j _ w0, ri_c _ (by omega), g5, g4]
                unfold upA
                by_cases w1 : j = 58 + 6 * an D 2
                · rw [if_neg (by omega), if_neg (by omega), if_pos w1, if_pos w1]
                · rw [if_neg w1, if_neg w1]
                  by_cases w2 : j = 58 + 6 * an D 2 + 1
                  · rw [if_neg (by omega), if_pos w2, if_pos w2]
                  · rw [if_neg w2, if_neg w2]
                    by_cases w3 : 58 + 6 * an D 2 + 2 ≤ j ∧ j < 58 + 6 * an D 2 + 2 + (bh B L x - x)
                    · rw [if_pos w3, if_pos w3]
                    · rw [if_neg w3, if_neg w3, if_neg w0]
            · rw [ri_c _ (by omega), ri_s]
        · rw [if_neg sz]
          refine sp_neg (by rw [nx_le (by omega) (by omega)]; exact sz) ?_
          rw [m_fails_n g9, Option.bind_some]
          exact sp_pos mi_bo0 (sp_some.mpr ⟨f03.setF (by omega), rfl, ri_s _⟩)
      · rw [if_neg k1, nx_nolet k1, Nat.sub_self]
        refine sp_neg (fun z => z rfl) ?_
        rw [m_fails_n g9, Option.bind_some]
        exact sp_pos mi_bo0 (sp_some.mpr ⟨f03.setF (by omega), rfl, ri_s _⟩)
end MOR
