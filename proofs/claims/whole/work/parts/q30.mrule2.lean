/-! rule, of the reference: the whole. -/
def FHr (r : Nat) (h h' : pm_H) : Prop := FrM (fun c => c = 195 ∨ c = 196 ∨ c = 197 ∨ c = 198 ∨ c = 200) (fun j => j = 1 ∨ j = 2 ∨ j = 8 ∨ j = 9 ∨ j = 10 ∨ j = 11 ∨ j = 12 ∨ j = 13 ∨ j = 14 ∨ j = 16) h h' ∧ (∀ j, ¬ (400 * r ≤ j ∧ j < 400 * r + 400) → h'.2.1 195 j = h.2.1 195 j) ∧ (∀ j, ¬ (48 * r ≤ j ∧ j < 48 * r + 48) → h'.2.1 197 j = h.2.1 197 j) ∧ ∀ j, j ≠ r → h'.2.1 198 j = h.2.1 198 j
section MR2
variable {h h0 : pm_H} {r k b L p n : Nat} {B : Nat → Nat} {cls : List (List Nat × Option (List Nat))}
theorem FHr.refl (r : Nat) (h : pm_H) : FHr r h h := ⟨FrM.refl _ _ h, fun _ _ => rfl, fun _ _ => rfl, fun _ _ => rfl⟩
theorem FHr.trans {h1 h2 : pm_H} (a : FHr r h h1) (c : FHr r h1 h2) : FHr r h h2 := ⟨a.1.trans c.1, fun j hj => (c.2.1 j hj).trans (a.2.1 j hj), fun j hj => (c.2.2.1 j hj).trans (a.2.2.1 j hj), fun j hj => (c.2.2.2 j hj).trans (a.2.2.2 j hj)⟩
theorem FGr.fh {h' : pm_H} (f : FGr r h h') : FHr r h h' := ⟨f.1.mono (fun c hc => hc) (fun j hj => by omega), f.2⟩
theorem FHr.sF {h1 : pm_H} {j : Nat} {v : Int32} (f : FHr r h h1) (hj : j = 1 ∨ j = 2 ∨ j = 8 ∨ j = 9 ∨ j = 10 ∨ j = 11 ∨ j = 12 ∨ j = 13 ∨ j = 14 ∨ j = 16) : FHr r h (pm_setI h1 193 j v) := ⟨f.1.setF hj, fun i hi => by rw [ri_c _ (by omega)]; exact f.2.1 i hi, fun i hi => by rw [ri_c _ (by omega)]; exact f.2.2.1 i hi, fun i hi => by rw [ri_c _ (by omega)]; exact f.2.2.2 i hi⟩
theorem FHr.s6 {h1 : pm_H} {j : Nat} {v : Int32} (f : FHr r h h1) : FHr r h (pm_setI h1 196 j v) := ⟨f.1.setI (by omega) (by omega), fun i hi => by rw [ri_c _ (by omega)]; exact f.2.1 i hi, fun i hi => by rw [ri_c _ (by omega)]; exact f.2.2.1 i hi, fun i hi => by rw [ri_c _ (by omega)]; exact f.2.2.2 i hi⟩
theorem FHr.s8 {h1 : pm_H} {v : Int32} (f : FHr r h h1) : FHr r h (pm_setI h1 198 r v) := ⟨f.1.setI (by omega) (by omega), fun i hi => by rw [ri_c _ (by omega)]; exact f.2.1 i hi, fun i hi => by rw [ri_c _ (by omega)]; exact f.2.2.1 i hi, fun i hi => by rw [ri_j _ hi]; exact f.2.2.2 i hi⟩
theorem FHr.rm {h' : pm_H} (f : FHr r h h') {r' : Nat} (ne : r' ≠ r) (K : RM h r' cls) : RM h' r' cls := by
  obtain ⟨k1, k2, k3⟩ := K
  refine ⟨by rw [f.2.2.2 r' ne]; exact k1, k2, fun i hi => ?_⟩
  obtain ⟨b0, q1, q2, q3, q4, q5, q6, q7⟩ := k3 i hi
  exact ⟨b0, q1, by rw [f.2.2.1 _ (by omega)]; exact q2, by rw [f.2.2.1 _ (by omega)]; exact q3, by rw [f.2.2.1 _ (by omega)]; exact q4, by rw [f.2.2.1 _ (by omega)]; exact q5, fun j hj => by rw [f.2.1 _ (by omega)]; exact q6 j hj, fun j hj => by rw [f.2.1 _ (by omega)]; exact q7 j hj⟩
theorem RM.same {h' : pm_H} (e5 : ∀ j, h'.2.1 195 j = h.2.1 195 j) (e7 : ∀ j, h'.2.1 197 j = h.2.1 197 j) (e8 : ∀ j, h'.2.1 198 j = h.2.1 198 j) (K : RM h r cls) : RM h' r cls := by
  obtain ⟨k1, k2, k3⟩ := K
  refine ⟨by rw [e8]; exact k1, k2, fun i hi => ?_⟩
  obtain ⟨b0, q1, q2, q3, q4, q5, q6, q7⟩ := k3 i hi
  exact ⟨b0, q1, by rw [e7]; exact q2, by rw [e7]; exact q3, by rw [e7]; exact q4, by rw [e7]; exact q5, fun j hj => by rw [e5]; exact q6 j hj, fun j hj => by rw [e5]; exact q7 j hj⟩
theorem RM.setF {j : Nat} {v : Int32} (K : RM h r cls) : RM (pm_setI h 193 j v) r cls := K.same (fun j => ri_c _ (by omega)) (fun j => ri_c _ (by omega)) (fun j => ri_c _ (by omega))
/-- the end: the tape is empty, whether a fault was found -/
theorem m_rend (e : h.2.1 193 9 = nI n) (hn : n = 0 ∨ n % 8 ≠ 0) : m_readsAll_88 193 h = some (nI (if n = 0 then 1 else 0), pm_setI h 193 1 (nI 0)) := by
  unfold m_readsAll_88
  show (if ¬ (pm_setI h 193 1 (Int32.ofInt 0)).2.1 193 9 = 0 then some (Int32.ofInt 0, pm_setI h 193 1 (Int32.ofInt 0)) else some (Int32.ofInt 1, pm_setI h 193 1 (Int32.ofInt 0))) = _
  rw [ri_j _ (by omega), e, kc_i0, kc_i1]
  by_cases w0 : n = 0
  · rw [if_pos w0]
    exact if_neg (fun z => z (by rw [w0]; rfl))
  · rw [if_neg w0]
    exact if_pos (by rw [kc_0]; exact nI_e (by omega))
theorem m_rreads_n (hr : r < 6) (R : RF h) (C : MT h L B) (e11 : h.2.1 193 11 = nI r) (e8 : h.2.1 198 r = nI 0) : SP (m_readsAll 193 h) (fun y => FHr r h y.2 ∧ y.2.2.1 193 1 = nI 0 ∧ y.2.2.1 193 2 = h.2.1 193 2 ∧ (match rulP B L 13 0 0 [] (skp B L 0) with
    | .inl e => y.1 = nI 0 ∧ y.2.2.1 193 9 = nI e
    | .inr cls => y.1 = nI 1 ∧ RM y.2 r cls)) := by
  have hL := C.2.1
  have hB := fun k hk => (C.2.2 k hk).2
  unfold m_readsAll
  rw [ra_193_4 R, Option.bind_some, e11, mn_196, gi_n (by omega), nx_cl (by omega), kc_i0]
  refine sp_pos (dec_t (by omega)) ?_
  rw [sp_bd, sp_bd, sp_bd, sp_bd, sp_bd]
  have f0 : FHr r h (pm_setI (pm_setI (pm_setI (pm_setI (pm_setI h 196 r (nI 0)) 193 14 (nI 0)) 193 8 (nI 0)) 193 9 (nI 0)) 193 12 (nI 0)) := (((((FHr.refl r h).s6).sF (by omega)).sF (by omega)).sF (by omega)).sF (by omega)
  have a14 : (pm_setI (pm_setI (pm_setI (pm_setI (pm_setI h 196 r (nI 0)) 193 14 (nI 0)) 193 8 (nI 0)) 193 9 (nI 0)) 193 12 (nI 0)).2.1 193 14 = nI 0 := by rw [ri_j _ (by omega), ri_j _ (by omega), ri_j _ (by omega), ri_s]
  have a8 : (pm_setI (pm_setI (pm_setI (pm_setI (pm_setI h 196 r (nI 0)) 193 14 (nI 0)) 193 8 (nI 0)) 193 9 (nI 0)) 193 12 (nI 0)).2.1 193 8 = nI 0 := by rw [ri_j _ (by omega), ri_j _ (by omega), ri_s]
  have a9 : (pm_setI (pm_setI (pm_setI (pm_setI (pm_setI h 196 r (nI 0)) 193 14 (nI 0)) 193 8 (nI 0)) 193 9 (nI 0)) 193 12 (nI 0)).2.1 193 9 = nI 0 := by rw [ri_j _ (by omega), ri_s]
  have a12 : (pm_setI (pm_setI (pm_setI (pm_setI (pm_setI h 196 r (nI 0)) 193 14 (nI 0)) 193 8 (nI 0)) 193 9 (nI 0)) 193 12 (nI 0)).2.1 193 12 = nI 0 := ri_s _
  have aF : ∀ j, j ≠ 8 ∧ j ≠ 9 ∧ j ≠ 12 ∧ j ≠ 14 → (pm_setI (pm_setI (pm_setI (pm_setI (pm_setI h 196 r (nI 0)) 193 14 (nI 0)) 193 8 (nI 0)) 193 9 (nI 0)) 193 12 (nI 0)).2.1 193 j = h.2.1 193 j := fun j hj => by rw [ri_j _ (by omega), ri_j _ (by omega), ri_j _ (by omega), ri_j _ (by omega), ri_c _ (by omega)]
  have a6 : (pm_setI (pm_setI (pm_setI (pm_setI (pm_setI h 196 r (nI 0)) 193 14 (nI 0)) 193 8 (nI 0)) 193 9 (nI 0)) 193 12 (nI 0)).2.1 196 r = nI 0 := by rw [ri_c _ (by omega), ri_c _ (by omega), ri_c _ (by omega), ri_c _ (by omega), ri_s]
  have aC : ∀ c, c ≠ 193 ∧ c ≠ 196 → ∀ j, (pm_setI (pm_setI (pm_setI (pm_setI (pm_setI h 196 r (nI 0)) 193 14 (nI 0)) 193 8 (nI 0)) 193 9 (nI 0)) 193 12 (nI 0)).2.1 c j = h.2.1 c j := fun c hc j => by rw [ri_c _ (by omega), ri_c _ (by omega), ri_c _ (by omega), ri_c _ (by omega), ri_c _ (by omega)]
  generalize pm_setI (pm_setI (pm_setI (pm_setI (pm_setI h 196 r (nI 0)) 193 14 (nI 0)) 193 8 (nI 0)) 193 9 (nI 0)) 193 12 (nI 0) = h1 at f0 a14 a8 a9 a12 aF a6 aC ⊢
  have R1 := R.fm f0.1
  have C1 : MT h1 L B := ⟨by rw [aF 1 (by omega)]; exact C.1, hL, fun k hk => by rw [aC 194 (by omega)]; exact C.2.2 k hk⟩
  have T1 : ST h1 r 0 0 B L 0 [] (skp B L 0) := ⟨R1, C1, ⟨a12, by rw [aF 11 (by omega)]; exact e11, a6, Nat.zero_le _, fun j hj => absurd hj (Nat.not_lt_zero j)⟩, a9, by omega, 0, a8, Nat.zero_le L, rfl, Nat.le_refl _⟩
  have K1 : RMb h1 r [] 0 := ⟨by rw [aC 198 (by omega)]; exact e8, Nat.zero_le _, Nat.zero_le _, fun k hk => absurd hk (Nat.not_lt_zero k)⟩
  refine sp_call (m_rclause_n hr T1 K1 a14) ?_
  intro z2 mz2
  refine sp_call (m_rtextW hr 12 0 [] (clO B L 0 0 (skp B L 0)) z2 mz2 (fun y _ => by show 0 < 12; omega) rfl) ?_
  rintro ⟨v, h3⟩ hz
  rw [show clR B L 12 ([] : List (List Nat × Option (List Nat))).length [] (clO B L 0 0 (skp B L 0)) = rulP B L 13 0 0 [] (skp B L 0) from (rulP_clR B L 12 0 0 [] (skp B L 0)).symm] at hz
  obtain ⟨f3, hz⟩ := hz
  dsimp only at f3 hz ⊢
  have f03 : FHr r h h3 := f0.trans f3.fh
  have e2 : h3.2.1 193 2 = h.2.1 193 2 := by rw [f3.1.f (by omega), aF 2 (by omega)]
  have er := rulP_e (B := B) (L := L) 13 0 0 [] (skp B L 0)
  cases ev : rulP B L 13 0 0 [] (skp B L 0) with
  | inl e =>
    have e8' := er e ev
    rw [ev] at hz
    rcases hz with ⟨y1, y2⟩ | ⟨y1, b, k, p, T3, np, ee⟩
    · subst y1
      unfold m_readsAll_66
      refine sp_pos rfl ?_
      rw [m_rend y2 (.inr e8'), if_neg (by omega)]
      exact sp_some.mpr ⟨f03.sF (by omega), ri_s _, (ri_j _ (by omega)).trans e2, rfl, (ri_j _ (by omega)).trans y2⟩
    · subst y1
      unfold m_readsAll_66
      refine sp_neg n10 ?_
      obtain ⟨h4, e4, f4, T4, b8, _⟩ := m_see_st T3
      rw [e4, Option.bind_some]
      dsimp only
      have cl : ca B L p ≤ 256 := ca_le hB
      have ec : cv (ca B L p) = nI (ca B L p) := by unfold cv; rw [if_neg np]
      rw [ec]
      refine sp_neg (by rw [kc_im1, n_eq_ng (by omega) (by omega) (by omega)]; exact id) ?_
      rw [b8, kc_i0, m_fails_n T4.2.2.2.1, Option.bind_some]
      dsimp only
      have ee' : 1 + 8 * p + 0 = e := by omega
      rw [ee', m_rend (ri_s _) (.inr e8'), if_neg (by omega)]
      exact sp_some.mpr ⟨((f03.trans f4.fgr.fh).sF (by omega)).sF (by omega), ri_s _, (ri_j _ (by omega)).trans ((ri_j _ (by omega)).trans ((f4.1.f (by omega)).trans e2)), rfl, (ri_j _ (by omega)).trans (ri_s _)⟩
  | inr cls =>
    rw [ev] at hz
    obtain ⟨y1, b, k, p, T3, np, K3⟩ := hz
    subst y1
    unfold m_readsAll_66
    refine sp_neg n10 ?_
    obtain ⟨h4, e4, f4, T4, b8, _⟩ := m_see_st T3
    rw [e4, Option.bind_some]
    dsimp only
    rw [np]
    refine sp_pos (by rw [kc_im1]; rfl) ?_
    rw [m_rend T4.2.2.2.1 (.inl rfl), if_pos rfl]
    have K4 : RMb h4 r cls b := K3.keep (by rw [f4.1.i (by omega) (by omega)]) (fun j hj => f4.2.1 j (by omega)) (fun j hj => by rw [f4.1.i (by omega) (by omega)])
    exact sp_some.mpr ⟨(f03.trans f4.fgr.fh).sF (by omega), ri_s _, (ri_j _ (by omega)).trans ((f4.1.f (by omega)).trans e2), rfl, K4.rm.setF⟩
theorem m_rule_no (e2 : h.2.1 193 2 = nI 6) : m_rule 193 h = some (ng 1, h) := by
  unfold m_rule
  rw [e2, kc_b_6, kc_im1]
  exact if_neg (fun z => z rfl)
theorem m_rule_ok (R : RF h) (C : MT h L B) (hn : n < 6) (e2 : h.2.1 193 2 = nI n) : SP (m_rule 193 h) (fun z => FHr n h z.2 ∧ z.2.2.1 193 1 = nI 0 ∧ (match rulP B L 13 0 0 [] (skp B L 0) with
    | .inl e => z.1 = ng 2 - nI e ∧ z.2.2.1 193 2 = nI n
    | .inr cls => z.1 = nI n ∧ z.2.2.1 193 2 = nI (n + 1) ∧ RM z.2 n cls)) := by
  unfold m_rule
  rw [e2, kc_b_6]
  refine sp_pos (by rw [nx_eq (by omega) (by omega)]; omega) ?_
  rw [sp_bd]
  have f2 : FHr n h (pm_setI h 193 11 (nI n)) := (FHr.refl n h).sF (by omega)
  rw [ra_193_6 (R.fm f2.1), Option.bind_some, ri_s, mn_198, gi_n (by omega), nx_cl (by omega), kc_i0]
  refine sp_pos (dec_t hn) ?_
  rw [sp_bd]
  have f5 : FHr n h (pm_setI (pm_setI h 193 11 (nI n)) 198 n (nI 0)) := f2.s8
  have a2 : (pm_setI (pm_setI h 193 11 (nI n)) 198 n (nI 0)).2.1 193 2 = nI n := by rw [ri_c _ (by omega), ri_j _ (by omega)]; exact e2
  have a1 : (pm_setI (pm_setI h 193 11 (nI n)) 198 n (nI 0)).2.1 193 1 = h.2.1 193 1 := by rw [ri_c _ (by omega), ri_j _ (by omega)]
  have a11 : (pm_setI (pm_setI h 193 11 (nI n)) 198 n (nI 0)).2.1 193 11 = nI n := by rw [ri_c _ (by omega), ri_s]
  have a8 : (pm_setI (pm_setI h 193 11 (nI n)) 198 n (nI 0)).2.1 198 n = nI 0 := ri_s _
  generalize pm_setI (pm_setI h 193 11 (nI n)) 198 n (nI 0) = h5 at f5 a2 a1 a11 a8 ⊢
  have C5 : MT h5 L B := ⟨by rw [a1]; exact C.1, C.2.1, fun k hk => by rw [f5.1.i (by omega) (by omega)]; exact C.2.2 k hk⟩
  refine sp_call (m_rreads_n hn (R.fm f5.1) C5 a11 a8) ?_
  rintro ⟨v, h6⟩ ⟨f6, b1, b2, hz⟩
  dsimp only at f6 b1 b2 hz ⊢
  cases ev : rulP B L 13 0 0 [] (skp B L 0) with
  | inl e =>
    rw [ev] at hz
    obtain ⟨y1, y2⟩ := hz
    subst y1
    refine sp_neg (fun z => z rfl) (sp_some.mpr ⟨f5.trans f6, b1, ?_, b2.trans a2⟩)
    show _ - h6.2.1 193 9 = _
    rw [y2, kc_b_m2]
  | inr cls =>
    rw [ev] at hz
    obtain ⟨y1, K⟩ := hz
    subst y1
    refine sp_pos n10 ?_
    rw [sp_bd, b2, a2, kc_i1, nx_add]
    refine sp_some.mpr ⟨(f5.trans f6).sF (by omega), (ri_j _ (by omega)).trans b1, ?_, ri_s _, K.setF⟩
    show (pm_setI h6 193 2 (nI (n + 1))).2.1 193 2 - _ = _
    rw [ri_s, nx_sub (by omega)]
    rfl
/-- what was read is well formed -/
theorem rulP_ok : ∀ (f ln k : Nat) (cls : List (List Nat × Option (List Nat))) (p : Nat) (cl : List (List Nat × Option (List Nat))), rulP B L f ln k cls p = .inr cl → p ≤ L → ca B L p ≠ 32 → k ≤ 60 → (∀ c ∈ cls, clOK c) → ∀ c ∈ cl, clOK c
  | 0, ln, k, cls, p, cl, q, _, _, _, _ => by rw [rulP] at q; cases q
  | f + 1, ln, k, cls, p, cl, q, hp, cp, hk, ok => by
    rw [rulP] at q
    split at q
    · rename_i hw
      obtain ⟨b1, b2, b3, b4⟩ := word_bh hp hw
      split at q
      · split at q
        · cases q
        · rename_i y ey
          obtain ⟨o1, o2, o3, o4, o5, o6⟩ := cluP_ok ey b3 b4 hk
          have ok' : ∀ c ∈ cls ++ [y.2.1], clOK c := by
            intro c hc
            rw [List.mem_append] at hc
            rcases hc with hc | hc
            · exact ok c hc
            · rw [List.mem_singleton] at hc
              rw [hc]; exact o1
          split at q
          · cases q
            exact ok'
          · split at q
            · have bg := bh_ge (B := B) o4
              exact rulP_ok f _ _ _ _ cl q (skp_ge (B := B) bg.2).2 (skp_ca bg.2) o6 ok'
            · cases q
      · cases q
    · cases q
end MR2
