/-! A rule's text: a clause behind its wake, read by the reference. -/
/-- a clause of the reference, its signs from b on -/
def RB (h : pm_H) (r k b : Nat) (c : List Nat × Option (List Nat)) : Prop := h.2.1 197 (48 * r + 4 * k) = nI b ∧ h.2.1 197 (48 * r + 4 * k + 1) = nI (b + c.1.length) ∧ h.2.1 197 (48 * r + 4 * k + 2) = (match c.2 with
  | none => ng 1
  | some _ => nI (b + c.1.length)) ∧ h.2.1 197 (48 * r + 4 * k + 3) = nI (b + c.1.length + (teL c).length) ∧ (∀ j, j < c.1.length → h.2.1 195 (400 * r + (b + j)) = nI (c.1.getD j 0)) ∧ ∀ j, j < (teL c).length → h.2.1 195 (400 * r + (b + c.1.length + j)) = nI ((teL c).getD j 0)
/-- the clauses so far, their signs below b -/
def RMb (h : pm_H) (r : Nat) (cls : List (List Nat × Option (List Nat))) (b : Nat) : Prop := h.2.1 198 r = nI cls.length ∧ cls.length ≤ 12 ∧ b ≤ 400 ∧ ∀ k, k < cls.length → ∃ b0, b0 + (cls.getD k ([], none)).1.length + (teL (cls.getD k ([], none))).length ≤ b ∧ RB h r k b0 (cls.getD k ([], none))
/-- what the reading of rule r changes -/
def FGr (r : Nat) (h h' : pm_H) : Prop := FrM (fun c => c = 195 ∨ c = 196 ∨ c = 197 ∨ c = 198 ∨ c = 200) (fun j => j = 8 ∨ j = 9 ∨ j = 10 ∨ j = 12 ∨ j = 13 ∨ j = 14 ∨ j = 16) h h' ∧ (∀ j, ¬ (400 * r ≤ j ∧ j < 400 * r + 400) → h'.2.1 195 j = h.2.1 195 j) ∧ (∀ j, ¬ (48 * r ≤ j ∧ j < 48 * r + 48) → h'.2.1 197 j = h.2.1 197 j) ∧ ∀ j, j ≠ r → h'.2.1 198 j = h.2.1 198 j
section MWK
variable {h h0 : pm_H} {r k b L p : Nat} {B : Nat → Nat} {l : List Nat} {cls : List (List Nat × Option (List Nat))}
theorem FGr.refl (r : Nat) (h : pm_H) : FGr r h h := ⟨FrM.refl _ _ h, fun _ _ => rfl, fun _ _ => rfl, fun _ _ => rfl⟩
theorem FGr.trans {h1 h2 : pm_H} (a : FGr r h h1) (c : FGr r h1 h2) : FGr r h h2 := ⟨a.1.trans c.1, fun j hj => (c.2.1 j hj).trans (a.2.1 j hj), fun j hj => (c.2.2.1 j hj).trans (a.2.2.1 j hj), fun j hj => (c.2.2.2 j hj).trans (a.2.2.2 j hj)⟩
theorem FJ.fgr {h' : pm_H} (f : FJ r b h h') : FGr r h h' := ⟨f.1.mono (fun c hc => by omega) (fun j hj => by omega), fun j hj => f.2.1 j (by omega), fun j _ => by rw [f.1.i (by omega) (by omega)], fun j _ => by rw [f.1.i (by omega) (by omega)]⟩
theorem FK.fgr {h' : pm_H} (f : FK r b h h') : FGr r h h' := f.fj.fgr
theorem FGr.s7 {h1 : pm_H} {j : Nat} {v : Int32} (f : FGr r h h1) (hj : 48 * r ≤ j ∧ j < 48 * r + 48) : FGr r h (pm_setI h1 197 j v) := ⟨f.1.setI (by omega) (by omega), fun i hi => by rw [ri_c _ (by omega)]; exact f.2.1 i hi, fun i hi => by rw [ri_j _ (by omega)]; exact f.2.2.1 i hi, fun i hi => by rw [ri_c _ (by omega)]; exact f.2.2.2 i hi⟩
theorem FGr.s8 {h1 : pm_H} {v : Int32} (f : FGr r h h1) : FGr r h (pm_setI h1 198 r v) := ⟨f.1.setI (by omega) (by omega), fun i hi => by rw [ri_c _ (by omega)]; exact f.2.1 i hi, fun i hi => by rw [ri_c _ (by omega)]; exact f.2.2.1 i hi, fun i hi => by rw [ri_j _ hi]; exact f.2.2.2 i hi⟩
theorem FGr.sF {h1 : pm_H} {j : Nat} {v : Int32} (f : FGr r h h1) (hj : j = 8 ∨ j = 9 ∨ j = 10 ∨ j = 12 ∨ j = 13 ∨ j = 14 ∨ j = 16) : FGr r h (pm_setI h1 193 j v) := ⟨f.1.setF hj, fun i hi => by rw [ri_c _ (by omega)]; exact f.2.1 i hi, fun i hi => by rw [ri_c _ (by omega)]; exact f.2.2.1 i hi, fun i hi => by rw [ri_c _ (by omega)]; exact f.2.2.2 i hi⟩
theorem FGr.rm {h' : pm_H} (f : FGr r h h') {r' : Nat} (ne : r' ≠ r) (K : RM h r' cls) : RM h' r' cls := by
  obtain ⟨k1, k2, k3⟩ := K
  refine ⟨by rw [f.2.2.2 r' ne]; exact k1, k2, fun i hi => ?_⟩
  obtain ⟨b0, q1, q2, q3, q4, q5, q6, q7⟩ := k3 i hi
  exact ⟨b0, q1, by rw [f.2.2.1 _ (by omega)]; exact q2, by rw [f.2.2.1 _ (by omega)]; exact q3, by rw [f.2.2.1 _ (by omega)]; exact q4, by rw [f.2.2.1 _ (by omega)]; exact q5, fun j hj => by rw [f.2.1 _ (by omega)]; exact q6 j hj, fun j hj => by rw [f.2.1 _ (by omega)]; exact q7 j hj⟩
theorem RMb.rm (K : RMb h r cls b) : RM h r cls := by
  obtain ⟨k1, k2, kb, k3⟩ := K
  refine ⟨k1, k2, fun i hi => ?_⟩
  obtain ⟨b0, q1, q⟩ := k3 i hi
  exact ⟨b0, by omega, q⟩
theorem RMb.keep {h' : pm_H} (K : RMb h r cls b) (e8 : h'.2.1 198 r = h.2.1 198 r) (e5 : ∀ j, j < 400 * r + b → h'.2.1 195 j = h.2.1 195 j) (e7 : ∀ j, j < 48 * r + 4 * cls.length → h'.2.1 197 j = h.2.1 197 j) : RMb h' r cls b := by
  obtain ⟨k1, k2, kb, k3⟩ := K
  refine ⟨by rw [e8]; exact k1, k2, kb, fun i hi => ?_⟩
  obtain ⟨b0, q1, q2, q3, q4, q5, q6, q7⟩ := k3 i hi
  exact ⟨b0, q1, by rw [e7 _ (by omega)]; exact q2, by rw [e7 _ (by omega)]; exact q3, by rw [e7 _ (by omega)]; exact q4, by rw [e7 _ (by omega)]; exact q5, fun j hj => by rw [e5 _ (by omega)]; exact q6 j hj, fun j hj => by rw [e5 _ (by omega)]; exact q7 j hj⟩
theorem ST.oth {h' : pm_H} {d : Nat} (T : ST h r b d B L k l p) (f : FrM (fun c => c = 197 ∨ c = 198) (fun j => j = 14) h h') : ST h' r b d B L k l p := by
  obtain ⟨R, C, S, e9, hk, q, q1, q2, q3, q4⟩ := T
  exact ⟨R.fm f, ⟨by rw [f.f (by omega)]; exact C.1, C.2.1, fun k hk => by rw [f.i (by omega) (by omega)]; exact C.2.2 k hk⟩, ⟨by rw [f.f (by omega)]; exact S.1, by rw [f.f (by omega)]; exact S.2.1, by rw [f.i (by omega) (by omega)]; exact S.2.2.1, S.2.2.2.1, fun j hj => by rw [f.i (by omega) (by omega)]; exact S.2.2.2.2 j hj⟩, by rw [f.f (by omega)]; exact e9, hk, q, by rw [f.f (by omega)]; exact q1, q2, q3, q4⟩
theorem ST.flush {d : Nat} (T : ST h r b d B L k l p) : ST h r (b + l.length) d B L k [] p := by
  obtain ⟨R, C, S, e9, hk, q, q1, q2, q3, q4⟩ := T
  exact ⟨R, C, ⟨S.1, S.2.1, S.2.2.1, S.2.2.2.1, fun j hj => absurd hj (Nat.not_lt_zero j)⟩, e9, hk, q, q1, q2, q3, by show b + l.length + 0 + d ≤ q; omega⟩
theorem m_isW_any {d : Nat} (T : ST h r b d B L k l p) {w : List Nat} (hw : ∀ x ∈ w, 0 < x ∧ x < 256) (hl : w.length < 8) {W : Int64} (eW : W = qN (pkw w)) : ∃ h1, m_isWord 193 W h = some (nI (isW B L p w).toNat, h1) ∧ FK r b h h1 ∧ ST h1 r b d B L k l p ∧ h1.2.1 193 8 = nI p := by
  obtain ⟨hp, cp, hb⟩ := T.hp
  obtain ⟨R, C, S, e9, hk, q, q1, q2, q3, q4⟩ := T
  have e := m_isWord_n R C q1 q2 hw hl eW
  rw [q3] at e
  have f1 := fx8 h (nI p)
  exact ⟨_, e, f1.fk r b, ⟨R.fm f1, f1.mt C, f1.mrs S, by rw [ri_j _ (by omega)]; exact e9, hk, p, ri_s _, hp, skp_id cp, hb⟩, ri_s _⟩
theorem wd_wake : (2002873189 : Int64) = qN (pkw wWake) ∧ (∀ x ∈ wWake, 0 < x ∧ x < 256) ∧ wWake.length < 8 := by decide +kernel
theorem wd_if : (26982 : Int64) = qN (pkw wIf) ∧ (∀ x ∈ wIf, 0 < x ∧ x < 256) ∧ wIf.length < 8 := by decide +kernel
theorem m_takesIf {d : Nat} (T : ST h r b d B L k l p) : ∃ h1, m_takesWord 193 (26982 : Int64) h = some (nI (isW B L p wIf).toNat, h1) ∧ FK r b h h1 ∧ ST h1 r b d B L k l (if isW B L p wIf = true then skp B L (bh B L p) else p) := by
  obtain ⟨h1, e1, f1, T1, a8⟩ := m_isW_any T wd_if.2.1 wd_if.2.2 wd_if.1
  unfold m_takesWord
  rw [e1, Option.bind_some]
  cases ei : isW B L p wIf with
  | false =>
    refine ⟨h1, ?_, f1, by rw [if_neg (by decide)]; exact T1⟩
    rw [kc_i0]
    exact if_neg (fun z => z rfl)
  | true =>
    obtain ⟨e2, f2, T2⟩ := T1.pastw a8 ei
    refine ⟨_, ?_, f1.trans f2, by rw [if_pos rfl]; exact T2.less (Nat.le_succ _)⟩
    refine (if_pos n10).trans ?_
    rw [e2, Option.bind_some, kc_i1]
    rfl
theorem m_wake110 (hr : r < 6) {n x : Nat} (R : RF h) (e11 : h.2.1 193 11 = nI r) (e6 : h.2.1 196 r = nI x) (e8 : h.2.1 198 r = nI n) (hn : n < 12) : m_isWakeHere_110 193 (nI (48 * r + 4 * n)) h = some (nI 1, pm_setI (pm_setI h 197 (48 * r + 4 * n + 3) (nI x)) 198 r (nI (n + 1))) := by
  have st : SP (m_isWakeHere_110 193 (nI (48 * r + 4 * n)) h) (fun z => z = (nI 1, pm_setI (pm_setI h 197 (48 * r + 4 * n + 3) (nI x)) 198 r (nI (n + 1)))) := by
    unfold m_isWakeHere_110
    rw [ra_193_5 R, Option.bind_some, ra_193_4 R, Option.bind_some, e11, kc_i3, nx_add, mn_196, mn_197, gi_n (by omega), gi_n (by omega), nx_cl (by omega), nx_cl (by omega), e6]
    refine sp_pos (dec_t (by omega)) (sp_pos (dec_t (by omega)) ?_)
    rw [sp_bd]
    have f1 : FrM (fun c => c = 197 ∨ c = 198) (fun j => j = 14) h (pm_setI h 197 (48 * r + 4 * n + 3) (nI x)) := (FrM.refl _ _ h).setI (by omega) (.inl rfl)
    rw [ra_193_6 (R.fm f1), Option.bind_some, ri_c _ (by omega), e11, mn_198, gi_n (by omega), nx_cl (by omega), ri_c _ (by omega), e8]
    refine sp_pos (dec_t (by omega)) (sp_pos (dec_t (by omega)) ?_)
    rw [sp_bd, kc_i1, nx_add]
    exact sp_some.mpr rfl
  obtain ⟨z, e1, e2⟩ := st
  rw [e1, e2]
theorem m_wake_n (hr : r < 6) (T : ST h r b 0 B L k [] p) (e8 : h.2.1 193 8 = nI p) (hw : isW B L p wWake = true) (K : RMb h r cls b) (hc : cls.length < 12) : SP (m_isWakeHere 193 h) (fun z => FGr r h z.2 ∧ z.2.2.1 193 14 = h.2.1 193 14 ∧ (match cluP B L k (skp B L (bh B L p)) with
    | .inl e => z.1 = nI 0 ∧ z.2.2.1 193 9 = nI e
    | .inr y => z.1 = nI 1 ∧ ST z.2 r (b + y.2.1.1.length + (teL y.2.1).length) 0 B L y.1 [] y.2.2 ∧ RMb z.2 r (cls ++ [y.2.1]) (b + y.2.1.1.length + (teL y.2.1).length))) := by
  obtain ⟨hp, cp, hb⟩ := T.hp
  obtain ⟨e1, f1, T1⟩ := T.pastw e8 hw
  obtain ⟨b1, b2, b3, b4⟩ := word_bh hp hw
  have hL := T.2.1.2.1
  have kb := K.2.2.1
  have hb' : b + 0 + 0 ≤ p := hb
  unfold m_isWakeHere
  rw [e1, Option.bind_some]
  have K1 : RMb (pm_setI h 193 8 (nI (bh B L p))) r cls b := K.keep (by rw [f1.1.i (by omega) (by omega)]) (fun j hj => by rw [ri_c _ (by omega)]) (fun j hj => by rw [ri_c _ (by omega)])
  have a14 : (pm_setI h 193 8 (nI (bh B L p))).2.1 193 14 = h.2.1 193 14 := ri_j _ (by omega)
  generalize pm_setI h 193 8 (nI (bh B L p)) = h1 at e1 f1 T1 K1 a14 ⊢
  have e11 := T1.2.2.1.2.1
  have e196 : h1.2.1 196 r = nI b := T1.2.2.1.2.2.1
  rw [ra_193_6 T1.1, Option.bind_some, e11, mn_198, gi_n (by omega), nx_cl (by omega), ra_193_5 T1.1, Option.bind_some, ra_193_4 T1.1, Option.bind_some, mn_196, gi_n (by omega), K1.1, kc_b_48, kc_i4, nx_mul, nx_mul, nx_add, mn_197, gi_n (by omega), nx_cl (by omega), e196]
  refine sp_pos (dec_t (by omega)) (sp_pos (dec_t (by omega)) (sp_pos (dec_t (by omega)) ?_))
  rw [sp_bd]
  have g8 : FrM (fun c => c = 197 ∨ c = 198) (fun j => j = 14) h1 (pm_setI h1 197 (48 * r + 4 * cls.length) (nI b)) := (FrM.refl _ _ h1).setI (by omega) (.inl rfl)
  have f8 : FGr r h (pm_setI h1 197 (48 * r + 4 * cls.length) (nI b)) := f1.fgr.s7 (by omega)
  have T8 := T1.oth g8
  have K8 : RMb (pm_setI h1 197 (48 * r + 4 * cls.length) (nI b)) r cls b := K1.keep (by rw [ri_c _ (by omega)]) (fun j hj => by rw [ri_c _ (by omega)]) (fun j hj => by rw [ri_j _ (by omega)])
  have c0 : (pm_setI h1 197 (48 * r + 4 * cls.length) (nI b)).2.1 197 (48 * r + 4 * cls.length) = nI b := ri_s _
  have a14 : (pm_setI h1 197 (48 * r + 4 * cls.length) (nI b)).2.1 193 14 = h.2.1 193 14 := by rw [ri_c _ (by omega)]; exact a14
  generalize pm_setI h1 197 (48 * r + 4 * cls.length) (nI b) = h8 at g8 f8 T8 K8 c0 a14 ⊢
  refine sp_call (m_sum_st hr T8) ?_
  rintro ⟨v, h9⟩ ⟨f9, hz⟩
  dsimp only at f9 hz ⊢
  have f09 := f8.trans f9.fgr
  have a14 : h9.2.1 193 14 = h.2.1 193 14 := by rw [f9.1.f (by omega)]; exact a14
  unfold cluP
  cases ev : sumP B L k [] (skp B L (bh B L p)) with
  | inl e =>
    rw [ev] at hz
    obtain ⟨y1, y2⟩ := hz
    subst y1
    exact sp_neg (fun z => z rfl) (sp_some.mpr ⟨f09, a14, by rw [kc_i0], y2⟩)
  | inr y =>
    rw [ev] at hz
    obtain ⟨y1, T9⟩ := hz
    subst y1
    obtain ⟨o1, o2, o3, o4, o5, o6, G1⟩ := sumP_ok (n0 := 0) ev b3 (GT.nil (Nat.zero_le k))
    refine sp_pos n10 ?_
    have K9 : RMb h9 r cls b := K8.keep (by rw [f9.1.i (by omega) (by omega)]) (fun j hj => f9.2.1 j (by omega)) (fun j hj => by rw [f9.1.i (by omega) (by omega)])
    have c0 : h9.2.1 197 (48 * r + 4 * cls.length) = nI b := by rw [f9.1.i (by omega) (by omega)]; exact c0
    have e196 : h9.2.1 196 r = nI (b + y.2.1.length) := T9.2.2.1.2.2.1
    have bl : b + y.2.1.length ≤ 400 := T9.2.2.1.2.2.2.1
    rw [ra_193_5 T9.1, Option.bind_some, ra_193_4 T9.1, Option.bind_some, T9.2.2.1.2.1, mn_196, gi_n (by omega), nx_cl (by omega), e196, kc_i1, nx_add, mn_197, gi_n (by omega), nx_cl (by omega)]
    refine sp_pos (dec_t (by omega)) (sp_pos (dec_t (by omega)) ?_)
    rw [sp_bd]
    have g15 : FrM (fun c => c = 197 ∨ c = 198) (fun j => j = 14) h9 (pm_setI h9 197 (48 * r + 4 * cls.length + 1) (nI (b + y.2.1.length))) := (FrM.refl _ _ h9).setI (by omega) (.inl rfl)
    rw [ra_193_5 (T9.1.fm g15), Option.bind_some, kc_i2, nx_add, mn_197, gi_n (by omega), nx_cl (by omega), kc_im1]
    refine sp_pos (dec_t (by omega)) ?_
    rw [sp_bd]
    have g18 : FrM (fun c => c = 197 ∨ c = 198) (fun j => j = 14) h9 (pm_setI (pm_setI h9 197 (48 * r + 4 * cls.length + 1) (nI (b + y.2.1.length))) 197 (48 * r + 4 * cls.length + 2) (ng 1)) := g15.setI (by omega) (.inl rfl)
    have f18 : FGr r h (pm_setI (pm_setI h9 197 (48 * r + 4 * cls.length + 1) (nI (b + y.2.1.length))) 197 (48 * r + 4 * cls.length + 2) (ng 1)) := (f09.s7 (by omega)).s7 (by omega)
    have T18 := T9.oth g18
    have K18 : RMb (pm_setI (pm_setI h9 197 (48 * r + 4 * cls.length + 1) (nI (b + y.2.1.length))) 197 (48 * r + 4 * cls.length + 2) (ng 1)) r cls b := K9.keep (by rw [ri_c _ (by omega), ri_c _ (by omega)]) (fun j hj => by rw [ri_c _ (by omega), ri_c _ (by omega)]) (fun j hj => by rw [ri_j _ (by omega), ri_j _ (by omega)])
    have c0 : (pm_setI (pm_setI h9 197 (48 * r + 4 * cls.length + 1) (nI (b + y.2.1.length))) 197 (48 * r + 4 * cls.length + 2) (ng 1)).2.1 197 (48 * r + 4 * cls.length) = nI b := by rw [ri_j _ (by omega), ri_j _ (by omega)]; exact c0
    have c1 : (pm_setI (pm_setI h9 197 (48 * r + 4 * cls.length + 1) (nI (b + y.2.1.length))) 197 (48 * r + 4 * cls.length + 2) (ng 1)).2.1 197 (48 * r + 4 * cls.length + 1) = nI (b + y.2.1.length) := by rw [ri_j _ (by omega), ri_s]
    have c2 : (pm_setI (pm_setI h9 197 (48 * r + 4 * cls.length + 1) (nI (b + y.2.1.length))) 197 (48 * r + 4 * cls.length + 2) (ng 1)).2.1 197 (48 * r + 4 * cls.length + 2) = ng 1 := ri_s _
    have a14 : (pm_setI (pm_setI h9 197 (48 * r + 4 * cls.length + 1) (nI (b + y.2.1.length))) 197 (48 * r + 4 * cls.length + 2) (ng 1)).2.1 193 14 = h.2.1 193 14 := by rw [ri_c _ (by omega), ri_c _ (by omega)]; exact a14
    generalize pm_setI (pm_setI h9 197 (48 * r + 4 * cls.length + 1) (nI (b + y.2.1.length))) 197 (48 * r + 4 * cls.length + 2) (ng 1) = h18 at g18 f18 T18 K18 c0 c1 c2 a14 ⊢
    obtain ⟨h19, e19, f19, T19⟩ := m_takesIf T18
    rw [e19, Option.bind_some]
    have K19 : RMb h19 r cls b := K18.keep (by rw [f19.1.i (by omega) (by omega)]) (fun j hj => f19.2.1 j (by omega)) (fun j hj => by rw [f19.1.i (by omega) (by omega)])
    have c0 : h19.2.1 197 (48 * r + 4 * cls.length) = nI b := by rw [f19.1.i (by omega) (by omega)]; exact c0
    have c1 : h19.2.1 197 (48 * r + 4 * cls.length + 1) = nI (b + y.2.1.length) := by rw [f19.1.i (by omega) (by omega)]; exact c1
    have c2 : h19.2.1 197 (48 * r + 4 * cls.length + 2) = ng 1 := by rw [f19.1.i (by omega) (by omega)]; exact c2
    have a14 : h19.2.1 193 14 = h.2.1 193 14 := by rw [f19.1.f (by omega)]; exact a14
    have f019 := f18.trans f19.fgr
    -- the end of a clause
    have fin : ∀ (c : List Nat × Option (List Nat)) (hx : pm_H) (k' p' : Nat) (m : List Nat), c.1 = y.2.1 → teL c = m → FGr r h hx → hx.2.1 193 14 = h.2.1 193 14 → ST hx r (b + y.2.1.length) 0 B L k' m p' → RMb hx r cls b → hx.2.1 197 (48 * r + 4 * cls.length) = nI b → hx.2.1 197 (48 * r + 4 * cls.length + 1) = nI (b + y.2.1.length) → hx.2.1 197 (48 * r + 4 * cls.length + 2) = (match c.2 with | none => ng 1 | some _ => nI (b + y.2.1.length)) → (∀ j, j < y.2.1.length → hx.2.1 195 (400 * r + (b + j)) = nI (y.2.1.getD j 0)) → SP (m_isWakeHere_110 193 (nI (48 * r + 4 * cls.length)) hx) (fun z => FGr r h z.2 ∧ z.2.2.1 193 14 = h.2.1 193 14 ∧ z.1 = nI 1 ∧ ST z.2 r (b + c.1.length + (teL c).length) 0 B L k' [] p' ∧ RMb z.2 r (cls ++ [c]) (b + c.1.length + (teL c).length)) := by
      intro c hx k' p' m ec em fx ax Tx Kx d0 d1 d2 ds
      have bl2 : b + y.2.1.length + m.length ≤ 400 := Tx.2.2.1.2.2.2.1
      rw [m_wake110 hr Tx.1 Tx.2.2.1.2.1 Tx.2.2.1.2.2.1 Kx.1 hc, ec, em]
      have gx : FrM (fun c => c = 197 ∨ c = 198) (fun j => j = 14) hx (pm_setI (pm_setI hx 197 (48 * r + 4 * cls.length + 3) (nI (b + y.2.1.length + m.length))) 198 r (nI (cls.length + 1))) := ((FrM.refl _ _ hx).setI (by omega) (.inl rfl)).setI (by omega) (.inr rfl)
      refine sp_some.mpr ⟨(fx.s7 (by omega)).s8, ?_, rfl, (Tx.oth gx).flush, ?_, ?_, bl2, fun i hi => ?_⟩
      · show (pm_setI (pm_setI hx 197 (48 * r + 4 * cls.length + 3) (nI (b + y.2.1.length + m.length))) 198 r (nI (cls.length + 1))).2.1 193 14 = _
        rw [ri_c _ (by omega), ri_c _ (by omega)]; exact ax
      · show (pm_setI (pm_setI hx 197 (48 * r + 4 * cls.length + 3) (nI (b + y.2.1.length + m.length))) 198 r (nI (cls.length + 1))).2.1 198 r = _
        rw [ri_s, List.length_append]
        rfl
      · rw [List.length_append]
        show cls.length + 1 ≤ 12
        omega
      · rw [List.length_append] at hi
        have hi' : i < cls.length + 1 := hi
        have w7 : ∀ j, j ≠ 48 * r + 4 * cls.length + 3 → (pm_setI (pm_setI hx 197 (48 * r + 4 * cls.length + 3) (nI (b + y.2.1.length + m.length))) 198 r (nI (cls.length + 1))).2.1 197 j = hx.2.1 197 j := fun j hj => by rw [ri_c _ (by omega), ri_j _ hj]
        have w5 : ∀ j, (pm_setI (pm_setI hx 197 (48 * r + 4 * cls.length + 3) (nI (b + y.2.1.length + m.length))) 198 r (nI (cls.length + 1))).2.1 195 j = hx.2.1 195 j := fun j => by rw [ri_c _ (by omega), ri_c _ (by omega)]
        have w73 : (pm_setI (pm_setI hx 197 (48 * r + 4 * cls.length + 3) (nI (b + y.2.1.length + m.length))) 198 r (nI (cls.length + 1))).2.1 197 (48 * r + 4 * cls.length + 3) = nI (b + y.2.1.length + m.length) := by rw [ri_c _ (by omega), ri_s]
        dsimp only
        generalize pm_setI (pm_setI hx 197 (48 * r + 4 * cls.length + 3) (nI (b + y.2.1.length + m.length))) 198 r (nI (cls.length + 1)) = hy at w7 w5 w73 ⊢
        by_cases q : i < cls.length
        · have eg : (cls ++ [c]).getD i ([], none) = cls.getD i ([], none) := by
            rw [List.getD_eq_getElem?_getD, List.getD_eq_getElem?_getD, List.getElem?_append_left q]
          rw [eg]
          obtain ⟨b0, q1, q2, q3, q4, q5, q6, q7⟩ := Kx.2.2.2 i q
          exact ⟨b0, by omega, by rw [w7 _ (by omega)]; exact q2, by rw [w7 _ (by omega)]; exact q3, by rw [w7 _ (by omega)]; exact q4, by rw [w7 _ (by omega)]; exact q5, fun j hj => by rw [w5]; exact q6 j hj, fun j hj => by rw [w5]; exact q7 j hj⟩
        · have qi : i = cls.length := by omega
          have eg : (cls ++ [c]).getD i ([], none) = c := by
            rw [qi, List.getD_eq_getElem?_getD, List.getElem?_append_right (Nat.le_refl _), Nat.sub_self]
            rfl
          rw [eg, qi]
          refine ⟨b, by rw [ec, em]; omega, by rw [w7 _ (by omega)]; exact d0, by rw [w7 _ (by omega), ec]; exact d1, by rw [w7 _ (by omega), ec]; exact d2, by rw [ec, em]; exact w73, fun j hj => ?_, fun j hj => ?_⟩
          · rw [ec] at hj ⊢
            rw [w5]; exact ds j hj
          · rw [em] at hj ⊢
            rw [ec, w5]
            rw [show 400 * r + (b + y.2.1.length + j) = 400 * r + (b + y.2.1.length) + j by omega]
            exact Tx.2.2.1.2.2.2.2 j hj
    have sg9 : ∀ j, j < y.2.1.length → h19.2.1 195 (400 * r + (b + j)) = nI (y.2.1.getD j 0) := by
      intro j hj
      rw [show 400 * r + (b + j) = 400 * r + b + j by omega]
      exact T19.2.2.1.2.2.2.2 j hj
    dsimp only
    cases ei : isW B L y.2.2 wIf with
    | false =>
      rw [ei, if_neg (by decide)] at T19
      rw [if_neg (show ¬ (false = true) by decide)]
      refine sp_pos rfl ?_
      exact fin (y.2.1, none) h19 y.1 y.2.2 [] rfl rfl f019 a14 (T19.flush.less (Nat.zero_le _)) K19 c0 c1 c2 sg9
    | true =>
      rw [ei, if_pos rfl] at T19
      rw [if_pos (show true = true from rfl)]
      refine sp_neg n10 ?_
      have e196' : h19.2.1 196 r = nI (b + y.2.1.length) := T19.2.2.1.2.2.1
      rw [ra_193_5 T19.1, Option.bind_some, ra_193_4 T19.1, Option.bind_some, T19.2.2.1.2.1, mn_196, gi_n (by omega), nx_cl (by omega), e196', mn_197, gi_n (by omega)]
      refine sp_pos (dec_t (by omega)) (sp_pos (dec_t (by omega)) ?_)
      rw [sp_bd]
      have g25 : FrM (fun c => c = 197 ∨ c = 198) (fun j => j = 14) h19 (pm_setI h19 197 (48 * r + 4 * cls.length + 2) (nI (b + y.2.1.length))) := (FrM.refl _ _ h19).setI (by omega) (.inl rfl)
      have f25 : FGr r h (pm_setI h19 197 (48 * r + 4 * cls.length + 2) (nI (b + y.2.1.length))) := f019.s7 (by omega)
      have T25 := (T19.oth g25).flush.less (Nat.zero_le _)
      have K25 : RMb (pm_setI h19 197 (48 * r + 4 * cls.length + 2) (nI (b + y.2.1.length))) r cls b := K19.keep (by rw [ri_c _ (by omega)]) (fun j hj => by rw [ri_c _ (by omega)]) (fun j hj => by rw [ri_j _ (by omega)])
      have w7 : ∀ j, j ≠ 48 * r + 4 * cls.length + 2 → (pm_setI h19 197 (48 * r + 4 * cls.length + 2) (nI (b + y.2.1.length))).2.1 197 j = h19.2.1 197 j := fun j hj => ri_j _ hj
      have w72 : (pm_setI h19 197 (48 * r + 4 * cls.length + 2) (nI (b + y.2.1.length))).2.1 197 (48 * r + 4 * cls.length + 2) = nI (b + y.2.1.length) := ri_s _
      have w5 : ∀ j, (pm_setI h19 197 (48 * r + 4 * cls.length + 2) (nI (b + y.2.1.length))).2.1 195 j = h19.2.1 195 j := fun j => ri_c _ (by omega)
      have a14' : (pm_setI h19 197 (48 * r + 4 * cls.length + 2) (nI (b + y.2.1.length))).2.1 193 14 = h.2.1 193 14 := by rw [ri_c _ (by omega)]; exact a14
      generalize pm_setI h19 197 (48 * r + 4 * cls.length + 2) (nI (b + y.2.1.length)) = h25 at g25 f25 T25 K25 w7 w72 w5 a14' ⊢
      refine sp_call (m_tested_n (n0 := 0) (ts := []) hr T25 (GT.nil (Nat.zero_le _))) ?_
      rintro ⟨v, h26⟩ ⟨f26, hz⟩
      dsimp only at f26 hz ⊢
      have b14 : h26.2.1 193 14 = h.2.1 193 14 := by rw [f26.1.f (by omega)]; exact a14'
      cases et : rdP B L 30 true 0 y.1 [] (skp B L (bh B L y.2.2)) with
      | inl e =>
        rw [et] at hz
        obtain ⟨y1, y2⟩ := hz
        subst y1
        exact sp_neg (fun z => z rfl) (sp_some.mpr ⟨f25.trans f26.fgr, b14, by rw [kc_i0], y2⟩)
      | inr z =>
        rw [et] at hz
        obtain ⟨y1, T26⟩ := hz
        subst y1
        refine sp_pos n10 ?_
        have K26 : RMb h26 r cls b := K25.keep (by rw [f26.1.i (by omega) (by omega)]) (fun j hj => f26.2.1 j (by omega)) (fun j hj => by rw [f26.1.i (by omega) (by omega)])
        have v7 : ∀ j, h26.2.1 197 j = h25.2.1 197 j := fun j => by rw [f26.1.i (by omega) (by omega)]
        exact fin (y.2.1, some z.2.1) h26 z.1 z.2.2 z.2.1 rfl rfl (f25.trans f26.fgr) b14 T26 K26 (by rw [v7, w7 _ (by omega)]; exact c0) (by rw [v7, w7 _ (by omega)]; exact c1) (by rw [v7]; exact w72) (fun j hj => by rw [f26.2.1 _ (by omega), w5]; exact sg9 j hj)
end MWK
