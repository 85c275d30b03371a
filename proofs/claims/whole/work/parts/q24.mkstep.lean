/-! A rule's text: what is left of a test, step by step, by the reference. -/
section MKS
variable {h h0 : pm_H} {r k b L p : Nat} {B : Nat → Nat} {l s : List Nat}
theorem kd_same {h' : pm_H} (e : m_closes 193 h = m_closes 193 h') : KtD h = KtD h' := by
  unfold KtD mtD
  rw [e]
theorem kd_not (hr : r < 6) (T : TT h r b B L k l p (11 :: s)) : ∃ h', FJ r b h h' ∧ TT h' r b B L k (l ++ [11]) p s ∧ KtD h = KtD h' := by
  obtain ⟨h', e, f, T', _⟩ := m_settle1 hr (g := 3) ⟨by omega, by omega⟩ T (Nat.le_refl 3)
  refine ⟨h', f, T', kd_same ?_⟩
  unfold m_closes m_settles
  rw [kc_i3, wh_inl e]
theorem tw_u : ∀ {u : List Nat}, (∀ t ∈ u, t = 12 ∨ t = 13) → (u ++ 91 :: s).takeWhile (fun t => decide (1 ≤ stg t)) = u ∧ (u ++ 91 :: s).dropWhile (fun t => decide (1 ≤ stg t)) = 91 :: s
  | [], _ => ⟨rfl, rfl⟩
  | t :: u, hu => by
    have ih := tw_u (u := u) (fun x hx => hu x (List.mem_cons_of_mem t hx))
    have ht : 1 ≤ stg t := by rcases hu t (by simp) with rfl | rfl <;> decide
    rw [List.cons_append, List.takeWhile_cons, List.dropWhile_cons, decide_eq_true ht, if_pos rfl, if_pos rfl, ih.1, ih.2]
    exact ⟨rfl, rfl⟩
theorem top_u {u s0 : List Nat} (hu : ∀ t ∈ u, t = 12 ∨ t = 13) (h0 : ∀ t s', s0 = t :: s' → t = 91) : ∀ t s', u ++ s0 = t :: s' → stg t < 3 := by
  intro t s' e
  cases u with
  | nil =>
    have := h0 t s' e
    subst this
    decide
  | cons x u =>
    rw [List.cons_append] at e
    cases e
    rcases hu t (by simp) with rfl | rfl <;> decide
theorem kd_close (hr : r < 6) {u : List Nat} (hu : ∀ t ∈ u, t = 12 ∨ t = 13) (T : TT h r b B L k l p (u ++ 91 :: s)) (e93 : ca B L p = 93) : ∃ h', FJ r b h h' ∧ TT h' r b B L k (l ++ u) (skp B L (bh B L p)) s ∧ KtD h = KtD h' := by
  have s3 := m_settle0 (g := 3) ⟨by omega, by omega⟩ T (top_u hu (fun t s' e => by cases e; rfl))
  have hB := fun k hk => (T.1.2.1.2.2 k hk).2
  have hL := T.1.2.1.2.1
  have cl : ca B L p ≤ 256 := ca_le hB
  obtain ⟨h1, e1, f1, T1, a8, _⟩ := m_see_st T.1
  have K1 := f1.sks T.2
  obtain ⟨h5, e5, f5, T5, a5⟩ := m_settle_n hr (g := 1) ⟨by omega, by omega⟩ (show TT h1 r b B L k l p (u ++ 91 :: s) from ⟨T1, K1⟩)
  rw [(tw_u hu).1, (tw_u hu).2] at T5
  obtain ⟨T5, k1, k2, k3, k4, k5⟩ := T5
  have sl : (91 :: s).length = s.length + 1 := rfl
  have dp : dep (91 :: s) = dep s + 1 := by show (if 91 = 91 ∨ 91 = 11 then 1 else 0) + dep s = _; rw [if_pos (.inl rfl)]; omega
  have pn : pnd (91 :: s) = pnd s := by show (if 91 = 91 then 0 else 1) + pnd s = _; rw [if_pos rfl, Nat.zero_add]
  have dl := dep_le s
  rw [sl] at k1 k2
  rw [dp] at k4
  rw [pn] at T5
  have pL : p < L := (ca_in (show ca B L p ≠ 256 by omega)).1
  have eb : bh B L p = p + 1 := bh_sign e93 (by omega) (by omega) (by decide)
  have g7 : FrM (fun c => c = 200) (fun j => j = 13 ∨ j = 16) h5 (pm_setI (pm_setI h5 193 16 (nI s.length)) 193 13 (nI (dep s))) := ((FrM.refl _ _ h5).setF (.inr rfl)).setF (.inl rfl)
  have f7 : FJ r b h5 (pm_setI (pm_setI h5 193 16 (nI s.length)) 193 13 (nI (dep s))) := ((FJ.refl r b h5).set (.inr rfl)).set (.inl rfl)
  have T7 := T5.stk g7
  obtain ⟨T8, f8⟩ := T7.past pL
  have K8 : SKs (pm_setI (pm_setI (pm_setI h5 193 16 (nI s.length)) 193 13 (nI (dep s))) 193 8 (nI (p + 1))) s := by
    refine ⟨?_, by omega, fun i hi => ?_, ?_, fun x hx => k5 x (by simp [hx])⟩
    · rw [ri_j _ (by omega), ri_j _ (by omega), ri_s]
    · rw [ri_c _ (by omega), ri_c _ (by omega), ri_c _ (by omega), k3 i (by rw [sl]; omega), sl, show s.length + 1 - 1 - i = (s.length - 1 - i) + 1 by omega]
      rfl
    · rw [ri_j _ (by omega), ri_s]
  have TT8 : TT (pm_setI (pm_setI (pm_setI h5 193 16 (nI s.length)) 193 13 (nI (dep s))) 193 8 (nI (p + 1))) r b B L k (l ++ u) (skp B L (p + 1)) s := ⟨T8.less (Nat.le_succ _), K8⟩
  obtain ⟨h9, e9, _⟩ := m_settle_n hr (g := 3) ⟨by omega, by omega⟩ TT8
  rw [eb]
  refine ⟨_, ((f1.fj.trans f5).trans f7).trans f8.fj, TT8, kd_same ?_⟩
  have st : SP (m_closes_5 193 h) (fun q => q = .inl h9) := by
    unfold m_closes_5
    rw [e1, Option.bind_some, kc_b_93]
    dsimp only
    refine sp_neg (fun z => z (by rw [cv_eq cl (by omega)]; exact e93)) ?_
    rw [m_isInside_n T1.1 K1, decide_eq_true (show 91 ∈ u ++ 91 :: s by simp), Option.bind_some]
    refine sp_neg n10 ?_
    rw [kc_i1, e5, Option.bind_some, sp_bd, k1, nx_sub (by omega), show s.length + 1 - 1 = s.length from rfl, sp_bd, ri_j _ (by omega), k4, nx_sub (by omega), show dep s + 1 - 1 = dep s from rfl, sp_bd, ri_j _ (by omega), ri_j _ (by omega), a5, a8, nx_add, kc_i3, e9, Option.bind_some]
    exact sp_some.mpr rfl
  obtain ⟨q, eq1, eq2⟩ := st
  subst eq2
  unfold m_closes
  rw [kc_i3, s3, Option.bind_some, wh_inl eq1, e9, Option.bind_some]
/-- where nothing is closed -/
theorem m_closes_end (T : TT h r b B L k l p s) (top : ∀ t s', s = t :: s' → stg t < 3) (no : ¬ (ca B L p = 93 ∧ 91 ∈ s)) : ∃ h1, m_closes 193 h = some h1 ∧ FK r b h h1 ∧ TT h1 r b B L k l p s ∧ h1.2.1 193 8 = nI p := by
  have s3 := m_settle0 (g := 3) ⟨by omega, by omega⟩ T top
  have hB := fun k hk => (T.1.2.1.2.2 k hk).2
  have cl : ca B L p ≤ 256 := ca_le hB
  obtain ⟨h1, e1, f1, T1, a8, _⟩ := m_see_st T.1
  have K1 := f1.sks T.2
  refine ⟨h1, ?_, f1, ⟨T1, K1⟩, a8⟩
  have st : m_closes_5 193 h = some (.inr h1) := by
    unfold m_closes_5
    rw [e1, Option.bind_some, kc_b_93]
    dsimp only
    by_cases c : ca B L p = 93
    · refine (if_neg (fun z => z (by rw [cv_eq cl (by omega)]; exact c))).trans ?_
      rw [m_isInside_n T1.1 K1, decide_eq_false (fun z => no ⟨c, z⟩), Option.bind_some]
      exact if_pos rfl
    · exact if_pos (by rw [cv_eq cl (by omega)]; exact c)
  unfold m_closes
  rw [kc_i3, s3, Option.bind_some, wh_inr st]
  rfl
theorem m_tested76 (hr : r < 6) (T : TT h r b B L k l p s) (e8 : h.2.1 193 8 = nI p) {w : List Nat} (hw : isW B L p w = true) {x : Nat} (hx : x = 12 ∨ x = 13) (room : s.length < 400) (v : Int32) : ∃ h', m_tested_76 193 v (nI x) h = some (.inl (v, h')) ∧ FJ r b h h' ∧ TT h' r b B L k (l ++ s.takeWhile (fun t => decide (stg x ≤ stg t))) (skp B L (bh B L p)) (x :: s.dropWhile (fun t => decide (stg x ≤ stg t))) := by
  obtain ⟨e1, f1, T1⟩ := T.1.pastw e8 hw
  have K1 := f1.sks T.2
  have a8 : (pm_setI h 193 8 (nI (bh B L p))).2.1 193 8 = nI (bh B L p) := ri_s _
  obtain ⟨hp, cp, hb⟩ := T.1.hp
  obtain ⟨b1, b2, b3, b4⟩ := word_bh hp hw
  have hL := T.1.2.1.2.1
  have g1 : 1 ≤ stg x ∧ stg x ≤ 3 := by rcases hx with rfl | rfl <;> decide
  generalize pm_setI h 193 8 (nI (bh B L p)) = h2 at e1 f1 T1 K1 a8
  obtain ⟨h3, e3, f3, T3, a3⟩ := m_settle_n hr g1 (show TT h2 r b B L k l (skp B L (bh B L p)) s from ⟨T1.less (Nat.le_succ _), K1⟩)
  have pt := pnd_tw g1.1 s
  have dl : (s.dropWhile (fun t => decide (stg x ≤ stg t))).length ≤ s.length := (List.dropWhile_suffix _).length_le
  generalize hs1 : s.takeWhile (fun t => decide (stg x ≤ stg t)) = s1 at T3 pt ⊢
  generalize hs2 : s.dropWhile (fun t => decide (stg x ≤ stg t)) = s2 at T3 pt dl ⊢
  obtain ⟨T3, K3⟩ := T3
  have pn : pnd (x :: s2) = pnd s2 + 1 := by show (if x = 91 then 0 else 1) + pnd s2 = _; rw [if_neg (by omega)]; omega
  have T3' : ST h3 r b (pnd (x :: s2)) B L k (l ++ s1) (skp B L (bh B L p)) := by
    obtain ⟨R, C, S, e9, hk, q, q1, q2, q3, q4⟩ := T3
    refine ⟨R, C, S, e9, hk, bh B L p, by rw [a3]; exact a8, by omega, rfl, ?_⟩
    rw [pn, List.length_append]
    omega
  have st : SP (m_tested_76 193 v (nI x) h) (fun q => ∃ h', q = .inl (v, h') ∧ FJ r b h h' ∧ TT h' r b B L k (l ++ s1) (skp B L (bh B L p)) (x :: s2)) := by
    unfold m_tested_76
    rw [e1, Option.bind_some, m_strength_n h2 (show x = 11 ∨ x = 12 ∨ x = 13 ∨ x = 91 by omega), Option.bind_some, e3, Option.bind_some, ra_193_15 T3.1, Option.bind_some, K3.1, mn_200, gi_n (by omega), nx_cl (by omega)]
    refine sp_pos (dec_t (by omega)) ?_
    rw [sp_bd, sp_bd, ri_c _ (by omega), K3.1, kc_i1, nx_add]
    have g3 : FrM (fun c => c = 200) (fun j => j = 13 ∨ j = 16) h3 (pm_setI (pm_setI h3 200 s2.length (nI x)) 193 16 (nI (s2.length + 1))) := FrM.setF (FrM.setI (FrM.refl _ _ h3) (by omega) rfl) (.inr rfl)
    refine sp_some.mpr ⟨_, rfl, ((f1.fj.trans f3).psh).set (.inr rfl), T3'.stk g3, ?_⟩
    refine K3.push (by omega) (by omega) (ri_s _) ?_ (fun i hi => ?_) ?_
    · rw [ri_c _ (by omega), ri_s]
    · rw [ri_c _ (by omega), ri_j _ (by omega)]
    · rw [ri_j _ (by omega), ri_c _ (by omega), K3.2.2.2.1]
      show _ = nI ((if x = 91 ∨ x = 11 then 1 else 0) + dep s2)
      rw [if_neg (by omega), Nat.zero_add]
  obtain ⟨q, e, h', eq, f, T'⟩ := st
  subst eq
  exact ⟨h', e, f, T'⟩
theorem kd_join (hr : r < 6) (T : TT h r b B L k l p s) (top : ∀ t s', s = t :: s' → stg t < 3) (room : s.length < 400) {x : Nat} (hx : (x = 12 ∧ isW B L p wAnd = true) ∨ (x = 13 ∧ isW B L p wAnd = false ∧ isW B L p wOrw = true)) : ∃ h', FJ r b h h' ∧ TT h' r b B L k (l ++ s.takeWhile (fun t => decide (stg x ≤ stg t))) (skp B L (bh B L p)) (x :: s.dropWhile (fun t => decide (stg x ≤ stg t))) ∧ ∀ z, KtE h' = some z → KtD h = some z := by
  have k2 : kd (ca B L p) = 2 := by
    rcases hx with ⟨_, hw⟩ | ⟨_, _, hw⟩ <;> exact isW_k2 hw
  obtain ⟨h1, e1, f1, T1, a8⟩ := m_closes_end T top (fun z => by rw [z.1] at k2; exact absurd k2 (by decide))
  have wa := m_isW_st T1.1 a8 wd_and.2.1 wd_and.2.2 wd_and.1
  have wo := m_isW_st T1.1 a8 wd_or.2.1 wd_or.2.2 wd_or.1
  have fin : ∀ h', mtD h = some (.inl (Int32.ofInt 1, h')) → ∀ z, KtE h' = some z → KtD h = some z := by
    intro h' e z ez
    unfold KtD
    rw [e]
    exact loop_of (v := Int32.ofInt 1) (by decide) ez
  rcases hx with ⟨rfl, hw⟩ | ⟨rfl, ha, hw⟩
  · obtain ⟨h', e', f', T'⟩ := m_tested76 hr T1 a8 hw (.inl rfl) room (Int32.ofInt 1)
    refine ⟨h', f1.fj.trans f', T', fin h' ?_⟩
    unfold mtD
    rw [e1, Option.bind_some, wa, Option.bind_some, hw]
    refine (if_pos n10).trans ?_
    unfold m_tested_49 m_tested_54
    refine (if_neg (by decide)).trans ?_
    dsimp only
    rw [wa, Option.bind_some, hw]
    refine (if_neg n10).trans ?_
    rw [kc_b_12]
    exact e'
  · obtain ⟨h', e', f', T'⟩ := m_tested76 hr T1 a8 hw (.inr rfl) room (Int32.ofInt 1)
    refine ⟨h', f1.fj.trans f', T', fin h' ?_⟩
    unfold mtD
    rw [e1, Option.bind_some, wa, Option.bind_some, ha]
    refine (if_neg (fun z => z rfl)).trans ?_
    dsimp only
    rw [wo, Option.bind_some, hw]
    refine (if_neg n10).trans ?_
    unfold m_tested_49 m_tested_54
    refine (if_neg (by decide)).trans ?_
    dsimp only
    rw [wa, Option.bind_some, ha]
    refine (if_pos rfl).trans ?_
    rw [kc_b_13]
    exact e'
/-- the end of a test -/
theorem kt_end (T : TT h r b B L k l p s) (top : ∀ t s', s = t :: s' → stg t < 3) (no : ¬ (ca B L p = 93 ∧ 91 ∈ s)) (na : isW B L p wAnd = false) (nr : isW B L p wOrw = false) : ∃ h1, FK r b h h1 ∧ TT h1 r b B L k l p s ∧ h1.2.1 193 8 = nI p ∧ KtD h = mtEnd (.inr h1) := by
  obtain ⟨h1, e1, f1, T1, a8⟩ := m_closes_end T top no
  have wa := m_isW_st T1.1 a8 wd_and.2.1 wd_and.2.2 wd_and.1
  have wo := m_isW_st T1.1 a8 wd_or.2.1 wd_or.2.2 wd_or.1
  refine ⟨h1, f1, T1, a8, ?_⟩
  have ed : mtD h = some (.inl (Int32.ofInt 0, h1)) := by
    unfold mtD
    rw [e1, Option.bind_some, wa, Option.bind_some, na]
    refine (if_neg (fun z => z rfl)).trans ?_
    dsimp only
    rw [wo, Option.bind_some, nr]
    refine (if_pos rfl).trans ?_
    unfold m_tested_54
    exact if_pos rfl
  unfold KtD
  rw [ed]
  show mtLoop (Int32.ofInt 0) h1 = _
  unfold mtLoop
  have : m_tested_12 193 (Int32.ofInt 0) h1 = some (.inr (.inr h1)) := by
    unfold m_tested_12
    exact if_pos rfl
  rw [wh_inr (f := fun s : (Int32 × pm_H) => m_tested_12 193 s.1 s.2) (s := (Int32.ofInt 0, h1)) this]
  rfl
theorem kt_end_in (T : TT h r b B L k l p s) (top : ∀ t s', s = t :: s' → stg t < 3) (c : ca B L p ≠ 93) (mem : 91 ∈ s) (na : isW B L p wAnd = false) (nr : isW B L p wOrw = false) : ∃ z, KtD h = some (nI 0, z) ∧ FJ r b h z ∧ z.2.1 193 9 = nI (1 + 8 * p) := by
  obtain ⟨h1, f1, T1, a8, e⟩ := kt_end T top (fun z => c z.1) na nr
  obtain ⟨h2, e2, f2, T2, b8, _⟩ := m_see_st T1.1
  rw [e]
  have st : SP (mtEnd (.inr h1)) (fun z => z.1 = nI 0 ∧ FJ r b h z.2 ∧ z.2.2.1 193 9 = nI (1 + 8 * p)) := by
    unfold mtEnd
    dsimp only
    rw [m_isInside_n T1.1.1 T1.2, decide_eq_true mem, Option.bind_some]
    refine sp_neg n10 ?_
    rw [e2, Option.bind_some]
    dsimp only
    rw [b8, kc_i0, m_fails_n T2.2.2.2.1, Option.bind_some]
    exact sp_pos mi_bo0 (sp_some.mpr ⟨rfl, ((f1.trans f2).set (by omega)).fj, ri_s _⟩)
  obtain ⟨⟨v, z⟩, ez, q1, q2, q3⟩ := st
  dsimp only at q1
  subst q1
  exact ⟨z, ez, q2, q3⟩
theorem kt_end_top (hr : r < 6) (T : TT h r b B L k l p s) (hu : ∀ t ∈ s, t = 12 ∨ t = 13) (na : isW B L p wAnd = false) (nr : isW B L p wOrw = false) : ∃ z, KtD h = some (nI 1, z) ∧ FJ r b h z ∧ ST z r b 0 B L k (l ++ s) p := by
  have n91 : ¬ 91 ∈ s := fun z => by have := hu 91 z; omega
  have top : ∀ t s', s = t :: s' → stg t < 3 := fun t s' e => by
    have := hu t (by rw [e]; simp)
    rcases this with rfl | rfl <;> decide
  obtain ⟨h1, f1, T1, a8, e⟩ := kt_end T top (fun z => n91 z.2) na nr
  have tw : s.takeWhile (fun t => decide (1 ≤ stg t)) = s ∧ s.dropWhile (fun t => decide (1 ≤ stg t)) = [] := by
    have : ∀ s : List Nat, (∀ t ∈ s, t = 12 ∨ t = 13) → s.takeWhile (fun t => decide (1 ≤ stg t)) = s ∧ s.dropWhile (fun t => decide (1 ≤ stg t)) = [] := by
      intro s
      induction s with
      | nil => exact fun _ => ⟨rfl, rfl⟩
      | cons t s ih =>
        intro hs
        have i := ih (fun x hx => hs x (List.mem_cons_of_mem t hx))
        have ht : 1 ≤ stg t := by rcases hs t (by simp) with rfl | rfl <;> decide
        rw [List.takeWhile_cons, List.dropWhile_cons, decide_eq_true ht, if_pos rfl, if_pos rfl, i.1, i.2]
        exact ⟨rfl, rfl⟩
    exact this s hu
  obtain ⟨h5, e5, f5, T5, a5⟩ := m_settle_n hr (g := 1) ⟨by omega, by omega⟩ T1
  rw [tw.1, tw.2] at T5
  rw [e]
  refine ⟨h5, ?_, f1.fj.trans f5, T5.1⟩
  unfold mtEnd
  dsimp only
  rw [m_isInside_n T1.1.1 T1.2, decide_eq_false n91, Option.bind_some]
  refine (if_pos rfl).trans ?_
  rw [kc_i1, e5]
  rfl
end MKS
