/-! A rule's text: a fact awaited, step by step, by the reference. -/
def KEr (h0 : pm_H) (r b : Nat) (X : Option (Int32 × pm_H)) (e : Nat) : Prop := ∃ z, X = some (nI 0, z) ∧ FJ r b h0 z ∧ z.2.1 193 9 = nI e
section MKF
variable {h h0 : pm_H} {r k b L p : Nat} {B : Nat → Nat} {l s : List Nat}
theorem ke_fail {z : pm_H} (e : m_fact 193 h = some (nI 0, z)) : KtE h = some (nI 0, z) := by
  unfold KtE
  rw [e, Option.bind_some]
  refine (if_neg (fun z => z rfl)).trans ?_
  rfl
theorem ke_done {z : pm_H} (e : m_fact 193 h = some (nI 1, z)) : KtE h = KtD z := by
  unfold KtE
  rw [e, Option.bind_some]
  exact if_pos n10
/-- what comes behind not or an opening -/
theorem ke_open (T : TT h r b B L k l p s) (dl : dep s ≤ 10) (room : s.length < 400) {t : Nat} (ht : (t = 11 ∧ isW B L p wNot = true) ∨ (t = 91 ∧ isW B L p wNot = false ∧ ca B L p = 91)) : if dep s < 10 then ∃ h', FJ r b h h' ∧ TT h' r b B L k l (skp B L (bh B L p)) (t :: s) ∧ KtE h = KtE h' else KEr h r b (KtE h) (1 + 8 * p + 2) := by
  have hB := fun k hk => (T.1.2.1.2.2 k hk).2
  have cl : ca B L p ≤ 256 := ca_le hB
  obtain ⟨h1, e1, f1, T1, a8, _⟩ := m_see_st T.1
  have K1 := f1.sks T.2
  have wn := m_isW_st T1 a8 wd_not.2.1 wd_not.2.2 wd_not.1
  have op := m_opens_n T1 K1 (show t = 11 ∨ t = 91 by omega) dl room a8
  obtain ⟨⟨v, h2⟩, e2, f2, hz⟩ := op
  dsimp only at f2 hz
  rcases ht with ⟨rfl, hw⟩ | ⟨rfl, hw, ec⟩
  · have st : m_fact_2 193 (Int32.ofInt 1) h = (if ¬ v = 0 then ((m_passWord 193 h2).bind fun q11 => some (.inl ((Int32.ofInt 1), q11))) else (some (.inr (.inl h2)))) := by
      unfold m_fact_2
      refine (if_neg (by decide)).trans ?_
      rw [e1, Option.bind_some]
      dsimp only
      rw [wn, Option.bind_some, hw]
      refine (if_neg n10).trans ?_
      dsimp only
      rw [kc_b_11, e2, Option.bind_some]
    by_cases q : dep s < 10
    · rw [if_pos q] at hz ⊢
      obtain ⟨y1, T2, K2, b8⟩ := hz
      subst y1
      have st := st.trans (if_pos n10)
      obtain ⟨e3, f3, T3⟩ := T2.pastw b8 hw
      rw [e3, Option.bind_some] at st
      have pn : pnd (11 :: s) = pnd s + 1 := by show (if 11 = 91 then 0 else 1) + pnd s = _; rw [if_neg (by decide)]; omega
      exact ⟨_, (f1.fj.trans f2).trans f3.fj, ⟨by rw [pn]; exact T3, f3.sks K2⟩, fact_more st⟩
    · rw [if_neg q] at hz ⊢
      obtain ⟨y1, y2⟩ := hz
      subst y1
      rw [if_neg (fun z => z rfl)] at st
      refine ⟨h2, ke_fail ?_, f1.fj.trans f2, y2⟩
      unfold m_fact
      rw [wh_inr (f := fun s : (Int32 × pm_H) => m_fact_2 193 s.1 s.2) (s := (Int32.ofInt 1, h)) st]
      rfl
  · have st : m_fact_2 193 (Int32.ofInt 1) h = (if ¬ v = 0 then (bd (pm_setI h2 193 8 ((h2.2.1 193 8) + (Int32.ofInt 1))) fun h8 => some (.inl ((Int32.ofInt 1), h8))) else (some (.inr (.inr (.inl h2))))) := by
      unfold m_fact_2
      refine (if_neg (by decide)).trans ?_
      rw [e1, Option.bind_some]
      dsimp only
      rw [wn, Option.bind_some, hw]
      refine (if_pos rfl).trans ?_
      dsimp only
      rw [kc_b_91]
      refine (if_neg (fun z => z (by rw [cv_eq cl (by omega)]; exact ec))).trans ?_
      rw [e2, Option.bind_some]
    by_cases q : dep s < 10
    · rw [if_pos q] at hz ⊢
      obtain ⟨y1, T2, K2, b8⟩ := hz
      subst y1
      have st := st.trans (if_pos n10)
      have pL : p < L := (ca_in (show ca B L p ≠ 256 by omega)).1
      have eb : bh B L p = p + 1 := bh_sign ec (by omega) (by omega) (by decide)
      obtain ⟨T3, f3⟩ := T2.past pL
      have st' : m_fact_2 193 (Int32.ofInt 1) h = some (.inl (Int32.ofInt 1, pm_setI h2 193 8 (nI (p + 1)))) := by
        rw [st, b8, kc_i1, nx_add]
        rfl
      have pn : pnd (91 :: s) = pnd s := by show (if 91 = 91 then 0 else 1) + pnd s = _; rw [if_pos rfl, Nat.zero_add]
      rw [eb]
      exact ⟨_, (f1.fj.trans f2).trans f3.fj, ⟨by rw [pn]; exact T3.less (Nat.le_succ _), f3.sks K2⟩, fact_more st'⟩
    · rw [if_neg q] at hz ⊢
      obtain ⟨y1, y2⟩ := hz
      subst y1
      rw [if_neg (fun z => z rfl)] at st
      refine ⟨h2, ke_fail ?_, f1.fj.trans f2, y2⟩
      unfold m_fact
      rw [wh_inr (f := fun s : (Int32 × pm_H) => m_fact_2 193 s.1 s.2) (s := (Int32.ofInt 1, h)) st]
      rfl
/-- a comparison -/
theorem ke_cmp (hr : r < 6) (T : TT h r b B L k l p s) (hw : isW B L p wNot = false) (ec : ca B L p ≠ 91) : match cmpP B L k l p with
    | .inl e => KEr h r b (KtE h) e
    | .inr y => ∃ h', FJ r b h h' ∧ TT h' r b B L y.1 y.2.1 y.2.2 s ∧ KtE h = KtD h' := by
  have hB := fun k hk => (T.1.2.1.2.2 k hk).2
  have cl : ca B L p ≤ 256 := ca_le hB
  obtain ⟨h1, e1, f1, T1, a8, _⟩ := m_see_st T.1
  have K1 := f1.sks T.2
  have wn := m_isW_st T1 a8 wd_not.2.1 wd_not.2.2 wd_not.1
  have st : m_fact_2 193 (Int32.ofInt 1) h = some (.inl (Int32.ofInt 0, h1)) := by
    unfold m_fact_2
    refine (if_neg (by decide)).trans ?_
    rw [e1, Option.bind_some]
    dsimp only
    rw [wn, Option.bind_some, hw]
    refine (if_pos rfl).trans ?_
    dsimp only
    rw [kc_b_91]
    exact if_pos (by rw [cv_eq cl (by omega)]; exact ec)
  have fl := fact_last st
  obtain ⟨⟨v, h2⟩, e2, f2, hz⟩ := m_cmp_st hr T1
  rw [e2, Option.bind_some] at fl
  dsimp only at f2 hz fl
  cases ev : cmpP B L k l p with
  | inl e =>
    rw [ev] at hz
    obtain ⟨y1, y2⟩ := hz
    subst y1
    rw [if_pos mi_bo0] at fl
    exact ⟨h2, ke_fail fl, (f1.trans f2).fj, y2⟩
  | inr y =>
    rw [ev] at hz
    obtain ⟨y1, y2⟩ := hz
    subst y1
    rw [if_pos mi_bo1] at fl
    exact ⟨h2, (f1.trans f2).fj, ⟨y2, f2.sks K1⟩, ke_done fl⟩
end MKF
