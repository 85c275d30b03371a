/-! rule, of the reference. -/
section MRL
variable {h h0 : pm_H} {r k b L p : Nat} {B : Nat → Nat} {cls : List (List Nat × Option (List Nat))}
/-- what is known at the end of a clause -/
def MCo (h0 : pm_H) (r b ln : Nat) (B : Nat → Nat) (L : Nat) (cls : List (List Nat × Option (List Nat))) (o : Nat ⊕ (Nat × (List Nat × Option (List Nat)) × Nat)) (z : Int32 × pm_H) : Prop := FGr r h0 z.2 ∧ (match o with
  | .inl e => z.1 = nI 0 ∧ z.2.2.1 193 9 = nI e
  | .inr y => z.1 = nI 1 ∧ z.2.2.1 193 14 = nI (ln + 1) ∧ ST z.2 r (b + y.2.1.1.length + (teL y.2.1).length) 0 B L y.1 [] y.2.2 ∧ RMb z.2 r (cls ++ [y.2.1]) (b + y.2.1.1.length + (teL y.2.1).length))
def clO (B : Nat → Nat) (L k ln p : Nat) : Nat ⊕ (Nat × (List Nat × Option (List Nat)) × Nat) := if isW B L p wWake = true then (if ln < 12 then cluP B L k (skp B L (bh B L p)) else .inl (1 + 8 * p + 4)) else .inl (1 + 8 * p)
theorem m_rclause_n (hr : r < 6) (T : ST h r b 0 B L k [] p) (K : RMb h r cls b) (e14 : h.2.1 193 14 = nI cls.length) : SP (m_clauseHere 193 h) (MCo h r b cls.length B L cls (clO B L k cls.length p)) := by
  have k12 := K.2.1
  obtain ⟨h1, e1, f1, T1, a8, _⟩ := m_see_st T
  have K1 : RMb h1 r cls b := K.keep (by rw [f1.1.i (by omega) (by omega)]) (fun j hj => f1.2.1 j (by omega)) (fun j hj => by rw [f1.1.i (by omega) (by omega)])
  have b14 : h1.2.1 193 14 = nI cls.length := by rw [f1.1.f (by omega)]; exact e14
  have q1 := m_isW_st T1 a8 (w4ok.1 wSh (by simp)).1 (w4ok.1 wSh (by simp)).2 w4ok.2.1
  have q2 := m_isW_st T1 a8 (w4ok.1 wMa (by simp)).1 (w4ok.1 wMa (by simp)).2 w4ok.2.2.1
  have q3 := m_isW_st T1 a8 (w4ok.1 wOr (by simp)).1 (w4ok.1 wOr (by simp)).2 w4ok.2.2.2.1
  have q4 := m_isW_st T1 a8 (w4ok.1 wMe (by simp)).1 (w4ok.1 wMe (by simp)).2 w4ok.2.2.2.2
  have qw := m_isW_st T1 a8 wd_wake.2.1 wd_wake.2.2 wd_wake.1
  have any : ∀ v : Int32, SP (m_clauseHere_70 193 (nI p) (nI 0) v h1) (MCo h r b cls.length B L cls (clO B L k cls.length p)) := by
    intro v
    unfold m_clauseHere_70
    refine sp_pos rfl ?_
    rw [qw, Option.bind_some]
    unfold clO
    cases ew : isW B L p wWake with
    | false =>
      rw [if_neg (show ¬ (false = true) by decide)]
      refine sp_neg (fun z => z rfl) ?_
      unfold m_clauseHere_92
      rw [kc_i0, m_fails_n T1.2.2.2.1, Option.bind_some]
      exact sp_pos mi_bo0 (sp_some.mpr ⟨f1.fgr.sF (by omega), rfl, ri_s _⟩)
    | true =>
      rw [if_pos (show true = true from rfl)]
      refine sp_pos n10 ?_
      unfold m_clauseHere_99
      refine sp_pos rfl ?_
      unfold m_clauseHere_114
      dsimp only
      rw [b14, kc_b_12]
      by_cases q : cls.length < 12
      · rw [if_pos q]
        refine sp_pos (by rw [nx_eq (by omega) (by omega)]; omega) ?_
        rw [sp_bd, kc_i1, nx_add]
        refine sp_pos rfl ?_
        have g2 : FrM (fun c => c = 197 ∨ c = 198) (fun j => j = 14) h1 (pm_setI h1 193 14 (nI (cls.length + 1))) := (FrM.refl _ _ h1).setF rfl
        refine sp_call (m_wake_n hr (T1.oth g2) (by rw [ri_j _ (by omega)]; exact a8) ew (K1.keep (by rw [ri_c _ (by omega)]) (fun j hj => by rw [ri_c _ (by omega)]) (fun j hj => by rw [ri_c _ (by omega)])) q) ?_
        rintro ⟨v, h2⟩ ⟨f2, c14, hz⟩
        dsimp only at f2 c14 hz ⊢
        rw [ri_s] at c14
        have f02 : FGr r h h2 := (f1.fgr.sF (by omega)).trans f2
        cases ev : cluP B L k (skp B L (bh B L p)) with
        | inl e =>
          rw [ev] at hz
          obtain ⟨y1, y2⟩ := hz
          subst y1
          exact sp_pos mi_bo0 (sp_some.mpr ⟨f02, rfl, y2⟩)
        | inr y =>
          rw [ev] at hz
          obtain ⟨y1, y2, y3⟩ := hz
          subst y1
          exact sp_pos mi_bo1 (sp_some.mpr ⟨f02, rfl, c14, y2, y3⟩)
      · rw [if_neg q]
        refine sp_neg (fun z => z (by rw [nx_eq (by omega) (by omega)]; omega)) ?_
        rw [kc_i4, m_fails_n T1.2.2.2.1, Option.bind_some]
        exact sp_pos mi_bo0 (sp_some.mpr ⟨f1.fgr.sF (by omega), rfl, ri_s _⟩)
  have a65 : SP (m_clauseHere_65 193 (nI p) (nI 0) h1) (MCo h r b cls.length B L cls (clO B L k cls.length p)) := by
    unfold m_clauseHere_65
    exact any _
  unfold m_clauseHere
  rw [e1, Option.bind_some]
  dsimp only
  rw [T1.2.2.1.2.1, a8, kc_b_6, kc_i0]
  refine sp_pos (by rw [nx_eq (by omega) (by omega)]; omega) ?_
  unfold m_clauseHere_24
  rw [q1, Option.bind_some]
  cases isW B L p wSh with
  | true => exact sp_pos n10 a65
  | false =>
    refine sp_neg (fun z => z rfl) ?_
    dsimp only
    rw [q2, Option.bind_some]
    cases isW B L p wMa with
    | true => exact sp_pos n10 a65
    | false =>
      refine sp_neg (fun z => z rfl) ?_
      dsimp only
      rw [q3, Option.bind_some]
      cases isW B L p wOr with
      | true => exact sp_pos n10 a65
      | false =>
        refine sp_neg (fun z => z rfl) ?_
        dsimp only
        rw [q4, Option.bind_some]
        cases isW B L p wMe with
        | true => exact sp_neg n10 a65
        | false => exact sp_pos rfl (any _)
/-- what the text is from the end of a clause on -/
def clR (B : Nat → Nat) (L f ln : Nat) (cls : List (List Nat × Option (List Nat))) (o : Nat ⊕ (Nat × (List Nat × Option (List Nat)) × Nat)) : Nat ⊕ List (List Nat × Option (List Nat)) := match o with
  | .inl e => .inl e
  | .inr y => if ca B L y.2.2 = 256 then .inr (cls ++ [y.2.1]) else if ca B L y.2.2 = 59 then rulP B L f (ln + 1) y.1 (cls ++ [y.2.1]) (skp B L (bh B L y.2.2)) else .inl (1 + 8 * y.2.2)
theorem rulP_clR (B : Nat → Nat) (L f ln k : Nat) (cls : List (List Nat × Option (List Nat))) (p : Nat) : rulP B L (f + 1) ln k cls p = clR B L f ln cls (clO B L k ln p) := by
  rw [rulP]
  unfold clO clR
  by_cases q1 : isW B L p wWake = true
  · rw [if_pos q1, if_pos q1]
    by_cases q2 : ln < 12
    · rw [if_pos q2, if_pos q2]
      cases cluP B L k (skp B L (bh B L p)) <;> rfl
    · rw [if_neg q2, if_neg q2]
  · rw [if_neg q1, if_neg q1]
/-- the end of the loop of the clauses -/
def MRo (h0 : pm_H) (r : Nat) (B : Nat → Nat) (L : Nat) (o : Nat ⊕ List (List Nat × Option (List Nat))) (z : Int32 × pm_H) : Prop := FGr r h0 z.2 ∧ (match o with
  | .inl e => (z.1 = nI 0 ∧ z.2.2.1 193 9 = nI e) ∨ (z.1 = nI 1 ∧ ∃ b k p, ST z.2 r b 0 B L k [] p ∧ ca B L p ≠ 256 ∧ e = 1 + 8 * p)
  | .inr cl => z.1 = nI 1 ∧ ∃ b k p, ST z.2 r b 0 B L k [] p ∧ ca B L p = 256 ∧ RMb z.2 r cl b)
theorem m_rtextW (hr : r < 6) : ∀ (f b : Nat) (cls : List (List Nat × Option (List Nat))) (o : Nat ⊕ (Nat × (List Nat × Option (List Nat)) × Nat)) (z : Int32 × pm_H), MCo h0 r b cls.length B L cls o z → (∀ y, o = .inr y → cls.length < 12) → f + cls.length = 12 → SP (wh (fun s : (Int32 × pm_H) => m_readsAll_35 193 s.1 s.2) z) (MRo h0 r B L (clR B L f cls.length cls o))
  | f, b, cls, .inl e, z, hz, ho, hf => by
    obtain ⟨v, h1⟩ := z
    obtain ⟨f1, y1, y2⟩ := hz
    dsimp only at f1 y1 y2
    subst y1
    have st : m_readsAll_35 193 (nI 0) h1 = some (.inr (nI 0, h1)) := by
      unfold m_readsAll_35
      exact if_pos rfl
    exact ⟨_, wh_inr st, f1, .inl ⟨rfl, y2⟩⟩
  | f, b, cls, .inr y, z, hz, ho, hf => by
    obtain ⟨v, h1⟩ := z
    obtain ⟨f1, y1, y14, T1, K1⟩ := hz
    dsimp only at f1 y1 y14 T1 K1
    subst y1
    have lt := ho y rfl
    have hB := fun k hk => (T1.2.1.2.2 k hk).2
    have cl : ca B L y.2.2 ≤ 256 := ca_le hB
    obtain ⟨h2, e2, f2, T2, a8, _⟩ := m_see_st T1
    have K2 : RMb h2 r (cls ++ [y.2.1]) (b + y.2.1.1.length + (teL y.2.1).length) := K1.keep (by rw [f2.1.i (by omega) (by omega)]) (fun j hj => f2.2.1 j (by omega)) (fun j hj => by rw [f2.1.i (by omega) (by omega)])
    have b14 : h2.2.1 193 14 = nI (cls.length + 1) := by rw [f2.1.f (by omega)]; exact y14
    have f02 := f1.trans f2.fgr
    have stop : ca B L y.2.2 ≠ 59 → m_readsAll_35 193 (nI 1) h1 = some (.inr (nI 1, h2)) := by
      intro ne
      unfold m_readsAll_35
      refine (if_neg n10).trans ?_
      rw [e2, Option.bind_some, kc_b_59]
      exact if_pos (by rw [cv_eq cl (by omega)]; exact ne)
    unfold clR
    dsimp only
    by_cases en : ca B L y.2.2 = 256
    · rw [if_pos en]
      exact ⟨_, wh_inr (stop (by omega)), f02, rfl, _, _, _, T2, en, K2⟩
    · rw [if_neg en]
      by_cases e59 : ca B L y.2.2 = 59
      · rw [if_pos e59]
        have pL : y.2.2 < L := (ca_in en).1
        have eb : bh B L y.2.2 = y.2.2 + 1 := bh_sign e59 (by omega) (by omega) (by decide)
        obtain ⟨T3, f3⟩ := T2.past pL
        have K3 : RMb (pm_setI h2 193 8 (nI (y.2.2 + 1))) r (cls ++ [y.2.1]) (b + y.2.1.1.length + (teL y.2.1).length) := K2.keep (by rw [ri_c _ (by omega)]) (fun j hj => by rw [ri_c _ (by omega)]) (fun j hj => by rw [ri_c _ (by omega)])
        have ll : (cls ++ [y.2.1]).length = cls.length + 1 := List.length_append
        have c14 : (pm_setI h2 193 8 (nI (y.2.2 + 1))).2.1 193 14 = nI (cls ++ [y.2.1]).length := by rw [ri_j _ (by omega), ll]; exact b14
        obtain ⟨z4, ez4, g4, mz4⟩ := m_rclause_n hr (T3.less (Nat.zero_le _)) K3 c14
        have go : m_readsAll_35 193 (nI 1) h1 = some (.inl z4) := by
          unfold m_readsAll_35
          refine (if_neg n10).trans ?_
          rw [e2, Option.bind_some, kc_b_59]
          refine (if_neg (by rw [cv_eq cl (by omega)]; exact fun z => z e59)).trans ?_
          show (m_clauseHere 193 (pm_setI h2 193 8 (h2.2.1 193 8 + Int32.ofInt 1))).bind _ = _
          rw [a8, kc_i1, nx_add, ez4, Option.bind_some]
        rw [wh_inl go, eb]
        obtain ⟨f, rfl⟩ | q0 : (∃ f', f = f' + 1) ∨ f = 0 := by
          cases f with
          | zero => exact .inr rfl
          | succ f => exact .inl ⟨f, rfl⟩
        · have i := m_rtextW hr f (b + y.2.1.1.length + (teL y.2.1).length) (cls ++ [y.2.1]) (clO B L y.1 (cls ++ [y.2.1]).length (skp B L (y.2.2 + 1))) z4 ⟨(f02.trans f3.fgr).trans g4, mz4⟩ (fun y' ey' => by
            unfold clO at ey'
            split at ey'
            · split at ey'
              · assumption
              · cases ey'
            · cases ey') (by omega)
          rw [← rulP_clR, ll] at i
          exact i
        · exfalso
          omega
      · rw [if_neg e59]
        exact ⟨_, wh_inr (stop e59), f02, .inr ⟨rfl, _, _, _, T2, en, rfl⟩⟩
end MRL
