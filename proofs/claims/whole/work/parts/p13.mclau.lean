/-! A ship's text: any clause, and all of it, read by the reference. -/
def wSh : List Nat := [115, 104, 105, 112]
def wMa : List Nat := [109, 97, 110]
def wOr : List Nat := [111, 114, 100, 101, 114]
def wMe : List Nat := [109, 101, 97, 110, 115]
theorem w4ok : (∀ w ∈ [wSh, wMa, wOr, wMe], (∀ x ∈ w, 0 < x ∧ x < 256) ∧ w.length < 8) ∧ (1936222576 : Int64) = qN (pkw wSh) ∧ (7168366 : Int64) = qN (pkw wMa) ∧ (478660552050 : Int64) = qN (pkw wOr) ∧ (469852319347 : Int64) = qN (pkw wMe) := by decide +kernel
section MAL
variable {h : pm_H} {L p q : Nat} {B : Nat → Nat} {D : Nat → Int32}
/-- one unit is one word at most -/
theorem isW_one {w w' : List Nat} (h1 : isW B L p w = true) (h2 : isW B L p w' = true) : w = w' := by
  obtain ⟨_, a2, a3⟩ := isW_t.mp h1
  obtain ⟨_, b2, b3⟩ := isW_t.mp h2
  have l : w.length = w'.length := by omega
  rw [← tl_of w, ← tl_of w', l]
  exact tl_congr (fun i hi => by rw [← a3 i (by omega), b3 i hi])
theorem isW_k2 {w : List Nat} (h1 : isW B L p w = true) : kd (ca B L p) = 2 := (isW_t.mp h1).1
/-- the state in which a word is looked for -/
theorem m_word (R : RF h) (C : MT h L B) (e8 : h.2.1 193 8 = nI p) (hp : p ≤ L) (cp : ca B L p ≠ 32) {w : List Nat} (hw : (∀ x ∈ w, 0 < x ∧ x < 256) ∧ w.length < 8) {V : Int64} (eV : V = qN (pkw w)) : m_isWord 193 V h = some (nI (isW B L p w).toNat, h) := by
  have := m_isWord_n R C e8 hp hw.1 hw.2 eV
  rw [skp_id cp, ← e8, setI_self] at this
  exact this
theorem m_lineH (R : RF h) (C : MT h L B) (e199 : h.2.1 199 = D) (e8 : h.2.1 193 8 = nI p) (hp : p ≤ L) (cp : ca B L p ≠ 32) (e9 : h.2.1 193 9 = nI 0) (W : WR D) {k : Nat} (ek : widx B L p ws4 0 = some k) : SP (m_shipLineHere 193 (nI p) h) (MO h B L (if k = 0 then (if an D 0 = 0 then clShip B L D (skp B L (bh B L p)) else .inl (1 + 8 * p + 4)) else if an D 0 = 0 then .inl (1 + 8 * p + 4) else if k = 1 then (if an D 1 = 8 then .inl (1 + 8 * p + 4) else clMan B L D (skp B L (bh B L p))) else if k = 2 then (if an D 2 = 8 then .inl (1 + 8 * p + 4) else clOrd B L D (skp B L (bh B L p))) else (if an D 3 = 10 then .inl (1 + 8 * p + 4) else clMea B L D (skp B L (bh B L p))))) := by
  have c0 := W.c0
  have q1 := m_word R C e8 hp cp (w4ok.1 wSh (by simp)) w4ok.2.1
  have q2 := m_word R C e8 hp cp (w4ok.1 wMa (by simp)) w4ok.2.2.1
  have q3 := m_word R C e8 hp cp (w4ok.1 wOr (by simp)) w4ok.2.2.2.1
  have fin : ∀ (o : CLO) (m : Option (Int32 × pm_H)), SP m (MO h B L o) → SP (m.bind fun q7 => if mi_bo q7.1 = true then some (q7.1, q7.2) else none) (MO h B L o) := by
    intro o m hm
    refine sp_call hm ?_
    rintro ⟨v, h2⟩ ⟨fh, hz⟩
    cases o with
    | inl e =>
      obtain ⟨y1, y2⟩ := hz
      dsimp only at y1 y2
      subst y1
      exact sp_pos mi_bo0 (sp_some.mpr ⟨fh, rfl, y2⟩)
    | inr q =>
      obtain ⟨y1, y2⟩ := hz
      dsimp only at y1 y2
      subst y1
      exact sp_pos mi_bo1 (sp_some.mpr ⟨fh, rfl, y2⟩)
  have w4 : widx B L p ws4 0 = if isW B L p wSh = true then some 0 else if isW B L p wMa = true then some 1 else if isW B L p wOr = true then some 2 else if isW B L p wMe = true then some 3 else none := rfl
  rw [w4] at ek
  unfold m_shipLineHere
  rw [q1, Option.bind_some]
  cases i1 : isW B L p wSh with
  | true =>
    rw [i1] at ek
    have : k = 0 := by cases ek; rfl
    rw [if_pos this]
    exact sp_neg n10 (fin _ _ (m_shipH R C e199 e8 hp e9 (isW_k2 i1) W))
  | false =>
    rw [i1, if_neg (by decide)] at ek
    refine sp_pos rfl ?_
    dsimp only
    rw [ra_193_7 R, Option.bind_some, mn_199, kc_i0, gi_n (by omega), nx_cl (by omega), e199, c0.1]
    refine sp_pos (dec_t (by omega)) ?_
    have k0 : k ≠ 0 := by
      intro z
      subst z
      split at ek
      · cases ek
      · split at ek
        · cases ek
        · split at ek <;> cases ek
    rw [if_neg k0]
    by_cases z0 : an D 0 = 0
    · rw [if_pos z0]
      refine sp_neg (fun z => z (by rw [z0]; rfl)) ?_
      rw [kc_i4, m_fails_n e9, Option.bind_some]
      exact sp_pos mi_bo0 (sp_some.mpr ⟨(FrM.refl _ _ h).setF (by omega), rfl, ri_s _⟩)
    · rw [if_neg z0]
      refine sp_pos (by rw [kc_0, nx_eq (by omega) (by omega)]; exact z0) ?_
      rw [q2, Option.bind_some]
      cases i2 : isW B L p wMa with
      | true =>
        rw [i2] at ek
        have : k = 1 := by cases ek; rfl
        rw [if_pos this]
        exact sp_neg n10 (fin _ _ (m_manH R C e199 e8 hp e9 (isW_k2 i2) W (by omega)))
      | false =>
        rw [i2, if_neg (by decide)] at ek
        refine sp_pos rfl ?_
        dsimp only
        rw [q3, Option.bind_some]
        cases i3 : isW B L p wOr with
        | true =>
          rw [i3] at ek
          have : k = 2 := by cases ek; rfl
          rw [if_neg (show ¬ k = 1 by omega), if_pos this]
          exact sp_neg n10 (fin _ _ (m_ordH R C e199 e8 hp e9 (isW_k2 i3) W (by omega)))
        | false =>
          rw [i3, if_neg (by decide)] at ek
          have i4 : isW B L p wMe = true := by
            cases z : isW B L p wMe with
            | true => rfl
            | false => rw [z] at ek; cases ek
          rw [i4] at ek
          have : k = 3 := by cases ek; rfl
          rw [if_neg (show ¬ k = 1 by omega), if_neg (show ¬ k = 2 by omega)]
          exact sp_pos rfl (fin _ _ (m_meaH R C e199 e8 hp e9 (isW_k2 i4) W (by omega)))
def FZ (h h' : pm_H) : Prop := FrM (· = 199) (fun j => j = 8 ∨ j = 9 ∨ j = 10 ∨ j = 14) h h'
theorem FY.fz {h' : pm_H} (f : FY h h') : FZ h h' := f.mono (fun _ q => q) (fun j hj => by omega)
theorem FZ.mt {h' : pm_H} (f : FZ h h') (C : MT h L B) : MT h' L B := ⟨by rw [f.f (by omega)]; exact C.1, C.2.1, fun k hk => by rw [f.i (by omega) (by omega)]; exact C.2.2 k hk⟩
def MZ (h : pm_H) (B : Nat → Nat) (L ln : Nat) (o : CLO) (z : Int32 × pm_H) : Prop := FZ h z.2 ∧ (match o with
  | .inl e => z.1 = nI 0 ∧ z.2.2.1 193 9 = nI e
  | .inr r => z.1 = nI 1 ∧ z.2.2.1 193 9 = nI 0 ∧ z.2.2.1 199 = r.2 ∧ z.2.2.1 193 14 = nI (ln + 1) ∧ ∃ q', z.2.2.1 193 8 = nI q' ∧ q' ≤ L ∧ skp B L q' = r.1)
theorem m_clause_n (R : RF h) (C : MT h L B) (e199 : h.2.1 199 = D) (e8 : h.2.1 193 8 = nI q) (hq : q ≤ L) (e9 : h.2.1 193 9 = nI 0) {ln : Nat} (T : BT D ln) (e14 : h.2.1 193 14 = nI ln) (e11 : h.2.1 193 11 = nI 6) : SP (m_clauseHere 193 h) (MZ h B L ln (clAt B L D ln (skp B L q))) := by
  obtain ⟨W, t1, t2, t3⟩ := T
  have hL := C.2.1
  have c0 := W.c0
  have c1 := W.c1
  have c2 := W.c2
  have c3 := W.c3
  have sg := skp_ge (B := B) hq
  have sc := skp_ca (B := B) hq
  unfold m_clauseHere
  rw [m_see_n R C e8 hq, Option.bind_some]
  generalize skp B L q = p at sg sc ⊢
  dsimp only
  have f1 : FX h (pm_setI h 193 8 (nI p)) := fx8 h (nI p)
  have a8 : (pm_setI h 193 8 (nI p)).2.1 193 8 = nI p := ri_s _
  have a9 : (pm_setI h 193 8 (nI p)).2.1 193 9 = nI 0 := by rw [ri_j _ (by omega)]; exact e9
  have a14 : (pm_setI h 193 8 (nI p)).2.1 193 14 = nI ln := by rw [ri_j _ (by omega)]; exact e14
  have a11 : (pm_setI h 193 8 (nI p)).2.1 193 11 = nI 6 := by rw [ri_j _ (by omega)]; exact e11
  have a199 : (pm_setI h 193 8 (nI p)).2.1 199 = D := by rw [f1.i (by omega) id]; exact e199
  generalize pm_setI h 193 8 (nI p) = h1 at f1 a8 a9 a14 a11 a199 ⊢
  have R1 := R.fm f1
  have C1 := f1.mt C
  rw [a11, a8]
  refine sp_neg (fun z => z (by decide)) ?_
  have q1 := m_word R1 C1 a8 sg.2 sc (w4ok.1 wSh (by simp)) w4ok.2.1
  have q2 := m_word R1 C1 a8 sg.2 sc (w4ok.1 wMa (by simp)) w4ok.2.2.1
  have q3 := m_word R1 C1 a8 sg.2 sc (w4ok.1 wOr (by simp)) w4ok.2.2.2.1
  have q4 := m_word R1 C1 a8 sg.2 sc (w4ok.1 wMe (by simp)) w4ok.2.2.2.2
  have w4 : widx B L p ws4 0 = if isW B L p wSh = true then some 0 else if isW B L p wMa = true then some 1 else if isW B L p wOr = true then some 2 else if isW B L p wMe = true then some 3 else none := rfl
  have e24 : m_clauseHere_24 193 (nI p) (Int32.ofInt 1) h1 = m_clauseHere_70 193 (nI p) (nI 1) (nI (widx B L p ws4 0).isSome.toNat) h1 := by
    unfold m_clauseHere_24 m_clauseHere_65
    rw [kc_i1, kc_i0, q1, Option.bind_some, w4]
    cases i1 : isW B L p wSh with
    | true => exact if_pos n10
    | false =>
      refine (if_neg (fun z => z rfl)).trans ?_
      dsimp only
      rw [q2, Option.bind_some]
      cases i2 : isW B L p wMa with
      | true => exact if_pos n10
      | false =>
        refine (if_neg (fun z => z rfl)).trans ?_
        dsimp only
        rw [q3, Option.bind_some]
        cases i3 : isW B L p wOr with
        | true => exact if_pos n10
        | false =>
          refine (if_neg (fun z => z rfl)).trans ?_
          dsimp only
          rw [q4, Option.bind_some]
          cases i4 : isW B L p wMe with
          | true => exact if_neg n10
          | false => exact if_pos rfl
  rw [e24]
  unfold m_clauseHere_70 clAt
  refine sp_neg (fun z => n10 z) ?_
  cases ek : widx B L p ws4 0 with
  | none =>
    refine sp_neg (fun z => z rfl) ?_
    unfold m_clauseHere_92
    rw [kc_i0, m_fails_n a9, Option.bind_some]
    exact sp_pos mi_bo0 (sp_some.mpr ⟨f1.fy.fz.setF (by omega), rfl, ri_s _⟩)
  | some k =>
    have kl := widx_lt ws4 0 k ek
    have k4 : k < 4 := Nat.lt_of_lt_of_eq kl.2 rfl
    dsimp only
    refine sp_pos n10 ?_
    unfold m_clauseHere_99 m_clauseHere_114
    rw [a14, kc_b_40, kc_i4, kc_i1]
    refine sp_neg (fun z => n10 z) ?_
    by_cases l40 : ln = 40
    · rw [if_pos (show ¬ (k = 0 ↔ ln = 0) ∨ 40 ≤ ln ∨ (k = 1 ∧ 8 ≤ an D 1) ∨ (k = 2 ∧ 8 ≤ an D 2) ∨ (k = 3 ∧ 10 ≤ an D 3) from .inr (.inl (by omega)))]
      refine sp_neg (fun z => z (by rw [l40])) ?_
      rw [m_fails_n a9, Option.bind_some]
      exact sp_pos mi_bo0 (sp_some.mpr ⟨f1.fy.fz.setF (by omega), rfl, ri_s _⟩)
    · refine sp_pos (by rw [nx_eq (by omega) (by omega)]; exact l40) ?_
      rw [sp_bd, nx_add]
      refine sp_neg (fun z => n10 z) ?_
      have f2 : FZ h1 (pm_setI h1 193 14 (nI (ln + 1))) := (FrM.refl _ _ h1).setF (by omega)
      have b8 : (pm_setI h1 193 14 (nI (ln + 1))).2.1 193 8 = nI p := by rw [ri_j _ (by omega)]; exact a8
      have b9 : (pm_setI h1 193 14 (nI (ln + 1))).2.1 193 9 = nI 0 := by rw [ri_j _ (by omega)]; exact a9
      have b199 : (pm_setI h1 193 14 (nI (ln + 1))).2.1 199 = D := by
        rw [← a199]
        funext j
        exact ri_c _ (by omega)
      have b14 : (pm_setI h1 193 14 (nI (ln + 1))).2.1 193 14 = nI (ln + 1) := ri_s _
      generalize pm_setI h1 193 14 (nI (ln + 1)) = h2 at f2 b8 b9 b199 b14 ⊢
      have eo : (if k = 0 then (if an D 0 = 0 then clShip B L D (skp B L (bh B L p)) else .inl (1 + 8 * p + 4)) else if an D 0 = 0 then .inl (1 + 8 * p + 4) else if k = 1 then (if an D 1 = 8 then .inl (1 + 8 * p + 4) else clMan B L D (skp B L (bh B L p))) else if k = 2 then (if an D 2 = 8 then .inl (1 + 8 * p + 4) else clOrd B L D (skp B L (bh B L p))) else (if an D 3 = 10 then .inl (1 + 8 * p + 4) else clMea B L D (skp B L (bh B L p))) : CLO) = (if ¬ (k = 0 ↔ ln = 0) ∨ 40 ≤ ln ∨ (k = 1 ∧ 8 ≤ an D 1) ∨ (k = 2 ∧ 8 ≤ an D 2) ∨ (k = 3 ∧ 10 ≤ an D 3) then .inl (1 + 8 * p + 4) else if k = 0 then clShip B L D (skp B L (bh B L p)) else if k = 1 then clMan B L D (skp B L (bh B L p)) else if k = 2 then clOrd B L D (skp B L (bh B L p)) else clMea B L D (skp B L (bh B L p))) := by
        by_cases k0 : k = 0
        · rw [if_pos k0]
          by_cases z0 : an D 0 = 0
          · have l0 := t1.mpr z0
            rw [if_pos z0, if_neg (by omega), if_pos k0]
          · have l0 : ¬ ln = 0 := fun z => z0 (t1.mp z)
            rw [if_neg z0, if_pos (by omega)]
        · rw [if_neg k0]
          by_cases z0 : an D 0 = 0
          · have l0 := t1.mpr z0
            rw [if_pos z0, if_pos (by omega)]
          · have l0 : ¬ ln = 0 := fun z => z0 (t1.mp z)
            rw [if_neg z0]
            by_cases k1 : k = 1
            · rw [if_pos k1]
              by_cases m8 : an D 1 = 8
              · rw [if_pos m8, if_pos (by omega)]
              · rw [if_neg m8, if_neg (by omega), if_neg k0, if_pos k1]
            · rw [if_neg k1]
              by_cases k2 : k = 2
              · rw [if_pos k2]
                by_cases m8 : an D 2 = 8
                · rw [if_pos m8, if_pos (by omega)]
                · rw [if_neg m8, if_neg (by omega), if_neg k0, if_neg k1, if_pos k2]
              · rw [if_neg k2]
                by_cases m8 : an D 3 = 10
                · rw [if_pos m8, if_pos (by omega)]
                · rw [if_neg m8, if_neg (by omega), if_neg k0, if_neg k1, if_neg k2]
      rw [← eo]
      have f12 : FZ h h2 := f1.fy.fz.trans f2
      refine sp_call (m_lineH (R1.fm f2) (f2.mt C1) b199 b8 sg.2 sc b9 W ek) ?_
      generalize (if k = 0 then (if an D 0 = 0 then clShip B L D (skp B L (bh B L p)) else .inl (1 + 8 * p + 4)) else if an D 0 = 0 then .inl (1 + 8 * p + 4) else if k = 1 then (if an D 1 = 8 then .inl (1 + 8 * p + 4) else clMan B L D (skp B L (bh B L p))) else if k = 2 then (if an D 2 = 8 then .inl (1 + 8 * p + 4) else clOrd B L D (skp B L (bh B L p))) else (if an D 3 = 10 then .inl (1 + 8 * p + 4) else clMea B L D (skp B L (bh B L p))) : CLO) = o
      rintro ⟨v, h3⟩ ⟨f3, hz⟩
      dsimp only at f3
      cases o with
      | inl e =>
        obtain ⟨y1, y2⟩ := hz
        dsimp only at y1 y2
        subst y1
        exact sp_pos mi_bo0 (sp_some.mpr ⟨f12.trans f3.fz, rfl, y2⟩)
      | inr r =>
        obtain ⟨y1, y2, y3, y4⟩ := hz
        dsimp only at y1 y2 y3 y4
        subst y1
        exact sp_pos mi_bo1 (sp_some.mpr ⟨f12.trans f3.fz, rfl, y2, y3, by rw [f3.f (by omega)]; exact b14, y4⟩)
/-- the text from a clause on -/
theorem m_textW : ∀ (f ln : Nat) (D : Nat → Int32) (o : CLO) (h : pm_H) (z : Int32 × pm_H), RF h → MT h L B → MZ h B L ln o z → h.2.1 193 11 = nI 6 → (∀ r, o = .inr r → BT r.2 (ln + 1) ∧ r.1 ≤ L ∧ ca B L r.1 ≠ 32 ∧ ln < 40) → f + ln = 40 → SP (wh (fun s : (Int32 × pm_H) => m_readsAll_35 193 s.1 s.2) z) (fun y => FZ h y.2 ∧ (match o with
    | .inl e => y.1 = nI 0 ∧ y.2.2.1 193 9 = nI e
    | .inr r => (match (if ca B L r.1 = 256 then (.inr r.2 : Nat ⊕ (Nat → Int32)) else if ca B L r.1 = 59 then shP B L f (ln + 1) (skp B L (r.1 + 1)) r.2 else .inl (1 + 8 * r.1)) with
      | .inr D' => y.1 = nI 1 ∧ y.2.2.1 193 9 = nI 0 ∧ y.2.2.1 199 = D' ∧ ∃ q', y.2.2.1 193 8 = nI q' ∧ q' ≤ L ∧ ca B L (skp B L q') = 256
      | .inl e => (y.1 = nI 0 ∧ y.2.2.1 193 9 = nI e) ∨ (y.1 = nI 1 ∧ y.2.2.1 193 9 = nI 0 ∧ ∃ q', y.2.2.1 193 8 = nI q' ∧ q' ≤ L ∧ ca B L (skp B L q') ≠ 256 ∧ e = 1 + 8 * skp B L q'))))
  | f, ln, D, .inl e, h, z, R, C, hz, e11, ho, hf => by
    obtain ⟨v, h1⟩ := z
    obtain ⟨f1, y1, y2⟩ := hz
    dsimp only at f1 y1 y2
    subst y1
    have st : m_readsAll_35 193 (nI 0) h1 = some (.inr (nI 0, h1)) := by
      unfold m_readsAll_35
      exact if_pos rfl
    exact ⟨_, wh_inr st, f1, rfl, y2⟩
  | f, ln, D, .inr r, h, z, R, C, hz, e11, ho, hf => by
    obtain ⟨v, h1⟩ := z
    obtain ⟨f1, y1, y2, y3, y14, q', y4, y5, y6⟩ := hz
    dsimp only at f1 y1 y2 y3 y14 y4
    subst y1
    obtain ⟨T1, r1, r2, r3⟩ := ho r rfl
    have hL := C.2.1
    have hB := fun k hk => (C.2.2 k hk).2
    have R1 := R.fm f1
    have C1 := f1.mt C
    have se := m_see_n R1 C1 y4 y5
    rw [y6] at se
    have cl : ca B L r.1 ≤ 256 := ca_le hB
    have f2 : FX h1 (pm_setI h1 193 8 (nI r.1)) := fx8 h1 (nI r.1)
    have sid : skp B L r.1 = r.1 := skp_id r2
    have stop : ca B L r.1 ≠ 59 → m_readsAll_35 193 (nI 1) h1 = some (.inr (nI 1, pm_setI h1 193 8 (nI r.1))) := by
      intro ne
      unfold m_readsAll_35
      refine (if_neg n10).trans ?_
      rw [se, Option.bind_some, kc_b_59]
      exact if_pos (by rw [cv_eq cl (by omega)]; exact ne)
    by_cases en : ca B L r.1 = 256
    · dsimp only
      rw [if_pos en]
      refine ⟨_, wh_inr (stop (by omega)), f1.trans f2.fy.fz, rfl, ?_, ?_, r.1, ri_s _, r1, by rw [sid]; exact en⟩
      · show (pm_setI h1 193 8 (nI r.1)).2.1 193 9 = nI 0
        rw [ri_j _ (by omega)]; exact y2
      · show (pm_setI h1 193 8 (nI r.1)).2.1 199 = r.2
        rw [f2.i (by omega) id]; exact y3
    · by_cases e59 : ca B L r.1 = 59
      · dsimp only
        rw [if_neg en, if_pos e59]
        have rL : r.1 < L := by
          apply Classical.byContradiction
          intro q2
          exact en (by unfold ca; rw [if_neg q2])
        have f3 : FX h1 (pm_setI h1 193 8 (nI (r.1 + 1))) := fx8 h1 _
        have f03 : FZ h (pm_setI h1 193 8 (nI (r.1 + 1))) := f1.trans f3.fy.fz
        have C3 := f3.mt C1
        have R3 := R1.fm f3
        have e311 : (pm_setI h1 193 8 (nI (r.1 + 1))).2.1 193 11 = nI 6 := by rw [ri_j _ (by omega), f1.f (by omega)]; exact e11
        obtain ⟨z4, ez4, mz4⟩ := m_clause_n R3 C3 (D := r.2) (q := r.1 + 1) (ln := ln + 1) (by rw [f3.i (by omega) id]; exact y3) (ri_s _) (by omega) (by rw [ri_j _ (by omega)]; exact y2) T1 (by rw [ri_j _ (by omega)]; exact y14) e311
        have go : m_readsAll_35 193 (nI 1) h1 = some (.inl z4) := by
          unfold m_readsAll_35
          refine (if_neg n10).trans ?_
          rw [se, Option.bind_some, kc_b_59]
          refine (if_neg (by rw [cv_eq cl (by omega)]; exact fun z => z e59)).trans ?_
          have : (pm_setI (pm_setI h1 193 8 (nI r.1)) 193 8 ((pm_setI h1 193 8 (nI r.1)).2.1 193 8 + Int32.ofInt 1)) = pm_setI h1 193 8 (nI (r.1 + 1)) := by rw [setI_over, ri_s, kc_i1, nx_add]
          show (m_clauseHere 193 (pm_setI (pm_setI h1 193 8 (nI r.1)) 193 8 ((pm_setI h1 193 8 (nI r.1)).2.1 193 8 + Int32.ofInt 1))).bind _ = _
          rw [this, ez4, Option.bind_some]
        rw [wh_inl go]
        obtain ⟨f, rfl⟩ : ∃ f', f = f' + 1 := ⟨f - 1, by omega⟩
        have pl : skp B L (r.1 + 1) ≤ L := (skp_ge (B := B) (L := L) (p := r.1 + 1) (by omega)).2
        refine (m_textW f (ln + 1) r.2 (clAt B L r.2 (ln + 1) (skp B L (r.1 + 1))) (pm_setI h1 193 8 (nI (r.1 + 1))) z4 R3 C3 mz4 e311 (fun r' er' => cl_wr T1 er' pl) (by omega)).mono ?_
        rintro ⟨v5, h5⟩ ⟨f5, hz5⟩
        refine ⟨f03.trans f5, ?_⟩
        rw [shP]
        cases eo : clAt B L r.2 (ln + 1) (skp B L (r.1 + 1)) with
        | inl e =>
          rw [eo] at hz5
          exact .inl hz5
        | inr r' =>
          rw [eo] at hz5
          exact hz5
      · dsimp only
        rw [if_neg en, if_neg e59]
        refine ⟨_, wh_inr (stop e59), f1.trans f2.fy.fz, .inr ⟨rfl, ?_, r.1, ri_s _, r1, by rw [sid]; exact en, by rw [sid]⟩⟩
        show (pm_setI h1 193 8 (nI r.1)).2.1 193 9 = nI 0
        rw [ri_j _ (by omega)]; exact y2
end MAL
