/-! A rule's text: one step of the reference's stack; what is left of a test, step by step. -/
section MS1
variable {h h0 : pm_H} {r k b L p : Nat} {B : Nat → Nat} {l s : List Nat}
theorem dep_le : ∀ x : List Nat, dep x ≤ x.length
  | [] => Nat.le_refl 0
  | y :: x => by
    have := dep_le x
    show (if y = 91 ∨ y = 11 then 1 else 0) + dep x ≤ x.length + 1
    split <;> omega
theorem pnd_tw {g : Nat} (hg : 1 ≤ g) : ∀ s : List Nat, (s.takeWhile (fun t => decide (g ≤ stg t))).length + pnd (s.dropWhile (fun t => decide (g ≤ stg t))) = pnd s
  | [] => rfl
  | t :: s => by
    rw [List.takeWhile_cons, List.dropWhile_cons]
    by_cases q : g ≤ stg t
    · rw [decide_eq_true q, if_pos rfl, if_pos rfl]
      have t91 : t ≠ 91 := fun z => by subst z; have : stg 91 = 0 := rfl; omega
      have := pnd_tw hg s
      show (s.takeWhile (fun t => decide (g ≤ stg t))).length + 1 + pnd (s.dropWhile (fun t => decide (g ≤ stg t))) = (if t = 91 then 0 else 1) + pnd s
      rw [if_neg t91]
      omega
    · rw [decide_eq_false q, if_neg (by decide), if_neg (by decide)]
      exact Nat.zero_add _
theorem m_settle1 (hr : r < 6) {g t : Nat} (hg : 1 ≤ g ∧ g ≤ 3) (T : TT h r b B L k l p (t :: s)) (q : g ≤ stg t) : ∃ h', m_settles_0 193 (nI g) h = some (.inl h') ∧ FJ r b h h' ∧ TT h' r b B L k (l ++ [t]) p s ∧ h'.2.1 193 8 = h.2.1 193 8 := by
  obtain ⟨T, k1, k2, k3, k4, k5⟩ := T
  have R := T.1
  have ht := k5 t (by simp)
  have sl : (t :: s).length = s.length + 1 := rfl
  rw [sl] at k1 k2
  have top : h.2.1 200 s.length = nI t := by
    rw [k3 s.length (by rw [sl]; omega), sl, show s.length + 1 - 1 - s.length = 0 by omega]
    rfl
  have hL := T.2.1.2.1
  have s16 : nI (s.length + 1) - Int32.ofInt 1 = nI s.length := by
    rw [kc_i1, nx_sub (by omega)]
    rfl
  have sl3 : stg t ≤ 3 := by rcases ht with rfl | rfl | rfl | rfl <;> decide
  have t91 : t ≠ 91 := fun z => by subst z; have : stg 91 = 0 := rfl; omega
  have pn : pnd (t :: s) = pnd s + 1 := by show (if t = 91 then 0 else 1) + pnd s = _; rw [if_neg t91]; omega
  rw [pn] at T
  have yes : SP (m_settles_0 193 (nI g) h) (fun q => ∃ h', q = .inl h' ∧ FJ r b h h' ∧ TT h' r b B L k (l ++ [t]) p s ∧ h'.2.1 193 8 = h.2.1 193 8) := by
    unfold m_settles_0
    rw [k1]
    refine sp_neg (by rw [kc_0, nx_le (by omega) (by omega)]; omega) ?_
    rw [ra_193_15 R, Option.bind_some, s16, mn_200, gi_n (by omega), nx_cl (by omega), top, m_strength_n h ht]
    refine sp_pos (dec_t (by omega)) ?_
    rw [Option.bind_some]
    refine sp_neg (by rw [nx_lt (by omega) (by omega)]; omega) ?_
    rw [sp_bd]
    have g6 : FrM (fun c => c = 200) (fun j => j = 13 ∨ j = 16) h (pm_setI h 193 16 (nI s.length)) := (FrM.refl _ _ h).setF (.inr rfl)
    have f6 : FJ r b h (pm_setI h 193 16 (nI s.length)) := (FJ.refl r b h).set (.inr rfl)
    have T6 := T.stk g6
    have a16 : (pm_setI h 193 16 (nI s.length)).2.1 193 16 = nI s.length := ri_s _
    have a13 : (pm_setI h 193 16 (nI s.length)).2.1 193 13 = nI (dep (t :: s)) := by rw [ri_j _ (by omega)]; exact k4
    have a8 : (pm_setI h 193 16 (nI s.length)).2.1 193 8 = h.2.1 193 8 := ri_j _ (by omega)
    have a200 : ∀ i, (pm_setI h 193 16 (nI s.length)).2.1 200 i = h.2.1 200 i := fun i => ri_c _ (by omega)
    generalize pm_setI h 193 16 (nI s.length) = h6 at g6 f6 T6 a16 a13 a8 a200 ⊢
    rw [ra_193_15 T6.1, Option.bind_some, a16, mn_200, gi_n (by omega), nx_cl (by omega), a200, top, kc_i0]
    refine sp_pos (dec_t (by omega)) ?_
    refine sp_call (m_puts_st hr T6) ?_
    rintro h9 ⟨f9, T9, e9⟩
    have b200 : ∀ i, h9.2.1 200 i = h.2.1 200 i := fun i => by rw [f9.1.i (by omega) (by omega)]; exact a200 i
    have b16 : h9.2.1 193 16 = nI s.length := by rw [e9]; exact a16
    have b13 : h9.2.1 193 13 = nI (dep (t :: s)) := by rw [e9]; exact a13
    have below : ∀ i, i < s.length → h.2.1 200 i = nI (s.getD (s.length - 1 - i) 0) := by
      intro i hi
      rw [k3 i (by rw [sl]; omega), sl, show s.length + 1 - 1 - i = (s.length - 1 - i) + 1 by omega]
      rfl
    rw [ra_193_15 T9.1, Option.bind_some, b16, mn_200, gi_n (by omega), nx_cl (by omega), b200, top, kc_b_11]
    refine sp_pos (dec_t (by omega)) ?_
    have dl := dep_le s
    by_cases t11 : t = 11
    · refine sp_neg (fun z => z (by rw [t11])) ?_
      have dp : dep (t :: s) = dep s + 1 := by show (if t = 91 ∨ t = 11 then 1 else 0) + dep s = _; rw [if_pos (.inr t11)]; omega
      rw [sp_bd, b13, dp, kc_i1, nx_sub (by omega)]
      refine sp_some.mpr ⟨_, rfl, (f6.trans f9.fj).set (.inl rfl), ⟨T9.stk ((FrM.refl _ _ h9).setF (.inl rfl)), ?_, by omega, fun i hi => ?_, ?_, fun x hx => k5 x (by simp [hx])⟩, ?_⟩
      · rw [ri_j _ (by omega)]; exact b16
      · rw [ri_c _ (by omega), b200]; exact below i hi
      · rw [ri_s]; rfl
      · rw [ri_j _ (by omega), e9]; exact a8
    · refine sp_pos (by rw [nx_eq (by omega) (by omega)]; exact t11) ?_
      have dp : dep (t :: s) = dep s := by show (if t = 91 ∨ t = 11 then 1 else 0) + dep s = _; rw [if_neg (by omega)]; omega
      refine sp_some.mpr ⟨_, rfl, f6.trans f9.fj, ⟨T9, b16, by omega, fun i hi => by rw [b200]; exact below i hi, by rw [b13, dp], fun x hx => k5 x (by simp [hx])⟩, by rw [e9]; exact a8⟩
  obtain ⟨x, ex, h', ey, f1, T1, e8⟩ := yes
  subst ey
  exact ⟨h', ex, f1, T1, e8⟩
/-- the settling as a whole -/
theorem m_settle_n (hr : r < 6) {g : Nat} (hg : 1 ≤ g ∧ g ≤ 3) (T : TT h r b B L k l p s) : ∃ h', m_settles 193 (nI g) h = some h' ∧ FJ r b h h' ∧ TT h' r b B L k (l ++ s.takeWhile (fun t => decide (g ≤ stg t))) p (s.dropWhile (fun t => decide (g ≤ stg t))) ∧ h'.2.1 193 8 = h.2.1 193 8 := by
  obtain ⟨h', e, f, T', e8⟩ := m_settlesW hr hg s l h (FJ.refl r b h) T
  refine ⟨h', ?_, f, T', e8⟩
  unfold m_settles
  rw [e]
  rfl
/-- where nothing is to be settled -/
theorem m_settle0 {g : Nat} (hg : 1 ≤ g ∧ g ≤ 3) (T : TT h r b B L k l p s) (no : ∀ t s', s = t :: s' → stg t < g) : m_settles 193 (nI g) h = some h := by
  obtain ⟨T, k1, k2, k3, k4, k5⟩ := T
  have R := T.1
  unfold m_settles
  have : m_settles_0 193 (nI g) h = some (.inr h) := by
    unfold m_settles_0
    rw [k1]
    cases s with
    | nil =>
      refine if_pos ?_
      rw [kc_0, nx_le (by decide) (by omega)]
      exact Nat.le_refl 0
    | cons t s =>
      have ht := k5 t (by simp)
      have sl : (t :: s).length = s.length + 1 := rfl
      rw [sl] at k2 ⊢
      have top : h.2.1 200 s.length = nI t := by
        rw [k3 s.length (by rw [sl]; omega), sl, show s.length + 1 - 1 - s.length = 0 by omega]
        rfl
      have s16 : nI (s.length + 1) - Int32.ofInt 1 = nI s.length := by
        rw [kc_i1, nx_sub (by omega)]
        rfl
      have lt := no t s rfl
      refine (if_neg (by rw [kc_0, nx_le (by omega) (by omega)]; omega)).trans ?_
      rw [ra_193_15 R, Option.bind_some, s16, mn_200, gi_n (by omega), nx_cl (by omega), top, m_strength_n h ht]
      refine (if_pos (dec_t (by omega))).trans ?_
      rw [Option.bind_some]
      exact if_pos (by rw [nx_lt (by omega) (by omega)]; omega)
  rw [wh_inr this]
  rfl
theorem ST.less {d d' : Nat} (T : ST h r b d B L k l p) (hd : d' ≤ d) : ST h r b d' B L k l p := by
  obtain ⟨R, C, S, e9, hk, q, q1, q2, q3, q4⟩ := T
  exact ⟨R, C, S, e9, hk, q, q1, q2, q3, by omega⟩
theorem m_isW_st {d : Nat} (T : ST h r b d B L k l p) (e8 : h.2.1 193 8 = nI p) {w : List Nat} (hw : ∀ x ∈ w, 0 < x ∧ x < 256) (hl : w.length < 8) {W : Int64} (eW : W = qN (pkw w)) : m_isWord 193 W h = some (nI (isW B L p w).toNat, h) := by
  obtain ⟨hp, cp, _⟩ := T.hp
  have e := m_isWord_n T.1 T.2.1 e8 hp hw hl eW
  rw [skp_id cp, ← e8, setI_self] at e
  exact e
theorem wd_and : (6385252 : Int64) = qN (pkw wAnd) ∧ (∀ x ∈ wAnd, 0 < x ∧ x < 256) ∧ wAnd.length < 8 := by decide +kernel
theorem wd_or : (28530 : Int64) = qN (pkw wOrw) ∧ (∀ x ∈ wOrw, 0 < x ∧ x < 256) ∧ wOrw.length < 8 := by decide +kernel
theorem wd_not : (7237492 : Int64) = qN (pkw wNot) ∧ (∀ x ∈ wNot, 0 < x ∧ x < 256) ∧ wNot.length < 8 := by decide +kernel
/-- past a word -/
theorem ST.pastw {d : Nat} (T : ST h r b d B L k l p) (e8 : h.2.1 193 8 = nI p) {w : List Nat} (hw : isW B L p w = true) : m_passWord 193 h = some (pm_setI h 193 8 (nI (bh B L p))) ∧ FK r b h (pm_setI h 193 8 (nI (bh B L p))) ∧ ST (pm_setI h 193 8 (nI (bh B L p))) r b (d + 1) B L k l (skp B L (bh B L p)) := by
  obtain ⟨hp, cp, hb⟩ := T.hp
  obtain ⟨b1, b2, b3, b4⟩ := word_bh hp hw
  have f1 := fx8 h (nI (bh B L p))
  refine ⟨m_passw T.1 T.2.1 e8 hp (isW_k2 hw), f1.fk r b, ?_⟩
  obtain ⟨R, C, S, e9, hk, q, q1, q2, q3, q4⟩ := T
  exact ⟨R.fm f1, f1.mt C, f1.mrs S, by rw [ri_j _ (by omega)]; exact e9, hk, bh B L p, ri_s _, by omega, rfl, by omega⟩
end MS1
