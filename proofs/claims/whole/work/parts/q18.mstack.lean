/-! A rule's text: the reference's stack of what is open. -/
def stg (t : Nat) : Nat := if t = 13 then 1 else if t = 12 then 2 else if t = 11 then 3 else 0
def pnd : List Nat → Nat
  | [] => 0
  | t :: s => (if t = 91 then 0 else 1) + pnd s
def dep : List Nat → Nat
  | [] => 0
  | t :: s => (if t = 91 ∨ t = 11 then 1 else 0) + dep s
/-- the stack, its top first -/
def SKs (h : pm_H) (s : List Nat) : Prop := h.2.1 193 16 = nI s.length ∧ s.length ≤ 400 ∧ (∀ i, i < s.length → h.2.1 200 i = nI (s.getD (s.length - 1 - i) 0)) ∧ h.2.1 193 13 = nI (dep s) ∧ ∀ t ∈ s, t = 11 ∨ t = 12 ∨ t = 13 ∨ t = 91
def FJ (r b : Nat) (h h' : pm_H) : Prop := FrM (fun c => c = 195 ∨ c = 196 ∨ c = 200) (fun j => j = 8 ∨ j = 9 ∨ j = 10 ∨ j = 12 ∨ j = 13 ∨ j = 16) h h' ∧ (∀ j, ¬ (400 * r + b ≤ j ∧ j < 400 * r + 400) → h'.2.1 195 j = h.2.1 195 j) ∧ ∀ j, j ≠ r → h'.2.1 196 j = h.2.1 196 j
def TT (h : pm_H) (r b : Nat) (B : Nat → Nat) (L k : Nat) (l : List Nat) (p : Nat) (s : List Nat) : Prop := ST h r b (pnd s) B L k l p ∧ SKs h s
section MSK
variable {h h0 : pm_H} {r k b L p : Nat} {B : Nat → Nat} {l s : List Nat}
theorem FJ.refl (r b : Nat) (h : pm_H) : FJ r b h h := ⟨FrM.refl _ _ h, fun _ _ => rfl, fun _ _ => rfl⟩
theorem FJ.trans {h1 h2 : pm_H} (a : FJ r b h h1) (c : FJ r b h1 h2) : FJ r b h h2 := ⟨a.1.trans c.1, fun j hj => (c.2.1 j hj).trans (a.2.1 j hj), fun j hj => (c.2.2 j hj).trans (a.2.2 j hj)⟩
theorem FK.fj {h' : pm_H} (f : FK r b h h') : FJ r b h h' := ⟨f.1.mono (fun c hc => by omega) (fun j hj => by omega), f.2.1, f.2.2⟩
theorem FJ.set {h1 : pm_H} {j : Nat} {v : Int32} (f : FJ r b h h1) (hj : j = 13 ∨ j = 16) : FJ r b h (pm_setI h1 193 j v) := ⟨f.1.setF (by omega), fun i hi => by rw [ri_c _ (by omega)]; exact f.2.1 i hi, fun i hi => by rw [ri_c _ (by omega)]; exact f.2.2 i hi⟩
theorem FJ.psh {h1 : pm_H} {j : Nat} {v : Int32} (f : FJ r b h h1) : FJ r b h (pm_setI h1 200 j v) := ⟨f.1.setI (by omega) (by omega), fun i hi => by rw [ri_c _ (by omega)]; exact f.2.1 i hi, fun i hi => by rw [ri_c _ (by omega)]; exact f.2.2 i hi⟩
theorem FK.sks {h' : pm_H} (f : FK r b h h') (K : SKs h s) : SKs h' s := by
  obtain ⟨k1, k2, k3, k4, k5⟩ := K
  exact ⟨by rw [f.1.f (by omega)]; exact k1, k2, fun i hi => by rw [f.1.i (by omega) (by omega)]; exact k3 i hi, by rw [f.1.f (by omega)]; exact k4, k5⟩
/-- a change of the stack's cells alone -/
theorem ST.stk {h' : pm_H} {d : Nat} (T : ST h r b d B L k l p) (f : FrM (fun c => c = 200) (fun j => j = 13 ∨ j = 16) h h') : ST h' r b d B L k l p := by
  obtain ⟨R, C, S, e9, hk, q, q1, q2, q3, q4⟩ := T
  exact ⟨R.fm f, ⟨by rw [f.f (by omega)]; exact C.1, C.2.1, fun k hk => by rw [f.i (by omega) (by omega)]; exact C.2.2 k hk⟩, ⟨by rw [f.f (by omega)]; exact S.1, by rw [f.f (by omega)]; exact S.2.1, by rw [f.i (by omega) (by omega)]; exact S.2.2.1, S.2.2.2.1, fun j hj => by rw [f.i (by omega) (by omega)]; exact S.2.2.2.2 j hj⟩, by rw [f.f (by omega)]; exact e9, hk, q, by rw [f.f (by omega)]; exact q1, q2, q3, q4⟩
theorem m_strength_n (h : pm_H) {t : Nat} (ht : t = 11 ∨ t = 12 ∨ t = 13 ∨ t = 91) : m_strength (nI t) h = some (nI (stg t)) := by
  unfold m_strength
  rw [kc_b_13, kc_b_12, kc_b_11, kc_i0, kc_i1, kc_i2, kc_i3]
  rcases ht with rfl | rfl | rfl | rfl <;> rfl
theorem m_settlesW (hr : r < 6) {g : Nat} (hg : 1 ≤ g ∧ g ≤ 3) : ∀ (s l : List Nat) (h : pm_H), FJ r b h0 h → TT h r b B L k l p s → SP (wh (fun x : pm_H => m_settles_0 193 (nI g) x) h) (fun h' => FJ r b h0 h' ∧ TT h' r b B L k (l ++ s.takeWhile (fun t => decide (g ≤ stg t))) p (s.dropWhile (fun t => decide (g ≤ stg t))) ∧ h'.2.1 193 8 = h.2.1 193 8)
  | [], l, h, f0, T => by
    have : wh (fun x : pm_H => m_settles_0 193 (nI g) x) h = some h := by
      refine wh_inr ?_
      unfold m_settles_0
      refine if_pos ?_
      rw [T.2.1, kc_0, nx_le (by decide) (by omega)]
      exact Nat.le_refl 0
    rw [this]
    refine sp_some.mpr ⟨f0, ?_, rfl⟩
    rw [List.takeWhile_nil, List.dropWhile_nil, List.append_nil]
    exact T
  | t :: s, l, h, f0, T => by
    have T0 := T
    obtain ⟨T, k1, k2, k3, k4, k5⟩ := T
    have R := T.1
    have ht := k5 t (by simp)
    have sl : (t :: s).length = s.length + 1 := rfl
    rw [sl] at k1 k2
    have top : h.2.1 200 s.length = nI t := by
      rw [k3 s.length (by rw [sl]; omega), sl, show s.length + 1 - 1 - s.length = 0 by omega]
      rfl
    have hL := T.2.1.2.1
    have s16 : nI (s.length + 1) - Int32.ofInt 1 = nI s.length := by
      rw [kc_i1, nx_sub (by omega)]
      rfl
    have sl3 : stg t ≤ 3 := by rcases ht with rfl | rfl | rfl | rfl <;> decide
    by_cases q : g ≤ stg t
    · have t91 : t ≠ 91 := fun z => by subst z; have : stg 91 = 0 := rfl; omega
      have pn : pnd (t :: s) = pnd s + 1 := by show (if t = 91 then 0 else 1) + pnd s = _; rw [if_neg t91]; omega
      rw [pn] at T
      have yes : SP (m_settles_0 193 (nI g) h) (fun q => ∃ h', q = .inl h' ∧ FJ r b h h' ∧ TT h' r b B L k (l ++ [t]) p s ∧ h'.2.1 193 8 = h.2.1 193 8) := by
        unfold m_settles_0
        rw [k1]
        refine sp_neg (by rw [kc_0, nx_le (by omega) (by omega)]; omega) ?_
        rw [ra_193_15 R, Option.bind_some, s16, mn_200, gi_n (by omega), nx_cl (by omega), top, m_strength_n h ht]
        refine sp_pos (dec_t (by omega)) ?_
        rw [Option.bind_some]
        refine sp_neg (by rw [nx_lt (by omega) (by omega)]; omega) ?_
        rw [sp_bd]
        have g6 : FrM (fun c => c = 200) (fun j => j = 13 ∨ j = 16) h (pm_setI h 193 16 (nI s.length)) := (FrM.refl _ _ h).setF (.inr rfl)
        have f6 : FJ r b h (pm_setI h 193 16 (nI s.length)) := (FJ.refl r b h).set (.inr rfl)
        have T6 := T.stk g6
        have a16 : (pm_setI h 193 16 (nI s.length)).2.1 193 16 = nI s.length := ri_s _
        have a13 : (pm_setI h 193 16 (nI s.length)).2.1 193 13 = nI (dep (t :: s)) := by rw [ri_j _ (by omega)]; exact k4
        have a8 : (pm_setI h 193 16 (nI s.length)).2.1 193 8 = h.2.1 193 8 := ri_j _ (by omega)
        have a200 : ∀ i, (pm_setI h 193 16 (nI s.length)).2.1 200 i = h.2.1 200 i := fun i => ri_c _ (by omega)
        generalize pm_setI h 193 16 (nI s.length) = h6 at g6 f6 T6 a16 a13 a8 a200 ⊢
        rw [ra_193_15 T6.1, Option.bind_some, a16, mn_200, gi_n (by omega), nx_cl (by omega), a200, top, kc_i0]
        refine sp_pos (dec_t (by omega)) ?_
        refine sp_call (m_puts_st hr T6) ?_
        rintro h9 ⟨f9, T9, e9⟩
        have b200 : ∀ i, h9.2.1 200 i = h.2.1 200 i := fun i => by rw [f9.1.i (by omega) (by omega)]; exact a200 i
        have b16 : h9.2.1 193 16 = nI s.length := by rw [e9]; exact a16
        have b13 : h9.2.1 193 13 = nI (dep (t :: s)) := by rw [e9]; exact a13
        have below : ∀ i, i < s.length → h.2.1 200 i = nI (s.getD (s.length - 1 - i) 0) := by
          intro i hi
          rw [k3 i (by rw [sl]; omega), sl, show s.length + 1 - 1 - i = (s.length - 1 - i) + 1 by omega]
          rfl
        rw [ra_193_15 T9.1, Option.bind_some, b16, mn_200, gi_n (by omega), nx_cl (by omega), b200, top, kc_b_11]
        refine sp_pos (dec_t (by omega)) ?_
        by_cases t11 : t = 11
        · refine sp_neg (fun z => z (by rw [t11])) ?_
          have dp : dep (t :: s) = dep s + 1 := by show (if t = 91 ∨ t = 11 then 1 else 0) + dep s = _; rw [if_pos (.inr t11)]; omega
          have dl : dep s ≤ s.length := by
            have : ∀ x : List Nat, dep x ≤ x.length := by
              intro x
              induction x with
              | nil => exact Nat.le_refl 0
              | cons y x ih => show (if y = 91 ∨ y = 11 then 1 else 0) + dep x ≤ x.length + 1; split <;> omega
            exact this s
          rw [sp_bd, b13, dp, kc_i1, nx_sub (by omega)]
          refine sp_some.mpr ⟨_, rfl, (f6.trans f9.fj).set (.inl rfl), ⟨T9.stk ((FrM.refl _ _ h9).setF (.inl rfl)), ?_, by omega, fun i hi => ?_, ?_, fun x hx => k5 x (by simp [hx])⟩, ?_⟩
          · rw [ri_j _ (by omega)]; exact b16
          · rw [ri_c _ (by omega), b200]; exact below i hi
          · rw [ri_s]; rfl
          · rw [ri_j _ (by omega), e9]; exact a8
        · refine sp_pos (by rw [nx_eq (by omega) (by omega)]; exact t11) ?_
          have dp : dep (t :: s) = dep s := by show (if t = 91 ∨ t = 11 then 1 else 0) + dep s = _; rw [if_neg (by omega)]; omega
          refine sp_some.mpr ⟨_, rfl, f6.trans f9.fj, ⟨T9, b16, by omega, fun i hi => by rw [b200]; exact below i hi, by rw [b13, dp], fun x hx => k5 x (by simp [hx])⟩, by rw [e9]; exact a8⟩
      obtain ⟨x, ex, h', ey, f1, T1, e8⟩ := yes
      subst ey
      rw [wh_inl ex, List.takeWhile_cons, List.dropWhile_cons, decide_eq_true q, if_pos rfl, if_pos rfl]
      refine (m_settlesW hr hg s (l ++ [t]) h' (f0.trans f1) T1).mono ?_
      rintro h2 ⟨c1, c2, c3⟩
      rw [List.append_assoc] at c2
      exact ⟨c1, c2, by rw [c3]; exact e8⟩
    · have no : m_settles_0 193 (nI g) h = some (.inr h) := by
        unfold m_settles_0
        rw [k1]
        refine (if_neg (by rw [kc_0, nx_le (by omega) (by omega)]; omega)).trans ?_
        rw [ra_193_15 R, Option.bind_some, s16, mn_200, gi_n (by omega), nx_cl (by omega), top, m_strength_n h ht]
        refine (if_pos (dec_t (by omega))).trans ?_
        rw [Option.bind_some]
        exact if_pos (by rw [nx_lt (by omega) (by omega)]; omega)
      rw [wh_inr no, List.takeWhile_cons, List.dropWhile_cons, decide_eq_false q, if_neg (by decide), if_neg (by decide), List.append_nil]
      exact sp_some.mpr ⟨f0, T0, rfl⟩
end MSK
