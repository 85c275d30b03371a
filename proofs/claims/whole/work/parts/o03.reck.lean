/-! Rules: rows of tokens reckoned, by the reference and by the program. -/
theorem and15 (t : Nat) : nI t &&& nI 15 = nI (t % 16) := by
  rw [nx_and2, show (15 : Nat) = 2 ^ 4 - 1 from rfl, Nat.and_two_pow_sub_one_eq_mod]
theorem ty1_lt {t : Nat} {ts ts' : List Bool} (h : ty1 t ts = some ts') : t < 1600016 ∨ t % 16 ≥ 2 := by
  unfold ty1 at h
  by_cases q0 : t % 16 = 0
  · rw [if_pos q0] at h
    split at h
    · left; omega
    · cases h
  rw [if_neg q0] at h
  by_cases q1 : t % 16 = 1
  · rw [if_pos q1] at h
    split at h
    · left; omega
    · cases h
  · right; omega
section RK
variable {h : pm_H} {st : List Int64} {ts ts' : List Bool} {W : Nat → Int64} {r i e t : Nat}
theorem m_reck1 (R : RF h) (S : SKm h st) (c : CM st ts) (hty : ty1 t ts = some ts') (hl : st.length < 64) (ht2 : t < 2147483648) (hw : ∀ w, w < 11 → h.2.2.1 202 w = W w) (hi : i < e) (he : e ≤ 400) (hr : r < 6) (ht : h.2.1 195 (400 * r + i) = nI t) : SP (m_reckons_8 193 (nI r) (nI e) (nI i) h) (fun q => ∃ h', q = .inl (nI (i + 1), h') ∧ FS h h' ∧ SKm h' (ev1 W t st)) := by
  unfold m_reckons_8
  refine sp_neg (by rw [nx_le (by omega) (by omega)]; omega) ?_
  rw [ra_193_3 R, Option.bind_some, kc_s_400, nx_mul, nx_add, mn_195, gi_n (by omega), nx_cl (by omega), ht]
  refine sp_pos (dec_t (by omega)) ?_
  rw [Option.bind_some, mn_195, gi_n (by omega), ht, kc_b_15, and15]
  refine sp_pos (dec_t (by omega)) ?_
  rcases ty1_cases hty c W with ⟨q, v1, rfl, e1⟩ | ⟨q, v1, rfl, e1⟩ | ⟨q, x, r', rs, rfl, rfl, rfl, hx, hc, e1⟩ | ⟨q, x, y, r', b, b', rs, rfl, rfl, rfl, hc, hb, e1⟩
  · rw [q]
    refine sp_neg (fun z => z rfl) ?_
    rw [kc_i4, nx_shr (by omega) (by omega), show t / 2 ^ 4 = t / 16 from rfl, nI_64 (by omega)]
    refine sp_call (m_push_n R S hl) ?_
    rintro h' ⟨f, S'⟩
    rw [kc_i1, nx_add, e1]
    exact sp_some.mpr ⟨h', rfl, f, S'⟩
  · rw [q]
    refine sp_pos n10 (sp_neg (fun z => z rfl) ?_)
    rw [kc_i4, nx_shr (by omega) (by omega), show t / 2 ^ 4 = t / 16 from rfl, ra_193_19 R, Option.bind_some, mn_202, gi_n (by omega), nx_cl (by omega), hw _ v1]
    refine sp_pos (dec_t v1) (sp_call (m_push_n R S hl) ?_)
    rintro h' ⟨f, S'⟩
    rw [kc_i1, nx_add, e1]
    exact sp_some.mpr ⟨h', rfl, f, S'⟩
  · rw [q]
    rw [List.length_cons] at hl
    refine sp_pos (by decide) (sp_pos (by decide) (sp_neg (fun z => z (by decide)) ?_))
    refine sp_call (m_pop_n R S (by omega)) ?_
    rintro ⟨v, h1⟩ ⟨rfl, f1, S1⟩
    refine sp_call (m_push_n (x := Int64.ofNat 1 - v) (f1.rf R) S1 (by omega)) ?_
    rintro h' ⟨f, S'⟩
    rw [kc_i1, nx_add, e1]
    exact sp_some.mpr ⟨h', rfl, f1.trans f, S'⟩
  · rw [List.length_cons, List.length_cons] at hl
    have hop := q
    unfold isOp at q
    refine sp_pos (by rw [kc_0, nx_eq (by omega) (by omega)]; omega) (sp_pos (by rw [kc_i1, nx_eq (by omega) (by omega)]; omega) (sp_pos (by rw [kc_b_11, nx_eq (by omega) (by omega)]; omega) ?_))
    refine sp_call (m_pop_n R S (by rw [List.length_cons]; omega)) ?_
    rintro ⟨v, h1⟩ ⟨rfl, f1, S1⟩
    refine sp_call (m_pop_n (f1.rf R) S1 (by omega)) ?_
    rintro ⟨v', h2⟩ ⟨rfl, f2, S2⟩
    dsimp only
    rw [m_one_n _ _ _ hop, Option.bind_some]
    refine sp_call (m_push_n ((f1.trans f2).rf R) S2 (by omega)) ?_
    rintro h' ⟨f, S'⟩
    rw [kc_i1, nx_add, e1]
    exact sp_some.mpr ⟨h', rfl, (f1.trans f2).trans f, S'⟩
theorem m_reckW : ∀ (l : List Nat) (i : Nat) (st : List Int64) (ts tf : List Bool) (h : pm_H), RF h → SKm h st → CM st ts → tys l ts = some tf → st.length + npu l ≤ 63 → (∀ w, w < 11 → h.2.2.1 202 w = W w) → i + l.length ≤ 400 → r < 6 → (∀ j, j < l.length → h.2.1 195 (400 * r + (i + j)) = nI (l.getD j 0) ∧ l.getD j 0 < 2147483648) → SP (wh (fun z : (Int32 × pm_H) => m_reckons_8 193 (nI r) (nI (i + l.length)) z.1 z.2) (nI i, h)) (fun h' => FS h h' ∧ SKm h' (evs W l st) ∧ CM (evs W l st) tf)
  | [], i, st, ts, tf, h, R, S, c, hty, hl, hw, he, hr, ht => by
    cases hty
    have e : m_reckons_8 193 (nI r) (nI (i + ([] : List Nat).length)) (nI i) h = some (.inr h) := by
      unfold m_reckons_8
      exact if_pos (by rw [nx_le (by simp at he ⊢; omega) (by simp at he; omega)]; simp)
    exact ⟨h, wh_inr e, FS.refl h, S, c⟩
  | t :: l, i, st, ts, tf, h, R, S, c, hty, hl, hw, he, hr, ht => by
    rw [List.length_cons] at he
    rw [npu_cons] at hl
    cases e1 : ty1 t ts with
    | none =>
      rw [tys, e1] at hty
      cases hty
    | some ts1 =>
      rw [tys, e1] at hty
      have t0 := ht 0 (by rw [List.length_cons]; omega)
      have l1 := ty1_len e1 c W
      obtain ⟨q, eq, h', rfl, f, S'⟩ := m_reck1 (W := W) (i := i) (e := i + (t :: l).length) (r := r) R S c e1 (by omega) t0.2 hw (by rw [List.length_cons]; omega) (by rw [List.length_cons]; omega) hr t0.1
      rw [wh_inl eq, show i + (t :: l).length = (i + 1) + l.length from by rw [List.length_cons]; omega]
      refine (m_reckW l (i + 1) (ev1 W t st) ts1 tf h' (f.rf R) S' (ev1_cm e1 c W) hty (by omega) (fun w hw2 => by rw [f.2.2.2.2 202 (by omega)]; exact hw w hw2) (by omega) hr (fun j hj => ?_)).mono ?_
      · have := ht (j + 1) (by rw [List.length_cons]; omega)
        rw [f.2.2.1 195 (by omega), show i + 1 + j = i + (j + 1) from by omega]
        exact this
      · rintro h2 ⟨f2, S2⟩
        exact ⟨f.trans f2, S2⟩
/-- a row of tokens that leaves one value -/
def evV (W : Nat → Int64) (l : List Nat) : Int64 := (evs W l []).headD 0
theorem m_reckons_n (R : RF h) {l : List Nat} {i : Nat} {k : Bool} (hty : tys l [] = some [k]) (hl : npu l ≤ 60) (hw : ∀ w, w < 11 → h.2.2.1 202 w = W w) (he : i + l.length ≤ 400) (hr : r < 6) (ht : ∀ j, j < l.length → h.2.1 195 (400 * r + (i + j)) = nI (l.getD j 0) ∧ l.getD j 0 < 2147483648) : SP (m_reckons 193 (nI r) (nI i) (nI (i + l.length)) h) (fun z => z.1 = evV W l ∧ (k = true → z.1 = 0 ∨ z.1 = 1) ∧ FS h z.2) := by
  unfold m_reckons
  rw [sp_bd, kc_i0]
  have f0 : FS h (pm_setI h 193 18 (nI 0)) := (FS.refl h).setI
  refine sp_call (m_reckW (W := W) (r := r) l i [] [] [k] (pm_setI h 193 18 (nI 0)) (f0.rf R) ⟨ri_s _, fun i hi => absurd hi (by show ¬ i < 0; omega)⟩ trivial hty (by show 0 + npu l ≤ 63; omega) hw he hr (fun j hj => by rw [f0.2.2.1 195 (by omega)]; exact ht j hj)) ?_
  rintro h1 ⟨f1, S1, c1⟩
  unfold evV
  generalize evs W l [] = st at S1 c1
  match st, S1, c1 with
  | [x], S1, c1 =>
    refine sp_call (m_pop_n ((f0.trans f1).rf R) S1 (by show 0 < 64; omega)) ?_
    rintro ⟨v, h2⟩ ⟨hv, f2, _⟩
    dsimp only at hv
    subst hv
    exact sp_some.mpr ⟨rfl, c1.1, (f0.trans f1).trans f2⟩
  | [], _, c1 => exact c1.elim
  | _ :: _ :: _, _, c1 => exact c1.2.elim
end RK
section UK
variable {h : pm_H} {u s c m : Nat} {st : List Int64} {ts ts' : List Bool} {W : Nat → Int64} {i t : Nat}
theorem opc_n {s : Nat} (hs : isOp s) : ¬ opc s = ng 15 ∧ ¬ opc s = ng 16 ∧ opc s < nI 0 ∧ opc s < ng 11 ∧ ¬ opc s = ng 12 := by
  rcases hs with rfl | rfl | rfl | rfl | rfl | rfl | rfl | rfl | rfl | rfl | rfl | rfl <;> decide
theorem u_wake1 (R : RF h) (hu : mi_o u 6 = true) (S : SKc h u st) (cm : CM st ts) (hty : ty1 t ts = some ts') (hl : st.length < 64) (ht2 : t < 2147483648) (hw : ∀ w, w < 11 → u_letters (ng (1 + w)) s c (nI m) h = some (W w)) {n : Nat} (h1 : h.2.1 u 1 = nI n) (hi : i < n) (hn : n ≤ 412) (ht : h.2.1 (u + 1) i = tkc t) : SP (u_wakes_8 u s c (nI m) (nI i) h) (fun q => ∃ h', q = .inl (nI (i + 1), h') ∧ FU u h h' ∧ SKc h' u (ev1 W t st)) := by
  unfold u_wakes_8
  rw [h1]
  refine sp_neg (by rw [nx_le (by omega) (by omega)]; omega) ?_
  rw [rf_u0 R hu, Option.bind_some, ln_u0 hu]
  refine sp_neg (by rw [kc_on, nx_le (by omega) (by omega)]; omega) ?_
  rw [Option.bind_some, ln_u0 hu, gi_n (by omega), nx_cl (by omega), ht]
  refine sp_pos (dec_t (by omega)) ?_
  rcases ty1_cases hty cm W with ⟨q, v1, rfl, e1⟩ | ⟨q, v1, rfl, e1⟩ | ⟨q, x, r', rs, rfl, rfl, rfl, hx, hc, e1⟩ | ⟨q, x, y, r', b, b', rs, rfl, rfl, rfl, hc, hb, e1⟩
  · rw [show tkc t = nI (t / 16) from if_pos q]
    refine sp_pos (by rw [kc_b_m15, n_eq_ng (by omega) (by omega) (by omega)]; exact id) (sp_pos (by rw [kc_b_m16, n_eq_ng (by omega) (by omega) (by omega)]; exact id) (sp_neg (by rw [kc_0, nx_lt (by omega) (by omega)]; omega) ?_))
    rw [nI_64 (by omega)]
    refine sp_call (u_push_n R hu S hl) ?_
    rintro h' ⟨f, S'⟩
    rw [kc_i1, nx_add, e1]
    exact sp_some.mpr ⟨h', rfl, f, S'⟩
  · rw [show tkc t = ng (1 + t / 16) from (if_neg (by omega)).trans (if_pos q)]
    refine sp_pos (by rw [kc_b_m15, ng_eq (by omega) (by omega)]; omega) (sp_pos (by rw [kc_b_m16, ng_eq (by omega) (by omega)]; omega) (sp_pos (by rw [kc_0, ng_lt_n (by omega) (by omega) (by omega)]; trivial) (sp_neg (by rw [kc_b_m11, ng_lt (by omega) (by omega)]; omega) ?_)))
    rw [hw _ v1, Option.bind_some]
    refine sp_call (u_push_n R hu S hl) ?_
    rintro h' ⟨f, S'⟩
    rw [kc_i1, nx_add, e1]
    exact sp_some.mpr ⟨h', rfl, f, S'⟩
  · rw [show tkc t = ng 12 from (if_neg (by omega)).trans ((if_neg (by omega)).trans (if_pos q))]
    rw [List.length_cons] at hl
    refine sp_pos (by decide) (sp_pos (by decide) (sp_pos (by decide) (sp_pos (by decide) (sp_neg (fun z => z (by decide)) ?_))))
    refine sp_call (u_pop_n R hu S (by omega)) ?_
    rintro ⟨v, h1⟩ ⟨hv, f1, S1⟩
    dsimp only at hv f1 S1
    subst hv
    have nb := (not_bool hx).2
    have go : ∀ z : Int64, z = 1 - v → SP (u_wakes_167 u s c (nI m) (nI i) z u h1) (fun q => ∃ h', q = .inl (nI (i + 1), h') ∧ FU u h h' ∧ SKc h' u (ev1 W t (v :: r'))) := by
      rintro z rfl
      unfold u_wakes_167
      refine sp_call (u_push_n (f1.rf R) hu S1 (by omega)) ?_
      rintro h' ⟨f, S'⟩
      rw [kc_i1, nx_add, e1]
      exact sp_some.mpr ⟨h', rfl, f1.trans f, S'⟩
    dsimp only
    by_cases qz : ¬ lg_cmp v (Int64.ofNat 0) = 0
    · rw [if_pos qz] at nb
      exact sp_pos qz (go _ nb)
    · rw [if_neg qz] at nb
      exact sp_neg qz (go _ nb)
  · have on := opc_n q
    have hop := q
    unfold isOp at q
    rw [show tkc t = opc (t % 16) from (if_neg (by omega)).trans ((if_neg (by omega)).trans (if_neg (by omega)))]
    rw [List.length_cons, List.length_cons] at hl
    refine sp_pos (by rw [kc_b_m15]; exact on.1) (sp_pos (by rw [kc_b_m16]; exact on.2.1) (sp_pos (by rw [kc_0]; exact on.2.2.1) (sp_pos (by rw [kc_b_m11]; exact on.2.2.2.1) (sp_pos (by rw [kc_b_m12]; exact on.2.2.2.2) ?_))))
    refine sp_call (u_pop_n R hu S (by rw [List.length_cons]; omega)) ?_
    rintro ⟨v, h1⟩ ⟨hv, f1, S1⟩
    dsimp only at hv f1 S1
    subst hv
    refine sp_call (u_pop_n (f1.rf R) hu S1 (by omega)) ?_
    rintro ⟨v', h2⟩ ⟨hv, f2, S2⟩
    dsimp only at hv f2 S2
    subst hv
    dsimp only
    rw [u_comb_n _ _ _ hop, Option.bind_some]
    refine sp_call (u_push_n ((f1.trans f2).rf R) hu S2 (by omega)) ?_
    rintro h' ⟨f, S'⟩
    rw [kc_i1, nx_add, e1]
    exact sp_some.mpr ⟨h', rfl, (f1.trans f2).trans f, S'⟩
theorem u_wakeW (hu : mi_o u 6 = true) {n : Nat} (hn : n ≤ 412) : ∀ (l : List Nat) (i : Nat) (st : List Int64) (ts tf : List Bool) (h : pm_H), RF h → SKc h u st → CM st ts → tys l ts = some tf → st.length + npu l ≤ 63 → (∀ h', FU u h h' → ∀ w, w < 11 → u_letters (ng (1 + w)) s c (nI m) h' = some (W w)) → i + l.length ≤ n → h.2.1 u 1 = nI n → (∀ j, j < l.length → h.2.1 (u + 1) (i + j) = tkc (l.getD j 0) ∧ l.getD j 0 < 2147483648) → ∃ h', FU u h h' ∧ SKc h' u (evs W l st) ∧ CM (evs W l st) tf ∧ wh (fun z : (Int32 × pm_H) => u_wakes_8 u s c (nI m) z.1 z.2) (nI i, h) = wh (fun z : (Int32 × pm_H) => u_wakes_8 u s c (nI m) z.1 z.2) (nI (i + l.length), h')
  | [], i, st, ts, tf, h, R, S, cm, hty, hl, hw, he, h1, ht => by
    cases hty
    exact ⟨h, FU.refl u h, S, cm, rfl⟩
  | t :: l, i, st, ts, tf, h, R, S, cm, hty, hl, hw, he, h1, ht => by
    rw [List.length_cons] at he
    rw [npu_cons] at hl
    cases e1 : ty1 t ts with
    | none =>
      rw [tys, e1] at hty
      cases hty
    | some ts1 =>
      rw [tys, e1] at hty
      have t0 := ht 0 (by rw [List.length_cons]; omega)
      have l1 := ty1_len e1 cm W
      obtain ⟨q, eq, h', rfl, f, S'⟩ := u_wake1 (W := W) (i := i) R hu S cm e1 (by omega) t0.2 (hw h (FU.refl u h)) h1 (by omega) hn t0.1
      obtain ⟨h2, f2, S2, c2, e2⟩ := u_wakeW hu hn l (i + 1) (ev1 W t st) ts1 tf h' (f.rf R) S' (ev1_cm e1 cm W) hty (by omega) (fun h3 f3 => hw h3 (f.trans f3)) (by omega) (by rw [f.2.2.2.1 1 (by omega)]; exact h1) (fun j hj => by
        have := ht (j + 1) (by rw [List.length_cons]; omega)
        rw [f.2.2.1 (u + 1) (by omega), show i + 1 + j = i + (j + 1) from by omega]
        exact this)
      refine ⟨h2, f.trans f2, S2, c2, ?_⟩
      rw [wh_inl eq, e2, show i + (t :: l).length = i + 1 + l.length from by rw [List.length_cons]; omega]
end UK
