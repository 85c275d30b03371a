/-! A ship's text, read whole by the program: the loop. -/
section SRD
variable {h : pm_H} {s L p : Nat} {B : Nat → Nat} {D : Nat → Int32}
theorem t_isSign_n (U : UNT h B L p) {c : Nat} (hc : c < 2147483648) (hn : nbr B L p < 2147483648) : t_isSign 1 (nI c) h = some (nI (decide (kd (ca B L p) = 3 ∧ nbr B L p = c)).toNat) := by
  obtain ⟨u1, u2, u3, u4, u5, u6, u7⟩ := U
  have kl := kd_le (ca B L p)
  unfold t_isSign
  rw [u3, u7, kc_i0, kc_i1, kc_i3]
  by_cases k3 : kd (ca B L p) = 3
  · refine (if_neg (by rw [nx_eq (by omega) (by omega)]; exact fun z => z k3)).trans ?_
    by_cases q : nbr B L p = c
    · rw [dec_t ⟨k3, q⟩]
      exact if_neg (by rw [nx_eq (by omega) (by omega)]; exact fun z => z q)
    · rw [dec_f (fun z => q z.2)]
      exact if_pos (by rw [nx_eq (by omega) (by omega)]; exact q)
  · rw [dec_f (fun z => k3 z.1)]
    exact if_pos (by rw [nx_eq (by omega) (by omega)]; exact k3)
theorem nbr_lt (hB : ∀ k, k < L → B k < 256) (hp : p ≤ L) : nbr B L p < 100000 := by
  have cl : ca B L p ≤ 256 := ca_le hB
  unfold nbr
  split
  · split <;> omega
  · split
    · rename_i k1
      exact nrV_lt hp k1
    · omega
/-- a sign that is not < or > -/
theorem sign_at {c : Nat} (hc : c < 256) (h60 : c ≠ 60) (h62 : c ≠ 62) (hk : kd c = 3) : (kd (ca B L p) = 3 ∧ nbr B L p = c) ↔ ca B L p = c := by
  constructor
  · rintro ⟨k3, e⟩
    unfold nbr at e
    rw [if_pos k3] at e
    split at e
    · omega
    · exact e
  · intro e
    have k3 : kd (ca B L p) = 3 := by rw [e]; exact hk
    refine ⟨k3, ?_⟩
    unfold nbr
    rw [if_pos k3, if_neg (by omega), e]
theorem bh_sign {c : Nat} (e : ca B L p = c) (h60 : c ≠ 60) (h62 : c ≠ 62) (hk : kd c = 3) : bh B L p = p + 1 := by
  unfold bh
  rw [e, if_pos hk, if_neg (by omega)]
theorem kd_end {c : Nat} : kd c = 0 ↔ c = 256 := by
  unfold kd
  constructor
  · intro q
    split at q
    · assumption
    · split at q
      · omega
      · split at q <;> omega
  · intro q
    rw [if_pos q]
theorem s_readW : ∀ (f ln p : Nat) (D : Nat → Int32) (h : pm_H), RF h → CT h L B → UNT h B L p → CSh h s D → BT D ln → (an D 0 = 0 → TGs h s D) → f + ln = 41 → SP (wh (fun z : (Int32 × pm_H) => s_read_35 s 1 z.1 z.2) (nI ln, h)) (fun z => match z with
    | .inl h' => (∃ e, shP B L f ln p D = .inl e ∧ h'.2.1 1 7 = nI e) ∧ FH s h h'
    | .inr (.inl h') => (∃ D', shP B L f ln p D = .inr D' ∧ CSh h' s D' ∧ WR D' ∧ 0 < an D' 0) ∧ FH s h h'
    | .inr (.inr (.inl h')) => (∃ p', shP B L f ln p D = .inl (1 + 8 * p') ∧ h'.2.1 1 3 = nI p') ∧ FH s h h'
    | .inr (.inr (.inr h')) => False)
  | 0, ln, p, D, h, R, C, U, S, T, tg, hf => absurd T.2.2.2 (by omega)
  | f + 1, ln, p, D, h, R, C, U, S, T, tg, hf => by
    have hs := hull_ge S.1
    have hB := fun k hk => (C.2.2 k hk).2
    obtain ⟨⟨v, h1⟩, ec, fh, hz⟩ := s_clause_n R C U S T tg
    have T' := T
    obtain ⟨W, t1, t2, t3⟩ := T
    have st0 : ∀ r, (if ¬ v = 0 then (if ¬ (h1.2.1 1 2) = 0 then ((t_isSign 1 ((Int8.ofInt 59).toInt32) h1).bind fun q5 => if ¬ q5 = 0 then ((t_advance 1 h1).bind fun q7 => some (.inl ((nI ln + Int32.ofInt 1), q7))) else (some (.inr (.inr (.inr (.inl h1)))))) else (some (.inr (.inr (.inl h1))))) else (some (.inr (.inl h1))) : Option ((Int32 × pm_H) ⊕ pm_H ⊕ pm_H ⊕ pm_H ⊕ pm_H)) = r → s_read_35 s 1 (nI ln) h = r := by
      intro r e
      unfold s_read_35
      refine (if_neg (by rw [kc_b_40, nx_lt (by omega) (by omega)]; omega)).trans ?_
      rw [ec, Option.bind_some]
      exact e
    rw [shP]
    cases eo : clAt B L D ln p with
    | inl e =>
      rw [eo] at hz
      obtain ⟨z1, z2⟩ := hz
      dsimp only at z1 z2
      subst z1
      have := st0 _ (if_neg (fun z => z rfl))
      exact ⟨_, wh_inr this, ⟨e, rfl, z2⟩, fh⟩
    | inr q =>
      rw [eo] at hz
      obtain ⟨z1, S1, U1, z7⟩ := hz
      dsimp only at z1 S1 U1 z7 fh
      subst z1
      obtain ⟨T1, q1, q2, q3⟩ := cl_wr T' eo U.1
      have R1 := fh.rf R
      have C1 := fh.ct (by omega) C
      have U1' := U1
      obtain ⟨u1, u2, u3, u4, u5, u6, u7⟩ := U1
      dsimp only
      by_cases en : ca B L q.1 = 256
      · rw [if_pos en]
        have k0 : kd (ca B L q.1) = 0 := kd_end.mpr en
        have := st0 _ ((if_pos n10).trans (if_neg (fun z => z (by rw [u3, k0]; rfl))))
        refine ⟨_, wh_inr this, ⟨q.2, rfl, S1, T1.1, ?_⟩, fh⟩
        have : ¬ an q.2 0 = 0 := fun z => by have := T1.2.1.mpr z; omega
        omega
      · rw [if_neg en]
        have k0 : ¬ kd (ca B L q.1) = 0 := fun z => en (kd_end.mp z)
        have kl := kd_le (ca B L q.1)
        have nl := nbr_lt hB u1
        have es := t_isSign_n U1' (c := 59) (by omega) (by omega)
        by_cases e59 : ca B L q.1 = 59
        · rw [if_pos e59]
          rw [dec_t ((sign_at (c := 59) (by omega) (by omega) (by omega) (by decide)).mpr e59)] at es
          have eb : bh B L q.1 = q.1 + 1 := bh_sign e59 (by omega) (by omega) (by decide)
          have bg := bh_ge (B := B) u1
          obtain ⟨h2, ea, f2, U2, z2⟩ := t_advance_sp R1 C1 u5 bg.2
          have := st0 (some (.inl (nI (ln + 1), h2))) ((if_pos n10).trans ((if_pos (by rw [u3, kc_0, nx_eq (by omega) (by omega)]; exact k0)).trans (by
            rw [kc_b_59, es, Option.bind_some]
            refine (if_pos n10).trans ?_
            rw [ea, Option.bind_some, kc_i1, nx_add])))
          rw [wh_inl this]
          rw [eb] at U2
          refine (s_readW f (ln + 1) (skp B L (q.1 + 1)) q.2 h2 (f2.rf R1) (f2.ct C1) U2 (S1.ft f2) T1 (fun z => by have := T1.2.1.mpr z; omega) (by omega)).mono ?_
          have ff := fh.trans (f2.fh s)
          rintro (z | z | z | z) hq
          · exact ⟨hq.1, ff.trans hq.2⟩
          · exact ⟨hq.1, ff.trans hq.2⟩
          · exact ⟨hq.1, ff.trans hq.2⟩
          · exact hq
        · rw [if_neg e59]
          rw [dec_f (fun z => e59 ((sign_at (c := 59) (by omega) (by omega) (by omega) (by decide)).mp z))] at es
          have := st0 (some (.inr (.inr (.inr (.inl h1))))) ((if_pos n10).trans ((if_pos (by rw [u3, kc_0, nx_eq (by omega) (by omega)]; exact k0)).trans (by
            rw [kc_b_59, es, Option.bind_some]
            exact if_neg (fun z => z rfl))))
          exact ⟨_, wh_inr this, ⟨q.1, rfl, u4⟩, fh⟩
/-- before anything was read -/
def Dz (D : Nat → Int32) : Prop := (∀ j, j < 10 → D j = nI 0) ∧ ∀ j, 106 ≤ j → j < 206 → D j = ng 1
theorem Dz.bt (z : Dz D) : BT D 0 ∧ an D 3 = 0 ∧ mnA D = fun _ _ => none := by
  have e : ∀ j, j < 10 → an D j = 0 := fun j hj => an_n (z.1 j hj) (by omega)
  have mn : mnA D = fun _ _ => none := by
    funext a b
    unfold mnA
    rw [if_neg]
    rintro ⟨h1, h2, h3⟩
    rw [z.2 _ (by omega) (by omega)] at h3
    exact h3 (by decide)
  refine ⟨⟨⟨by rw [z.1 0 (by omega)]; exact isN_n (by omega), by rw [z.1 1 (by omega)]; exact isN_n (by omega), by rw [z.1 2 (by omega)]; exact isN_n (by omega), by rw [z.1 3 (by omega)]; exact isN_n (by omega), z.1 4 (by omega), z.1 5 (by omega), fun m hm => by rw [e 1 (by omega)] at hm; omega, fun o ho => by rw [e 2 (by omega)] at ho; omega, fun a b ha hb => .inl (z.2 _ (by omega) (by omega))⟩, ⟨fun _ => e 0 (by omega), fun _ => rfl⟩, fun _ => e 3 (by omega), by omega⟩, e 3 (by omega), mn⟩
theorem s_read_n (R : RF h) (C : CT h L B) (hs7 : mi_o s 7 = true) (z : Dz D) : SP (s_read s 1 h) (fun q => FH s h q.2 ∧ (match shP B L 41 0 (skp B L 0) D with
    | .inl e => q.1 = nI 0 ∧ q.2.2.1 1 7 = nI e
    | .inr D' => q.1 = nI 1 ∧ CSh q.2 s D' ∧ WR D' ∧ 0 < an D' 0)) := by
  have hs := hull_ge hs7
  have hL := C.2.1
  have zb := z.bt
  unfold s_read
  rw [sp_bd, sp_bd, sp_bd, sp_bd, kc_i0]
  have f4 : FH s h (pm_setI (pm_setI (pm_setI (pm_setI h s 0 (nI 0)) s 1 (nI 0)) s 2 (nI 0)) s 3 (nI 0)) := ((((FH.refl s h).set (by omega) (by omega)).set (by omega) (by omega)).set (by omega) (by omega)).set (by omega) (by omega)
  have v4 : ∀ j, j < 4 → (pm_setI (pm_setI (pm_setI (pm_setI h s 0 (nI 0)) s 1 (nI 0)) s 2 (nI 0)) s 3 (nI 0)).2.1 s j = nI 0 := by
    intro j hj
    have : j = 0 ∨ j = 1 ∨ j = 2 ∨ j = 3 := by omega
    rcases this with rfl | rfl | rfl | rfl <;> simp [ri]
  generalize pm_setI (pm_setI (pm_setI (pm_setI h s 0 (nI 0)) s 1 (nI 0)) s 2 (nI 0)) s 3 (nI 0) = h4 at f4 v4 ⊢
  rw [rf_s12 (f4.rf R) hs7, Option.bind_some]
  refine sp_call (y_fill_sp (by rw [ln_s12 hs7]; omega)) ?_
  rintro h5 ⟨f5, v5⟩
  rw [ln_s12 hs7] at v5
  have f5' : FH s h h5 := f4.trans ⟨f5.mono (fun c hc => .inr (by omega)), by rw [f5.i _ (by omega)]⟩
  unfold t_start
  have f6 : FH s h (pm_setI (pm_setI h5 1 7 (nI 0)) 1 4 (nI 0)) := ⟨(f5'.1.setI (.inl rfl)).setI (.inl rfl), by rw [ri_j _ (by omega), ri_j _ (by omega)]; exact f5'.2⟩
  simp only [kc_i0, bd]
  have S6 : CSh (pm_setI (pm_setI h5 1 7 (nI 0)) 1 4 (nI 0)) s D := by
    have c : ∀ x, 2 ≤ x → (pm_setI (pm_setI h5 1 7 (nI 0)) 1 4 (nI 0)).2.1 x = h5.2.1 x := fun x hx => funext (fun j => by rw [ri_c _ (by omega), ri_c _ (by omega)])
    have e : ∀ j, j < 10 → an D j = 0 := fun j hj => an_n (z.1 j hj) (by omega)
    refine ⟨hs7, ?_, ?_, ?_, ?_, fun m hm => by rw [e 1 (by omega)] at hm; omega, fun o ho => by rw [e 2 (by omega)] at ho; omega, fun a b ha hb _ => ?_, fun k hk => by rw [e 3 (by omega)] at hk; omega, ?_⟩
    · rw [c s (by omega), f5.i _ (by omega), v4 0 (by omega), z.1 0 (by omega)]
    · rw [c s (by omega), f5.i _ (by omega), v4 1 (by omega), z.1 1 (by omega)]
    · rw [c s (by omega), f5.i _ (by omega), v4 2 (by omega), z.1 2 (by omega)]
    · rw [c s (by omega), f5.i _ (by omega), v4 3 (by omega), z.1 3 (by omega)]
    · rw [c (s + 9) (by omega), v5 _ (by omega), z.2 _ (by omega) (by omega), if_pos rfl, kc_b_m2]
    · rw [zb.2.2, e 3 (by omega)]
      intro a b c
      constructor
      · intro q; cases q
      · rintro ⟨k, hk, _⟩; omega
  have G6 : TGs (pm_setI (pm_setI h5 1 7 (nI 0)) 1 4 (nI 0)) s D := by
    intro a b ha hb
    rw [ri_c _ (by omega), ri_c _ (by omega), v5 _ (by omega), z.2 _ (by omega) (by omega), if_pos rfl, kc_b_m2]
  have e4 : (pm_setI (pm_setI h5 1 7 (nI 0)) 1 4 (nI 0)).2.1 1 4 = nI 0 := ri_s _
  have e7 : (pm_setI (pm_setI h5 1 7 (nI 0)) 1 4 (nI 0)).2.1 1 7 = nI 0 := by rw [ri_j _ (by omega), ri_s]
  generalize pm_setI (pm_setI h5 1 7 (nI 0)) 1 4 (nI 0) = h6 at f6 S6 G6 e4 e7 ⊢
  have R6 := f6.rf R
  have C6 := f6.ct (by omega) C
  obtain ⟨h7, ea, f7, U7, z7⟩ := t_advance_sp R6 C6 e4 (Nat.zero_le L)
  rw [ea, Option.bind_some, Option.bind_some]
  have f67 := f6.trans (f7.fh s)
  refine sp_call (s_readW 41 0 (skp B L 0) D h7 (f7.rf R6) (f7.ct C6) U7 (S6.ft f7) zb.1 (fun _ a b ha hb => by rw [f7.fr.i _ (by omega)]; exact G6 a b ha hb) rfl) ?_
  rintro (h8 | h8 | h8 | h8) hq
  · obtain ⟨⟨e, e1, e2⟩, fh⟩ := hq
    rw [e1]
    exact sp_some.mpr ⟨f67.trans fh, rfl, e2⟩
  · obtain ⟨⟨D', e1, e2, e3, e4⟩, fh⟩ := hq
    rw [e1]
    exact sp_some.mpr ⟨f67.trans fh, kc_i1, e2, e3, e4⟩
  · obtain ⟨⟨p', e1, e2⟩, fh⟩ := hq
    rw [e1]
    dsimp only
    rw [e2, t_blame_n, Option.bind_some]
    exact sp_pos mi_bo0 (sp_some.mpr ⟨(f67.trans fh).trans (blame_fh (by omega)), rfl, ri_s _⟩)
  · exact hq.elim
end SRD
