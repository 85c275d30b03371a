/-! A rule's text: a term, read by the reference. -/
/-- the reference as it reads the rule r: at the place p, with k parts and the signs l from b on, d signs still to come -/
def ST (h : pm_H) (r b d : Nat) (B : Nat → Nat) (L k : Nat) (l : List Nat) (p : Nat) : Prop := RF h ∧ MT h L B ∧ MRS h r k b l ∧ h.2.1 193 9 = nI 0 ∧ k ≤ 60 ∧ ∃ q, h.2.1 193 8 = nI q ∧ q ≤ L ∧ skp B L q = p ∧ b + l.length + d ≤ q
abbrev TE (h0 : pm_H) (r b d : Nat) (B : Nat → Nat) (L f k : Nat) (l : List Nat) (p : Nat) (q : pm_H ⊕ pm_H) : Prop := match q with
  | .inl h' => FK r b h0 h' ∧ ∃ e, (∀ w, sumL B L f w k l p = .inl e) ∧ h'.2.1 193 9 = nI e
  | .inr h' => FK r b h0 h' ∧ ∃ f' k' l' p', (∀ w, sumL B L f w k l p = sumL B L f' w k' l' p') ∧ L - p' < f' ∧ isBi (ca B L p') = false ∧ p ≤ p' ∧ ST h' r b d B L k' l' p'
abbrev TQ (h0 : pm_H) (r b d : Nat) (B : Nat → Nat) (L f k : Nat) (l : List Nat) (p : Nat) (q : pm_H ⊕ pm_H ⊕ pm_H) : Prop := match q with
  | .inl s' => SP (wh (fun s : pm_H => m_term_9 193 s) s') (TE h0 r b d B L f k l p)
  | .inr r' => TE h0 r b d B L f k l p r'
section MTE
variable {h h0 : pm_H} {r k b d L p : Nat} {B : Nat → Nat} {l : List Nat}
theorem ST.hp (T : ST h r b d B L k l p) : p ≤ L ∧ ca B L p ≠ 32 ∧ b + l.length + d ≤ p := by
  obtain ⟨_, _, _, _, _, q, q1, q2, q3, q4⟩ := T
  have sg := skp_ge (B := B) q2
  have cp := skp_ca (B := B) q2
  rw [q3] at sg cp
  exact ⟨sg.2, cp, by omega⟩
theorem m_value_st (hr : r < 6) (T : ST h r b d B L k l p) : SP (m_value 193 h) (fun z => FK r b h z.2 ∧ (match valP B L k l p with
    | .inl e => z.1 = nI 0 ∧ z.2.2.1 193 9 = nI e
    | .inr y => z.1 = nI 1 ∧ ST z.2 r b d B L y.1 y.2.1 y.2.2)) := by
  have hp := T.hp.1
  obtain ⟨R, C, S, e9, hk, q, q1, q2, q3, q4⟩ := T
  refine (m_value_n R C hr S q1 q2 q3 e9 hk q4).mono ?_
  rintro ⟨v, h1⟩ ⟨f, hz⟩
  refine ⟨f, ?_⟩
  cases ev : valP B L k l p with
  | inl e => rw [ev] at hz; exact hz
  | inr y =>
    rw [ev] at hz
    obtain ⟨y1, y2, y3, y4⟩ := hz
    obtain ⟨o1, o2, o3, o4, o5, o6⟩ := valP_ok ev hp
    exact ⟨y1, f.rf R, f.mt C, y2, y3, by omega, y4⟩
theorem m_see_st (T : ST h r b d B L k l p) : ∃ h1, m_see 193 h = some (cv (ca B L p), h1) ∧ FK r b h h1 ∧ ST h1 r b d B L k l p ∧ h1.2.1 193 8 = nI p ∧ m_see 193 h1 = some (cv (ca B L p), h1) := by
  obtain ⟨hp, cp, hb⟩ := T.hp
  obtain ⟨R, C, S, e9, hk, q, q1, q2, q3, q4⟩ := T
  have f1 := fx8 h (nI p)
  have e := m_see_n R C q1 q2
  rw [q3] at e
  have a8 : (pm_setI h 193 8 (nI p)).2.1 193 8 = nI p := ri_s _
  have a9 : (pm_setI h 193 8 (nI p)).2.1 193 9 = nI 0 := by rw [ri_j _ (by omega)]; exact e9
  generalize pm_setI h 193 8 (nI p) = h1 at e f1 a8 a9
  refine ⟨h1, e, f1.fk r b, ⟨R.fm f1, f1.mt C, f1.mrs S, a9, hk, p, a8, hp, skp_id cp, hb⟩, a8, ?_⟩
  have e2 := m_see_n (R.fm f1) (f1.mt C) a8 hp
  rw [skp_id cp, ← a8, setI_self] at e2
  exact e2
/-- past a sign -/
theorem ST.past (T : ST h r b d B L k l p) (pL : p < L) : ST (pm_setI h 193 8 (nI (p + 1))) r b (d + 1) B L k l (skp B L (p + 1)) ∧ FK r b h (pm_setI h 193 8 (nI (p + 1))) := by
  obtain ⟨hp, cp, hb⟩ := T.hp
  obtain ⟨R, C, S, e9, hk, q, q1, q2, q3, q4⟩ := T
  have f1 := fx8 h (nI (p + 1))
  exact ⟨⟨R.fm f1, f1.mt C, f1.mrs S, by rw [ri_j _ (by omega)]; exact e9, hk, p + 1, ri_s _, by omega, rfl, by omega⟩, f1.fk r b⟩
theorem m_puts_st (hr : r < 6) {x : Nat} (T : ST h r b (d + 1) B L k l p) : SP (m_puts 193 (nI x) (nI 0) h) (fun h' => FK r b h h' ∧ ST h' r b d B L k (l ++ [x]) p ∧ ∀ j, h'.2.1 193 j = h.2.1 193 j) := by
  obtain ⟨R, C, S, e9, hk, q, q1, q2, q3, q4⟩ := T
  have hL := C.2.1
  refine (m_puts_n R hr S (by omega)).mono ?_
  rintro h1 ⟨f, S1, e⟩
  rw [show x + 16 * 0 = x from rfl] at S1
  refine ⟨f, ⟨f.rf R, f.mt C, S1, by rw [e]; exact e9, hk, q, by rw [e]; exact q1, q2, q3, ?_⟩, e⟩
  rw [List.length_append]
  show b + (l.length + 1) + d ≤ q
  omega
theorem bi_bh {x : Nat} (hx : isBi x = true ∨ isAd x = true) (e : ca B L p = x) : bh B L p = p + 1 ∧ p < L := by
  rw [isBi_t, isAd_t] at hx
  refine ⟨bh_sign e (by omega) (by omega) ?_, (ca_in (by rw [e]; omega)).1⟩
  rcases hx with (rfl | rfl | rfl) | (rfl | rfl) <;> decide
theorem m_term74 (hr : r < 6) (T : ST h r b d B L k l p) (e8 : h.2.1 193 8 = nI p) {x : Nat} (hx : isBi x = true) (e : ca B L p = x) : SP (m_term_74 193 (nI (sop x)) h) (fun o => match o with
    | .inl h' => FK r b h h' ∧ ∃ y, valP B L k l (skp B L (bh B L p)) = .inr y ∧ ST h' r b d B L y.1 (y.2.1 ++ [sop x]) y.2.2
    | .inr (.inl h') => FK r b h h' ∧ ∃ e, valP B L k l (skp B L (bh B L p)) = .inl e ∧ h'.2.1 193 9 = nI e
    | .inr (.inr _) => False) := by
  obtain ⟨b1, pL⟩ := bi_bh (.inl hx) e
  obtain ⟨T1, f1⟩ := T.past pL
  unfold m_term_74
  rw [sp_bd, e8, kc_i1, nx_add, b1]
  refine sp_call (m_value_st hr T1) ?_
  rintro ⟨v, h2⟩ ⟨f2, hz⟩
  dsimp only at f2 hz ⊢
  have f02 := f1.trans f2
  cases ev : valP B L k l (skp B L (p + 1)) with
  | inl e =>
    rw [ev] at hz
    obtain ⟨y1, y2⟩ := hz
    subst y1
    exact sp_neg (fun z => z rfl) (sp_some.mpr ⟨f02, e, rfl, y2⟩)
  | inr y =>
    rw [ev] at hz
    obtain ⟨y1, T2⟩ := hz
    subst y1
    refine sp_pos n10 ?_
    rw [kc_i0]
    refine sp_call (m_puts_st hr T2) ?_
    rintro h3 ⟨f3, T3, _⟩
    exact sp_some.mpr ⟨f02.trans f3, y, rfl, T3⟩
/-- the loop of a term -/
theorem m_termW (hr : r < 6) : ∀ (f k : Nat) (l : List Nat) (p : Nat) (h : pm_H), L - p < f → FK r b h0 h → ST h r b d B L k l p → SP (wh (fun s : pm_H => m_term_9 193 s) h) (TE h0 r b d B L f k l p)
  | 0, k, l, p, h, hf, _, _ => by omega
  | f + 1, k, l, p, h, hf, f0, T => by
    obtain ⟨h1, e1, f1, T1, a8, e2⟩ := m_see_st T
    have f01 := f0.trans f1
    obtain ⟨R1, C1, _⟩ := T1
    have hB := fun k hk => (C1.2.2 k hk).2
    have hL := C1.2.1
    have cl : ca B L p ≤ 256 := ca_le hB
    have hp := T.hp.1
    obtain ⟨h1', e1', f1', T1', a8', e2'⟩ := m_see_st T
    rw [e1] at e1'
    cases e1'
    have bi : ∀ x, ca B L p = x → isBi x = true → SP (m_term_36 193 h1) (TQ h0 r b d B L (f + 1) k l p) := by
      intro x ec hx
      obtain ⟨b1, pL⟩ := bi_bh (.inl hx) ec
      have ep : B p = x := by rw [← ec]; exact ((ca_in (by rw [ec]; rw [isBi_t] at hx; omega)).2).symm
      have bx := hB p pL
      have sg := skp_ge (B := B) (show p + 1 ≤ L by omega)
      have fin74 : SP (m_term_74 193 (nI (sop x)) h1) (TQ h0 r b d B L (f + 1) k l p) := by
        refine (m_term74 hr T1' a8 hx ec).mono ?_
        rintro (h2 | h2 | h2) hq
        · obtain ⟨f2, y, ey, T2⟩ := hq
          obtain ⟨o1, o2, o3, o4, o5, o6⟩ := valP_ok ey (by rw [b1]; exact sg.2)
          rw [b1] at o4
          have es : ∀ w, sumL B L (f + 1) w k l p = sumL B L f w y.1 (y.2.1 ++ [sop x]) y.2.2 := fun w => by
            rw [sumL, ec, if_pos hx, ey]
          refine (m_termW hr f y.1 (y.2.1 ++ [sop x]) y.2.2 h2 (by omega) (f01.trans f2) T2).mono ?_
          rintro (h3 | h3) hq
          · obtain ⟨g1, e, g2, g3⟩ := hq
            exact ⟨g1, e, fun w => by rw [es]; exact g2 w, g3⟩
          · obtain ⟨g1, f', k', l', p', g2, g3, g4, g5, g6⟩ := hq
            exact ⟨g1, f', k', l', p', fun w => by rw [es]; exact g2 w, g3, g4, by omega, g6⟩
        · obtain ⟨f2, e, ey, e9⟩ := hq
          exact ⟨f01.trans f2, e, fun w => by rw [sumL, ec, if_pos hx, ey], e9⟩
        · exact hq.elim
      unfold m_term_36
      rw [ra_193_0 R1, Option.bind_some, a8, mn_194, gi_n (by omega), nx_cl (by omega), (C1.2.2 p pL).1, ep, kc_b_42, kc_b_47, kc_b_14]
      rw [ep] at bx
      refine sp_pos (dec_t (by omega)) ?_
      rw [isBi_t] at hx
      rcases hx with rfl | rfl | rfl
      · exact sp_neg (fun z => z (by rw [sb_eq (by omega) (by omega)])) fin74
      · refine sp_pos (by rw [sb_eq (by omega) (by omega)]; omega) ?_
        rw [Option.bind_some, mn_194, gi_n (by omega)]
        exact sp_pos (dec_t (by omega)) (sp_neg (fun z => z (by rw [(C1.2.2 p pL).1, ep, sb_eq (by omega) (by omega)])) fin74)
      · refine sp_pos (by rw [sb_eq (by omega) (by omega)]; omega) ?_
        rw [Option.bind_some, mn_194, gi_n (by omega)]
        exact sp_pos (dec_t (by omega)) (sp_pos (by rw [(C1.2.2 p pL).1, ep, sb_eq (by omega) (by omega)]; omega) fin74)
    suffices hs : SP (m_term_9 193 h) (TQ h0 r b d B L (f + 1) k l p) from wh_step (hs.mono (by rintro (q | q) hq <;> exact hq))
    unfold m_term_9
    rw [e1, Option.bind_some, kc_b_42, kc_b_47, kc_b_37]
    by_cases x1 : ca B L p = 42
    · exact sp_pos (by rw [cv_eq cl (by omega)]; exact x1) (bi 42 x1 rfl)
    refine sp_neg (by rw [cv_eq cl (by omega)]; exact x1) ?_
    rw [e2, Option.bind_some]
    by_cases x2 : ca B L p = 47
    · exact sp_pos (by rw [cv_eq cl (by omega)]; exact x2) (bi 47 x2 rfl)
    refine sp_neg (by rw [cv_eq cl (by omega)]; exact x2) ?_
    rw [e2, Option.bind_some]
    by_cases x3 : ca B L p = 37
    · exact sp_neg (fun z => z (by rw [cv_eq cl (by omega)]; exact x3)) (bi 37 x3 rfl)
    refine sp_pos (by rw [cv_eq cl (by omega)]; exact x3) (sp_some.mpr ?_)
    exact ⟨f01, f + 1, k, l, p, fun w => rfl, hf, decide_eq_false (fun z => by omega), Nat.le_refl p, T1'⟩
/-- a term -/
theorem m_term_st (hr : r < 6) {f : Nat} (hf : L - p ≤ f) (T : ST h r b d B L k l p) : SP (m_term 193 h) (fun z => FK r b h z.2 ∧ ((z.1 = nI 0 ∧ ∃ e, (∀ w, (match valP B L k l p with | .inl e => .inl e | .inr y => sumL B L f w y.1 y.2.1 y.2.2) = (.inl e : RDO)) ∧ z.2.2.1 193 9 = nI e) ∨ (z.1 = nI 1 ∧ ∃ f' k' l' p', (∀ w, (match valP B L k l p with | .inl e => .inl e | .inr y => sumL B L f w y.1 y.2.1 y.2.2) = sumL B L f' w k' l' p') ∧ L - p' < f' ∧ isBi (ca B L p') = false ∧ p < p' ∧ ST z.2 r b d B L k' l' p'))) := by
  have hp := T.hp.1
  unfold m_term
  refine sp_call (m_value_st hr T) ?_
  rintro ⟨v, h1⟩ ⟨f1, hz⟩
  dsimp only at f1 hz ⊢
  cases ev : valP B L k l p with
  | inl e =>
    rw [ev] at hz
    obtain ⟨y1, y2⟩ := hz
    subst y1
    exact sp_neg (fun z => z rfl) (sp_some.mpr ⟨f1, .inl ⟨by rw [kc_i0], e, fun _ => rfl, y2⟩⟩)
  | inr y =>
    rw [ev] at hz
    obtain ⟨y1, T1⟩ := hz
    obtain ⟨o1, o2, o3, o4, o5, o6⟩ := valP_ok ev hp
    subst y1
    refine sp_pos n10 ?_
    refine sp_call (m_termW hr f y.1 y.2.1 y.2.2 h1 (by omega) f1 T1) ?_
    rintro (h2 | h2) hq
    · obtain ⟨g1, e, g2, g3⟩ := hq
      exact sp_some.mpr ⟨g1, .inl ⟨by rw [kc_i0], e, g2, g3⟩⟩
    · obtain ⟨g1, f', k', l', p', g2, g3, g4, g5, g6⟩ := hq
      exact sp_some.mpr ⟨g1, .inr ⟨by rw [kc_i1], f', k', l', p', g2, g3, g4, by omega, g6⟩⟩
end MTE
