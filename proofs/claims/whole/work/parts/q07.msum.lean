/-! A rule's text: a sum, read by the reference. -/
abbrev TF (h0 : pm_H) (r b d : Nat) (B : Nat → Nat) (L : Nat) (o : RDO) (q : pm_H ⊕ pm_H) : Prop := match q with
  | .inl h' => FK r b h0 h' ∧ ∃ e, o = .inl e ∧ h'.2.1 193 9 = nI e
  | .inr h' => FK r b h0 h' ∧ ∃ y, o = .inr y ∧ ST h' r b d B L y.1 y.2.1 y.2.2
abbrev TG (h0 : pm_H) (r b d : Nat) (B : Nat → Nat) (L : Nat) (o : RDO) (q : pm_H ⊕ pm_H ⊕ pm_H) : Prop := match q with
  | .inl s' => SP (wh (fun s : pm_H => m_sum_9 193 s) s') (TF h0 r b d B L o)
  | .inr r' => TF h0 r b d B L o r'
section MSU
variable {h h0 : pm_H} {r k b d L p : Nat} {B : Nat → Nat} {l : List Nat}
theorem m_sumW (hr : r < 6) : ∀ (n f : Nat) (w : Option Nat) (k : Nat) (l : List Nat) (p : Nat) (h : pm_H), L - p < n → L - p < f → isBi (ca B L p) = false → FK r b h0 h → ST h r b d B L k (fin w l) p → SP (wh (fun s : pm_H => m_sum_9 193 s) h) (TF h0 r b d B L (sumL B L f w k l p))
  | 0, f, w, k, l, p, h, hn, _, _, _, _ => by omega
  | n + 1, 0, w, k, l, p, h, hn, hf, _, _, _ => by omega
  | n + 1, f + 1, w, k, l, p, h, hn, hf, nb, f0, T => by
    obtain ⟨h1, e1, f1, T1, a8, e2⟩ := m_see_st T
    have f01 := f0.trans f1
    have T1' := T1
    obtain ⟨R1, C1, _⟩ := T1
    have hB := fun k hk => (C1.2.2 k hk).2
    have hL := C1.2.1
    have cl : ca B L p ≤ 256 := ca_le hB
    have hp := T.hp.1
    have ad : ∀ x, ca B L p = x → isAd x = true → SP (m_sum_27 193 h1) (TG h0 r b d B L (sumL B L (f + 1) w k l p)) := by
      intro x ec hx
      obtain ⟨b1, pL⟩ := bi_bh (.inr hx) ec
      have ep : B p = x := by rw [← ec]; exact ((ca_in (by rw [ec]; rw [isAd_t] at hx; omega)).2).symm
      have bx := hB p pL
      have sg := skp_ge (B := B) (show p + 1 ≤ L by omega)
      have es : sumL B L (f + 1) w k l p = (match valP B L k (fin w l) (skp B L (p + 1)) with | .inl e => .inl e | .inr y => sumL B L f (some x) y.1 y.2.1 y.2.2) := by
        rw [sumL, nb, if_neg (by decide), ec, if_pos hx, b1]
        cases valP B L k (fin w l) (skp B L (p + 1)) <;> rfl
      obtain ⟨T2, f2⟩ := T1'.past pL
      have f46 : SP (m_sum_46 193 (nI (sop x)) h1) (TG h0 r b d B L (sumL B L (f + 1) w k l p)) := by
        unfold m_sum_46
        rw [sp_bd, a8, kc_i1, nx_add]
        refine sp_call (m_term_st hr (f := f) (by omega) T2) ?_
        rintro ⟨v, h3⟩ ⟨f3, hz⟩
        dsimp only at f3 hz ⊢
        have f03 := (f01.trans f2).trans f3
        rcases hz with ⟨y1, e, g1, g2⟩ | ⟨y1, f', k', l', p', g1, g2, g3, g4, g5⟩
        · subst y1
          exact sp_neg (fun z => z rfl) (sp_some.mpr ⟨f03, e, by rw [es]; exact g1 (some x), g2⟩)
        · subst y1
          refine sp_pos n10 ?_
          rw [kc_i0]
          refine sp_call (m_puts_st hr g5) ?_
          rintro h4 ⟨f4, T4, _⟩
          refine sp_some.mpr ?_
          have e' : sumL B L (f + 1) w k l p = sumL B L f' (some x) k' l' p' := by rw [es]; exact g1 (some x)
          show SP (wh (fun s : pm_H => m_sum_9 193 s) h4) (TF h0 r b d B L (sumL B L (f + 1) w k l p))
          rw [e']
          exact m_sumW hr n f' (some x) k' l' p' h4 (by omega) g2 g3 (f03.trans f4) T4
      unfold m_sum_27
      rw [ra_193_0 R1, Option.bind_some, a8, mn_194, gi_n (by omega), nx_cl (by omega), (C1.2.2 p pL).1, ep, kc_b_43, kc_i2, kc_i3]
      rw [ep] at bx
      refine sp_pos (dec_t (by omega)) ?_
      rw [isAd_t] at hx
      rcases hx with rfl | rfl
      · exact sp_neg (fun z => z (by rw [sb_eq (by omega) (by omega)])) f46
      · exact sp_pos (by rw [sb_eq (by omega) (by omega)]; omega) f46
    suffices hs : SP (m_sum_9 193 h) (TG h0 r b d B L (sumL B L (f + 1) w k l p)) from wh_step (hs.mono (by rintro (q | q) hq <;> exact hq))
    unfold m_sum_9
    rw [e1, Option.bind_some, kc_b_43, kc_b_45]
    by_cases x1 : ca B L p = 43
    · exact sp_pos (by rw [cv_eq cl (by omega)]; exact x1) (ad 43 x1 rfl)
    refine sp_neg (by rw [cv_eq cl (by omega)]; exact x1) ?_
    rw [e2, Option.bind_some]
    by_cases x2 : ca B L p = 45
    · exact sp_neg (fun z => z (by rw [cv_eq cl (by omega)]; exact x2)) (ad 45 x2 rfl)
    refine sp_pos (by rw [cv_eq cl (by omega)]; exact x2) (sp_some.mpr ?_)
    have na : isAd (ca B L p) = false := decide_eq_false (fun z => by omega)
    exact ⟨f01, (k, fin w l, p), by rw [sumL, nb, na, if_neg (by decide), if_neg (by decide)], T1'⟩
theorem m_sum_st (hr : r < 6) (T : ST h r b d B L k l p) : SP (m_sum 193 h) (fun z => FK r b h z.2 ∧ (match sumP B L k l p with
    | .inl e => z.1 = nI 0 ∧ z.2.2.1 193 9 = nI e
    | .inr y => z.1 = nI 1 ∧ ST z.2 r b d B L y.1 y.2.1 y.2.2)) := by
  have hL := T.2.1.2.1
  unfold m_sum
  refine sp_call (m_term_st hr (f := 400) (by omega) T) ?_
  rintro ⟨v, h1⟩ ⟨f1, hz⟩
  dsimp only at f1 hz ⊢
  have es : sumP B L k l p = (match valP B L k l p with | .inl e => .inl e | .inr y => sumL B L 400 none y.1 y.2.1 y.2.2) := by
    unfold sumP
    cases valP B L k l p <;> rfl
  rcases hz with ⟨y1, e, g1, g2⟩ | ⟨y1, f', k', l', p', g1, g2, g3, g4, g5⟩
  · subst y1
    have es' : sumP B L k l p = .inl e := es.trans (g1 none)
    rw [es']
    exact sp_neg (fun z => z rfl) (sp_some.mpr ⟨f1, by rw [kc_i0], g2⟩)
  · subst y1
    have es' : sumP B L k l p = sumL B L f' none k' l' p' := es.trans (g1 none)
    rw [es']
    refine sp_pos n10 ?_
    refine sp_call (m_sumW hr (L - p' + 1) f' none k' l' p' h1 (by omega) g2 g3 f1 g5) ?_
    rintro (h2 | h2) hq
    · obtain ⟨q1, e, q2, q3⟩ := hq
      rw [q2]
      exact sp_some.mpr ⟨q1, by rw [kc_i0], q3⟩
    · obtain ⟨q1, y, q2, q3⟩ := hq
      rw [q2]
      exact sp_some.mpr ⟨q1, by rw [kc_i1], q3⟩
end MSU
