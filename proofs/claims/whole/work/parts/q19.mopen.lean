/-! A rule's text: what is opened, and whether the reference is inside. -/
section MOP
variable {h h0 : pm_H} {r k b L p : Nat} {B : Nat → Nat} {l s : List Nat}
theorem SKs.push {h' : pm_H} (K : SKs h s) {t : Nat} (ht : t = 11 ∨ t = 12 ∨ t = 13 ∨ t = 91) (room : s.length < 400) (e1 : h'.2.1 193 16 = nI (s.length + 1)) (e2 : h'.2.1 200 s.length = nI t) (e3 : ∀ i, i < s.length → h'.2.1 200 i = h.2.1 200 i) (e4 : h'.2.1 193 13 = nI (dep (t :: s))) : SKs h' (t :: s) := by
  obtain ⟨k1, k2, k3, k4, k5⟩ := K
  have sl : (t :: s).length = s.length + 1 := rfl
  refine ⟨e1, room, fun i hi => ?_, e4, fun x hx => ?_⟩
  · rw [sl] at hi ⊢
    by_cases q : i = s.length
    · subst q
      rw [e2, show s.length + 1 - 1 - s.length = 0 by omega]
      rfl
    · rw [e3 i (by omega), k3 i (by omega), show s.length + 1 - 1 - i = (s.length - 1 - i) + 1 by omega]
      rfl
  · rw [List.mem_cons] at hx
    rcases hx with rfl | hx
    · exact ht
    · exact k5 x hx
theorem m_opens_n (T : ST h r b (pnd s) B L k l p) (K : SKs h s) {t : Nat} (ht : t = 11 ∨ t = 91) (dl : dep s ≤ 10) (room : s.length < 400) (e8 : h.2.1 193 8 = nI p) : SP (m_opens 193 (nI t) h) (fun z => FJ r b h z.2 ∧ (if dep s < 10 then z.1 = nI 1 ∧ ST z.2 r b (pnd s) B L k l p ∧ SKs z.2 (t :: s) ∧ z.2.2.1 193 8 = nI p else z.1 = nI 0 ∧ z.2.2.1 193 9 = nI (1 + 8 * p + 2))) := by
  have R := T.1
  have e9 := T.2.2.2.1
  have K' := K
  obtain ⟨k1, k2, k3, k4, k5⟩ := K
  unfold m_opens
  rw [k4]
  by_cases q : dep s < 10
  · refine SP.mono (?_ : SP _ (fun z => FJ r b h z.2 ∧ z.1 = nI 1 ∧ ST z.2 r b (pnd s) B L k l p ∧ SKs z.2 (t :: s) ∧ z.2.2.1 193 8 = nI p)) (fun z hz => by rw [if_pos q]; exact hz)
    refine sp_pos (by rw [kc_b_10, nx_eq (by omega) (by omega)]; omega) ?_
    rw [sp_bd, kc_i1, nx_add]
    have g1 : FrM (fun c => c = 200) (fun j => j = 13 ∨ j = 16) h (pm_setI h 193 13 (nI (dep s + 1))) := (FrM.refl _ _ h).setF (.inl rfl)
    rw [ra_193_15 (R.fm g1), Option.bind_some, ri_j _ (by omega), k1, mn_200, gi_n (by omega), nx_cl (by omega)]
    refine sp_pos (dec_t room) ?_
    rw [sp_bd, sp_bd, ri_c _ (by omega), ri_j _ (by omega), k1, nx_add]
    have g3 : FrM (fun c => c = 200) (fun j => j = 13 ∨ j = 16) h (pm_setI (pm_setI (pm_setI h 193 13 (nI (dep s + 1))) 200 s.length (nI t)) 193 16 (nI (s.length + 1))) := (g1.setI (by omega) rfl).setF (.inr rfl)
    refine sp_some.mpr ⟨(((FJ.refl r b h).set (.inl rfl)).psh).set (.inr rfl), rfl, T.stk g3, ?_, ?_⟩
    · refine K'.push (by omega) room (ri_s _) ?_ (fun i hi => ?_) ?_
      · rw [ri_c _ (by omega), ri_s]
      · rw [ri_c _ (by omega), ri_j _ (by omega), ri_c _ (by omega)]
      · rw [ri_j _ (by omega), ri_c _ (by omega), ri_s]
        show _ = nI ((if t = 91 ∨ t = 11 then 1 else 0) + dep s)
        rw [if_pos (by omega), Nat.add_comm]
    · rw [ri_j _ (by omega), ri_c _ (by omega), ri_j _ (by omega)]
      exact e8
  · refine SP.mono (?_ : SP _ (fun z => FJ r b h z.2 ∧ z.1 = nI 0 ∧ z.2.2.1 193 9 = nI (1 + 8 * p + 2))) (fun z hz => by rw [if_neg q]; exact hz)
    refine sp_neg (fun z => z (by rw [kc_b_10, nx_eq (by omega) (by omega)]; omega)) ?_
    rw [e8, kc_i2, m_fails_n e9, Option.bind_some]
    exact sp_pos mi_bo0 (sp_some.mpr ⟨((FK.refl r b h).set (by omega)).fj, rfl, ri_s _⟩)
end MOP
