/-! rule, of the program: the whole. -/
section XR2
variable {h : pm_H} {L s n : Nat} {B : Nat → Nat} {A : Nat → Int32}
theorem QI.rl {h' : pm_H} (Q : QI h s A) {T : Nat → Prop} (f : Fr T h h') (hT : ∀ c, T c → c ≤ 1 ∨ (90 ≤ c ∧ c ≤ 107)) : QI h' s A := by
  obtain ⟨R, h1, S, H, D, w, C⟩ := Q
  have hsv := hull_ge S.1
  have nt : ∀ c, (1 < c ∧ c < 90) ∨ 107 < c → ¬ T c := fun c hc z => by have := hT c z; omega
  exact ⟨R.fr f, by rw [f.r]; exact h1, S.fr f (fun c a b => nt c (by omega)), H.of (f.2.2 169 (nt _ (by omega))).1 (f.2.2 170 (nt _ (by omega))).1 (f.2.2 171 (nt _ (by omega))).1, D.of (f.2.2 168 (nt _ (by omega))).1 (f.2.2 172 (nt _ (by omega))).1, w, fun h0 => (C h0).fr (by rw [f.r]) (f.2.2 69 (nt _ (by omega))).1 (f.2.2 74 (nt _ (by omega))).1 (f.2.2 75 (nt _ (by omega))).1⟩
theorem x_rule_no (Q : QI h s A) (e2 : h.2.1 0 2 = nI 6) : x_rule 0 h = some (ng 1, h) := by
  have R := Q.1
  unfold x_rule
  rw [e2]
  refine (if_neg (by rw [kc_0, nx_lt (by omega) (by omega)]; omega)).trans ?_
  rw [ra_0_1 R, Option.bind_some, mn_3]
  refine (if_neg (by rw [kc_on, nx_lt (by omega) (by omega)]; omega)).trans ?_
  rw [kc_im1]
theorem x_rule_ok (Q : QI h s A) (C : CT h L B) (hn : n < 6) (e2 : h.2.1 0 2 = nI n) : SP (x_rule 0 h) (fun z => Fr (fun c => c = 0 ∨ c = 1 ∨ c = 90 + 3 * n ∨ c = 90 + 3 * n + 1) h z.2 ∧ QI z.2 s A ∧ z.2.2.1 1 1 = nI 0 ∧ (∀ j, j ≠ 2 → z.2.2.1 0 j = h.2.1 0 j) ∧ (match rulP B L 13 0 0 [] (skp B L 0) with
    | .inl e => z.1 = ng 2 - nI e ∧ z.2.2.1 0 2 = nI n
    | .inr cls => z.1 = nI n ∧ z.2.2.1 0 2 = nI (n + 1) ∧ RC z.2 (90 + 3 * n) cls)) := by
  have R := Q.1
  have hu := ro_rules hn
  unfold x_rule
  rw [e2]
  refine sp_neg (by rw [kc_0, nx_lt (by omega) (by omega)]; omega) ?_
  rw [ra_0_1 R, Option.bind_some, mn_3]
  refine sp_pos (by rw [kc_on, nx_lt (by omega) (by omega)]; omega) ?_
  rw [Option.bind_some, mn_3, gi_n (by omega), nx_cl (by omega), rg_rules R hn]
  refine sp_pos (dec_t hn) ?_
  rw [Option.bind_some, ra_0_0 R, Option.bind_some]
  refine sp_call (u_read_n R C hu) ?_
  rintro ⟨v, h1⟩ ⟨f1, hz⟩
  dsimp only at f1 hz ⊢
  rw [ra_0_0 (f1.rf R), Option.bind_some, sp_bd, kc_i0]
  have f2 : Fr (fun c => c = 0 ∨ c = 1 ∨ c = 90 + 3 * n ∨ c = 90 + 3 * n + 1) h (pm_setI h1 1 1 (nI 0)) := (f1.1.mono (fun c hc => by omega)).setI (by omega)
  have a11 : (pm_setI h1 1 1 (nI 0)).2.1 1 1 = nI 0 := ri_s _
  have a17 : (pm_setI h1 1 1 (nI 0)).2.1 1 7 = h1.2.1 1 7 := ri_j _ (by omega)
  have a0 : ∀ j, (pm_setI h1 1 1 (nI 0)).2.1 0 j = h.2.1 0 j := fun j => by rw [ri_c _ (by omega), f1.1.i _ (by omega)]
  have au : ∀ c, c ≠ 1 → (pm_setI h1 1 1 (nI 0)).2.1 c = h1.2.1 c := fun c hc => by funext j; rw [ri_c _ hc]
  generalize pm_setI h1 1 1 (nI 0) = h2 at f2 a11 a17 a0 au ⊢
  have R2 := R.fr f2
  cases ev : rulP B L 13 0 0 [] (skp B L 0) with
  | inl e =>
    rw [ev] at hz
    obtain ⟨y1, y2⟩ := hz
    subst y1
    refine sp_neg (fun z => z rfl) ?_
    rw [ra_0_0 R2, Option.bind_some]
    refine sp_some.mpr ⟨f2, Q.rl f2 (fun c hc => by omega), a11, fun j _ => a0 j, ?_, by rw [a0]; exact e2⟩
    show _ - h2.2.1 1 7 = _
    rw [a17, y2, kc_b_m2]
  | inr cls =>
    rw [ev] at hz
    obtain ⟨y1, K⟩ := hz
    subst y1
    refine sp_pos n10 ?_
    rw [sp_bd, a0, e2, kc_i1, nx_add]
    have f3 : Fr (fun c => c = 0 ∨ c = 1 ∨ c = 90 + 3 * n ∨ c = 90 + 3 * n + 1) h (pm_setI h2 0 2 (nI (n + 1))) := f2.setI (by omega)
    refine sp_some.mpr ⟨f3, Q.rl f3 (fun c hc => by omega), ?_, fun j hj => ?_, ?_, ri_s _, ?_⟩
    · rw [ri_c _ (by omega)]; exact a11
    · rw [ri_j _ hj]; exact a0 j
    · show (pm_setI h2 0 2 (nI (n + 1))).2.1 0 2 - _ = _
      rw [ri_s, nx_sub (by omega)]
      rfl
    · obtain ⟨k1, k2, k3⟩ := K
      refine ⟨?_, k2, fun j hj => ?_⟩
      · rw [ri_c _ (by omega), au _ (by omega)]; exact k1
      · rw [ri_c _ (by omega), au _ (by omega)]; exact k3 j hj
end XR2
