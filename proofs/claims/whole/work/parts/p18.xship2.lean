/-! ship, of the program: the whole. -/
section XS2
variable {h : pm_H} {s q n L X : Nat} {b : Nat → Bool} {S : Nat → Nat} {B : Nat → Nat} {A A0 D : Nat → Int32} {P : Nat → Nat → Int32}
/-- what ship may change, q the hull that was free -/
def FG (q : Nat) (h h' : pm_H) : Prop := h'.1 = h.1 ∧ (∀ k j, (j = 0 → k ≠ 168 ∧ k ≠ 69 ∧ k ≠ 70 ∧ k ≠ 77) → h'.2.2.2 k j = h.2.2.2 k j) ∧ ∀ x, ¬ (WC 168 x ∨ x = 1 ∨ x = 6 ∨ KC x ∨ (q ≤ x ∧ x ≤ q + 9)) → h'.2.1 x = h.2.1 x ∧ h'.2.2.1 x = h.2.2.1 x
theorem hulls_apart {c d : Nat} (hc : mi_o c 7 = true) (hd : mi_o d 7 = true) (h : c ≠ d) : c + 10 ≤ d ∨ d + 10 ≤ c := hulls_far c (ob_s c hc) d (ob_s d hd) h
theorem QI.hul {h' : pm_H} (Q : QI h s A) (hq : mi_o q 7 = true) (hne : s ≠ q) {T : Nat → Prop} (f : Fr T h h') (hT : ∀ c, T c → c = 1 ∨ (q ≤ c ∧ c ≤ q + 9)) : QI h' s A := by
  obtain ⟨R, h1, Z, H, Dn, w, C⟩ := Q
  have hsv := hull_ge Z.1
  have hqv := hull_ge hq
  have far := hulls_apart Z.1 hq hne
  have nt : ∀ c, c ≠ 1 → (c < q ∨ q + 9 < c) → ¬ T c := fun c hc hc2 z => by have := hT c z; omega
  exact ⟨R.fr f, by rw [f.r]; exact h1, Z.fr f (fun c a b => nt c (by omega) (by omega)), H.of (f.2.2 169 (nt _ (by omega) (by omega))).1 (f.2.2 170 (nt _ (by omega) (by omega))).1 (f.2.2 171 (nt _ (by omega) (by omega))).1, Dn.of (f.2.2 168 (nt _ (by omega) (by omega))).1 (f.2.2 172 (nt _ (by omega) (by omega))).1, w, fun h0 => (C h0).fr (by rw [f.r]) (f.2.2 69 (nt _ (by omega) (by omega))).1 (f.2.2 74 (nt _ (by omega) (by omega))).1 (f.2.2 75 (nt _ (by omega) (by omega))).1⟩
theorem x_ship_n (Q : QI h s A) (C : CP h n P) (T : CT h L B) (G : IMG h b S) (x5 : h.2.1 168 5 = nI X) (hX : X < 2147483648) (z : Dz D) : ∃ q, mi_o q 7 = true ∧ s ≠ q ∧ (∀ k, k < 4 → b k = true → S k ≠ q) ∧ SP (x_ship 0 h) (fun y => FG q h y.2 ∧ y.2.2.1 1 1 = nI 0 ∧ y.2.2.1 168 5 = nI X ∧ (match shP B L 41 0 (skp B L 0) D with
    | .inl e => y.1 = ng (2 + e) ∧ QI y.2 s A ∧ Fr (fun c => c = 1 ∨ (q ≤ c ∧ c ≤ q + 9)) h y.2
    | .inr D' => y.1 = D' 1 ∧ QI y.2 q (begA D' A0) ∧ CP y.2 0 P)) := by
  have R := Q.1
  have s7 := Q.2.2.1.1
  obtain ⟨q, e1, q7, sq, im⟩ := x_freeHull_n R Q.2.1 s7 G
  have hqv := hull_ge q7
  refine ⟨q, q7, sq, im, ?_⟩
  unfold x_ship
  rw [e1, Option.bind_some]
  refine sp_pos q7 ?_
  rw [ra_0_0 R, Option.bind_some]
  refine sp_call (s_read_n R T q7 z) ?_
  rintro ⟨v, h4⟩ ⟨f4, hz⟩
  dsimp only at f4 hz ⊢
  rw [ra_0_0 (f4.rf R), Option.bind_some, sp_bd, kc_i0]
  have f6 : Fr (fun c => c = 1 ∨ (q ≤ c ∧ c ≤ q + 9)) h (pm_setI h4 1 1 (nI 0)) := f4.1.setI (.inl rfl)
  have v6 : (pm_setI h4 1 1 (nI 0)).2.1 1 1 = nI 0 := ri_s _
  have v7 : (pm_setI h4 1 1 (nI 0)).2.1 1 7 = h4.2.1 1 7 := ri_j _ (by omega)
  have g6 : Fr (· = 1) h4 (pm_setI h4 1 1 (nI 0)) := (Fr.refl _ h4).setI rfl
  generalize pm_setI h4 1 1 (nI 0) = h6 at f6 v6 v7 g6 ⊢
  have R6 := R.fr f6
  have fg : ∀ {h' : pm_H}, Fr (fun c => c = 1 ∨ (q ≤ c ∧ c ≤ q + 9)) h h' → FG q h h' := fun {h'} f => ⟨f.1, fun k j _ => by rw [f.r], fun x hx => f.2.2 x (fun y => hx (by omega))⟩
  cases eq : shP B L 41 0 (skp B L 0) D with
  | inl e =>
    rw [eq] at hz
    obtain ⟨y1, y2⟩ := hz
    subst y1
    have := shP_pos 41 0 (skp B L 0) _ e rfl z.bt.1 (skp_ge (B := B) (Nat.zero_le L)).2 eq
    have hL := T.2.1
    refine sp_neg (fun z => z rfl) ?_
    rw [ra_0_0 R6, Option.bind_some]
    refine sp_some.mpr ⟨fg f6, v6, by rw [f6.i _ (by omega)]; exact x5, ?_, Q.hul q7 sq f6 (fun c hc => hc), f6⟩
    show _ - h6.2.1 1 7 = _
    rw [v7, y2, kc_b_m2, ng_sub (by omega) (by omega)]
  | inr D' =>
    rw [eq] at hz
    obtain ⟨y1, Z, W, pos⟩ := hz
    subst y1
    refine sp_pos n10 ?_
    rw [ra_0_4 R6, Option.bind_some, sp_bd]
    have Z6 : CSh h6 q D' := Z.fr g6 (fun c a b => by omega)
    have i9 : (pm_setR h6 168 0 (some q)).2.1 = h6.2.1 := rfl
    have k9 : (pm_setR h6 168 0 (some q)).2.2.1 = h6.2.2.1 := rfl
    have r9 : ∀ k j, ¬ (k = 168 ∧ j = 0) → (pm_setR h6 168 0 (some q)).2.2.2 k j = h6.2.2.2 k j := fun k j y => by
      rw [rR]
      by_cases q1 : k = 168
      · rw [if_pos q1, if_neg (fun q2 => y ⟨q1, q2⟩)]
      · rw [if_neg q1]
    have r9' : (pm_setR h6 168 0 (some q)).2.2.2 168 0 = some q := by rw [rR, if_pos rfl, if_pos rfl]
    have l9 : (pm_setR h6 168 0 (some q)).1 = h6.1 := rfl
    have R9 : RF (pm_setR h6 168 0 (some q)) := by
      intro y hy
      rw [r9 y.1.1 y.1.2 (fun w => tb_rf_w y hy w.2 (by rw [w.1]; decide))]
      exact R6 y hy
    generalize pm_setR h6 168 0 (some q) = h9 at i9 k9 r9 r9' l9 R9 ⊢
    rw [ra_0_4 R9, Option.bind_some, rf_w1 R9 o169, Option.bind_some]
    have e9 : h9.2.1 q 1 = D' 1 := by rw [i9]; exact Z6.2.2.1
    rw [e9]
    refine sp_call (n_begin_n R9 W A0) ?_
    rintro h12 ⟨f12, H12⟩
    rw [ra_0_4 (R9.fr f12), Option.bind_some, sp_bd]
    have f14 : Fr (fun c => 168 ≤ c ∧ c ≤ 171) h9 (pm_setI h12 168 2 (nI 0)) := (f12.mono (fun c hc => show 168 ≤ c ∧ c ≤ 171 by omega)).setI (by omega)
    have R14 := R9.fr f14
    rw [ra_0_6 R14, Option.bind_some]
    have f15 : Fr (fun c => 168 ≤ c ∧ c ≤ 171 ∨ c = 6) h9 (pm_setI (pm_setI h12 168 2 (nI 0)) 6 2 (nI 0)) := (f14.mono (fun c hc => .inl hc)).setI (.inr rfl)
    have pf : p_forget 6 (pm_setI h12 168 2 (nI 0)) = some (pm_setI (pm_setI h12 168 2 (nI 0)) 6 2 (nI 0)) := by
      unfold p_forget
      rw [kc_i0]
      rfl
    rw [pf, Option.bind_some]
    have R15 := R9.fr f15
    have wf := begA_wf W A0
    have b226 : begA D' A0 226 = nI 0 := by unfold begA; rw [if_neg (by omega), if_neg (by omega), if_pos (by omega)]
    have a226 : an (begA D' A0) 226 = 0 := an_n b226 (by omega)
    have W15 : WLD (pm_setI (pm_setI h12 168 2 (nI 0)) 6 2 (nI 0)) 168 q (begA D' A0) X := by
      refine ⟨o169, by rw [f15.r]; exact r9', ?_, ?_, ⟨o169, ?_, fun k hk => by omega, ?_⟩, wf.1, by omega, ?_, hX⟩
      · have Z9 : CSh h9 q D' := by
          unfold CSh at Z6 ⊢
          rw [i9]
          exact Z6
        exact (Z9.beg W A0).fr f15 (fun c a b => by omega)
      · refine H12.of ?_ ?_ ?_ <;> (funext j; rw [ri_c _ (by omega), ri_c _ (by omega)])
      · rw [ri_c _ (by omega), ri_s, b226]
      · obtain ⟨d, d1, d2, _⟩ := Q.2.2.2.2.1.2.2.2
        refine ⟨d, d1, ?_, fun k hk => by omega⟩
        rw [ri_c _ (by omega), ri_j _ (by omega), f12.i _ (by omega), i9, f6.i _ (by omega)]
        exact d2
      · rw [ri_c _ (by omega), ri_j _ (by omega), f12.i _ (by omega), i9, f6.i _ (by omega)]
        exact x5
    rw [ra_0_7 R15, Option.bind_some]
    refine sp_call (learn_QI W15 R15) ?_
    rintro h18 ⟨Q18, f18, x18, r18⟩
    refine sp_some.mpr ⟨⟨?_, fun k j y => ?_, fun x hx => ?_⟩, ?_, x18, ?_, Q18, ?_⟩
    · exact f18.1.trans (f15.1.trans (l9.trans f6.1))
    · rw [f18.2.1 k j (fun w => ⟨(y w).2.1, (y w).2.2.1, (y w).2.2.2⟩), f15.r, r9 k j (fun w => (y w.2).1 w.1), f6.r]
    · have q1 := f18.2.2 x (fun w => hx (.inr (.inr (.inr (.inl w)))))
      have q2 := f15.2.2 x (fun w => hx (by unfold WC; omega))
      have q3 := f6.2.2 x (fun w => hx (by omega))
      exact ⟨q1.1.trans (q2.1.trans (by rw [i9]; exact q3.1)), q1.2.trans (q2.2.trans (by rw [k9]; exact q3.2))⟩
    · show h18.2.1 1 1 = _
      rw [f18.i _ (by unfold KC; omega), f15.i _ (by omega), i9]
      exact v6
    · show h18.2.1 q 1 = _
      rw [f18.i _ (by unfold KC; omega), f15.i _ (by omega)]
      exact e9
    · obtain ⟨c1, c2, l, l1, l2, l3⟩ := C
      refine ⟨by omega, ?_, l, l1, ?_, fun i hi => by omega⟩
      · rw [f18.i _ (by unfold KC; omega), ri_s]
      · rw [f18.i _ (by unfold KC; omega), ri_j _ (by omega), ri_c _ (by omega), f12.i _ (by omega), i9, f6.i _ (by omega)]
        exact l2
end XS2
