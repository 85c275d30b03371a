/-! Images: a world is copied. -/
def WC (d x : Nat) : Prop := d ≤ x ∧ x ≤ d + 4
theorem worlds_far : ∀ c ∈ [168, 173, 178, 183, 188], ∀ d ∈ [168, 173, 178, 183, 188], c ≠ d → c + 5 ≤ d ∨ d + 5 ≤ c := by decide +kernel
theorem worlds_apart {c d : Nat} (hc : mi_o c 9 = true) (hd : mi_o d 9 = true) (h : c ≠ d) : c + 5 ≤ d ∨ d + 5 ≤ c := worlds_far c (ob_w c hc) d (ob_w d hd) h
theorem world_hands {c : Nat} (hc : mi_o c 9 = true) : mi_o (c + 1) 3 = true := by
  have : ∀ c ∈ [168, 173, 178, 183, 188], mi_o (c + 1) 3 = true := by decide +kernel
  exact this c (ob_w c hc)
theorem world_ge {c : Nat} (hc : mi_o c 9 = true) : 168 ≤ c ∧ c ≤ 188 := by
  have : ∀ c ∈ [168, 173, 178, 183, 188], 168 ≤ c ∧ c ≤ 188 := by decide +kernel
  exact this c (ob_w c hc)
theorem tb_rf_w : ∀ q ∈ tb_rf, q.1.2 = 0 → q.1.1 ∉ [168, 173, 178, 183, 188] := by decide +kernel
/-- only the world d has changed, and the ship that it has -/
def FI (d : Nat) (h h' : pm_H) : Prop := h'.1 = h.1 ∧ (∀ k j, ¬ (k = d ∧ j = 0) → h'.2.2.2 k j = h.2.2.2 k j) ∧ ∀ x, ¬ WC d x → h'.2.1 x = h.2.1 x ∧ h'.2.2.1 x = h.2.2.1 x
section WLD
variable {h : pm_H} {c d s : Nat} {A B : Nat → Int32} {X : Nat}
theorem FI.rf {h' : pm_H} (f : FI d h h') (hd : mi_o d 9 = true) (R : RF h) : RF h' := by
  intro q hq
  rw [f.2.1 q.1.1 q.1.2 (fun z => tb_rf_w q hq z.2 (by rw [z.1]; exact ob_w d hd))]
  exact R q hq
theorem FI.setI {h' : pm_H} {a k : Nat} {v : Int32} (f : FI d h h') (ha : WC d a) : FI d h (pm_setI h' a k v) :=
  ⟨f.1, f.2.1, fun x hx => ⟨by rw [← (f.2.2 x hx).1]; funext j; exact ri_c v (fun q => hx (q ▸ ha)), (f.2.2 x hx).2⟩⟩
theorem FI.rowI {h' : pm_H} {a : Nat} {g : Nat → Int32} (f : FI d h h') (ha : WC d a) : FI d h (pm_rowI h' a g) :=
  ⟨f.1, f.2.1, fun x hx => ⟨by rw [← (f.2.2 x hx).1]; funext j; exact ri_rc g (fun q => hx (q ▸ ha)), (f.2.2 x hx).2⟩⟩
theorem FI.fr {h' h2 : pm_H} {P : Nat → Prop} (f : FI d h h') (g : Fr P h' h2) (hP : ∀ x, P x → WC d x) : FI d h h2 :=
  ⟨g.1.trans f.1, fun k j z => by rw [g.r]; exact f.2.1 k j z, fun x hx => ⟨(g.2.2 x (fun q => hx (hP x q))).1.trans (f.2.2 x hx).1, (g.2.2 x (fun q => hx (hP x q))).2.trans (f.2.2 x hx).2⟩⟩
theorem FI.i {h' : pm_H} (f : FI d h h') {x : Nat} (j : Nat) (hx : ¬ WC d x) : h'.2.1 x j = h.2.1 x j := by rw [(f.2.2 x hx).1]
theorem rR (a k : Nat) (v : Option Nat) (b j : Nat) : (pm_setR h a k v).2.2.2 b j = if b = a then (if j = k then v else h.2.2.2 b j) else h.2.2.2 b j := rfl
theorem w_copy_sp (R : RF h) (hc : mi_o c 9 = true) (hd : mi_o d 9 = true) (hne : c ≠ d) (e : h.2.2.2 c 0 = some s) (hs : mi_o s 7 = true) : SP (w_copy d c h) (fun h' => FI d h h' ∧ h'.2.2.2 d 0 = some s ∧ (∀ j, j < 5 → h'.2.1 (d + 1) j = h.2.1 (c + 1) j) ∧ (∀ m, m < 8 → h'.2.1 (d + 2) m = h.2.1 (c + 2) m) ∧ (∀ m, m < 8 → h'.2.1 (d + 3) m = h.2.1 (c + 3) m) ∧ h'.2.1 d 2 = h.2.1 c 2 ∧ h'.2.1 d 4 = h.2.1 c 4 ∧ h'.2.1 d 5 = h.2.1 c 5 ∧ h'.2.1 d 6 = h.2.1 d 6 ∧ ∀ k, k < 10 → h'.2.1 (d + 4) k = h.2.1 (c + 4) k) := by
  have far := worlds_apart hc hd hne
  unfold w_copy
  rw [gO_of e hs, Option.bind_some, sp_bd]
  have f2 : FI d h (pm_setR h d 0 (some s)) := by
    refine ⟨rfl, fun k j z => ?_, fun x _ => ⟨rfl, rfl⟩⟩
    rw [rR]
    by_cases q : k = d
    · rw [if_pos q, if_neg (fun q2 => z ⟨q, q2⟩)]
    · rw [if_neg q]
  have r2 : (pm_setR h d 0 (some s)).2.2.2 d 0 = some s := by rw [rR, if_pos rfl, if_pos rfl]
  have i2 : (pm_setR h d 0 (some s)).2.1 = h.2.1 := rfl
  generalize pm_setR h d 0 (some s) = h2 at f2 r2 i2 ⊢
  have R2 := f2.rf hd R
  rw [rf_w1 R2 hd, Option.bind_some, rf_w1 R2 hc, Option.bind_some]
  refine sp_call (n_copy_sp R2 (world_hands hc) (world_hands hd) (by omega)) ?_
  rintro h3 ⟨f3, c5, cs, ct⟩
  rw [i2] at c5 cs ct
  have f3' : FI d h h3 := f2.fr f3 (fun x hx => by unfold HC at hx; unfold WC; omega)
  have r3 : h3.2.2.2 d 0 = some s := by rw [f3.r]; exact r2
  have c2 : h3.2.1 c 2 = h.2.1 c 2 := f3'.i 2 (by unfold WC; omega)
  have d6 : h3.2.1 d 6 = h.2.1 d 6 := by rw [f3.i _ (by unfold HC; omega), i2]
  rw [sp_bd]
  have f6 : FI d h (pm_setI h3 d 2 (h3.2.1 c 2)) := f3'.setI (by unfold WC; omega)
  have R6 := f6.rf hd R
  rw [rf_w3 R6 hc, Option.bind_some, rf_w3 R6 hd, Option.bind_some, ln_w3 hc, ln_w3 hd]
  refine sp_pos (mi_cp_t (a := 0) (b := 0) (n := 10) (by omega) (by omega) (by omega) (by omega)) ?_
  rw [sp_bd, sp_bd, sp_bd, sp_some]
  rw [kc_i0, kc_b_10, nx_cl (by omega), nx_cl (by omega)]
  have f10 : FI d h (pm_rowI (pm_setI h3 d 2 (h3.2.1 c 2)) (d + 4) (va_cpy ((pm_setI h3 d 2 (h3.2.1 c 2)).2.1 (c + 4)) ((pm_setI h3 d 2 (h3.2.1 c 2)).2.1 (d + 4)) 0 0 10)) := f6.rowI (by unfold WC; omega)
  have v10 : ∀ k, k < 10 → (pm_rowI (pm_setI h3 d 2 (h3.2.1 c 2)) (d + 4) (va_cpy ((pm_setI h3 d 2 (h3.2.1 c 2)).2.1 (c + 4)) ((pm_setI h3 d 2 (h3.2.1 c 2)).2.1 (d + 4)) 0 0 10)).2.1 (d + 4) k = h.2.1 (c + 4) k := by
    intro k hk
    rw [ri_r]
    unfold va_cpy
    rw [if_pos (by omega), Nat.zero_add, Nat.sub_zero]
    exact f6.i _ (by unfold WC; omega)
  have o10 : ∀ x j, x ≠ d + 4 → (pm_rowI (pm_setI h3 d 2 (h3.2.1 c 2)) (d + 4) (va_cpy ((pm_setI h3 d 2 (h3.2.1 c 2)).2.1 (c + 4)) ((pm_setI h3 d 2 (h3.2.1 c 2)).2.1 (d + 4)) 0 0 10)).2.1 x j = (pm_setI h3 d 2 (h3.2.1 c 2)).2.1 x j := fun x j q => ri_rc _ q
  have r10 : (pm_rowI (pm_setI h3 d 2 (h3.2.1 c 2)) (d + 4) (va_cpy ((pm_setI h3 d 2 (h3.2.1 c 2)).2.1 (c + 4)) ((pm_setI h3 d 2 (h3.2.1 c 2)).2.1 (d + 4)) 0 0 10)).2.2.2 d 0 = some s := r3
  generalize pm_rowI (pm_setI h3 d 2 (h3.2.1 c 2)) (d + 4) (va_cpy ((pm_setI h3 d 2 (h3.2.1 c 2)).2.1 (c + 4)) ((pm_setI h3 d 2 (h3.2.1 c 2)).2.1 (d + 4)) 0 0 10) = h10 at f10 v10 o10 r10 ⊢
  have f11 : FI d h (pm_setI h10 d 4 (h10.2.1 c 4)) := f10.setI (by unfold WC; omega)
  have f12 : FI d h (pm_setI (pm_setI h10 d 4 (h10.2.1 c 4)) d 5 ((pm_setI h10 d 4 (h10.2.1 c 4)).2.1 c 5)) := f11.setI (by unfold WC; omega)
  refine ⟨f12, ?_, fun j hj => ?_, fun m hm => ?_, fun m hm => ?_, ?_, ?_, ?_, ?_, fun k hk => ?_⟩
  · exact r10
  · rw [ri_c _ (by omega), ri_c _ (by omega), o10 _ _ (by omega), ri_c _ (by omega)]
    exact c5 j hj
  · rw [ri_c _ (by omega), ri_c _ (by omega), o10 _ _ (by omega), ri_c _ (by omega)]
    exact cs m hm
  · rw [ri_c _ (by omega), ri_c _ (by omega), o10 _ _ (by omega), ri_c _ (by omega)]
    exact ct m hm
  · rw [ri_j _ (by omega), ri_j _ (by omega), o10 _ _ (by omega), ri_s]
    exact c2
  · rw [ri_j _ (by omega), ri_s]
    exact f10.i _ (by unfold WC; omega)
  · rw [ri_s]
    exact f11.i _ (by unfold WC; omega)
  · rw [ri_j _ (by omega), ri_j _ (by omega), o10 _ _ (by omega), ri_j _ (by omega)]
    exact d6
  · rw [ri_c _ (by omega), ri_c _ (by omega)]
    exact v10 k hk
/-- the world in the cells c to c + 4: its ship, its hands, what was done, its draw -/
def WLD (h : pm_H) (c s : Nat) (B : Nat → Int32) (X : Nat) : Prop := mi_o c 9 = true ∧ h.2.2.2 c 0 = some s ∧ CSh h s B ∧ CHd h (c + 1) B ∧ CDn h c B ∧ WFA B ∧ an B 4 ≤ 999 ∧ h.2.1 c 5 = nI X ∧ X < 2147483648
theorem WLD.cp (R : RF h) (W : WLD h c s B X) (hd : mi_o d 9 = true) (hne : c ≠ d) : SP (w_copy d c h) (fun h' => FI d h h' ∧ WLD h' d s B X ∧ h'.2.1 d 6 = h.2.1 d 6) := by
  obtain ⟨hc, e, S, H, D, w, h4, x5, hX⟩ := W
  have hsv := hull_ge S.1
  have hdv := world_ge hd
  have e1 := w.e1
  have d0 := w.d0
  refine (w_copy_sp R hc hd hne e S.1).mono ?_
  rintro h' ⟨f, r, c5, cs, ct, v2, v4, v5, v6, vd⟩
  refine ⟨f, ⟨hd, r, ?_, H.cp (by omega) (world_hands hd) c5 cs ct, ⟨hd, by rw [v2]; exact D.2.1, fun k hk => by rw [vd k (by omega)]; exact D.2.2.1 k hk, ?_⟩, w, h4, by rw [v5]; exact x5, hX⟩, v6⟩
  · unfold CSh at S ⊢
    rw [(f.2.2 s (by unfold WC; omega)).1, (f.2.2 (s + 1) (by unfold WC; omega)).1, (f.2.2 (s + 2) (by unfold WC; omega)).1, (f.2.2 (s + 3) (by unfold WC; omega)).1, (f.2.2 (s + 4) (by unfold WC; omega)).1, (f.2.2 (s + 5) (by unfold WC; omega)).1, (f.2.2 (s + 6) (by unfold WC; omega)).1, (f.2.2 (s + 7) (by unfold WC; omega)).1, (f.2.2 (s + 8) (by unfold WC; omega)).1, (f.2.2 (s + 9) (by unfold WC; omega)).1]
    exact S
  · obtain ⟨dd, d1, d2, d3⟩ := D.2.2.2
    exact ⟨dd, d1, by rw [v4]; exact d2, d3⟩
theorem QI.wld (Q : QI h s A) (h4 : an A 4 ≤ 999) (x5 : h.2.1 168 5 = nI X) (hX : X < 2147483648) : WLD h 168 s A X := ⟨o169, Q.2.1, Q.2.2.1, Q.2.2.2.1, Q.2.2.2.2.1, Q.2.2.2.2.2.1, h4, x5, hX⟩
theorem x_image_ok (Q : QI h s A) (h4 : an A 4 ≤ 999) (x5 : h.2.1 168 5 = nI X) (hX : X < 2147483648) {k : Nat} (hk : k < 4) : SP (x_image 0 (nI k) h) (fun z => z.1 = A 4 ∧ FI (173 + 5 * k) h z.2 ∧ WLD z.2 (173 + 5 * k) s A X ∧ z.2.2.1 (173 + 5 * k) 6 = nI 1) := by
  have R := Q.1
  have hd := ro_images hk
  unfold x_image
  refine sp_neg (by rw [kc_0, nx_lt (by omega) (by omega)]; omega) ?_
  rw [ra_0_5 R, Option.bind_some, mn_5]
  refine sp_pos (by rw [kc_on, nx_lt (by omega) (by omega)]; omega) ?_
  rw [Option.bind_some, mn_5, gi_n (by omega), nx_cl (by omega), rg_images R hk, ra_0_4 R]
  refine sp_pos (dec_t hk) ?_
  rw [Option.bind_some, Option.bind_some]
  refine sp_call ((Q.wld h4 x5 hX).cp R hd (by omega)) ?_
  rintro h1 ⟨f1, W1, _⟩
  have R1 := f1.rf hd R
  rw [ra_0_5 R1, Option.bind_some, mn_5, gi_n (by omega), rg_images R1 hk]
  refine sp_pos (dec_t hk) ?_
  rw [Option.bind_some, sp_bd]
  have R2 : RF (pm_setI h1 (173 + 5 * k) 6 (Int32.ofInt 1)) := R1
  rw [ra_0_4 R2, Option.bind_some, rf_w1 R2 o169, Option.bind_some, sp_some]
  refine ⟨?_, f1.setI (by unfold WC; omega), ?_, by rw [ri_s]; exact kc_i1⟩
  · show (pm_setI h1 (173 + 5 * k) 6 (Int32.ofInt 1)).2.1 (168 + 1) 2 = _
    rw [ri_c _ (by omega), f1.i _ (by unfold WC; omega)]
    exact Q.2.2.2.1.2.2.2.1
  · obtain ⟨a1, a2, S, H, D, w, a4, a5, a6⟩ := W1
    have hsv := hull_ge S.1
    have f3 : Fr (· = 173 + 5 * k) h1 (pm_setI h1 (173 + 5 * k) 6 (Int32.ofInt 1)) := (Fr.refl _ _).setI rfl
    refine ⟨a1, a2, S.fr f3 (fun c h1 h2 => by omega), H.of (f3.2.2 _ (by omega)).1 (f3.2.2 _ (by omega)).1 (f3.2.2 _ (by omega)).1, ⟨a1, by rw [ri_j _ (by omega)]; exact D.2.1, fun j hj => by rw [ri_c _ (by omega)]; exact D.2.2.1 j hj, ?_⟩, w, a4, by rw [ri_j _ (by omega)]; exact a5, a6⟩
    obtain ⟨dd, d1, d2, d3⟩ := D.2.2.2
    exact ⟨dd, d1, by rw [ri_j _ (by omega)]; exact d2, d3⟩
theorem x_image_no (Q : QI h s A) {x : Int32} (no : ¬ ∃ k, k < 4 ∧ x = nI k) : x_image 0 x h = some (ng 1, h) := by
  have R := Q.1
  unfold x_image
  by_cases x0 : x < nI 0
  · exact (if_pos x0).trans (by rw [kc_im1])
  · refine (if_neg x0).trans ?_
    rw [ra_0_5 R, Option.bind_some, mn_5]
    refine (if_neg (fun z => no ?_)).trans (by rw [kc_im1])
    rcases ixx x (n := 4) (by omega) with q | q | ⟨j, q1, q2⟩
    · exact (x0 q).elim
    · rw [kc_on] at z
      exact (le_nlt q z).elim
    · exact ⟨j, q1, q2⟩
end WLD
