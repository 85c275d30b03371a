/-! back, of the program; images of the reference. -/
section BA
variable {h : pm_H} {s s' n : Nat} {A B : Nat → Int32} {P : Nat → Nat → Int32} {X : Nat}
/-- what going back may change -/
def FB (h h' : pm_H) : Prop := h'.1 = h.1 ∧ (∀ k j, (j = 0 → k ≠ 168 ∧ k ≠ 69 ∧ k ≠ 70 ∧ k ≠ 77) → h'.2.2.2 k j = h.2.2.2 k j) ∧ ∀ x, ¬ (WC 168 x ∨ x = 6 ∨ KC x) → h'.2.1 x = h.2.1 x ∧ h'.2.2.1 x = h.2.2.1 x
theorem learn_QI (W : WLD h 168 s B X) (R : RF h) : SP (a_learn 68 s h) (fun h' => QI h' s B ∧ Fq KC h h' ∧ h'.2.1 168 5 = nI X ∧ ∀ k j, k < 69 ∨ 77 ≤ k → h'.2.2.2 k j = h.2.2.2 k j) := by
  obtain ⟨hc, e, S, H, D, w, h4, x5, hX⟩ := W
  have hsv := hull_ge S.1
  unfold a_learn
  rw [ra_68_0 R, Option.bind_some]
  refine sp_call (k_learn S w R) ?_
  rintro h1 ⟨f, r1, r2, v4, E⟩
  refine sp_some.mpr ⟨⟨R.fq f, by rw [r2 168 0 (by omega)]; exact e, S.fq f (fun c a b => by unfold KC; omega), H.of (f.2.2 169 (by unfold KC; omega)).1 (f.2.2 170 (by unfold KC; omega)).1 (f.2.2 171 (by unfold KC; omega)).1, D.of (f.2.2 168 (by unfold KC; omega)).1 (f.2.2 172 (by unfold KC; omega)).1, w, fun _ => ⟨r1, E, 0, v4, by omega, fun b _ q => ?_⟩⟩, f, by rw [f.i _ (by unfold KC; omega)]; exact x5, r2⟩
  rw [Nat.zero_testBit] at q
  cases q
theorem x_back_ok (Q : QI h s A) (C : CP h n P) {k : Nat} (hk : k < 4) (W : WLD h (173 + 5 * k) s' B X) (mk : h.2.1 (173 + 5 * k) 6 = nI 1) : SP (x_back 0 (nI k) h) (fun z => z.1 = B 4 ∧ QI z.2 s' B ∧ z.2.2.1 168 5 = nI X ∧ CP z.2 0 P ∧ FB h z.2) := by
  have R := Q.1
  have hd := ro_images hk
  unfold x_back
  refine sp_neg (by rw [kc_0, nx_lt (by omega) (by omega)]; omega) ?_
  rw [ra_0_5 R, Option.bind_some, mn_5]
  refine sp_neg (by rw [kc_on, nx_le (by omega) (by omega)]; omega) ?_
  rw [Option.bind_some, mn_5, gi_n (by omega), nx_cl (by omega), rg_images R hk, ra_0_4 R]
  refine sp_pos (dec_t hk) ?_
  rw [Option.bind_some, mk]
  refine sp_pos n10 ?_
  rw [Option.bind_some, Option.bind_some, mn_5, gi_n (by omega), rg_images R hk]
  refine sp_pos (dec_t hk) ?_
  rw [Option.bind_some]
  refine sp_call (W.cp R o169 (by omega)) ?_
  rintro h1 ⟨f1, W1, _⟩
  have R1 := f1.rf o169 R
  rw [ra_0_6 R1, Option.bind_some]
  have hsv := hull_ge W1.2.2.1.1
  have f2 : Fr (· = 6) h1 (pm_setI h1 6 2 (nI 0)) := (Fr.refl (· = 6) h1).setI rfl
  have pf : p_forget 6 h1 = some (pm_setI h1 6 2 (nI 0)) := by
    unfold p_forget
    rw [kc_i0]
    rfl
  rw [pf, Option.bind_some]
  have R2 := R1.fr f2
  have W2 : WLD (pm_setI h1 6 2 (nI 0)) 168 s' B X := by
    obtain ⟨a1, a2, S, H, D, w, a4, a5, a6⟩ := W1
    exact ⟨a1, a2, S.fr f2 (fun c a b => by omega), H.of (f2.2.2 169 (by omega)).1 (f2.2.2 170 (by omega)).1 (f2.2.2 171 (by omega)).1, D.of (f2.2.2 168 (by omega)).1 (f2.2.2 172 (by omega)).1, w, a4, by rw [f2.i _ (by omega)]; exact a5, a6⟩
  rw [ra_0_7 R2, Option.bind_some, ra_0_4 R2, Option.bind_some, gO_of W2.2.1 W2.2.2.1.1, Option.bind_some]
  refine sp_call (learn_QI W2 R2) ?_
  rintro h3 ⟨Q3, f3, x3, r3⟩
  rw [ra_0_4 Q3.1, Option.bind_some, q_hands Q3, Option.bind_some, sp_some]
  refine ⟨Q3.2.2.2.1.2.2.2.1, Q3, x3, ?_, f3.1.trans f1.1, fun a b q => ?_, fun x hx => ?_⟩
  · obtain ⟨c1, c2, l, l1, l2, l3⟩ := C
    refine ⟨by omega, ?_, l, l1, ?_, fun i hi => by omega⟩
    · rw [f3.i _ (by unfold KC; omega), ri_s]
    · rw [f3.i _ (by unfold KC; omega), ri_j _ (by omega), f1.i _ (by unfold WC; omega)]
      exact l2
  · have q2 : (pm_setI h1 6 2 (nI 0)).2.2.2 a b = h.2.2.2 a b := f1.2.1 a b (fun z => (q z.2).1 z.1)
    rw [← q2]
    exact f3.2.1 a b (fun z => ⟨(q z).2.1, (q z).2.2.1, (q z).2.2.2⟩)
  · have q1 := f3.2.2 x (fun z => hx (.inr (.inr z)))
    have q2 := f2.2.2 x (fun z => hx (.inr (.inl z)))
    have q3 := f1.2.2 x (fun z => hx (.inl z))
    exact ⟨q1.1.trans (q2.1.trans q3.1), q1.2.trans (q2.2.trans q3.2)⟩
theorem x_back_no (Q : QI h s A) {x : Int32} {b : Nat → Bool} (mk : ∀ k, k < 4 → h.2.1 (173 + 5 * k) 6 = nI (b k).toNat) (no : ¬ ∃ k, k < 4 ∧ x = nI k ∧ b k = true) : x_back 0 x h = some (ng 1, h) := by
  have R := Q.1
  unfold x_back
  by_cases x0 : x < nI 0
  · exact (if_pos x0).trans (by rw [kc_im1])
  · refine (if_neg x0).trans ?_
    rw [ra_0_5 R, Option.bind_some, mn_5]
    by_cases x4 : nI 4 ≤ x
    · exact (if_pos x4).trans (by rw [kc_im1])
    · refine (if_neg x4).trans ?_
      obtain ⟨k, k1, k2, rfl⟩ := rng2 (x := x) (a := 0) (b := 3) (by omega) (by omega) x0 (fun z => x4 (by
        rw [Int32.lt_iff_toInt_lt, nx_toInt (by omega)] at z
        rw [Int32.le_iff_toInt_le, nx_toInt (by omega)]
        omega))
      rw [Option.bind_some, mn_5, gi_n (by omega), nx_cl (by omega), rg_images R (by omega)]
      refine (if_pos (dec_t (by omega))).trans ?_
      rw [Option.bind_some, mk k (by omega)]
      have e : b k = false := by
        cases e : b k with
        | false => rfl
        | true => exact (no ⟨k, by omega, rfl, e⟩).elim
      rw [e]
      exact (if_neg (fun z => z rfl)).trans (by rw [kc_im1])
/-! the reference -/
def MG (h : pm_H) (k : Nat) (B : Nat → Int32) (X : Nat) : Prop := h.2.1 213 k = nI 1 ∧ h.2.1 212 k = nI X ∧ ∀ i, i < 227 → h.2.1 211 (227 * k + i) = B i
theorem m_image_ok (M : MI h A) (x21 : h.2.1 193 21 = nI X) {k : Nat} (hk : k < 4) : SP (m_image 193 (nI k) h) (fun z => z.1 = A 4 ∧ FrM (fun c => c = 211 ∨ c = 212 ∨ c = 213) (fun _ => False) h z.2 ∧ MG z.2 k A X ∧ ∀ k', k' < 4 → k' ≠ k → z.2.2.1 213 k' = h.2.1 213 k' ∧ z.2.2.1 212 k' = h.2.1 212 k' ∧ ∀ i, i < 227 → z.2.2.1 211 (227 * k' + i) = h.2.1 211 (227 * k' + i)) := by
  obtain ⟨R, hA, w⟩ := M
  unfold m_image
  rw [in_t h (lo := Int64.ofNat 0) (hi := 3) (a := 0) (n := 3) (Nat.zero_le _) (by omega) (by omega) rfl rfl, Option.bind_some]
  refine sp_pos n10 ?_
  rw [ra_193_34 R, Option.bind_some, mn_213, gi_n (by omega), nx_cl (by omega)]
  refine sp_pos (dec_t hk) ?_
  rw [sp_bd]
  have eb : vp_nar .boolean (Int32.ofInt 1) = nI 1 := by decide +kernel
  rw [eb]
  have f5 : FrM (fun c => c = 211 ∨ c = 212 ∨ c = 213) (fun _ => False) h (pm_setI h 213 k (nI 1)) := (FrM.refl _ _ h).setI (by omega) (.inr (.inr rfl))
  rw [ra_193_33 (R.fm f5), Option.bind_some, mn_212, gi_n (by omega)]
  refine sp_pos (dec_t hk) ?_
  rw [sp_bd, f5.f id, x21]
  have f8 : FrM (fun c => c = 211 ∨ c = 212 ∨ c = 213) (fun _ => False) h (pm_setI (pm_setI h 213 k (nI 1)) 212 k (nI X)) := f5.setI (by omega) (.inr (.inl rfl))
  have a1 : ∀ j, (pm_setI (pm_setI h 213 k (nI 1)) 212 k (nI X)).2.1 213 j = if j = k then nI 1 else h.2.1 213 j := by
    intro j
    rw [ri_c _ (by omega)]
    by_cases q : j = k
    · rw [if_pos q, q, ri_s]
    · rw [if_neg q, ri_j _ q]
  have a2 : ∀ j, (pm_setI (pm_setI h 213 k (nI 1)) 212 k (nI X)).2.1 212 j = if j = k then nI X else h.2.1 212 j := by
    intro j
    by_cases q : j = k
    · rw [if_pos q, q, ri_s]
    · rw [if_neg q, ri_j _ q, ri_c _ (by omega)]
  have a3 : ∀ j, (pm_setI (pm_setI h 213 k (nI 1)) 212 k (nI X)).2.1 211 j = h.2.1 211 j := by
    intro j
    rw [ri_c _ (by omega), ri_c _ (by omega)]
  generalize pm_setI (pm_setI h 213 k (nI 1)) 212 k (nI X) = h8 at f8 a1 a2 a3 ⊢
  have A8 : h8.2.1 203 = A := by rw [f8.i (by omega) (by omega)]; exact hA
  have R8 := R.fm f8
  rw [kc_i0]
  have key : SP (wh (fun z : (Int32 × pm_H) => m_image_33 193 (nI k) z.1 z.2) (nI 0, h8)) (fun h' => FrM (· = 211) (fun _ => False) h8 h' ∧ ∀ j, h'.2.1 211 j = if 227 * k ≤ j ∧ j < 227 * k + 227 then A (j - 227 * k) else h.2.1 211 j) := by
    refine wh_cnt (fun i z => z.1 = nI i ∧ FrM (· = 211) (fun _ => False) h8 z.2 ∧ ∀ j, z.2.2.1 211 j = if 227 * k ≤ j ∧ j < 227 * k + i then A (j - 227 * k) else h.2.1 211 j) _ 227 ?_ ?_ 0 (nI 0, h8) (by omega) ⟨rfl, FrM.refl _ _ _, fun j => by rw [if_neg (by omega)]; exact a3 j⟩
    · rintro i ⟨y, h1⟩ hi ⟨hy, f1, e1⟩
      dsimp only at hy f1 e1
      subst hy
      have R1 := R8.fm f1
      unfold m_image_33
      rw [kc_s_227]
      refine sp_neg (by rw [nx_le (by omega) (by omega)]; omega) ?_
      rw [ra_193_32 R1, Option.bind_some, ra_193_20 R1, Option.bind_some, nx_mul, nx_add, mn_211, mn_203, gi_n (by omega), gi_n (by omega), nx_cl (by omega), nx_cl (by omega), f1.i (by omega) (by omega), A8]
      refine sp_pos (dec_t hi) (sp_pos (dec_t (by omega)) ?_)
      rw [sp_bd, sp_some, kc_i1, nx_add]
      refine ⟨rfl, f1.setI (by omega) rfl, fun j => ?_⟩
      show (pm_setI h1 211 (227 * k + i) (A i)).2.1 211 j = _
      by_cases q : j = 227 * k + i
      · subst q
        rw [ri_s, if_pos (by omega), Nat.add_sub_cancel_left]
      · rw [ri_j _ q, e1]
        by_cases q2 : 227 * k ≤ j ∧ j < 227 * k + i
        · rw [if_pos q2, if_pos (by omega)]
        · rw [if_neg q2, if_neg (by omega)]
    · rintro ⟨y, h1⟩ ⟨hy, f1, e1⟩
      dsimp only at hy f1 e1
      subst hy
      unfold m_image_33
      rw [kc_s_227]
      exact sp_pos (by rw [nx_le (by omega) (by omega)]; omega) (sp_some.mpr ⟨f1, e1⟩)
  refine sp_call key ?_
  rintro h9 ⟨f9, e9⟩
  rw [ra_193_20 (R8.fm f9), Option.bind_some, mn_203, kc_i4, gi_n (by omega), nx_cl (by omega), f9.i (by omega) (by omega), A8]
  refine sp_pos (by simp) (sp_some.mpr ⟨rfl, f8.trans (f9.mono (fun c hc => .inl hc) (fun _ q => q)), ⟨?_, ?_, fun i hi => ?_⟩, fun k' h1 h2 => ⟨?_, ?_, fun i hi => ?_⟩⟩)
  · rw [f9.i (by omega) (by omega), a1, if_pos rfl]
  · rw [f9.i (by omega) (by omega), a2, if_pos rfl]
  · rw [e9, if_pos (by omega), Nat.add_sub_cancel_left]
  · rw [f9.i (by omega) (by omega), a1, if_neg h2]
  · rw [f9.i (by omega) (by omega), a2, if_neg h2]
  · rw [e9, if_neg (by omega)]
theorem m_image_no {x : Int32} (no : ¬ ∃ k, k < 4 ∧ x = nI k) : m_image 193 x h = some (ng 1, h) := by
  unfold m_image
  rw [m_in_f h (lo := Int64.ofNat 0) (hi := 3) (n := 3) (fun ⟨k, hk, e⟩ => no ⟨k, by omega, e⟩) (by omega) rfl rfl, Option.bind_some]
  exact (if_neg (fun z => z rfl)).trans (by rw [kc_im1])
theorem m_back_ok (M : MI h A) {k : Nat} (hk : k < 4) (G : MG h k B X) : SP (m_back 193 (nI k) h) (fun z => z.1 = B 4 ∧ FrM (· = 203) (fun j => j = 21 ∨ j = 28) h z.2 ∧ z.2.2.1 203 = (fun j => if j < 227 then B j else A j) ∧ z.2.2.1 193 21 = nI X ∧ z.2.2.1 193 28 = nI 0) := by
  obtain ⟨R, hA, w⟩ := M
  obtain ⟨g1, g2, g3⟩ := G
  unfold m_back
  rw [in_t h (lo := Int64.ofNat 0) (hi := 3) (a := 0) (n := 3) (Nat.zero_le _) (by omega) (by omega) rfl rfl, Option.bind_some]
  refine sp_neg n10 ?_
  rw [ra_193_34 R, Option.bind_some, mn_213, gi_n (by omega), nx_cl (by omega), g1]
  refine sp_pos (dec_t hk) (sp_pos n10 ?_)
  rw [ra_193_33 R, Option.bind_some, mn_212, gi_n (by omega), g2]
  refine sp_pos (dec_t hk) ?_
  rw [sp_bd, sp_bd, kc_i0]
  have f8 : FrM (· = 203) (fun j => j = 21 ∨ j = 28) h (pm_setI (pm_setI h 193 21 (nI X)) 193 28 (nI 0)) := ((FrM.refl _ _ h).setF (.inl rfl)).setF (.inr rfl)
  have a1 : (pm_setI (pm_setI h 193 21 (nI X)) 193 28 (nI 0)).2.1 193 21 = nI X := by rw [ri_j _ (by omega), ri_s]
  have a2 : (pm_setI (pm_setI h 193 21 (nI X)) 193 28 (nI 0)).2.1 193 28 = nI 0 := ri_s _
  have a3 : ∀ j, (pm_setI (pm_setI h 193 21 (nI X)) 193 28 (nI 0)).2.1 203 j = A j := by
    intro j
    rw [ri_c _ (by omega), ri_c _ (by omega), hA]
  generalize pm_setI (pm_setI h 193 21 (nI X)) 193 28 (nI 0) = h8 at f8 a1 a2 a3 ⊢
  have R8 := R.fm f8
  have key : SP (wh (fun z : (Int32 × pm_H) => m_back_40 193 (nI k) z.1 z.2) (nI 0, h8)) (fun h' => FrM (· = 203) (fun _ => False) h8 h' ∧ ∀ j, h'.2.1 203 j = if j < 227 then B j else A j) := by
    refine wh_cnt (fun i z => z.1 = nI i ∧ FrM (· = 203) (fun _ => False) h8 z.2 ∧ ∀ j, z.2.2.1 203 j = if j < i then B j else A j) _ 227 ?_ ?_ 0 (nI 0, h8) (by omega) ⟨rfl, FrM.refl _ _ _, fun j => by rw [if_neg (by omega)]; exact a3 j⟩
    · rintro i ⟨y, h1⟩ hi ⟨hy, f1, e1⟩
      dsimp only at hy f1 e1
      subst hy
      have R1 := R8.fm f1
      unfold m_back_40
      rw [kc_s_227]
      refine sp_neg (by rw [nx_le (by omega) (by omega)]; omega) ?_
      rw [ra_193_20 R1, Option.bind_some, ra_193_32 R1, Option.bind_some, nx_mul, nx_add, mn_211, mn_203, gi_n (by omega), gi_n (by omega), nx_cl (by omega), nx_cl (by omega), f1.i (by omega) (by omega), f8.i (by omega) (by omega), g3 i hi]
      refine sp_pos (dec_t (by omega)) (sp_pos (dec_t hi) ?_)
      rw [sp_bd, sp_some, kc_i1, nx_add]
      refine ⟨rfl, f1.setI (by omega) rfl, fun j => ?_⟩
      show (pm_setI h1 203 i (B i)).2.1 203 j = _
      by_cases q : j = i
      · subst q
        rw [ri_s, if_pos (by omega)]
      · rw [ri_j _ q, e1]
        by_cases q2 : j < i
        · rw [if_pos q2, if_pos (by omega)]
        · rw [if_neg q2, if_neg (by omega)]
    · rintro ⟨y, h1⟩ ⟨hy, f1, e1⟩
      dsimp only at hy f1 e1
      subst hy
      unfold m_back_40
      rw [kc_s_227]
      exact sp_pos (by rw [nx_le (by omega) (by omega)]; omega) (sp_some.mpr ⟨f1, e1⟩)
  refine sp_call key ?_
  rintro h9 ⟨f9, e9⟩
  rw [ra_193_20 (R8.fm f9), Option.bind_some, mn_203, kc_i4, gi_n (by omega), nx_cl (by omega), e9, if_pos (show 4 < 227 by omega)]
  refine sp_pos (by simp) (sp_some.mpr ⟨rfl, f8.trans (f9.mono (fun _ q => q) (fun _ q => q.elim)), funext e9, by rw [f9.f id]; exact a1, by rw [f9.f id]; exact a2⟩)
theorem m_back_no (M : MI h A) {x : Int32} {b : Nat → Bool} (mk : ∀ k, k < 4 → h.2.1 213 k = nI (b k).toNat) (no : ¬ ∃ k, k < 4 ∧ x = nI k ∧ b k = true) : m_back 193 x h = some (ng 1, h) := by
  unfold m_back
  by_cases hx : ∃ k, k ≤ 3 ∧ x = nI k
  · obtain ⟨k, hk, rfl⟩ := hx
    rw [in_t h (lo := Int64.ofNat 0) (hi := 3) (a := 0) (n := 3) (Nat.zero_le _) hk (by omega) rfl rfl, Option.bind_some]
    refine (if_neg n10).trans ?_
    rw [ra_193_34 M.1, Option.bind_some, mn_213, gi_n (by omega), nx_cl (by omega), mk k (by omega)]
    refine (if_pos (dec_t (by omega))).trans ?_
    have e : b k = false := by
      cases e : b k with
      | false => rfl
      | true => exact (no ⟨k, by omega, rfl, e⟩).elim
    rw [e]
    exact (if_neg (fun z => z rfl)).trans (by rw [kc_im1])
  · rw [m_in_f h (lo := Int64.ofNat 0) (hi := 3) (n := 3) hx (by omega) rfl rfl, Option.bind_some]
    exact (if_pos rfl).trans (by rw [kc_im1])
end BA
