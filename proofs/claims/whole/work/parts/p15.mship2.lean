/-! ship, of the reference: the whole. -/
section MS2
variable {h : pm_H} {L p : Nat} {B : Nat → Nat} {D A : Nat → Int32}
def zD (D : Nat → Int32) : Nat → Int32 := fun j => if j < 10 then nI 0 else if 106 ≤ j ∧ j < 206 then ng 1 else D j
theorem zD_z : Dz (zD D) := ⟨fun j hj => by unfold zD; rw [if_pos hj], fun j h1 h2 => by unfold zD; rw [if_neg (by omega), if_pos ⟨h1, h2⟩]⟩
theorem m_ship8_n (R : RF h) : SP (wh (fun s : (Int32 × pm_H) => m_ship_8 193 s.1 s.2) (nI 0, h)) (fun h' => FrM (· = 199) (fun _ => False) h h' ∧ ∀ j, h'.2.1 199 j = if j < 10 then nI 0 else h.2.1 199 j) := by
  refine wh_cnt (fun i z => z.1 = nI i ∧ FrM (· = 199) (fun _ => False) h z.2 ∧ ∀ j, z.2.2.1 199 j = if j < i then nI 0 else h.2.1 199 j) _ 10 ?_ ?_ 0 (nI 0, h) (by omega) ⟨rfl, FrM.refl _ _ _, fun j => by rw [if_neg (by omega)]⟩
  · rintro i ⟨y, h1⟩ hi ⟨hy, f1, e1⟩
    dsimp only at hy f1 e1
    subst hy
    have R1 := R.fm f1
    unfold m_ship_8
    rw [kc_b_10]
    refine sp_neg (by rw [nx_le (by omega) (by omega)]; omega) ?_
    rw [ra_193_7 R1, Option.bind_some, mn_199, gi_n (by omega), nx_cl (by omega), kc_i0]
    refine sp_pos (dec_t (by omega)) ?_
    rw [sp_bd, sp_some, kc_i1, nx_add]
    refine ⟨rfl, f1.setI (by omega) rfl, fun j => ?_⟩
    show (pm_setI h1 199 i (nI 0)).2.1 199 j = _
    by_cases q : j = i
    · subst q
      rw [ri_s, if_pos (by omega)]
    · rw [ri_j _ q, e1]
      by_cases q2 : j < i
      · rw [if_pos q2, if_pos (by omega)]
      · rw [if_neg q2, if_neg (by omega)]
  · rintro ⟨y, h1⟩ ⟨hy, f1, e1⟩
    dsimp only at hy f1 e1
    subst hy
    unfold m_ship_8
    rw [kc_b_10]
    exact sp_pos (by rw [nx_le (by omega) (by omega)]; omega) (sp_some.mpr ⟨f1, e1⟩)
theorem m_ship29_n (R : RF h) : SP (wh (fun s : (Int32 × pm_H) => m_ship_29 193 s.1 s.2) (nI 0, h)) (fun h' => FrM (· = 199) (fun _ => False) h h' ∧ ∀ j, h'.2.1 199 j = if 106 ≤ j ∧ j < 206 then ng 1 else h.2.1 199 j) := by
  refine wh_cnt (fun i z => z.1 = nI i ∧ FrM (· = 199) (fun _ => False) h z.2 ∧ ∀ j, z.2.2.1 199 j = if 106 ≤ j ∧ j < 106 + i then ng 1 else h.2.1 199 j) _ 100 ?_ ?_ 0 (nI 0, h) (by omega) ⟨rfl, FrM.refl _ _ _, fun j => by rw [if_neg (by omega)]⟩
  · rintro i ⟨y, h1⟩ hi ⟨hy, f1, e1⟩
    dsimp only at hy f1 e1
    subst hy
    have R1 := R.fm f1
    unfold m_ship_29
    rw [kc_b_100, kc_b_106]
    refine sp_neg (by rw [nx_le (by omega) (by omega)]; omega) ?_
    rw [ra_193_7 R1, Option.bind_some, mn_199, nx_add, gi_n (by omega), nx_cl (by omega), kc_im1]
    refine sp_pos (dec_t (by omega)) ?_
    rw [sp_bd, sp_some, kc_i1, nx_add]
    refine ⟨rfl, f1.setI (by omega) rfl, fun j => ?_⟩
    show (pm_setI h1 199 (106 + i) (ng 1)).2.1 199 j = _
    by_cases q : j = 106 + i
    · subst q
      rw [ri_s, if_pos (by omega)]
    · rw [ri_j _ q, e1]
      by_cases q2 : 106 ≤ j ∧ j < 106 + i
      · rw [if_pos q2, if_pos (by omega)]
      · rw [if_neg q2, if_neg (by omega)]
  · rintro ⟨y, h1⟩ ⟨hy, f1, e1⟩
    dsimp only at hy f1 e1
    subst hy
    unfold m_ship_29
    rw [kc_b_100]
    exact sp_pos (by rw [nx_le (by omega) (by omega)]; omega) (sp_some.mpr ⟨f1, e1⟩)
theorem m_ship68_n (R : RF h) (eD : h.2.1 199 = D) (eA : h.2.1 203 = A) : SP (wh (fun s : (Int32 × pm_H) => m_ship_68 193 s.1 s.2) (nI 0, h)) (fun h' => FrM (· = 203) (fun _ => False) h h' ∧ ∀ j, h'.2.1 203 j = if j < 206 then D j else if j < 227 then nI 0 else A j) := by
  refine wh_cnt (fun i z => z.1 = nI i ∧ FrM (· = 203) (fun _ => False) h z.2 ∧ ∀ j, z.2.2.1 203 j = if j < i then (if j < 206 then D j else nI 0) else A j) _ 227 ?_ ?_ 0 (nI 0, h) (by omega) ⟨rfl, FrM.refl _ _ _, fun j => by rw [if_neg (by omega), ← eA]⟩
  · rintro i ⟨y, h1⟩ hi ⟨hy, f1, e1⟩
    dsimp only at hy f1 e1
    subst hy
    have R1 := R.fm f1
    have key : ∀ v : Int32, v = (if i < 206 then D i else nI 0) → SP (m_ship_97 193 (nI i) v (nI i) 203 h1) (fun q => match q with | .inl z => z.1 = nI (i + 1) ∧ FrM (· = 203) (fun _ => False) h z.2 ∧ ∀ j, z.2.2.1 203 j = if j < i + 1 then (if j < 206 then D j else nI 0) else A j | .inr h' => FrM (· = 203) (fun _ => False) h h' ∧ ∀ j, h'.2.1 203 j = if j < 206 then D j else if j < 227 then nI 0 else A j) := by
      intro v hv
      unfold m_ship_97
      rw [mn_203, gi_n (by omega), nx_cl (by omega)]
      refine sp_pos (dec_t hi) ?_
      rw [sp_bd, sp_some, kc_i1, nx_add]
      refine ⟨rfl, f1.setI (by omega) rfl, fun j => ?_⟩
      show (pm_setI h1 203 i v).2.1 203 j = _
      by_cases q : j = i
      · subst q
        rw [ri_s, if_pos (by omega), hv]
      · rw [ri_j _ q, e1]
        by_cases q2 : j < i
        · rw [if_pos q2, if_pos (show j < i + 1 by omega)]
        · rw [if_neg q2, if_neg (show ¬ j < i + 1 by omega)]
    unfold m_ship_68
    rw [kc_s_227, kc_s_206]
    refine sp_neg (by rw [nx_le (by omega) (by omega)]; omega) ?_
    rw [ra_193_20 R1, Option.bind_some]
    by_cases q : 206 ≤ i
    · refine sp_pos (by rw [nx_le (by omega) (by omega)]; omega) ?_
      exact (key _ (by rw [if_neg (by omega), kc_i0])).mono (by rintro (q | q) hq <;> exact hq)
    · refine sp_neg (by rw [nx_le (by omega) (by omega)]; omega) ?_
      rw [ra_193_7 R1, Option.bind_some, mn_199, gi_n (by omega), nx_cl (by omega)]
      refine sp_pos (dec_t (by omega)) ?_
      exact (key _ (by rw [if_pos (by omega), f1.i (by omega) (by omega), eD])).mono (by rintro (q | q) hq <;> exact hq)
  · rintro ⟨y, h1⟩ ⟨hy, f1, e1⟩
    dsimp only at hy f1 e1
    subst hy
    unfold m_ship_68
    rw [kc_s_227]
    refine sp_pos (by rw [nx_le (by omega) (by omega)]; omega) (sp_some.mpr ⟨f1, fun j => ?_⟩)
    rw [e1]
    by_cases q1 : j < 206
    · rw [if_pos (by omega), if_pos q1, if_pos q1]
    · rw [if_neg q1, if_neg q1]
/-- frame of ship -/
def FQ (h h' : pm_H) : Prop := FrM (fun c => c = 196 ∨ c = 199 ∨ c = 203) (fun j => j = 1 ∨ j = 8 ∨ j = 9 ∨ j = 10 ∨ j = 11 ∨ j = 12 ∨ j = 14 ∨ j = 28) h h'
theorem m_ship_n (M : MI h A) (C : MT h L B) : SP (m_ship 193 h) (fun y => FQ h y.2 ∧ y.2.2.1 193 1 = nI 0 ∧ (match shP B L 41 0 (skp B L 0) (zD (h.2.1 199)) with
    | .inl e => y.1 = ng (2 + e) ∧ y.2.2.1 203 = A ∧ y.2.2.1 193 28 = h.2.1 193 28
    | .inr D' => y.1 = D' 1 ∧ y.2.2.1 203 = begA D' A ∧ y.2.2.1 193 28 = nI 0)) := by
  obtain ⟨R, hA, w⟩ := M
  have hL := C.2.1
  unfold m_ship
  rw [sp_bd, kc_i0, kc_b_6]
  have f1 : FQ h (pm_setI h 193 11 (nI 6)) := (FrM.refl _ _ h).setF (by omega)
  have a1 : (pm_setI h 193 11 (nI 6)).2.1 193 1 = nI L := by rw [ri_j _ (by omega)]; exact C.1
  have a28 : (pm_setI h 193 11 (nI 6)).2.1 193 28 = h.2.1 193 28 := by rw [ri_j _ (by omega)]
  have a11 : (pm_setI h 193 11 (nI 6)).2.1 193 11 = nI 6 := ri_s _
  have c1 : ∀ c, c ≠ 193 → (pm_setI h 193 11 (nI 6)).2.1 c = h.2.1 c := fun c hc => by funext j; rw [ri_c _ (by omega)]
  generalize pm_setI h 193 11 (nI 6) = h1 at f1 a1 a28 a11 c1 ⊢
  refine sp_call (m_ship8_n (R.fm f1)) ?_
  rintro h2 ⟨f2, e2⟩
  have f12 : FQ h h2 := f1.trans (f2.mono (fun c hc => .inr (.inl hc)) (fun _ q => q.elim))
  refine sp_call (m_ship29_n (R.fm f12)) ?_
  rintro h3 ⟨f3, e3⟩
  have f13 : FQ h h3 := f12.trans (f3.mono (fun c hc => .inr (.inl hc)) (fun _ q => q.elim))
  have eD : h3.2.1 199 = zD (h.2.1 199) := by
    funext j
    rw [e3, e2, c1 199 (by omega)]
    unfold zD
    by_cases q : j < 10
    · rw [if_neg (by omega), if_pos q, if_pos q]
    · rw [if_neg q, if_neg q]
  have C3 : MT h3 L B := ⟨by rw [f3.f (fun q => q), f2.f (fun q => q)]; exact a1, hL, fun k hk => by rw [f13.i (by omega) (by omega)]; exact C.2.2 k hk⟩
  have a28' : h3.2.1 193 28 = h.2.1 193 28 := by rw [f3.f (fun q => q), f2.f (fun q => q)]; exact a28
  have a203 : h3.2.1 203 = A := by rw [f3.i (by omega) (by omega), f2.i (by omega) (by omega), c1 _ (by omega)]; exact hA
  refine sp_call (m_reads_n (R.fm f13) C3 eD zD_z (by rw [f3.f (fun q => q), f2.f (fun q => q)]; exact a11)) ?_
  rintro ⟨v, h4⟩ ⟨f4, e4, hz⟩
  dsimp only at f4 e4 hz ⊢
  have f14 : FQ h h4 := f13.trans (f4.mono (fun c hc => by omega) (fun j hj => by omega))
  have b203 : h4.2.1 203 = A := by rw [f4.i (by omega) (by omega)]; exact a203
  have b28 : h4.2.1 193 28 = h.2.1 193 28 := by rw [f4.f (by omega)]; exact a28'
  cases eq : shP B L 41 0 (skp B L 0) (zD (h.2.1 199)) with
  | inl e =>
    rw [eq] at hz
    obtain ⟨y1, y2⟩ := hz
    subst y1
    have := shP_pos 41 0 (skp B L 0) _ e rfl (zD_z (D := h.2.1 199)).bt.1 (skp_ge (B := B) (Nat.zero_le L)).2 eq
    refine sp_neg (fun z => z rfl) (sp_some.mpr ⟨f14, e4, ?_, b203, b28⟩)
    show _ - h4.2.1 193 9 = _
    rw [y2, kc_b_m2, ng_sub (by omega) (by omega)]
  | inr D' =>
    rw [eq] at hz
    obtain ⟨y1, y2⟩ := hz
    subst y1
    refine sp_pos n10 ?_
    refine sp_call (m_ship68_n (R.fm f14) y2 b203) ?_
    rintro h5 ⟨f5, e5⟩
    have f15 : FQ h h5 := f14.trans (f5.mono (fun c hc => .inr (.inr hc)) (fun _ q => q.elim))
    rw [ra_193_20 (R.fm f15), Option.bind_some, mn_203, gi_n (by omega), nx_cl (by omega), kc_im1]
    refine sp_pos (dec_t (by omega)) ?_
    rw [sp_bd, sp_bd]
    have f6 : FQ h (pm_setI (pm_setI h5 203 6 (ng 1)) 193 28 (nI 0)) := (f15.setI (by omega) (by omega)).setF (by omega)
    rw [ra_193_20 (R.fm f6), Option.bind_some, mn_203, kc_i1, gi_n (by omega), nx_cl (by omega)]
    refine sp_pos (dec_t (by omega)) (sp_some.mpr ⟨f6, ?_, ?_, ?_, ri_s _⟩)
    · show (pm_setI (pm_setI h5 203 6 (ng 1)) 193 28 (nI 0)).2.1 193 1 = _
      rw [ri_j _ (by omega), ri_c _ (by omega), f5.f (fun q => q)]
      exact e4
    · show (pm_setI (pm_setI h5 203 6 (ng 1)) 193 28 (nI 0)).2.1 203 1 = _
      rw [ri_c _ (by omega), ri_j _ (by omega), e5, if_pos (by omega)]
    · show (pm_setI (pm_setI h5 203 6 (ng 1)) 193 28 (nI 0)).2.1 203 = _
      funext j
      unfold begA
      rw [ri_c _ (by omega)]
      by_cases q : j = 6
      · subst q
        rw [ri_s, if_pos rfl]
      · rw [ri_j _ q, e5, if_neg q]
end MS2
