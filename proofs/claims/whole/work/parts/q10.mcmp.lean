/-! A rule's text: a comparison, read by the reference. -/
abbrev TV (h : pm_H) (r b d : Nat) (B : Nat → Nat) (L : Nat) (o : RDO) (z : Int32 × pm_H) : Prop := FK r b h z.2 ∧ (match o with
  | .inl e => z.1 = nI 0 ∧ z.2.2.1 193 9 = nI e
  | .inr y => z.1 = nI 1 ∧ ST z.2 r b d B L y.1 y.2.1 y.2.2)
def sum1 (B : Nat → Nat) (L k : Nat) (l : List Nat) (p a : Nat) : RDO := match sumP B L k l p with
  | .inl e => .inl e
  | .inr z => .inr (z.1, z.2.1 ++ [a], z.2.2)
section MCM
variable {h h0 : pm_H} {r k b d L p : Nat} {B : Nat → Nat} {l : List Nat}
theorem TV.of {h1 : pm_H} {o : RDO} {z : Int32 × pm_H} (f : FK r b h0 h1) (q : TV h1 r b d B L o z) : TV h0 r b d B L o z := ⟨f.trans q.1, q.2⟩
theorem m_cmp152 (hr : r < 6) {a : Nat} (T : ST h r b (d + 1) B L k l p) : SP (m_compare_152 193 (nI a) h) (TV h r b d B L (sum1 B L k l p (6 + a))) := by
  unfold m_compare_152 sum1
  refine sp_call (m_sum_st hr T) ?_
  rintro ⟨v, h1⟩ ⟨f1, hz⟩
  dsimp only at f1 hz ⊢
  cases ev : sumP B L k l p with
  | inl e =>
    rw [ev] at hz
    obtain ⟨y1, y2⟩ := hz
    subst y1
    exact sp_neg (fun z => z rfl) (sp_some.mpr ⟨f1, by rw [kc_i0], y2⟩)
  | inr y =>
    rw [ev] at hz
    obtain ⟨y1, T1⟩ := hz
    subst y1
    refine sp_pos n10 ?_
    rw [kc_b_6, nx_add, kc_i0]
    refine sp_call (m_puts_st hr T1) ?_
    rintro h2 ⟨f2, T2, _⟩
    exact sp_some.mpr ⟨f1.trans f2, by rw [kc_i1], T2⟩
theorem m_cmp105 (hr : r < 6) {x p0 : Nat} {z : Bool} (T : ST h r b (d + 1) B L k l p) (hx : x = 60 ∨ x = 61 ∨ x = 62) (n : Nat) (hn : n = if x = 61 then 61 else if z = true then x + 256 else x) : SP (m_compare_105 193 (nI x) (nI p0) (nI z.toNat) h) (TV h r b d B L (if k < 60 then sum1 B L (k + 1) l p (cop n) else .inl (1 + 8 * p0 + 3))) := by
  have T' := T
  obtain ⟨R, C, S, e9, hk, q, q1, q2, q3, q4⟩ := T
  unfold m_compare_105
  rw [m_makes_n S.1 e9 hk, Option.bind_some]
  by_cases w : k < 60
  · rw [if_pos w, if_pos w]
    refine sp_pos n10 ?_
    have f1 : FK r b h (pm_setI h 193 12 (nI (k + 1))) := (FK.refl r b h).set (by omega)
    have T1 : ST (pm_setI h 193 12 (nI (k + 1))) r b (d + 1) B L (k + 1) l p := ⟨f1.rf R, f1.mt C, ⟨ri_s _, by rw [ri_j _ (by omega)]; exact S.2.1, by rw [ri_c _ (by omega)]; exact S.2.2.1, S.2.2.2.1, fun j hj => by rw [ri_c _ (by omega)]; exact S.2.2.2.2 j hj⟩, by rw [ri_j _ (by omega)]; exact e9, by omega, q, by rw [ri_j _ (by omega)]; exact q1, q2, q3, q4⟩
    dsimp only
    generalize pm_setI h 193 12 (nI (k + 1)) = h1 at f1 T1 ⊢
    have fin : ∀ a : Nat, 6 + a = cop n → SP (m_compare_152 193 (nI a) h1) (TV h r b d B L (sum1 B L (k + 1) l p (cop n))) := by
      intro a ha
      rw [← ha]
      exact (m_cmp152 hr T1).mono (fun y hy => hy.of f1)
    rw [kc_b_60, kc_b_61, kc_i4, kc_i3, kc_i2, kc_i1, kc_i0]
    rcases hx with rfl | rfl | rfl
    · refine sp_neg (fun y => y rfl) ?_
      cases z with
      | false => exact sp_pos rfl (fin 0 (by rw [hn]; rfl))
      | true => exact sp_neg n10 (fin 1 (by rw [hn]; rfl))
    · exact sp_pos (by decide) (sp_neg (fun y => y rfl) (fin 2 (by rw [hn]; rfl)))
    · refine sp_pos (by decide) (sp_pos (by decide) ?_)
      cases z with
      | false => exact sp_pos rfl (fin 4 (by rw [hn]; rfl))
      | true => exact sp_neg n10 (fin 3 (by rw [hn]; rfl))
  · rw [if_neg w, if_neg w]
    exact sp_neg (fun z => z rfl) (sp_some.mpr ⟨(FK.refl r b h).set (by omega), by rw [kc_i0], ri_s _⟩)
theorem m_cmp44 (hr : r < 6) (T : ST h r b d B L k l p) (e8 : h.2.1 193 8 = nI p) (hc : isCm (ca B L p) = true) : SP (m_compare_44 193 (nI (ca B L p)) (nI p) h) (TV h r b d B L (if k < 60 then sum1 B L (k + 1) l (skp B L (bh B L p)) (cop (nbr B L p)) else .inl (1 + 8 * p + 3))) := by
  have hc' := isCm_t.mp hc
  obtain ⟨k3, _⟩ := nbr_c hc
  have pL := (ca_in (show ca B L p ≠ 256 by omega)).1
  obtain ⟨T1, f1⟩ := T.past pL
  have R1 := T1.1
  have C1 := T1.2.1
  have hL := C1.2.1
  have hB := fun k hk => (C1.2.2 k hk).2
  have a8 : (pm_setI h 193 8 (nI (p + 1))).2.1 193 8 = nI (p + 1) := ri_s _
  unfold m_compare_44
  rw [sp_bd, e8, kc_i1, nx_add]
  generalize pm_setI h 193 8 (nI (p + 1)) = h1 at T1 f1 R1 C1 a8 ⊢
  -- without a second sign
  have one : ¬ ((ca B L p = 60 ∨ ca B L p = 62) ∧ ca B L (p + 1) = 61) → SP (m_compare_90 193 (nI (ca B L p)) (nI p) (Int32.ofInt 0) h1) (TV h r b d B L (if k < 60 then sum1 B L (k + 1) l (skp B L (bh B L p)) (cop (nbr B L p)) else .inl (1 + 8 * p + 3))) := by
    intro no
    have eb : bh B L p = p + 1 := by unfold bh; rw [if_pos k3, if_neg no]
    have en : nbr B L p = ca B L p := by unfold nbr; rw [if_pos k3, if_neg no]
    unfold m_compare_90
    rw [kc_i0, eb, en]
    refine sp_pos rfl ?_
    exact (m_cmp105 (z := false) hr T1 hc' (ca B L p) (by split <;> first | assumption | rfl)).mono (fun y hy => hy.of f1)
  have two : ((ca B L p = 60 ∨ ca B L p = 62) ∧ ca B L (p + 1) = 61) → SP (m_compare_90 193 (nI (ca B L p)) (nI p) (nI 1) h1) (TV h r b d B L (if k < 60 then sum1 B L (k + 1) l (skp B L (bh B L p)) (cop (nbr B L p)) else .inl (1 + 8 * p + 3))) := by
    intro yes
    have eb : bh B L p = p + 2 := by unfold bh; rw [if_pos k3, if_pos yes]
    have en : nbr B L p = ca B L p + 256 := by unfold nbr; rw [if_pos k3, if_pos yes]
    have pL2 := (ca_in (show ca B L (p + 1) ≠ 256 by omega)).1
    unfold m_compare_90
    rw [kc_i1, eb, en]
    refine sp_neg n10 ?_
    rw [sp_bd, a8, nx_add]
    have T2 : ST (pm_setI h1 193 8 (nI (p + 1 + 1))) r b (d + 1) B L k l (skp B L (p + 2)) := by
      obtain ⟨hp, cp, hb⟩ := T.hp
      obtain ⟨R, C, S, e9, hk, _⟩ := T1
      have g := fx8 h1 (nI (p + 1 + 1))
      exact ⟨R.fm g, g.mt C, g.mrs S, by rw [ri_j _ (by omega)]; exact e9, hk, p + 2, ri_s _, by omega, rfl, by omega⟩
    have f2 : FK r b h (pm_setI h1 193 8 (nI (p + 1 + 1))) := f1.set (by omega)
    exact (m_cmp105 (z := true) hr T2 hc' (ca B L p + 256) (by rw [if_neg (by omega), if_pos rfl])).mono (fun y hy => hy.of f2)
  rw [kc_b_61]
  by_cases x61 : ca B L p = 61
  · exact sp_pos (by rw [x61]) (one (by omega))
  refine sp_neg (by rw [nx_eq (by omega) (by omega)]; exact x61) ?_
  rw [C1.1, a8]
  by_cases pL2 : L ≤ p + 1
  · refine sp_pos (by rw [nx_le (by omega) (by omega)]; exact pL2) (one ?_)
    rintro ⟨_, z⟩
    have := (ca_in (B := B) (L := L) (p := p + 1) (by omega)).1
    omega
  refine sp_neg (by rw [nx_le (by omega) (by omega)]; exact pL2) ?_
  have cB : ca B L (p + 1) = B (p + 1) := by unfold ca; rw [if_pos (by omega)]
  have bB := hB (p + 1) (by omega)
  rw [ra_193_0 R1, Option.bind_some, mn_194, gi_n (by omega), nx_cl (by omega), (C1.2.2 (p + 1) (by omega)).1]
  refine sp_pos (dec_t (by omega)) ?_
  by_cases y : B (p + 1) = 61
  · exact sp_neg (fun z => z (by rw [sb_eq bB (by omega)]; exact y)) (two ⟨by omega, by omega⟩)
  · exact sp_pos (by rw [sb_eq bB (by omega)]; exact y) (one (fun z => y (by omega)))
theorem m_cmp_st (hr : r < 6) (T : ST h r b d B L k l p) : SP (m_compare 193 h) (TV h r b d B L (cmpP B L k l p)) := by
  have hB := fun k hk => (T.2.1.2.2 k hk).2
  unfold m_compare cmpP
  refine sp_call (m_sum_st hr T) ?_
  rintro ⟨v, h1⟩ ⟨f1, hz⟩
  dsimp only at f1 hz ⊢
  cases ev : sumP B L k l p with
  | inl e =>
    rw [ev] at hz
    obtain ⟨y1, y2⟩ := hz
    subst y1
    exact sp_neg (fun z => z rfl) (sp_some.mpr ⟨f1, by rw [kc_i0], y2⟩)
  | inr y =>
    rw [ev] at hz
    obtain ⟨y1, T1⟩ := hz
    subst y1
    refine sp_pos n10 ?_
    have cl : ca B L y.2.2 ≤ 256 := ca_le hB
    obtain ⟨h2, e2, f2, T2, a8, _⟩ := m_see_st T1
    have f02 := f1.trans f2
    rw [e2, Option.bind_some, kc_b_60, kc_b_61, kc_b_62]
    dsimp only
    rw [a8]
    by_cases hc : isCm (ca B L y.2.2) = true
    · rw [if_pos hc]
      have hc' := isCm_t.mp hc
      have ec : cv (ca B L y.2.2) = nI (ca B L y.2.2) := by unfold cv; rw [if_neg (by omega)]
      rw [ec]
      have g := (m_cmp44 hr T2 a8 hc).mono (fun y hy => TV.of f02 hy)
      have g' : SP (m_compare_44 193 (nI (ca B L y.2.2)) (nI y.2.2) h2) (TV h r b d B L (if y.1 < 60 then (match sumP B L (y.1 + 1) y.2.1 (skp B L (bh B L y.2.2)) with
          | .inl e => .inl e
          | .inr z => .inr (z.1, z.2.1 ++ [cop (nbr B L y.2.2)], z.2.2)) else .inl (1 + 8 * y.2.2 + 3))) := g
      by_cases x1 : ca B L y.2.2 = 60
      · exact sp_pos (by rw [x1]) g'
      refine sp_neg (by rw [nx_eq (by omega) (by omega)]; exact x1) ?_
      by_cases x2 : ca B L y.2.2 = 61
      · exact sp_pos (by rw [x2]) g'
      refine sp_neg (by rw [nx_eq (by omega) (by omega)]; exact x2) ?_
      exact sp_pos (by rw [nx_eq (by omega) (by omega)]; omega) g'
    · rw [if_neg hc]
      have nc : ¬ (ca B L y.2.2 = 60 ∨ ca B L y.2.2 = 61 ∨ ca B L y.2.2 = 62) := fun z => hc (isCm_t.mpr z)
      refine sp_neg (by rw [cv_eq cl (by omega)]; omega) (sp_neg (by rw [cv_eq cl (by omega)]; omega) (sp_neg (by rw [cv_eq cl (by omega)]; omega) ?_))
      rw [kc_i0, m_fails_n T2.2.2.2.1, Option.bind_some]
      exact sp_pos mi_bo0 (sp_some.mpr ⟨f02.set (by omega), rfl, ri_s _⟩)
end MCM
