/-! Texts: the program's tape goes on by a unit. -/
theorem setI_self (h : pm_H) (a k : Nat) : pm_setI h a k (h.2.1 a k) = h := by
  have : (pm_setI h a k (h.2.1 a k)).2.1 = h.2.1 := by
    funext b j
    rw [ri]
    by_cases q : b = a
    · rw [if_pos q]
      by_cases q2 : j = k
      · rw [if_pos q2, q, q2]
      · rw [if_neg q2]
    · rw [if_neg q]
  obtain ⟨h1, h2, h3, h4⟩ := h
  show (h1, (pm_setI (h1, h2, h3, h4) a k (h2 a k)).2.1, h3, h4) = (h1, h2, h3, h4)
  rw [this]
theorem setI_over (h : pm_H) (a k : Nat) (v v' : Int32) : pm_setI (pm_setI h a k v) a k v' = pm_setI h a k v' := by
  have : (pm_setI (pm_setI h a k v) a k v').2.1 = (pm_setI h a k v').2.1 := by
    funext b j
    by_cases q : b = a <;> by_cases q2 : j = k <;> simp [ri, q, q2]
  obtain ⟨h1, h2, h3, h4⟩ := h
  show (h1, (pm_setI (pm_setI (h1, h2, h3, h4) a k v) a k v').2.1, h3, h4) = (h1, (pm_setI (h1, h2, h3, h4) a k v').2.1, h3, h4)
  rw [this]
/-- of the tape the unit alone, and nothing else -/
def FT (h h' : pm_H) : Prop := h'.1 = h.1 ∧ h'.2.2.2 = h.2.2.2 ∧ h'.2.2.1 = h.2.2.1 ∧ (∀ c, c ≠ 1 → h'.2.1 c = h.2.1 c) ∧ h'.2.1 1 1 = h.2.1 1 1
theorem FT.refl (h : pm_H) : FT h h := ⟨rfl, rfl, rfl, fun _ _ => rfl, rfl⟩
theorem FT.trans {h h1 h2 : pm_H} (a : FT h h1) (b : FT h1 h2) : FT h h2 := ⟨b.1.trans a.1, b.2.1.trans a.2.1, b.2.2.1.trans a.2.2.1, fun c hc => (b.2.2.2.1 c hc).trans (a.2.2.2.1 c hc), b.2.2.2.2.trans a.2.2.2.2⟩
theorem FT.set {h h1 : pm_H} {k : Nat} {v : Int32} (f : FT h h1) (hk : k ≠ 1) : FT h (pm_setI h1 1 k v) := ⟨f.1, f.2.1, f.2.2.1, fun c hc => by rw [← f.2.2.2.1 c hc]; funext j; exact ri_c v hc, by rw [ri_j _ (fun q => hk q.symm)]; exact f.2.2.2.2⟩
theorem FT.rf {h h' : pm_H} (f : FT h h') (R : RF h) : RF h' := fun q hq => by rw [f.2.1]; exact R q hq
theorem FT.ct {h h' : pm_H} {L : Nat} {B : Nat → Nat} (f : FT h h') (C : CT h L B) : CT h' L B := ⟨by rw [f.2.2.2.2]; exact C.1, C.2.1, fun k hk => by rw [f.2.2.2.1 2 (by omega)]; exact C.2.2 k hk⟩
theorem FT.fr {h h' : pm_H} (f : FT h h') : Fr (· = 1) h h' := ⟨f.1, f.2.1, fun c hc => ⟨f.2.2.2.1 c hc, by rw [f.2.2.1]⟩⟩
section AD
variable {h : pm_H} {L : Nat} {B : Nat → Nat}
theorem ca_lt {p : Nat} (hp : p < L) : ca B L p = B p := by unfold ca; rw [if_pos hp]
theorem t_skip (R : RF h) (C : CT h L B) {b : Nat} (hb : b ≤ L) : wh (fun z : (Int32 × pm_H) => t_advance_5 1 z.1 z.2) (nI b, h) = some (nI (skp B L b), h) := by
  have hL := C.2.1
  have hB := fun k hk => (C.2.2 k hk).2
  refine wh_nx (c := isSp B) (fun q => (nI q, h)) (fun q => (nI q, h)) hb (fun q h1 h2 h3 => ?_) (fun q h1 h2 h3 => ?_)
  · dsimp only
    unfold t_advance_5
    rw [C.1]
    refine (if_neg (by rw [nx_le (by omega) (by omega)]; omega)).trans ?_
    rw [t_byte_n R C (by omega), Option.bind_some, kc_b_32, ca_lt h2]
    have := hB q h2
    refine (if_neg ?_).trans (by rw [kc_i1, nx_add])
    rw [cv_eq (by omega) (by omega)]
    exact fun z => z (of_decide_eq_true h3)
  · dsimp only
    unfold t_advance_5
    rw [C.1]
    by_cases q2 : q < L
    · refine (if_neg (by rw [nx_le (by omega) (by omega)]; omega)).trans ?_
      rw [t_byte_n R C (by omega), Option.bind_some, kc_b_32, ca_lt q2]
      have := hB q q2
      refine if_pos ?_
      rw [cv_eq (by omega) (by omega)]
      exact of_decide_eq_false (h3 q2)
    · exact if_pos (by rw [nx_le (by omega) (by omega)]; omega)
theorem t_184 {p a : Nat} (f3 : h.2.1 1 3 = nI p) (ha : p ≤ a) : SP (t_advance_184 1 (nI a) h) (fun h' => FT h h' ∧ h'.2.1 1 4 = nI a ∧ h'.2.1 1 5 = nI (a - p) ∧ ∀ j, j ≠ 4 → j ≠ 5 → h'.2.1 1 j = h.2.1 1 j) := by
  unfold t_advance_184
  rw [sp_bd, sp_bd, ri_j _ (by omega), f3, nx_sub ha, sp_some]
  refine ⟨((FT.refl h).set (by omega)).set (by omega), by rw [ri_j _ (by omega), ri_s], ri_s _, fun j h1 h2 => by rw [ri_j _ h2, ri_j _ h1]⟩
theorem t_run (R : RF h) (C : CT h L B) {p k : Nat} (hp : p ≤ L) (hk : k ≤ 2) (f2 : h.2.1 1 2 = nI k) (f3 : h.2.1 1 3 = nI p) (f6 : h.2.1 1 6 = nI 0) : wh (fun z : (Int32 × pm_H) => t_advance_117 1 z.1 z.2) (nI p, h) = some (nI (nx (isKd B k) L p), pm_setI h 1 6 (nI (if k = 1 then dgv B p (nx (isKd B k) L p - p) else 0))) := by
  have hL := C.2.1
  have hB := fun k hk => (C.2.2 k hk).2
  have e0 : (nI p, h) = (fun q => (nI q, pm_setI h 1 6 (nI (if k = 1 then dgv B p (q - p) else 0)))) p := by
    dsimp only
    have : (if k = 1 then dgv B p (p - p) else 0) = 0 := by
      rw [Nat.sub_self]
      split <;> rfl
    rw [this, ← f6, setI_self]
  rw [e0]
  refine wh_nx (c := isKd B k) (fun q => (nI q, pm_setI h 1 6 (nI (if k = 1 then dgv B p (q - p) else 0)))) (fun q => (nI q, pm_setI h 1 6 (nI (if k = 1 then dgv B p (q - p) else 0)))) hp (fun q h1 h2 h3 => ?_) (fun q h1 h2 h3 => ?_)
  · dsimp only
    have ff : FT h (pm_setI h 1 6 (nI (if k = 1 then dgv B p (q - p) else 0))) := (FT.refl h).set (by omega)
    have b := hB q h2
    have h3' : kd (B q) = k := of_decide_eq_true h3
    unfold t_advance_117
    rw [ri_j _ (by omega), C.1, ri_j _ (by omega), f2, ri_j _ (by omega), f3]
    refine (if_neg (by rw [nx_le (by omega) (by omega)]; omega)).trans ?_
    rw [t_byte_n (ff.rf R) (ff.ct C) (by omega), Option.bind_some, ca_lt h2, t_kind_n _ (by omega), Option.bind_some, h3']
    refine (if_neg (fun z => z rfl)).trans ?_
    by_cases k1 : k = 1
    · subst k1
      refine (if_neg (fun z => z kc_i1.symm)).trans ?_
      rw [nx_sub h1, if_pos rfl, if_pos rfl, show q + 1 - p = (q - p) + 1 from by omega, dgv]
      by_cases q5 : q - p < 5
      · refine (if_neg (by rw [kc_i5, nx_le (by omega) (by omega)]; omega)).trans ?_
        have d48 : 48 ≤ B q := by
          unfold kd at h3'
          split at h3'
          · omega
          · split at h3'
            · rename_i z; exact z.1
            · split at h3' <;> omega
        have ec : cv (B q) = nI (B q) := by unfold cv; rw [if_neg (by omega)]
        rw [if_pos q5, Option.bind_some, ec, ri_s, kc_b_10, kc_b_48, nx_mul, nx_add, nx_sub (by omega), kc_i1, nx_add, show dgv B p (q - p) * 10 + B q - 48 = dgv B p (q - p) * 10 + (B q - 48) from by omega, show p + (q - p) = q from by omega]
        show some (Sum.inl (nI (q + 1), pm_setI (pm_setI h 1 6 _) 1 6 _)) = _
        rw [setI_over]
      · rw [if_neg q5]
        refine (if_pos (by rw [kc_i5, nx_le (by omega) (by omega)]; omega)).trans ?_
        rw [kc_i1, nx_add]
    · rw [if_neg k1, if_neg k1]
      refine (if_pos (by rw [kc_i1, nx_eq (by omega) (by omega)]; exact k1)).trans ?_
      rw [kc_i1, nx_add]
  · dsimp only
    have ff : FT h (pm_setI h 1 6 (nI (if k = 1 then dgv B p (q - p) else 0))) := (FT.refl h).set (by omega)
    unfold t_advance_117
    rw [ri_j _ (by omega), C.1, ri_j _ (by omega), f2, ri_j _ (by omega), f3]
    by_cases q2 : q < L
    · have b := hB q q2
      refine (if_neg (by rw [nx_le (by omega) (by omega)]; omega)).trans ?_
      have h3' : ¬ kd (B q) = k := of_decide_eq_false (h3 q2)
      have kl := kd_le (B q)
      rw [t_byte_n (ff.rf R) (ff.ct C) (by omega), Option.bind_some, ca_lt q2, t_kind_n _ (by omega), Option.bind_some]
      exact if_pos (by rw [nx_eq (by omega) (by omega)]; exact h3')
    · exact if_pos (by rw [nx_le (by omega) (by omega)]; omega)
theorem t_advance_sp (R : RF h) (C : CT h L B) {b : Nat} (hb : h.2.1 1 4 = nI b) (hbl : b ≤ L) : SP (t_advance 1 h) (fun h' => FT h h' ∧ UNT h' B L (skp B L b) ∧ h'.2.1 1 7 = h.2.1 1 7) := by
  have hL := C.2.1
  have hB := fun k hk => (C.2.2 k hk).2
  have sg := skp_ge (B := B) hbl
  have sc := skp_ca (B := B) hbl
  unfold t_advance
  rw [hb, t_skip R C hbl, Option.bind_some]
  generalize skp B L b = p at sg sc
  dsimp only
  have cl : ca B L p ≤ 256 := ca_le hB
  have kl := kd_le (ca B L p)
  have bg := bh_ge (B := B) sg.2
  unfold t_advance_29
  rw [sp_bd, sp_bd, kc_i0]
  have f2 : FT h (pm_setI (pm_setI h 1 3 (nI p)) 1 6 (nI 0)) := ((FT.refl h).set (by omega)).set (by omega)
  rw [t_byte_n (f2.rf R) (f2.ct C) (by omega), Option.bind_some, t_kind_n _ cl, Option.bind_some, sp_bd, ri_s]
  have f5 : FT h (pm_setI (pm_setI (pm_setI h 1 3 (nI p)) 1 6 (nI 0)) 1 2 (nI (kd (ca B L p)))) := f2.set (by omega)
  have a2 : (pm_setI (pm_setI (pm_setI h 1 3 (nI p)) 1 6 (nI 0)) 1 2 (nI (kd (ca B L p)))).2.1 1 2 = nI (kd (ca B L p)) := ri_s _
  have a3 : (pm_setI (pm_setI (pm_setI h 1 3 (nI p)) 1 6 (nI 0)) 1 2 (nI (kd (ca B L p)))).2.1 1 3 = nI p := by rw [ri_j _ (by omega), ri_j _ (by omega), ri_s]
  have a6 : (pm_setI (pm_setI (pm_setI h 1 3 (nI p)) 1 6 (nI 0)) 1 2 (nI (kd (ca B L p)))).2.1 1 6 = nI 0 := by rw [ri_j _ (by omega), ri_s]
  have a7 : (pm_setI (pm_setI (pm_setI h 1 3 (nI p)) 1 6 (nI 0)) 1 2 (nI (kd (ca B L p)))).2.1 1 7 = h.2.1 1 7 := by rw [ri_j _ (by omega), ri_j _ (by omega), ri_j _ (by omega)]
  generalize pm_setI (pm_setI (pm_setI h 1 3 (nI p)) 1 6 (nI 0)) 1 2 (nI (kd (ca B L p))) = h5 at f5 a2 a3 a6 a7 ⊢
  have R5 := f5.rf R
  have C5 := f5.ct C
  by_cases k3 : kd (ca B L p) = 3
  · refine sp_neg (by rw [kc_i3, nx_eq (by omega) (by omega)]; exact fun z => z k3) ?_
    have cn : ca B L p ≠ 256 := fun z => by rw [z] at k3; exact absurd k3 (by decide)
    have ec : cv (ca B L p) = nI (ca B L p) := by unfold cv; rw [if_neg cn]
    have pL : p < L := by
      apply Classical.byContradiction
      intro q
      exact cn (by unfold ca; rw [if_neg q])
    rw [t_byte_n R5 C5 (by omega), Option.bind_some, sp_bd, ri_s, ec]
    have f6 : FT h (pm_setI h5 1 6 (nI (ca B L p))) := f5.set (by omega)
    -- the end, at a with the number v
    have fin : ∀ (a v : Nat) (h6 : pm_H), FT h h6 → h6.2.1 1 2 = nI 3 → h6.2.1 1 3 = nI p → h6.2.1 1 6 = nI v → h6.2.1 1 7 = h.2.1 1 7 → p ≤ a → bh B L p = a → nbr B L p = v → SP (t_advance_184 1 (nI a) h6) (fun h' => FT h h' ∧ UNT h' B L p ∧ h'.2.1 1 7 = h.2.1 1 7) := by
      intro a v h6 g1 g2 g3 g6 g7 pa ea ev
      refine (t_184 g3 pa).mono ?_
      rintro h7 ⟨f7, e4, e5, ej⟩
      refine ⟨g1.trans f7, ⟨sg.2, sc, ?_, ?_, ?_, ?_, ?_⟩, ?_⟩
      · rw [ej 2 (by omega) (by omega), g2, k3]
      · rw [ej 3 (by omega) (by omega), g3]
      · rw [e4, ea]
      · rw [e5, ea]
      · rw [ej 6 (by omega) (by omega), g6, ev]
      · rw [ej 7 (by omega) (by omega), g7]
    have pl := fin (p + 1) (ca B L p) (pm_setI h5 1 6 (nI (ca B L p))) f6 (by rw [ri_j _ (by omega), a2, k3]) (by rw [ri_j _ (by omega), a3]) (ri_s _) (by rw [ri_j _ (by omega), a7]) (by omega)
    by_cases lg : ca B L p = 60 ∨ ca B L p = 62
    · have t89 : SP (t_advance_89 1 (nI (p + 1)) (pm_setI h5 1 6 (nI (ca B L p)))) (fun h' => FT h h' ∧ UNT h' B L p ∧ h'.2.1 1 7 = h.2.1 1 7) := by
        unfold t_advance_89
        have cl1 : ca B L (p + 1) ≤ 256 := ca_le hB
        rw [t_byte_n (f6.rf R) (f6.ct C) (by omega), Option.bind_some, kc_b_61]
        by_cases e61 : ca B L (p + 1) = 61
        · refine sp_neg (by rw [cv_eq cl1 (by omega)]; exact fun z => z e61) ?_
          rw [sp_bd, ri_s, kc_s_256, nx_add, kc_i1, nx_add, setI_over]
          refine fin (p + 2) (ca B L p + 256) _ (f5.set (by omega)) (by rw [ri_j _ (by omega), a2, k3]) (by rw [ri_j _ (by omega), a3]) (ri_s _) (by rw [ri_j _ (by omega), a7]) (by omega) ?_ ?_
          · unfold bh
            rw [if_pos k3, if_pos ⟨lg, e61⟩]
          · unfold nbr
            rw [if_pos k3, if_pos ⟨lg, e61⟩]
        · refine sp_pos (by rw [cv_eq cl1 (by omega)]; exact e61) (pl ?_ ?_)
          · unfold bh
            rw [if_pos k3, if_neg (fun z => e61 z.2)]
          · unfold nbr
            rw [if_pos k3, if_neg (fun z => e61 z.2)]
      rw [kc_b_60, kc_b_62, kc_i1, nx_add]
      rcases lg with lg | lg
      · exact sp_pos (by rw [lg]) t89
      · exact sp_neg (by rw [lg]; decide) (sp_neg (fun z => z (by rw [lg])) t89)
    · rw [kc_b_60, kc_b_62, kc_i1, nx_add]
      refine sp_neg (by rw [nx_eq (by omega) (by omega)]; exact fun z => lg (.inl z)) (sp_pos (by rw [nx_eq (by omega) (by omega)]; exact fun z => lg (.inr z)) (pl ?_ ?_))
      · unfold bh
        rw [if_pos k3, if_neg (fun z => lg z.1)]
      · unfold nbr
        rw [if_pos k3, if_neg (fun z => lg z.1)]
  · refine sp_pos (by rw [kc_i3, nx_eq (by omega) (by omega)]; exact k3) ?_
    rw [t_run R5 C5 sg.2 (by omega) a2 a3 a6, Option.bind_some]
    have eb : bh B L p = nx (isKd B (kd (ca B L p))) L p := by unfold bh; rw [if_neg k3]
    rw [← eb]
    dsimp only
    refine (t_184 (h := pm_setI h5 1 6 (nI (if kd (ca B L p) = 1 then dgv B p (bh B L p - p) else 0))) (p := p) (by rw [ri_j _ (by omega), a3]) bg.1).mono ?_
    rintro h7 ⟨f7, e4, e5, ej⟩
    refine ⟨(f5.set (by omega)).trans f7, ⟨sg.2, sc, ?_, ?_, e4, e5, ?_⟩, ?_⟩
    · rw [ej 2 (by omega) (by omega), ri_j _ (by omega), a2]
    · rw [ej 3 (by omega) (by omega), ri_j _ (by omega), a3]
    · rw [ej 6 (by omega) (by omega), ri_s]
      unfold nbr
      rw [if_neg k3]
    · rw [ej 7 (by omega) (by omega), ri_j _ (by omega), a7]
end AD
