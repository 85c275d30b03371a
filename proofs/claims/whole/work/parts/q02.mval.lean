/-! A rule's text: values, read by the reference. -/
/-- the rule r as it is read: parts, signs from b on -/
def MRS (h : pm_H) (r k b : Nat) (l : List Nat) : Prop := h.2.1 193 12 = nI k ∧ h.2.1 193 11 = nI r ∧ h.2.1 196 r = nI (b + l.length) ∧ b + l.length ≤ 400 ∧ ∀ j, j < l.length → h.2.1 195 (400 * r + b + j) = nI (l.getD j 0)
def FK (r b : Nat) (h h' : pm_H) : Prop := FrM (fun c => c = 195 ∨ c = 196) (fun j => j = 8 ∨ j = 9 ∨ j = 10 ∨ j = 12) h h' ∧ (∀ j, ¬ (400 * r + b ≤ j ∧ j < 400 * r + 400) → h'.2.1 195 j = h.2.1 195 j) ∧ ∀ j, j ≠ r → h'.2.1 196 j = h.2.1 196 j
def VO (h : pm_H) (r b d : Nat) (B : Nat → Nat) (L : Nat) (o : RDO) (z : Int32 × pm_H) : Prop := FK r b h z.2 ∧ (match o with
  | .inl e => z.1 = nI 0 ∧ z.2.2.1 193 9 = nI e
  | .inr y => z.1 = nI 1 ∧ MRS z.2 r y.1 b y.2.1 ∧ z.2.2.1 193 9 = nI 0 ∧ ∃ q, z.2.2.1 193 8 = nI q ∧ q ≤ L ∧ skp B L q = y.2.2 ∧ b + y.2.1.length + d ≤ q)
section MVL
variable {h : pm_H} {r k b d L p : Nat} {B : Nat → Nat} {l : List Nat}
theorem FK.refl (r b : Nat) (h : pm_H) : FK r b h h := ⟨FrM.refl _ _ h, fun _ _ => rfl, fun _ _ => rfl⟩
theorem FK.trans {h1 h2 : pm_H} (a : FK r b h h1) (c : FK r b h1 h2) : FK r b h h2 := ⟨a.1.trans c.1, fun j hj => (c.2.1 j hj).trans (a.2.1 j hj), fun j hj => (c.2.2 j hj).trans (a.2.2 j hj)⟩
theorem FK.set {h1 : pm_H} {j : Nat} {v : Int32} (f : FK r b h h1) (hj : j = 8 ∨ j = 9 ∨ j = 10 ∨ j = 12) : FK r b h (pm_setI h1 193 j v) := ⟨f.1.setF hj, fun i hi => by rw [ri_c _ (by omega)]; exact f.2.1 i hi, fun i hi => by rw [ri_c _ (by omega)]; exact f.2.2 i hi⟩
theorem FX.fk {h' : pm_H} (f : FX h h') (r b : Nat) : FK r b h h' := ⟨f.mono (fun _ q => q.elim) (fun j hj => by omega), fun j _ => by rw [f.i (by omega) id], fun j _ => by rw [f.i (by omega) id]⟩
theorem FK.rf {h' : pm_H} (f : FK r b h h') (R : RF h) : RF h' := R.fm f.1
theorem FK.mt {h' : pm_H} (f : FK r b h h') (C : MT h L B) : MT h' L B := ⟨by rw [f.1.f (by omega)]; exact C.1, C.2.1, fun k hk => by rw [f.1.i (by omega) (by omega)]; exact C.2.2 k hk⟩
theorem FX.mrs {h' : pm_H} (f : FX h h') (S : MRS h r k b l) : MRS h' r k b l := by
  obtain ⟨s1, s2, s3, s4, s5⟩ := S
  exact ⟨by rw [f.f (by omega)]; exact s1, by rw [f.f (by omega)]; exact s2, by rw [f.i (by omega) id]; exact s3, s4, fun j hj => by rw [f.i (by omega) id]; exact s5 j hj⟩
theorem gnl {l m : List Nat} {j : Nat} (h : j < l.length) : (l ++ m).getD j 0 = l.getD j 0 := by
  rw [List.getD_eq_getElem?_getD, List.getElem?_append_left h, ← List.getD_eq_getElem?_getD]
theorem gnr {l m : List Nat} {j : Nat} : (l ++ m).getD (l.length + j) 0 = m.getD j 0 := by
  rw [List.getD_eq_getElem?_getD, List.getElem?_append_right (by omega), Nat.add_sub_cancel_left, ← List.getD_eq_getElem?_getD]
theorem m_puts_n (R : RF h) (hr : r < 6) (S : MRS h r k b l) (room : b + l.length < 400) {a w : Nat} : SP (m_puts 193 (nI a) (nI w) h) (fun h' => FK r b h h' ∧ MRS h' r k b (l ++ [a + 16 * w]) ∧ ∀ j, h'.2.1 193 j = h.2.1 193 j) := by
  obtain ⟨s1, s2, s3, s4, s5⟩ := S
  unfold m_puts
  rw [ra_193_3 R, Option.bind_some, ra_193_4 R, Option.bind_some, s2, mn_195, mn_196, gi_n (by omega), nx_cl (by omega), s3, kc_s_400, kc_b_16, nx_mul, nx_mul, nx_add, nx_add, gi_n (by omega), nx_cl (by omega)]
  refine sp_pos (dec_t (by omega)) (sp_pos (dec_t (by omega)) ?_)
  rw [sp_bd]
  have f1 : FK r b h (pm_setI h 195 (400 * r + (b + l.length)) (nI (a + 16 * w))) := ⟨(FrM.refl _ _ h).setI (by omega) (.inl rfl), fun j hj => ri_j _ (by omega), fun j _ => ri_c _ (by omega)⟩
  have R1 := f1.rf R
  rw [ra_193_4 R1, Option.bind_some, ri_c _ (by omega), s2, mn_196, gi_n (by omega), nx_cl (by omega), ri_c _ (by omega), s3, kc_i1, nx_add]
  refine sp_pos (dec_t (by omega)) (sp_pos (dec_t (by omega)) ?_)
  rw [sp_bd]
  refine sp_some.mpr ⟨⟨f1.1.setI (by omega) (.inr rfl), fun j hj => by rw [ri_c _ (by omega)]; exact f1.2.1 j hj, fun j hj => by rw [ri_j _ hj]; exact f1.2.2 j hj⟩, ⟨?_, ?_, ?_, ?_, fun j hj => ?_⟩, fun j => ?_⟩
  · rw [ri_c _ (by omega), ri_c _ (by omega)]; exact s1
  · rw [ri_c _ (by omega), ri_c _ (by omega)]; exact s2
  · rw [ri_s, List.length_append]; rfl
  · rw [List.length_append]; exact room
  · rw [List.length_append] at hj
    have hj' : j < l.length + 1 := hj
    rw [ri_c _ (by omega)]
    by_cases q : j = l.length
    · subst q
      rw [show 400 * r + b + l.length = 400 * r + (b + l.length) by omega, ri_s]
      have := gnr (l := l) (m := [a + 16 * w]) (j := 0)
      rw [Nat.add_zero] at this
      rw [this]
      rfl
    · rw [ri_j _ (by omega), gnl (by omega)]
      exact s5 j (by omega)
  · rw [ri_c _ (by omega), ri_c _ (by omega)]
theorem m_makes_n (e12 : h.2.1 193 12 = nI k) (e9 : h.2.1 193 9 = nI 0) (hk : k ≤ 60) : m_makes 193 (nI p) h = some (if k < 60 then (nI 1, pm_setI h 193 12 (nI (k + 1))) else (nI 0, pm_setI h 193 9 (nI (1 + 8 * p + 3)))) := by
  unfold m_makes
  rw [e12]
  by_cases q : k < 60
  · rw [if_pos q]
    refine (if_pos (by rw [kc_b_60, nx_eq (by omega) (by omega)]; omega)).trans ?_
    rw [kc_i1, nx_add]
    rfl
  · rw [if_neg q]
    refine (if_neg (fun z => z (by rw [kc_b_60, nx_eq (by omega) (by omega)]; omega))).trans ?_
    rw [kc_i3, m_fails_n e9, Option.bind_some]
    exact if_pos mi_bo0
theorem lwok : (∀ w ∈ lws, (∀ x ∈ w, 0 < x ∧ x < 256) ∧ w.length < 8) := by decide +kernel
def lwd (i : Nat) : List Nat := lws.getD i []
theorem lw_v : (7168366 : Int64) = qN (pkw (lwd 0)) ∧ (2003792484 : Int64) = qN (pkw (lwd 1)) ∧ (422608794728 : Int64) = qN (pkw (lwd 2)) ∧ (1752135026 : Int64) = qN (pkw (lwd 3)) ∧ (2003398244 : Int64) = qN (pkw (lwd 4)) ∧ (418614700901 : Int64) = qN (pkw (lwd 5)) ∧ (1936286571 : Int64) = qN (pkw (lwd 6)) ∧ (499985311076 : Int64) = qN (pkw (lwd 7)) ∧ (1935764837 : Int64) = qN (pkw (lwd 8)) ∧ (1852138852 : Int64) = qN (pkw (lwd 9)) ∧ (1668441463 : Int64) = qN (pkw (lwd 10)) := by decide +kernel
theorem lw_m : ∀ i, i < 11 → lwd i ∈ lws := by decide +kernel
theorem lw_x : widx B L p lws 0 = if isW B L p (lwd 0) = true then some 0 else if isW B L p (lwd 1) = true then some 1 else if isW B L p (lwd 2) = true then some 2 else if isW B L p (lwd 3) = true then some 3 else if isW B L p (lwd 4) = true then some 4 else if isW B L p (lwd 5) = true then some 5 else if isW B L p (lwd 6) = true then some 6 else if isW B L p (lwd 7) = true then some 7 else if isW B L p (lwd 8) = true then some 8 else if isW B L p (lwd 9) = true then some 9 else if isW B L p (lwd 10) = true then some 10 else none := rfl
theorem m_wordHere_n (R : RF h) (C : MT h L B) (e8 : h.2.1 193 8 = nI p) (hp : p ≤ L) (cp : ca B L p ≠ 32) : m_wordHere 193 h = some ((match widx B L p lws 0 with | some w => nI w | none => ng 1), h) := by
  have g : ∀ i, i < 11 → ∀ {V : Int64}, V = qN (pkw (lwd i)) → m_isWord 193 V h = some (nI (isW B L p (lwd i)).toNat, h) := fun i hi {V} eV => m_word R C e8 hp cp (lwok _ (lw_m i hi)) eV
  obtain ⟨v0, v1, v2, v3, v4, v5, v6, v7, v8, v9, v10⟩ := lw_v
  unfold m_wordHere
  rw [lw_x, g 0 (by omega) v0, Option.bind_some]
  have t1 : ¬ nI (true).toNat = 0 := n10
  have t0 : nI (false).toNat = 0 := rfl
  cases isW B L p (lwd 0) with
  | true => exact (if_neg t1).trans rfl
  | false =>
  refine (if_pos t0).trans ?_
  rw [g 1 (by omega) v1, Option.bind_some]
  cases isW B L p (lwd 1) with
  | true => exact (if_neg t1).trans rfl
  | false =>
  refine (if_pos t0).trans ?_
  rw [g 2 (by omega) v2, Option.bind_some]
  cases isW B L p (lwd 2) with
  | true => exact (if_neg t1).trans rfl
  | false =>
  refine (if_pos t0).trans ?_
  rw [g 3 (by omega) v3, Option.bind_some]
  cases isW B L p (lwd 3) with
  | true => exact (if_neg t1).trans rfl
  | false =>
  refine (if_pos t0).trans ?_
  rw [g 4 (by omega) v4, Option.bind_some]
  cases isW B L p (lwd 4) with
  | true => exact (if_neg t1).trans rfl
  | false =>
  refine (if_pos t0).trans ?_
  rw [g 5 (by omega) v5, Option.bind_some]
  cases isW B L p (lwd 5) with
  | true => exact (if_neg t1).trans rfl
  | false =>
  refine (if_pos t0).trans ?_
  rw [g 6 (by omega) v6, Option.bind_some]
  cases isW B L p (lwd 6) with
  | true => exact (if_neg t1).trans rfl
  | false =>
  refine (if_pos t0).trans ?_
  rw [g 7 (by omega) v7, Option.bind_some]
  cases isW B L p (lwd 7) with
  | true => exact (if_neg t1).trans rfl
  | false =>
  refine (if_pos t0).trans ?_
  rw [g 8 (by omega) v8, Option.bind_some]
  cases isW B L p (lwd 8) with
  | true => exact (if_neg t1).trans rfl
  | false =>
  refine (if_pos t0).trans ?_
  rw [g 9 (by omega) v9, Option.bind_some]
  cases isW B L p (lwd 9) with
  | true => exact (if_neg t1).trans rfl
  | false =>
  refine (if_pos t0).trans ?_
  rw [g 10 (by omega) v10, Option.bind_some]
  cases isW B L p (lwd 10) with
  | true => exact (if_neg t1).trans rfl
  | false => exact (if_pos t0).trans rfl
end MVL
