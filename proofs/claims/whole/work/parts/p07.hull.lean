/-! A ship's text: the program's hull. -/
/-- the tape's unit and the hull s -/
def FH (s : Nat) (h h' : pm_H) : Prop := Fr (fun c => c = 1 ∨ (s ≤ c ∧ c ≤ s + 9)) h h' ∧ h'.2.1 1 1 = h.2.1 1 1
section HU
variable {h : pm_H} {s L : Nat} {B : Nat → Nat} {D : Nat → Int32}
theorem FH.refl (s : Nat) (h : pm_H) : FH s h h := ⟨Fr.refl _ h, rfl⟩
theorem FH.trans {h1 h2 : pm_H} (a : FH s h h1) (b : FH s h1 h2) : FH s h h2 := ⟨a.1.trans b.1, b.2.trans a.2⟩
theorem FT.fh {h' : pm_H} (f : FT h h') (s : Nat) : FH s h h' := ⟨f.fr.mono (fun c hc => .inl hc), f.2.2.2.2⟩
theorem FH.set {h1 : pm_H} {c k : Nat} {v : Int32} (f : FH s h h1) (hc : s ≤ c ∧ c ≤ s + 9) (hs : 108 ≤ s) : FH s h (pm_setI h1 c k v) := ⟨f.1.setI (.inr hc), by rw [ri_c _ (by omega)]; exact f.2⟩
theorem FH.rf {h' : pm_H} (f : FH s h h') (R : RF h) : RF h' := R.fr f.1
theorem FH.ct {h' : pm_H} (f : FH s h h') (hs : 108 ≤ s) (C : CT h L B) : CT h' L B := ⟨by rw [f.2]; exact C.1, C.2.1, fun k hk => by rw [f.1.i _ (by omega)]; exact C.2.2 k hk⟩
theorem CSh.ft {h' : pm_H} (S : CSh h s D) (f : FT h h') : CSh h' s D := S.fr f.fr (fun c a b => by have := hull_ge S.1; omega)
theorem UNT.hull {h' : pm_H} {p : Nat} (U : UNT h B L p) (e : h'.2.1 1 = h.2.1 1) : UNT h' B L p := by
  unfold UNT at U ⊢
  rw [e]
  exact U
theorem mnA_o {D' : Nat → Int32} (e : ∀ j, 106 ≤ j → j < 206 → D' j = D j) : mnA D' = mnA D := by
  funext a b
  unfold mnA an
  by_cases q : a < 10 ∧ b < 10
  · rw [e (106 + 10 * a + b) (by omega) (by omega)]
  · rw [if_neg (fun z => q ⟨z.1, z.2.1⟩), if_neg (fun z => q ⟨z.1, z.2.1⟩)]
/-- the words said together, also where no words are told yet -/
def TGs (h : pm_H) (s : Nat) (D : Nat → Int32) : Prop := ∀ a b, a < 10 → b < 10 → h.2.1 (s + 9) (a * 10 + b) = if D (106 + 10 * a + b) = ng 1 then ng 2 else D (106 + 10 * a + b)
theorem CSh.ship (S : CSh h s D) (W : WR D) (h0 : an D 0 = 0) (h3 : an D 3 = 0) (tg : TGs h s D) {n : Nat} (hn : n < 11) : CSh (pm_setI h s 0 (nI n)) s (upA D 0 (nI n)) := by
  obtain ⟨w0, w1, w2, w3, w4, w5, wm, wo, wt⟩ := W
  have z1 : an D 1 = 0 := by
    apply Classical.byContradiction
    intro z
    obtain ⟨x, hx, _⟩ := (wm 0 (by omega)).1
    omega
  have z2 : an D 2 = 0 := by
    apply Classical.byContradiction
    intro z
    obtain ⟨x, hx, _⟩ := (wo 0 (by omega)).2.2.2 0 (wo 0 (by omega)).2.2.1
    omega
  obtain ⟨s0, s1, s2, s3, s4, s5, s6, s7, s8, s9⟩ := S
  refine ⟨s0, ?_, ?_, ?_, ?_, fun m hm => ?_, fun o ho => ?_, fun a b ha hb _ => ?_, fun k hk => ?_, ?_⟩
  · rw [ri_s, upA_s]
  · rw [ri_j _ (by omega), upA_ne (by omega)]; exact s2
  · rw [ri_j _ (by omega), upA_ne (by omega)]; exact s3
  · rw [ri_j _ (by omega), upA_ne (by omega)]; exact s4
  · rw [upA_an (by omega)] at hm; omega
  · rw [upA_an (by omega)] at ho; omega
  · rw [ri_c _ (by omega), upA_ne (by omega)]; exact tg a b ha hb
  · rw [upA_an (by omega)] at hk; omega
  · rw [mnA_o (fun j h1 h2 => upA_ne (by omega)), upA_an (by omega)]
    have c6 : (pm_setI h s 0 (nI n)).2.1 (s + 6) = h.2.1 (s + 6) := funext (fun j => ri_c _ (by omega))
    have c7 : (pm_setI h s 0 (nI n)).2.1 (s + 7) = h.2.1 (s + 7) := funext (fun j => ri_c _ (by omega))
    have c8 : (pm_setI h s 0 (nI n)).2.1 (s + 8) = h.2.1 (s + 8) := funext (fun j => ri_c _ (by omega))
    rw [c6, c7, c8]
    exact s9
theorem CSh.man (S : CSh h s D) (W : WR D) {w b : Nat} (q : an D 1 < 8) : CSh (pm_setI (pm_setI (pm_setI h (s + 1) (an D 1) (nI w)) (s + 2) (an D 1) (nI b)) s 1 (nI (an D 1 + 1))) s (rdMan D w b) := by
  have e := rdMan_e (D := D) (w := w) (b := b) q
  have c2 := W.c2
  obtain ⟨w0, w1, w2, w3, w4, w5, wm, wo, wt⟩ := W
  obtain ⟨s0, s1, s2, s3, s4, s5, s6, s7, s8, s9⟩ := S
  refine ⟨s0, ?_, ?_, ?_, ?_, fun m hm => ?_, fun o ho => ?_, fun a b' ha hb hz => ?_, fun k hk => ?_, ?_⟩
  · rw [ri_j _ (by omega), ri_c _ (by omega), ri_c _ (by omega), rdMan_o (by omega) (by omega)]; exact s1
  · rw [ri_s]
    unfold rdMan
    rw [if_neg (by omega), if_neg (by omega), if_neg (by omega), if_neg (by omega), if_pos rfl]
  · rw [ri_j _ (by omega), ri_c _ (by omega), ri_c _ (by omega), rdMan_o (by omega) (by omega)]; exact s3
  · rw [ri_j _ (by omega), ri_c _ (by omega), ri_c _ (by omega), rdMan_o (by omega) (by omega)]; exact s4
  · rw [e.2.1] at hm
    have k1 : (pm_setI (pm_setI (pm_setI h (s + 1) (an D 1) (nI w)) (s + 2) (an D 1) (nI b)) s 1 (nI (an D 1 + 1))).2.1 (s + 1) m = if m = an D 1 then nI w else h.2.1 (s + 1) m := by
      rw [ri_c _ (by omega), ri_c _ (by omega)]
      by_cases z : m = an D 1
      · rw [if_pos z, z, ri_s]
      · rw [if_neg z, ri_j _ z]
    have k2 : (pm_setI (pm_setI (pm_setI h (s + 1) (an D 1) (nI w)) (s + 2) (an D 1) (nI b)) s 1 (nI (an D 1 + 1))).2.1 (s + 2) m = if m = an D 1 then nI b else h.2.1 (s + 2) m := by
      rw [ri_c _ (by omega)]
      by_cases z : m = an D 1
      · rw [if_pos z, z, ri_s]
      · rw [if_neg z, ri_j _ z, ri_c _ (by omega)]
    rw [k1, k2]
    by_cases z : m = an D 1
    · subst z
      rw [if_pos rfl, if_pos rfl]
      constructor
      · unfold rdMan; rw [if_pos rfl]
      · unfold rdMan; rw [if_neg (by omega), if_pos rfl]
    · rw [if_neg z, if_neg z, rdMan_o (by omega) (by omega), rdMan_o (by omega) (by omega)]
      exact s5 m (by omega)
  · rw [e.2.2.1] at ho
    have o5 := ((wo o ho).2.1.get (by omega)).2
    have ea : an (rdMan D w b) (58 + 6 * o + 1) = an D (58 + 6 * o + 1) := by unfold an; rw [rdMan_o (by omega) (by omega)]
    rw [ea, ri_c _ (by omega), ri_c _ (by omega), ri_c _ (by omega), ri_c _ (by omega), ri_c _ (by omega), ri_c _ (by omega), rdMan_o (by omega) (by omega), rdMan_o (by omega) (by omega)]
    refine ⟨(s6 o ho).1, (s6 o ho).2.1, fun i hi => ?_⟩
    rw [ri_c _ (by omega), ri_c _ (by omega), ri_c _ (by omega), rdMan_o (by omega) (by omega)]
    exact (s6 o ho).2.2 i hi
  · rw [ri_c _ (by omega), ri_c _ (by omega), ri_c _ (by omega), rdMan_o (by omega) (by omega)]
    exact s7 a b' ha hb (by unfold an at hz ⊢; rw [rdMan_o (by omega) (by omega)] at hz; exact hz)
  · rw [e.2.2.2] at hk
    rw [e.1, ri_c _ (by omega), ri_c _ (by omega), ri_c _ (by omega), ri_c _ (by omega), ri_c _ (by omega), ri_c _ (by omega), ri_c _ (by omega), ri_c _ (by omega), ri_c _ (by omega)]
    exact s8 k hk
  · rw [mnA_o (D' := rdMan D w b) (fun j h1 h2 => rdMan_o (by omega) (by omega)), e.2.2.2]
    have cc : ∀ x, x = s + 6 ∨ x = s + 7 ∨ x = s + 8 → (pm_setI (pm_setI (pm_setI h (s + 1) (an D 1) (nI w)) (s + 2) (an D 1) (nI b)) s 1 (nI (an D 1 + 1))).2.1 x = h.2.1 x := fun x hx => funext (fun j => by rw [ri_c _ (by omega), ri_c _ (by omega), ri_c _ (by omega)])
    rw [cc _ (.inl rfl), cc _ (.inr (.inl rfl)), cc _ (.inr (.inr rfl))]
    exact s9
theorem CSh.ord (S : CSh h s D) (W : WR D) {n k : Nat} {g : Nat → Nat} (q : an D 2 < 8) (hk4 : k ≤ 4) {h1 : pm_H} (f1 : Fr (· = s + 5) h h1) (lo : ∀ j, j < an D 2 * 4 → h1.2.1 (s + 5) j = h.2.1 (s + 5) j) (hi : ∀ i, i < k → h1.2.1 (s + 5) (an D 2 * 4 + i) = nI (g i)) : CSh (pm_setI (pm_setI (pm_setI h1 (s + 3) (an D 2) (nI n)) (s + 4) (an D 2) (nI k)) s 2 (nI (an D 2 + 1))) s (rdOrd D n g k) := by
  have e := rdOrd_e (D := D) (n := n) (g := g) (k := k) q
  have c1 := W.c1
  obtain ⟨w0, w1, w2, w3, w4, w5, wm, wo, wt⟩ := W
  obtain ⟨s0, s1, s2, s3, s4, s5, s6, s7, s8, s9⟩ := S
  refine ⟨s0, ?_, ?_, ?_, ?_, fun m hm => ?_, fun o ho => ?_, fun a b' ha hb hz => ?_, fun k hk => ?_, ?_⟩
  · rw [ri_j _ (by omega), ri_c _ (by omega), ri_c _ (by omega), f1.i _ (by omega), rdOrd_o (by omega) (by omega)]; exact s1
  · rw [ri_j _ (by omega), ri_c _ (by omega), ri_c _ (by omega), f1.i _ (by omega), rdOrd_o (by omega) (by omega)]; exact s2
  · rw [ri_s]
    unfold rdOrd
    rw [if_neg (by omega), if_neg (by omega), if_neg (by omega), if_pos rfl]
  · rw [ri_j _ (by omega), ri_c _ (by omega), ri_c _ (by omega), f1.i _ (by omega), rdOrd_o (by omega) (by omega)]; exact s4
  · rw [e.2.1] at hm
    rw [ri_c _ (by omega), ri_c _ (by omega), ri_c _ (by omega), ri_c _ (by omega), ri_c _ (by omega), ri_c _ (by omega), f1.i _ (by omega), f1.i _ (by omega), rdOrd_o (by omega) (by omega), rdOrd_o (by omega) (by omega)]
    exact s5 m hm
  · rw [e.2.2.1] at ho
    have k1 : (pm_setI (pm_setI (pm_setI h1 (s + 3) (an D 2) (nI n)) (s + 4) (an D 2) (nI k)) s 2 (nI (an D 2 + 1))).2.1 (s + 3) o = if o = an D 2 then nI n else h.2.1 (s + 3) o := by
      rw [ri_c _ (by omega), ri_c _ (by omega)]
      by_cases z : o = an D 2
      · rw [if_pos z, z, ri_s]
      · rw [if_neg z, ri_j _ z, f1.i _ (by omega)]
    have k2 : (pm_setI (pm_setI (pm_setI h1 (s + 3) (an D 2) (nI n)) (s + 4) (an D 2) (nI k)) s 2 (nI (an D 2 + 1))).2.1 (s + 4) o = if o = an D 2 then nI k else h.2.1 (s + 4) o := by
      rw [ri_c _ (by omega)]
      by_cases z : o = an D 2
      · rw [if_pos z, z, ri_s]
      · rw [if_neg z, ri_j _ z, ri_c _ (by omega), f1.i _ (by omega)]
    rw [k1, k2]
    by_cases z : o = an D 2
    · subst z
      have e1 : rdOrd D n g k (58 + 6 * an D 2 + 1) = nI k := by unfold rdOrd; rw [if_neg (by omega), if_pos rfl]
      have ea : an (rdOrd D n g k) (58 + 6 * an D 2 + 1) = k := an_n e1 (by omega)
      rw [if_pos rfl, if_pos rfl, e1, ea]
      refine ⟨?_, rfl, fun i hi2 => ?_⟩
      · unfold rdOrd; rw [if_pos rfl]
      · rw [ri_c _ (by omega), ri_c _ (by omega), ri_c _ (by omega), hi i hi2]
        unfold rdOrd
        rw [if_neg (by omega), if_neg (by omega), if_pos (by omega), Nat.add_sub_cancel_left]
    · have o5 := ((wo o (by omega)).2.1.get (by omega)).2
      have ea : an (rdOrd D n g k) (58 + 6 * o + 1) = an D (58 + 6 * o + 1) := by unfold an; rw [rdOrd_o (by omega) (by omega)]
      rw [ea, if_neg z, if_neg z, rdOrd_o (by omega) (by omega), rdOrd_o (by omega) (by omega)]
      refine ⟨(s6 o (by omega)).1, (s6 o (by omega)).2.1, fun i hi2 => ?_⟩
      rw [ri_c _ (by omega), ri_c _ (by omega), ri_c _ (by omega), lo _ (by omega), rdOrd_o (by omega) (by omega)]
      exact (s6 o (by omega)).2.2 i hi2
  · rw [ri_c _ (by omega), ri_c _ (by omega), ri_c _ (by omega), f1.i _ (by omega), rdOrd_o (by omega) (by omega)]
    exact s7 a b' ha hb (by unfold an at hz ⊢; rw [rdOrd_o (by omega) (by omega)] at hz; exact hz)
  · rw [e.2.2.2] at hk
    rw [e.1, ri_c _ (by omega), ri_c _ (by omega), ri_c _ (by omega), ri_c _ (by omega), ri_c _ (by omega), ri_c _ (by omega), ri_c _ (by omega), ri_c _ (by omega), ri_c _ (by omega), f1.i _ (by omega), f1.i _ (by omega), f1.i _ (by omega)]
    exact s8 k hk
  · rw [mnA_o (D' := rdOrd D n g k) (fun j h1 h2 => rdOrd_o (by omega) (by omega)), e.2.2.2]
    have cc : ∀ x, x = s + 6 ∨ x = s + 7 ∨ x = s + 8 → (pm_setI (pm_setI (pm_setI h1 (s + 3) (an D 2) (nI n)) (s + 4) (an D 2) (nI k)) s 2 (nI (an D 2 + 1))).2.1 x = h.2.1 x := fun x hx => funext (fun j => by rw [ri_c _ (by omega), ri_c _ (by omega), ri_c _ (by omega), f1.i _ (by omega)])
    rw [cc _ (.inl rfl), cc _ (.inr (.inl rfl)), cc _ (.inr (.inr rfl))]
    exact s9
theorem CSh.mea (S : CSh h s D) (W : WR D) {a b c : Nat} (q : an D 3 < 10) (ha : a < an D 0) (hb : b < an D 0) (hc : c < an D 0) (hn : mnA D a b = none) : CSh (pm_setI (pm_setI (pm_setI (pm_setI (pm_setI h (s + 6) (an D 3) (nI a)) (s + 7) (an D 3) (nI b)) (s + 8) (an D 3) (nI c)) (s + 9) (a * 10 + b) (nI c)) s 3 (nI (an D 3 + 1))) s (rdMea D a b c) := by
  have e := rdMea_e (D := D) (a := a) (b := b) (c := c) q
  have c0 := W.c0
  have c1 := W.c1
  have c2 := W.c2
  obtain ⟨w0, w1, w2, w3, w4, w5, wm, wo, wt⟩ := W
  obtain ⟨s0, s1, s2, s3, s4, s5, s6, s7, s8, s9⟩ := S
  generalize hh : pm_setI (pm_setI (pm_setI (pm_setI (pm_setI h (s + 6) (an D 3) (nI a)) (s + 7) (an D 3) (nI b)) (s + 8) (an D 3) (nI c)) (s + 9) (a * 10 + b) (nI c)) s 3 (nI (an D 3 + 1)) = h'
  have ho : ∀ x, x ≠ s → x ≠ s + 6 → x ≠ s + 7 → x ≠ s + 8 → x ≠ s + 9 → h'.2.1 x = h.2.1 x := by
    intro x x0 x6 x7 x8 x9
    rw [← hh]
    funext j
    rw [ri_c _ x0, ri_c _ x9, ri_c _ x8, ri_c _ x7, ri_c _ x6]
  have hs : ∀ j, j ≠ 3 → h'.2.1 s j = h.2.1 s j := by
    intro j hj
    rw [← hh, ri_j _ hj, ri_c _ (by omega), ri_c _ (by omega), ri_c _ (by omega), ri_c _ (by omega)]
  have h3 : h'.2.1 s 3 = nI (an D 3 + 1) := by rw [← hh, ri_s]
  have h6 : ∀ j, h'.2.1 (s + 6) j = if j = an D 3 then nI a else h.2.1 (s + 6) j := by
    intro j
    rw [← hh, ri_c _ (by omega), ri_c _ (by omega), ri_c _ (by omega), ri_c _ (by omega)]
    by_cases z : j = an D 3
    · rw [if_pos z, z, ri_s]
    · rw [if_neg z, ri_j _ z]
  have h7 : ∀ j, h'.2.1 (s + 7) j = if j = an D 3 then nI b else h.2.1 (s + 7) j := by
    intro j
    rw [← hh, ri_c _ (by omega), ri_c _ (by omega), ri_c _ (by omega)]
    by_cases z : j = an D 3
    · rw [if_pos z, z, ri_s]
    · rw [if_neg z, ri_j _ z, ri_c _ (by omega)]
  have h8 : ∀ j, h'.2.1 (s + 8) j = if j = an D 3 then nI c else h.2.1 (s + 8) j := by
    intro j
    rw [← hh, ri_c _ (by omega), ri_c _ (by omega)]
    by_cases z : j = an D 3
    · rw [if_pos z, z, ri_s]
    · rw [if_neg z, ri_j _ z, ri_c _ (by omega), ri_c _ (by omega)]
  have h9 : ∀ j, h'.2.1 (s + 9) j = if j = a * 10 + b then nI c else h.2.1 (s + 9) j := by
    intro j
    rw [← hh, ri_c _ (by omega)]
    by_cases z : j = a * 10 + b
    · rw [if_pos z, z, ri_s]
    · rw [if_neg z, ri_j _ z, ri_c _ (by omega), ri_c _ (by omega), ri_c _ (by omega)]
  clear hh
  refine ⟨s0, ?_, ?_, ?_, ?_, fun m hm => ?_, fun o ho2 => ?_, fun x y hx hy _ => ?_, fun k hk => ?_, ?_⟩
  · rw [hs _ (by omega), rdMea_o (by omega) (by omega)]; exact s1
  · rw [hs _ (by omega), rdMea_o (by omega) (by omega)]; exact s2
  · rw [hs _ (by omega), rdMea_o (by omega) (by omega)]; exact s3
  · rw [h3]
    unfold rdMea
    rw [if_neg (by omega), if_pos rfl]
  · rw [e.2.1] at hm
    rw [ho _ (by omega) (by omega) (by omega) (by omega) (by omega), ho _ (by omega) (by omega) (by omega) (by omega) (by omega), rdMea_o (by omega) (by omega), rdMea_o (by omega) (by omega)]
    exact s5 m hm
  · rw [e.2.2.1] at ho2
    have o5 := ((wo o ho2).2.1.get (by omega)).2
    have ea : an (rdMea D a b c) (58 + 6 * o + 1) = an D (58 + 6 * o + 1) := by unfold an; rw [rdMea_o (by omega) (by omega)]
    rw [ea, ho _ (by omega) (by omega) (by omega) (by omega) (by omega), ho _ (by omega) (by omega) (by omega) (by omega) (by omega), rdMea_o (by omega) (by omega), rdMea_o (by omega) (by omega)]
    refine ⟨(s6 o ho2).1, (s6 o ho2).2.1, fun i hi => ?_⟩
    rw [ho _ (by omega) (by omega) (by omega) (by omega) (by omega), rdMea_o (by omega) (by omega)]
    exact (s6 o ho2).2.2 i hi
  · rw [h9]
    by_cases z : x * 10 + y = a * 10 + b
    · have z2 : 106 + 10 * x + y = 106 + 10 * a + b := by omega
      have : rdMea D a b c (106 + 10 * x + y) = nI c := by unfold rdMea; rw [if_pos z2]
      rw [if_pos z, this, if_neg (by rw [n_eq_ng (by omega) (by omega) (by omega)]; exact id)]
    · rw [if_neg z, rdMea_o (by omega) (by omega)]
      exact s7 x y hx hy (by omega)
  · rw [e.2.2.2] at hk
    rw [e.1, h6, h7, h8]
    by_cases z : k = an D 3
    · rw [if_pos z, if_pos z, if_pos z]
      exact ⟨isN_n ha, isN_n hb, isN_n hc⟩
    · rw [if_neg z, if_neg z, if_neg z]
      exact s8 k (by omega)
  · rw [e.2.2.2]
    have a6 : ∀ k, an (h'.2.1 (s + 6)) k = if k = an D 3 then a else an (h.2.1 (s + 6)) k := by
      intro k
      unfold an
      rw [h6]
      by_cases z : k = an D 3
      · have z' : k = (D 3).toNatClampNeg := z
        rw [if_pos z, if_pos z', nx_cl (by omega)]
      · have z' : ¬ k = (D 3).toNatClampNeg := z
        rw [if_neg z, if_neg z']
    have a7 : ∀ k, an (h'.2.1 (s + 7)) k = if k = an D 3 then b else an (h.2.1 (s + 7)) k := by
      intro k
      unfold an
      rw [h7]
      by_cases z : k = an D 3
      · have z' : k = (D 3).toNatClampNeg := z
        rw [if_pos z, if_pos z', nx_cl (by omega)]
      · have z' : ¬ k = (D 3).toNatClampNeg := z
        rw [if_neg z, if_neg z']
    have a8 : ∀ k, an (h'.2.1 (s + 8)) k = if k = an D 3 then c else an (h.2.1 (s + 8)) k := by
      intro k
      unfold an
      rw [h8]
      by_cases z : k = an D 3
      · have z' : k = (D 3).toNatClampNeg := z
        rw [if_pos z, if_pos z', nx_cl (by omega)]
      · have z' : ¬ k = (D 3).toNatClampNeg := z
        rw [if_neg z, if_neg z']
    have mn' : ∀ x y, mnA (rdMea D a b c) x y = if x = a ∧ y = b then some c else mnA D x y := by
      intro x y
      unfold mnA
      by_cases z : x = a ∧ y = b
      · obtain ⟨rfl, rfl⟩ := z
        have : rdMea D x y c (106 + 10 * x + y) = nI c := by unfold rdMea; rw [if_pos rfl]
        rw [if_pos (show x = x ∧ y = y from ⟨rfl, rfl⟩), if_pos ⟨by omega, by omega, by rw [this, nx_lt (by omega) (by omega)]; omega⟩, an_n this (by omega)]
      · rw [if_neg z]
        by_cases z2 : x < 10 ∧ y < 10
        · have : rdMea D a b c (106 + 10 * x + y) = D (106 + 10 * x + y) := rdMea_o (by omega) (by omega)
          unfold an
          rw [this]
        · rw [if_neg (fun z3 => z2 ⟨z3.1, z3.2.1⟩), if_neg (fun z3 => z2 ⟨z3.1, z3.2.1⟩)]
    intro x y z
    rw [mn']
    constructor
    · intro q1
      by_cases q2 : x = a ∧ y = b
      · rw [if_pos q2] at q1
        cases q1
        exact ⟨an D 3, by omega, by rw [a6, if_pos rfl]; exact q2.1.symm, by rw [a7, if_pos rfl]; exact q2.2.symm, by rw [a8, if_pos rfl]⟩
      · rw [if_neg q2] at q1
        obtain ⟨k, k1, k2, k3, k4⟩ := (s9 x y z).mp q1
        exact ⟨k, by omega, by rw [a6, if_neg (by omega)]; exact k2, by rw [a7, if_neg (by omega)]; exact k3, by rw [a8, if_neg (by omega)]; exact k4⟩
    · rintro ⟨k, k1, k2, k3, k4⟩
      rw [a6] at k2
      rw [a7] at k3
      rw [a8] at k4
      by_cases q2 : k = an D 3
      · rw [if_pos q2] at k2 k3 k4
        rw [if_pos ⟨k2.symm, k3.symm⟩, k4]
      · rw [if_neg q2] at k2 k3 k4
        have q3 := (s9 x y z).mpr ⟨k, by omega, k2, k3, k4⟩
        rw [if_neg]
        · exact q3
        · rintro ⟨rfl, rfl⟩
          rw [hn] at q3
          cases q3
end HU
