/-! The reference: all rows of so many men are marked. -/
def Ext (al n : Nat) (p : List Nat) (v : Nat) (q : List Nat) : Prop := p.length + q.length = n ∧ (p ++ q).Nodup ∧ (∀ m ∈ q, al.testBit m = true) ∧ ∀ m, q.head? = some m → v ≤ m
def EXS (h : pm_H) (P : Nat → Nat → Prop) : Prop := ∀ u, u < 512 → ∃ e, h.2.1 207 u = nI e ∧ e < 256 ∧ ∀ o, e.testBit o = true ↔ P u o
theorem EXS.iff {h : pm_H} {P Q : Nat → Nat → Prop} (E : EXS h P) (hPQ : ∀ u o, P u o ↔ Q u o) : EXS h Q := by
  intro u hu
  obtain ⟨e, a1, a2, a3⟩ := E u hu
  exact ⟨e, a1, a2, fun o => by rw [a3 o]; exact hPQ u o⟩
theorem EXS.fr {h h' : pm_H} {P : Nat → Nat → Prop} (E : EXS h P) (e : h'.2.1 207 = h.2.1 207) : EXS h' P := by
  unfold EXS at E ⊢
  rw [e]; exact E
def popSt (p : List Nat) (h : pm_H) : Int32 × Int32 × pm_H := if p = [] then (nI 0, ng 1, h) else (nI (setOf p.dropLast), nI (p.length - 1), h)
def MC (c : Nat) : Prop := c = 204 ∨ c = 205 ∨ c = 207
theorem setOf_snoc (p : List Nat) (m : Nat) : setOf (p ++ [m]) = setOf p ||| 2 ^ m := by
  apply Nat.eq_of_testBit_eq
  intro i
  rw [Nat.testBit_or, setOf_bit, setOf_bit, Nat.testBit_two_pow]
  by_cases e : m = i
  · subst e; simp
  · have : ¬ i = m := fun q => e q.symm
    simp [e, this]
theorem setOf_drop {p : List Nat} {m : Nat} (hn : (p ++ [m]).Nodup) : sd (setOf (p ++ [m])) (2 ^ m) = setOf p := by
  have hm : m ∉ p := by
    intro q
    have := List.nodup_append.mp hn
    exact this.2.2 m q m (by simp) rfl
  apply Nat.eq_of_testBit_eq
  intro i
  rw [sd_bit, setOf_bit, setOf_bit, Nat.testBit_two_pow]
  by_cases e : m = i
  · subst e; simp [hm]
  · have : ¬ i = m := fun q => e q.symm
    simp [e, this]
theorem snoc_of {p : List Nat} (h : p ≠ []) : ∃ p' m, p = p' ++ [m] := by
  rcases List.eq_nil_or_concat p with q | ⟨p', m, q⟩
  · exact (h q).elim
  · exact ⟨p', m, by rw [q, List.concat_eq_append]⟩
theorem getD_snoc (p : List Nat) (m : Nat) : (p ++ [m]).getD p.length 0 = m := by
  rw [List.getD_eq_getElem?_getD, List.getElem?_append_right (Nat.le_refl _)]
  simp
theorem getD_snoc_lt (p : List Nat) (m : Nat) {i : Nat} (hi : i < p.length) : (p ++ [m]).getD i 0 = p.getD i 0 := by
  rw [List.getD_eq_getElem?_getD, List.getElem?_append_left hi, ← List.getD_eq_getElem?_getD]
theorem setOf_512 {p : List Nat} {al : Nat} (hal : al < 512) (hp : ∀ m ∈ p, al.testBit m = true) : setOf p < 512 ∧ ∀ m ∈ p, m < 9 := by
  have h9 : ∀ m ∈ p, m < 9 := by
    intro m hm
    have h1 := hp m hm
    rcases Nat.lt_or_ge m 9 with q | q
    · exact q
    · rw [Nat.testBit_lt_two_pow (Nat.lt_of_lt_of_le hal (Nat.pow_le_pow_right (n := 2) (by decide) q : 2 ^ 9 ≤ 2 ^ m))] at h1
      cases h1
  exact ⟨setOf_lt h9, h9⟩
/-- Ext by its first man -/
theorem Ext_split {al n v m : Nat} {p q : List Nat} (hp : p.length < n) (hv : v ≤ m) (hm : al.testBit m = true) (hmp : m ∉ p) (hno : ∀ j, v ≤ j → j < m → ¬ (al.testBit j = true ∧ j ∉ p)) : Ext al n p v q ↔ (∃ q', q = m :: q' ∧ Ext al n (p ++ [m]) 0 q') ∨ Ext al n p (m + 1) q := by
  constructor
  · rintro ⟨h1, h2, h3, h4⟩
    cases q with
    | nil => rw [List.length_nil] at h1; omega
    | cons x q' =>
      have hx := h4 x rfl
      by_cases e : x = m
      · subst e
        refine .inl ⟨q', rfl, ?_, ?_, fun y hy => h3 y (List.mem_cons_of_mem _ hy), fun y _ => Nat.zero_le _⟩
        · rw [List.length_append]; rw [List.length_cons] at h1; simp; omega
        · rw [List.append_assoc]; exact h2
      · refine .inr ⟨h1, h2, h3, fun y hy => ?_⟩
        cases hy
        apply Classical.byContradiction
        intro hlt
        refine hno x hx (by omega) ⟨h3 x List.mem_cons_self, fun q => ?_⟩
        exact (List.nodup_append.mp h2).2.2 x q x List.mem_cons_self rfl
  · rintro (⟨q', rfl, h1, h2, h3, _⟩ | ⟨h1, h2, h3, h4⟩)
    · refine ⟨?_, ?_, ?_, ?_⟩
      · rw [List.length_append] at h1; rw [List.length_cons]; simp at h1; omega
      · rw [List.append_assoc] at h2; exact h2
      · intro y hy
        rcases List.mem_cons.mp hy with rfl | hy
        · exact hm
        · exact h3 y hy
      · intro y hy; cases hy; exact hv
    · exact ⟨h1, h2, h3, fun y hy => by have := h4 y hy; omega⟩
section MK
variable {A mw : Nat → Int32} {al n : Nat} {wf : Nat → Nat}
/-- going back by one man -/
theorem mk_pop {h : pm_H} (R : RF h) (hal : al < 512) (hn5 : n ≤ 5) {p : List Nat} (hpn : p.length ≤ n) (hnd : p.Nodup) (hp : ∀ m ∈ p, al.testBit m = true) (hr : MROW h p) : m_marksRows_79 193 (nI al) (nI n) (nI (setOf p)) (nI p.length) (nI 11) h = some (.inl (popSt p h)) := by
  have hs := setOf_512 hal hp
  unfold m_marksRows_79 popSt
  simp (disch := omega) only [kc_im8, kc_im1, kc_i0, kc_i1, kc_i2, kc_i3, kc_i4, kc_i5, kc_b_m100, kc_b_m16, kc_b_m15, kc_b_m14, kc_b_m13, kc_b_m12, kc_b_m11, kc_b_m2, kc_b_6, kc_b_7, kc_b_8, kc_b_9, kc_b_10, kc_b_11, kc_b_12, kc_b_13, kc_b_14, kc_b_15, kc_b_16, kc_b_20, kc_b_24, kc_b_32, kc_b_37, kc_b_40, kc_b_42, kc_b_43, kc_b_45, kc_b_47, kc_b_48, kc_b_57, kc_b_58, kc_b_59, kc_b_60, kc_b_61, kc_b_62, kc_b_63, kc_b_91, kc_b_93, kc_b_97, kc_b_99, kc_b_100, kc_b_106, kc_b_122, kc_s_206, kc_s_226, kc_s_227, kc_s_255, kc_s_256, kc_s_316, kc_s_318, kc_s_400, kc_s_512, kc_s_999, kc_s_1160, kc_s_1536, kc_s_3003, kc_lm11, kc_lm10, kc_lm9, kc_lm8, kc_lm7, kc_lm6, kc_lm5, kc_lm4, kc_lm3, kc_lm2, kc_lm1, kc_l1, kc_l2, kc_l3, kc_l4, kc_l5, kc_l6, kc_l7, kc_l8, kc_l9, kc_l10, kc_l11, kc_l12, kc_l13, kc_l14, kc_l37, kc_l42, kc_l43, kc_l45, kc_l47, kc_l60, kc_l61, kc_l62, kc_l316, kc_l318, kc_l65536, kc_l99999, kc_l1000000, kc_l252645135, kc_l858993459, kc_l1431655765, kc_0, kc_on]
  rw [if_neg (by simp)]
  by_cases e : p = []
  · subst e
    rw [if_pos (by decide), if_pos rfl]
    rfl
  · obtain ⟨p', m, rfl⟩ := snoc_of e
    have hl : (p' ++ [m]).length = p'.length + 1 := by simp
    have hm := hs.2 m (by simp)
    rw [hl, nx_dec (by omega) (by omega), Nat.add_sub_cancel, if_neg (by rw [nx_lt (by omega) (by omega)]; omega), if_neg e]
    rw [ra_193_24 R, Option.bind_some, mn_205, gi_n (by omega), if_pos (by simp; omega), nx_cl (by omega), hr p'.length (by omega), getD_snoc, nx_shl1 (by omega), nx_andn, setOf_drop hnd, List.dropLast_concat]
theorem mk_lv (w : WFA A) (hal : al < 512) (hn1 : 1 ≤ n) (hn5 : n ≤ 5) (hw : ∀ m, al.testBit m = true → WM A mw m = nI (wf m) ∧ wf m < 10) : ∀ d, ∀ p : List Nat, p.length + d = n → p.Nodup → (∀ m ∈ p, al.testBit m = true) → ∀ e v, v + e = 11 → ∀ h, RF h → h.2.1 203 = A → h.2.1 206 = mw → MROW h p → (p.length < n → h.2.1 205 p.length + nI 1 = nI v) → ∀ P, EXS h P → ∃ h', wh (fun s : (Int32 × Int32 × pm_H) => m_marksRows_12 193 (nI al) (nI n) s.1 s.2.1 s.2.2) (nI (setOf p), nI p.length, h) = wh (fun s : (Int32 × Int32 × pm_H) => m_marksRows_12 193 (nI al) (nI n) s.1 s.2.1 s.2.2) (popSt p h') ∧ FrM MC (· = 23) h h' ∧ MROW h' p ∧ EXS h' (fun u o => P u o ∨ ∃ q, Ext al n p v q ∧ setOf (p ++ q) = u ∧ syA A ((p ++ q).map wf) = some o) := by
  intro d
  induction d with
  | zero =>
    intro p hpl hnd hp e v hve h R hA hmw hr _ P E
    have hpn : p.length = n := by omega
    have hs := setOf_512 hal hp
    have hw' : ∀ m ∈ p, m < 11 ∧ WM A (h.2.1 206) m = nI (wf m) ∧ wf m < 10 := fun m hm => ⟨by have := hs.2 m hm; omega, by rw [hmw]; exact (hw m (hp m hm)).1, (hw m (hp m hm)).2⟩
    obtain ⟨⟨x, h1⟩, g1, g2, f1⟩ := m_says w R hA hr (by omega) hw'
    dsimp only at g2 f1
    subst g2
    have R1 := R.fm f1
    have E1 : EXS h1 P := E.fr (f1.i (by omega) (by omega))
    have hr1 : MROW h1 p := fun i hi => by rw [f1.i (by omega) (by omega)]; exact hr i hi
    obtain ⟨e0, a1, a2, a3⟩ := E1 (setOf p) hs.1
    have hov : ∀ o, syA A (p.map wf) = some o → o < 8 := by
      intro o ho
      have := (ordOf_some.mp ho).1
      have := w.e2
      omega
    have fin : ∀ z, z < 256 → (∀ o, z.testBit o = true ↔ syA A (p.map wf) = some o) → ∃ h', m_marksRows_77 193 (nI al) (nI n) (nI (setOf p)) (nI p.length) (nI 11) (nI z) (nI e0) (nI (setOf p)) 207 h1 = some (.inl (popSt p h')) ∧ FrM MC (· = 23) h h' ∧ MROW h' p ∧ EXS h' (fun u o => P u o ∨ ∃ q, Ext al n p v q ∧ setOf (p ++ q) = u ∧ syA A ((p ++ q).map wf) = some o) := by
      intro z hz hzb
      have hr2 : MROW (pm_setI h1 207 (setOf p) (nI (e0 ||| z))) p := fun i hi => by rw [ri_c _ (by omega)]; exact hr1 i hi
      refine ⟨pm_setI h1 207 (setOf p) (nI (e0 ||| z)), ?_, (f1.mono (fun c hc => .inl hc) (fun _ q => q)).setI (by omega) (.inr (.inr rfl)), hr2, fun u hu => ?_⟩
      · unfold m_marksRows_77
        rw [mn_207, gi_n (by omega), if_pos (by simpa using hs.1), nx_cl (by omega), nx_or2, bd]
        exact mk_pop R1.setI hal hn5 (by omega) hnd hp hr2
      · have hext : ∀ o, (∃ q, Ext al n p v q ∧ setOf (p ++ q) = u ∧ syA A ((p ++ q).map wf) = some o) ↔ (setOf p = u ∧ syA A (p.map wf) = some o) := by
          intro o
          constructor
          · rintro ⟨q, ⟨q1, _⟩, q2, q3⟩
            have : q = [] := List.eq_nil_of_length_eq_zero (by omega)
            subst this
            rw [List.append_nil] at q2 q3
            exact ⟨q2, q3⟩
          · rintro ⟨q2, q3⟩
            exact ⟨[], ⟨by simpa using hpn, by simpa using hnd, by simp, by simp⟩, by simpa using q2, by simpa using q3⟩
        by_cases eu : u = setOf p
        · subst eu
          refine ⟨e0 ||| z, ri_s _, Nat.or_lt_two_pow (n := 8) a2 hz, fun o => ?_⟩
          dsimp only
          rw [Nat.testBit_or, Bool.or_eq_true, a3 o, hzb o, hext o]
          simp
        · obtain ⟨e', b1, b2, b3⟩ := E1 u hu
          refine ⟨e', by rw [ri_j _ eu]; exact b1, b2, fun o => ?_⟩
          dsimp only
          rw [b3 o, hext o]
          constructor
          · exact .inl
          · rintro (q | ⟨q, _⟩)
            · exact q
            · exact (eu q.symm).elim
    have step : ∃ h', m_marksRows_12 193 (nI al) (nI n) (nI (setOf p)) (nI p.length) h = some (.inl (popSt p h')) ∧ FrM MC (· = 23) h h' ∧ MROW h' p ∧ EXS h' (fun u o => P u o ∨ ∃ q, Ext al n p v q ∧ setOf (p ++ q) = u ∧ syA A ((p ++ q).map wf) = some o) := by
      unfold m_marksRows_12 m_marksRows_42
      rw [← hpn, g1]
      simp (disch := omega) only [kc_im8, kc_im1, kc_i0, kc_i1, kc_i2, kc_i3, kc_i4, kc_i5, kc_b_m100, kc_b_m16, kc_b_m15, kc_b_m14, kc_b_m13, kc_b_m12, kc_b_m11, kc_b_m2, kc_b_6, kc_b_7, kc_b_8, kc_b_9, kc_b_10, kc_b_11, kc_b_12, kc_b_13, kc_b_14, kc_b_15, kc_b_16, kc_b_20, kc_b_24, kc_b_32, kc_b_37, kc_b_40, kc_b_42, kc_b_43, kc_b_45, kc_b_47, kc_b_48, kc_b_57, kc_b_58, kc_b_59, kc_b_60, kc_b_61, kc_b_62, kc_b_63, kc_b_91, kc_b_93, kc_b_97, kc_b_99, kc_b_100, kc_b_106, kc_b_122, kc_s_206, kc_s_226, kc_s_227, kc_s_255, kc_s_256, kc_s_316, kc_s_318, kc_s_400, kc_s_512, kc_s_999, kc_s_1160, kc_s_1536, kc_s_3003, kc_lm11, kc_lm10, kc_lm9, kc_lm8, kc_lm7, kc_lm6, kc_lm5, kc_lm4, kc_lm3, kc_lm2, kc_lm1, kc_l1, kc_l2, kc_l3, kc_l4, kc_l5, kc_l6, kc_l7, kc_l8, kc_l9, kc_l10, kc_l11, kc_l12, kc_l13, kc_l14, kc_l37, kc_l42, kc_l43, kc_l45, kc_l47, kc_l60, kc_l61, kc_l62, kc_l316, kc_l318, kc_l65536, kc_l99999, kc_l1000000, kc_l252645135, kc_l858993459, kc_l1431655765, kc_0, kc_on, nx_lt, nx_le, nx_eq, nx_add, nx_sub, nx_mul, nx_cl, n_lt_ng, n_le_ng, n_eq_ng, ng_lt_n, ng_le_n, ng_eq_n, ng_eq, ng_lt, ng_le, nx_dec, Option.bind_some, ra_193_26 R1, mn_207, gi_n, a1]
      rw [if_neg (by omega), if_neg (by simp), if_neg (by simp), if_pos (by simpa using hs.1), hpn]
      cases ho : syA A (p.map wf) with
      | none =>
        obtain ⟨h', b1, b2⟩ := fin 0 (by omega) (fun o => by rw [ho]; simp)
        refine ⟨h', ?_, b2⟩
        rw [if_neg (by show ¬ nI 0 ≤ ng 1; rw [n_le_ng (by omega) (by omega) (by omega)]; exact id), ← hpn] 
        rw [← hpn] at b1
        exact b1
      | some o =>
        have ho8 := hov o ho
        have h2o : 2 ^ o < 2 ^ 8 := Nat.pow_lt_pow_right (by decide) ho8
        obtain ⟨h', b1, b2⟩ := fin (2 ^ o) h2o (fun o' => by rw [ho, Nat.testBit_two_pow]; simp)
        refine ⟨h', ?_, b2⟩
        rw [if_pos (by show nI 0 ≤ nI o; rw [nx_le (by omega) (by omega)]; omega)]
        show m_marksRows_77 193 (nI al) (nI n) (nI (setOf p)) (nI n) (nI 11) (nI 1 <<< (nI o &&& 31)) (nI e0) (nI (setOf p)) 207 h1 = _
        rw [nx_shl1 (by omega), ← hpn]
        rw [← hpn] at b1
        exact b1
    obtain ⟨h', b1, b2⟩ := step
    exact ⟨h', wh_inl b1, b2⟩
  | succ d ihd =>
    intro p hpl hnd hp e
    induction e using Nat.strongRecOn with
    | ind e ihe =>
      intro v hve h R hA hmw hr hrow P E
      have hlt : p.length < n := by omega
      have hs := setOf_512 hal hp
      obtain ⟨m, g1, g2, g3, g4, g5⟩ := m_nextOf_n h (a := al) (u := setOf p) (v := v) (by omega) (by omega) (by omega)
      have hstep0 : m_marksRows_12 193 (nI al) (nI n) (nI (setOf p)) (nI p.length) h = m_marksRows_79 193 (nI al) (nI n) (nI (setOf p)) (nI p.length) (nI m) h := by
        unfold m_marksRows_12 m_marksRows_42
        simp (disch := omega) only [kc_im8, kc_im1, kc_i0, kc_i1, kc_i2, kc_i3, kc_i4, kc_i5, kc_b_m100, kc_b_m16, kc_b_m15, kc_b_m14, kc_b_m13, kc_b_m12, kc_b_m11, kc_b_m2, kc_b_6, kc_b_7, kc_b_8, kc_b_9, kc_b_10, kc_b_11, kc_b_12, kc_b_13, kc_b_14, kc_b_15, kc_b_16, kc_b_20, kc_b_24, kc_b_32, kc_b_37, kc_b_40, kc_b_42, kc_b_43, kc_b_45, kc_b_47, kc_b_48, kc_b_57, kc_b_58, kc_b_59, kc_b_60, kc_b_61, kc_b_62, kc_b_63, kc_b_91, kc_b_93, kc_b_97, kc_b_99, kc_b_100, kc_b_106, kc_b_122, kc_s_206, kc_s_226, kc_s_227, kc_s_255, kc_s_256, kc_s_316, kc_s_318, kc_s_400, kc_s_512, kc_s_999, kc_s_1160, kc_s_1536, kc_s_3003, kc_lm11, kc_lm10, kc_lm9, kc_lm8, kc_lm7, kc_lm6, kc_lm5, kc_lm4, kc_lm3, kc_lm2, kc_lm1, kc_l1, kc_l2, kc_l3, kc_l4, kc_l5, kc_l6, kc_l7, kc_l8, kc_l9, kc_l10, kc_l11, kc_l12, kc_l13, kc_l14, kc_l37, kc_l42, kc_l43, kc_l45, kc_l47, kc_l60, kc_l61, kc_l62, kc_l316, kc_l318, kc_l65536, kc_l99999, kc_l1000000, kc_l252645135, kc_l858993459, kc_l1431655765, kc_0, kc_on, nx_lt, nx_le, nx_eq, nx_add, nx_sub, nx_mul, nx_cl, n_lt_ng, n_le_ng, n_eq_ng, ng_lt_n, ng_le_n, ng_eq_n, ng_eq, ng_lt, ng_le, nx_dec, ra_193_24 R, Option.bind_some, mn_205, gi_n, hrow hlt]
        rw [if_neg (by omega), if_pos (by omega), if_pos (by simp; omega), g1, Option.bind_some, if_pos (by omega)]
      by_cases hm : m = 11
      · subst hm
        refine ⟨h, wh_inl (by rw [hstep0]; exact mk_pop R hal hn5 (by omega) hnd hp hr), FrM.refl _ _ _, hr, E.iff (fun u o => ?_)⟩
        constructor
        · exact .inl
        · rintro (q | ⟨q, ⟨q1, q2, q3, q4⟩, _⟩)
          · exact q
          · exfalso
            cases q with
            | nil => rw [List.length_nil] at q1; omega
            | cons x q' =>
              have hx := q3 x List.mem_cons_self
              have hx9 := (setOf_512 (p := [x]) hal (by simpa using hx)).2 x (by simp)
              refine g5 x (q4 x rfl) (by omega) ⟨hx, ?_⟩
              rw [setOf_bit]
              exact decide_eq_false (fun z => (List.nodup_append.mp q2).2.2 x z x List.mem_cons_self rfl)
      · have hm11 : m < 11 := by omega
        obtain ⟨b1, b2⟩ := g4 hm11
        have hmp : m ∉ p := by
          intro z
          rw [setOf_bit, decide_eq_true z] at b2
          cases b2
        have hl1 : (p ++ [m]).length = p.length + 1 := by simp
        have hnd1 : (p ++ [m]).Nodup := List.nodup_append.mpr ⟨hnd, by simp, fun a ha b hb => by rw [List.mem_singleton.mp hb]; exact fun z => hmp (z ▸ ha)⟩
        have hp1 : ∀ x ∈ p ++ [m], al.testBit x = true := by
          intro x hx
          rcases List.mem_append.mp hx with q | q
          · exact hp x q
          · rw [List.mem_singleton.mp q]; exact b1
        have step : ∃ h1, m_marksRows_79 193 (nI al) (nI n) (nI (setOf p)) (nI p.length) (nI m) h = some (.inl (nI (setOf (p ++ [m])), nI (p ++ [m]).length, h1)) ∧ FrM MC (· = 23) h h1 ∧ h1.2.1 207 = h.2.1 207 ∧ MROW h1 (p ++ [m]) ∧ ((p ++ [m]).length < n → h1.2.1 205 (p ++ [m]).length + nI 1 = nI 0) := by
          unfold m_marksRows_79
          simp (disch := omega) only [kc_im8, kc_im1, kc_i0, kc_i1, kc_i2, kc_i3, kc_i4, kc_i5, kc_b_m100, kc_b_m16, kc_b_m15, kc_b_m14, kc_b_m13, kc_b_m12, kc_b_m11, kc_b_m2, kc_b_6, kc_b_7, kc_b_8, kc_b_9, kc_b_10, kc_b_11, kc_b_12, kc_b_13, kc_b_14, kc_b_15, kc_b_16, kc_b_20, kc_b_24, kc_b_32, kc_b_37, kc_b_40, kc_b_42, kc_b_43, kc_b_45, kc_b_47, kc_b_48, kc_b_57, kc_b_58, kc_b_59, kc_b_60, kc_b_61, kc_b_62, kc_b_63, kc_b_91, kc_b_93, kc_b_97, kc_b_99, kc_b_100, kc_b_106, kc_b_122, kc_s_206, kc_s_226, kc_s_227, kc_s_255, kc_s_256, kc_s_316, kc_s_318, kc_s_400, kc_s_512, kc_s_999, kc_s_1160, kc_s_1536, kc_s_3003, kc_lm11, kc_lm10, kc_lm9, kc_lm8, kc_lm7, kc_lm6, kc_lm5, kc_lm4, kc_lm3, kc_lm2, kc_lm1, kc_l1, kc_l2, kc_l3, kc_l4, kc_l5, kc_l6, kc_l7, kc_l8, kc_l9, kc_l10, kc_l11, kc_l12, kc_l13, kc_l14, kc_l37, kc_l42, kc_l43, kc_l45, kc_l47, kc_l60, kc_l61, kc_l62, kc_l316, kc_l318, kc_l65536, kc_l99999, kc_l1000000, kc_l252645135, kc_l858993459, kc_l1431655765, kc_0, kc_on, nx_lt, nx_le, nx_eq, nx_add, nx_sub, nx_mul, nx_cl, n_lt_ng, n_le_ng, n_eq_ng, ng_lt_n, ng_le_n, ng_eq_n, ng_eq, ng_lt, ng_le, nx_dec, ra_193_24 R, Option.bind_some, mn_205, gi_n, nx_shl1, nx_or2, bd]
          rw [if_pos hm, if_pos (by simp; omega), ← setOf_snoc, ← hl1]
          have r1 : MROW (pm_setI h 205 p.length (nI m)) (p ++ [m]) := by
            intro i hi
            by_cases ei : i = p.length
            · subst ei; rw [ri_s, getD_snoc]
            · rw [ri_j _ ei, getD_snoc_lt _ _ (by omega)]; exact hr i (by omega)
          have f1 : FrM MC (· = 23) h (pm_setI h 205 p.length (nI m)) := (FrM.refl _ _ _).setI (by omega) (.inr (.inl rfl))
          by_cases hn2 : n ≤ (p ++ [m]).length
          · rw [if_pos hn2]
            exact ⟨_, rfl, f1, by funext j; exact ri_c _ (by omega), r1, fun q => by omega⟩
          · rw [if_neg hn2, ra_193_24 R.setI, Option.bind_some, mn_205, if_pos (by simp; omega)]
            refine ⟨_, rfl, f1.setI (by omega) (.inr (.inl rfl)), ?_, fun i hi => ?_, fun _ => ?_⟩
            · funext j; rw [ri_c _ (by omega), ri_c _ (by omega)]
            · rw [ri_j _ (by omega)]; exact r1 i hi
            · rw [ri_s]; rfl
        obtain ⟨h1, s1, f1, e1, r1, w1⟩ := step
        have R1 := R.fm f1
        obtain ⟨h2, s2, f2, r2, E2⟩ := ihd (p ++ [m]) (by omega) hnd1 hp1 11 0 rfl h1 R1 (by rw [f1.i (by omega) (by unfold MC; omega)]; exact hA) (by rw [f1.i (by omega) (by unfold MC; omega)]; exact hmw) r1 w1 P (E.fr e1)
        have f12 := f1.trans f2
        have hpop : popSt (p ++ [m]) h2 = (nI (setOf p), nI p.length, h2) := by
          unfold popSt
          rw [if_neg (by simp), List.dropLast_concat, hl1, Nat.add_sub_cancel]
        rw [hpop] at s2
        have r2' : MROW h2 p := fun i hi => by rw [r2 i (by omega), getD_snoc_lt _ _ hi]
        obtain ⟨h3, s3, f3, r3, E3⟩ := ihe (11 - (m + 1)) (by omega) (m + 1) (by omega) h2 (R.fm f12) (by rw [f12.i (by omega) (by unfold MC; omega)]; exact hA) (by rw [f12.i (by omega) (by unfold MC; omega)]; exact hmw) r2' (fun _ => by rw [r2 p.length (by omega), getD_snoc, nx_add]) _ E2
        refine ⟨h3, ?_, f12.trans f3, r3, E3.iff (fun u o => ?_)⟩
        · rw [wh_inl (by dsimp only; rw [hstep0]; exact s1), s2, s3]
        · have hsp := fun q => Ext_split (al := al) (n := n) (v := v) (m := m) (p := p) (q := q) hlt g2 b1 hmp (fun j hj1 hj2 hj3 => g5 j hj1 hj2 ⟨hj3.1, by rw [setOf_bit]; exact decide_eq_false hj3.2⟩)
          constructor
          · rintro ((q | ⟨q, q1, q2, q3⟩) | ⟨q, q1, q2, q3⟩)
            · exact .inl q
            · exact .inr ⟨m :: q, (hsp _).mpr (.inl ⟨q, rfl, q1⟩), by rw [← q2, List.append_assoc]; rfl, by rw [← q3, List.append_assoc]; rfl⟩
            · exact .inr ⟨q, (hsp _).mpr (.inr q1), q2, q3⟩
          · rintro (q | ⟨q, q1, q2, q3⟩)
            · exact .inl (.inl q)
            · rcases (hsp q).mp q1 with ⟨q', rfl, z⟩ | z
              · exact .inl (.inr ⟨q', z, by rw [← q2, List.append_assoc]; rfl, by rw [← q3, List.append_assoc]; rfl⟩)
              · exact .inr ⟨q, z, q2, q3⟩
/-- all rows of n men of a set -/
theorem mk_all (w : WFA A) (hal : al < 512) (hn1 : 1 ≤ n) (hn5 : n ≤ 5) (hw : ∀ m, al.testBit m = true → WM A mw m = nI (wf m) ∧ wf m < 10) {h : pm_H} (R : RF h) (hA : h.2.1 203 = A) (hmw : h.2.1 206 = mw) {P : Nat → Nat → Prop} (E : EXS h P) : SP (m_marksRows 193 (nI al) (nI n) h) (fun h' => FrM MC (· = 23) h h' ∧ EXS h' (fun u o => P u o ∨ ∃ q : List Nat, q.length = n ∧ q.Nodup ∧ (∀ m ∈ q, al.testBit m = true) ∧ setOf q = u ∧ syA A (q.map wf) = some o)) := by
  unfold m_marksRows
  simp (disch := omega) only [kc_im8, kc_im1, kc_i0, kc_i1, kc_i2, kc_i3, kc_i4, kc_i5, kc_b_m100, kc_b_m16, kc_b_m15, kc_b_m14, kc_b_m13, kc_b_m12, kc_b_m11, kc_b_m2, kc_b_6, kc_b_7, kc_b_8, kc_b_9, kc_b_10, kc_b_11, kc_b_12, kc_b_13, kc_b_14, kc_b_15, kc_b_16, kc_b_20, kc_b_24, kc_b_32, kc_b_37, kc_b_40, kc_b_42, kc_b_43, kc_b_45, kc_b_47, kc_b_48, kc_b_57, kc_b_58, kc_b_59, kc_b_60, kc_b_61, kc_b_62, kc_b_63, kc_b_91, kc_b_93, kc_b_97, kc_b_99, kc_b_100, kc_b_106, kc_b_122, kc_s_206, kc_s_226, kc_s_227, kc_s_255, kc_s_256, kc_s_316, kc_s_318, kc_s_400, kc_s_512, kc_s_999, kc_s_1160, kc_s_1536, kc_s_3003, kc_lm11, kc_lm10, kc_lm9, kc_lm8, kc_lm7, kc_lm6, kc_lm5, kc_lm4, kc_lm3, kc_lm2, kc_lm1, kc_l1, kc_l2, kc_l3, kc_l4, kc_l5, kc_l6, kc_l7, kc_l8, kc_l9, kc_l10, kc_l11, kc_l12, kc_l13, kc_l14, kc_l37, kc_l42, kc_l43, kc_l45, kc_l47, kc_l60, kc_l61, kc_l62, kc_l316, kc_l318, kc_l65536, kc_l99999, kc_l1000000, kc_l252645135, kc_l858993459, kc_l1431655765, kc_0, kc_on, ra_193_24 R, Option.bind_some, mn_205, gi_n, nx_cl]
  refine sp_pos (by simp) ?_
  rw [sp_bd]
  have f0 : FrM MC (· = 23) h (pm_setI h 205 0 (ng 1)) := (FrM.refl _ _ _).setI (by omega) (.inr (.inl rfl))
  obtain ⟨h1, s1, f1, r1, E1⟩ := mk_lv (n := n) (wf := wf) (mw := mw) w hal hn1 hn5 hw n [] (by simp) List.nodup_nil (by simp) 11 0 rfl (pm_setI h 205 0 (ng 1)) R.setI (by rw [f0.i (by omega) (by unfold MC; omega)]; exact hA) (by rw [f0.i (by omega) (by unfold MC; omega)]; exact hmw) (fun i hi => by simp at hi) (fun _ => by rw [List.length_nil, ri_s]; rfl) P (E.fr (by funext j; exact ri_c _ (by omega)))
  have e0 : (nI (setOf []), nI ([] : List Nat).length, pm_setI h 205 0 (ng 1)) = (nI 0, nI 0, pm_setI h 205 0 (ng 1)) := rfl
  rw [e0] at s1
  have s2 : wh (fun s : (Int32 × Int32 × pm_H) => m_marksRows_12 193 (nI al) (nI n) s.1 s.2.1 s.2.2) (popSt [] h1) = some h1 := by
    refine wh_inr ?_
    unfold popSt m_marksRows_12
    rw [if_pos rfl]
    dsimp only
    rw [if_pos (by decide)]
  rw [s1, s2, Option.bind_some, sp_some]
  refine ⟨f0.trans f1, E1.iff (fun u o => ?_)⟩
  simp only [List.nil_append]
  constructor
  · rintro (q | ⟨q, ⟨q1, q2, q3, _⟩, q4⟩)
    · exact .inl q
    · exact .inr ⟨q, by simpa using q1, by simpa using q2, q3, q4⟩
  · rintro (q | ⟨q, q1, q2, q3, q4⟩)
    · exact .inl q
    · exact .inr ⟨q, ⟨by simpa using q1, by simpa using q2, q3, fun _ _ => Nat.zero_le _⟩, q4⟩
end MK
