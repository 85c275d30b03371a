/-! The reference: the first row of so many men that says an order. -/
def lxle : List Nat → List Nat → Prop
  | [], _ => True
  | _ :: _, [] => False
  | a :: s, b :: t => a < b ∨ (a = b ∧ lxle s t)
theorem lxle_refl : ∀ l, lxle l l
  | [] => trivial
  | _ :: l => .inr ⟨rfl, lxle_refl l⟩
/-- a row that counts -/
def VR (A : Nat → Int32) (wf : Nat → Nat) (must o : Nat) (r : List Nat) : Prop := sub must (setOf r) ∧ syA A (r.map wf) = some o
def FC (c : Nat) : Prop := c = 204 ∨ c = 205
theorem pc_sub {S : Nat} {q : List Nat} (h : sub S (setOf q)) : pc S ≤ q.length := by
  unfold pc
  refine (elems_nodup S 32).length_le_of_subset (fun x hx => ?_)
  have := h x (elems_mem.mp hx).2
  exact mem_setOf.mpr this
theorem pc_0 {S : Nat} (hS : S < 2 ^ 32) (h : pc S = 0) : S = 0 := by
  unfold pc at h
  apply Nat.eq_of_testBit_eq
  intro i
  rw [Nat.zero_testBit]
  cases hb : S.testBit i with
  | false => rfl
  | true =>
    have hi : i < 32 := by
      rcases Nat.lt_or_ge i 32 with q | q
      · exact q
      · rw [Nat.testBit_lt_two_pow (Nat.lt_of_lt_of_le hS (Nat.pow_le_pow_right (by decide) q))] at hb
        cases hb
    have : i ∈ elems S 32 := elems_mem.mpr ⟨hi, hb⟩
    rw [List.eq_nil_of_length_eq_zero h] at this
    cases this
theorem sd_snoc (must : Nat) (p : List Nat) (m : Nat) : sd (sd must (setOf p)) (2 ^ m) = sd must (setOf (p ++ [m])) := by
  apply Nat.eq_of_testBit_eq
  intro i
  rw [sd_bit, sd_bit, sd_bit, setOf_snoc, Nat.testBit_or]
  cases must.testBit i <;> cases (setOf p).testBit i <;> simp
theorem setOf_2048 {p : List Nat} {al : Nat} (hal : al < 2048) (hp : ∀ m ∈ p, al.testBit m = true) : setOf p < 2048 ∧ ∀ m ∈ p, m < 11 := by
  have h9 : ∀ m ∈ p, m < 11 := by
    intro m hm
    have h1 := hp m hm
    rcases Nat.lt_or_ge m 11 with q | q
    · exact q
    · rw [Nat.testBit_lt_two_pow (Nat.lt_of_lt_of_le hal (Nat.pow_le_pow_right (n := 2) (by decide) q : 2 ^ 11 ≤ 2 ^ m))] at h1
      cases h1
  exact ⟨setOf_lt h9, h9⟩
section FR
variable {A mw : Nat → Int32} {al n must o : Nat} {wf : Nat → Nat}
theorem fr_pop {h : pm_H} (R : RF h) (hal : al < 2048) (hn5 : n ≤ 5) {p : List Nat} (hpn : p.length ≤ n) (hnd : p.Nodup) (hp : ∀ m ∈ p, al.testBit m = true) (hr : MROW h p) : m_findsRow_66 193 (nI al) (nI must) (nI o) (nI n) (nI (setOf p)) (nI p.length) (nI 11) h = some (.inl (popSt p h)) := by
  have hs := setOf_2048 hal hp
  unfold m_findsRow_66 popSt
  simp (disch := omega) only [kc_im8, kc_im1, kc_i0, kc_i1, kc_i2, kc_i3, kc_i4, kc_i5, kc_b_m100, kc_b_m16, kc_b_m15, kc_b_m14, kc_b_m13, kc_b_m12, kc_b_m11, kc_b_m2, kc_b_6, kc_b_7, kc_b_8, kc_b_9, kc_b_10, kc_b_11, kc_b_12, kc_b_13, kc_b_14, kc_b_15, kc_b_16, kc_b_20, kc_b_24, kc_b_32, kc_b_37, kc_b_40, kc_b_42, kc_b_43, kc_b_45, kc_b_47, kc_b_48, kc_b_57, kc_b_58, kc_b_59, kc_b_60, kc_b_61, kc_b_62, kc_b_63, kc_b_91, kc_b_93, kc_b_97, kc_b_99, kc_b_100, kc_b_106, kc_b_122, kc_s_206, kc_s_226, kc_s_227, kc_s_255, kc_s_256, kc_s_316, kc_s_318, kc_s_400, kc_s_512, kc_s_999, kc_s_1160, kc_s_1536, kc_s_3003, kc_lm11, kc_lm10, kc_lm9, kc_lm8, kc_lm7, kc_lm6, kc_lm5, kc_lm4, kc_lm3, kc_lm2, kc_lm1, kc_l1, kc_l2, kc_l3, kc_l4, kc_l5, kc_l6, kc_l7, kc_l8, kc_l9, kc_l10, kc_l11, kc_l12, kc_l13, kc_l14, kc_l37, kc_l42, kc_l43, kc_l45, kc_l47, kc_l60, kc_l61, kc_l62, kc_l316, kc_l318, kc_l65536, kc_l99999, kc_l1000000, kc_l252645135, kc_l858993459, kc_l1431655765, kc_0, kc_on]
  rw [if_neg (by simp)]
  by_cases e : p = []
  · subst e
    rw [if_pos (by decide), if_pos rfl]
    rfl
  · obtain ⟨p', m, rfl⟩ := snoc_of e
    have hl : (p' ++ [m]).length = p'.length + 1 := by simp
    have hm := hs.2 m (by simp)
    rw [hl, nx_dec (by omega) (by omega), Nat.add_sub_cancel, if_neg (by rw [nx_lt (by omega) (by omega)]; omega), if_neg e]
    rw [ra_193_24 R, Option.bind_some, mn_205, gi_n (by omega), if_pos (by simp; omega), nx_cl (by omega), hr p'.length (by omega), getD_snoc, nx_shl1 (by omega), nx_andn, setOf_drop hnd, List.dropLast_concat]
theorem fr_lv (w : WFA A) (hal : al < 2048) (hmu : must < 2048) (ho : o < 8) (hn1 : 1 ≤ n) (hn5 : n ≤ 5) (hw : ∀ m, al.testBit m = true → WM A mw m = nI (wf m) ∧ wf m < 10) : ∀ d, ∀ p : List Nat, p.length + d = n → p.Nodup → (∀ m ∈ p, al.testBit m = true) → (p ≠ [] → pc (sd must (setOf p)) ≤ n - p.length) → ∀ e v, v + e = 11 → ∀ h, RF h → h.2.1 203 = A → h.2.1 206 = mw → MROW h p → (p.length < n → h.2.1 205 p.length + nI 1 = nI v) →
    (∃ q h', Ext al n p v q ∧ VR A wf must o (p ++ q) ∧ (∀ q', Ext al n p v q' → VR A wf must o (p ++ q') → lxle q q') ∧ wh (fun s : (Int32 × Int32 × pm_H) => m_findsRow_13 193 (nI al) (nI must) (nI o) (nI n) s.1 s.2.1 s.2.2) (nI (setOf p), nI p.length, h) = some (.inl h') ∧ FrM FC (· = 23) h h' ∧ MROW h' (p ++ q)) ∨
    ((∀ q, Ext al n p v q → ¬ VR A wf must o (p ++ q)) ∧ ∃ h', wh (fun s : (Int32 × Int32 × pm_H) => m_findsRow_13 193 (nI al) (nI must) (nI o) (nI n) s.1 s.2.1 s.2.2) (nI (setOf p), nI p.length, h) = wh (fun s : (Int32 × Int32 × pm_H) => m_findsRow_13 193 (nI al) (nI must) (nI o) (nI n) s.1 s.2.1 s.2.2) (popSt p h') ∧ FrM FC (· = 23) h h' ∧ MROW h' p) := by
  intro d
  induction d with
  | zero =>
    intro p hpl hnd hp hmust e v hve h R hA hmw hr _
    have hpn : p.length = n := by omega
    have hs := setOf_2048 hal hp
    have hw' : ∀ m ∈ p, m < 11 ∧ WM A (h.2.1 206) m = nI (wf m) ∧ wf m < 10 := fun m hm => ⟨hs.2 m hm, by rw [hmw]; exact (hw m (hp m hm)).1, (hw m (hp m hm)).2⟩
    have hsub : sub must (setOf p) := by
      have h1 := hmust (by intro q; rw [q] at hpn; simp at hpn; omega)
      have h2 : sd must (setOf p) ≤ must := sub_le (sub_sd _ _)
      exact sd_0.mp (pc_0 (by omega) (by omega))
    obtain ⟨⟨x, h1⟩, g1, g2, f1⟩ := m_says w R hA hr (by omega) hw'
    dsimp only at g2 f1
    subst g2
    have f1' : FrM FC (· = 23) h h1 := f1.mono (fun c hc => .inl hc) (fun _ q => q)
    have hr1 : MROW h1 p := fun i hi => by rw [f1.i (by omega) (by omega)]; exact hr i hi
    have step0 : m_findsRow_13 193 (nI al) (nI must) (nI o) (nI n) (nI (setOf p)) (nI p.length) h = if ¬ ov (syA A (p.map wf)) = nI o then m_findsRow_66 193 (nI al) (nI must) (nI o) (nI n) (nI (setOf p)) (nI p.length) (nI 11) h1 else some (.inr (.inl h1)) := by
      unfold m_findsRow_13 m_findsRow_45
      rw [← hpn, g1]
      simp (disch := omega) only [kc_im8, kc_im1, kc_i0, kc_i1, kc_i2, kc_i3, kc_i4, kc_i5, kc_b_m100, kc_b_m16, kc_b_m15, kc_b_m14, kc_b_m13, kc_b_m12, kc_b_m11, kc_b_m2, kc_b_6, kc_b_7, kc_b_8, kc_b_9, kc_b_10, kc_b_11, kc_b_12, kc_b_13, kc_b_14, kc_b_15, kc_b_16, kc_b_20, kc_b_24, kc_b_32, kc_b_37, kc_b_40, kc_b_42, kc_b_43, kc_b_45, kc_b_47, kc_b_48, kc_b_57, kc_b_58, kc_b_59, kc_b_60, kc_b_61, kc_b_62, kc_b_63, kc_b_91, kc_b_93, kc_b_97, kc_b_99, kc_b_100, kc_b_106, kc_b_122, kc_s_206, kc_s_226, kc_s_227, kc_s_255, kc_s_256, kc_s_316, kc_s_318, kc_s_400, kc_s_512, kc_s_999, kc_s_1160, kc_s_1536, kc_s_3003, kc_lm11, kc_lm10, kc_lm9, kc_lm8, kc_lm7, kc_lm6, kc_lm5, kc_lm4, kc_lm3, kc_lm2, kc_lm1, kc_l1, kc_l2, kc_l3, kc_l4, kc_l5, kc_l6, kc_l7, kc_l8, kc_l9, kc_l10, kc_l11, kc_l12, kc_l13, kc_l14, kc_l37, kc_l42, kc_l43, kc_l45, kc_l47, kc_l60, kc_l61, kc_l62, kc_l316, kc_l318, kc_l65536, kc_l99999, kc_l1000000, kc_l252645135, kc_l858993459, kc_l1431655765, kc_0, kc_on, nx_lt, nx_le, nx_eq, nx_add, nx_sub, nx_mul, nx_cl, n_lt_ng, n_le_ng, n_eq_ng, ng_lt_n, ng_le_n, ng_eq_n, ng_eq, ng_lt, ng_le, nx_dec, Option.bind_some]
      rw [if_neg (by omega), if_neg (by simp), if_neg (by simp)]
    have hne : ∀ q, Ext al n p v q → q = [] := fun q hq => List.eq_nil_of_length_eq_zero (by have := hq.1; omega)
    by_cases hsy : syA A (p.map wf) = some o
    · refine .inl ⟨[], h1, ⟨by simpa using hpn, by simpa using hnd, by simp, by simp⟩, by rw [List.append_nil]; exact ⟨hsub, hsy⟩, fun q' hq' _ => trivial, wh_inr ?_, f1', by rw [List.append_nil]; exact hr1⟩
      dsimp only
      rw [step0, hsy, if_neg (by simp [ov])]
    · refine .inr ⟨fun q hq => ?_, h1, wh_inl ?_, f1', hr1⟩
      · rw [hne q hq, List.append_nil]
        exact fun z => hsy z.2
      · dsimp only
        rw [step0, if_pos]
        · exact fr_pop (R.fm f1) hal hn5 (by omega) hnd hp hr1
        · cases hz : syA A (p.map wf) with
          | none => show ¬ ng 1 = nI o; rw [ng_eq_n (by omega) (by omega) (by omega)]; exact id
          | some o' =>
            have h8 : o' < 8 := by
              have := (ordOf_some.mp hz).1
              have := w.e2
              omega
            show ¬ nI o' = nI o
            rw [nx_eq (by omega) (by omega)]
            intro q
            rw [hz, q] at hsy
            exact hsy rfl
  | succ d ihd =>
    intro p hpl hnd hp hmust e
    induction e using Nat.strongRecOn with
    | ind e ihe =>
      intro v hve h R hA hmw hr hrow
      have hlt : p.length < n := by omega
      have hs := setOf_2048 hal hp
      obtain ⟨m, g1, g2, g3, g4, g5⟩ := m_nextOf_n h (a := al) (u := setOf p) (v := v) (by omega) (by omega) (by omega)
      have hstep0 : m_findsRow_13 193 (nI al) (nI must) (nI o) (nI n) (nI (setOf p)) (nI p.length) h = m_findsRow_66 193 (nI al) (nI must) (nI o) (nI n) (nI (setOf p)) (nI p.length) (nI m) h := by
        unfold m_findsRow_13 m_findsRow_45
        simp (disch := omega) only [kc_im8, kc_im1, kc_i0, kc_i1, kc_i2, kc_i3, kc_i4, kc_i5, kc_b_m100, kc_b_m16, kc_b_m15, kc_b_m14, kc_b_m13, kc_b_m12, kc_b_m11, kc_b_m2, kc_b_6, kc_b_7, kc_b_8, kc_b_9, kc_b_10, kc_b_11, kc_b_12, kc_b_13, kc_b_14, kc_b_15, kc_b_16, kc_b_20, kc_b_24, kc_b_32, kc_b_37, kc_b_40, kc_b_42, kc_b_43, kc_b_45, kc_b_47, kc_b_48, kc_b_57, kc_b_58, kc_b_59, kc_b_60, kc_b_61, kc_b_62, kc_b_63, kc_b_91, kc_b_93, kc_b_97, kc_b_99, kc_b_100, kc_b_106, kc_b_122, kc_s_206, kc_s_226, kc_s_227, kc_s_255, kc_s_256, kc_s_316, kc_s_318, kc_s_400, kc_s_512, kc_s_999, kc_s_1160, kc_s_1536, kc_s_3003, kc_lm11, kc_lm10, kc_lm9, kc_lm8, kc_lm7, kc_lm6, kc_lm5, kc_lm4, kc_lm3, kc_lm2, kc_lm1, kc_l1, kc_l2, kc_l3, kc_l4, kc_l5, kc_l6, kc_l7, kc_l8, kc_l9, kc_l10, kc_l11, kc_l12, kc_l13, kc_l14, kc_l37, kc_l42, kc_l43, kc_l45, kc_l47, kc_l60, kc_l61, kc_l62, kc_l316, kc_l318, kc_l65536, kc_l99999, kc_l1000000, kc_l252645135, kc_l858993459, kc_l1431655765, kc_0, kc_on, nx_lt, nx_le, nx_eq, nx_add, nx_sub, nx_mul, nx_cl, n_lt_ng, n_le_ng, n_eq_ng, ng_lt_n, ng_le_n, ng_eq_n, ng_eq, ng_lt, ng_le, nx_dec, ra_193_24 R, Option.bind_some, mn_205, gi_n, hrow hlt]
        rw [if_neg (by omega), if_pos (by omega), if_pos (by simp; omega), g1, Option.bind_some, if_pos (by omega)]
      by_cases hm : m = 11
      · subst hm
        refine .inr ⟨fun q hq => ?_, h, wh_inl (by dsimp only; rw [hstep0]; exact fr_pop R hal hn5 (by omega) hnd hp hr), FrM.refl _ _ _, hr⟩
        exfalso
        obtain ⟨q1, q2, q3, q4⟩ := hq
        cases q with
        | nil => rw [List.length_nil] at q1; omega
        | cons x q' =>
          have hx := q3 x List.mem_cons_self
          have hx9 := (setOf_2048 (p := [x]) hal (by simpa using hx)).2 x (by simp)
          refine g5 x (q4 x rfl) (by omega) ⟨hx, ?_⟩
          rw [setOf_bit]
          exact decide_eq_false (fun z => (List.nodup_append.mp q2).2.2 x z x List.mem_cons_self rfl)
      · have hm11 : m < 11 := by omega
        obtain ⟨b1, b2⟩ := g4 hm11
        have hmp : m ∉ p := by
          intro z
          rw [setOf_bit, decide_eq_true z] at b2
          cases b2
        have hl1 : (p ++ [m]).length = p.length + 1 := by simp
        have hnd1 : (p ++ [m]).Nodup := List.nodup_append.mpr ⟨hnd, by simp, fun a ha b hb => by rw [List.mem_singleton.mp hb]; exact fun z => hmp (z ▸ ha)⟩
        have hp1 : ∀ x ∈ p ++ [m], al.testBit x = true := by
          intro x hx
          rcases List.mem_append.mp hx with q | q
          · exact hp x q
          · rw [List.mem_singleton.mp q]; exact b1
        have hsp := fun q => Ext_split (al := al) (n := n) (v := v) (m := m) (p := p) (q := q) hlt g2 b1 hmp (fun j hj1 hj2 hj3 => g5 j hj1 hj2 ⟨hj3.1, by rw [setOf_bit]; exact decide_eq_false hj3.2⟩)
        have hsd2 : sd must (setOf (p ++ [m])) ≤ must := sub_le (sub_sd _ _)
        have hpcl := pc_le (sd must (setOf (p ++ [m]))) (by omega)
        have r1 : MROW (pm_setI h 205 p.length (nI m)) (p ++ [m]) := by
          intro i hi
          by_cases ei : i = p.length
          · subst ei; rw [ri_s, getD_snoc]
          · rw [ri_j _ ei, getD_snoc_lt _ _ (by omega)]; exact hr i (by omega)
        have f1 : FrM FC (· = 23) h (pm_setI h 205 p.length (nI m)) := (FrM.refl _ _ _).setI (by omega) (.inr rfl)
        have goOn : ∀ h2, FrM FC (· = 23) h h2 → MROW h2 (p ++ [m]) → (∀ q', Ext al n (p ++ [m]) 0 q' → ¬ VR A wf must o ((p ++ [m]) ++ q')) →
            wh (fun s : (Int32 × Int32 × pm_H) => m_findsRow_13 193 (nI al) (nI must) (nI o) (nI n) s.1 s.2.1 s.2.2) (nI (setOf p), nI p.length, h) = wh (fun s : (Int32 × Int32 × pm_H) => m_findsRow_13 193 (nI al) (nI must) (nI o) (nI n) s.1 s.2.1 s.2.2) (nI (setOf p), nI p.length, h2) →
            (∃ q h', Ext al n p v q ∧ VR A wf must o (p ++ q) ∧ (∀ q', Ext al n p v q' → VR A wf must o (p ++ q') → lxle q q') ∧ wh (fun s : (Int32 × Int32 × pm_H) => m_findsRow_13 193 (nI al) (nI must) (nI o) (nI n) s.1 s.2.1 s.2.2) (nI (setOf p), nI p.length, h) = some (.inl h') ∧ FrM FC (· = 23) h h' ∧ MROW h' (p ++ q)) ∨
            ((∀ q, Ext al n p v q → ¬ VR A wf must o (p ++ q)) ∧ ∃ h', wh (fun s : (Int32 × Int32 × pm_H) => m_findsRow_13 193 (nI al) (nI must) (nI o) (nI n) s.1 s.2.1 s.2.2) (nI (setOf p), nI p.length, h) = wh (fun s : (Int32 × Int32 × pm_H) => m_findsRow_13 193 (nI al) (nI must) (nI o) (nI n) s.1 s.2.1 s.2.2) (popSt p h') ∧ FrM FC (· = 23) h h' ∧ MROW h' p) := by
          intro h2 f2 r2 no heq
          have r2' : MROW h2 p := fun i hi => by rw [r2 i (by omega), getD_snoc_lt _ _ hi]
          rcases ihe (11 - (m + 1)) (by omega) (m + 1) (by omega) h2 (R.fm f2) (by rw [f2.i (by omega) (by unfold FC; omega)]; exact hA) (by rw [f2.i (by omega) (by unfold FC; omega)]; exact hmw) r2' (fun _ => by rw [r2 p.length (by omega), getD_snoc, nx_add]) with ⟨q, h3, c1, c2, c3, c4, c5, c6⟩ | ⟨c1, h3, c4, c5, c6⟩
          · refine .inl ⟨q, h3, (hsp q).mpr (.inr c1), c2, fun q' hq' hv' => ?_, by rw [heq]; exact c4, f2.trans c5, c6⟩
            rcases (hsp q').mp hq' with ⟨q'', rfl, z⟩ | z
            · exfalso
              refine no q'' z ?_
              rw [List.append_assoc]
              exact hv'
            · exact c3 q' z hv'
          · refine .inr ⟨fun q hq hv' => ?_, h3, by rw [heq]; exact c4, f2.trans c5, c6⟩
            rcases (hsp q).mp hq with ⟨q'', rfl, z⟩ | z
            · refine no q'' z ?_
              rw [List.append_assoc]
              exact hv'
            · exact c1 q z hv'
        by_cases hcut : pc (sd must (setOf (p ++ [m]))) ≤ n - p.length - 1
        · have step : ∃ h1, m_findsRow_66 193 (nI al) (nI must) (nI o) (nI n) (nI (setOf p)) (nI p.length) (nI m) h = some (.inl (nI (setOf (p ++ [m])), nI (p ++ [m]).length, h1)) ∧ FrM FC (· = 23) h h1 ∧ MROW h1 (p ++ [m]) ∧ ((p ++ [m]).length < n → h1.2.1 205 (p ++ [m]).length + nI 1 = nI 0) := by
            unfold m_findsRow_66
            simp (disch := omega) only [kc_im8, kc_im1, kc_i0, kc_i1, kc_i2, kc_i3, kc_i4, kc_i5, kc_b_m100, kc_b_m16, kc_b_m15, kc_b_m14, kc_b_m13, kc_b_m12, kc_b_m11, kc_b_m2, kc_b_6, kc_b_7, kc_b_8, kc_b_9, kc_b_10, kc_b_11, kc_b_12, kc_b_13, kc_b_14, kc_b_15, kc_b_16, kc_b_20, kc_b_24, kc_b_32, kc_b_37, kc_b_40, kc_b_42, kc_b_43, kc_b_45, kc_b_47, kc_b_48, kc_b_57, kc_b_58, kc_b_59, kc_b_60, kc_b_61, kc_b_62, kc_b_63, kc_b_91, kc_b_93, kc_b_97, kc_b_99, kc_b_100, kc_b_106, kc_b_122, kc_s_206, kc_s_226, kc_s_227, kc_s_255, kc_s_256, kc_s_316, kc_s_318, kc_s_400, kc_s_512, kc_s_999, kc_s_1160, kc_s_1536, kc_s_3003, kc_lm11, kc_lm10, kc_lm9, kc_lm8, kc_lm7, kc_lm6, kc_lm5, kc_lm4, kc_lm3, kc_lm2, kc_lm1, kc_l1, kc_l2, kc_l3, kc_l4, kc_l5, kc_l6, kc_l7, kc_l8, kc_l9, kc_l10, kc_l11, kc_l12, kc_l13, kc_l14, kc_l37, kc_l42, kc_l43, kc_l45, kc_l47, kc_l60, kc_l61, kc_l62, kc_l316, kc_l318, kc_l65536, kc_l99999, kc_l1000000, kc_l252645135, kc_l858993459, kc_l1431655765, kc_0, kc_on, nx_lt, nx_le, nx_eq, nx_add, nx_sub, nx_mul, nx_cl, n_lt_ng, n_le_ng, n_eq_ng, ng_lt_n, ng_le_n, ng_eq_n, ng_eq, ng_lt, ng_le, nx_dec, ra_193_24 R, Option.bind_some, mn_205, gi_n, nx_shl1, nx_or2, nx_andn, sd_snoc, bd]
            rw [if_pos hm, if_pos (by simp; omega), m_bits_n _ (by omega), Option.bind_some, if_pos (by rw [nx_le (by omega) (by omega)]; exact hcut), ← setOf_snoc, ← hl1]
            by_cases hn2 : n ≤ (p ++ [m]).length
            · rw [if_pos hn2]
              exact ⟨_, rfl, f1, r1, fun q => by omega⟩
            · rw [if_neg hn2, ra_193_24 R.setI, Option.bind_some, mn_205, if_pos (by simp; omega)]
              refine ⟨_, rfl, f1.setI (by omega) (.inr rfl), fun i hi => ?_, fun _ => ?_⟩
              · rw [ri_j _ (by omega)]; exact r1 i hi
              · rw [ri_s]; rfl
          obtain ⟨h1, s1, f1', r1', w1⟩ := step
          have R1 := R.fm f1'
          have heq1 : wh (fun s : (Int32 × Int32 × pm_H) => m_findsRow_13 193 (nI al) (nI must) (nI o) (nI n) s.1 s.2.1 s.2.2) (nI (setOf p), nI p.length, h) = wh (fun s : (Int32 × Int32 × pm_H) => m_findsRow_13 193 (nI al) (nI must) (nI o) (nI n) s.1 s.2.1 s.2.2) (nI (setOf (p ++ [m])), nI (p ++ [m]).length, h1) := wh_inl (by dsimp only; rw [hstep0]; exact s1)
          rcases ihd (p ++ [m]) (by omega) hnd1 hp1 (fun _ => by omega) 11 0 rfl h1 R1 (by rw [f1'.i (by omega) (by unfold FC; omega)]; exact hA) (by rw [f1'.i (by omega) (by unfold FC; omega)]; exact hmw) r1' w1 with ⟨q, h2, c1, c2, c3, c4, c5, c6⟩ | ⟨c1, h2, c4, c5, c6⟩
          · refine .inl ⟨m :: q, h2, (hsp _).mpr (.inl ⟨q, rfl, c1⟩), by rw [List.append_assoc] at c2; exact c2, fun q' hq' hv' => ?_, by rw [heq1]; exact c4, f1'.trans c5, by rw [List.append_assoc] at c6; exact c6⟩
            rcases (hsp q').mp hq' with ⟨q'', rfl, z⟩ | z
            · refine .inr ⟨rfl, c3 q'' z ?_⟩
              rw [List.append_assoc]
              exact hv'
            · cases q' with
              | nil => have := z.1; rw [List.length_nil] at this; omega
              | cons a t => exact .inl (by have := z.2.2.2 a rfl; omega)
          · have hpop : popSt (p ++ [m]) h2 = (nI (setOf p), nI p.length, h2) := by
              unfold popSt
              rw [if_neg (by simp), List.dropLast_concat, hl1, Nat.add_sub_cancel]
            rw [hpop] at c4
            exact goOn h2 (f1'.trans c5) c6 c1 (by rw [heq1, c4])
        · have step : m_findsRow_66 193 (nI al) (nI must) (nI o) (nI n) (nI (setOf p)) (nI p.length) (nI m) h = some (.inl (nI (setOf p), nI p.length, pm_setI h 205 p.length (nI m))) := by
            unfold m_findsRow_66
            simp (disch := omega) only [kc_im8, kc_im1, kc_i0, kc_i1, kc_i2, kc_i3, kc_i4, kc_i5, kc_b_m100, kc_b_m16, kc_b_m15, kc_b_m14, kc_b_m13, kc_b_m12, kc_b_m11, kc_b_m2, kc_b_6, kc_b_7, kc_b_8, kc_b_9, kc_b_10, kc_b_11, kc_b_12, kc_b_13, kc_b_14, kc_b_15, kc_b_16, kc_b_20, kc_b_24, kc_b_32, kc_b_37, kc_b_40, kc_b_42, kc_b_43, kc_b_45, kc_b_47, kc_b_48, kc_b_57, kc_b_58, kc_b_59, kc_b_60, kc_b_61, kc_b_62, kc_b_63, kc_b_91, kc_b_93, kc_b_97, kc_b_99, kc_b_100, kc_b_106, kc_b_122, kc_s_206, kc_s_226, kc_s_227, kc_s_255, kc_s_256, kc_s_316, kc_s_318, kc_s_400, kc_s_512, kc_s_999, kc_s_1160, kc_s_1536, kc_s_3003, kc_lm11, kc_lm10, kc_lm9, kc_lm8, kc_lm7, kc_lm6, kc_lm5, kc_lm4, kc_lm3, kc_lm2, kc_lm1, kc_l1, kc_l2, kc_l3, kc_l4, kc_l5, kc_l6, kc_l7, kc_l8, kc_l9, kc_l10, kc_l11, kc_l12, kc_l13, kc_l14, kc_l37, kc_l42, kc_l43, kc_l45, kc_l47, kc_l60, kc_l61, kc_l62, kc_l316, kc_l318, kc_l65536, kc_l99999, kc_l1000000, kc_l252645135, kc_l858993459, kc_l1431655765, kc_0, kc_on, nx_lt, nx_le, nx_eq, nx_add, nx_sub, nx_mul, nx_cl, n_lt_ng, n_le_ng, n_eq_ng, ng_lt_n, ng_le_n, ng_eq_n, ng_eq, ng_lt, ng_le, nx_dec, ra_193_24 R, Option.bind_some, mn_205, gi_n, nx_shl1, nx_or2, nx_andn, sd_snoc, bd]
            rw [if_pos hm, if_pos (by simp; omega), m_bits_n _ (by omega), Option.bind_some, if_neg (by rw [nx_le (by omega) (by omega)]; exact hcut)]
          refine goOn _ f1 r1 (fun q' hq' hv' => hcut ?_) (wh_inl (by dsimp only; rw [hstep0]; exact step))
          have hl2 : q'.length = n - p.length - 1 := by have := hq'.1; omega
          rw [← hl2]
          refine pc_sub (fun i hi => ?_)
          rw [sd_bit, Bool.and_eq_true] at hi
          have h1 := hv'.1 i hi.1
          rw [setOf_bit, decide_eq_true_eq, List.mem_append] at h1
          rw [setOf_bit]
          rcases h1 with q | q
          · rw [setOf_bit, decide_eq_true q] at hi; simp at hi
          · exact decide_eq_true q
/-- findsRow -/
theorem m_finds (w : WFA A) (hal : al < 2048) (hmu : must < 2048) (ho : o < 8) (hn1 : 1 ≤ n) (hn5 : n ≤ 5) (hw : ∀ m, al.testBit m = true → WM A mw m = nI (wf m) ∧ wf m < 10) {h : pm_H} (R : RF h) (hA : h.2.1 203 = A) (hmw : h.2.1 206 = mw) : SP (m_findsRow 193 (nI al) (nI must) (nI o) (nI n) h) (fun z => FrM FC (· = 23) h z.2 ∧
    ((z.1 = nI 1 ∧ ∃ r : List Nat, r.length = n ∧ r.Nodup ∧ (∀ m ∈ r, al.testBit m = true) ∧ VR A wf must o r ∧ MROW z.2 r ∧ ∀ r' : List Nat, r'.length = n → r'.Nodup → (∀ m ∈ r', al.testBit m = true) → VR A wf must o r' → lxle r r') ∨
     (z.1 = nI 0 ∧ ∀ r' : List Nat, r'.length = n → r'.Nodup → (∀ m ∈ r', al.testBit m = true) → ¬ VR A wf must o r'))) := by
  unfold m_findsRow
  simp (disch := omega) only [kc_im8, kc_im1, kc_i0, kc_i1, kc_i2, kc_i3, kc_i4, kc_i5, kc_b_m100, kc_b_m16, kc_b_m15, kc_b_m14, kc_b_m13, kc_b_m12, kc_b_m11, kc_b_m2, kc_b_6, kc_b_7, kc_b_8, kc_b_9, kc_b_10, kc_b_11, kc_b_12, kc_b_13, kc_b_14, kc_b_15, kc_b_16, kc_b_20, kc_b_24, kc_b_32, kc_b_37, kc_b_40, kc_b_42, kc_b_43, kc_b_45, kc_b_47, kc_b_48, kc_b_57, kc_b_58, kc_b_59, kc_b_60, kc_b_61, kc_b_62, kc_b_63, kc_b_91, kc_b_93, kc_b_97, kc_b_99, kc_b_100, kc_b_106, kc_b_122, kc_s_206, kc_s_226, kc_s_227, kc_s_255, kc_s_256, kc_s_316, kc_s_318, kc_s_400, kc_s_512, kc_s_999, kc_s_1160, kc_s_1536, kc_s_3003, kc_lm11, kc_lm10, kc_lm9, kc_lm8, kc_lm7, kc_lm6, kc_lm5, kc_lm4, kc_lm3, kc_lm2, kc_lm1, kc_l1, kc_l2, kc_l3, kc_l4, kc_l5, kc_l6, kc_l7, kc_l8, kc_l9, kc_l10, kc_l11, kc_l12, kc_l13, kc_l14, kc_l37, kc_l42, kc_l43, kc_l45, kc_l47, kc_l60, kc_l61, kc_l62, kc_l316, kc_l318, kc_l65536, kc_l99999, kc_l1000000, kc_l252645135, kc_l858993459, kc_l1431655765, kc_0, kc_on, ra_193_24 R, Option.bind_some, mn_205, gi_n, nx_cl]
  refine sp_pos (by simp) ?_
  rw [sp_bd]
  have f0 : FrM FC (· = 23) h (pm_setI h 205 0 (ng 1)) := (FrM.refl _ _ _).setI (by omega) (.inr rfl)
  have ext : ∀ r' : List Nat, r'.length = n → r'.Nodup → (∀ m ∈ r', al.testBit m = true) → Ext al n [] 0 r' := fun r' a b c => ⟨by simpa using a, by simpa using b, c, fun _ _ => Nat.zero_le _⟩
  have main := fr_lv (n := n) (must := must) (o := o) (wf := wf) (mw := mw) w hal hmu ho hn1 hn5 hw n [] (by simp) List.nodup_nil (by simp) (fun q => (q rfl).elim) 11 0 rfl (pm_setI h 205 0 (ng 1)) R.setI (by rw [f0.i (by omega) (by unfold FC; omega)]; exact hA) (by rw [f0.i (by omega) (by unfold FC; omega)]; exact hmw) (fun i hi => by simp at hi) (fun _ => by rw [List.length_nil, ri_s]; rfl)
  have e0 : (nI (setOf []), nI ([] : List Nat).length, pm_setI h 205 0 (ng 1)) = (nI 0, nI 0, pm_setI h 205 0 (ng 1)) := rfl
  rw [e0] at main
  rcases main with ⟨q, h1, c1, c2, c3, c4, c5, c6⟩ | ⟨c1, h1, c4, c5, c6⟩
  · rw [c4, Option.bind_some]
    refine sp_some.mpr ⟨f0.trans c5, .inl ⟨rfl, q, by simpa using c1.1, by simpa using c1.2.1, c1.2.2.1, c2, c6, fun r' a b c v => c3 r' (ext r' a b c) v⟩⟩
  · have s2 : wh (fun s : (Int32 × Int32 × pm_H) => m_findsRow_13 193 (nI al) (nI must) (nI o) (nI n) s.1 s.2.1 s.2.2) (popSt [] h1) = some (.inr h1) := by
      refine wh_inr ?_
      unfold popSt m_findsRow_13
      rw [if_pos rfl]
      dsimp only
      rw [if_pos (by decide)]
    rw [c4, s2, Option.bind_some]
    exact sp_some.mpr ⟨f0.trans c5, .inr ⟨rfl, fun r' a b c v => c1 r' (ext r' a b c) v⟩⟩
end FR
