/-! run, of the program. -/
/-- the men roused by a rule, one after the other -/
def rnV (cls : List (List Nat × Option (List Nat))) : Nat → (Nat → Int32) → (Nat → Int32)
  | 0, A => A
  | i + 1, A => if isDd (rnV cls i A) i = true then rnV cls i A else upA (rnV cls i A) (10 + 6 * i + 2) (nI (posV (clV (fun w => (WV (rnV cls i A) i w).toInt64) cls)).toNat)
def rnH (cls : List (List Nat × Option (List Nat))) : Nat → (Nat → Int32) → (Nat → Int32)
  | 0, A => A
  | i + 1, A => psA (rnV cls (an (rnH cls i A) 1) (rnH cls i A))
section RNV
variable {A B : Nat → Int32} {k : Nat} {cls : List (List Nat × Option (List Nat))}
theorem VI.rn (V : VI A B k) : ∀ i, i ≤ an A 1 → VI A (rnV cls i B) k
  | 0, _ => V
  | i + 1, hi => by
    have ih := VI.rn V i (by omega)
    rw [rnV]
    split
    · exact ih
    · exact ih.up2 (by omega) _
theorem VI.rnh (V : VI A B k) : ∀ i, k + i < 1999 → VI A (rnH cls i B) (k + i)
  | 0, _ => V
  | i + 1, hi => by
    have ih := VI.rnh V i (by omega)
    rw [rnH, ih.e1]
    exact (ih.rn (an A 1) (Nat.le_refl _)).ps (by omega)
theorem rnV_4 : ∀ i, rnV cls i B 4 = B 4
  | 0 => rfl
  | i + 1 => by
    rw [rnV]
    split
    · exact rnV_4 i
    · rw [upA_ne (by omega)]; exact rnV_4 i
theorem rnH_4 (w : WFA B) : ∀ i, rnH cls i B 4 = nI (an B 4 + i)
  | 0 => w.e4.1
  | i + 1 => by
    rw [rnH]
    unfold psA
    rw [if_pos rfl, rnV_4, rnH_4 w i, nx_add, Nat.add_assoc]
end RNV
/-- what a run may change: the rules' stacks, the hands -/
def FR (h h' : pm_H) : Prop := Fr (fun c => (90 ≤ c ∧ c ≤ 107) ∨ (169 ≤ c ∧ c ≤ 171)) h h' ∧ ∀ r, r < 6 → (∀ j, j ≠ 4 → h'.2.1 (90 + 3 * r) j = h.2.1 (90 + 3 * r) j) ∧ h'.2.1 (90 + 3 * r + 1) = h.2.1 (90 + 3 * r + 1)
theorem FR.refl (h : pm_H) : FR h h := ⟨Fr.refl _ h, fun _ _ => ⟨fun _ _ => rfl, rfl⟩⟩
theorem FR.trans {h h1 h2 : pm_H} (a : FR h h1) (b : FR h1 h2) : FR h h2 := ⟨a.1.trans b.1, fun r hr => ⟨fun j hj => ((b.2 r hr).1 j hj).trans ((a.2 r hr).1 j hj), (b.2 r hr).2.trans (a.2 r hr).2⟩⟩
theorem FU.frr {h h' : pm_H} {r : Nat} (hr : r < 6) (f : FU (90 + 3 * r) h h') : FR h h' := by
  refine ⟨f.fr.mono (fun c hc => by omega), fun q hq => ⟨fun j hj => ?_, f.2.2.1 _ (by omega)⟩⟩
  by_cases e : q = r
  · subst e; exact f.2.2.2.1 j hj
  · rw [f.2.2.1 _ (by omega)]
theorem Fr.frr {h h' : pm_H} {P : Nat → Prop} (f : Fr P h h') (hP : ∀ c, P c → 169 ≤ c ∧ c ≤ 171) : FR h h' := by
  refine ⟨f.mono (fun c hc => by have := hP c hc; omega), fun q hq => ⟨fun j hj => ?_, ?_⟩⟩
  · exact f.i j (fun z => by have := hP _ z; omega)
  · exact (f.2.2 _ (fun z => by have := hP _ z; omega)).1
theorem FR.rc {h h' : pm_H} {r : Nat} {cls : List (List Nat × Option (List Nat))} (f : FR h h') (hr : r < 6) (C : RC h (90 + 3 * r) cls) : RC h' (90 + 3 * r) cls := by
  obtain ⟨c1, c2, c3⟩ := C
  refine ⟨by rw [(f.2 r hr).1 1 (by omega)]; exact c1, c2, fun j hj => ?_⟩
  rw [(f.2 r hr).2]
  exact c3 j hj
section XR
variable {h : pm_H} {s n r : Nat} {A B : Nat → Int32} {P : Nat → Nat → Int32} {cls : List (List Nat × Option (List Nat))}
theorem QI.rul {h' : pm_H} (Q : QI h s A) {T : Nat → Prop} (f : Fr T h h') (hT : ∀ c, T c → 90 ≤ c ∧ c ≤ 107) : QI h' s A := by
  obtain ⟨R, h1, S, H, D, w, C⟩ := Q
  have hsv := hull_ge S.1
  have nt : ∀ c, c < 90 ∨ 107 < c → ¬ T c := fun c hc z => by have := hT c z; omega
  exact ⟨R.fr f, by rw [f.r]; exact h1, S.fr f (fun c a b => nt c (by omega)), H.of (f.2.2 169 (nt _ (by omega))).1 (f.2.2 170 (nt _ (by omega))).1 (f.2.2 171 (nt _ (by omega))).1, D.of (f.2.2 168 (nt _ (by omega))).1 (f.2.2 172 (nt _ (by omega))).1, w, fun h0 => (C h0).fr (by rw [f.r]) (f.2.2 69 (nt _ (by omega))).1 (f.2.2 74 (nt _ (by omega))).1 (f.2.2 75 (nt _ (by omega))).1⟩
theorem x_rouse_sp (Q : QI h s A) (hr : r < 6) (C : RC h (90 + 3 * r) cls) (ok : ∀ c ∈ cls, clOK c) : SP (x_rouseAll 0 (90 + 3 * r) h) (fun h' => QI h' s (rnV cls (an A 1) A) ∧ FR h h') := by
  have w := Q.2.2.2.2.2.1
  have e1 := w.e1
  unfold x_rouseAll
  rw [kc_i0]
  have key : SP (wh (fun z : (Int32 × pm_H) => x_rouseAll_2 0 (90 + 3 * r) z.1 z.2) (nI 0, h)) (fun h' => QI h' s (rnV cls (an A 1) A) ∧ FR h h') := by
    refine wh_cnt (fun i z => z.1 = nI i ∧ QI z.2 s (rnV cls i A) ∧ FR h z.2) _ (an A 1) ?_ ?_ 0 (nI 0, h) (by omega) ⟨rfl, Q, FR.refl h⟩
    · rintro i ⟨y, h1⟩ hi ⟨hy, Q1, f1⟩
      dsimp only at hy Q1 f1
      subst hy
      have V1 := (VI.refl w).rn (cls := cls) i (by omega)
      have b1 := V1.e1
      have Q1' := Q1
      obtain ⟨R, _, S, H, D, w1, K⟩ := Q1
      have e1' := w1.e1
      unfold x_rouseAll_2
      rw [ra_0_4 R, Option.bind_some, Q1'.now, Option.bind_some, S.2.2.1, e1'.1]
      refine sp_neg (by rw [nx_le (by omega) (by omega)]; omega) ?_
      rw [x_lives_t Q1' (by omega), Option.bind_some]
      by_cases dd : isDd (rnV cls i A) i = true
      · rw [dd]
        refine sp_pos rfl ?_
        rw [kc_i1, nx_add, sp_some, rnV, if_pos dd]
        exact ⟨rfl, Q1', f1⟩
      · have dd' : isDd (rnV cls i A) i = false := by simpa using dd
        rw [dd']
        refine sp_neg n10 ?_
        rw [Option.bind_some, q_hands Q1', Option.bind_some, Option.bind_some, Q1'.now, Option.bind_some, Option.bind_some, q_hands Q1', Option.bind_some]
        refine sp_call (u_wakes_n (W := fun w => (WV (rnV cls i A) i w).toInt64) R (ro_rules hr) (f1.rc hr C) ok (fun h2 f2 k hk => ?_)) ?_
        · have Q2 := Q1'.rul f2.fr (fun c hc => by omega)
          exact u_letters_n Q2.2.2.1 Q2.2.2.2.1 w1 Q2.1 (by omega) hk
        · rintro ⟨v, h2⟩ ⟨hv, f2⟩
          dsimp only at hv f2
          subst hv
          dsimp only
          have Q2 := Q1'.rul f2.fr (fun c hc => by omega)
          obtain ⟨v3, e3, H3⟩ := n_rouse_c Q2.2.2.2.1 w1 (m := i) (by omega) (posV (clV (fun w => (WV (rnV cls i A) i w).toInt64) cls))
          have f3 : Fr (· = 169) h2 (pm_setI h2 169 0 v3) := (Fr.refl _ _).setI rfl
          have u2 := up2_wf w1 (m := i) (by omega) (posV (clV (fun w => (WV (rnV cls i A) i w).toInt64) cls))
          rw [e3, Option.bind_some, kc_i1, nx_add, sp_some, rnV, if_neg dd]
          exact ⟨rfl, Q2.act (f3.mono (fun c hc => by unfold AF; omega)) u2.1 u2.2 H3, (f1.trans (f2.frr hr)).trans (f3.frr (fun c hc => by omega))⟩
    · rintro ⟨y, h1⟩ ⟨hy, Q1, f1⟩
      dsimp only at hy Q1 f1
      subst hy
      have V1 := (VI.refl w).rn (cls := cls) (an A 1) (Nat.le_refl _)
      have b1 := V1.e1
      have e1' := Q1.2.2.2.2.2.1.e1
      unfold x_rouseAll_2
      rw [ra_0_4 Q1.1, Option.bind_some, Q1.now, Option.bind_some, Q1.2.2.1.2.2.1, e1'.1]
      exact sp_pos (by rw [nx_le (by omega) (by omega)]; omega) (sp_some.mpr ⟨Q1, f1⟩)
  refine sp_call key ?_
  intro h' q
  exact sp_some.mpr q
def runOk (A : Nat → Int32) (R0 r k : Nat) : Prop := 0 < an A 0 ∧ r < R0 ∧ 1 ≤ k ∧ k ≤ 60 ∧ an A 4 + k ≤ 999
theorem x_run_ok (Q : QI h s A) (C : CP h n P) {R0 k : Nat} (hR : h.2.1 0 2 = nI R0) (hR6 : R0 ≤ 6) (ok : runOk A R0 r k) (K : RC h (90 + 3 * r) cls) (okc : ∀ c ∈ cls, clOK c) : SP (x_run 0 (nI r) (nI k) h) (fun z => z.1 = nI (an A 4 + k) ∧ QI z.2 s (rnH cls k A) ∧ CP z.2 0 P ∧ ∃ h1, FR h h1 ∧ z.2 = pm_setI h1 6 2 (nI 0)) := by
  obtain ⟨s0, r0, k1, k2, k3⟩ := ok
  have w := Q.2.2.2.2.2.1
  have e4 := w.e4
  have Q' := Q
  obtain ⟨R, _, S, H, D, _, _⟩ := Q
  unfold x_run
  rw [ra_0_4 R, Option.bind_some, Q'.now, Option.bind_some, c_sails S w, Option.bind_some, dec_t s0, hR, ra_0_1 R]
  refine sp_neg n10 (sp_neg (by rw [kc_0, nx_lt (by omega) (by omega)]; omega) (sp_neg (by rw [nx_le (by omega) (by omega)]; omega) ?_))
  rw [Option.bind_some, mn_3]
  refine sp_pos (by rw [kc_on, nx_lt (by omega) (by omega)]; omega) (sp_neg (by rw [kc_i1, nx_lt (by omega) (by omega)]; omega) (sp_neg (by rw [kc_b_60, nx_lt (by omega) (by omega)]; omega) ?_))
  rw [Option.bind_some, q_hands Q', Option.bind_some, H.2.2.2.1, e4.1, nx_add, kc_s_999]
  refine sp_pos (by rw [nx_le (by omega) (by omega)]; omega) ?_
  rw [kc_i0]
  have key : SP (wh (fun z : (Int32 × pm_H) => x_run_69 0 (nI r) (nI k) z.1 z.2) (nI 0, h)) (fun h' => QI h' s (rnH cls k A) ∧ FR h h') := by
    refine wh_cnt (fun i z => z.1 = nI i ∧ QI z.2 s (rnH cls i A) ∧ FR h z.2) _ k ?_ ?_ 0 (nI 0, h) (by omega) ⟨rfl, Q', FR.refl h⟩
    · rintro i ⟨y, h1⟩ hi ⟨hy, Q1, f1⟩
      dsimp only at hy Q1 f1
      subst hy
      have V1 := (VI.refl w).rnh (cls := cls) i (by omega)
      unfold x_run_69
      refine sp_neg (by rw [nx_le (by omega) (by omega)]; omega) ?_
      rw [ra_0_1 Q1.1, Option.bind_some, mn_3, gi_n (by omega), nx_cl (by omega), rg_rules Q1.1 (by omega)]
      refine sp_pos (dec_t (by omega)) ?_
      rw [Option.bind_some]
      refine sp_call (x_rouse_sp Q1 (by omega) (f1.rc (by omega) K) okc) ?_
      rintro h2 ⟨Q2, f2⟩
      have V2 := V1.rn (cls := cls) (an A 1) (Nat.le_refl _)
      rw [V1.e1] at Q2
      rw [ra_0_4 Q2.1, Option.bind_some, q_hands Q2, Option.bind_some]
      refine sp_call (n_pass_sp V2.2.1 Q2.1 Q2.2.2.2.1) ?_
      rintro h3 ⟨f3, H3⟩
      have V3 := V2.ps (by omega)
      rw [kc_i1, nx_add, sp_some, rnH, V1.e1]
      exact ⟨rfl, Q2.act (f3.mono (fun c hc => by unfold HC at hc; unfold AF; omega)) (psA_same V2.2.1) V3.2.1 H3, (f1.trans f2).trans (f3.frr (fun c hc => by unfold HC at hc; omega))⟩
    · rintro ⟨y, h1⟩ ⟨hy, Q1, f1⟩
      dsimp only at hy Q1 f1
      subst hy
      unfold x_run_69
      exact sp_pos (by rw [nx_le (by omega) (by omega)]; omega) (sp_some.mpr ⟨Q1, f1⟩)
  refine sp_call key ?_
  rintro h1 ⟨Q1, f1⟩
  have f2 : Fr (· = 6) h1 (pm_setI h1 6 2 (nI 0)) := (Fr.refl (· = 6) h1).setI rfl
  have pf : p_forget 6 h1 = some (pm_setI h1 6 2 (nI 0)) := by
    unfold p_forget
    rw [kc_i0]
    rfl
  have V1 := (VI.refl w).rnh (cls := cls) k (by omega)
  have Q2 : QI (pm_setI h1 6 2 (nI 0)) s (rnH cls k A) := Q1.act (f2.mono (fun c hc => by unfold AF; omega)) (SameS.refl _) V1.2.1 (Q1.2.2.2.1.of (f2.2.2 169 (by omega)).1 (f2.2.2 170 (by omega)).1 (f2.2.2 171 (by omega)).1)
  rw [ra_0_6 Q1.1, Option.bind_some, pf, Option.bind_some, ra_0_4 Q2.1, Option.bind_some, q_hands Q2, Option.bind_some, sp_some]
  refine ⟨?_, Q2, ?_, h1, f1, rfl⟩
  · show (pm_setI h1 6 2 (nI 0)).2.1 (168 + 1) 2 = _
    rw [Q2.2.2.2.1.2.2.2.1, rnH_4 w]
  · obtain ⟨c1, c2, l, l1, l2, l3⟩ := C
    refine ⟨by omega, ri_s _, l, l1, ?_, fun i hi => by omega⟩
    show (pm_setI h1 6 2 (nI 0)).2.1 6 1 = _
    rw [ri_j _ (by omega), f1.1.i _ (by omega)]
    exact l2
theorem x_run_no (Q : QI h s A) (h4 : an A 4 ≤ 999) {R0 : Nat} {x y : Int32} (hR : h.2.1 0 2 = nI R0) (hR6 : R0 ≤ 6) (no : ¬ ∃ r k, x = nI r ∧ y = nI k ∧ runOk A R0 r k) : x_run 0 x y h = some (ng 1, h) := by
  have w := Q.2.2.2.2.2.1
  have e4 := w.e4
  have Q' := Q
  obtain ⟨R, _, S, H, D, _, _⟩ := Q
  unfold x_run
  rw [ra_0_4 R, Option.bind_some, Q'.now, Option.bind_some, c_sails S w, Option.bind_some, hR, ra_0_1 R, kc_im1]
  by_cases s0 : 0 < an A 0
  · rw [dec_t s0]
    refine (if_neg n10).trans ?_
    by_cases x0 : x < nI 0
    · exact if_pos x0
    refine (if_neg x0).trans ?_
    by_cases x1 : nI R0 ≤ x
    · exact if_pos x1
    refine (if_neg x1).trans ?_
    have x2 : ∃ r, r < R0 ∧ x = nI r := by
      rcases ixx x (n := R0) (by omega) with q | q | q
      · exact (x0 q).elim
      · exact (x1 q).elim
      · exact q
    obtain ⟨r, hr, rfl⟩ := x2
    rw [Option.bind_some, mn_3]
    refine (if_pos (by rw [kc_on, nx_lt (by omega) (by omega)]; omega)).trans ?_
    by_cases y1 : y < nI 1
    · exact if_pos y1
    refine (if_neg y1).trans ?_
    by_cases y2 : nI 60 < y
    · exact if_pos y2
    refine (if_neg y2).trans ?_
    obtain ⟨k, k1, k2, rfl⟩ := rng2 (by omega) (by omega) y1 y2
    rw [Option.bind_some, q_hands Q', Option.bind_some, H.2.2.2.1, e4.1, nx_add, kc_s_999]
    refine if_neg ?_
    rw [nx_le (by omega) (by omega)]
    exact fun z => no ⟨r, k, rfl, rfl, s0, hr, k1, k2, z⟩
  · rw [dec_f s0]
    exact if_pos rfl
end XR
