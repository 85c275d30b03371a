/-! lacks, of the program: all rows. -/
section LB
variable {h : pm_H} {s : Nat} {A : Nat → Int32}
def mnK (A : Nat → Int32) (dn : List (List Nat)) : Nat := dn.foldl (fun K v => min K (lkK (lkL (spw A) v))) 1000
theorem mnK_snoc (dn : List (List Nat)) (v : List Nat) : mnK A (dn ++ [v]) = min (mnK A dn) (lkK (lkL (spw A) v)) := by
  unfold mnK
  rw [List.foldl_append]
  rfl
theorem mnK_LK {o : Nat} {rows : List (List Nat)} (hr : ∀ v, v ∈ rows ↔ isRw A o v) : LK A o (mnK A rows) := by
  have key : ∀ (l : List (List Nat)) (K0 : Nat), (l.foldl (fun K v => min K (lkK (lkL (spw A) v))) K0) ≤ K0 ∧ (∀ v ∈ l, (l.foldl (fun K v => min K (lkK (lkL (spw A) v))) K0) ≤ lkK (lkL (spw A) v)) ∧ ((l.foldl (fun K v => min K (lkK (lkL (spw A) v))) K0) = K0 ∨ ∃ v ∈ l, lkK (lkL (spw A) v) = (l.foldl (fun K v => min K (lkK (lkL (spw A) v))) K0)) := by
    intro l
    induction l with
    | nil => intro K0; exact ⟨Nat.le_refl _, fun v hv => (by cases hv), .inl rfl⟩
    | cons x l ih =>
      intro K0
      rw [List.foldl_cons]
      obtain ⟨i1, i2, i3⟩ := ih (min K0 (lkK (lkL (spw A) x)))
      refine ⟨by omega, fun v hv => ?_, ?_⟩
      · rcases List.mem_cons.mp hv with rfl | hv
        · omega
        · exact i2 v hv
      · rcases i3 with i3 | ⟨v, hv, e⟩
        · by_cases q : K0 ≤ lkK (lkL (spw A) x)
          · exact .inl (by rw [i3]; omega)
          · exact .inr ⟨x, by simp, by rw [i3]; omega⟩
        · exact .inr ⟨v, List.mem_cons_of_mem _ hv, e⟩
  obtain ⟨k1, k2, k3⟩ := key rows 1000
  refine ⟨k1, fun v hv => k2 v ((hr v).mpr hv), ?_⟩
  rcases k3 with k3 | ⟨v, hv, e⟩
  · exact .inl k3
  · exact .inr ⟨v, (hr v).mp hv, e⟩
theorem a_lk_loop (Q : QI h s A) (hz0 : 0 < an A 0) {one oth thd : Nat → Nat} (K : KT h s one oth thd) {rows : List (List Nat)} (H : RS A one oth thd h 77 s rows) (hr : rows.length < 1000000) (B : BK h 1000) : SP (wh (fun z : (Int32 × pm_H) => a_findLacks_24 68 s 169 (nI (hrdN A)) z.1 z.2) (nI 0, h)) (fun h' => Fq QF h h' ∧ QI h' s A ∧ BK h' (mnK A rows)) := by
  have hsv := hull_ge Q.2.2.1.1
  have w := Q.2.2.2.2.2.1
  have e0 := w.e0
  have h512 := hrd_512 w
  refine wh_cnt (fun i z => ∃ dn rm, rows = dn ++ rm ∧ dn.length = i ∧ z.1 = nI i ∧ Fq QF h z.2 ∧ QI z.2 s A ∧ RS A one oth thd z.2 77 s rm ∧ BK z.2 (mnK A dn)) _ rows.length ?_ ?_ 0 (nI 0, h) (by omega) ⟨[], rows, rfl, rfl, rfl, Fq.refl _ _, Q, H, B⟩
  · rintro i ⟨x, h1⟩ hi ⟨dn, rm, e1, e2, rfl, f1, Q1, H1, B1⟩
    dsimp only at f1 Q1 H1 B1
    have K1 := K.fq f1 (fun c a b => by unfold QF; omega)
    unfold a_findLacks_24
    refine sp_neg (by rw [show (1000000 : Int32) = nI 1000000 from rfl, nx_le (by omega) (by omega)]; omega) ?_
    rw [ra_68_1 Q1.1, Option.bind_some]
    refine sp_call (r_adv_sp Q1.2.2.1 w Q1.1 hz0 q77 K1 H1) ?_
    rintro ⟨y, h2⟩ ⟨f2, hz⟩
    dsimp only at f2 hz
    have QA := Q1.ask2 f2.q (by rw [f2.r]) (fun c hc => by unfold QC at hc; omega)
    rcases hz with ⟨rfl, rfl⟩ | ⟨rfl, c, rm', rfl, H2, C2⟩
    · exfalso
      rw [e1, List.append_nil] at hi
      omega
    · have B2 : BK h2 (mnK A dn) := B1.fr (f2.2.2 68 (by unfold QC; omega)).1
      refine sp_neg n10 ?_
      dsimp only
      rw [ra_68_8 QA.1.1, Option.bind_some, kc_i0]
      refine sp_call (y_fill_sp (by rw [mn_83]; omega)) ?_
      rintro h3 ⟨f3, z3⟩
      have QB := QA.1.ask f3 (fun c hc => by omega)
      refine sp_call (a_lkMen QB.1 (nI 0) (nI i) 169 (fun x hx => z3 x (by rw [mn_83]; exact hx))) ?_
      rintro h4 ⟨f4, S4⟩
      have QC4 := QB.1.ask f4 (fun c hc => by omega)
      have R4 := QC4.1.1
      have f34 := f3.trans f4
      rw [kc_b_8, x_bit_n (by omega) (by omega), Option.bind_some, QC4.1.2.2.2.1.2.2.2.2.2.1]
      have fin : ∀ h5 : pm_H, Fr (· = 83) h4 h5 → SPR h5 (spw A) → SP ((a_tryLack 68 h5).bind fun q10 => some (Sum.inl ((nI i + Int32.ofInt 1), q10)) : Option ((Int32 × pm_H) ⊕ pm_H)) (fun q => match q with | .inl s' => ∃ dn rm, rows = dn ++ rm ∧ dn.length = i + 1 ∧ s'.1 = nI (i + 1) ∧ Fq QF h s'.2 ∧ QI s'.2 s A ∧ RS A one oth thd s'.2 77 s rm ∧ BK s'.2 (mnK A dn) | .inr h' => Fq QF h h' ∧ QI h' s A ∧ BK h' (mnK A rows)) := by
        intro h5 f5 S5
        have f35 : Fr (· = 83) h2 h5 := f34.trans f5
        have QD := QC4.1.ask f5 (fun c hc => by omega)
        have C5 : CUR h5 77 c := ⟨by rw [f35.i _ (by omega)]; exact C2.1, C2.2.1, C2.2.2.1, fun j hj => by rw [f35.i _ (by omega)]; exact C2.2.2.2 j hj⟩
        refine sp_call (a_try QD.1 C5 S5 (B2.fr (f35.2.2 68 (by omega)).1)) ?_
        rintro h6 ⟨f6, B6⟩
        have QE := QD.1.ask f6 (fun c hc => by omega)
        have f36 : Fr (fun x => x = 68 ∨ x = 83) h2 h6 := (f35.mono (fun x hx => .inr hx)).trans f6
        refine sp_some.mpr ⟨dn ++ [c], rm', by rw [e1]; simp, by simp [e2], by rw [kc_i1]; exact nx_add i 1, ((((f1.trans QA.2).trans QB.2).trans QC4.2).trans QD.2).trans QE.2, QE.1, ?_, by rw [mnK_snoc]; exact B6⟩
        exact H2.fr (by rw [f36.r]) (f36.2.2 77 (by omega)).1 (f36.2.2 78 (by omega)).1 (f36.2.2 79 (by omega)).1 (f36.2.2 80 (by omega)).1
      have bit8 := hrd_boy w
      by_cases hb : bN A = 0
      · have e6 : A 6 = ng 1 := by
          rcases w.e6 with q | q
          · exact q
          · exfalso
            have hne : ¬ A 6 = ng 1 := by rw [q.1, n_eq_ng (by omega) (by omega) (by omega)]; exact id
            unfold bN at hb
            rw [if_neg hne] at hb
            omega
        rw [e6, a_add_no, Option.bind_some]
        refine (fin h4 (Fr.refl _ _) (fun x hx => ?_)).mono (by rintro (q | q) hq <;> exact hq)
        rw [← spC_9, spC, spC_men w, bit8, dec_f (fun z => z hb), if_neg (by simp)]
        exact S4 x hx
      · have b8 := wm_boy w hb
        rw [b8.1, a_add_n R4 (by omega), Option.bind_some, S4 _ (by omega), bit8, dec_t hb, nx_add]
        refine (fin _ ((Fr.refl _ _).setI rfl) (fun x hx => ?_)).mono (by rintro (q | q) hq <;> exact hq)
        rw [← spC_9, spC, spC_men w, bit8, dec_t hb]
        by_cases q : x = wm A 8
        · subst q
          rw [ri_s, if_pos ⟨rfl, rfl⟩]
          rfl
        · rw [ri_j _ q, if_neg (fun z => q z.2.symm)]
          exact S4 x hx
  · rintro ⟨x, h1⟩ ⟨dn, rm, e1, e2, rfl, f1, Q1, H1, B1⟩
    dsimp only at f1 Q1 H1 B1
    have K1 := K.fq f1 (fun c a b => by unfold QF; omega)
    have hrm : rm = [] := by
      apply List.eq_nil_of_length_eq_zero
      have := congrArg List.length e1
      rw [List.length_append] at this
      omega
    subst hrm
    rw [List.append_nil] at e1
    subst e1
    unfold a_findLacks_24
    refine sp_neg (by rw [show (1000000 : Int32) = nI 1000000 from rfl, nx_le (by omega) (by omega)]; omega) ?_
    rw [ra_68_1 Q1.1, Option.bind_some]
    refine sp_call (r_adv_sp Q1.2.2.1 w Q1.1 hz0 q77 K1 H1) ?_
    rintro ⟨y, h2⟩ ⟨f2, hz⟩
    dsimp only at f2 hz
    have QA := Q1.ask2 f2.q (by rw [f2.r]) (fun c hc => by unfold QC at hc; omega)
    rcases hz with ⟨rfl, _⟩ | ⟨rfl, c, rm', e, _⟩
    · exact sp_pos rfl (sp_some.mpr ⟨f1.trans QA.2, QA.1, B1.fr (f2.2.2 68 (by unfold QC; omega)).1⟩)
    · cases e
theorem a_findLacks_sp (Q : QI h s A) {o : Nat} (ho : o < an A 2) : SP (a_findLacks 68 s 169 (nI o) h) (fun h' => Fq QF h h' ∧ QI h' s A ∧ BK h' (lkN A o)) := by
  have w := Q.2.2.2.2.2.1
  have e2 := w.e2
  have f1 : Fr (· = 68) h (pm_setI h 68 5 (nI 3)) := (Fr.refl (· = 68) h).setI rfl
  have Q1 := Q.ask f1 (fun c hc => .inl hc)
  unfold a_findLacks
  rw [sp_bd, kc_i3]
  have B1 : (pm_setI h 68 5 (nI 3)).2.1 68 5 = nI 3 := ri_s _
  generalize pm_setI h 68 5 (nI 3) = h1 at *
  have K2 : KT h1 s (an (h1.2.1 (s + 6))) (an (h1.2.1 (s + 7))) (an (h1.2.1 (s + 8))) := ⟨rfl, rfl, rfl⟩
  have ht := Q1.1.2.2.1.2.2.2.2.2.2.2.2.2
  generalize an (h1.2.1 (s + 6)) = one at K2 ht
  generalize an (h1.2.1 (s + 7)) = oth at K2 ht
  generalize an (h1.2.1 (s + 8)) = thd at K2 ht
  have hsv := hull_ge Q1.1.2.2.1.1
  rw [n_heard_c Q1.1.2.2.1 Q1.1.2.2.2.1 w Q1.1.1, Option.bind_some, ra_68_1 Q1.1.1, Option.bind_some]
  refine sp_call (r_begin_sp (one := one) (oth := oth) (thd := thd) Q1.1.2.2.1 w Q1.1.1 q77 ho) ?_
  rintro h3 ⟨f3, r3, H3⟩
  have QA := Q1.1.ask2 f3 (r3 69 0 (by omega)) (fun c hc => by unfold QC at hc; omega)
  have hcnt : (enumO A one oth thd o).length < 1000000 := by
    unfold enumO
    split
    · have l1 := w.o1 ho
      have l2 := w.o1p ho
      have l3 := w.e3
      have hl : (rowL A o).length = an A (58 + 6 * o + 1) := tl_len _ _
      exact enumR_cnt _ _ _ _ _ (by omega) (by omega) (by omega)
    · simp
  have B3 : BK h3 1000 := .inl ⟨rfl, by rw [f3.i _ (by unfold QC; omega)]; exact B1⟩
  rw [kc_i0]
  refine sp_call (a_lk_loop QA.1 (QA.1.2.2.2.2.2.1.p2 ho) (K2.fq f3 (fun c a b => by unfold QC; omega)) H3 hcnt B3) ?_
  rintro h4 ⟨f4, Q4, B4⟩
  refine sp_some.mpr ⟨(Q1.2.trans QA.2).trans f4, Q4, ?_⟩
  rw [lkN_of (mnK_LK (fun v => enumO_iff w ht ho v))]
  exact B4
theorem x_lacks_ok (Q : QI h s A) {o k : Nat} (ho : o < an A 2) (hk : k ≤ 2) : SP (x_lacks 0 (nI o) (nI k) h) (fun z => z.1 = vLk (lkN A o) k ∧ Fq QF h z.2 ∧ QI z.2 s A) := by
  have Q' := Q
  obtain ⟨R, _, S, H, D, w, K⟩ := Q
  unfold x_lacks
  rw [ra_0_4 R, Option.bind_some, Q'.now, Option.bind_some, c_hasOrder_t S w ho, Option.bind_some]
  refine sp_neg n10 (sp_neg (by rw [kc_0, nx_lt (by omega) (by omega)]; omega) (sp_pos (by rw [kc_i2, nx_le (by omega) (by omega)]; omega) ?_))
  rw [ra_0_7 R, Option.bind_some, Option.bind_some, Q'.now, Option.bind_some, Option.bind_some, q_hands Q', Option.bind_some]
  refine sp_call (a_findLacks_sp Q' ho) ?_
  rintro h1 ⟨f1, Q1, B1⟩
  rw [ra_0_7 Q1.1, Option.bind_some]
  generalize lkN A o = K at B1 ⊢
  rcases B1 with ⟨rfl, b5⟩ | ⟨rfl, b5, b6, b7⟩ | ⟨a, a1, rfl, b5, b6, b7⟩ | ⟨a, b, ab, b1, rfl, b5, b6, b7⟩
  · rw [b5]
    exact sp_pos (by decide) (sp_some.mpr ⟨rfl, f1, Q1⟩)
  · rw [b5]
    refine sp_neg (by decide) ?_
    rw [Option.bind_some, b5]
    by_cases k0 : k = 0
    · subst k0
      refine sp_pos (by decide) (sp_neg (fun z => z rfl) ?_)
      rw [Option.bind_some, b5]
      exact sp_some.mpr ⟨rfl, f1, Q1⟩
    · refine sp_neg (by rw [nx_le (by omega) (by omega)]; omega) (sp_some.mpr ⟨?_, f1, Q1⟩)
      unfold vLk
      rw [if_neg (by omega), if_neg k0, if_pos (show 0 < 10 by omega), if_pos (show 0 < 100 by omega)]
      split <;> rfl
  · rw [b5]
    refine sp_neg (by decide) ?_
    rw [Option.bind_some, b5]
    by_cases k2 : k = 2
    · subst k2
      refine sp_neg (by decide) (sp_some.mpr ⟨?_, f1, Q1⟩)
      unfold vLk
      rw [if_neg (by omega), if_neg (by omega), if_neg (by omega), if_pos (by omega)]
      rfl
    · refine sp_pos (by rw [nx_le (by omega) (by omega)]; omega) ?_
      by_cases k0 : k = 0
      · subst k0
        refine sp_neg (fun z => z rfl) ?_
        rw [Option.bind_some, b5]
        refine sp_some.mpr ⟨?_, f1, Q1⟩
        unfold vLk
        rw [if_neg (by omega), if_pos rfl, if_neg (by omega), if_pos (by omega)]
      · refine sp_pos (by rw [kc_0, nx_eq (by omega) (by omega)]; exact k0) ?_
        rw [Option.bind_some, kc_i1, nx_sub (by omega), show k - 1 = 0 from by omega]
        unfold a_lackWord
        rw [if_neg (fun z => z rfl), Option.bind_some, b6]
        refine sp_some.mpr ⟨?_, f1, Q1⟩
        unfold vLk
        rw [if_neg (by omega), if_neg k0, if_pos (by omega), if_neg (by omega), if_pos (by omega), Nat.add_sub_cancel_left]
  · rw [b5]
    refine sp_neg (by decide) ?_
    rw [Option.bind_some, b5]
    refine sp_pos (by rw [nx_le (by omega) (by omega)]; omega) ?_
    by_cases k0 : k = 0
    · subst k0
      refine sp_neg (fun z => z rfl) ?_
      rw [Option.bind_some, b5]
      refine sp_some.mpr ⟨?_, f1, Q1⟩
      unfold vLk
      rw [if_neg (by omega), if_pos rfl, if_neg (by omega), if_neg (by omega)]
    · refine sp_pos (by rw [kc_0, nx_eq (by omega) (by omega)]; exact k0) ?_
      rw [Option.bind_some, kc_i1, nx_sub (by omega)]
      unfold a_lackWord
      have k12 : k = 1 ∨ k = 2 := by omega
      rcases k12 with rfl | rfl
      · rw [if_neg (fun z => z rfl), Option.bind_some, b6]
        refine sp_some.mpr ⟨?_, f1, Q1⟩
        unfold vLk
        rw [if_neg (by omega), if_neg (by omega), if_pos rfl, if_neg (by omega), if_neg (by omega), show (100 + 10 * a + b - 100) / 10 = a from by omega]
      · rw [if_pos (by decide), Option.bind_some, b7]
        refine sp_some.mpr ⟨?_, f1, Q1⟩
        unfold vLk
        rw [if_neg (by omega), if_neg (by omega), if_neg (by omega), if_neg (by omega), show (100 + 10 * a + b - 100) % 10 = b from by omega]
theorem x_lacks_no (Q : QI h s A) {x y : Int32} (no : ¬ ∃ o k, x = nI o ∧ y = nI k ∧ o < an A 2 ∧ k ≤ 2) : x_lacks 0 x y h = some (ng 1, h) := by
  have Q' := Q
  obtain ⟨R, _, S, H, D, w, K⟩ := Q
  unfold x_lacks
  rw [ra_0_4 R, Option.bind_some, Q'.now, Option.bind_some]
  by_cases hx : ∃ o, o < an A 2 ∧ x = nI o
  · obtain ⟨o, ho, rfl⟩ := hx
    rw [c_hasOrder_t S w ho, Option.bind_some]
    refine (if_neg n10).trans ?_
    by_cases y0 : y < nI 0
    · exact (if_pos y0).trans (by rw [kc_im1])
    · refine (if_neg y0).trans ((if_neg ?_).trans (by rw [kc_im1]))
      rw [kc_i2]
      exact (nrng (n := 2) (by omega) (fun ⟨k, hk, e⟩ => no ⟨o, k, rfl, e, ho, hk⟩) y0).2
  · rw [c_hasOrder_f S w hx, Option.bind_some]
    exact (if_pos rfl).trans (by rw [kc_im1])
end LB
