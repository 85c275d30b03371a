/-! Questions: shortest, both sides. -/
section SS
variable {h : pm_H} {s : Nat} {A : Nat → Int32}
theorem vs_can {b S o : Nat} {r : List Nat} (h : VS A b S o r) : can (syA A) (wfb A b) S o := by
  refine ⟨setOf r, fun i hi => ?_, r, h.2.1, h.1, rfl, h.2.2.2⟩
  exact (h.2.2.1 i (mem_setOf.mpr hi)).2
theorem hrd_MS (w : WFA A) : MS A (bN A) (hrdN A) := ⟨(hrd_255 w).2.2, fun _ q => hrd_al w q⟩
theorem KT.fq {h' : pm_H} {one oth thd : Nat → Nat} {P : Nat → Prop} (K : KT h s one oth thd) (f : Fq P h h') (hP : ∀ c, s ≤ c → c ≤ s + 9 → ¬ P c) : KT h' s one oth thd := by
  unfold KT at K ⊢
  rw [(f.2.2 (s + 6) (hP _ (by omega) (by omega))).1, (f.2.2 (s + 7) (hP _ (by omega) (by omega))).1, (f.2.2 (s + 8) (hP _ (by omega) (by omega))).1]
  exact K
theorem BH.fr {h' : pm_H} {best : Option (List Nat)} (B : BH h best) (h1 : h'.2.1 68 = h.2.1 68) (h2 : h'.2.1 81 = h.2.1 81) : BH h' best := by
  unfold BH at B ⊢
  rw [h1, h2]
  exact B
noncomputable def nb (A : Nat → Int32) (b S : Nat) (best : Option (List Nat)) (v : List Nat) : Option (List Nat) := match seatL (wfb A b) S v with
  | none => best
  | some t => match best with
    | none => some t
    | some b0 => @ite (Option (List Nat)) (bef b0 t) (Classical.propDecidable _) (some b0) (some t)
theorem BST_nb {A : Nat → Int32} {b S : Nat} {dn : List (List Nat)} {best : Option (List Nat)} (h : BST A b S dn best) (v : List Nat) : BST A b S (dn ++ [v]) (nb A b S best v) := by
  have z := BST_step h v
  unfold nb
  cases hs : seatL (wfb A b) S v with
  | none => rw [hs] at z; exact z
  | some t =>
    rw [hs] at z
    cases best with
    | none => exact z
    | some b0 => exact z
theorem a_fs_81 (Q : QI h s A) {v : List Nat} {best : Option (List Nat)} (C : CUR h 77 v) (B : BH h best) {i : Nat} (z : Bool) (hz : z = true ↔ ∃ b0, best = some b0 ∧ b0.length < v.length) : SP (a_findShortest_81 68 s 169 (nI (hrdN A)) (nI i) (nI z.toNat) h) (fun q => match q with
    | .inl s' => s'.1 = nI (i + 1) ∧ Fr (fun c => c = 68 ∨ c = 81 ∨ c = 82) h s'.2 ∧ BH s'.2 (nb A (bN A) (hrdN A) best v)
    | .inr _ => False) := by
  have w := Q.2.2.2.2.2.1
  have R := Q.1
  have hl := C.2.2.1
  have hl0 := C.2.1
  unfold a_findShortest_81
  simp (disch := omega) only [kc_im8, kc_im1, kc_i0, kc_i1, kc_i2, kc_i3, kc_i4, kc_i5, kc_b_m100, kc_b_m16, kc_b_m15, kc_b_m14, kc_b_m13, kc_b_m12, kc_b_m11, kc_b_m2, kc_b_6, kc_b_7, kc_b_8, kc_b_9, kc_b_10, kc_b_11, kc_b_12, kc_b_13, kc_b_14, kc_b_15, kc_b_16, kc_b_20, kc_b_24, kc_b_32, kc_b_37, kc_b_40, kc_b_42, kc_b_43, kc_b_45, kc_b_47, kc_b_48, kc_b_57, kc_b_58, kc_b_59, kc_b_60, kc_b_61, kc_b_62, kc_b_63, kc_b_91, kc_b_93, kc_b_97, kc_b_99, kc_b_100, kc_b_106, kc_b_122, kc_s_206, kc_s_226, kc_s_227, kc_s_255, kc_s_256, kc_s_316, kc_s_318, kc_s_400, kc_s_512, kc_s_999, kc_s_1160, kc_s_1536, kc_s_3003, kc_lm11, kc_lm10, kc_lm9, kc_lm8, kc_lm7, kc_lm6, kc_lm5, kc_lm4, kc_lm3, kc_lm2, kc_lm1, kc_l1, kc_l2, kc_l3, kc_l4, kc_l5, kc_l6, kc_l7, kc_l8, kc_l9, kc_l10, kc_l11, kc_l12, kc_l13, kc_l14, kc_l37, kc_l42, kc_l43, kc_l45, kc_l47, kc_l60, kc_l61, kc_l62, kc_l316, kc_l318, kc_l65536, kc_l99999, kc_l1000000, kc_l252645135, kc_l858993459, kc_l1431655765, kc_0, kc_on, nx_add]
  cases z with
  | true =>
    obtain ⟨b0, e, hlt⟩ := hz.mp rfl
    refine sp_pos n10 (sp_some.mpr ⟨rfl, Fr.refl _ _, ?_⟩)
    have : nb A (bN A) (hrdN A) best v = best := by
      unfold nb
      cases hs : seatL (wfb A (bN A)) (hrdN A) v with
      | none => rfl
      | some t =>
        have hlen : t.length = v.length := by
          have := congrArg List.length (seat_ok _ _ _ _ hs).1
          simpa using this
        rw [e]
        dsimp only
        rw [if_pos (.inl (by omega))]
    rw [this]
    exact B
  | false =>
    refine sp_neg (by simp) ?_
    rw [Q.2.2.2.1.2.2.2.2.2.1, ← (bN_bv w).1]
    refine sp_call (a_seat_sp Q.2.2.1 w R (bN_bv w).2 (hrd_MS w) C) ?_
    rintro ⟨x, h1⟩ ⟨f1, hx⟩
    dsimp only at f1 hx
    have f1' : Fr (fun c => c = 68 ∨ c = 81 ∨ c = 82) h h1 := f1.mono (fun c hc => .inr (.inr hc))
    have R1 := R.fr f1
    have C1 : CUR h1 77 v := C.fr (f1.2.2 77 (by omega)).1 (f1.2.2 78 (by omega)).1
    have B1 : BH h1 best := B.fr (f1.2.2 68 (by omega)).1 (f1.2.2 81 (by omega)).1
    cases hs : seatL (wfb A (bN A)) (hrdN A) v with
    | none =>
      rw [hs] at hx
      dsimp only at hx
      subst hx
      refine sp_pos rfl (sp_some.mpr ⟨rfl, f1', ?_⟩)
      unfold nb
      rw [hs]
      exact B1
    | some t =>
      rw [hs] at hx
      obtain ⟨e1, ct⟩ := hx
      subst e1
      have ok := seat_ok _ _ _ _ hs
      have hlen : t.length = v.length := by
        have := congrArg List.length ok.1
        simpa using this
      have ct' : ∀ i, i < t.length → h1.2.1 82 i = nI (t.getD i 0) ∧ t.getD i 0 < 9 := fun i hi => ⟨ct i hi, (ok.2.2 _ (getD_lt_mem hi)).1⟩
      refine sp_neg n10 ?_
      rw [a_isBetter_n R1 C1 B1 hlen.symm ct', Option.bind_some]
      have take : SP ((gO h1 68 1 5).bind fun y6 => bd (pm_setI h1 68 3 (h1.2.1 y6 6)) fun h7 => (gA h7 68 4 .int).bind fun y8 => (gA h7 68 2 .int).bind fun y9 => if mi_cp (mi_n y8) (mi_n y9) (nI 0) (nI 0) (nI 5) = true then bd (pm_rowI h7 y9 (va_cpy (h7.2.1 y8) (h7.2.1 y9) (nI 0).toNatClampNeg (nI 0).toNatClampNeg (nI 5).toNatClampNeg)) fun h11 => some (Sum.inl (nI (i + 1), h11) : (Int32 × pm_H) ⊕ pm_H) else none) (fun q => match q with
          | .inl s' => s'.1 = nI (i + 1) ∧ Fr (fun c => c = 68 ∨ c = 81 ∨ c = 82) h s'.2 ∧ BH s'.2 (some t)
          | .inr _ => False) := by
        rw [ra_68_1 R1, Option.bind_some, sp_bd, C1.1]
        simp (disch := omega) only [ra_68_4 R1.setI, ra_68_2 R1.setI, Option.bind_some, mn_81, mn_82, nx_cl]
        refine sp_pos (mi_cp_t (by omega) (by omega) (by omega) (by omega)) ?_
        rw [sp_bd, sp_some]
        refine ⟨rfl, (f1'.setI (.inl rfl)).rowI (.inr (.inl rfl)), ?_, by omega, by omega, fun j hj => ?_⟩
        · show (pm_rowI (pm_setI h1 68 3 (nI v.length)) 81 _).2.1 68 3 = _
          rw [ri_rc _ (by omega), ri_s, hlen]
        · show (pm_rowI (pm_setI h1 68 3 (nI v.length)) 81 _).2.1 81 j = _ ∧ _
          rw [ri_r]
          unfold va_cpy
          rw [if_pos (by omega), Nat.zero_add, Nat.sub_zero, ri_c _ (by omega)]
          exact ct' j hj
      cases best with
      | none =>
        dsimp only
        refine sp_neg n10 (take.mono ?_)
        rintro (q | q) hq
        · refine ⟨hq.1, hq.2.1, ?_⟩
          unfold nb
          rw [hs]
          exact hq.2.2
        · exact hq
      | some b0 =>
        dsimp only
        by_cases q : bef b0 t
        · refine sp_pos (by rw [dec_t q]; rfl) (sp_some.mpr ⟨rfl, f1', ?_⟩)
          unfold nb
          rw [hs]
          dsimp only
          rw [if_pos q]
          exact B1
        · refine sp_neg (by rw [dec_f q]; exact n10) (take.mono ?_)
          rintro (z | z) hz
          · refine ⟨hz.1, hz.2.1, ?_⟩
            unfold nb
            rw [hs]
            dsimp only
            rw [if_neg q]
            exact hz.2.2
          · exact hz
theorem a_fs_loop (Q : QI h s A) (hz0 : 0 < an A 0) {one oth thd : Nat → Nat} (K : KT h s one oth thd) {rows : List (List Nat)} (H : RS A one oth thd h 77 s rows) (hr : rows.length < 1000000) (B : BH h none) : SP (wh (fun z : (Int32 × pm_H) => a_findShortest_38 68 s 169 (nI (hrdN A)) z.1 z.2) (nI 0, h)) (fun h' => Fq QF h h' ∧ QI h' s A ∧ ∃ best, BST A (bN A) (hrdN A) rows best ∧ BH h' best) := by
  have hsv := hull_ge Q.2.2.1.1
  refine wh_cnt (fun i z => ∃ dn rm best, rows = dn ++ rm ∧ dn.length = i ∧ z.1 = nI i ∧ Fq QF h z.2 ∧ QI z.2 s A ∧ RS A one oth thd z.2 77 s rm ∧ BST A (bN A) (hrdN A) dn best ∧ BH z.2 best) _ rows.length ?_ ?_ 0 (nI 0, h) (by omega) ⟨[], rows, none, rfl, rfl, rfl, Fq.refl _ _, Q, H, fun v hv => by simp at hv, B⟩
  · rintro i ⟨x, h1⟩ hi ⟨dn, rm, best, e1, e2, rfl, f1, Q1, H1, b1, B1⟩
    dsimp only at f1 Q1 H1 B1
    have K1 := K.fq f1 (fun c a b => by unfold QF; omega)
    unfold a_findShortest_38
    simp (disch := omega) only [kc_im8, kc_im1, kc_i0, kc_i1, kc_i2, kc_i3, kc_i4, kc_i5, kc_b_m100, kc_b_m16, kc_b_m15, kc_b_m14, kc_b_m13, kc_b_m12, kc_b_m11, kc_b_m2, kc_b_6, kc_b_7, kc_b_8, kc_b_9, kc_b_10, kc_b_11, kc_b_12, kc_b_13, kc_b_14, kc_b_15, kc_b_16, kc_b_20, kc_b_24, kc_b_32, kc_b_37, kc_b_40, kc_b_42, kc_b_43, kc_b_45, kc_b_47, kc_b_48, kc_b_57, kc_b_58, kc_b_59, kc_b_60, kc_b_61, kc_b_62, kc_b_63, kc_b_91, kc_b_93, kc_b_97, kc_b_99, kc_b_100, kc_b_106, kc_b_122, kc_s_206, kc_s_226, kc_s_227, kc_s_255, kc_s_256, kc_s_316, kc_s_318, kc_s_400, kc_s_512, kc_s_999, kc_s_1160, kc_s_1536, kc_s_3003, kc_lm11, kc_lm10, kc_lm9, kc_lm8, kc_lm7, kc_lm6, kc_lm5, kc_lm4, kc_lm3, kc_lm2, kc_lm1, kc_l1, kc_l2, kc_l3, kc_l4, kc_l5, kc_l6, kc_l7, kc_l8, kc_l9, kc_l10, kc_l11, kc_l12, kc_l13, kc_l14, kc_l37, kc_l42, kc_l43, kc_l45, kc_l47, kc_l60, kc_l61, kc_l62, kc_l316, kc_l318, kc_l65536, kc_l99999, kc_l1000000, kc_l252645135, kc_l858993459, kc_l1431655765, kc_0, kc_on, nx_lt, nx_le, nx_eq, nx_add, nx_sub, nx_mul, nx_cl, n_lt_ng, n_le_ng, n_eq_ng, ng_lt_n, ng_le_n, ng_eq_n, ng_eq, ng_lt, ng_le, nx_dec, ra_68_1 Q1.1, Option.bind_some]
    refine sp_neg (by omega) ?_
    refine sp_call (r_adv_sp Q1.2.2.1 Q1.2.2.2.2.2.1 Q1.1 hz0 q77 K1 H1) ?_
    rintro ⟨y, h2⟩ ⟨f2, hz⟩
    dsimp only at f2 hz
    have QA := Q1.ask2 f2.q (by rw [f2.r]) (fun c hc => by unfold QC at hc; omega)
    rcases hz with ⟨rfl, rfl⟩ | ⟨rfl, c, rm', rfl, H2, C2⟩
    · exfalso
      rw [e1, List.append_nil] at hi
      omega
    · have B2 : BH h2 best := B1.fr (f2.2.2 68 (by unfold QC; omega)).1 (f2.2.2 81 (by unfold QC; omega)).1
      have fin : ∀ z : Bool, (z = true ↔ ∃ b0, best = some b0 ∧ b0.length < c.length) → SP (a_findShortest_81 68 s 169 (nI (hrdN A)) (nI i) (nI z.toNat) h2) (fun q => match q with
          | .inl s' => ∃ dn rm best, rows = dn ++ rm ∧ dn.length = i + 1 ∧ s'.1 = nI (i + 1) ∧ Fq QF h s'.2 ∧ QI s'.2 s A ∧ RS A one oth thd s'.2 77 s rm ∧ BST A (bN A) (hrdN A) dn best ∧ BH s'.2 best
          | .inr h' => Fq QF h h' ∧ QI h' s A ∧ ∃ best, BST A (bN A) (hrdN A) rows best ∧ BH h' best) := by
        intro z hz
        refine (a_fs_81 QA.1 C2 B2 z hz).mono ?_
        rintro (⟨y, h3⟩ | h3) hq
        · obtain ⟨e3, f3, B3⟩ := hq
          dsimp only at e3 f3 B3
          have QB := QA.1.ask2 f3.q (by rw [f3.r]) (fun c hc => by omega)
          refine ⟨dn ++ [c], rm', nb A (bN A) (hrdN A) best c, by rw [e1]; simp, by simp [e2], e3, (f1.trans QA.2).trans QB.2, QB.1, ?_, BST_nb b1 c, B3⟩
          exact H2.fr (by rw [f3.r]) (f3.2.2 77 (by omega)).1 (f3.2.2 78 (by omega)).1 (f3.2.2 79 (by omega)).1 (f3.2.2 80 (by omega)).1
        · exact hq.elim
      refine sp_neg n10 ?_
      dsimp only
      have hc5 := C2.2.2.1
      cases best with
      | none =>
        have B2 : h2.2.1 68 3 = nI 0 := B2
        rw [B2]
        refine sp_pos (by decide) ((fin false ⟨fun q => (by cases q), fun ⟨_, q, _⟩ => by cases q⟩).mono ?_)
        rintro (q | q) hq <;> exact hq
      | some b0 =>
        obtain ⟨k1, k2, k3, _⟩ := B2
        rw [k1]
        refine sp_neg (by rw [nx_le (by omega) (by omega)]; omega) ?_
        rw [ra_68_1 QA.1.1, Option.bind_some, C2.1]
        by_cases q : c.length ≤ b0.length
        · refine sp_pos (by rw [nx_le (by omega) (by omega)]; exact q) ((fin false ⟨fun z => (by cases z), fun ⟨b', e, z⟩ => by cases e; omega⟩).mono ?_)
          rintro (q | q) hq <;> exact hq
        · refine sp_neg (by rw [nx_le (by omega) (by omega)]; exact q) ((fin true ⟨fun _ => ⟨b0, rfl, by omega⟩, fun _ => rfl⟩).mono ?_)
          rintro (q | q) hq <;> exact hq
  · rintro ⟨x, h1⟩ ⟨dn, rm, best, e1, e2, rfl, f1, Q1, H1, b1, B1⟩
    dsimp only at f1 Q1 H1 B1
    have K1 := K.fq f1 (fun c a b => by unfold QF; omega)
    have hrm : rm = [] := by
      apply List.eq_nil_of_length_eq_zero
      have := congrArg List.length e1
      rw [List.length_append] at this
      omega
    subst hrm
    rw [List.append_nil] at e1
    subst e1
    unfold a_findShortest_38
    simp (disch := omega) only [kc_im8, kc_im1, kc_i0, kc_i1, kc_i2, kc_i3, kc_i4, kc_i5, kc_b_m100, kc_b_m16, kc_b_m15, kc_b_m14, kc_b_m13, kc_b_m12, kc_b_m11, kc_b_m2, kc_b_6, kc_b_7, kc_b_8, kc_b_9, kc_b_10, kc_b_11, kc_b_12, kc_b_13, kc_b_14, kc_b_15, kc_b_16, kc_b_20, kc_b_24, kc_b_32, kc_b_37, kc_b_40, kc_b_42, kc_b_43, kc_b_45, kc_b_47, kc_b_48, kc_b_57, kc_b_58, kc_b_59, kc_b_60, kc_b_61, kc_b_62, kc_b_63, kc_b_91, kc_b_93, kc_b_97, kc_b_99, kc_b_100, kc_b_106, kc_b_122, kc_s_206, kc_s_226, kc_s_227, kc_s_255, kc_s_256, kc_s_316, kc_s_318, kc_s_400, kc_s_512, kc_s_999, kc_s_1160, kc_s_1536, kc_s_3003, kc_lm11, kc_lm10, kc_lm9, kc_lm8, kc_lm7, kc_lm6, kc_lm5, kc_lm4, kc_lm3, kc_lm2, kc_lm1, kc_l1, kc_l2, kc_l3, kc_l4, kc_l5, kc_l6, kc_l7, kc_l8, kc_l9, kc_l10, kc_l11, kc_l12, kc_l13, kc_l14, kc_l37, kc_l42, kc_l43, kc_l45, kc_l47, kc_l60, kc_l61, kc_l62, kc_l316, kc_l318, kc_l65536, kc_l99999, kc_l1000000, kc_l252645135, kc_l858993459, kc_l1431655765, kc_0, kc_on, nx_lt, nx_le, nx_eq, nx_add, nx_sub, nx_mul, nx_cl, n_lt_ng, n_le_ng, n_eq_ng, ng_lt_n, ng_le_n, ng_eq_n, ng_eq, ng_lt, ng_le, nx_dec, ra_68_1 Q1.1, Option.bind_some]
    refine sp_neg (by omega) ?_
    refine sp_call (r_adv_sp Q1.2.2.1 Q1.2.2.2.2.2.1 Q1.1 hz0 q77 K1 H1) ?_
    rintro ⟨y, h2⟩ ⟨f2, hz⟩
    dsimp only at f2 hz
    have QA := Q1.ask2 f2.q (by rw [f2.r]) (fun c hc => by unfold QC at hc; omega)
    rcases hz with ⟨rfl, _⟩ | ⟨rfl, c, rm', e, _⟩
    · exact sp_pos rfl (sp_some.mpr ⟨f1.trans QA.2, QA.1, best, b1, B1.fr (f2.2.2 68 (by unfold QC; omega)).1 (f2.2.2 81 (by unfold QC; omega)).1⟩)
    · cases e
theorem a_findShortest_sp (Q : QI h s A) {o : Nat} (ho : o < an A 2) : SP (a_findShortest 68 s 169 (nI o) h) (fun h' => Fq QF h h' ∧ QI h' s A ∧ BH h' (shF A (bN A) (hrdN A) o)) := by
  have w := Q.2.2.2.2.2.1
  have e2 := w.e2
  have h0 : 0 < an A 0 := by
    apply Classical.byContradiction
    intro q
    have := (w.men0 (by omega)).2.1
    omega
  have hr := hrd_255 w
  have hbv := bN_bv w
  have f1 : Fr (· = 68) h (pm_setI h 68 3 (nI 0)) := (Fr.refl (· = 68) h).setI rfl
  have Q1 := Q.ask f1 (fun c hc => .inl hc)
  unfold a_findShortest a_canSay
  simp only [kc_im8, kc_im1, kc_i0, kc_i1, kc_i2, kc_i3, kc_i4, kc_i5, kc_b_m100, kc_b_m16, kc_b_m15, kc_b_m14, kc_b_m13, kc_b_m12, kc_b_m11, kc_b_m2, kc_b_6, kc_b_7, kc_b_8, kc_b_9, kc_b_10, kc_b_11, kc_b_12, kc_b_13, kc_b_14, kc_b_15, kc_b_16, kc_b_20, kc_b_24, kc_b_32, kc_b_37, kc_b_40, kc_b_42, kc_b_43, kc_b_45, kc_b_47, kc_b_48, kc_b_57, kc_b_58, kc_b_59, kc_b_60, kc_b_61, kc_b_62, kc_b_63, kc_b_91, kc_b_93, kc_b_97, kc_b_99, kc_b_100, kc_b_106, kc_b_122, kc_s_206, kc_s_226, kc_s_227, kc_s_255, kc_s_256, kc_s_316, kc_s_318, kc_s_400, kc_s_512, kc_s_999, kc_s_1160, kc_s_1536, kc_s_3003, kc_lm11, kc_lm10, kc_lm9, kc_lm8, kc_lm7, kc_lm6, kc_lm5, kc_lm4, kc_lm3, kc_lm2, kc_lm1, kc_l1, kc_l2, kc_l3, kc_l4, kc_l5, kc_l6, kc_l7, kc_l8, kc_l9, kc_l10, kc_l11, kc_l12, kc_l13, kc_l14, kc_l37, kc_l42, kc_l43, kc_l45, kc_l47, kc_l60, kc_l61, kc_l62, kc_l316, kc_l318, kc_l65536, kc_l99999, kc_l1000000, kc_l252645135, kc_l858993459, kc_l1431655765, kc_0, kc_on]
  rw [sp_bd]
  have B1 : (pm_setI h 68 3 (nI 0)).2.1 68 3 = nI 0 := ri_s _
  generalize pm_setI h 68 3 (nI 0) = h1 at *
  rw [ra_68_0 Q1.1.1, Option.bind_some, n_heard_c Q1.1.2.2.1 Q1.1.2.2.2.1 w Q1.1.1, Option.bind_some, Q1.1.2.2.2.1.2.2.2.2.2.1, ← hbv.1]
  simp only [sp_bind]
  refine (k_ord Q1.1 h0 hbv.2 (by rw [hr.1]; exact hr.2.1)).mono ?_
  rintro ⟨v, h2⟩ ⟨e, f2, Q2⟩
  dsimp only at e f2 Q2
  subst e
  have f12 : Fq QF h h2 := Q1.2.trans (f2.q.mono (fun c hc => hc.qf))
  have B2 : h2.2.1 68 3 = nI 0 := by rw [f2.i _ (by unfold KF; omega)]; exact B1
  have hc := cN_lt A (bN A) (hrdM A ||| bb (bN A))
  rw [sp_some, hr.1]
  dsimp only
  rw [x_bit_n (by omega) (by omega), sp_some]
  cases hbit : (cN A (bN A) (hrdM A ||| bb (bN A))).testBit o with
  | false =>
    refine sp_neg (by simp) (sp_some.mpr ⟨f12, Q2, ?_⟩)
    rw [shF_none]
    · exact B2
    · intro r hv
      have := (cN_bit w (bN A) (hrdN A) o).mpr (vs_can hv)
      unfold hrdN at this
      rw [hbit] at this
      cases this
  | true =>
    refine sp_pos n10 ?_
    rw [n_heard_c Q2.2.2.1 Q2.2.2.2.1 w Q2.1, sp_bind, sp_some, sp_bind, ra_68_1 Q2.1, sp_some, sp_bind]
    have K2 : KT h2 s (an (h2.2.1 (s + 6))) (an (h2.2.1 (s + 7))) (an (h2.2.1 (s + 8))) := ⟨rfl, rfl, rfl⟩
    have ht := Q2.2.2.1.2.2.2.2.2.2.2.2.2
    generalize an (h2.2.1 (s + 6)) = one at K2 ht
    generalize an (h2.2.1 (s + 7)) = oth at K2 ht
    generalize an (h2.2.1 (s + 8)) = thd at K2 ht
    have hsv := hull_ge Q2.2.2.1.1
    refine (r_begin_sp (one := one) (oth := oth) (thd := thd) Q2.2.2.1 w Q2.1 q77 ho).mono ?_
    rintro h3 ⟨f3, r3, H3⟩
    have QA := Q2.ask2 f3 (r3 69 0 (by omega)) (fun c hc => by unfold QC at hc; omega)
    have hcnt : (enumO A one oth thd o).length < 1000000 := by
      unfold enumO
      split
      · have l1 := w.o1 ho
        have l2 := w.o1p ho
        have l3 := w.e3
        have hl : (rowL A o).length = an A (58 + 6 * o + 1) := tl_len _ _
        exact enumR_cnt _ _ _ _ _ (by omega) (by omega) (by omega)
      · simp
    have B3 : BH h3 none := by show h3.2.1 68 3 = nI 0; rw [f3.i _ (by unfold QC; omega)]; exact B2
    rw [sp_bind]
    refine (a_fs_loop QA.1 (QA.1.2.2.2.2.2.1.p2 ho) (K2.fq f3 (fun c a b => by unfold QC; omega)) H3 hcnt B3).mono ?_
    rintro h4 ⟨f4, Q4, best, b4, B4⟩
    refine sp_some.mpr ⟨(f12.trans QA.2).trans f4, Q4, ?_⟩
    rw [BST_end (fun v => enumO_iff w ht ho v) b4]
    exact B4
noncomputable def vShort (A : Nat → Int32) (x y : Int32) : Int32 := @ite Int32 ((∃ k, k < an A 2 ∧ x = nI k) ∧ ∃ k, k ≤ 5 ∧ y = nI k) (Classical.propDecidable _) (match shF A (bN A) (hrdN A) x.toNatClampNeg with
  | none => ng 2
  | some t => if y = nI 0 then nI t.length else if t.length < y.toNatClampNeg then ng 2 else nI (t.getD (y.toNatClampNeg - 1) 0)) (ng 1)
theorem x_shortest_sp (Q : QI h s A) (x y : Int32) : SP (x_shortest 0 x y h) (fun z => z.1 = vShort A x y ∧ Fq QF h z.2 ∧ QI z.2 s A) := by
  have Q' := Q
  obtain ⟨R, h1, S, H, D, w, C⟩ := Q
  have e2 := w.e2
  have none_ : ¬ ((∃ k, k < an A 2 ∧ x = nI k) ∧ ∃ k, k ≤ 5 ∧ y = nI k) → SP (some (ng 1, h)) (fun z : Int32 × pm_H => z.1 = vShort A x y ∧ Fq QF h z.2 ∧ QI z.2 s A) := by
    intro q
    refine sp_some.mpr ⟨?_, Fq.refl _ _, Q'⟩
    unfold vShort
    rw [if_neg q]
  unfold x_shortest
  rw [ra_0_4 R, Option.bind_some, Q'.now, Option.bind_some]
  simp only [kc_im8, kc_im1, kc_i0, kc_i1, kc_i2, kc_i3, kc_i4, kc_i5, kc_b_m100, kc_b_m16, kc_b_m15, kc_b_m14, kc_b_m13, kc_b_m12, kc_b_m11, kc_b_m2, kc_b_6, kc_b_7, kc_b_8, kc_b_9, kc_b_10, kc_b_11, kc_b_12, kc_b_13, kc_b_14, kc_b_15, kc_b_16, kc_b_20, kc_b_24, kc_b_32, kc_b_37, kc_b_40, kc_b_42, kc_b_43, kc_b_45, kc_b_47, kc_b_48, kc_b_57, kc_b_58, kc_b_59, kc_b_60, kc_b_61, kc_b_62, kc_b_63, kc_b_91, kc_b_93, kc_b_97, kc_b_99, kc_b_100, kc_b_106, kc_b_122, kc_s_206, kc_s_226, kc_s_227, kc_s_255, kc_s_256, kc_s_316, kc_s_318, kc_s_400, kc_s_512, kc_s_999, kc_s_1160, kc_s_1536, kc_s_3003, kc_lm11, kc_lm10, kc_lm9, kc_lm8, kc_lm7, kc_lm6, kc_lm5, kc_lm4, kc_lm3, kc_lm2, kc_lm1, kc_l1, kc_l2, kc_l3, kc_l4, kc_l5, kc_l6, kc_l7, kc_l8, kc_l9, kc_l10, kc_l11, kc_l12, kc_l13, kc_l14, kc_l37, kc_l42, kc_l43, kc_l45, kc_l47, kc_l60, kc_l61, kc_l62, kc_l316, kc_l318, kc_l65536, kc_l99999, kc_l1000000, kc_l252645135, kc_l858993459, kc_l1431655765, kc_0, kc_on]
  by_cases hx : ∃ k, k < an A 2 ∧ x = nI k
  · obtain ⟨o, ho, rfl⟩ := hx
    rw [c_hasOrder_t S w ho, Option.bind_some]
    refine sp_neg n10 ?_
    by_cases hy : ∃ k, k ≤ 5 ∧ y = nI k
    · obtain ⟨k, hk, rfl⟩ := hy
      have hv : vShort A (nI o) (nI k) = (match shF A (bN A) (hrdN A) o with
          | none => ng 2
          | some t => if nI k = nI 0 then nI t.length else if t.length < k then ng 2 else nI (t.getD (k - 1) 0)) := by
        unfold vShort
        rw [if_pos ⟨⟨o, ho, rfl⟩, k, hk, rfl⟩, nx_cl (by omega), nx_cl (by omega)]
      rw [hv]
      refine sp_neg (by rw [nx_lt (by omega) (by omega)]; omega) (sp_pos (by rw [nx_le (by omega) (by omega)]; omega) ?_)
      rw [ra_0_7 R, Option.bind_some, Option.bind_some, Q'.now, Option.bind_some, Option.bind_some, q_hands Q', Option.bind_some]
      refine sp_call (a_findShortest_sp Q' ho) ?_
      rintro h2 ⟨f2, Q2, B2⟩
      rw [ra_0_7 Q2.1, Option.bind_some]
      cases hb : shF A (bN A) (hrdN A) o with
      | none =>
        rw [hb] at B2
        have B2 : h2.2.1 68 3 = nI 0 := B2
        rw [B2]
        exact sp_neg (by simp) (sp_some.mpr ⟨rfl, f2, Q2⟩)
      | some t =>
        rw [hb] at B2
        obtain ⟨k1, k2, k3, k4⟩ := B2
        rw [k1]
        refine sp_pos (by rw [nx_eq (by omega) (by omega)]; omega) ?_
        dsimp only
        by_cases q0 : k = 0
        · subst q0
          refine sp_neg (by simp) ?_
          rw [Option.bind_some, k1]
          exact sp_some.mpr ⟨by rw [if_pos rfl], f2, Q2⟩
        · have hk0 : ¬ nI k = nI 0 := by rw [nx_eq (by omega) (by omega)]; exact q0
          refine sp_pos hk0 ?_
          rw [Option.bind_some, k1]
          by_cases q1 : t.length < k
          · exact sp_pos (by rw [nx_lt (by omega) (by omega)]; exact q1) (sp_some.mpr ⟨by rw [if_neg hk0, if_pos q1], f2, Q2⟩)
          · refine sp_neg (by rw [nx_lt (by omega) (by omega)]; exact q1) ?_
            rw [Option.bind_some, ra_68_2 Q2.1, Option.bind_some, mn_81, nx_sub (by omega), gi_n (by omega), nx_cl (by omega), (k4 (k - 1) (by omega)).1]
            exact sp_pos (by simp; omega) (sp_some.mpr ⟨by rw [if_neg hk0, if_neg q1], f2, Q2⟩)
    · by_cases q0 : y < nI 0
      · exact sp_pos q0 (none_ (fun q => hy q.2))
      · exact sp_neg q0 (sp_neg (nrng (by omega) hy q0).2 (none_ (fun q => hy q.2)))
  · rw [c_hasOrder_f S w hx, Option.bind_some]
    exact sp_pos rfl (none_ (fun q => hx q.1))
end SS
