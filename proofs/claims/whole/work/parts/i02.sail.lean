/-! voyages, of the program. -/
/-- who is mute, and the sums of a voyage: hands, draws, how many, their needs -/
noncomputable def muteN (A B : Nat → Int32) : Nat := sd (2 ^ an A 2 - 1) (cN A (bN A) (hrdN B))
noncomputable def stV (A : Nat → Int32) (p : Nat) (q : (Nat → Int32) × Nat × Nat × Nat) : (Nat → Int32) × Nat × Nat × Nat := (psA (hourV p q.1 q.2.1).1, (hourV p q.1 q.2.1).2, q.2.2.1 + pc (muteN A (hourV p q.1 q.2.1).1), q.2.2.2 + ndN A (muteN A (hourV p q.1 q.2.1).1))
noncomputable def hrV (A : Nat → Int32) (p : Nat) : Nat → (Nat → Int32) × Nat × Nat × Nat → (Nat → Int32) × Nat × Nat × Nat
  | 0, q => q
  | i + 1, q => stV A p (hrV A p i q)
noncomputable def trV (A : Nat → Int32) (p n : Nat) : Nat → Nat × Nat × Nat → Nat × Nat × Nat
  | 0, q => q
  | i + 1, q => (hrV A p n (A, trV A p n i q)).2
noncomputable def vVoy (A : Nat → Int32) (X m n p k : Nat) : Int32 := if k = 0 then nI (trV A p n m (X, 0, 0)).2.1 else nI (trV A p n m (X, 0, 0)).2.2
section SL
variable {h : pm_H} {s : Nat} {A B : Nat → Int32} {p k X : Nat}
theorem mute_lt (w : WFA A) : muteN A B < 256 := by
  have e2 := w.e2
  have h1 : 2 ^ an A 2 ≤ 2 ^ 8 := Nat.pow_le_pow_right (by decide) (by omega)
  have h2 : 2 ^ an A 2 - 1 < 2 ^ 8 := by omega
  exact sd_lt _ h2
/-- the program at sea: the question's world A, the sailing hands B, the draw X, the sums -/
def SV (h : pm_H) (s : Nat) (A B : Nat → Int32) (X u v : Nat) : Prop := QI h s A ∧ CHd h 86 B ∧ h.2.1 68 18 = nI X ∧ X < 2147483648 ∧ h.2.1 68 16 = nI u ∧ h.2.1 68 17 = nI v
theorem SV.draw {u v Y : Nat} (Q : SV h s A B X u v) (hY : Y < 2147483648) : SV (pm_setI h 68 18 (nI Y)) s A B Y u v ∧ Fq QF h (pm_setI h 68 18 (nI Y)) := by
  obtain ⟨Q1, H, x18, hX, u16, v17⟩ := Q
  have f : Fr (· = 68) h (pm_setI h 68 18 (nI Y)) := (Fr.refl _ _).setI rfl
  have Q2 := Q1.ask f (fun c hc => by omega)
  exact ⟨⟨Q2.1, H.of (f.2.2 86 (by omega)).1 (f.2.2 87 (by omega)).1 (f.2.2 88 (by omega)).1, ri_s _, hY, by rw [ri_j _ (by omega)]; exact u16, by rw [ri_j _ (by omega)]; exact v17⟩, Q2.2⟩
theorem SV.set {u v j : Nat} {C : Nat → Int32} {y : Int32} (Q : SV h s A B X u v) (H : CHd (pm_setI h 86 j y) 86 C) : SV (pm_setI h 86 j y) s A C X u v ∧ Fq QF h (pm_setI h 86 j y) := by
  obtain ⟨Q1, _, x18, hX, u16, v17⟩ := Q
  have f : Fr (· = 86) h (pm_setI h 86 j y) := (Fr.refl _ _).setI rfl
  have Q2 := Q1.ask f (fun c hc => by omega)
  exact ⟨⟨Q2.1, H, by rw [ri_c _ (by omega)]; exact x18, hX, by rw [ri_c _ (by omega)]; exact u16, by rw [ri_c _ (by omega)]; exact v17⟩, Q2.2⟩
theorem a_rsW {u v : Nat} (Q : SV h s A B X u v) (V : VI A B k) (hp : p ≤ 100) : SP (wh (fun q : (Int32 × pm_H) => a_sailHour_15 68 s (nI p) q.1 q.2) (nI 0, h)) (fun h' => SV h' s A (rsV p (an A 1) B X).1 (rsV p (an A 1) B X).2 u v ∧ Fq QF h h') := by
  have w := Q.1.2.2.2.2.2.1
  have e1 := w.e1
  refine wh_cnt (fun i q => q.1 = nI i ∧ SV q.2 s A (rsV p i B X).1 (rsV p i B X).2 u v ∧ Fq QF h q.2) _ (an A 1) ?_ ?_ 0 (nI 0, h) (by omega) ⟨rfl, Q, Fq.refl _ _⟩
  · rintro i ⟨y, h1⟩ hi ⟨hy, Q1, f1⟩
    dsimp only at hy Q1 f1
    subst hy
    have V1 := (V.rs (p := p) i (X := X) (by omega) Q.2.2.2.1).1
    have b1 := V1.e1
    have Q1' := Q1
    obtain ⟨QI1, H, x18, hX, u16, v17⟩ := Q1
    obtain ⟨R, _, S, H9, D, _, K⟩ := QI1
    have bd9 := bs9 V1.2.1 (isDd (rsV p i B X).1)
    unfold a_sailHour_15
    simp only [kc_im8, kc_im1, kc_i0, kc_i1, kc_i2, kc_i3, kc_i4, kc_i5, kc_b_m100, kc_b_m16, kc_b_m15, kc_b_m14, kc_b_m13, kc_b_m12, kc_b_m11, kc_b_m2, kc_b_6, kc_b_7, kc_b_8, kc_b_9, kc_b_10, kc_b_11, kc_b_12, kc_b_13, kc_b_14, kc_b_15, kc_b_16, kc_b_20, kc_b_24, kc_b_32, kc_b_37, kc_b_40, kc_b_42, kc_b_43, kc_b_45, kc_b_47, kc_b_48, kc_b_57, kc_b_58, kc_b_59, kc_b_60, kc_b_61, kc_b_62, kc_b_63, kc_b_91, kc_b_93, kc_b_97, kc_b_99, kc_b_100, kc_b_106, kc_b_122, kc_s_206, kc_s_226, kc_s_227, kc_s_255, kc_s_256, kc_s_316, kc_s_318, kc_s_400, kc_s_512, kc_s_999, kc_s_1160, kc_s_1536, kc_s_3003, kc_lm11, kc_lm10, kc_lm9, kc_lm8, kc_lm7, kc_lm6, kc_lm5, kc_lm4, kc_lm3, kc_lm2, kc_lm1, kc_l1, kc_l2, kc_l3, kc_l4, kc_l5, kc_l6, kc_l7, kc_l8, kc_l9, kc_l10, kc_l11, kc_l12, kc_l13, kc_l14, kc_l37, kc_l42, kc_l43, kc_l45, kc_l47, kc_l60, kc_l61, kc_l62, kc_l316, kc_l318, kc_l65536, kc_l99999, kc_l1000000, kc_l252645135, kc_l858993459, kc_l1431655765, kc_0, kc_on]
    rw [S.2.2.1, e1.1, ra_68_19 R]
    refine sp_neg (by rw [nx_le (by omega) (by omega)]; omega) ?_
    rw [Option.bind_some, H.2.2.1, x_bit_n (by omega) (by omega), Option.bind_some, bs_bit, dec_t (show i < an (rsV p i B X).1 1 by omega), Bool.true_and]
    by_cases dd : isDd (rsV p i B X).1 i = true
    · rw [dd]
      refine sp_pos (by decide) ?_
      rw [nx_add, sp_some, rsV, if_pos dd]
      exact ⟨rfl, Q1', f1⟩
    · have dd' : isDd (rsV p i B X).1 i = false := by simpa using dd
      rw [dd']
      refine sp_neg (by decide) ?_
      rw [Option.bind_some, a_draw_n x18 hX, Option.bind_some]
      dsimp only
      have hdr := dr_lt (rsV p i B X).2
      rw [nx_rem (by omega) (by omega) (by omega)]
      have Q2 := Q1'.draw hdr
      have go : ∀ z : Bool, z = !decide (dr (rsV p i B X).2 / 65536 % 100 < p) → SP (a_sailHour_58 68 s (nI p) (nI i) (nI z.toNat) (nI i) 86 (pm_setI h1 68 18 (nI (dr (rsV p i B X).2)))) (fun q => match q with | .inl q => q.1 = nI (i + 1) ∧ SV q.2 s A (rsV p (i + 1) B X).1 (rsV p (i + 1) B X).2 u v ∧ Fq QF h q.2 | .inr h' => SV h' s A (rsV p (an A 1) B X).1 (rsV p (an A 1) B X).2 u v ∧ Fq QF h h') := by
        intro z hz
        obtain ⟨v3, e3, H3⟩ := n_rouse_c Q2.1.2.1 V1.2.1 (m := i) (by omega) z
        unfold a_sailHour_58
        simp only [kc_im8, kc_im1, kc_i0, kc_i1, kc_i2, kc_i3, kc_i4, kc_i5, kc_b_m100, kc_b_m16, kc_b_m15, kc_b_m14, kc_b_m13, kc_b_m12, kc_b_m11, kc_b_m2, kc_b_6, kc_b_7, kc_b_8, kc_b_9, kc_b_10, kc_b_11, kc_b_12, kc_b_13, kc_b_14, kc_b_15, kc_b_16, kc_b_20, kc_b_24, kc_b_32, kc_b_37, kc_b_40, kc_b_42, kc_b_43, kc_b_45, kc_b_47, kc_b_48, kc_b_57, kc_b_58, kc_b_59, kc_b_60, kc_b_61, kc_b_62, kc_b_63, kc_b_91, kc_b_93, kc_b_97, kc_b_99, kc_b_100, kc_b_106, kc_b_122, kc_s_206, kc_s_226, kc_s_227, kc_s_255, kc_s_256, kc_s_316, kc_s_318, kc_s_400, kc_s_512, kc_s_999, kc_s_1160, kc_s_1536, kc_s_3003, kc_lm11, kc_lm10, kc_lm9, kc_lm8, kc_lm7, kc_lm6, kc_lm5, kc_lm4, kc_lm3, kc_lm2, kc_lm1, kc_l1, kc_l2, kc_l3, kc_l4, kc_l5, kc_l6, kc_l7, kc_l8, kc_l9, kc_l10, kc_l11, kc_l12, kc_l13, kc_l14, kc_l37, kc_l42, kc_l43, kc_l45, kc_l47, kc_l60, kc_l61, kc_l62, kc_l316, kc_l318, kc_l65536, kc_l99999, kc_l1000000, kc_l252645135, kc_l858993459, kc_l1431655765, kc_0, kc_on]
        rw [e3, Option.bind_some, sp_some, rsV, if_neg dd, ← hz, nx_add]
        have Q3 := Q2.1.set H3
        exact ⟨rfl, Q3.1, (f1.trans Q2.2).trans Q3.2⟩
      by_cases q : dr (rsV p i B X).2 / 65536 % 100 < p
      · exact sp_pos (by rw [nx_lt (by omega) (by omega)]; exact q) ((go false (by rw [dec_t q]; rfl)).mono (by rintro (q | q) hq <;> exact hq))
      · exact sp_neg (by rw [nx_lt (by omega) (by omega)]; exact q) ((go true (by rw [dec_f q]; rfl)).mono (by rintro (q | q) hq <;> exact hq))
  · rintro ⟨y, h1⟩ ⟨hy, Q1, f1⟩
    dsimp only at hy Q1 f1
    subst hy
    unfold a_sailHour_15
    rw [Q1.1.2.2.1.2.2.1, e1.1]
    exact sp_pos (by rw [nx_le (by omega) (by omega)]; omega) (sp_some.mpr ⟨Q1, f1⟩)
def SVt (h : pm_H) (s : Nat) (A : Nat → Int32) (q : (Nat → Int32) × Nat × Nat × Nat) : Prop := SV h s A q.1 q.2.1 q.2.2.1 q.2.2.2
theorem VI.hour (V : VI A B k) (hX : X < 2147483648) : VI A (hourV p B X).1 k ∧ (hourV p B X).2 < 2147483648 := by
  unfold hourV
  rw [V.e1]
  exact (V.up5 (by omega)).rs _ (Nat.le_refl _) (dr_lt X)
theorem a_sailHour_sp {q : (Nat → Int32) × Nat × Nat × Nat} (Q : SVt h s A q) (V : VI A q.1 k) (hk : k < 1999) (h0 : 0 < an A 0) (hp : p ≤ 100) : SP (a_sailHour 68 s (nI p) h) (fun h' => SVt h' s A (stV A p q) ∧ Fq QF h h') := by
  obtain ⟨B, X, u, v⟩ := q
  have Q' := Q
  have w := Q.1.2.2.2.2.2.1
  have e2 := w.e2
  obtain ⟨QI1, H, x18, hX, u16, v17⟩ := Q
  dsimp only at H x18 hX u16 v17 V
  have hdr := dr_lt X
  have R := QI1.1
  have VH := V.hour (p := p) hX
  unfold a_sailHour
  simp only [kc_im8, kc_im1, kc_i0, kc_i1, kc_i2, kc_i3, kc_i4, kc_i5, kc_b_m100, kc_b_m16, kc_b_m15, kc_b_m14, kc_b_m13, kc_b_m12, kc_b_m11, kc_b_m2, kc_b_6, kc_b_7, kc_b_8, kc_b_9, kc_b_10, kc_b_11, kc_b_12, kc_b_13, kc_b_14, kc_b_15, kc_b_16, kc_b_20, kc_b_24, kc_b_32, kc_b_37, kc_b_40, kc_b_42, kc_b_43, kc_b_45, kc_b_47, kc_b_48, kc_b_57, kc_b_58, kc_b_59, kc_b_60, kc_b_61, kc_b_62, kc_b_63, kc_b_91, kc_b_93, kc_b_97, kc_b_99, kc_b_100, kc_b_106, kc_b_122, kc_s_206, kc_s_226, kc_s_227, kc_s_255, kc_s_256, kc_s_316, kc_s_318, kc_s_400, kc_s_512, kc_s_999, kc_s_1160, kc_s_1536, kc_s_3003, kc_lm11, kc_lm10, kc_lm9, kc_lm8, kc_lm7, kc_lm6, kc_lm5, kc_lm4, kc_lm3, kc_lm2, kc_lm1, kc_l1, kc_l2, kc_l3, kc_l4, kc_l5, kc_l6, kc_l7, kc_l8, kc_l9, kc_l10, kc_l11, kc_l12, kc_l13, kc_l14, kc_l37, kc_l42, kc_l43, kc_l45, kc_l47, kc_l60, kc_l61, kc_l62, kc_l316, kc_l318, kc_l65536, kc_l99999, kc_l1000000, kc_l252645135, kc_l858993459, kc_l1431655765, kc_0, kc_on]
  rw [ra_68_19 R, Option.bind_some, a_draw_n x18 hX, Option.bind_some]
  dsimp only
  rw [sp_bd, nx_rem (by omega) (by omega) (by omega)]
  have Q1 := SV.draw Q' hdr
  have Q2 := Q1.1.set (Q1.1.2.1.set3c (v := nI (dr X / 65536 % 3)))
  refine sp_call (a_rsW Q2.1 (V.up5 (by omega)) hp) ?_
  intro h3 z3
  have e : rsV p (an A 1) (upA B 5 (nI (dr X / 65536 % 3))) (dr X) = hourV p B X := by unfold hourV; rw [V.e1]
  dsimp only at z3
  rw [e] at z3
  obtain ⟨Q3, f3⟩ := z3
  unfold stV SVt
  dsimp only
  generalize hourV p B X = C at Q3 VH ⊢
  obtain ⟨C, Y⟩ := C
  dsimp only at Q3 VH ⊢
  have V3 := VH.1
  obtain ⟨QI3, H3, x3, hY, u3, v3⟩ := Q3
  have QI3' := QI3
  obtain ⟨R3, _, S3, _, _, _, _⟩ := QI3
  have h512 := hrd_512 V3.2.1
  have h255 := hrd_255 V3.2.1
  have h6 : h3.2.1 86 4 = bv (bN A) := by rw [H3.2.2.2.2.2.1, V3.2.2.1, (bN_bv w).1]
  simp only [ra_68_0 R3, ra_68_19 R3, Option.bind_some, n_heard_c (S3.same V3.1) H3 V3.2.1 R3, h6]
  refine sp_call (k_ord QI3' h0 (b := bN A) (X := hrdN C) (bN_bv w).2 (by rw [h255.1, ← V3.e1]; exact h255.2.1)) ?_
  rintro ⟨o, h4⟩ ⟨ho, f4, Q4⟩
  dsimp only at ho f4 Q4
  have ec : (hrdN C &&& 255) ||| bb (bN A) = hrdN C := by rw [h255.1, ← V3.boyN]; rfl
  rw [ec] at ho
  subst ho
  have S4 := Q4.2.2.1
  have hm := mute_lt (B := C) w
  have p2 : 1 ≤ 2 ^ an A 2 := Nat.one_le_two_pow
  dsimp only
  rw [S4.2.2.2.1, e2.1, nx_shl1 (by omega), nx_sub p2, nx_andn, show sd (2 ^ an A 2 - 1) (cN A (bN A) (hrdN C)) = muteN A C from rfl, k_bc h4 (by omega), Option.bind_some, sp_bd, f4.i 16 (by unfold KF; omega), u3, nx_add]
  have f5 : Fr (· = 68) h4 (pm_setI h4 68 16 (nI (u + pc (muteN A C)))) := (Fr.refl _ _).setI rfl
  have Q5 := Q4.ask f5 (fun c hc => by omega)
  rw [a_needOf_n Q5.1.2.2.1 w Q5.1.1 (by omega), Option.bind_some, sp_bd, ri_j _ (by omega), f4.i 17 (by unfold KF; omega), v3, nx_add]
  have f6 : Fr (· = 68) h4 (pm_setI (pm_setI h4 68 16 (nI (u + pc (muteN A C)))) 68 17 (nI (v + ndN A (muteN A C)))) := f5.setI rfl
  have Q6 := Q4.ask f6 (fun c hc => by omega)
  have H6 : CHd (pm_setI (pm_setI h4 68 16 (nI (u + pc (muteN A C)))) 68 17 (nI (v + ndN A (muteN A C)))) 86 C := H3.of (by rw [(f6.2.2 86 (by omega)).1, (f4.2.2 86 (by unfold KF; omega)).1]) (by rw [(f6.2.2 87 (by omega)).1, (f4.2.2 87 (by unfold KF; omega)).1]) (by rw [(f6.2.2 88 (by omega)).1, (f4.2.2 88 (by unfold KF; omega)).1])
  rw [ra_68_19 Q6.1.1, Option.bind_some]
  refine sp_call (n_pass_sp V3.2.1 Q6.1.1 H6) ?_
  rintro h7 ⟨f7, H7⟩
  have Q7 := Q6.1.ask f7 (fun c hc => by unfold HC at hc; omega)
  refine sp_some.mpr ⟨⟨Q7.1, H7, ?_, hY, ?_, ?_⟩, ((((Q1.2.trans Q2.2).trans f3).trans (f4.q.mono (fun c hc => hc.qf))).trans Q6.2).trans Q7.2⟩
  · rw [f7.i _ (by unfold HC; omega), ri_j _ (by omega), ri_j _ (by omega), f4.i _ (by unfold KF; omega)]; exact x3
  · rw [f7.i _ (by unfold HC; omega), ri_j _ (by omega), ri_s]
  · rw [f7.i _ (by unfold HC; omega), ri_s]
theorem stV_vi {q : (Nat → Int32) × Nat × Nat × Nat} (V : VI A q.1 k) (hX : q.2.1 < 2147483648) (hk : k < 1999) : VI A (stV A p q).1 (k + 1) ∧ (stV A p q).2.1 < 2147483648 := by
  have := V.hour (p := p) hX
  exact ⟨this.1.ps hk, this.2⟩
theorem hrV_vi {q : (Nat → Int32) × Nat × Nat × Nat} (V : VI A q.1 k) (hX : q.2.1 < 2147483648) : ∀ i, k + i < 1999 → VI A (hrV A p i q).1 (k + i) ∧ (hrV A p i q).2.1 < 2147483648
  | 0, _ => ⟨V, hX⟩
  | i + 1, hi => by
    have ih := hrV_vi V hX i (by omega)
    exact stV_vi (k := k + i) ih.1 ih.2 (by omega)
theorem VI.refl (w : WFA A) : VI A A (an A 4) := ⟨SameS.refl A, w, rfl, fun _ _ => rfl, Nat.le_refl _⟩
theorem trV_lt (w : WFA A) {n : Nat} (h4 : an A 4 ≤ 999) (hn : n ≤ 20) (hX : X < 2147483648) (u v : Nat) : ∀ i, (trV A p n i (X, u, v)).1 < 2147483648
  | 0 => hX
  | i + 1 => (hrV_vi (k := an A 4) (q := (A, trV A p n i (X, u, v))) (VI.refl w) (trV_lt w h4 hn hX u v i) n (by omega)).2
theorem a_sail_sp (Q : QI h s A) (h0 : 0 < an A 0) (h4 : an A 4 ≤ 999) {m n : Nat} (hm : m ≤ 10) (hn : n ≤ 20) (hp : p ≤ 100) (x5 : h.2.1 168 5 = nI X) (hX : X < 2147483648) : SP (a_sail 68 168 (nI m) (nI n) (nI p) h) (fun h' => QI h' s A ∧ Fq QF h h' ∧ h'.2.1 68 16 = nI (trV A p n m (X, 0, 0)).2.1 ∧ h'.2.1 68 17 = nI (trV A p n m (X, 0, 0)).2.2) := by
  have w := Q.2.2.2.2.2.1
  have e1 := w.e1
  unfold a_sail
  simp only [kc_im8, kc_im1, kc_i0, kc_i1, kc_i2, kc_i3, kc_i4, kc_i5, kc_b_m100, kc_b_m16, kc_b_m15, kc_b_m14, kc_b_m13, kc_b_m12, kc_b_m11, kc_b_m2, kc_b_6, kc_b_7, kc_b_8, kc_b_9, kc_b_10, kc_b_11, kc_b_12, kc_b_13, kc_b_14, kc_b_15, kc_b_16, kc_b_20, kc_b_24, kc_b_32, kc_b_37, kc_b_40, kc_b_42, kc_b_43, kc_b_45, kc_b_47, kc_b_48, kc_b_57, kc_b_58, kc_b_59, kc_b_60, kc_b_61, kc_b_62, kc_b_63, kc_b_91, kc_b_93, kc_b_97, kc_b_99, kc_b_100, kc_b_106, kc_b_122, kc_s_206, kc_s_226, kc_s_227, kc_s_255, kc_s_256, kc_s_316, kc_s_318, kc_s_400, kc_s_512, kc_s_999, kc_s_1160, kc_s_1536, kc_s_3003, kc_lm11, kc_lm10, kc_lm9, kc_lm8, kc_lm7, kc_lm6, kc_lm5, kc_lm4, kc_lm3, kc_lm2, kc_lm1, kc_l1, kc_l2, kc_l3, kc_l4, kc_l5, kc_l6, kc_l7, kc_l8, kc_l9, kc_l10, kc_l11, kc_l12, kc_l13, kc_l14, kc_l37, kc_l42, kc_l43, kc_l45, kc_l47, kc_l60, kc_l61, kc_l62, kc_l316, kc_l318, kc_l65536, kc_l99999, kc_l1000000, kc_l252645135, kc_l858993459, kc_l1431655765, kc_0, kc_on]
  rw [sp_bd, sp_bd, sp_bd, ri_c _ (by omega), ri_c _ (by omega), x5]
  have f0 : Fr (· = 68) h (pm_setI (pm_setI (pm_setI h 68 16 (nI 0)) 68 17 (nI 0)) 68 18 (nI X)) := (((Fr.refl (· = 68) h).setI (a := 68) rfl).setI (a := 68) rfl).setI (a := 68) rfl
  have Q0 := Q.ask f0 (fun c hc => by omega)
  have key : SP (wh (fun q : (Int32 × pm_H) => a_sail_21 68 168 (nI m) (nI n) (nI p) q.1 q.2) (nI 0, pm_setI (pm_setI (pm_setI h 68 16 (nI 0)) 68 17 (nI 0)) 68 18 (nI X))) (fun h' => QI h' s A ∧ Fq QF h h' ∧ h'.2.1 68 16 = nI (trV A p n m (X, 0, 0)).2.1 ∧ h'.2.1 68 17 = nI (trV A p n m (X, 0, 0)).2.2) := by
    refine wh_cnt (fun i q => q.1 = nI i ∧ QI q.2 s A ∧ Fq QF h q.2 ∧ q.2.2.1 68 18 = nI (trV A p n i (X, 0, 0)).1 ∧ q.2.2.1 68 16 = nI (trV A p n i (X, 0, 0)).2.1 ∧ q.2.2.1 68 17 = nI (trV A p n i (X, 0, 0)).2.2) _ m ?_ ?_ 0 (nI 0, _) (by omega) ⟨rfl, Q0.1, Q0.2, ri_s _, by show (pm_setI (pm_setI (pm_setI h 68 16 (nI 0)) 68 17 (nI 0)) 68 18 (nI X)).2.1 68 16 = _; rw [ri_j _ (by omega), ri_j _ (by omega), ri_s]; rfl, by show (pm_setI (pm_setI (pm_setI h 68 16 (nI 0)) 68 17 (nI 0)) 68 18 (nI X)).2.1 68 17 = _; rw [ri_j _ (by omega), ri_s]; rfl⟩
    · rintro i ⟨y, h1⟩ hi ⟨hy, Q1, f1, x1, u1, v1⟩
      dsimp only at hy Q1 f1 x1 u1 v1
      subst hy
      have hXi := trV_lt (p := p) w h4 hn hX 0 0 i
      unfold a_sail_21
      simp only [kc_im8, kc_im1, kc_i0, kc_i1, kc_i2, kc_i3, kc_i4, kc_i5, kc_b_m100, kc_b_m16, kc_b_m15, kc_b_m14, kc_b_m13, kc_b_m12, kc_b_m11, kc_b_m2, kc_b_6, kc_b_7, kc_b_8, kc_b_9, kc_b_10, kc_b_11, kc_b_12, kc_b_13, kc_b_14, kc_b_15, kc_b_16, kc_b_20, kc_b_24, kc_b_32, kc_b_37, kc_b_40, kc_b_42, kc_b_43, kc_b_45, kc_b_47, kc_b_48, kc_b_57, kc_b_58, kc_b_59, kc_b_60, kc_b_61, kc_b_62, kc_b_63, kc_b_91, kc_b_93, kc_b_97, kc_b_99, kc_b_100, kc_b_106, kc_b_122, kc_s_206, kc_s_226, kc_s_227, kc_s_255, kc_s_256, kc_s_316, kc_s_318, kc_s_400, kc_s_512, kc_s_999, kc_s_1160, kc_s_1536, kc_s_3003, kc_lm11, kc_lm10, kc_lm9, kc_lm8, kc_lm7, kc_lm6, kc_lm5, kc_lm4, kc_lm3, kc_lm2, kc_lm1, kc_l1, kc_l2, kc_l3, kc_l4, kc_l5, kc_l6, kc_l7, kc_l8, kc_l9, kc_l10, kc_l11, kc_l12, kc_l13, kc_l14, kc_l37, kc_l42, kc_l43, kc_l45, kc_l47, kc_l60, kc_l61, kc_l62, kc_l316, kc_l318, kc_l65536, kc_l99999, kc_l1000000, kc_l252645135, kc_l858993459, kc_l1431655765, kc_0, kc_on]
      refine sp_neg (by rw [nx_le (by omega) (by omega)]; omega) ?_
      rw [ra_68_19 Q1.1, Option.bind_some, q_hands Q1, Option.bind_some]
      refine sp_call (n_copy_sp (c := 169) (d := 86) Q1.1 Q1.2.2.2.1.1 (by decide +kernel) (by omega)) ?_
      rintro h2 ⟨f2, c5, cs, ct⟩
      have H2 : CHd h2 86 A := Q1.2.2.2.1.cp (by omega) (by decide +kernel) c5 cs ct
      have Q2 := Q1.ask f2 (fun c hc => by unfold HC at hc; omega)
      have SV2 : SVt h2 s A (A, trV A p n i (X, 0, 0)) := ⟨Q2.1, H2, by rw [f2.i _ (by unfold HC; omega)]; exact x1, hXi, by rw [f2.i _ (by unfold HC; omega)]; exact u1, by rw [f2.i _ (by unfold HC; omega)]; exact v1⟩
      have inner : SP (wh (fun q : (Int32 × pm_H) => a_sail_41 68 168 (nI m) (nI n) (nI p) (nI i) q.1 q.2) (nI 0, h2)) (fun h' => SVt h' s A (hrV A p n (A, trV A p n i (X, 0, 0))) ∧ Fq QF h2 h') := by
        refine wh_cnt (fun j q => q.1 = nI j ∧ SVt q.2 s A (hrV A p j (A, trV A p n i (X, 0, 0))) ∧ Fq QF h2 q.2) _ n ?_ ?_ 0 (nI 0, h2) (by omega) ⟨rfl, SV2, Fq.refl _ _⟩
        · rintro j ⟨y, h3⟩ hj ⟨hy, Q3, f3⟩
          dsimp only at hy Q3 f3
          subst hy
          have V3 := hrV_vi (p := p) (k := an A 4) (q := (A, trV A p n i (X, 0, 0))) (VI.refl w) hXi j (by omega)
          unfold a_sail_41
          simp only [kc_im8, kc_im1, kc_i0, kc_i1, kc_i2, kc_i3, kc_i4, kc_i5, kc_b_m100, kc_b_m16, kc_b_m15, kc_b_m14, kc_b_m13, kc_b_m12, kc_b_m11, kc_b_m2, kc_b_6, kc_b_7, kc_b_8, kc_b_9, kc_b_10, kc_b_11, kc_b_12, kc_b_13, kc_b_14, kc_b_15, kc_b_16, kc_b_20, kc_b_24, kc_b_32, kc_b_37, kc_b_40, kc_b_42, kc_b_43, kc_b_45, kc_b_47, kc_b_48, kc_b_57, kc_b_58, kc_b_59, kc_b_60, kc_b_61, kc_b_62, kc_b_63, kc_b_91, kc_b_93, kc_b_97, kc_b_99, kc_b_100, kc_b_106, kc_b_122, kc_s_206, kc_s_226, kc_s_227, kc_s_255, kc_s_256, kc_s_316, kc_s_318, kc_s_400, kc_s_512, kc_s_999, kc_s_1160, kc_s_1536, kc_s_3003, kc_lm11, kc_lm10, kc_lm9, kc_lm8, kc_lm7, kc_lm6, kc_lm5, kc_lm4, kc_lm3, kc_lm2, kc_lm1, kc_l1, kc_l2, kc_l3, kc_l4, kc_l5, kc_l6, kc_l7, kc_l8, kc_l9, kc_l10, kc_l11, kc_l12, kc_l13, kc_l14, kc_l37, kc_l42, kc_l43, kc_l45, kc_l47, kc_l60, kc_l61, kc_l62, kc_l316, kc_l318, kc_l65536, kc_l99999, kc_l1000000, kc_l252645135, kc_l858993459, kc_l1431655765, kc_0, kc_on]
          refine sp_neg (by rw [nx_le (by omega) (by omega)]; omega) ?_
          rw [Q3.1.now, Option.bind_some]
          refine sp_call (a_sailHour_sp Q3 V3.1 (by omega) h0 hp) ?_
          rintro h4 ⟨Q4, f4⟩
          exact sp_some.mpr ⟨nx_add j 1, Q4, f3.trans f4⟩
        · rintro ⟨y, h3⟩ ⟨hy, Q3, f3⟩
          dsimp only at hy Q3 f3
          subst hy
          unfold a_sail_41
          exact sp_pos (by rw [nx_le (by omega) (by omega)]; omega) (sp_some.mpr ⟨Q3, f3⟩)
      refine sp_call inner ?_
      rintro h3 ⟨Q3, f3⟩
      exact sp_some.mpr ⟨nx_add i 1, Q3.1, (f1.trans Q2.2).trans f3, Q3.2.2.1, Q3.2.2.2.2.1, Q3.2.2.2.2.2⟩
    · rintro ⟨y, h1⟩ ⟨hy, Q1, f1, x1, u1, v1⟩
      dsimp only at hy Q1 f1 x1 u1 v1
      subst hy
      unfold a_sail_21
      exact sp_pos (by rw [nx_le (by omega) (by omega)]; omega) (sp_some.mpr ⟨Q1, f1, u1, v1⟩)
  refine sp_call key ?_
  intro h' q
  exact sp_some.mpr q
def voyOk (A : Nat → Int32) (m n p k : Nat) : Prop := 0 < an A 0 ∧ 1 ≤ m ∧ m ≤ 10 ∧ 1 ≤ n ∧ n ≤ 20 ∧ p ≤ 100 ∧ k ≤ 1
theorem x_voyages_ok (Q : QI h s A) (h4 : an A 4 ≤ 999) (x5 : h.2.1 168 5 = nI X) (hX : X < 2147483648) {m n j : Nat} (ok : voyOk A m n p j) : SP (x_voyages 0 (nI m) (nI n) (nI p) (nI j) h) (fun z => z.1 = vVoy A X m n p j ∧ Fq QF h z.2 ∧ QI z.2 s A) := by
  obtain ⟨h0, m1, m2, n1, n2, hp, hj⟩ := ok
  have Q' := Q
  obtain ⟨R, _, S, H, D, w, K⟩ := Q
  unfold x_voyages
  rw [ra_0_4 R, Option.bind_some, Q'.now, Option.bind_some, c_sails S w, Option.bind_some, dec_t h0]
  simp only [kc_im8, kc_im1, kc_i0, kc_i1, kc_i2, kc_i3, kc_i4, kc_i5, kc_b_m100, kc_b_m16, kc_b_m15, kc_b_m14, kc_b_m13, kc_b_m12, kc_b_m11, kc_b_m2, kc_b_6, kc_b_7, kc_b_8, kc_b_9, kc_b_10, kc_b_11, kc_b_12, kc_b_13, kc_b_14, kc_b_15, kc_b_16, kc_b_20, kc_b_24, kc_b_32, kc_b_37, kc_b_40, kc_b_42, kc_b_43, kc_b_45, kc_b_47, kc_b_48, kc_b_57, kc_b_58, kc_b_59, kc_b_60, kc_b_61, kc_b_62, kc_b_63, kc_b_91, kc_b_93, kc_b_97, kc_b_99, kc_b_100, kc_b_106, kc_b_122, kc_s_206, kc_s_226, kc_s_227, kc_s_255, kc_s_256, kc_s_316, kc_s_318, kc_s_400, kc_s_512, kc_s_999, kc_s_1160, kc_s_1536, kc_s_3003, kc_lm11, kc_lm10, kc_lm9, kc_lm8, kc_lm7, kc_lm6, kc_lm5, kc_lm4, kc_lm3, kc_lm2, kc_lm1, kc_l1, kc_l2, kc_l3, kc_l4, kc_l5, kc_l6, kc_l7, kc_l8, kc_l9, kc_l10, kc_l11, kc_l12, kc_l13, kc_l14, kc_l37, kc_l42, kc_l43, kc_l45, kc_l47, kc_l60, kc_l61, kc_l62, kc_l316, kc_l318, kc_l65536, kc_l99999, kc_l1000000, kc_l252645135, kc_l858993459, kc_l1431655765, kc_0, kc_on]
  refine sp_neg (by decide) (sp_neg (by rw [nx_lt (by omega) (by omega)]; omega) (sp_neg (by rw [nx_lt (by omega) (by omega)]; omega) (sp_neg (by rw [nx_lt (by omega) (by omega)]; omega) (sp_pos (by rw [nx_le (by omega) (by omega)]; omega) (sp_neg (by rw [nx_lt (by omega) (by omega)]; omega) (sp_neg (by rw [nx_lt (by omega) (by omega)]; omega) (sp_neg (by rw [nx_lt (by omega) (by omega)]; omega) (sp_pos (by rw [nx_le (by omega) (by omega)]; omega) ?_))))))))
  rw [ra_0_7 R, Option.bind_some, Option.bind_some]
  refine sp_call (a_sail_sp Q' h0 h4 m2 n2 hp x5 hX) ?_
  rintro h1 ⟨Q1, f1, u1, v1⟩
  unfold vVoy
  by_cases j0 : j = 0
  · refine sp_neg (by rw [nx_eq (by omega) (by omega)]; exact fun z => z j0) ?_
    rw [ra_0_7 Q1.1, Option.bind_some, sp_some, if_pos j0]
    exact ⟨u1, f1, Q1⟩
  · refine sp_pos (by rw [nx_eq (by omega) (by omega)]; exact j0) ?_
    rw [ra_0_7 Q1.1, Option.bind_some, sp_some, if_neg j0]
    exact ⟨v1, f1, Q1⟩
end SL
