/-! Questions: what they may change; sayable. -/
noncomputable def cN (A : Nat → Int32) (b S : Nat) : Nat := bs (fun o => @decide (can (syA A) (wfb A b) S o) (Classical.propDecidable _)) 8
theorem cN_bit {A : Nat → Int32} (w : WFA A) (b S o : Nat) : (cN A b S).testBit o = true ↔ can (syA A) (wfb A b) S o := by
  unfold cN
  rw [bs_bit]
  simp only [Bool.and_eq_true, decide_eq_true_eq]
  constructor
  · exact fun q => q.2
  · intro q
    refine ⟨?_, q⟩
    obtain ⟨T, _, p, _, _, _, h5⟩ := q
    have := (ordOf_some.mp h5).1
    have := w.e2
    omega
theorem cN_lt (A : Nat → Int32) (b S : Nat) : cN A b S < 256 := bs_lt _ 8
theorem cN_eq {A : Nat → Int32} (w : WFA A) {b S e : Nat} (he : e < 256) (h : ∀ o, e.testBit o = true ↔ can (syA A) (wfb A b) S o) : e = cN A b S := by
  refine bs_ext (n := 8) he (cN_lt A b S) (fun i _ => ?_)
  rw [Bool.eq_iff_iff, h i, cN_bit w]
/-- without the boy his word is nothing -/
theorem cN_b {A : Nat → Int32} (w : WFA A) {b c S : Nat} (hS : S < 256) : cN A b S = cN A c S := by
  have main : ∀ b c o, can (syA A) (wfb A b) S o → can (syA A) (wfb A c) S o := by
    rintro b c o ⟨T, h1, p, h2, h3, h4, h5⟩
    refine ⟨T, h1, p, h2, h3, h4, ?_⟩
    rw [← h5]
    congr 1
    apply List.map_congr_left
    intro m hm
    have h6 := h1 m (by rw [← h4]; exact mem_setOf.mp hm)
    have := lt256_bit hS h6
    unfold wfb
    rw [if_neg (by omega), if_neg (by omega)]
  refine cN_eq w (cN_lt A b S) (fun o => ?_)
  rw [cN_bit w]
  exact ⟨main b c o, main c b o⟩
/-- cells that a question of the program may change -/
def QF (c : Nat) : Prop := 68 ≤ c ∧ c ≤ 89
def QI (h : pm_H) (s : Nat) (A : Nat → Int32) : Prop := RF h ∧ h.2.2.2 168 0 = some s ∧ CSh h s A ∧ CHd h 169 A ∧ CDn h 168 A ∧ WFA A ∧ (0 < an A 0 → CHO h s A)
theorem CHd.of {h h' : pm_H} {c : Nat} {A : Nat → Int32} (H : CHd h c A) (h0 : h'.2.1 c = h.2.1 c) (h1 : h'.2.1 (c + 1) = h.2.1 (c + 1)) (h2 : h'.2.1 (c + 2) = h.2.1 (c + 2)) : CHd h' c A := by
  unfold CHd at H ⊢
  rw [h0, h1, h2]
  exact H
theorem CDn.of {h h' : pm_H} {c : Nat} {A : Nat → Int32} (H : CDn h c A) (h0 : h'.2.1 c = h.2.1 c) (h4 : h'.2.1 (c + 4) = h.2.1 (c + 4)) : CDn h' c A := by
  unfold CDn at H ⊢
  rw [h0, h4]
  exact H
theorem QI.fq {h h' : pm_H} {s : Nat} {A : Nat → Int32} (Q : QI h s A) (f : Fq QF h h') (C : 0 < an A 0 → CHO h' s A) : QI h' s A := by
  obtain ⟨R, h1, S, H, D, w, _⟩ := Q
  have hsv := hull_ge S.1
  exact ⟨R.fq f, by rw [f.2.1 168 0 (by omega)]; exact h1, S.fq f (fun c a b => by unfold QF; omega), H.of (f.2.2 169 (by unfold QF; omega)).1 (f.2.2 170 (by unfold QF; omega)).1 (f.2.2 171 (by unfold QF; omega)).1, D.of (f.2.2 168 (by unfold QF; omega)).1 (f.2.2 172 (by unfold QF; omega)).1, w, C⟩
theorem KF.qf {c : Nat} (h : KF c) : QF c := by unfold KF at h; unfold QF; omega
/-- what a question of the reference leaves -/
def FM (h h' : pm_H) : Prop := h'.1 = h.1 ∧ h'.2.2.2 = h.2.2.2 ∧ (∀ c, c < 193 → h'.2.1 c = h.2.1 c ∧ h'.2.2.1 c = h.2.2.1 c) ∧ (∀ c, c ∈ [194, 195, 196, 197, 198, 203, 208, 211, 212, 213] → h'.2.1 c = h.2.1 c) ∧ ∀ j, j ∈ [1, 2, 21, 28] → h'.2.1 193 j = h.2.1 193 j
theorem FM.refl (h : pm_H) : FM h h := ⟨rfl, rfl, fun _ _ => ⟨rfl, rfl⟩, fun _ _ => rfl, fun _ _ => rfl⟩
theorem FM.trans {h h1 h2 : pm_H} (a : FM h h1) (b : FM h1 h2) : FM h h2 := ⟨b.1.trans a.1, b.2.1.trans a.2.1, fun c hc => ⟨(b.2.2.1 c hc).1.trans (a.2.2.1 c hc).1, (b.2.2.1 c hc).2.trans (a.2.2.1 c hc).2⟩, fun c hc => (b.2.2.2.1 c hc).trans (a.2.2.2.1 c hc), fun j hj => (b.2.2.2.2 j hj).trans (a.2.2.2.2 j hj)⟩
def MF (c : Nat) : Prop := 199 ≤ c ∧ c ≤ 210 ∧ c ≠ 203 ∧ c ≠ 208
def FF (j : Nat) : Prop := j ≠ 1 ∧ j ≠ 2 ∧ j ≠ 21 ∧ j ≠ 28
theorem FrM.fm {C F : Nat → Prop} {h h' : pm_H} (f : FrM C F h h') (hC : ∀ c, C c → MF c) (hF : ∀ j, F j → FF j) : FM h h' := by
  refine ⟨f.1, f.2.1, fun c hc => ⟨f.i (by omega) (fun q => by have := hC c q; unfold MF at this; omega), by rw [f.2.2.1]⟩, fun c hc => ?_, fun j hj => f.f (fun q => ?_)⟩
  · simp only [List.mem_cons, List.not_mem_nil, or_false] at hc
    refine f.i (by omega) (fun q => ?_)
    have := hC c q
    unfold MF at this
    omega
  · simp only [List.mem_cons, List.not_mem_nil, or_false] at hj
    have := hF j q
    unfold FF at this
    omega
def MI (h : pm_H) (A : Nat → Int32) : Prop := RF h ∧ h.2.1 203 = A ∧ WFA A
theorem MI.fm {h h' : pm_H} {A : Nat → Int32} (M : MI h A) (f : FM h h') : MI h' A := ⟨fun q hq => by rw [f.2.1]; exact M.1 q hq, by rw [f.2.2.2.1 203 (by simp)]; exact M.2.1, M.2.2⟩
theorem MC.mf {c : Nat} (h : MC c) : MF c := by unfold MC at h; unfold MF; omega
section Q1
variable {h : pm_H} {s : Nat} {A : Nat → Int32}
theorem k_ord (Q : QI h s A) (h0 : 0 < an A 0) {b X : Nat} (hb : b ≤ 10) (hX : X &&& 255 < 2 ^ an A 1) : SP (c_orders 69 (bv b) (nI X) h) (fun z => z.1 = nI (cN A b ((X &&& 255) ||| bb b)) ∧ Fr KF h z.2 ∧ QI z.2 s A) := by
  have Q' := Q
  obtain ⟨R, h1, S, H, D, w, C⟩ := Q
  refine (k_orders S w R (C h0) hb hX).mono ?_
  rintro z ⟨f, C2, e, e1, e2, e3⟩
  refine ⟨by rw [e1, cN_eq w e2 e3], f, Q'.fq (f.q.mono (fun c hc => hc.qf)) (fun _ => C2)⟩
theorem g_ord (M : MI h A) {al : Nat} (hal : al < 512) (hm : ∀ m, al.testBit m = true → m < an A 1 ∨ (m = 8 ∧ bN A ≠ 0)) : SP (m_gathersSays 193 (nI al) h) (fun h' => FrM MC (· = 23) h h' ∧ ∀ u, sub u al → h'.2.1 207 u = nI (cN A (bN A) u)) := by
  obtain ⟨R, hA, w⟩ := M
  have h0 := w.e0
  have h1 := w.e1
  have hbv := bN_bv w
  refine (m_gather (wf := wfb A (bN A)) (mw := h.2.1 206) w hal (fun m q => ?_) R hA rfl).mono ?_
  · unfold WM wfb wdA
    rcases hm m q with q1 | ⟨rfl, q1⟩
    · have := w.m0 q1
      rw [if_pos (by omega), if_neg (by omega), if_neg (by omega)]
      exact ⟨this.1, by omega⟩
    · rw [if_pos (by omega), if_pos rfl, if_pos rfl, ← hbv.1]
      unfold bv
      rw [if_neg q1]
      exact ⟨rfl, by omega⟩
  · rintro h' ⟨f, E⟩
    refine ⟨f, fun u hu => ?_⟩
    obtain ⟨e, a1, a2, a3⟩ := E u (sub_lt (n := 9) hu hal)
    rw [a1]
    congr 1
    refine cN_eq w a2 (fun o => ?_)
    rw [a3 o]
    exact mkA_can hu
theorem hrd_255 (w : WFA A) : hrdN A &&& 255 = hrdM A ∧ hrdM A < 2 ^ an A 1 ∧ hrdN A < 512 := by
  have h1 := p2men w
  have hl : hrdM A < 2 ^ an A 1 := bs_lt _ _
  have h8 : hrdM A < 2 ^ 8 := by omega
  refine ⟨?_, hl, ?_⟩
  · refine bs_ext (n := 9) (Nat.and_lt_two_pow _ (by decide)) (by omega) (fun i hi => ?_)
    unfold hrdN
    rw [Nat.testBit_and, Nat.testBit_or, bit_255]
    by_cases e : i = 8
    · subst e
      rw [Nat.testBit_lt_two_pow h8]
      simp
    · have : (bb (bN A)).testBit i = false := by
        unfold bb
        split
        · exact Nat.zero_testBit _
        · rw [bit_256]; exact decide_eq_false (by omega)
      rw [this]
      simp; omega
  · unfold hrdN
    exact Nat.or_lt_two_pow (n := 9) (by omega) (by unfold bb; split <;> decide)
theorem hrd_al (w : WFA A) {m : Nat} (h : (hrdN A).testBit m = true) : m < an A 1 ∨ (m = 8 ∧ bN A ≠ 0) := by
  unfold hrdN hrdM at h
  rw [Nat.testBit_or, bs_bit, Bool.or_eq_true, Bool.and_eq_true, decide_eq_true_eq] at h
  rcases h with q | q
  · exact .inl q.1
  · unfold bb at q
    split at q
    · rw [Nat.zero_testBit] at q; cases q
    · rename_i e
      rw [bit_256, decide_eq_true_eq] at q
      exact .inr ⟨q.symm, e⟩
theorem QI.now (Q : QI h s A) : gO h 168 0 7 = some s := gO_of Q.2.1 Q.2.2.1.1
theorem o169 : mi_o 168 9 = true := by decide +kernel
theorem q_hands (Q : QI h s A) : gO h 168 1 3 = some 169 := rf_w1 Q.1 o169
/-- sayable, of the program and of the reference -/
noncomputable def vSayable (A : Nat → Int32) : Int32 := if 0 < an A 0 then nI (cN A (bN A) (hrdN A)) else ng 1
theorem x_sayable_sp (Q : QI h s A) : SP (x_sayable 0 h) (fun z => z.1 = vSayable A ∧ Fq QF h z.2 ∧ QI z.2 s A) := by
  have Q' := Q
  obtain ⟨R, h1, S, H, D, w, C⟩ := Q
  unfold x_sayable a_canSay
  rw [ra_0_4 R, Option.bind_some, Q'.now, Option.bind_some, c_sails S w, Option.bind_some]
  unfold vSayable
  by_cases h0 : 0 < an A 0
  · have hr := hrd_255 w
    refine sp_neg (by rw [decide_eq_true h0]; show ¬ nI 1 = nI 0; decide) ?_
    rw [if_pos h0, ra_0_7 R, Option.bind_some, Option.bind_some, Q'.now, Option.bind_some, Option.bind_some, q_hands Q', Option.bind_some, ra_68_0 R, Option.bind_some, n_heard_c S H w R, Option.bind_some, H.2.2.2.2.2.1, ← (bN_bv w).1]
    simp only [sp_bind]
    refine (k_ord Q' h0 (bN_bv w).2 (by rw [hr.1]; exact hr.2.1)).mono ?_
    rintro z ⟨e, f, Q2⟩
    rw [sp_some, sp_some]
    refine ⟨by rw [e, hr.1]; rfl, f.q.mono (fun c hc => hc.qf), Q2⟩
  · refine sp_pos (by rw [decide_eq_false h0]; rfl) (sp_some.mpr ⟨by rw [if_neg h0]; rfl, Fq.refl _ _, Q'⟩)
theorem m_isShip_n (M : MI h A) : m_isShip 193 h = some (nI (decide (0 < an A 0)).toNat) := by
  obtain ⟨R, hA, w⟩ := M
  have h0 := w.e0
  unfold m_isShip
  simp (disch := omega) only [kc_im8, kc_im1, kc_i0, kc_i1, kc_i2, kc_i3, kc_i4, kc_i5, kc_b_m100, kc_b_m16, kc_b_m15, kc_b_m14, kc_b_m13, kc_b_m12, kc_b_m11, kc_b_m2, kc_b_6, kc_b_7, kc_b_8, kc_b_9, kc_b_10, kc_b_11, kc_b_12, kc_b_13, kc_b_14, kc_b_15, kc_b_16, kc_b_20, kc_b_24, kc_b_32, kc_b_37, kc_b_40, kc_b_42, kc_b_43, kc_b_45, kc_b_47, kc_b_48, kc_b_57, kc_b_58, kc_b_59, kc_b_60, kc_b_61, kc_b_62, kc_b_63, kc_b_91, kc_b_93, kc_b_97, kc_b_99, kc_b_100, kc_b_106, kc_b_122, kc_s_206, kc_s_226, kc_s_227, kc_s_255, kc_s_256, kc_s_316, kc_s_318, kc_s_400, kc_s_512, kc_s_999, kc_s_1160, kc_s_1536, kc_s_3003, kc_lm11, kc_lm10, kc_lm9, kc_lm8, kc_lm7, kc_lm6, kc_lm5, kc_lm4, kc_lm3, kc_lm2, kc_lm1, kc_l1, kc_l2, kc_l3, kc_l4, kc_l5, kc_l6, kc_l7, kc_l8, kc_l9, kc_l10, kc_l11, kc_l12, kc_l13, kc_l14, kc_l37, kc_l42, kc_l43, kc_l45, kc_l47, kc_l60, kc_l61, kc_l62, kc_l316, kc_l318, kc_l65536, kc_l99999, kc_l1000000, kc_l252645135, kc_l858993459, kc_l1431655765, kc_0, kc_on, ra_193_20 R, Option.bind_some, mn_203, gi_n, nx_lt, nx_le, nx_eq, nx_add, nx_sub, nx_mul, nx_cl, n_lt_ng, n_le_ng, n_eq_ng, ng_lt_n, ng_le_n, ng_eq_n, ng_eq, ng_lt, ng_le, nx_dec, hA, h0.1]
  rw [if_pos (by simp)]
  by_cases q : an A 0 ≤ 0
  · rw [if_pos q, decide_eq_false (by omega)]; rfl
  · rw [if_neg q, decide_eq_true (by omega)]; rfl
theorem m_sayable_sp (M : MI h A) : SP (m_sayable 193 h) (fun z => z.1 = vSayable A ∧ FM h z.2) := by
  have M' := M
  obtain ⟨R, hA, w⟩ := M
  unfold m_sayable m_sayableBy
  rw [m_isShip_n M', Option.bind_some]
  unfold vSayable
  by_cases h0 : 0 < an A 0
  · have hr := hrd_255 w
    refine sp_neg (by rw [decide_eq_true h0]; show ¬ nI 1 = nI 0; decide) ?_
    rw [if_pos h0, m_heardSet_n w R hA, Option.bind_some]
    simp only [sp_bind]
    refine (g_ord M' hr.2.2 (fun m q => hrd_al w q)).mono ?_
    rintro h' ⟨f, E⟩
    have R2 := R.fm f
    rw [ra_193_26 R2, sp_some, mn_207, gi_n (by omega), nx_cl (by omega), E _ (sub_refl _)]
    refine sp_pos (by simpa using hr.2.2) ?_
    rw [sp_some, sp_some]
    exact ⟨rfl, f.fm (fun c hc => hc.mf) (fun j hj => by unfold FF; omega)⟩
  · refine sp_pos (by rw [decide_eq_false h0]; rfl) (sp_some.mpr ⟨by rw [if_neg h0]; rfl, FM.refl _⟩)
end Q1
