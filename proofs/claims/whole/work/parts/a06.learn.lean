/-! The program's Choir: learning a ship. -/
theorem enumO_iff {A : Nat → Int32} {one oth thd : Nat → Nat} (w : WFA A) (ht : mtab (mnA A) (an A 3) one oth thd) {o : Nat} (ho : o < an A 2) (v : List Nat) : v ∈ enumO A one oth thd o ↔ syA A v = some o ∧ v.length ≤ 5 := by
  have h1 := w.o1 ho
  have hl : (rowL A o).length = an A (58 + 6 * o + 1) := tl_len _ _
  unfold enumO syA
  cases hc : cbm A o with
  | true =>
    obtain ⟨c1, c2⟩ := Bool.and_eq_true_iff.mp hc
    have c1 := of_decide_eq_true c1
    have c2 := of_decide_eq_true c2
    rw [if_pos rfl, enumR_iff _ _ _ _ _ ht c1 (by omega)]
    constructor
    · rintro ⟨h2, h3⟩; exact ⟨by rw [h2]; exact c2, h3⟩
    · rintro ⟨h2, h3⟩; exact ⟨(ordOf_some.mp h2).2.1.symm, h3⟩
  | false =>
    rw [if_neg (by simp)]
    simp only [List.not_mem_nil, false_iff]
    rintro ⟨h2, _⟩
    have h3 := ordOf_some.mp h2
    have : cbm A o = true := by
      unfold cbm
      rw [Bool.and_eq_true_iff]
      refine ⟨decide_eq_true ?_, decide_eq_true ?_⟩
      · rw [h3.2.1]; exact mean_irr _ _
      · rw [h3.2.1]; exact h2
    rw [hc] at this
    cases this
/-- what the table of bags holds -/
def EXA (h : pm_H) (A : Nat → Int32) : Prop := ∀ i, i < 3003 → ∃ e, h.2.1 74 i = nI e ∧ e < 256 ∧ ∀ o, e.testBit o = true ↔ ∃ v, syA A v = some o ∧ v.length ≤ 5 ∧ (∀ x ∈ v, x < 10) ∧ bn v = i
def EXP (h : pm_H) (P : Nat → List Nat → Prop) : Prop := ∀ i, i < 3003 → ∃ e, h.2.1 74 i = nI e ∧ e < 256 ∧ ∀ o, e.testBit o = true ↔ ∃ v, P o v ∧ bn v = i
def KC (c : Nat) : Prop := c = 69 ∨ c = 70 ∨ c = 71 ∨ c = 72 ∨ c = 73 ∨ c = 74 ∨ c = 76
def KD (c : Nat) : Prop := c = 70 ∨ c = 71 ∨ c = 72 ∨ c = 73 ∨ c = 74 ∨ c = 76
theorem KD.kc {c : Nat} (h : KD c) : KC c := .inr h
theorem cur_mem {h : pm_H} {q : Nat} {c : List Nat} (C : CUR h q c) : ∀ x ∈ c, x < 10 := by
  intro x hx
  obtain ⟨j, hj, rfl⟩ := List.getElem_of_mem hx
  have := (C.2.2.2 j hj).2
  rwa [List.getD_eq_getElem?_getD, List.getElem?_eq_getElem hj] at this
theorem r_wordAt_c {h : pm_H} {q : Nat} {c : List Nat} (R : RF h) (hq : mi_o q 5 = true) (C : CUR h q c) {j : Nat} (hj : j < c.length) : r_wordAt q (nI j) h = some (nI (c.getD j 0)) := by
  unfold r_wordAt
  rw [C.1, r_at_t R hq C.2.2.1 hj, Option.bind_some, (C.2.2.2 j hj).1]
theorem CUR.fr {h h' : pm_H} {q : Nat} {c : List Nat} (C : CUR h q c) (h1 : h'.2.1 q = h.2.1 q) (h2 : h'.2.1 (q + 1) = h.2.1 (q + 1)) : CUR h' q c := by
  unfold CUR at C ⊢
  rw [h1, h2]
  exact C
theorem RS.fr {A : Nat → Int32} {one oth thd : Nat → Nat} {h h' : pm_H} {q s : Nat} {rem : List (List Nat)} (H : RS A one oth thd h q s rem) (h0 : h'.2.2.2 q 0 = h.2.2.2 q 0) (h1 : h'.2.1 q = h.2.1 q) (h2 : h'.2.1 (q + 1) = h.2.1 (q + 1)) (h3 : h'.2.1 (q + 2) = h.2.1 (q + 2)) (h4 : h'.2.1 (q + 3) = h.2.1 (q + 3)) : RS A one oth thd h' q s rem := by
  have hst : ∀ L st, stOK A h q L st → stOK A h' q L st := fun L st T => stOK_fr st L T (by rw [h1]) (fun r _ => ⟨fun j _ => by rw [h2], by rw [h3], by rw [h4]⟩)
  unfold RS at H ⊢
  rw [h0, h1]
  obtain ⟨H0, H | H⟩ := H
  · refine ⟨H0, .inl ⟨H.1, ?_⟩⟩
    rcases H.2 with q | ⟨r, a, b, c⟩
    · exact .inl q
    · exact .inr ⟨r, a, hst _ _ b, c⟩
  · obtain ⟨a, L, st, b, c, d, e⟩ := H
    exact ⟨H0, .inr ⟨a, L, st, b, c, hst _ _ d, e⟩⟩
section LE
variable {h : pm_H} {s : Nat} {A : Nat → Int32} {one oth thd : Nat → Nat}
theorem q70 : mi_o 70 5 = true := by decide +kernel
/-- one row goes into the bag -/
theorem k_learn_put (R : RF h) {c : List Nat} (C : CUR h 70 c) (B : BAG h []) (x : Int32) (y : Int32) : SP (wh (fun z : (Int32 × pm_H) => c_learn_66 69 s x y z.1 z.2) (nI 0, h)) (fun h' => Fr (· = 76) h h' ∧ BAG h' c) := by
  have hl := C.2.2.1
  have main : SP (wh (fun z : (Int32 × pm_H) => c_learn_66 69 s x y z.1 z.2) (nI 0, h)) (fun h' => Fr (· = 76) h h' ∧ BAG h' (c.take c.length).reverse) := by
    refine wh_cnt (fun i z => z.1 = nI i ∧ Fr (· = 76) h z.2 ∧ BAG z.2 (c.take i).reverse) _ c.length ?_ ?_ 0 (nI 0, h) (by omega) ⟨rfl, Fr.refl _ _, by simpa using B⟩
    · rintro i ⟨v, h1⟩ hi ⟨rfl, f1, B1⟩
      dsimp only at f1 B1
      have R1 := R.fr f1
      have C1 := C.fr (f1.2.2 70 (by omega)).1 (f1.2.2 71 (by omega)).1
      unfold c_learn_66
      simp (disch := omega) only [ra_69_1 R1, Option.bind_some, C1.1, nx_lt, nx_le, nx_eq, nx_add, nx_sub, nx_mul, nx_cl, n_lt_ng, n_le_ng, n_eq_ng, ng_lt_n, ng_le_n, ng_eq_n, ng_eq, ng_lt, ng_le, nx_dec, r_wordAt_c R1 q70 C1 hi, kc_im8, kc_im1, kc_i0, kc_i1, kc_i2, kc_i3, kc_i4, kc_i5, kc_b_m100, kc_b_m16, kc_b_m15, kc_b_m14, kc_b_m13, kc_b_m12, kc_b_m11, kc_b_m2, kc_b_6, kc_b_7, kc_b_8, kc_b_9, kc_b_10, kc_b_11, kc_b_12, kc_b_13, kc_b_14, kc_b_15, kc_b_16, kc_b_20, kc_b_24, kc_b_32, kc_b_37, kc_b_40, kc_b_42, kc_b_43, kc_b_45, kc_b_47, kc_b_48, kc_b_57, kc_b_58, kc_b_59, kc_b_60, kc_b_61, kc_b_62, kc_b_63, kc_b_91, kc_b_93, kc_b_97, kc_b_99, kc_b_100, kc_b_106, kc_b_122, kc_s_206, kc_s_226, kc_s_227, kc_s_255, kc_s_256, kc_s_316, kc_s_318, kc_s_400, kc_s_512, kc_s_999, kc_s_1160, kc_s_1536, kc_s_3003, kc_lm11, kc_lm10, kc_lm9, kc_lm8, kc_lm7, kc_lm6, kc_lm5, kc_lm4, kc_lm3, kc_lm2, kc_lm1, kc_l1, kc_l2, kc_l3, kc_l4, kc_l5, kc_l6, kc_l7, kc_l8, kc_l9, kc_l10, kc_l11, kc_l12, kc_l13, kc_l14, kc_l37, kc_l42, kc_l43, kc_l45, kc_l47, kc_l60, kc_l61, kc_l62, kc_l316, kc_l318, kc_l65536, kc_l99999, kc_l1000000, kc_l252645135, kc_l858993459, kc_l1431655765, kc_0, kc_on]
      refine sp_neg (by omega) ?_
      refine sp_call (k_put R1 B1 (by rw [List.length_reverse, List.length_take]; omega) (C.2.2.2 i hi).2) ?_
      rintro h2 ⟨f2, B2⟩
      refine sp_some.mpr ⟨rfl, f1.trans f2, ?_⟩
      have e : c.take (i + 1) = c.take i ++ [c.getD i 0] := by
        rw [List.take_succ, List.getD_eq_getElem?_getD, List.getElem?_eq_getElem hi]
        rfl
      rw [e, List.reverse_append]
      exact B2
    · rintro ⟨v, h1⟩ ⟨rfl, f1, B1⟩
      dsimp only at f1 B1
      have R1 := R.fr f1
      have C1 := C.fr (f1.2.2 70 (by omega)).1 (f1.2.2 71 (by omega)).1
      unfold c_learn_66
      simp (disch := omega) only [ra_69_1 R1, Option.bind_some, C1.1, nx_lt, nx_le, nx_eq, nx_add, nx_sub, nx_mul, nx_cl, n_lt_ng, n_le_ng, n_eq_ng, ng_lt_n, ng_le_n, ng_eq_n, ng_eq, ng_lt, ng_le, nx_dec]
      exact sp_pos (by omega) (sp_some.mpr ⟨f1, B1⟩)
  refine main.mono ?_
  rintro h' ⟨f, B'⟩
  refine ⟨f, fun y hy => ?_⟩
  rw [B' y hy, List.take_length]
  congr 1
  exact (List.reverse_perm c).count_eq y
/-- all rows of one order -/
theorem k_learn_ord (S : CSh h s A) (w : WFA A) (R : RF h) (K : KT h s one oth thd) {o : Nat} (ho : o < an A 2) {rem : List (List Nat)} (H : RS A one oth thd h 70 s rem) (hr : rem.length < 1000000) {P : Nat → List Nat → Prop} (E : EXP h P) : SP (wh (fun z : (Int32 × pm_H) => c_learn_39 69 s (nI o) z.1 z.2) (nI 0, h)) (fun h' => Fr KD h h' ∧ (∀ v ∈ rem, ∀ x ∈ v, x < 10) ∧ (∀ v ∈ rem, v.length ≤ 5) ∧ EXP h' (fun o' v => P o' v ∨ (o' = o ∧ v ∈ rem))) := by
  have h2 := w.e2
  have hsv := hull_ge S.1
  have main : SP (wh (fun z : (Int32 × pm_H) => c_learn_39 69 s (nI o) z.1 z.2) (nI 0, h)) (fun h' => ∃ dn, rem = dn ++ [] ∧ Fr KD h h' ∧ (∀ v ∈ dn, ∀ x ∈ v, x < 10) ∧ (∀ v ∈ dn, v.length ≤ 5) ∧ EXP h' (fun o' v => P o' v ∨ (o' = o ∧ v ∈ dn))) := by
    refine wh_cnt (fun i z => ∃ dn rm, rem = dn ++ rm ∧ dn.length = i ∧ z.1 = nI i ∧ Fr KD h z.2 ∧ RS A one oth thd z.2 70 s rm ∧ (∀ v ∈ dn, ∀ x ∈ v, x < 10) ∧ (∀ v ∈ dn, v.length ≤ 5) ∧ EXP z.2 (fun o' v => P o' v ∨ (o' = o ∧ v ∈ dn))) _ rem.length ?_ ?_ 0 (nI 0, h) (by omega) ⟨[], rem, rfl, rfl, rfl, Fr.refl _ _, H, by simp, by simp, by simpa using E⟩
    · rintro i ⟨v, h1⟩ hi ⟨dn, rm, e1, e2, rfl, f1, H1, d1, d2, E1⟩
      dsimp only at f1 H1 E1
      have S1 := S.fr f1 (fun c a b => by unfold KD; omega)
      have K1 := K.fr f1 (fun c a b => by unfold KD; omega)
      have R1 := R.fr f1
      unfold c_learn_39
      simp (disch := omega) only [kc_im8, kc_im1, kc_i0, kc_i1, kc_i2, kc_i3, kc_i4, kc_i5, kc_b_m100, kc_b_m16, kc_b_m15, kc_b_m14, kc_b_m13, kc_b_m12, kc_b_m11, kc_b_m2, kc_b_6, kc_b_7, kc_b_8, kc_b_9, kc_b_10, kc_b_11, kc_b_12, kc_b_13, kc_b_14, kc_b_15, kc_b_16, kc_b_20, kc_b_24, kc_b_32, kc_b_37, kc_b_40, kc_b_42, kc_b_43, kc_b_45, kc_b_47, kc_b_48, kc_b_57, kc_b_58, kc_b_59, kc_b_60, kc_b_61, kc_b_62, kc_b_63, kc_b_91, kc_b_93, kc_b_97, kc_b_99, kc_b_100, kc_b_106, kc_b_122, kc_s_206, kc_s_226, kc_s_227, kc_s_255, kc_s_256, kc_s_316, kc_s_318, kc_s_400, kc_s_512, kc_s_999, kc_s_1160, kc_s_1536, kc_s_3003, kc_lm11, kc_lm10, kc_lm9, kc_lm8, kc_lm7, kc_lm6, kc_lm5, kc_lm4, kc_lm3, kc_lm2, kc_lm1, kc_l1, kc_l2, kc_l3, kc_l4, kc_l5, kc_l6, kc_l7, kc_l8, kc_l9, kc_l10, kc_l11, kc_l12, kc_l13, kc_l14, kc_l37, kc_l42, kc_l43, kc_l45, kc_l47, kc_l60, kc_l61, kc_l62, kc_l316, kc_l318, kc_l65536, kc_l99999, kc_l1000000, kc_l252645135, kc_l858993459, kc_l1431655765, kc_0, kc_on, nx_lt, nx_le, nx_eq, nx_add, nx_sub, nx_mul, nx_cl, n_lt_ng, n_le_ng, n_eq_ng, ng_lt_n, ng_le_n, ng_eq_n, ng_eq, ng_lt, ng_le, nx_dec, ra_69_1 R1, Option.bind_some]
      refine sp_neg (by omega) ?_
      refine sp_call (r_adv_sp S1 w R1 (w.p2 ho) q70 K1 H1) ?_
      rintro ⟨x, h3⟩ ⟨f3, hz⟩
      dsimp only at f3 hz
      have f13 : Fr KD h h3 := f1.trans (f3.mono (fun c hc => by unfold QC at hc; unfold KD; omega))
      rcases hz with ⟨rfl, rfl⟩ | ⟨rfl, c, rm', rfl, H3, C3⟩
      · exfalso
        rw [e1, List.append_nil] at hi
        omega
      · refine sp_neg (by rw [nx_eq (by omega) (by omega)]; omega) ?_
        have R3 := R.fr f13
        rw [ra_69_5 R3, Option.bind_some]
        refine sp_call (y_fill_sp (by rw [mn_76]; omega)) ?_
        rintro h4 ⟨f4, z4⟩
        rw [mn_76] at z4
        have R4 := R3.fr f4
        have C4 : CUR h4 70 c := C3.fr (f4.2.2 70 (by omega)).1 (f4.2.2 71 (by omega)).1
        refine sp_call (k_learn_put (s := s) R4 C4 (fun y hy => z4 y hy) (nI o) (nI i)) ?_
        rintro h5 ⟨f5, B5⟩
        have f45 := f4.trans f5
        have R5 := R3.fr f45
        have C5 : CUR h5 70 c := C3.fr (f45.2.2 70 (by omega)).1 (f45.2.2 71 (by omega)).1
        have hcm := cur_mem C3
        have hbn := bn_lt hcm C3.2.2.1
        rw [ra_69_2 R5, Option.bind_some, ra_69_1 R5, Option.bind_some, C5.1, k_bagNumber R5 B5 C3.2.2.1 hcm, Option.bind_some, mn_74, nx_cl (by omega), gi_n (by omega)]
        refine sp_pos (by simpa using hbn) (sp_pos (by simpa using hbn) ?_)
        have f15 : Fr KD h h5 := f13.trans (f45.mono (fun c hc => by unfold KD; omega))
        have f1_5 : ∀ j, h5.2.1 74 j = h1.2.1 74 j := by
          intro j
          rw [f45.i _ (by omega), f3.i _ (by unfold QC; omega)]
        obtain ⟨e0, a1, a2, a3⟩ := E1 (bn c) hbn
        rw [f1_5, a1, nx_shl1 (by omega), nx_or2, sp_bd, sp_some]
        refine ⟨dn ++ [c], rm', by rw [e1]; simp, by simp [e2], rfl, f15.setI (by unfold KD; omega), ?_, ?_, ?_, ?_⟩
        · exact (H3.fr (h' := h5) (by rw [f45.r]) (f45.2.2 70 (by omega)).1 (f45.2.2 71 (by omega)).1 (f45.2.2 72 (by omega)).1 (f45.2.2 73 (by omega)).1).fr rfl (by funext j; exact ri_c _ (by omega)) (by funext j; exact ri_c _ (by omega)) (by funext j; exact ri_c _ (by omega)) (by funext j; exact ri_c _ (by omega))
        · intro v hv
          rcases List.mem_append.mp hv with q | q
          · exact d1 v q
          · rw [List.mem_singleton.mp q]; exact hcm
        · intro v hv
          rcases List.mem_append.mp hv with q | q
          · exact d2 v q
          · rw [List.mem_singleton.mp q]; exact C3.2.2.1
        · intro j hj
          by_cases ej : j = bn c
          · subst ej
            refine ⟨e0 ||| 2 ^ o, ri_s _, ?_, fun o' => ?_⟩
            · have : 2 ^ o < 2 ^ 8 := Nat.pow_lt_pow_right (by decide) (by omega)
              exact Nat.or_lt_two_pow (n := 8) a2 this
            · rw [Nat.testBit_or, Nat.testBit_two_pow, Bool.or_eq_true, a3 o', decide_eq_true_eq]
              constructor
              · rintro (⟨v, q | ⟨q1, q2⟩, hb⟩ | rfl)
                · exact ⟨v, .inl q, hb⟩
                · exact ⟨v, .inr ⟨q1, by simp [q2]⟩, hb⟩
                · exact ⟨c, .inr ⟨rfl, by simp⟩, rfl⟩
              · rintro ⟨v, q | ⟨rfl, q2⟩, hb⟩
                · exact .inl ⟨v, .inl q, hb⟩
                · rcases List.mem_append.mp q2 with q | q
                  · exact .inl ⟨v, .inr ⟨rfl, q⟩, hb⟩
                  · exact .inr rfl
          · obtain ⟨e', b1, b2, b3⟩ := E1 j hj
            refine ⟨e', ?_, b2, fun o' => ?_⟩
            · show (pm_setI h5 74 (bn c) (nI (e0 ||| 2 ^ o))).2.1 74 j = _
              rw [ri_j _ ej, f1_5]; exact b1
            · rw [b3 o']
              constructor
              · rintro ⟨v, q | ⟨q1, q2⟩, hb⟩
                · exact ⟨v, .inl q, hb⟩
                · exact ⟨v, .inr ⟨q1, by simp [q2]⟩, hb⟩
              · rintro ⟨v, q | ⟨rfl, q2⟩, hb⟩
                · exact ⟨v, .inl q, hb⟩
                · rcases List.mem_append.mp q2 with q | q
                  · exact ⟨v, .inr ⟨rfl, q⟩, hb⟩
                  · rw [List.mem_singleton.mp q] at hb; exact (ej hb.symm).elim
    · rintro ⟨v, h1⟩ ⟨dn, rm, e1, e2, rfl, f1, H1, d1, d2, E1⟩
      dsimp only at f1 H1 E1
      have S1 := S.fr f1 (fun c a b => by unfold KD; omega)
      have K1 := K.fr f1 (fun c a b => by unfold KD; omega)
      have R1 := R.fr f1
      have hrm : rm = [] := by
        apply List.eq_nil_of_length_eq_zero
        have := congrArg List.length e1
        rw [List.length_append] at this
        omega
      subst hrm
      unfold c_learn_39
      simp (disch := omega) only [kc_im8, kc_im1, kc_i0, kc_i1, kc_i2, kc_i3, kc_i4, kc_i5, kc_b_m100, kc_b_m16, kc_b_m15, kc_b_m14, kc_b_m13, kc_b_m12, kc_b_m11, kc_b_m2, kc_b_6, kc_b_7, kc_b_8, kc_b_9, kc_b_10, kc_b_11, kc_b_12, kc_b_13, kc_b_14, kc_b_15, kc_b_16, kc_b_20, kc_b_24, kc_b_32, kc_b_37, kc_b_40, kc_b_42, kc_b_43, kc_b_45, kc_b_47, kc_b_48, kc_b_57, kc_b_58, kc_b_59, kc_b_60, kc_b_61, kc_b_62, kc_b_63, kc_b_91, kc_b_93, kc_b_97, kc_b_99, kc_b_100, kc_b_106, kc_b_122, kc_s_206, kc_s_226, kc_s_227, kc_s_255, kc_s_256, kc_s_316, kc_s_318, kc_s_400, kc_s_512, kc_s_999, kc_s_1160, kc_s_1536, kc_s_3003, kc_lm11, kc_lm10, kc_lm9, kc_lm8, kc_lm7, kc_lm6, kc_lm5, kc_lm4, kc_lm3, kc_lm2, kc_lm1, kc_l1, kc_l2, kc_l3, kc_l4, kc_l5, kc_l6, kc_l7, kc_l8, kc_l9, kc_l10, kc_l11, kc_l12, kc_l13, kc_l14, kc_l37, kc_l42, kc_l43, kc_l45, kc_l47, kc_l60, kc_l61, kc_l62, kc_l316, kc_l318, kc_l65536, kc_l99999, kc_l1000000, kc_l252645135, kc_l858993459, kc_l1431655765, kc_0, kc_on, nx_lt, nx_le, nx_eq, nx_add, nx_sub, nx_mul, nx_cl, n_lt_ng, n_le_ng, n_eq_ng, ng_lt_n, ng_le_n, ng_eq_n, ng_eq, ng_lt, ng_le, nx_dec, ra_69_1 R1, Option.bind_some]
      refine sp_neg (by omega) ?_
      refine sp_call (r_adv_sp S1 w R1 (w.p2 ho) q70 K1 H1) ?_
      rintro ⟨x, h3⟩ ⟨f3, hz⟩
      dsimp only at f3 hz
      have f13 : Fr KD h h3 := f1.trans (f3.mono (fun c hc => by unfold QC at hc; unfold KD; omega))
      rcases hz with ⟨rfl, _⟩ | ⟨rfl, c, rm', e, _⟩
      · refine sp_pos rfl (sp_some.mpr ⟨dn, e1, f13, d1, d2, fun j hj => ?_⟩)
        show ∃ e, h3.2.1 74 j = _ ∧ _
        rw [f3.i (c := 74) j (by unfold QC; omega)]
        exact E1 j hj
      · cases e
  refine main.mono ?_
  rintro h' ⟨dn, e1, f, d1, d2, E'⟩
  rw [List.append_nil] at e1
  subst e1
  exact ⟨f, d1, d2, E'⟩
theorem k_learn (S : CSh h s A) (w : WFA A) (R : RF h) : SP (c_learn 69 s h) (fun h' => Fq KC h h' ∧ h'.2.2.2 69 0 = some s ∧ (∀ k j, k < 69 ∨ 77 ≤ k → h'.2.2.2 k j = h.2.2.2 k j) ∧ h'.2.1 69 4 = nI 0 ∧ EXA h' A) := by
  have h2 := w.e2
  have h3 := w.e3
  have hsv := hull_ge S.1
  have K : KT h s (an (h.2.1 (s + 6))) (an (h.2.1 (s + 7))) (an (h.2.1 (s + 8))) := ⟨rfl, rfl, rfl⟩
  have ht := S.2.2.2.2.2.2.2.2.2
  generalize an (h.2.1 (s + 6)) = one at K ht
  generalize an (h.2.1 (s + 7)) = oth at K ht
  generalize an (h.2.1 (s + 8)) = thd at K ht
  unfold c_learn
  rw [sp_bd, sp_bd]
  generalize hh1 : pm_setI (pm_setR h 69 0 (some s)) 69 4 (Int32.ofInt 0) = h1
  have rf1 : ∀ k j, ¬ (k = 69 ∧ j = 0) → h1.2.2.2 k j = h.2.2.2 k j := by
    intro k j hkj
    rw [← hh1]
    show pm_up h.2.2.2 69 0 (some s) k j = _
    unfold pm_up
    by_cases e : k = 69
    · rw [if_pos e, if_neg (fun e2 => hkj ⟨e, e2⟩)]
    · rw [if_neg e]
  have f1 : Fq KC h h1 := by
    refine ⟨by rw [← hh1]; rfl, fun k j hj => rf1 k j (fun e => ?_), fun c hc => ⟨?_, by rw [← hh1]; rfl⟩⟩
    · have := hj e.2; omega
    · rw [← hh1]; funext j; exact ri_c _ (fun e => hc (by unfold KC; omega))
  have R1 := R.fq f1
  have s1 : h1.2.2.2 69 0 = some s := by rw [← hh1]; show pm_up h.2.2.2 69 0 (some s) 69 0 = _; simp [pm_up]
  have g1 : h1.2.1 69 4 = nI 0 := by rw [← hh1, ri_s]; rfl
  clear hh1
  rw [ra_69_2 R1, Option.bind_some]
  refine sp_call (y_fill_sp (by rw [mn_74]; omega)) ?_
  rintro h4 ⟨f4, z4⟩
  rw [mn_74] at z4
  have f14 : Fq KC h h4 := f1.trans (f4.q.mono (fun c hc => by unfold KC; omega))
  have hk4 : ∀ k j, k < 69 ∨ 77 ≤ k → h4.2.2.2 k j = h.2.2.2 k j := fun k j hk => by rw [f4.r]; exact rf1 k j (by omega)
  have s4 : h4.2.2.2 69 0 = some s := by rw [f4.r]; exact s1
  have g4 : h4.2.1 69 4 = nI 0 := by rw [f4.i _ (by omega)]; exact g1
  have main : SP (wh (fun z : (Int32 × pm_H) => c_learn_20 69 s z.1 z.2) (nI 0, h4)) (fun h' => Fq KC h h' ∧ h'.2.2.2 69 0 = some s ∧ (∀ k j, k < 69 ∨ 77 ≤ k → h'.2.2.2 k j = h.2.2.2 k j) ∧ h'.2.1 69 4 = nI 0 ∧ EXP h' (fun o v => o < an A 2 ∧ syA A v = some o ∧ v.length ≤ 5 ∧ ∀ x ∈ v, x < 10)) := by
    refine wh_cnt (fun i z => z.1 = nI i ∧ Fq KC h z.2 ∧ z.2.2.2.2 69 0 = some s ∧ (∀ k j, k < 69 ∨ 77 ≤ k → z.2.2.2.2 k j = h.2.2.2 k j) ∧ z.2.2.1 69 4 = nI 0 ∧ EXP z.2 (fun o v => o < i ∧ syA A v = some o ∧ v.length ≤ 5 ∧ ∀ x ∈ v, x < 10)) _ (an A 2) ?_ ?_ 0 (nI 0, h4) (by omega) ⟨rfl, f14, s4, hk4, g4, fun j hj => ⟨0, z4 j hj, by omega, fun o => by simp⟩⟩
    · rintro i ⟨x, h5⟩ hi ⟨rfl, f5, s5, k5, g5, E5⟩
      dsimp only at f5 s5 k5 g5 E5
      have R5 := R.fq f5
      have S5 := S.fq f5 (fun c a b => by unfold KC; omega)
      unfold c_learn_20
      simp (disch := omega) only [kc_im8, kc_im1, kc_i0, kc_i1, kc_i2, kc_i3, kc_i4, kc_i5, kc_b_m100, kc_b_m16, kc_b_m15, kc_b_m14, kc_b_m13, kc_b_m12, kc_b_m11, kc_b_m2, kc_b_6, kc_b_7, kc_b_8, kc_b_9, kc_b_10, kc_b_11, kc_b_12, kc_b_13, kc_b_14, kc_b_15, kc_b_16, kc_b_20, kc_b_24, kc_b_32, kc_b_37, kc_b_40, kc_b_42, kc_b_43, kc_b_45, kc_b_47, kc_b_48, kc_b_57, kc_b_58, kc_b_59, kc_b_60, kc_b_61, kc_b_62, kc_b_63, kc_b_91, kc_b_93, kc_b_97, kc_b_99, kc_b_100, kc_b_106, kc_b_122, kc_s_206, kc_s_226, kc_s_227, kc_s_255, kc_s_256, kc_s_316, kc_s_318, kc_s_400, kc_s_512, kc_s_999, kc_s_1160, kc_s_1536, kc_s_3003, kc_lm11, kc_lm10, kc_lm9, kc_lm8, kc_lm7, kc_lm6, kc_lm5, kc_lm4, kc_lm3, kc_lm2, kc_lm1, kc_l1, kc_l2, kc_l3, kc_l4, kc_l5, kc_l6, kc_l7, kc_l8, kc_l9, kc_l10, kc_l11, kc_l12, kc_l13, kc_l14, kc_l37, kc_l42, kc_l43, kc_l45, kc_l47, kc_l60, kc_l61, kc_l62, kc_l316, kc_l318, kc_l65536, kc_l99999, kc_l1000000, kc_l252645135, kc_l858993459, kc_l1431655765, kc_0, kc_on, S5.2.2.2.1, h2.1, nx_lt, nx_le, nx_eq, nx_add, nx_sub, nx_mul, nx_cl, n_lt_ng, n_le_ng, n_eq_ng, ng_lt_n, ng_le_n, ng_eq_n, ng_eq, ng_lt, ng_le, nx_dec, ra_69_1 R5, Option.bind_some]
      refine sp_neg (by omega) ?_
      refine sp_call (r_begin_sp (one := one) (oth := oth) (thd := thd) S5 w R5 q70 hi) ?_
      rintro h6 ⟨f6, r6, H6⟩
      have f56 : Fq KC h h6 := f5.trans (f6.mono (fun c hc => by unfold QC at hc; unfold KC; omega))
      have R6 := R.fq f56
      have S6 := S.fq f56 (fun c a b => by unfold KC; omega)
      have K6 : KT h6 s one oth thd := by
        unfold KT at K ⊢
        rw [(f56.2.2 (s + 6) (by unfold KC; omega)).1, (f56.2.2 (s + 7) (by unfold KC; omega)).1, (f56.2.2 (s + 8) (by unfold KC; omega)).1]
        exact K
      have E6 : EXP h6 (fun o v => o < i ∧ syA A v = some o ∧ v.length ≤ 5 ∧ ∀ x ∈ v, x < 10) := by
        intro j hj
        rw [f6.i (c := 74) j (by unfold QC; omega)]
        exact E5 j hj
      have hcnt : (enumO A one oth thd i).length < 1000000 := by
        unfold enumO
        split
        · have l1 := w.o1 hi
          have l2 := w.o1p hi
          have hl : (rowL A i).length = an A (58 + 6 * i + 1) := tl_len _ _
          exact enumR_cnt _ _ _ _ _ (by omega) (by omega) (by omega)
        · simp
      refine sp_call (k_learn_ord S6 w R6 K6 hi H6 hcnt E6) ?_
      rintro h7 ⟨f7, d1, d2, E7⟩
      refine sp_some.mpr ⟨rfl, f56.trans (f7.q.mono (fun c hc => hc.kc)), ?_, fun k j hk => ?_, ?_, fun j hj => ?_⟩
      · show h7.2.2.2 69 0 = some s
        rw [f7.r, r6 69 0 (by omega)]; exact s5
      · show h7.2.2.2 k j = _
        rw [f7.r, r6 k j (by omega)]; exact k5 k j hk
      · show h7.2.1 69 4 = nI 0
        rw [f7.i _ (by unfold KD; omega), f6.i _ (by unfold QC; omega)]; exact g5
      · obtain ⟨e, a1, a2, a3⟩ := E7 j hj
        refine ⟨e, a1, a2, fun o => ?_⟩
        rw [a3 o]
        constructor
        · rintro ⟨v, ⟨q1, q2⟩ | ⟨rfl, q2⟩, hb⟩
          · exact ⟨v, ⟨by omega, q2⟩, hb⟩
          · have := (enumO_iff w ht hi v).mp q2
            exact ⟨v, ⟨by omega, this.1, this.2, d1 v q2⟩, hb⟩
        · rintro ⟨v, ⟨q1, q2, q3, q4⟩, hb⟩
          by_cases e : o = i
          · subst e
            exact ⟨v, .inr ⟨rfl, (enumO_iff w ht hi v).mpr ⟨q2, q3⟩⟩, hb⟩
          · exact ⟨v, .inl ⟨by omega, q2, q3, q4⟩, hb⟩
    · rintro ⟨x, h5⟩ ⟨rfl, f5, s5, k5, g5, E5⟩
      dsimp only at f5 s5 k5 g5 E5
      have S5 := S.fq f5 (fun c a b => by unfold KC; omega)
      unfold c_learn_20
      simp (disch := omega) only [kc_im8, kc_im1, kc_i0, kc_i1, kc_i2, kc_i3, kc_i4, kc_i5, kc_b_m100, kc_b_m16, kc_b_m15, kc_b_m14, kc_b_m13, kc_b_m12, kc_b_m11, kc_b_m2, kc_b_6, kc_b_7, kc_b_8, kc_b_9, kc_b_10, kc_b_11, kc_b_12, kc_b_13, kc_b_14, kc_b_15, kc_b_16, kc_b_20, kc_b_24, kc_b_32, kc_b_37, kc_b_40, kc_b_42, kc_b_43, kc_b_45, kc_b_47, kc_b_48, kc_b_57, kc_b_58, kc_b_59, kc_b_60, kc_b_61, kc_b_62, kc_b_63, kc_b_91, kc_b_93, kc_b_97, kc_b_99, kc_b_100, kc_b_106, kc_b_122, kc_s_206, kc_s_226, kc_s_227, kc_s_255, kc_s_256, kc_s_316, kc_s_318, kc_s_400, kc_s_512, kc_s_999, kc_s_1160, kc_s_1536, kc_s_3003, kc_lm11, kc_lm10, kc_lm9, kc_lm8, kc_lm7, kc_lm6, kc_lm5, kc_lm4, kc_lm3, kc_lm2, kc_lm1, kc_l1, kc_l2, kc_l3, kc_l4, kc_l5, kc_l6, kc_l7, kc_l8, kc_l9, kc_l10, kc_l11, kc_l12, kc_l13, kc_l14, kc_l37, kc_l42, kc_l43, kc_l45, kc_l47, kc_l60, kc_l61, kc_l62, kc_l316, kc_l318, kc_l65536, kc_l99999, kc_l1000000, kc_l252645135, kc_l858993459, kc_l1431655765, kc_0, kc_on, S5.2.2.2.1, h2.1, nx_lt, nx_le, nx_eq, nx_add, nx_sub, nx_mul, nx_cl, n_lt_ng, n_le_ng, n_eq_ng, ng_lt_n, ng_le_n, ng_eq_n, ng_eq, ng_lt, ng_le, nx_dec]
      exact sp_pos (by omega) (sp_some.mpr ⟨f5, s5, k5, g5, E5⟩)
  refine sp_call main ?_
  rintro h' ⟨a1, a2, a3, a4, a5⟩
  refine sp_some.mpr ⟨a1, a2, a3, a4, fun i hi => ?_⟩
  obtain ⟨e, b1, b2, b3⟩ := a5 i hi
  refine ⟨e, b1, b2, fun o => ?_⟩
  rw [b3 o]
  constructor
  · rintro ⟨v, ⟨_, q2, q3, q4⟩, hb⟩; exact ⟨v, q2, q3, q4, hb⟩
  · rintro ⟨v, q2, q3, q4, hb⟩; exact ⟨v, ⟨(ordOf_some.mp q2).1, q2, q3, q4⟩, hb⟩
end LE
