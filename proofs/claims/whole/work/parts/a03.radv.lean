/-! The program's Rows: on to the next row. -/
/-- the meanings of the ship s, by rows -/
def KT (h : pm_H) (s : Nat) (one oth thd : Nat → Nat) : Prop := an (h.2.1 (s + 6)) = one ∧ an (h.2.1 (s + 7)) = oth ∧ an (h.2.1 (s + 8)) = thd
theorem KT.fr {h h' : pm_H} {s : Nat} {one oth thd : Nat → Nat} {P : Nat → Prop} (K : KT h s one oth thd) (f : Fr P h h') (hP : ∀ c, s ≤ c → c ≤ s + 9 → ¬ P c) : KT h' s one oth thd := by
  unfold KT at K ⊢
  rw [(f.2.2 (s + 6) (hP _ (by omega) (by omega))).1, (f.2.2 (s + 7) (hP _ (by omega) (by omega))).1, (f.2.2 (s + 8) (hP _ (by omega) (by omega))).1]
  exact K
section RA
variable {h : pm_H} {s q : Nat} {A : Nat → Int32} {one oth thd : Nat → Nat}
theorem kid_getD (l : List Nat) (i k j : Nat) (hi : i < l.length) (hj : j < l.length + 1) : (kid one oth l i k).getD j 0 = if j < i then l.getD j 0 else if j = i then one k else if j = i + 1 then oth k else l.getD (j - 1) 0 := by
  have h1 : kid one oth l i k = kid one oth (tl (fun x => l.getD x 0) l.length) i k := by rw [tl_of]
  rw [h1, kid_tl one oth _ _ i k hi, tl_getD _ hj]
theorem r_part_sp (S : CSh h s A) (w : WFA A) (R : RF h) (hz0 : 0 < an A 0) (hq : mi_o q 5 = true) (hs : h.2.2.2 q 0 = some s) (K : KT h s one oth thd) {L i k : Nat} {l : List Nat} {st : List (List Nat × Nat × Nat)} (h6 : h.2.1 q 6 = nI L) (hL : L < 5) (T : stOK A h q L ((l, i, k) :: st)) : SP (r_part q h) (fun z => Fr (fun c => c = q + 1 ∨ c = q + 2 ∨ c = q + 3) h z.2 ∧ ((z.1 = nI 0 ∧ kidsFrom (mnA A) (an A 3) one oth thd l (L - i) k = [] ∧ stOK A z.2 q (L - 1) st) ∨ (z.1 = nI 1 ∧ ∃ c i' k', kidsFrom (mnA A) (an A 3) one oth thd l (L - i) k = c :: kidsFrom (mnA A) (an A 3) one oth thd l (L - i') k' ∧ stOK A z.2 q (L + 1) ((c, 0, 0) :: (l, i', k') :: st)))) := by
  have h3 := w.e3
  have h0 := w.e0
  have hqv := rows_lt hq
  have hsv := hull_ge S.1
  obtain ⟨t1, t2, t3, t4, t5, t6, t7, t8, t9, t10⟩ := T
  dsimp only at t1 t4 t5 t6 t7 t8 t9
  unfold r_part
  rw [if_pos (by rw [hs]; simp), rf_r2 R hq, Option.bind_some, ln_r2 hq, h6, nx_cl (by omega), gi_n (by omega), if_pos (by simp; omega), t5]
  have key : SP (wh (fun z : (Int32 × pm_H) => r_part_19 q z.1 z.2) (nI i, h)) (fun r => match r with
      | .inl h' => Fr (fun c => c = q + 3) h h' ∧ (∀ r, r ≠ L → h'.2.1 (q + 3) r = h.2.1 (q + 3) r) ∧ kidsFrom (mnA A) (an A 3) one oth thd l (L - i) k = []
      | .inr (.inl z) => ∃ i' m, z.1 = nI i' ∧ z.2.1 = nI m ∧ i' < L ∧ m < an A 3 ∧ Fr (fun c => c = q + 3) h z.2.2 ∧ (∀ r, r ≠ L → z.2.2.2.1 (q + 3) r = h.2.1 (q + 3) r) ∧ (∀ j, j + 1 < i' → mnA A (l.getD j 0) (l.getD (j + 1) 0) = none) ∧ kidsFrom (mnA A) (an A 3) one oth thd l (L - i) k = kid one oth l i' m :: kidsFrom (mnA A) (an A 3) one oth thd l (L - i') (m + 1)
      | .inr (.inr h') => Fr (fun c => c = q + 3) h h' ∧ (∀ r, r ≠ L → h'.2.1 (q + 3) r = h.2.1 (q + 3) r) ∧ kidsFrom (mnA A) (an A 3) one oth thd l (L - i) k = []) := by
    refine wh_cnt (fun i' z => z.1 = nI i' ∧ Fr (fun c => c = q + 3) h z.2 ∧ (∀ r, r ≠ L → z.2.2.1 (q + 3) r = h.2.1 (q + 3) r) ∧ (∀ j, j + 2 < i' → mnA A (l.getD j 0) (l.getD (j + 1) 0) = none) ∧ ∃ k', k' ≤ 10 ∧ z.2.2.1 (q + 3) L = nI k' ∧ kidsFrom (mnA A) (an A 3) one oth thd l (L - i) k = kidsFrom (mnA A) (an A 3) one oth thd l (L - i') k') _ L ?_ ?_ i (nI i, h) t6 ⟨rfl, Fr.refl _ _, fun _ _ => rfl, fun j hj => t9 j (by omega), k, t8, t7, rfl⟩
    · rintro i' ⟨x, h1⟩ hi' ⟨rfl, f1, o1, p1, k', hk', e1, e2⟩
      dsimp only at f1 o1 e1
      have S1 := S.fr f1 (fun c a b => by omega)
      have R1 := R.fr f1
      have K1 := K.fr f1 (fun c a b => by omega)
      have l1 : h1.2.1 q 6 = nI L := by rw [f1.i 6 (by omega)]; exact h6
      have s1 : h1.2.2.2 q 0 = some s := by rw [f1.r]; exact hs
      have t4' : ∀ j, j < L → h1.2.1 (q + 1) (L * 5 + j) = nI (l.getD j 0) ∧ l.getD j 0 < 10 := by
        intro j hj; rw [f1.i _ (by omega)]; exact t4 j hj
      unfold r_part_19
      simp (disch := omega) only [kc_im8, kc_im1, kc_i0, kc_i1, kc_i2, kc_i3, kc_i4, kc_i5, kc_b_m100, kc_b_m16, kc_b_m15, kc_b_m14, kc_b_m13, kc_b_m12, kc_b_m11, kc_b_m2, kc_b_6, kc_b_7, kc_b_8, kc_b_9, kc_b_10, kc_b_11, kc_b_12, kc_b_13, kc_b_14, kc_b_15, kc_b_16, kc_b_20, kc_b_24, kc_b_32, kc_b_37, kc_b_40, kc_b_42, kc_b_43, kc_b_45, kc_b_47, kc_b_48, kc_b_57, kc_b_58, kc_b_59, kc_b_60, kc_b_61, kc_b_62, kc_b_63, kc_b_91, kc_b_93, kc_b_97, kc_b_99, kc_b_100, kc_b_106, kc_b_122, kc_s_206, kc_s_226, kc_s_227, kc_s_255, kc_s_256, kc_s_316, kc_s_318, kc_s_400, kc_s_512, kc_s_999, kc_s_1160, kc_s_1536, kc_s_3003, kc_lm11, kc_lm10, kc_lm9, kc_lm8, kc_lm7, kc_lm6, kc_lm5, kc_lm4, kc_lm3, kc_lm2, kc_lm1, kc_l1, kc_l2, kc_l3, kc_l4, kc_l5, kc_l6, kc_l7, kc_l8, kc_l9, kc_l10, kc_l11, kc_l12, kc_l13, kc_l14, kc_l37, kc_l42, kc_l43, kc_l45, kc_l47, kc_l60, kc_l61, kc_l62, kc_l316, kc_l318, kc_l65536, kc_l99999, kc_l1000000, kc_l252645135, kc_l858993459, kc_l1431655765, kc_0, kc_on, l1, nx_lt, nx_le, nx_eq, nx_add, nx_sub, nx_mul, nx_cl, n_lt_ng, n_le_ng, n_eq_ng, ng_lt_n, ng_le_n, ng_eq_n, ng_eq, ng_lt, ng_le, nx_dec]
      refine sp_neg (by omega) ?_
      have go : ∀ (p1 : ∀ j, j + 1 < i' → mnA A (l.getD j 0) (l.getD (j + 1) 0) = none), SP (r_part_66 q (nI i') h1) (fun z => match z with
          | .inl s' => s'.1 = nI (i' + 1) ∧ Fr (fun c => c = q + 3) h s'.2 ∧ (∀ r, r ≠ L → s'.2.2.1 (q + 3) r = h.2.1 (q + 3) r) ∧ ∃ k', k' ≤ 10 ∧ s'.2.2.1 (q + 3) L = nI k' ∧ kidsFrom (mnA A) (an A 3) one oth thd l (L - i) k = kidsFrom (mnA A) (an A 3) one oth thd l (L - (i' + 1)) k'
          | .inr (.inl h') => False
          | .inr (.inr (.inl z)) => ∃ i' m, z.1 = nI i' ∧ z.2.1 = nI m ∧ i' < L ∧ m < an A 3 ∧ Fr (fun c => c = q + 3) h z.2.2 ∧ (∀ r, r ≠ L → z.2.2.2.1 (q + 3) r = h.2.1 (q + 3) r) ∧ (∀ j, j + 1 < i' → mnA A (l.getD j 0) (l.getD (j + 1) 0) = none) ∧ kidsFrom (mnA A) (an A 3) one oth thd l (L - i) k = kid one oth l i' m :: kidsFrom (mnA A) (an A 3) one oth thd l (L - i') (m + 1)
          | .inr (.inr (.inr h')) => False) := by
        intro p1
        unfold r_part_66
        simp (disch := omega) only [kc_im8, kc_im1, kc_i0, kc_i1, kc_i2, kc_i3, kc_i4, kc_i5, kc_b_m100, kc_b_m16, kc_b_m15, kc_b_m14, kc_b_m13, kc_b_m12, kc_b_m11, kc_b_m2, kc_b_6, kc_b_7, kc_b_8, kc_b_9, kc_b_10, kc_b_11, kc_b_12, kc_b_13, kc_b_14, kc_b_15, kc_b_16, kc_b_20, kc_b_24, kc_b_32, kc_b_37, kc_b_40, kc_b_42, kc_b_43, kc_b_45, kc_b_47, kc_b_48, kc_b_57, kc_b_58, kc_b_59, kc_b_60, kc_b_61, kc_b_62, kc_b_63, kc_b_91, kc_b_93, kc_b_97, kc_b_99, kc_b_100, kc_b_106, kc_b_122, kc_s_206, kc_s_226, kc_s_227, kc_s_255, kc_s_256, kc_s_316, kc_s_318, kc_s_400, kc_s_512, kc_s_999, kc_s_1160, kc_s_1536, kc_s_3003, kc_lm11, kc_lm10, kc_lm9, kc_lm8, kc_lm7, kc_lm6, kc_lm5, kc_lm4, kc_lm3, kc_lm2, kc_lm1, kc_l1, kc_l2, kc_l3, kc_l4, kc_l5, kc_l6, kc_l7, kc_l8, kc_l9, kc_l10, kc_l11, kc_l12, kc_l13, kc_l14, kc_l37, kc_l42, kc_l43, kc_l45, kc_l47, kc_l60, kc_l61, kc_l62, kc_l316, kc_l318, kc_l65536, kc_l99999, kc_l1000000, kc_l252645135, kc_l858993459, kc_l1431655765, kc_0, kc_on, rf_r3 R1 hq, ln_r3 hq, Option.bind_some, l1, nx_lt, nx_le, nx_eq, nx_add, nx_sub, nx_mul, nx_cl, n_lt_ng, n_le_ng, n_eq_ng, ng_lt_n, ng_le_n, ng_eq_n, ng_eq, ng_lt, ng_le, nx_dec, gi_n, e1]
        refine sp_pos (by simp; omega) ?_
        have hf := r_find S1 w R1 hq s1 (i := i') (k := k') (l := l) l1 (by omega) hi' t1 t4' p1 hk'
        rw [K1.1, K1.2.1, K1.2.2] at hf
        refine sp_call hf ?_
        have hsplit := kidsFrom_at (mnA A) (an A 3) one oth thd (l := l) (i := i') (k := k') (by omega)
        rw [t1] at hsplit
        rintro (⟨x, h2⟩ | h2) hr
        · obtain ⟨rfl, m, hm, hx, hk2⟩ := hr
          dsimp only at hx
          subst hx
          refine sp_some.mpr ⟨i', m, rfl, rfl, hi', hm, f1, o1, p1, ?_⟩
          have hsplit2 := kidsFrom_at (mnA A) (an A 3) one oth thd (l := l) (i := i') (k := m + 1) (by omega)
          rw [t1] at hsplit2
          rw [e2, hsplit, hk2, hsplit2]
          rfl
        · obtain ⟨rfl, hk2⟩ := hr
          dsimp only
          simp (disch := omega) only [rf_r3 R1 hq, ln_r3 hq, Option.bind_some, l1, nx_lt, nx_le, nx_eq, nx_add, nx_sub, nx_mul, nx_cl, n_lt_ng, n_le_ng, n_eq_ng, ng_lt_n, ng_le_n, ng_eq_n, ng_eq, ng_lt, ng_le, nx_dec, gi_n]
          refine sp_pos (by simp; omega) ?_
          rw [sp_bd, sp_some]
          refine ⟨rfl, f1.setI rfl, fun r hr => ?_, 0, by omega, ri_s _, ?_⟩
          · show (pm_setI h2 (q + 3) L (nI 0)).2.1 (q + 3) r = _
            rw [ri_j _ hr]; exact o1 r hr
          · rw [e2, hsplit, hk2]
            rfl
      have fin : ∀ (hp2 : ∀ j, j + 1 < i' → mnA A (l.getD j 0) (l.getD (j + 1) 0) = none), SP (r_part_66 q (nI i') h1) (fun z => match z with
          | .inl s' => s'.1 = nI (i' + 1) ∧ Fr (fun c => c = q + 3) h s'.2 ∧ (∀ r, r ≠ L → s'.2.2.1 (q + 3) r = h.2.1 (q + 3) r) ∧ (∀ j, j + 2 < i' + 1 → mnA A (l.getD j 0) (l.getD (j + 1) 0) = none) ∧ ∃ k', k' ≤ 10 ∧ s'.2.2.1 (q + 3) L = nI k' ∧ kidsFrom (mnA A) (an A 3) one oth thd l (L - i) k = kidsFrom (mnA A) (an A 3) one oth thd l (L - (i' + 1)) k'
          | .inr r => match r with
            | .inl h' => Fr (fun c => c = q + 3) h h' ∧ (∀ r, r ≠ L → h'.2.1 (q + 3) r = h.2.1 (q + 3) r) ∧ kidsFrom (mnA A) (an A 3) one oth thd l (L - i) k = []
            | .inr (.inl z) => ∃ i' m, z.1 = nI i' ∧ z.2.1 = nI m ∧ i' < L ∧ m < an A 3 ∧ Fr (fun c => c = q + 3) h z.2.2 ∧ (∀ r, r ≠ L → z.2.2.2.1 (q + 3) r = h.2.1 (q + 3) r) ∧ (∀ j, j + 1 < i' → mnA A (l.getD j 0) (l.getD (j + 1) 0) = none) ∧ kidsFrom (mnA A) (an A 3) one oth thd l (L - i) k = kid one oth l i' m :: kidsFrom (mnA A) (an A 3) one oth thd l (L - i') (m + 1)
            | .inr (.inr h') => Fr (fun c => c = q + 3) h h' ∧ (∀ r, r ≠ L → h'.2.1 (q + 3) r = h.2.1 (q + 3) r) ∧ kidsFrom (mnA A) (an A 3) one oth thd l (L - i) k = []) := by
        intro hp2
        refine (go hp2).mono ?_
        rintro (z | z | z | z) hz
        · exact ⟨hz.1, hz.2.1, hz.2.2.1, fun j hj => hp2 j (by omega), hz.2.2.2⟩
        · exact hz.elim
        · exact hz
        · exact hz.elim
      by_cases hi1 : i' ≤ 1
      · refine sp_pos hi1 ((fin (fun j hj => by omega)).mono ?_)
        rintro (z | z | z | z) hz <;> exact hz
      · refine sp_neg hi1 ?_
        rw [gO_of s1 S1.1, Option.bind_some, r_at_t R1 hq (by omega) (by omega), Option.bind_some, r_at_t R1 hq (by omega) (by omega), Option.bind_some, (t4' (i' - 2) (by omega)).1, (t4' (i' - 1) (by omega)).1, c_pair S1 w R1 hz0 (t4' (i' - 2) (by omega)).2 (t4' (i' - 1) (by omega)).2, Option.bind_some]
        by_cases hpn : mnA A (l.getD (i' - 2) 0) (l.getD (i' - 1) 0) = none
        · refine sp_pos (by rw [pr_neg w]; exact hpn) ((fin (fun j hj => ?_)).mono (by rintro (z | z | z | z) hz <;> exact hz))
          by_cases hj2 : j + 2 < i'
          · exact p1 j hj2
          · rw [show j = i' - 2 from by omega, show i' - 2 + 1 = i' - 1 from by omega]; exact hpn
        · refine sp_neg (by rw [pr_neg w]; exact hpn) (sp_some.mpr ⟨f1, o1, ?_⟩)
          rw [e2]
          exact kidsFrom_no _ _ _ _ _ (j := i' - 2) (by rw [show i' - 2 + 1 = i' - 1 from by omega]; exact hpn) _ _ (by omega)
    · rintro ⟨x, h1⟩ ⟨rfl, f1, o1, p1, k', hk', e1, e2⟩
      dsimp only at f1 o1 e1
      have l1 : h1.2.1 q 6 = nI L := by rw [f1.i 6 (by omega)]; exact h6
      unfold r_part_19
      simp (disch := omega) only [kc_im8, kc_im1, kc_i0, kc_i1, kc_i2, kc_i3, kc_i4, kc_i5, kc_b_m100, kc_b_m16, kc_b_m15, kc_b_m14, kc_b_m13, kc_b_m12, kc_b_m11, kc_b_m2, kc_b_6, kc_b_7, kc_b_8, kc_b_9, kc_b_10, kc_b_11, kc_b_12, kc_b_13, kc_b_14, kc_b_15, kc_b_16, kc_b_20, kc_b_24, kc_b_32, kc_b_37, kc_b_40, kc_b_42, kc_b_43, kc_b_45, kc_b_47, kc_b_48, kc_b_57, kc_b_58, kc_b_59, kc_b_60, kc_b_61, kc_b_62, kc_b_63, kc_b_91, kc_b_93, kc_b_97, kc_b_99, kc_b_100, kc_b_106, kc_b_122, kc_s_206, kc_s_226, kc_s_227, kc_s_255, kc_s_256, kc_s_316, kc_s_318, kc_s_400, kc_s_512, kc_s_999, kc_s_1160, kc_s_1536, kc_s_3003, kc_lm11, kc_lm10, kc_lm9, kc_lm8, kc_lm7, kc_lm6, kc_lm5, kc_lm4, kc_lm3, kc_lm2, kc_lm1, kc_l1, kc_l2, kc_l3, kc_l4, kc_l5, kc_l6, kc_l7, kc_l8, kc_l9, kc_l10, kc_l11, kc_l12, kc_l13, kc_l14, kc_l37, kc_l42, kc_l43, kc_l45, kc_l47, kc_l60, kc_l61, kc_l62, kc_l316, kc_l318, kc_l65536, kc_l99999, kc_l1000000, kc_l252645135, kc_l858993459, kc_l1431655765, kc_0, kc_on, l1, nx_lt, nx_le, nx_eq, nx_add, nx_sub, nx_mul, nx_cl, n_lt_ng, n_le_ng, n_eq_ng, ng_lt_n, ng_le_n, ng_eq_n, ng_eq, ng_lt, ng_le, nx_dec]
      refine sp_pos (by omega) (sp_some.mpr ⟨f1, o1, ?_⟩)
      rw [e2, Nat.sub_self]
      rfl
  refine sp_call key ?_
  have stay : ∀ h' : pm_H, Fr (fun c => c = q + 3) h h' → (∀ r, r ≠ L → h'.2.1 (q + 3) r = h.2.1 (q + 3) r) → stOK A h' q (L - 1) st := by
    intro h' f o
    exact stOK_fr st (L - 1) t10 (f.i _ (by omega)) (fun r hr => ⟨fun j _ => f.i _ (by omega), f.i _ (by omega), o r (by omega)⟩)
  rintro (h1 | z | h1) hz
  · exact sp_some.mpr ⟨hz.1.mono (fun c hc => .inr (.inr hc)), .inl ⟨rfl, hz.2.2, stay h1 hz.1 hz.2.1⟩⟩
  · obtain ⟨x, y, h1⟩ := z
    obtain ⟨i', m, hx, hy, hi', hm, f1, o1, p1, e2⟩ := hz
    dsimp only at hx hy f1 o1
    subst hx hy
    have S1 := S.fr f1 (fun c a b => by omega)
    have R1 := R.fr f1
    have l1 : h1.2.1 q 6 = nI L := by rw [f1.i 6 (by omega)]; exact h6
    have s1 : h1.2.2.2 q 0 = some s := by rw [f1.r]; exact hs
    have tt := S.2.2.2.2.2.2.2.2.1 m hm
    have q6 := tt.1.get (by omega)
    have q7 := tt.2.1.get (by omega)
    rw [K.1] at q6
    rw [K.2.1] at q7
    dsimp only
    simp (disch := omega) only [kc_im8, kc_im1, kc_i0, kc_i1, kc_i2, kc_i3, kc_i4, kc_i5, kc_b_m100, kc_b_m16, kc_b_m15, kc_b_m14, kc_b_m13, kc_b_m12, kc_b_m11, kc_b_m2, kc_b_6, kc_b_7, kc_b_8, kc_b_9, kc_b_10, kc_b_11, kc_b_12, kc_b_13, kc_b_14, kc_b_15, kc_b_16, kc_b_20, kc_b_24, kc_b_32, kc_b_37, kc_b_40, kc_b_42, kc_b_43, kc_b_45, kc_b_47, kc_b_48, kc_b_57, kc_b_58, kc_b_59, kc_b_60, kc_b_61, kc_b_62, kc_b_63, kc_b_91, kc_b_93, kc_b_97, kc_b_99, kc_b_100, kc_b_106, kc_b_122, kc_s_206, kc_s_226, kc_s_227, kc_s_255, kc_s_256, kc_s_316, kc_s_318, kc_s_400, kc_s_512, kc_s_999, kc_s_1160, kc_s_1536, kc_s_3003, kc_lm11, kc_lm10, kc_lm9, kc_lm8, kc_lm7, kc_lm6, kc_lm5, kc_lm4, kc_lm3, kc_lm2, kc_lm1, kc_l1, kc_l2, kc_l3, kc_l4, kc_l5, kc_l6, kc_l7, kc_l8, kc_l9, kc_l10, kc_l11, kc_l12, kc_l13, kc_l14, kc_l37, kc_l42, kc_l43, kc_l45, kc_l47, kc_l60, kc_l61, kc_l62, kc_l316, kc_l318, kc_l65536, kc_l99999, kc_l1000000, kc_l252645135, kc_l858993459, kc_l1431655765, kc_0, kc_on, rf_r2 R1 hq, ln_r2 hq, Option.bind_some, l1, nx_lt, nx_le, nx_eq, nx_add, nx_sub, nx_mul, nx_cl, n_lt_ng, n_le_ng, n_eq_ng, ng_lt_n, ng_le_n, ng_eq_n, ng_eq, ng_lt, ng_le, nx_dec, gi_n]
    refine sp_pos (by simp; omega) ?_
    rw [sp_bd]
    simp (disch := omega) only [rf_r3 R1.setI hq, ln_r3 hq, Option.bind_some, ri_c, l1, nx_lt, nx_le, nx_eq, nx_add, nx_sub, nx_mul, nx_cl, n_lt_ng, n_le_ng, n_eq_ng, ng_lt_n, ng_le_n, ng_eq_n, ng_eq, ng_lt, ng_le, nx_dec, gi_n]
    refine sp_pos (by simp; omega) ?_
    rw [sp_bd]
    generalize hh2 : pm_setI (pm_setI h1 (q + 2) L (nI i')) (q + 3) L (nI (m + 1)) = h2
    have f2 : Fr (fun c => c = q + 1 ∨ c = q + 2 ∨ c = q + 3) h h2 := by rw [← hh2]; exact ((f1.mono (fun c hc => .inr (.inr hc))).setI (.inr (.inl rfl))).setI (.inr (.inr rfl))
    have R2 := R.fr f2
    have S2 := S.fr f2 (fun c a b => by omega)
    have l2 : h2.2.1 q 6 = nI L := by rw [f2.i 6 (by omega)]; exact h6
    have s2 : h2.2.2.2 q 0 = some s := by rw [f2.r]; exact hs
    have w2 : ∀ x, h2.2.1 (q + 1) x = h.2.1 (q + 1) x := by intro x; rw [← hh2, ri_c _ (by omega), ri_c _ (by omega)]; exact f1.i _ (by omega)
    have p2 : h2.2.1 (q + 2) L = nI i' := by rw [← hh2, ri_c _ (by omega), ri_s]
    have n2 : h2.2.1 (q + 3) L = nI (m + 1) := by rw [← hh2, ri_s]
    have p2' : ∀ r, r ≠ L → h2.2.1 (q + 2) r = h.2.1 (q + 2) r := by intro r hr; rw [← hh2, ri_c _ (by omega), ri_j _ hr]; exact f1.i _ (by omega)
    have n2' : ∀ r, r ≠ L → h2.2.1 (q + 3) r = h.2.1 (q + 3) r := by intro r hr; rw [← hh2, ri_j _ hr, ri_c _ (by omega)]; exact o1 r hr
    clear hh2
    have a6 : h2.2.1 (s + 6) m = nI (one m) := by rw [f2.i _ (by omega)]; exact q6.1
    have a7 : h2.2.1 (s + 7) m = nI (oth m) := by rw [f2.i _ (by omega)]; exact q7.1
    simp (disch := omega) only [gO_of s2 S2.1, Option.bind_some, rf_s9 R2 S2.1, ln_s9 S2.1, rf_s10 R2 S2.1, ln_s10 S2.1, gi_n, a6, a7]
    refine sp_pos (by simp; omega) (sp_pos (by simp; omega) ?_)
    refine sp_call (r_grow_sp R2 hq l2 hL hi') ?_
    rintro h3 ⟨f3, wA, wB, pA, nA, pn⟩
    refine sp_some.mpr ⟨f2.trans f3, .inr ⟨rfl, kid one oth l i' m, i', m + 1, e2, ?_⟩⟩
    refine ⟨by rw [kid_len one oth l i' m (by omega)]; omega, by omega, by omega, fun j hj => ?_, pA, by dsimp only; omega, nA, by dsimp only; omega, fun j hj => by dsimp only at hj; omega, ?_⟩
    · dsimp only
      rw [kid_getD l i' m j (by omega) (by omega), show (L + 1) * 5 + j = L * 5 + 5 + j from by omega, wB j hj]
      by_cases j1 : j < i'
      · rw [if_pos j1, if_pos j1, w2]; exact t4 j (by omega)
      · by_cases j2 : j = i'
        · rw [if_neg j1, if_neg j1, if_pos j2, if_pos j2]; exact ⟨rfl, by omega⟩
        · by_cases j3 : j = i' + 1
          · rw [if_neg j1, if_neg j1, if_neg j2, if_neg j2, if_pos j3, if_pos j3]; exact ⟨rfl, by omega⟩
          · rw [if_neg j1, if_neg j1, if_neg j2, if_neg j2, if_neg j3, if_neg j3, w2]; exact t4 (j - 1) (by omega)
    · rw [Nat.add_sub_cancel]
      refine ⟨t1, t2, t3, fun j hj => ?_, by rw [(pn L (by omega)).1]; exact p2, by dsimp only; omega, by rw [(pn L (by omega)).2]; exact n2, by dsimp only; omega, p1, ?_⟩
      · rw [wA _ (by omega), w2]; exact t4 j hj
      · refine stOK_fr st (L - 1) t10 ?_ (fun r hr => ⟨fun j hj => ?_, ?_, ?_⟩)
        · rw [f3.i _ (by omega), f2.i _ (by omega)]
        · rw [wA _ (by omega), w2]
        · rw [(pn r (by omega)).1]; exact p2' r (by omega)
        · rw [(pn r (by omega)).2]; exact n2' r (by omega)
  · exact sp_some.mpr ⟨hz.1.mono (fun c hc => .inr (.inr hc)), .inl ⟨rfl, hz.2.2, stay h1 hz.1 hz.2.1⟩⟩
end RA
