/-! The program's Rows: all rows that mean an order's row, one after the other. -/
/-- only the cells of P have changed; references to ships in Choir and Rows may have, too -/
def Fq (P : Nat → Prop) (h h' : pm_H) : Prop := h'.1 = h.1 ∧ (∀ k j, (j = 0 → k ≠ 69 ∧ k ≠ 70 ∧ k ≠ 77) → h'.2.2.2 k j = h.2.2.2 k j) ∧ ∀ c, ¬ P c → h'.2.1 c = h.2.1 c ∧ h'.2.2.1 c = h.2.2.1 c
theorem Fr.q {P : Nat → Prop} {h h' : pm_H} (f : Fr P h h') : Fq P h h' := ⟨f.1, fun k j _ => by rw [f.2.1], f.2.2⟩
theorem Fq.refl (P : Nat → Prop) (h : pm_H) : Fq P h h := (Fr.refl P h).q
theorem Fq.trans {P : Nat → Prop} {h h1 h2 : pm_H} (a : Fq P h h1) (b : Fq P h1 h2) : Fq P h h2 :=
  ⟨b.1.trans a.1, fun k j hj => (b.2.1 k j hj).trans (a.2.1 k j hj), fun c hc => ⟨(b.2.2 c hc).1.trans (a.2.2 c hc).1, (b.2.2 c hc).2.trans (a.2.2 c hc).2⟩⟩
theorem Fq.mono {P Q : Nat → Prop} {h h1 : pm_H} (a : Fq P h h1) (hPQ : ∀ c, P c → Q c) : Fq Q h h1 := ⟨a.1, a.2.1, fun c hc => a.2.2 c (fun q => hc (hPQ c q))⟩
theorem Fq.i {P : Nat → Prop} {h h1 : pm_H} (f : Fq P h h1) {c : Nat} (j : Nat) (hc : ¬ P c) : h1.2.1 c j = h.2.1 c j := by rw [(f.2.2 c hc).1]
theorem tb_rf_q : ∀ q ∈ tb_rf, (q.1.2 = 0 → q.1.1 ≠ 69 ∧ q.1.1 ≠ 70 ∧ q.1.1 ≠ 77) := by decide +kernel
theorem RF.fq {P : Nat → Prop} {h h' : pm_H} (R : RF h) (f : Fq P h h') : RF h' := fun q hq => by rw [f.2.1 _ _ (tb_rf_q q hq)]; exact R q hq
theorem CSh.fq {h h' : pm_H} {s : Nat} {A : Nat → Int32} {P : Nat → Prop} (S : CSh h s A) (f : Fq P h h') (hP : ∀ c, s ≤ c → c ≤ s + 9 → ¬ P c) : CSh h' s A := by
  unfold CSh at S ⊢
  rw [(f.2.2 s (hP s (by omega) (by omega))).1, (f.2.2 (s + 1) (hP _ (by omega) (by omega))).1, (f.2.2 (s + 2) (hP _ (by omega) (by omega))).1, (f.2.2 (s + 3) (hP _ (by omega) (by omega))).1, (f.2.2 (s + 4) (hP _ (by omega) (by omega))).1, (f.2.2 (s + 5) (hP _ (by omega) (by omega))).1, (f.2.2 (s + 6) (hP _ (by omega) (by omega))).1, (f.2.2 (s + 7) (hP _ (by omega) (by omega))).1, (f.2.2 (s + 8) (hP _ (by omega) (by omega))).1, (f.2.2 (s + 9) (hP _ (by omega) (by omega))).1]
  exact S
section KIDS
variable (mn : Nat → Nat → Option Nat) (mea : Nat) (one oth thd : Nat → Nat)
theorem kidsAt_end {l : List Nat} {i k : Nat} (h : mea ≤ k) : kidsAt mn mea one oth thd l i k = [] := by
  unfold kidsAt
  rw [show mea - k = 0 from by omega]
  rfl
theorem kidsAt_ok {l : List Nat} {i k : Nat} (h : k < mea) (ho : kidOk mn one thd l i k = true) : kidsAt mn mea one oth thd l i k = kid one oth l i k :: kidsAt mn mea one oth thd l i (k + 1) := by
  unfold kidsAt
  rw [show mea - k = (mea - (k + 1)) + 1 from by omega, List.range'_succ, List.filter_cons, if_pos ho, List.map_cons]
theorem kidsAt_no {l : List Nat} {i k : Nat} (h : k < mea) (ho : ¬ kidOk mn one thd l i k = true) : kidsAt mn mea one oth thd l i k = kidsAt mn mea one oth thd l i (k + 1) := by
  unfold kidsAt
  rw [show mea - k = (mea - (k + 1)) + 1 from by omega, List.range'_succ, List.filter_cons, if_neg ho]
theorem kidsFrom_at {l : List Nat} {i k : Nat} (h : i < l.length) : kidsFrom mn mea one oth thd l (l.length - i) k = kidsAt mn mea one oth thd l i k ++ kidsFrom mn mea one oth thd l (l.length - (i + 1)) 0 := by
  rw [show l.length - i = (l.length - (i + 1)) + 1 from by omega, kidsFrom, show l.length - (l.length - (i + 1) + 1) = i from by omega]
theorem kidsFrom_no {l : List Nat} {j : Nat} (hj : ¬ mn (l.getD j 0) (l.getD (j + 1) 0) = none) : ∀ d k, l.length - d > j + 1 → kidsFrom mn mea one oth thd l d k = []
  | 0, _, _ => rfl
  | d + 1, k, h => by
    rw [kidsFrom, kidsFrom_no hj d 0 (by omega), List.append_nil]
    unfold kidsAt
    rw [List.filter_eq_nil_iff.mpr]
    · rfl
    · intro q _
      unfold kidOk
      simp only [Bool.and_eq_true, not_and, Bool.not_eq_true, List.all_eq_false, List.mem_range]
      intro _
      refine ⟨j, by omega, ?_⟩
      cases hx : mn (l.getD j 0) (l.getD (j + 1) 0) with
      | none => exact absurd hx hj
      | some c => rfl
/-- what is left to come of a level -/
def restOf (l : List Nat) (i k : Nat) : List (List Nat) := if l.length < 5 then (kidsFrom mn mea one oth thd l (l.length - i) k).flatMap (fun c => c :: desc mn mea one oth thd (4 - l.length) c) else []
def remSt : List (List Nat × Nat × Nat) → List (List Nat)
  | [] => []
  | q :: st => restOf mn mea one oth thd q.1 q.2.1 q.2.2 ++ remSt st
theorem restOf_desc (l : List Nat) : restOf mn mea one oth thd l 0 0 = desc mn mea one oth thd (5 - l.length) l := by
  unfold restOf
  by_cases h : l.length < 5
  · rw [if_pos h, show 5 - l.length = (4 - l.length) + 1 from by omega, desc, Nat.sub_zero]
    rfl
  · rw [if_neg h, show 5 - l.length = 0 from by omega]
    rfl
end KIDS
/-- the levels in the cells of q, from L down -/
def stOK (A : Nat → Int32) (h : pm_H) (q : Nat) : Nat → List (List Nat × Nat × Nat) → Prop
  | L, [] => h.2.1 q 4 = nI (L + 1)
  | L, x :: st => x.1.length = L ∧ L ≤ 5 ∧ 0 < L ∧ (∀ j, j < L → h.2.1 (q + 1) (L * 5 + j) = nI (x.1.getD j 0) ∧ x.1.getD j 0 < 10) ∧ h.2.1 (q + 2) L = nI x.2.1 ∧ x.2.1 ≤ L ∧ h.2.1 (q + 3) L = nI x.2.2 ∧ x.2.2 ≤ 10 ∧ (∀ j, j + 1 < x.2.1 → mnA A (x.1.getD j 0) (x.1.getD (j + 1) 0) = none) ∧ stOK A h q (L - 1) st
theorem stOK_root {A : Nat → Int32} {h : pm_H} {q : Nat} : ∀ (st : List (List Nat × Nat × Nat)) (L : Nat), stOK A h q L st → ∃ r, h.2.1 q 4 = nI r ∧ r ≤ L + 1 ∧ (st ≠ [] → r ≤ L) ∧ (st = [] → r = L + 1)
  | [], L, H => ⟨L + 1, H, Nat.le_refl _, fun q => (q rfl).elim, fun _ => rfl⟩
  | x :: st, L, H => by
    obtain ⟨r, h1, h2, _, _⟩ := stOK_root st (L - 1) H.2.2.2.2.2.2.2.2.2
    have := H.2.2.1
    exact ⟨r, h1, by omega, fun _ => by omega, fun q => by cases q⟩
/-- levels stand if their cells do -/
theorem stOK_fr {A : Nat → Int32} {h h' : pm_H} {q : Nat} : ∀ (st : List (List Nat × Nat × Nat)) (L : Nat), stOK A h q L st → h'.2.1 q 4 = h.2.1 q 4 → (∀ r, r ≤ L → (∀ j, j < r → h'.2.1 (q + 1) (r * 5 + j) = h.2.1 (q + 1) (r * 5 + j)) ∧ h'.2.1 (q + 2) r = h.2.1 (q + 2) r ∧ h'.2.1 (q + 3) r = h.2.1 (q + 3) r) → stOK A h' q L st
  | [], L, H, h4, _ => by rw [stOK] at H ⊢; rw [h4]; exact H
  | x :: st, L, H, h4, hc => by
    rw [stOK] at H ⊢
    obtain ⟨a1, a2, a3, a4, a5, a6, a7, a8, a9, a10⟩ := H
    have hL := hc L (Nat.le_refl _)
    refine ⟨a1, a2, a3, fun j hj => ?_, by rw [hL.2.1]; exact a5, a6, by rw [hL.2.2]; exact a7, a8, a9, stOK_fr st (L - 1) a10 h4 (fun r hr => hc r (by omega))⟩
    rw [hL.1 j hj]
    exact a4 j hj
theorem mi_cp_t {la lb a b n : Nat} (ha : a + n ≤ la) (hb : b + n ≤ lb) (hla : la < 1000000) (hlb : lb < 1000000) : mi_cp la lb (nI a) (nI b) (nI n) = true := by
  unfold mi_cp
  rw [nx_cl (by omega), nx_cl (by omega), nx_cl (by omega)]
  exact decide_eq_true ⟨nI_pos (by omega), nI_pos (by omega), nI_pos (by omega), ha, hb⟩
theorem rows_lt {q : Nat} (hq : mi_o q 5 = true) : q = 70 ∨ q = 77 := by
  have h := ob_r q hq
  simpa using h
section RW
variable {h : pm_H} {s q : Nat} {A : Nat → Int32}
theorem r_at_t (R : RF h) (hq : mi_o q 5 = true) {L j : Nat} (hL : L ≤ 5) (hj : j < L) : r_at q (nI L) (nI j) h = some (h.2.1 (q + 1) (L * 5 + j)) := by
  unfold r_at r_at_23
  simp (disch := omega) only [kc_im8, kc_im1, kc_i0, kc_i1, kc_i2, kc_i3, kc_i4, kc_i5, kc_b_m100, kc_b_m16, kc_b_m15, kc_b_m14, kc_b_m13, kc_b_m12, kc_b_m11, kc_b_m2, kc_b_6, kc_b_7, kc_b_8, kc_b_9, kc_b_10, kc_b_11, kc_b_12, kc_b_13, kc_b_14, kc_b_15, kc_b_16, kc_b_20, kc_b_24, kc_b_32, kc_b_37, kc_b_40, kc_b_42, kc_b_43, kc_b_45, kc_b_47, kc_b_48, kc_b_57, kc_b_58, kc_b_59, kc_b_60, kc_b_61, kc_b_62, kc_b_63, kc_b_91, kc_b_93, kc_b_97, kc_b_99, kc_b_100, kc_b_106, kc_b_122, kc_s_206, kc_s_226, kc_s_227, kc_s_255, kc_s_256, kc_s_316, kc_s_318, kc_s_400, kc_s_512, kc_s_999, kc_s_1160, kc_s_1536, kc_s_3003, kc_lm11, kc_lm10, kc_lm9, kc_lm8, kc_lm7, kc_lm6, kc_lm5, kc_lm4, kc_lm3, kc_lm2, kc_lm1, kc_l1, kc_l2, kc_l3, kc_l4, kc_l5, kc_l6, kc_l7, kc_l8, kc_l9, kc_l10, kc_l11, kc_l12, kc_l13, kc_l14, kc_l37, kc_l42, kc_l43, kc_l45, kc_l47, kc_l60, kc_l61, kc_l62, kc_l316, kc_l318, kc_l65536, kc_l99999, kc_l1000000, kc_l252645135, kc_l858993459, kc_l1431655765, kc_0, kc_on, rf_r1 R hq, ln_r1 hq, nx_lt, nx_le, nx_eq, nx_add, nx_sub, nx_mul, nx_cl, n_lt_ng, n_le_ng, n_eq_ng, ng_lt_n, ng_le_n, ng_eq_n, ng_eq, ng_lt, ng_le, nx_dec, Option.bind_some, gi_n]
  rw [if_neg (by omega), if_neg (by omega), if_neg (by omega), if_neg (by omega), if_neg (by omega), if_pos (by simp; omega)]
theorem r_at_n {L : Nat} (hL : L ≤ 5) : r_at q (nI L) (ng 1) h = some (ng 1) := by
  unfold r_at r_at_23
  simp (disch := omega) only [kc_im8, kc_im1, kc_i0, kc_i1, kc_i2, kc_i3, kc_i4, kc_i5, kc_b_m100, kc_b_m16, kc_b_m15, kc_b_m14, kc_b_m13, kc_b_m12, kc_b_m11, kc_b_m2, kc_b_6, kc_b_7, kc_b_8, kc_b_9, kc_b_10, kc_b_11, kc_b_12, kc_b_13, kc_b_14, kc_b_15, kc_b_16, kc_b_20, kc_b_24, kc_b_32, kc_b_37, kc_b_40, kc_b_42, kc_b_43, kc_b_45, kc_b_47, kc_b_48, kc_b_57, kc_b_58, kc_b_59, kc_b_60, kc_b_61, kc_b_62, kc_b_63, kc_b_91, kc_b_93, kc_b_97, kc_b_99, kc_b_100, kc_b_106, kc_b_122, kc_s_206, kc_s_226, kc_s_227, kc_s_255, kc_s_256, kc_s_316, kc_s_318, kc_s_400, kc_s_512, kc_s_999, kc_s_1160, kc_s_1536, kc_s_3003, kc_lm11, kc_lm10, kc_lm9, kc_lm8, kc_lm7, kc_lm6, kc_lm5, kc_lm4, kc_lm3, kc_lm2, kc_lm1, kc_l1, kc_l2, kc_l3, kc_l4, kc_l5, kc_l6, kc_l7, kc_l8, kc_l9, kc_l10, kc_l11, kc_l12, kc_l13, kc_l14, kc_l37, kc_l42, kc_l43, kc_l45, kc_l47, kc_l60, kc_l61, kc_l62, kc_l316, kc_l318, kc_l65536, kc_l99999, kc_l1000000, kc_l252645135, kc_l858993459, kc_l1431655765, kc_0, kc_on, nx_lt, nx_le, nx_eq, nx_add, nx_sub, nx_mul, nx_cl, n_lt_ng, n_le_ng, n_eq_ng, ng_lt_n, ng_le_n, ng_eq_n, ng_eq, ng_lt, ng_le, nx_dec, if_true, ite_self]
/-- the search for the next meaning at a place -/
theorem r_find (S : CSh h s A) (w : WFA A) (R : RF h) (hq : mi_o q 5 = true) (hs : h.2.2.2 q 0 = some s) {L i k : Nat} {l : List Nat} (h6 : h.2.1 q 6 = nI L) (hL : L ≤ 5) (hi : i < L) (hl : l.length = L) (hc : ∀ j, j < L → h.2.1 (q + 1) (L * 5 + j) = nI (l.getD j 0) ∧ l.getD j 0 < 10) (hp : ∀ j, j + 1 < i → mnA A (l.getD j 0) (l.getD (j + 1) 0) = none) (hk : k ≤ 10) : SP (wh (fun z : (Int32 × pm_H) => r_part_76 q (nI i) z.1 z.2) (nI k, h)) (fun r => match r with
    | .inl z => z.2 = h ∧ ∃ m, m < an A 3 ∧ z.1 = nI m ∧ kidsAt (mnA A) (an A 3) (an (h.2.1 (s + 6))) (an (h.2.1 (s + 7))) (an (h.2.1 (s + 8))) l i k = kid (an (h.2.1 (s + 6))) (an (h.2.1 (s + 7))) l i m :: kidsAt (mnA A) (an A 3) (an (h.2.1 (s + 6))) (an (h.2.1 (s + 7))) (an (h.2.1 (s + 8))) l i (m + 1)
    | .inr h' => h' = h ∧ kidsAt (mnA A) (an A 3) (an (h.2.1 (s + 6))) (an (h.2.1 (s + 7))) (an (h.2.1 (s + 8))) l i k = []) := by
  have h3 := w.e3
  by_cases hka : an A 3 ≤ k
  · refine ⟨.inr h, wh_inr ?_, rfl, kidsAt_end _ _ _ _ _ hka⟩
    unfold r_part_76
    simp (disch := omega) only [gO_of hs S.1, Option.bind_some, S.2.2.2.2.1, h3.1, nx_lt, nx_le, nx_eq, nx_add, nx_sub, nx_mul, nx_cl, n_lt_ng, n_le_ng, n_eq_ng, ng_lt_n, ng_le_n, ng_eq_n, ng_eq, ng_lt, ng_le, nx_dec]
    rw [if_pos (by omega)]
  · refine wh_cnt (fun m z => z = (nI m, h) ∧ kidsAt (mnA A) (an A 3) (an (h.2.1 (s + 6))) (an (h.2.1 (s + 7))) (an (h.2.1 (s + 8))) l i k = kidsAt (mnA A) (an A 3) (an (h.2.1 (s + 6))) (an (h.2.1 (s + 7))) (an (h.2.1 (s + 8))) l i m) _ (an A 3) ?_ ?_ k (nI k, h) (by omega) ⟨rfl, rfl⟩
    · rintro m z hm ⟨rfl, hz⟩
      unfold r_part_76
      simp (disch := omega) only [gO_of hs S.1, Option.bind_some, S.2.2.2.2.1, h3.1, h6, kc_im8, kc_im1, kc_i0, kc_i1, kc_i2, kc_i3, kc_i4, kc_i5, kc_b_m100, kc_b_m16, kc_b_m15, kc_b_m14, kc_b_m13, kc_b_m12, kc_b_m11, kc_b_m2, kc_b_6, kc_b_7, kc_b_8, kc_b_9, kc_b_10, kc_b_11, kc_b_12, kc_b_13, kc_b_14, kc_b_15, kc_b_16, kc_b_20, kc_b_24, kc_b_32, kc_b_37, kc_b_40, kc_b_42, kc_b_43, kc_b_45, kc_b_47, kc_b_48, kc_b_57, kc_b_58, kc_b_59, kc_b_60, kc_b_61, kc_b_62, kc_b_63, kc_b_91, kc_b_93, kc_b_97, kc_b_99, kc_b_100, kc_b_106, kc_b_122, kc_s_206, kc_s_226, kc_s_227, kc_s_255, kc_s_256, kc_s_316, kc_s_318, kc_s_400, kc_s_512, kc_s_999, kc_s_1160, kc_s_1536, kc_s_3003, kc_lm11, kc_lm10, kc_lm9, kc_lm8, kc_lm7, kc_lm6, kc_lm5, kc_lm4, kc_lm3, kc_lm2, kc_lm1, kc_l1, kc_l2, kc_l3, kc_l4, kc_l5, kc_l6, kc_l7, kc_l8, kc_l9, kc_l10, kc_l11, kc_l12, kc_l13, kc_l14, kc_l37, kc_l42, kc_l43, kc_l45, kc_l47, kc_l60, kc_l61, kc_l62, kc_l316, kc_l318, kc_l65536, kc_l99999, kc_l1000000, kc_l252645135, kc_l858993459, kc_l1431655765, kc_0, kc_on, nx_lt, nx_le, nx_eq, nx_add, nx_sub, nx_mul, nx_cl, n_lt_ng, n_le_ng, n_eq_ng, ng_lt_n, ng_le_n, ng_eq_n, ng_eq, ng_lt, ng_le, nx_dec]
      refine sp_neg (by omega) ?_
      have hok : kidOk (mnA A) (an (h.2.1 (s + 6))) (an (h.2.1 (s + 8))) l i m = (decide (an (h.2.1 (s + 8)) m = l.getD i 0) && (decide (i = 0) || (mnA A (l.getD (i - 1) 0) (an (h.2.1 (s + 6)) m)).isNone)) := by
        unfold kidOk
        rw [List.all_eq_true.mpr (fun j hj => ?_), Bool.and_true]
        have := List.mem_range.mp hj
        rw [hp j (by omega)]
        rfl
      have hres : (r_at q (nI L) (nI i - nI 1) h).bind (fun q4 => (r_at q (nI L) (nI i) h).bind fun q5 => s_parts s q4 q5 (nI m) h) = some (nI (kidOk (mnA A) (an (h.2.1 (s + 6))) (an (h.2.1 (s + 8))) l i m).toNat) := by
        rw [hok]
        by_cases h0 : i = 0
        · subst h0
          rw [nx_sub_ng (by omega) (by omega) (by omega), r_at_n hL, Option.bind_some, r_at_t R hq hL hi, Option.bind_some, (hc 0 hi).1, c_parts S w R hm (hc 0 hi).2 (ng 1) true (.inl ⟨rfl, rfl⟩)]
          simp
        · rw [nx_sub (by omega), r_at_t R hq hL (by omega), Option.bind_some, r_at_t R hq hL hi, Option.bind_some, (hc i hi).1, (hc (i - 1) (by omega)).1, c_parts S w R hm (hc i hi).2 _ _ (.inr ⟨_, (hc (i - 1) (by omega)).2, rfl, rfl⟩)]
          simp [h0]
      have hres2 : SP ((r_at q (nI L) (nI i - nI 1) h).bind (fun q4 => (r_at q (nI L) (nI i) h).bind fun q5 => s_parts s q4 q5 (nI m) h)) (fun x => x = nI (kidOk (mnA A) (an (h.2.1 (s + 6))) (an (h.2.1 (s + 8))) l i m).toNat) := ⟨_, hres, rfl⟩
      rw [sp_bind] at hres2
      rw [sp_bind]
      refine hres2.mono (fun q4 hq4 => ?_)
      rw [sp_bind] at hq4 ⊢
      refine hq4.mono (fun q5 hq5 => ?_)
      rw [sp_bind]
      refine hq5.mono (fun q6 hq6 => ?_)
      rw [hq6]
      cases hk2 : kidOk (mnA A) (an (h.2.1 (s + 6))) (an (h.2.1 (s + 8))) l i m with
      | true =>
        refine sp_neg (by rw [show true.toNat = 1 from rfl, nx_eq (by omega) (by omega)]; omega) (sp_some.mpr ⟨rfl, m, hm, rfl, ?_⟩)
        rw [hz]
        exact kidsAt_ok _ _ _ _ _ hm hk2
      | false =>
        refine sp_pos rfl (sp_some.mpr ⟨rfl, ?_⟩)
        rw [hz]
        exact kidsAt_no _ _ _ _ _ hm (by rw [hk2]; exact Bool.false_ne_true)
    · rintro z ⟨rfl, hz⟩
      unfold r_part_76
      simp (disch := omega) only [gO_of hs S.1, Option.bind_some, S.2.2.2.2.1, h3.1, nx_lt, nx_le, nx_eq, nx_add, nx_sub, nx_mul, nx_cl, n_lt_ng, n_le_ng, n_eq_ng, ng_lt_n, ng_le_n, ng_eq_n, ng_eq, ng_lt, ng_le, nx_dec]
      refine sp_pos (by omega) (sp_some.mpr ⟨rfl, ?_⟩)
      rw [hz]
      exact kidsAt_end _ _ _ _ _ (Nat.le_refl _)
end RW
