/-! Questions: shortest. -/
theorem q77 : mi_o 77 5 = true := by decide +kernel
theorem getD_lt_mem {l : List Nat} {i : Nat} (hi : i < l.length) : l.getD i 0 ∈ l := by
  rw [List.getD_eq_getElem?_getD, List.getElem?_eq_getElem hi]
  exact List.getElem_mem hi
section SH
variable {h : pm_H} {s : Nat} {A : Nat → Int32}
theorem QI.ask2 {h' : pm_H} (Q : QI h s A) {P : Nat → Prop} (f : Fq P h h') (h69 : h'.2.2.2 69 0 = h.2.2.2 69 0) (hP : ∀ c, P c → c = 68 ∨ (77 ≤ c ∧ c ≤ 89)) : QI h' s A ∧ Fq QF h h' := by
  have fq : Fq QF h h' := f.mono (fun c hc => by have := hP c hc; unfold QF; omega)
  have nP : ∀ c, 69 ≤ c → c ≤ 76 → ¬ P c := fun c h1 h2 q => by have := hP c q; omega
  exact ⟨Q.fq fq (fun h0 => (Q.2.2.2.2.2.2 h0).fr h69 (f.2.2 69 (nP 69 (by omega) (by omega))).1 (f.2.2 74 (nP 74 (by omega) (by omega))).1 (f.2.2 75 (nP 75 (by omega) (by omega))).1), fq⟩
/-- a set of men who are there -/
def MS (A : Nat → Int32) (b S : Nat) : Prop := S < 512 ∧ ∀ m, S.testBit m = true → m < an A 1 ∨ (m = 8 ∧ b ≠ 0)
theorem a_leastWith_n (S0 : CSh h s A) (w : WFA A) (R : RF h) {b S v : Nat} (hb : b ≤ 10) (hS : MS A b S) (hv : v < 10) : a_leastWith s (nI S) (bv b) (nI v) h = some (match lw (wfb A b) S v with | some m => nI m | none => ng 1) := by
  have e1 := w.e1
  have e0 := w.e0
  have hS5 := hS.1
  have key := wh_find (f := fun q : Int32 => a_leastWith_3 s (nI S) (bv b) (nI v) q h) (fun i => nI i) (fun i => (Sum.inl (nI i) : Int32 ⊕ Unit)) (.inr ()) (fun m => S.testBit m && wdA A m == v) (an A 1) (fun i hi => ?_) ?_
  · unfold a_leastWith
    simp only [kc_im8, kc_im1, kc_i0, kc_i1, kc_i2, kc_i3, kc_i4, kc_i5, kc_b_m100, kc_b_m16, kc_b_m15, kc_b_m14, kc_b_m13, kc_b_m12, kc_b_m11, kc_b_m2, kc_b_6, kc_b_7, kc_b_8, kc_b_9, kc_b_10, kc_b_11, kc_b_12, kc_b_13, kc_b_14, kc_b_15, kc_b_16, kc_b_20, kc_b_24, kc_b_32, kc_b_37, kc_b_40, kc_b_42, kc_b_43, kc_b_45, kc_b_47, kc_b_48, kc_b_57, kc_b_58, kc_b_59, kc_b_60, kc_b_61, kc_b_62, kc_b_63, kc_b_91, kc_b_93, kc_b_97, kc_b_99, kc_b_100, kc_b_106, kc_b_122, kc_s_206, kc_s_226, kc_s_227, kc_s_255, kc_s_256, kc_s_316, kc_s_318, kc_s_400, kc_s_512, kc_s_999, kc_s_1160, kc_s_1536, kc_s_3003, kc_lm11, kc_lm10, kc_lm9, kc_lm8, kc_lm7, kc_lm6, kc_lm5, kc_lm4, kc_lm3, kc_lm2, kc_lm1, kc_l1, kc_l2, kc_l3, kc_l4, kc_l5, kc_l6, kc_l7, kc_l8, kc_l9, kc_l10, kc_l11, kc_l12, kc_l13, kc_l14, kc_l37, kc_l42, kc_l43, kc_l45, kc_l47, kc_l60, kc_l61, kc_l62, kc_l316, kc_l318, kc_l65536, kc_l99999, kc_l1000000, kc_l252645135, kc_l858993459, kc_l1431655765, kc_0, kc_on, key, Option.bind_some]
    cases hf : (List.range (an A 1)).find? (fun m => S.testBit m && wdA A m == v) with
    | some m =>
      have hm := List.find?_range_eq_some.mp hf
      have hm1 := List.mem_range.mp hm.2.1
      have hm2 := Bool.and_eq_true_iff.mp hm.1
      have : lw (wfb A b) S v = some m := by
        refine (lw_some _).mpr ⟨by omega, hm2.1, ?_, fun j hj q => ?_⟩
        · unfold wfb; rw [if_neg (by omega)]; simpa using hm2.2
        · have := hm.2.2 j hj
          unfold wfb at q
          rw [if_neg (by omega)] at q
          simp [q.1, q.2] at this
      rw [this]
    | none =>
      have hno := find_all.mp hf
      have no : ∀ j, j < 8 → ¬ (S.testBit j = true ∧ wfb A b j = v) := by
        rintro j hj ⟨q1, q2⟩
        rcases hS.2 j q1 with z | z
        · have := hno j z
          unfold wfb at q2
          rw [if_neg (by omega)] at q2
          simp [q1, q2] at this
        · omega
      dsimp only
      rw [x_bit_n (by omega) (by omega), Option.bind_some]
      cases h8 : S.testBit 8 with
      | false =>
        have : lw (wfb A b) S v = none := by
          refine (lw_none _).mpr (fun j hj q => ?_)
          by_cases e : j = 8
          · subst e; rw [h8] at q; cases q.1
          · exact no j (by omega) q
        rw [this, if_pos (by decide)]
      | true =>
        have hb0 : b ≠ 0 := by
          rcases hS.2 8 h8 with q | q
          · omega
          · exact q.2
        rw [if_neg (by simp)]
        unfold bv
        rw [if_neg hb0]
        simp (disch := omega) only [nx_eq]
        by_cases q : b - 1 = v
        · have : lw (wfb A b) S v = some 8 := (lw_some _).mpr ⟨by omega, h8, by unfold wfb; rw [if_pos rfl]; exact q, fun j hj => no j hj⟩
          rw [this, if_neg (by simp [q])]
        · have : lw (wfb A b) S v = none := by
            refine (lw_none _).mpr (fun j hj z => ?_)
            by_cases e : j = 8
            · subst e; unfold wfb at z; rw [if_pos rfl] at z; exact q z.2
            · exact no j (by omega) z
          rw [this, if_pos q]
  · have m0 := w.m0 hi
    unfold a_leastWith_3
    simp (disch := omega) only [kc_im8, kc_im1, kc_i0, kc_i1, kc_i2, kc_i3, kc_i4, kc_i5, kc_b_m100, kc_b_m16, kc_b_m15, kc_b_m14, kc_b_m13, kc_b_m12, kc_b_m11, kc_b_m2, kc_b_6, kc_b_7, kc_b_8, kc_b_9, kc_b_10, kc_b_11, kc_b_12, kc_b_13, kc_b_14, kc_b_15, kc_b_16, kc_b_20, kc_b_24, kc_b_32, kc_b_37, kc_b_40, kc_b_42, kc_b_43, kc_b_45, kc_b_47, kc_b_48, kc_b_57, kc_b_58, kc_b_59, kc_b_60, kc_b_61, kc_b_62, kc_b_63, kc_b_91, kc_b_93, kc_b_97, kc_b_99, kc_b_100, kc_b_106, kc_b_122, kc_s_206, kc_s_226, kc_s_227, kc_s_255, kc_s_256, kc_s_316, kc_s_318, kc_s_400, kc_s_512, kc_s_999, kc_s_1160, kc_s_1536, kc_s_3003, kc_lm11, kc_lm10, kc_lm9, kc_lm8, kc_lm7, kc_lm6, kc_lm5, kc_lm4, kc_lm3, kc_lm2, kc_lm1, kc_l1, kc_l2, kc_l3, kc_l4, kc_l5, kc_l6, kc_l7, kc_l8, kc_l9, kc_l10, kc_l11, kc_l12, kc_l13, kc_l14, kc_l37, kc_l42, kc_l43, kc_l45, kc_l47, kc_l60, kc_l61, kc_l62, kc_l316, kc_l318, kc_l65536, kc_l99999, kc_l1000000, kc_l252645135, kc_l858993459, kc_l1431655765, kc_0, kc_on, S0.2.2.1, e1.1, nx_lt, nx_le, nx_eq, nx_add, nx_sub, nx_mul, nx_cl, n_lt_ng, n_le_ng, n_eq_ng, ng_lt_n, ng_le_n, ng_eq_n, ng_eq, ng_lt, ng_le, nx_dec, x_bit_n, c_wordOf S0 w R hi, m0.1, Option.bind_some]
    rw [if_neg (by omega)]
    cases S.testBit i with
    | false => rw [if_pos (by decide)]; simp
    | true =>
      rw [if_neg (by simp)]
      by_cases q : an A (10 + 6 * i) = v
      · rw [if_neg (by omega)]; simp [wdA, q]
      · rw [if_pos q]; simp [wdA, q]
  · unfold a_leastWith_3
    simp (disch := omega) only [kc_im8, kc_im1, kc_i0, kc_i1, kc_i2, kc_i3, kc_i4, kc_i5, kc_b_m100, kc_b_m16, kc_b_m15, kc_b_m14, kc_b_m13, kc_b_m12, kc_b_m11, kc_b_m2, kc_b_6, kc_b_7, kc_b_8, kc_b_9, kc_b_10, kc_b_11, kc_b_12, kc_b_13, kc_b_14, kc_b_15, kc_b_16, kc_b_20, kc_b_24, kc_b_32, kc_b_37, kc_b_40, kc_b_42, kc_b_43, kc_b_45, kc_b_47, kc_b_48, kc_b_57, kc_b_58, kc_b_59, kc_b_60, kc_b_61, kc_b_62, kc_b_63, kc_b_91, kc_b_93, kc_b_97, kc_b_99, kc_b_100, kc_b_106, kc_b_122, kc_s_206, kc_s_226, kc_s_227, kc_s_255, kc_s_256, kc_s_316, kc_s_318, kc_s_400, kc_s_512, kc_s_999, kc_s_1160, kc_s_1536, kc_s_3003, kc_lm11, kc_lm10, kc_lm9, kc_lm8, kc_lm7, kc_lm6, kc_lm5, kc_lm4, kc_lm3, kc_lm2, kc_lm1, kc_l1, kc_l2, kc_l3, kc_l4, kc_l5, kc_l6, kc_l7, kc_l8, kc_l9, kc_l10, kc_l11, kc_l12, kc_l13, kc_l14, kc_l37, kc_l42, kc_l43, kc_l45, kc_l47, kc_l60, kc_l61, kc_l62, kc_l316, kc_l318, kc_l65536, kc_l99999, kc_l1000000, kc_l252645135, kc_l858993459, kc_l1431655765, kc_0, kc_on, S0.2.2.1, e1.1, nx_lt, nx_le, nx_eq, nx_add, nx_sub, nx_mul, nx_cl, n_lt_ng, n_le_ng, n_eq_ng, ng_lt_n, ng_le_n, ng_eq_n, ng_eq, ng_lt, ng_le, nx_dec]
    rw [if_pos (by omega)]
end SH
