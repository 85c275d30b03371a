/-! lacks, of the reference. -/
section ML
variable {h : pm_H} {A : Nat → Int32} {o : Nat}
theorem len1 {l : List Nat} (h : l.length = 1) : ∃ a, l = [a] := by
  match l, h with
  | [a], _ => exact ⟨a, rfl⟩
theorem len2 {l : List Nat} (h : l.length = 2) : ∃ a b, l = [a, b] := by
  match l, h with
  | [a, b], _ => exact ⟨a, b, rfl⟩
theorem lkK_ge {l : List Nat} (h : 3 ≤ l.length) : lkK l = 1000 := by
  match l, h with
  | _ :: _ :: _ :: _, _ => rfl
theorem lkL_lt (w : WFA A) {v : List Nat} (hv : isRw A o v) : ∀ x ∈ lkL (spw A) v, x < an A 0 := fun x hx => (isRw_lt w hv).1 x (lkL_mem hx)
theorem no0 (w : WFA A) (n0 : ¬ canE A o []) : ∀ v, isRw A o v → 1 ≤ (lkL (spw A) v).length := by
  intro v hv
  apply Classical.byContradiction
  intro q
  have e : lkL (spw A) v = [] := List.eq_nil_of_length_eq_zero (by omega)
  exact n0 ((canE_iff w [] (fun v _ => Nat.zero_le _)).mpr ⟨v, hv, by rw [e]⟩)
theorem no1 (w : WFA A) (n0 : ¬ canE A o []) (n1 : ∀ a, a < an A 0 → ¬ canE A o [a]) : ∀ v, isRw A o v → 2 ≤ (lkL (spw A) v).length := by
  intro v hv
  have l1 := no0 w n0
  apply Classical.byContradiction
  intro q
  obtain ⟨a, e⟩ := len1 (l := lkL (spw A) v) (by have := l1 v hv; omega)
  exact n1 a (lkL_lt w hv a (by rw [e]; simp)) ((canE_iff w [a] l1).mpr ⟨v, hv, by rw [e]⟩)
theorem perm2 (a b : Nat) : [a, b].Perm [min a b, max a b] := by
  by_cases q : a ≤ b
  · rw [Nat.min_eq_left q, Nat.max_eq_right q]
  · rw [Nat.min_eq_right (by omega), Nat.max_eq_left (by omega)]
    exact List.Perm.swap b a []
theorem LK_0 (w : WFA A) (c : canE A o []) : LK A o 0 := by
  obtain ⟨v, hv, p⟩ := (canE_iff w [] (fun v _ => Nat.zero_le _)).mp c
  exact ⟨by omega, fun _ _ => Nat.zero_le _, .inr ⟨v, hv, by rw [lkK_perm p]; rfl⟩⟩
theorem LK_1 (w : WFA A) (n0 : ¬ canE A o []) {a : Nat} (ha : a < an A 0) (c : canE A o [a]) (nb : ∀ b, b < a → ¬ canE A o [b]) : LK A o (10 + a) := by
  have e0 := w.e0
  have l1 := no0 w n0
  obtain ⟨v, hv, p⟩ := (canE_iff w [a] l1).mp c
  refine ⟨by omega, fun v' hv' => ?_, .inr ⟨v, hv, by rw [lkK_perm p]; rfl⟩⟩
  have q1 := l1 v' hv'
  by_cases q2 : (lkL (spw A) v').length = 1
  · obtain ⟨b, e⟩ := len1 q2
    rw [e]
    show 10 + a ≤ 10 + b
    apply Classical.byContradiction
    intro q
    exact nb b (by omega) ((canE_iff w [b] l1).mpr ⟨v', hv', by rw [e]⟩)
  · by_cases q3 : (lkL (spw A) v').length = 2
    · obtain ⟨b, d, e⟩ := len2 q3
      rw [e]
      show 10 + a ≤ 100 + 10 * min b d + max b d
      omega
    · rw [lkK_ge (by omega)]
      omega
theorem LK_2 (w : WFA A) (n0 : ¬ canE A o []) (n1 : ∀ a, a < an A 0 → ¬ canE A o [a]) {a b : Nat} (hab : a ≤ b) (hb : b < an A 0) (c : canE A o [a, b]) (nb : ∀ a' b', a' ≤ b' → b' < an A 0 → (a' < a ∨ (a' = a ∧ b' < b)) → ¬ canE A o [a', b']) : LK A o (100 + 10 * a + b) := by
  have e0 := w.e0
  have l2 := no1 w n0 n1
  obtain ⟨v, hv, p⟩ := (canE_iff w [a, b] l2).mp c
  refine ⟨by omega, fun v' hv' => ?_, .inr ⟨v, hv, ?_⟩⟩
  · have q1 := l2 v' hv'
    by_cases q3 : (lkL (spw A) v').length = 2
    · obtain ⟨x, y, e⟩ := len2 q3
      have hx := lkL_lt w hv' x (by rw [e]; simp)
      have hy := lkL_lt w hv' y (by rw [e]; simp)
      have hc : canE A o [min x y, max x y] := (canE_iff w _ l2).mpr ⟨v', hv', by rw [e]; exact perm2 x y⟩
      rw [e]
      show 100 + 10 * a + b ≤ 100 + 10 * min x y + max x y
      apply Classical.byContradiction
      intro q
      exact nb _ _ (by omega) (by omega) (by omega) hc
    · rw [lkK_ge (by omega)]
      omega
  · rw [lkK_perm p]
    show 100 + 10 * min a b + max a b = _
    omega
theorem LK_3 (w : WFA A) (n0 : ¬ canE A o []) (n1 : ∀ a, a < an A 0 → ¬ canE A o [a]) (n2 : ∀ a b, a ≤ b → b < an A 0 → ¬ canE A o [a, b]) : LK A o 1000 := by
  have l2 := no1 w n0 n1
  refine ⟨Nat.le_refl _, fun v' hv' => ?_, .inl rfl⟩
  have q1 := l2 v' hv'
  by_cases q3 : (lkL (spw A) v').length = 2
  · exfalso
    obtain ⟨x, y, e⟩ := len2 q3
    have hx := lkL_lt w hv' x (by rw [e]; simp)
    have hy := lkL_lt w hv' y (by rw [e]; simp)
    exact n2 (min x y) (max x y) (by omega) (by omega) ((canE_iff w _ l2).mpr ⟨v', hv', by rw [e]; exact perm2 x y⟩)
  · rw [lkK_ge (by omega)]
    omega
theorem m_canBy (M : MI h A) (ho : o < an A 2) {E : List Nat} (hE : E.length ≤ 2) (hm : ∀ i, i < E.length → h.2.1 206 i = nI (E.getD i 0) ∧ E.getD i 0 < 10) : SP (m_canBySome_22 193 (nI o) (nI (setOf (exM E))) h) (fun z => FrM FC (· = 23) h z.2 ∧ ((z.1 = nI 1 ∧ canE A o E) ∨ (z.1 = nI 0 ∧ ¬ canE A o E))) := by
  obtain ⟨R, hA, w⟩ := M
  have e2 := w.e2
  have h512 := hrd_512 w
  have hmu : setOf (exM E) < 2 ^ 11 := setOf_lt (fun x hx => by have := exM_mem.mp hx; omega)
  have hal : hrdN A ||| setOf (exM E) < 2 ^ 11 := Nat.or_lt_two_pow (by omega) hmu
  have hw : ∀ m, (hrdN A ||| setOf (exM E)).testBit m = true → WM A (h.2.1 206) m = nI (wE A E m) ∧ wE A E m < 10 := by
    intro m q
    rw [Nat.testBit_or, Bool.or_eq_true, setOf_bit, decide_eq_true_eq] at q
    rcases q with q | q
    · have h9 := (elems_mem.mp ((hrd_mem w).mpr q)).1
      unfold wE
      rw [if_pos h9]
      exact hrd_WM w _ m q
    · have h9 := exM_mem.mp q
      unfold wE WM
      rw [if_neg (by omega), if_neg (by omega)]
      exact hm (m - 9) (by omega)
  unfold m_canBySome_22
  simp only [kc_im8, kc_im1, kc_i0, kc_i1, kc_i2, kc_i3, kc_i4, kc_i5, kc_b_m100, kc_b_m16, kc_b_m15, kc_b_m14, kc_b_m13, kc_b_m12, kc_b_m11, kc_b_m2, kc_b_6, kc_b_7, kc_b_8, kc_b_9, kc_b_10, kc_b_11, kc_b_12, kc_b_13, kc_b_14, kc_b_15, kc_b_16, kc_b_20, kc_b_24, kc_b_32, kc_b_37, kc_b_40, kc_b_42, kc_b_43, kc_b_45, kc_b_47, kc_b_48, kc_b_57, kc_b_58, kc_b_59, kc_b_60, kc_b_61, kc_b_62, kc_b_63, kc_b_91, kc_b_93, kc_b_97, kc_b_99, kc_b_100, kc_b_106, kc_b_122, kc_s_206, kc_s_226, kc_s_227, kc_s_255, kc_s_256, kc_s_316, kc_s_318, kc_s_400, kc_s_512, kc_s_999, kc_s_1160, kc_s_1536, kc_s_3003, kc_lm11, kc_lm10, kc_lm9, kc_lm8, kc_lm7, kc_lm6, kc_lm5, kc_lm4, kc_lm3, kc_lm2, kc_lm1, kc_l1, kc_l2, kc_l3, kc_l4, kc_l5, kc_l6, kc_l7, kc_l8, kc_l9, kc_l10, kc_l11, kc_l12, kc_l13, kc_l14, kc_l37, kc_l42, kc_l43, kc_l45, kc_l47, kc_l60, kc_l61, kc_l62, kc_l316, kc_l318, kc_l65536, kc_l99999, kc_l1000000, kc_l252645135, kc_l858993459, kc_l1431655765, kc_0, kc_on]
  have key : SP (wh (fun z : (Int32 × pm_H) => m_canBySome_26 193 (nI o) (nI (setOf (exM E))) z.1 z.2) (nI 1, h)) (fun z => match z with | .inl h' => FrM FC (· = 23) h h' ∧ canE A o E | .inr h' => FrM FC (· = 23) h h' ∧ ¬ canE A o E) := by
    refine wh_cnt (fun i z => z.1 = nI i ∧ FrM FC (· = 23) h z.2 ∧ 1 ≤ i ∧ ∀ r : List Nat, r.length < i → 0 < r.length → r.Nodup → (∀ m ∈ r, (hrdN A ||| setOf (exM E)).testBit m = true) → ¬ VR A (wE A E) (setOf (exM E)) o r) _ 6 ?_ ?_ 1 (nI 1, h) (by omega) ⟨rfl, FrM.refl _ _ _, Nat.le_refl _, fun r h1 h2 => by omega⟩
    · rintro i ⟨y, h1⟩ hi ⟨hy, f1, i1, n1⟩
      dsimp only at hy f1 n1
      subst hy
      have R1 := R.fm f1
      have A1 : h1.2.1 203 = A := by rw [f1.i (by omega) (by unfold FC; omega)]; exact hA
      unfold m_canBySome_26
      simp only [kc_im8, kc_im1, kc_i0, kc_i1, kc_i2, kc_i3, kc_i4, kc_i5, kc_b_m100, kc_b_m16, kc_b_m15, kc_b_m14, kc_b_m13, kc_b_m12, kc_b_m11, kc_b_m2, kc_b_6, kc_b_7, kc_b_8, kc_b_9, kc_b_10, kc_b_11, kc_b_12, kc_b_13, kc_b_14, kc_b_15, kc_b_16, kc_b_20, kc_b_24, kc_b_32, kc_b_37, kc_b_40, kc_b_42, kc_b_43, kc_b_45, kc_b_47, kc_b_48, kc_b_57, kc_b_58, kc_b_59, kc_b_60, kc_b_61, kc_b_62, kc_b_63, kc_b_91, kc_b_93, kc_b_97, kc_b_99, kc_b_100, kc_b_106, kc_b_122, kc_s_206, kc_s_226, kc_s_227, kc_s_255, kc_s_256, kc_s_316, kc_s_318, kc_s_400, kc_s_512, kc_s_999, kc_s_1160, kc_s_1536, kc_s_3003, kc_lm11, kc_lm10, kc_lm9, kc_lm8, kc_lm7, kc_lm6, kc_lm5, kc_lm4, kc_lm3, kc_lm2, kc_lm1, kc_l1, kc_l2, kc_l3, kc_l4, kc_l5, kc_l6, kc_l7, kc_l8, kc_l9, kc_l10, kc_l11, kc_l12, kc_l13, kc_l14, kc_l37, kc_l42, kc_l43, kc_l45, kc_l47, kc_l60, kc_l61, kc_l62, kc_l316, kc_l318, kc_l65536, kc_l99999, kc_l1000000, kc_l252645135, kc_l858993459, kc_l1431655765, kc_0, kc_on]
      refine sp_neg (by rw [nx_lt (by omega) (by omega)]; omega) ?_
      rw [m_heardSet_n w R1 A1, Option.bind_some, nx_or2]
      refine sp_call (m_finds w hal hmu (by omega) i1 (by omega) hw R1 A1 (by rw [f1.i (by omega) (by unfold FC; omega)])) ?_
      rintro ⟨v, h2⟩ ⟨f2, q⟩
      dsimp only at f2 q
      rcases q with ⟨rfl, r, r1, r2, r3, r4, _, _⟩ | ⟨rfl, r1⟩
      · exact sp_neg n10 (sp_some.mpr ⟨f1.trans f2, r, by omega, by omega, r2, r3, r4⟩)
      · refine sp_pos rfl (sp_some.mpr ⟨nx_add i 1, f1.trans f2, by omega, fun r h1 h2 h3 h4 => ?_⟩)
        by_cases q : r.length = i
        · exact r1 r q h3 h4
        · exact n1 r (by omega) h2 h3 h4
    · rintro ⟨y, h1⟩ ⟨hy, f1, i1, n1⟩
      dsimp only at hy f1 n1
      subst hy
      unfold m_canBySome_26
      simp only [kc_im8, kc_im1, kc_i0, kc_i1, kc_i2, kc_i3, kc_i4, kc_i5, kc_b_m100, kc_b_m16, kc_b_m15, kc_b_m14, kc_b_m13, kc_b_m12, kc_b_m11, kc_b_m2, kc_b_6, kc_b_7, kc_b_8, kc_b_9, kc_b_10, kc_b_11, kc_b_12, kc_b_13, kc_b_14, kc_b_15, kc_b_16, kc_b_20, kc_b_24, kc_b_32, kc_b_37, kc_b_40, kc_b_42, kc_b_43, kc_b_45, kc_b_47, kc_b_48, kc_b_57, kc_b_58, kc_b_59, kc_b_60, kc_b_61, kc_b_62, kc_b_63, kc_b_91, kc_b_93, kc_b_97, kc_b_99, kc_b_100, kc_b_106, kc_b_122, kc_s_206, kc_s_226, kc_s_227, kc_s_255, kc_s_256, kc_s_316, kc_s_318, kc_s_400, kc_s_512, kc_s_999, kc_s_1160, kc_s_1536, kc_s_3003, kc_lm11, kc_lm10, kc_lm9, kc_lm8, kc_lm7, kc_lm6, kc_lm5, kc_lm4, kc_lm3, kc_lm2, kc_lm1, kc_l1, kc_l2, kc_l3, kc_l4, kc_l5, kc_l6, kc_l7, kc_l8, kc_l9, kc_l10, kc_l11, kc_l12, kc_l13, kc_l14, kc_l37, kc_l42, kc_l43, kc_l45, kc_l47, kc_l60, kc_l61, kc_l62, kc_l316, kc_l318, kc_l65536, kc_l99999, kc_l1000000, kc_l252645135, kc_l858993459, kc_l1431655765, kc_0, kc_on]
      refine sp_pos (by decide) (sp_some.mpr ⟨f1, ?_⟩)
      rintro ⟨r, r0, r5, rn, rm, rv⟩
      exact n1 r (by omega) r0 rn rm rv
  refine sp_call key ?_
  rintro (h1 | h1) q
  · exact sp_some.mpr ⟨q.1, .inl ⟨rfl, q.2⟩⟩
  · exact sp_some.mpr ⟨q.1, .inr ⟨rfl, q.2⟩⟩
def LF (c : Nat) : Prop := FC c ∨ c = 206
theorem ex1 (a : Nat) : setOf (exM [a]) = 512 := by
  rw [show exM [a] = [9] from rfl]
  decide
theorem ex2 (a b : Nat) : setOf (exM [a, b]) = 1536 := by
  rw [show exM [a, b] = [9, 10] from rfl]
  decide
theorem can0 (M : MI h A) (ho : o < an A 2) : SP (m_canBySome 193 (nI 0) (nI o) h) (fun z => FrM LF (· = 23) h z.2 ∧ ((z.1 = nI 1 ∧ canE A o []) ∨ (z.1 = nI 0 ∧ ¬ canE A o []))) := by
  unfold m_canBySome
  refine sp_neg (fun z => z rfl) ?_
  refine (m_canBy (E := []) M ho (by simp) (fun i hi => by simp at hi)).mono ?_
  rintro z ⟨f, q⟩
  exact ⟨f.mono (fun c hc => .inl hc) (fun _ q => q), q⟩
theorem can1 (M : MI h A) (ho : o < an A 2) {a : Nat} (ha : a < an A 0) : SP (m_canBySome 193 (nI 1) (nI o) (pm_setI h 206 0 (nI a))) (fun z => FrM LF (· = 23) h z.2 ∧ z.2.2.1 206 0 = nI a ∧ ((z.1 = nI 1 ∧ canE A o [a]) ∨ (z.1 = nI 0 ∧ ¬ canE A o [a]))) := by
  have e0 := M.2.2.e0
  have M1 : MI (pm_setI h 206 0 (nI a)) A := ⟨M.1.setI, by rw [show (pm_setI h 206 0 (nI a)).2.1 203 = h.2.1 203 from funext (fun j => ri_c _ (by omega))]; exact M.2.1, M.2.2⟩
  unfold m_canBySome
  simp only [kc_im8, kc_im1, kc_i0, kc_i1, kc_i2, kc_i3, kc_i4, kc_i5, kc_b_m100, kc_b_m16, kc_b_m15, kc_b_m14, kc_b_m13, kc_b_m12, kc_b_m11, kc_b_m2, kc_b_6, kc_b_7, kc_b_8, kc_b_9, kc_b_10, kc_b_11, kc_b_12, kc_b_13, kc_b_14, kc_b_15, kc_b_16, kc_b_20, kc_b_24, kc_b_32, kc_b_37, kc_b_40, kc_b_42, kc_b_43, kc_b_45, kc_b_47, kc_b_48, kc_b_57, kc_b_58, kc_b_59, kc_b_60, kc_b_61, kc_b_62, kc_b_63, kc_b_91, kc_b_93, kc_b_97, kc_b_99, kc_b_100, kc_b_106, kc_b_122, kc_s_206, kc_s_226, kc_s_227, kc_s_255, kc_s_256, kc_s_316, kc_s_318, kc_s_400, kc_s_512, kc_s_999, kc_s_1160, kc_s_1536, kc_s_3003, kc_lm11, kc_lm10, kc_lm9, kc_lm8, kc_lm7, kc_lm6, kc_lm5, kc_lm4, kc_lm3, kc_lm2, kc_lm1, kc_l1, kc_l2, kc_l3, kc_l4, kc_l5, kc_l6, kc_l7, kc_l8, kc_l9, kc_l10, kc_l11, kc_l12, kc_l13, kc_l14, kc_l37, kc_l42, kc_l43, kc_l45, kc_l47, kc_l60, kc_l61, kc_l62, kc_l316, kc_l318, kc_l65536, kc_l99999, kc_l1000000, kc_l252645135, kc_l858993459, kc_l1431655765, kc_0, kc_on]
  refine sp_pos n10 (sp_neg (fun z => z (by first | rfl | trivial)) ?_)
  rw [← ex1 a]
  refine (m_canBy (E := [a]) M1 ho (by simp) (fun i hi => ?_)).mono ?_
  · have : i = 0 := by simp at hi; exact hi
    subst this
    exact ⟨ri_s _, by show a < 10; omega⟩
  · rintro z ⟨f, q⟩
    exact ⟨((FrM.refl LF _ h).setI (by omega) (.inr rfl)).trans (f.mono (fun c hc => .inl hc) (fun _ q => q)), by rw [f.i (by omega) (by unfold FC; omega)]; exact ri_s _, q⟩
theorem can2 (M : MI h A) (ho : o < an A 2) {a b : Nat} (ha : a < an A 0) (hb : b < an A 0) : SP (m_canBySome 193 (nI 2) (nI o) (pm_setI (pm_setI h 206 0 (nI a)) 206 1 (nI b))) (fun z => FrM LF (· = 23) h z.2 ∧ z.2.2.1 206 0 = nI a ∧ z.2.2.1 206 1 = nI b ∧ ((z.1 = nI 1 ∧ canE A o [a, b]) ∨ (z.1 = nI 0 ∧ ¬ canE A o [a, b]))) := by
  have e0 := M.2.2.e0
  have M1 : MI (pm_setI (pm_setI h 206 0 (nI a)) 206 1 (nI b)) A := ⟨M.1.setI.setI, by rw [show (pm_setI (pm_setI h 206 0 (nI a)) 206 1 (nI b)).2.1 203 = h.2.1 203 from funext (fun j => by rw [ri_c _ (by omega), ri_c _ (by omega)])]; exact M.2.1, M.2.2⟩
  unfold m_canBySome
  simp only [kc_im8, kc_im1, kc_i0, kc_i1, kc_i2, kc_i3, kc_i4, kc_i5, kc_b_m100, kc_b_m16, kc_b_m15, kc_b_m14, kc_b_m13, kc_b_m12, kc_b_m11, kc_b_m2, kc_b_6, kc_b_7, kc_b_8, kc_b_9, kc_b_10, kc_b_11, kc_b_12, kc_b_13, kc_b_14, kc_b_15, kc_b_16, kc_b_20, kc_b_24, kc_b_32, kc_b_37, kc_b_40, kc_b_42, kc_b_43, kc_b_45, kc_b_47, kc_b_48, kc_b_57, kc_b_58, kc_b_59, kc_b_60, kc_b_61, kc_b_62, kc_b_63, kc_b_91, kc_b_93, kc_b_97, kc_b_99, kc_b_100, kc_b_106, kc_b_122, kc_s_206, kc_s_226, kc_s_227, kc_s_255, kc_s_256, kc_s_316, kc_s_318, kc_s_400, kc_s_512, kc_s_999, kc_s_1160, kc_s_1536, kc_s_3003, kc_lm11, kc_lm10, kc_lm9, kc_lm8, kc_lm7, kc_lm6, kc_lm5, kc_lm4, kc_lm3, kc_lm2, kc_lm1, kc_l1, kc_l2, kc_l3, kc_l4, kc_l5, kc_l6, kc_l7, kc_l8, kc_l9, kc_l10, kc_l11, kc_l12, kc_l13, kc_l14, kc_l37, kc_l42, kc_l43, kc_l45, kc_l47, kc_l60, kc_l61, kc_l62, kc_l316, kc_l318, kc_l65536, kc_l99999, kc_l1000000, kc_l252645135, kc_l858993459, kc_l1431655765, kc_0, kc_on]
  refine sp_pos (by decide) (sp_pos (by decide) ?_)
  rw [← ex2 a b]
  refine (m_canBy (E := [a, b]) M1 ho (by simp) (fun i hi => ?_)).mono ?_
  · have : i = 0 ∨ i = 1 := by simp at hi; omega
    rcases this with rfl | rfl
    · exact ⟨by rw [ri_j _ (by omega), ri_s]; rfl, by show a < 10; omega⟩
    · exact ⟨by rw [ri_s]; rfl, by show b < 10; omega⟩
  · rintro z ⟨f, q⟩
    exact ⟨(((FrM.refl LF _ h).setI (by omega) (.inr rfl)).setI (by omega) (.inr rfl)).trans (f.mono (fun c hc => .inl hc) (fun _ q => q)), by rw [f.i (by omega) (by unfold FC; omega), ri_j _ (by omega), ri_s], by rw [f.i (by omega) (by unfold FC; omega), ri_s], q⟩
end ML
