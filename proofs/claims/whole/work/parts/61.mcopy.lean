/-! Copying loops of the reference: keepsAct, undo, image, back. -/
/-- n places of the row c, from base on, become src -/
def pm_cp (h : pm_H) (c base n : Nat) (src : Nat → Int32) : pm_H := pm_rowI h c (fun j => if base ≤ j ∧ j < base + n then src (j - base) else h.2.1 c j)
theorem pm_cp_0 (h : pm_H) (c base : Nat) (src : Nat → Int32) : pm_cp h c base 0 src = h := by
  unfold pm_cp pm_rowI
  have : pm_row h.2.1 c (fun j => if base ≤ j ∧ j < base + 0 then src (j - base) else h.2.1 c j) = h.2.1 := by
    funext a j
    unfold pm_row
    split
    · rename_i e
      subst e
      show (if base ≤ j ∧ j < base + 0 then src (j - base) else h.2.1 a j) = _
      rw [if_neg (by omega)]
    · rfl
  rw [this]
theorem pm_cp_s (h : pm_H) (c base n : Nat) (src : Nat → Int32) : pm_setI (pm_cp h c base n src) c (base + n) (src n) = pm_cp h c base (n + 1) src := by
  unfold pm_cp pm_rowI pm_setI
  have : pm_up (pm_row h.2.1 c (fun j => if base ≤ j ∧ j < base + n then src (j - base) else h.2.1 c j)) c (base + n) (src n) = pm_row h.2.1 c (fun j => if base ≤ j ∧ j < base + (n + 1) then src (j - base) else h.2.1 c j) := by
    funext a j
    unfold pm_up pm_row
    split
    · split
      · rename_i e2
        subst e2
        show src n = (if base ≤ base + n ∧ base + n < base + (n + 1) then src (base + n - base) else h.2.1 c (base + n))
        rw [if_pos (by omega)]
        congr 1
        omega
      · rename_i e2
        show (if base ≤ j ∧ j < base + n then src (j - base) else h.2.1 c j) = (if base ≤ j ∧ j < base + (n + 1) then src (j - base) else h.2.1 c j)
        by_cases q : base ≤ j ∧ j < base + n
        · rw [if_pos q, if_pos (by omega)]
        · rw [if_neg q, if_neg (by omega)]
    · rfl
  simp only [this]
theorem pm_cp_o {h : pm_H} {c base n a j : Nat} {src : Nat → Int32} (e : a ≠ c) : (pm_cp h c base n src).2.1 a j = h.2.1 a j := by
  simp [pm_cp, pm_rowI, pm_row, e]
theorem pm_cp_r {h : pm_H} {c base n j : Nat} {src : Nat → Int32} (e : ¬ (base ≤ j ∧ j < base + n)) : (pm_cp h c base n src).2.1 c j = h.2.1 c j := by
  simp only [pm_cp, pm_rowI, pm_row, if_true, if_neg e]
theorem pm_cp_I {h : pm_H} {c base n : Nat} {src : Nat → Int32} (hI : IM h) : IM (pm_cp h c base n src) := hI
theorem k_58 : (Int8.ofInt 58).toInt32 = nI 58 := by decide
theorem k_20 : (Int8.ofInt 20).toInt32 = nI 20 := by decide
theorem k_1160 : (Int16.ofInt 1160).toInt32 = nI 1160 := by decide
theorem k_227 : (Int16.ofInt 227).toInt32 = nI 227 := by decide
theorem k_ix (a u k : Nat) : nI a * nI u + nI k = nI (a * u + k) := by rw [pk_mul, nI_add]
/-- keepsAct's second loop: the first 58 numbers of said behind what was kept -/
theorem kA2 (b : Bool) (L : Nat) (xs : Nat → Int32) (d : Nat) (h : pm_H) (hI : IM h) (u : Nat) (hu : u < 20) (hm : h.2.1 193 28 = nI u) {Q : Option Value → pm_H → Prop} (hQ : Q none (pm_setI (pm_cp h 208 (58 * u) 58 (h.2.1 203)) 193 28 (nI (u + 1)))) : PW b L xs d 224 0 0 52 [.ref 193, .int (Int32.ofInt 0)] [] h Q := by
  have key : ∀ m k, k + m = 58 → PW b L xs d 224 0 0 52 [.ref 193, .int (nI k)] [] (pm_cp h 208 (58 * u) k (h.2.1 203)) Q := by
    intro m
    induction m with
    | zero =>
      intro k hk
      have e : k = 58 := by omega
      subst e
      refine l_keepsAct_52 b L xs d (Nat.zero_le d) _ (pm_cp_I hI) (nI 58) (fun c => ?_) (fun c => ?_) (fun c => ?_) (fun _ => ?_)
      · rw [k_58] at c; exact absurd (nI_le (Nat.le_refl 58) (by decide)) c
      · rw [k_58] at c; exact absurd (nI_le (Nat.le_refl 58) (by decide)) c
      · rw [k_58] at c; exact absurd (nI_le (Nat.le_refl 58) (by decide)) c
      · rw [pm_cp_o (by decide), hm, k_s]
        exact hQ
    | succ m ih =>
      intro k hk
      refine l_keepsAct_52 b L xs d (Nat.zero_le d) _ (pm_cp_I hI) (nI k) (fun _ => ?_) (fun _ => ?_) (fun _ => ?_) (fun c => ?_)
      · exact vp_in_nI (by omega) (by decide)
      · rw [pm_cp_o (by decide), hm, k_58, k_ix]
        exact vp_in_nI (by omega) (by decide)
      · have := ih (k + 1) (by omega)
        rw [← pm_cp_s] at this
        rw [pm_cp_o (a := 193) (by decide), pm_cp_o (a := 203) (by decide), hm, k_58, k_ix, nI_clamp (by omega), nI_clamp (by omega), k_s]
        exact this
      · rw [k_58] at c
        exact absurd c (nI_ge (by omega) (by decide))
  have := key 58 0 (by omega)
  rw [pm_cp_0, k_n0] at this
  exact this
/-- keepsAct's first loop, where 20 are kept: the eldest goes -/
theorem kA1 (b : Bool) (L : Nat) (xs : Nat → Int32) (d : Nat) (h : pm_H) (hI : IM h) {Q : Option Value → pm_H → Prop} (hQ : PW b L xs d 224 0 0 52 [.ref 193, .int (Int32.ofInt 0)] [] (pm_setI (pm_cp h 208 0 1102 (fun j => h.2.1 208 (j + 58))) 193 28 (h.2.1 193 28 - Int32.ofInt 1)) Q) : PW b L xs d 224 0 0 12 [.ref 193, .int (nI 58)] [] h Q := by
  have key : ∀ m k, k + m = 1102 → PW b L xs d 224 0 0 12 [.ref 193, .int (nI (k + 58))] [] (pm_cp h 208 0 k (fun j => h.2.1 208 (j + 58))) Q := by
    intro m
    induction m with
    | zero =>
      intro k hk
      have e : k = 1102 := by omega
      subst e
      refine l_keepsAct_12 b L xs d (Nat.zero_le d) _ (pm_cp_I hI) (nI 1160) (fun c => ?_) (fun c => ?_) (fun _ => ?_) (fun c => ?_)
      · rw [k_1160] at c; exact absurd (nI_le (Nat.le_refl 1160) (by decide)) c
      · rw [k_1160] at c; exact absurd (nI_le (Nat.le_refl 1160) (by decide)) c
      · rw [pm_cp_o (by decide)]
        exact hQ
      · rw [k_1160] at c; exact absurd (nI_le (Nat.le_refl 1160) (by decide)) c
    | succ m ih =>
      intro k hk
      have es : nI (k + 58) - nI 58 = nI k := by rw [pk_sub (by omega), Nat.add_sub_cancel]
      refine l_keepsAct_12 b L xs d (Nat.zero_le d) _ (pm_cp_I hI) (nI (k + 58)) (fun _ => ?_) (fun _ => ?_) (fun c => ?_) (fun _ => ?_)
      · exact vp_in_nI (by omega) (by decide)
      · rw [k_58, es]
        exact vp_in_nI (by omega) (by decide)
      · rw [k_1160] at c
        exact absurd c (nI_ge (by omega) (by decide))
      · have := ih (k + 1) (by omega)
        rw [← pm_cp_s, Nat.zero_add] at this
        rw [k_58, es, nI_clamp (by omega), nI_clamp (by omega), pm_cp_r (by omega), k_s, show k + 58 + 1 = k + 1 + 58 by omega]
        exact this
  have := key 1102 0 (by omega)
  rw [pm_cp_0, Nat.zero_add] at this
  exact this
def e_kA (u : Nat) (h : pm_H) : pm_H :=
  if u = 20 then pm_setI (pm_cp (pm_setI (pm_cp h 208 0 1102 (fun j => h.2.1 208 (j + 58))) 193 28 (nI 19)) 208 1102 58 (h.2.1 203)) 193 28 (nI 20)
  else pm_setI (pm_cp h 208 (58 * u) 58 (h.2.1 203)) 193 28 (nI (u + 1))
theorem e_kA_I {u : Nat} {h : pm_H} (hI : IM h) : IM (e_kA u h) := by
  unfold e_kA
  split <;> exact hI
theorem c_keepsAct (b : Bool) (L : Nat) (xs : Nat → Int32) (d : Nat) (h : pm_H) (hI : IM h) (u : Nat) (hu : u ≤ 20) (hm : h.2.1 193 28 = nI u) : PC b L xs d 224 [.ref 193] h (fun r0 h2 => r0 = none ∧ h2 = e_kA u h) := by
  refine pc_in (n := 2) (by decide +kernel) (ls0 := [.ref 193, .retAddr 0]) rfl ?_
  refine l_keepsAct_0 b L xs d (Nat.zero_le d) h hI (fun c => ?_) (fun c => ?_)
  · rw [hm, k_20, nI_eq (by omega) (by decide)] at c
    exact kA2 b L xs d h hI u (by omega) hm ⟨rfl, by rw [e_kA, if_neg c]⟩
  · rw [hm, k_20, nI_eq (by omega) (by decide)] at c
    have e : u = 20 := Decidable.not_not.mp c
    subst e
    rw [k_58]
    refine kA1 b L xs d h hI ?_
    have e2 : h.2.1 193 28 - Int32.ofInt 1 = nI 19 := by rw [hm]; decide
    rw [e2]
    refine kA2 b L xs d (pm_setI (pm_cp h 208 0 1102 (fun j => h.2.1 208 (j + 58))) 193 28 (nI 19)) hI 19 (by decide) ?_ ?_
    · simp [pm_setI, pm_up]
    · refine ⟨rfl, ?_⟩
      rw [e_kA, if_pos rfl]
      have e3 : (pm_setI (pm_cp h 208 0 1102 (fun j => h.2.1 208 (j + 58))) 193 28 (nI 19)).2.1 203 = h.2.1 203 := by
        funext j
        simp [pm_setI, pm_up, pm_cp, pm_rowI, pm_row]
      rw [e3]
/-- undo: what was kept last comes back -/
theorem c_undo (b : Bool) (L : Nat) (xs : Nat → Int32) (d : Nat) (h : pm_H) (hI : IM h) (u : Nat) (hu : u ≤ 20) (hm : h.2.1 193 28 = nI u) : PC b L xs d 225 [.ref 193] h (fun r0 h2 => (u = 0 ∧ r0 = some (.int (-1)) ∧ h2 = h) ∨ (0 < u ∧ r0 = some (.int (nI (u - 1))) ∧ h2 = pm_cp (pm_setI h 193 28 (nI (u - 1))) 203 0 58 (fun j => h.2.1 208 (58 * (u - 1) + j)))) := by
  refine pc_in (n := 2) (by decide +kernel) (ls0 := [.ref 193, .retAddr 0]) rfl ?_
  refine l_undo_0 b L xs d (Nat.zero_le d) h hI (fun c => ?_) (fun c => ?_)
  · have hu0 : 0 < u := by
      rcases Nat.eq_zero_or_pos u with e | e
      · subst e; exact absurd hm c
      · exact e
    obtain ⟨w, rfl⟩ : ∃ w, u = w + 1 := ⟨u - 1, by omega⟩
    have e1 : h.2.1 193 28 - Int32.ofInt 1 = nI w := by rw [hm, k_1]; exact nI_pred w
    rw [e1]
    have key : ∀ m k, k + m = 58 → PW b L xs d 225 0 0 21 [.ref 193, .int (nI k)] [] (pm_cp (pm_setI h 193 28 (nI w)) 203 0 k (fun j => h.2.1 208 (58 * w + j))) (fun r0 h2 => (w + 1 = 0 ∧ r0 = some (.int (-1)) ∧ h2 = h) ∨ (0 < w + 1 ∧ r0 = some (.int (nI (w + 1 - 1))) ∧ h2 = pm_cp (pm_setI h 193 28 (nI (w + 1 - 1))) 203 0 58 (fun j => h.2.1 208 (58 * (w + 1 - 1) + j)))) := by
      have r1 : ∀ k, (pm_cp (pm_setI h 193 28 (nI w)) 203 0 k (fun j => h.2.1 208 (58 * w + j))).2.1 193 28 = nI w := fun k => by
        rw [pm_cp_o (by decide)]; simp [pm_setI, pm_up]
      have r2 : ∀ k j, (pm_cp (pm_setI h 193 28 (nI w)) 203 0 k (fun j => h.2.1 208 (58 * w + j))).2.1 208 j = h.2.1 208 j := fun k j => by
        rw [pm_cp_o (by decide)]; simp [pm_setI, pm_up]
      intro m
      induction m with
      | zero =>
        intro k hk
        have e : k = 58 := by omega
        subst e
        refine l_undo_21 b L xs d (Nat.zero_le d) _ (pm_cp_I (IM.setI hI)) (nI 58) (fun c => ?_) (fun c => ?_) (fun c => ?_) (fun _ => ?_)
        · rw [k_58] at c; exact absurd (nI_le (Nat.le_refl 58) (by decide)) c
        · rw [k_58] at c; exact absurd (nI_le (Nat.le_refl 58) (by decide)) c
        · rw [k_58] at c; exact absurd (nI_le (Nat.le_refl 58) (by decide)) c
        · rw [r1]
          exact Or.inr ⟨by omega, rfl, rfl⟩
      | succ m ih =>
        intro k hk
        refine l_undo_21 b L xs d (Nat.zero_le d) _ (pm_cp_I (IM.setI hI)) (nI k) (fun _ => ?_) (fun _ => ?_) (fun _ => ?_) (fun c => ?_)
        · rw [r1, k_58, k_ix]; exact vp_in_nI (by omega) (by decide)
        · exact vp_in_nI (by omega) (by decide)
        · have := ih (k + 1) (by omega)
          rw [← pm_cp_s, Nat.zero_add] at this
          rw [r1, k_58, k_ix, nI_clamp (by omega), nI_clamp (by omega), r2, k_s]
          exact this
        · rw [k_58] at c
          exact absurd c (nI_ge (by omega) (by decide))
    have := key 58 0 (by omega)
    rw [pm_cp_0, k_n0] at this
    exact this
  · have e0 : h.2.1 193 28 = 0 := Decidable.not_not.mp c
    rw [hm, show (0 : Int32) = nI 0 from by decide, nI_eq (by omega) (by decide)] at e0
    exact Or.inl ⟨e0, by rw [show Int32.ofInt (-1) = (-1 : Int32) from by decide], rfl⟩
