/-! image and back of the reference. -/
theorem v_in_iff (v lo hi : Int64) (h : pm_H) : (¬ v_in v lo hi h = 0) ↔ (lo ≤ v ∧ v ≤ hi) := by
  have z1 : ¬ (Int32.ofInt 1 = 0) := by decide
  unfold v_in lg_cmp
  by_cases c1 : lo ≤ v
  · have n1 : ¬ ((if v > lo then (1 : Int32) else if v = lo then 0 else -1) < 0) := by
      by_cases q : v > lo
      · rw [if_pos q]; decide
      · rw [if_neg q, if_pos (Int64.le_antisymm (Int64.not_lt.mp q) c1)]; decide
    rw [if_neg n1]
    by_cases c2 : v ≤ hi
    · have n2 : ¬ (0 < (if v > hi then (1 : Int32) else if v = hi then 0 else -1)) := by
        rw [if_neg (Int64.not_lt.mpr c2)]
        split <;> decide
      rw [if_neg n2]
      exact ⟨fun _ => ⟨c1, c2⟩, fun _ => z1⟩
    · have n2 : 0 < (if v > hi then (1 : Int32) else if v = hi then 0 else -1) := by
        rw [if_pos (Int64.not_le.mp c2)]; decide
      rw [if_pos n2]
      exact ⟨fun q => absurd k_0 q, fun q => absurd q.2 c2⟩
  · have n1 : (if v > lo then (1 : Int32) else if v = lo then 0 else -1) < 0 := by
      have c3 := Int64.not_le.mp c1
      rw [if_neg (fun q => Int64.lt_asymm c3 q), if_neg (fun q => by rw [q] at c3; exact Int64.lt_irrefl c3)]
      decide
    rw [if_pos n1]
    exact ⟨fun q => absurd k_0 q, fun q => absurd q.1 c1⟩
/-- the copying loop of image -/
theorem im_loop (b : Bool) (L : Nat) (xs : Nat → Int32) (d : Nat) (h : pm_H) (hI : IM h) (u : Nat) (hu : u < 4) {Q : Option Value → pm_H → Prop} (hQ : Q (some (.int (h.2.1 203 4))) (pm_cp h 211 (227 * u) 227 (h.2.1 203))) : PW b L xs d 257 0 0 33 [.ref 193, .int (nI u), .int (Int32.ofInt 0)] [] h Q := by
  have key : ∀ m k, k + m = 227 → PW b L xs d 257 0 0 33 [.ref 193, .int (nI u), .int (nI k)] [] (pm_cp h 211 (227 * u) k (h.2.1 203)) Q := by
    intro m
    induction m with
    | zero =>
      intro k hk
      have e : k = 227 := by omega
      subst e
      have c9 : (Int16.ofInt 227).toInt32 ≤ nI 227 := by rw [k_227]; exact nI_le (Nat.le_refl 227) (by decide)
      refine l_image_33 b L xs d (Nat.zero_le d) _ (pm_cp_I hI) (nI u) (nI 227) (fun c => absurd c9 c) (fun c => absurd c9 c) (fun c => absurd c9 c) (fun _ => ?_)
      rw [pm_cp_o (by decide), show (Int32.ofInt 4).toNatClampNeg = 4 by decide]
      exact hQ
    | succ m ih =>
      intro k hk
      refine l_image_33 b L xs d (Nat.zero_le d) _ (pm_cp_I hI) (nI u) (nI k) (fun _ => ?_) (fun _ => ?_) (fun _ => ?_) (fun c => ?_)
      · exact vp_in_nI (by omega) (by decide)
      · rw [k_227, k_ix]; exact vp_in_nI (by omega) (by decide)
      · have := ih (k + 1) (by omega)
        rw [← pm_cp_s] at this
        rw [pm_cp_o (a := 203) (by decide), k_227, k_ix, nI_clamp (by omega), nI_clamp (by omega), k_s]
        exact this
      · rw [k_227] at c
        exact absurd c (nI_ge (by omega) (by decide))
  have := key 227 0 (by omega)
  rw [pm_cp_0, k_n0] at this
  exact this
/-- the copying loop of back -/
theorem bk_loop (b : Bool) (L : Nat) (xs : Nat → Int32) (d : Nat) (h : pm_H) (hI : IM h) (u : Nat) (hu : u < 4) {Q : Option Value → pm_H → Prop} (hQ : Q (some (.int (h.2.1 211 (227 * u + 4)))) (pm_cp h 203 0 227 (fun j => h.2.1 211 (227 * u + j)))) : PW b L xs d 258 0 0 40 [.ref 193, .int (nI u), .int (Int32.ofInt 0)] [] h Q := by
  have key : ∀ m k, k + m = 227 → PW b L xs d 258 0 0 40 [.ref 193, .int (nI u), .int (nI k)] [] (pm_cp h 203 0 k (fun j => h.2.1 211 (227 * u + j))) Q := by
    intro m
    induction m with
    | zero =>
      intro k hk
      have e : k = 227 := by omega
      subst e
      have c9 : (Int16.ofInt 227).toInt32 ≤ nI 227 := by rw [k_227]; exact nI_le (Nat.le_refl 227) (by decide)
      refine l_back_40 b L xs d (Nat.zero_le d) _ (pm_cp_I hI) (nI u) (nI 227) (fun c => absurd c9 c) (fun c => absurd c9 c) (fun c => absurd c9 c) (fun _ => ?_)
      have e4 : (pm_cp h 203 0 227 (fun j => h.2.1 211 (227 * u + j))).2.1 203 (Int32.ofInt 4).toNatClampNeg = h.2.1 211 (227 * u + 4) := by
        rw [show (Int32.ofInt 4).toNatClampNeg = 4 by decide]
        simp [pm_cp, pm_rowI, pm_row]
      rw [e4]
      exact hQ
    | succ m ih =>
      intro k hk
      refine l_back_40 b L xs d (Nat.zero_le d) _ (pm_cp_I hI) (nI u) (nI k) (fun _ => ?_) (fun _ => ?_) (fun _ => ?_) (fun c => ?_)
      · rw [k_227, k_ix]; exact vp_in_nI (by omega) (by decide)
      · exact vp_in_nI (by omega) (by decide)
      · have := ih (k + 1) (by omega)
        rw [← pm_cp_s, Nat.zero_add] at this
        rw [k_227, k_ix, nI_clamp (by omega), nI_clamp (by omega), pm_cp_o (a := 211) (by decide), k_s]
        exact this
      · rw [k_227] at c
        exact absurd c (nI_ge (by omega) (by decide))
  have := key 227 0 (by omega)
  rw [pm_cp_0, k_n0] at this
  exact this
