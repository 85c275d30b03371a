/-! More loops of the reference: heardSet, needOf, isInside, nextOf. -/
theorem k_8 : (Int8.ofInt 8).toInt32 = nI 8 := by decide
theorem k_11 : (Int8.ofInt 11).toInt32 = nI 11 := by decide
theorem n_1 : Int32.ofInt 1 = nI 1 := by decide
theorem n_3 : Int32.ofInt 3 = nI 3 := by decide
theorem n_0 : Int32.ofInt 0 = nI 0 := by decide
theorem cl_2 : (Int32.ofInt 2).toNatClampNeg = 2 := by decide
/-- an order's cells lie in the row -/
theorem ord_in : ∀ k, k < 8 → ∀ j, j < 6 → vp_in (((Int8.ofInt 58).toInt32 + ((Int8.ofInt 6).toInt32 * nI k)) + nI j) 227 := by
  unfold vp_in
  decide
/-- who is heard, as bits -/
def heardF (h : pm_H) : Nat → Int32
  | 0 => 0
  | k + 1 => heardF h k ||| (if v_isHeard (nI k) h = 0 then (0 : Int32) else (1 : Int32) <<< (nI k &&& 31))
def v_heardSet (h : pm_H) : Int32 := heardF h 9
theorem w_heardSet (b : Bool) (L : Nat) (xs : Nat → Int32) (d : Nat) (hd : 3 ≤ d) (h : pm_H) (hI : IM h) : PC b L xs d 200 [.ref 193] h (fun r0 h2 => r0 = some (.int (v_heardSet h)) ∧ h2 = h) := by
  refine pc_in (n := 3) (by decide +kernel) (ls0 := [.ref 193, .retAddr 0, .retAddr 0]) rfl ?_
  refine l_heardSet_0 b L xs d (Nat.zero_le d) h hI ?_
  have key : ∀ m k, k + m = 9 → PW b L xs d 200 0 0 4 [.ref 193, .int (heardF h k), .int (nI k)] [] h (fun r0 h2 => r0 = some (.int (v_heardSet h)) ∧ h2 = h) := by
    intro m
    induction m with
    | zero =>
      intro k hk
      have e : k = 9 := by omega
      subst e
      have c9 : (Int8.ofInt 8).toInt32 < nI 9 := by decide
      exact l_heardSet_4 b L xs d hd h hI (heardF h 9) (nI 9) (fun c => absurd c9 c) (fun c => absurd c9 c) (fun c => absurd c9 c) (fun c => absurd c9 c) (fun c => absurd c9 c) (fun c => absurd c9 c) (fun _ => ⟨rfl, rfl⟩)
    | succ m ih =>
      intro k hk
      have k8 : ∀ {P : Prop}, (¬ nI k = (Int8.ofInt 8).toInt32 → k < 8 → P) → (¬ nI k = (Int8.ofInt 8).toInt32 → P) := fun f c => f c (by
        rcases Nat.lt_or_ge k 8 with q | q
        · exact q
        · have e : k = 8 := by omega
          subst e
          exact absurd k_8.symm c)
      refine l_heardSet_4 b L xs d hd h hI (heardF h k) (nI k) (fun _ => k8 (fun _ q _ => ?_)) (fun _ => k8 (fun _ q _ => ?_)) (fun _ => k8 (fun _ q _ _ => ?_)) (fun _ => k8 (fun _ q _ _ _ _ => ?_)) (fun _ ca => ?_) (fun _ ca => ?_) (fun c => ?_)
      · rw [n_4]; exact man_in k q 4 (by decide)
      · rw [n_2]; exact man_in k q 2 (by decide)
      · rw [n_3]; exact man_in k q 3 (by decide)
      · rw [n_1]; exact man_in k q 1 (by decide)
      · have := ih (k + 1) (by omega)
        rw [heardF, if_pos ca] at this
        rw [k_s, k_0]; exact this
      · have := ih (k + 1) (by omega)
        rw [heardF, if_neg ca] at this
        rw [k_s, k_1]; exact this
      · rw [k_8, nI_ltI (by decide) (by omega)] at c
        omega
  have := key 9 0 (by omega)
  rw [show heardF h 0 = Int32.ofInt 0 from k_0.symm, k_n0] at this
  exact this
/-- the need of a set of orders -/
def needF (s : Int32) (h : pm_H) : Nat → Int32
  | 0 => 0
  | k + 1 => needF s h k + (if v_isOf s (nI k) h = 0 then (0 : Int32) else v_orderOf (nI k) 0 h)
def v_needOf (s : Int32) (h : pm_H) : Int32 := needF s h (h.2.1 203 2).toNatClampNeg
theorem w_needOf (b : Bool) (L : Nat) (xs : Nat → Int32) (d : Nat) (hd : 1 ≤ d) (h : pm_H) (hI : IM h) (s : Int32) (b0 : vp_in (h.2.1 203 2) 9) : PC b L xs d 222 [.ref 193, .int s] h (fun r0 h2 => r0 = some (.int (v_needOf s h)) ∧ h2 = h) := by
  obtain ⟨hK, hm⟩ := in_nI b0 (by decide)
  unfold v_needOf
  generalize (h.2.1 203 2).toNatClampNeg = K at hK hm ⊢
  refine pc_in (n := 4) (by decide +kernel) (ls0 := [.ref 193, .int s, .retAddr 0, .retAddr 0]) rfl ?_
  refine l_needOf_0 b L xs d (Nat.zero_le d) h hI s ?_
  have key : ∀ m k, k + m = K → PW b L xs d 222 0 0 4 [.ref 193, .int s, .int (needF s h k), .int (nI k)] [] h (fun r0 h2 => r0 = some (.int (needF s h K)) ∧ h2 = h) := by
    intro m
    induction m with
    | zero =>
      intro k hk
      have e : k = K := by omega
      subst e
      refine l_needOf_4 b L xs d hd h hI s (needF s h k) (nI k) (fun c => ?_) (fun c => ?_) (fun c => ?_) (fun _ => ⟨rfl, rfl⟩)
      all_goals rw [cl_2, hm] at c; exact absurd (nI_le (Nat.le_refl k) (by omega)) c
    | succ m ih =>
      intro k hk
      refine l_needOf_4 b L xs d hd h hI s (needF s h k) (nI k) (fun _ _ => ?_) (fun _ ca => ?_) (fun _ ca => ?_) (fun c => ?_)
      · rw [n_0]; exact ord_in k (by omega) 0 (by decide)
      · have := ih (k + 1) (by omega)
        rw [needF, if_pos ca] at this
        rw [k_s, k_0]; exact this
      · have := ih (k + 1) (by omega)
        rw [needF, if_neg ca] at this
        rw [k_s, k_0]; exact this
      · rw [cl_2, hm] at c
        exact absurd c (nI_ge (by omega) (by omega))
  have := key K 0 (by omega)
  rw [show needF s h 0 = Int32.ofInt 0 from k_0.symm, k_n0] at this
  exact this
/-- the next one who is allowed and not used, from m on, among f more -/
def nextF (al us : Int32) (h : pm_H) : Nat → Nat → Nat
  | 0, m => m
  | f + 1, m => if v_isOf al (nI m) h = 0 then nextF al us h f (m + 1) else if v_isOf us (nI m) h = 0 then m else nextF al us h f (m + 1)
def v_nextOf (al us fr : Int32) (h : pm_H) : Int32 := nI (nextF al us h (11 - fr.toNatClampNeg) fr.toNatClampNeg)
theorem w_nextOf (b : Bool) (L : Nat) (xs : Nat → Int32) (d : Nat) (hd : 1 ≤ d) (h : pm_H) (hI : IM h) (al us fr : Int32) (b0 : vp_in fr 12) : PC b L xs d 217 [.int al, .int us, .int fr] h (fun r0 h2 => r0 = some (.int (v_nextOf al us fr h)) ∧ h2 = h) := by
  obtain ⟨hK, hm⟩ := in_nI b0 (by decide)
  unfold v_nextOf
  generalize fr.toNatClampNeg = K at hK hm ⊢
  subst hm
  refine pc_in (n := 4) (by decide +kernel) (ls0 := [.int al, .int us, .int (nI K), .retAddr 0]) rfl ?_
  refine l_nextOf_0 b L xs d (Nat.zero_le d) h hI al us (nI K) ?_
  have key : ∀ f m, m + f = 11 → ∀ {Q : Option Value → pm_H → Prop}, Q (some (.int (nI (nextF al us h f m)))) h → PW b L xs d 217 0 0 2 [.int al, .int us, .int (nI K), .int (nI m)] [] h Q := by
    intro f
    induction f with
    | zero =>
      intro m hk Q hQ
      have e : m = 11 := by omega
      subst e
      have c9 : (Int8.ofInt 11).toInt32 ≤ nI 11 := by decide
      exact l_nextOf_2 b L xs d hd h hI al us (nI K) (nI 11) (fun c => absurd c9 c) (fun c => absurd c9 c) (fun _ => hQ) (fun c => absurd c9 c)
    | succ f ih =>
      intro m hk Q hQ
      refine l_nextOf_2 b L xs d hd h hI al us (nI K) (nI m) (fun _ c1 => ?_) (fun _ c1 c2 => ?_) (fun c => ?_) (fun _ c1 c2 => ?_)
      · rw [k_s]
        refine ih (m + 1) (by omega) ?_
        rw [nextF, if_pos c1] at hQ
        exact hQ
      · rw [k_s]
        refine ih (m + 1) (by omega) ?_
        rw [nextF, if_neg c1, if_neg c2] at hQ
        exact hQ
      · rw [k_11] at c
        exact absurd c (nI_ge (by omega) (by decide))
      · rw [nextF, if_neg c1, if_pos c2] at hQ
        exact hQ
  exact key (11 - K) K (by omega) ⟨rfl, rfl⟩
