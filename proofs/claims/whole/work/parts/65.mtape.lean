/-! The reference's way along its tape: see, passWord; and isInside. -/
theorem pm_setI_self {h : pm_H} {a k : Nat} {v : Int32} (e : h.2.1 a k = v) : pm_setI h a k v = h := by
  unfold pm_setI
  have : pm_up h.2.1 a k v = h.2.1 := by
    funext c j
    unfold pm_up
    split
    · rename_i e1
      split
      · rename_i e2; rw [e1, e2]; exact e.symm
      · rfl
    · rfl
  rw [this]
theorem pm_setI_twice {h : pm_H} {a k : Nat} {v w : Int32} : pm_setI (pm_setI h a k v) a k w = pm_setI h a k w := by
  unfold pm_setI
  have : pm_up (pm_up h.2.1 a k v) a k w = pm_up h.2.1 a k w := by
    funext c j
    unfold pm_up
    by_cases e1 : c = a <;> by_cases e2 : j = k <;> simp [e1, e2]
  simp only [this]
theorem k_32 : (Int8.ofInt 32).toInt32 = (32 : Int32) := by decide
/-- the first place from p on that holds no blank, among f -/
def skipF (t : Nat → Int32) : Nat → Nat → Nat
  | 0, p => p
  | f + 1, p => if t p = 32 then skipF t f (p + 1) else p
theorem skipF_le (t : Nat → Int32) : ∀ f p, p ≤ skipF t f p ∧ skipF t f p ≤ p + f := by
  intro f
  induction f with
  | zero => intro p; simp [skipF]
  | succ f ih =>
    intro p
    simp only [skipF]
    split
    · have := ih (p + 1); omega
    · omega
/-- what see answers at a place -/
def seeV (t : Nat → Int32) (T q : Nat) : Int32 := if q < T then t q &&& (Int16.ofInt 255).toInt32 else Int32.ofInt (-1)
theorem w_see0 (b : Bool) (L : Nat) (xs : Nat → Int32) (d T : Nat) (hT : T ≤ 400) : ∀ (f p : Nat) (h : pm_H), IM h → p + f = T → h.2.1 193 1 = nI T → h.2.1 193 8 = nI p → ∀ {Q : Option Value → pm_H → Prop}, Q (some (.int (seeV (h.2.1 194) T (skipF (h.2.1 194) f p)))) (pm_setI h 193 8 (nI (skipF (h.2.1 194) f p))) → PW b L xs d 155 0 0 0 [.ref 193] [] h Q := by
  intro f
  induction f with
  | zero =>
    intro p h hI hp h1 h8 Q hQ
    have e : p = T := by omega
    subst e
    have c9 : h.2.1 193 1 ≤ h.2.1 193 8 := by rw [h1, h8]; exact nI_le (Nat.le_refl p) (by omega)
    rw [skipF, pm_setI_self h8, seeV, if_neg (Nat.lt_irrefl p)] at hQ
    exact l_see_0 b L xs d (Nat.zero_le d) h hI (fun _ c => absurd c9 c) (fun c => absurd c9 c) (fun c => absurd c9 c) (fun c => absurd c9 c) (fun _ _ => hQ) (fun _ c => absurd c9 c) (fun c => absurd c9 c) (fun c => absurd c9 c)
  | succ f ih =>
    intro p h hI hp h1 h8 Q hQ
    have hlt : ¬ h.2.1 193 1 ≤ h.2.1 193 8 := by rw [h1, h8]; exact nI_ge (by omega) (by omega)
    have hin : vp_in (h.2.1 193 8) 400 := by rw [h8]; exact vp_in_nI (by omega) (by decide)
    have hcl : (h.2.1 193 8).toNatClampNeg = p := by rw [h8]; exact nI_clamp (by omega)
    refine l_see_0 b L xs d (Nat.zero_le d) h hI (fun _ _ => hin) (fun _ => hin) (fun _ _ _ => hin) (fun _ c => ?_) (fun c => absurd c hlt) (fun c => absurd c hlt) (fun _ _ c => absurd c hlt) (fun _ c _ => ?_)
    · have c : h.2.1 194 p = 32 := by
        have := Decidable.not_not.mp c
        rw [hcl, k_32] at this
        exact this
      rw [skipF, if_pos c] at hQ
      rw [h8, k_s]
      have e4 : (pm_setI h 193 8 (nI (p + 1))).2.1 194 = h.2.1 194 := by
        funext j
        simp [pm_setI, pm_up]
      refine ih (p + 1) (pm_setI h 193 8 (nI (p + 1))) hI (by omega) ?_ ?_ ?_
      · rw [← h1]; rfl
      · simp [pm_setI, pm_up]
      · rw [e4, pm_setI_twice]
        exact hQ
    · rw [hcl, k_32] at c
      rw [skipF, if_neg c, pm_setI_self h8, seeV, if_pos (by omega)] at hQ
      rw [hcl]
      exact hQ
/-- is the byte a small letter -/
def isLet (x : Int32) : Bool := decide (97 ≤ x) && decide (x ≤ 122)
theorem isLetter_at (h : pm_H) (T p : Nat) (hT : T ≤ 400) (hp : p < 2 ^ 20) (h1 : h.2.1 193 1 = nI T) : (v_isLetter (nI p) h = 0) ↔ ¬ (p < T ∧ isLet (h.2.1 194 p) = true) := by
  have k97 : (Int8.ofInt 97).toInt32 = (97 : Int32) := by decide
  have k122 : (Int8.ofInt 122).toInt32 = (122 : Int32) := by decide
  have z0 : ¬ (Int32.ofInt 1 = 0) := by decide
  unfold v_isLetter
  rw [h1, nI_clamp (by omega), k97, k122]
  by_cases c1 : T ≤ p
  · rw [if_pos (nI_le c1 (by omega))]
    exact ⟨fun _ q => by omega, fun _ => k_0⟩
  · rw [if_neg (nI_ge (by omega) (by omega))]
    by_cases c2 : h.2.1 194 p < 97
    · rw [if_pos c2]
      refine ⟨fun _ q => ?_, fun _ => k_0⟩
      simp only [isLet, Bool.and_eq_true, decide_eq_true_eq] at q
      exact absurd q.2.1 (Int32.not_le.mpr c2)
    · rw [if_neg c2]
      by_cases c3 : 122 < h.2.1 194 p
      · rw [if_pos c3]
        refine ⟨fun _ q => ?_, fun _ => k_0⟩
        simp only [isLet, Bool.and_eq_true, decide_eq_true_eq] at q
        exact absurd q.2.2 (Int32.not_le.mpr c3)
      · rw [if_neg c3]
        refine ⟨fun q => absurd q z0, fun q => absurd ⟨by omega, ?_⟩ q⟩
        simp only [isLet, Bool.and_eq_true, decide_eq_true_eq]
        exact ⟨Int32.not_lt.mp c2, Int32.not_lt.mp c3⟩
