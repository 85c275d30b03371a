/-! A rule's text: tests, by the reference: what is left to do when a fact is awaited (KtE), and when it is done (KtD). -/
noncomputable def mtEnd (q3 : pm_H ⊕ pm_H) : Option (Int32 × pm_H) := (match q3 with | (.inl eq3_0) => some ((Int32.ofInt 0), eq3_0) | (.inr eq3_1) => (m_isInside 193 eq3_1).bind fun q4 => if q4 = 0 then ((m_settles 193 (Int32.ofInt 1) eq3_1).bind fun q6 => some ((Int32.ofInt 1), q6)) else ((m_see 193 eq3_1).bind fun q7 => (m_fails 193 (Int32.ofInt 0) (q7.2.2.1 193 8) q7.2).bind fun q8 => if mi_bo q8.1 = true then some (q8.1, q8.2) else none))
noncomputable def mtLoop (v : Int32) (h : pm_H) : Option (Int32 × pm_H) := (wh (fun s : (Int32 × pm_H) => m_tested_12 193 s.1 s.2) (v, h)).bind mtEnd
noncomputable def mtD (h : pm_H) : Option ((Int32 × pm_H) ⊕ pm_H ⊕ pm_H) := (m_closes 193 h).bind fun q4 => (m_isWord 193 (6385252 : Int64) q4).bind fun q5 => if ¬ q5.1 = 0 then (m_tested_49 193 q5.2) else ((m_isWord 193 (28530 : Int64) q5.2).bind fun q7 => if q7.1 = 0 then (m_tested_54 193 (Int32.ofInt 0) q7.2) else (m_tested_49 193 q7.2))
noncomputable def mtG (x : (Int32 × pm_H) ⊕ pm_H ⊕ pm_H) : Option (Int32 × pm_H) := match x with
  | .inl s' => mtLoop s'.1 s'.2
  | .inr r => mtEnd r
noncomputable def KtD (h : pm_H) : Option (Int32 × pm_H) := (mtD h).bind mtG
noncomputable def KtE (h : pm_H) : Option (Int32 × pm_H) := (m_fact 193 h).bind fun q2 => if ¬ q2.1 = 0 then KtD q2.2 else mtEnd (.inl q2.2)
theorem loop_of {h : pm_H} {v : Int32} (hv : ¬ v = 0) {z : Int32 × pm_H} (e : KtE h = some z) : mtLoop v h = some z := by
  unfold KtE at e
  cases ef : m_fact 193 h with
  | none => rw [ef] at e; cases e
  | some q2 =>
    rw [ef, Option.bind_some] at e
    have st : ∀ x, m_tested_12 193 v h = some x → mtG x = some z → mtLoop v h = some z := by
      intro x ex ez
      unfold mtLoop
      cases x with
      | inl s' => rw [wh_inl (f := fun s : (Int32 × pm_H) => m_tested_12 193 s.1 s.2) (s := (v, h)) (s' := s') ex]; exact ez
      | inr r => rw [wh_inr (f := fun s : (Int32 × pm_H) => m_tested_12 193 s.1 s.2) (s := (v, h)) ex]; exact ez
    have e12 : m_tested_12 193 v h = if ¬ q2.1 = 0 then mtD q2.2 else some (.inr (.inl q2.2)) := by
      unfold m_tested_12
      refine (if_neg hv).trans ?_
      rw [ef]
      rfl
    by_cases q : ¬ q2.1 = 0
    · rw [if_pos q] at e e12
      unfold KtD at e
      cases ed : mtD q2.2 with
      | none => rw [ed] at e; cases e
      | some x =>
        rw [ed] at e e12
        exact st x e12 e
    · rw [if_neg q] at e e12
      exact st _ e12 e
