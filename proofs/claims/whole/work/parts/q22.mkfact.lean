/-! A rule's text: the loop of a fact, by the reference. -/
theorem fact_more {h h' : pm_H} (e : m_fact_2 193 (Int32.ofInt 1) h = some (.inl (Int32.ofInt 1, h'))) : KtE h = KtE h' := by
  have : m_fact 193 h = m_fact 193 h' := by
    unfold m_fact
    rw [wh_inl (f := fun s : (Int32 × pm_H) => m_fact_2 193 s.1 s.2) (s := (Int32.ofInt 1, h)) (s' := (Int32.ofInt 1, h')) e]
  unfold KtE
  rw [this]
theorem fact_last {h h' : pm_H} (e : m_fact_2 193 (Int32.ofInt 1) h = some (.inl (Int32.ofInt 0, h'))) : m_fact 193 h = (m_compare 193 h').bind fun q2 => if mi_bo q2.1 = true then some (q2.1, q2.2) else none := by
  unfold m_fact
  rw [wh_inl (f := fun s : (Int32 × pm_H) => m_fact_2 193 s.1 s.2) (s := (Int32.ofInt 1, h)) (s' := (Int32.ofInt 0, h')) e]
  have : m_fact_2 193 (Int32.ofInt 0) h' = some (.inr (.inr (.inr h'))) := by
    unfold m_fact_2
    exact if_pos rfl
  rw [wh_inr (f := fun s : (Int32 × pm_H) => m_fact_2 193 s.1 s.2) (s := (Int32.ofInt 0, h')) this]
  rfl
