/-! A rule's text: whether the reference is inside. -/
section MIN
variable {h : pm_H} {s : List Nat}
theorem m_isInside_n (R : RF h) (K : SKs h s) : m_isInside 193 h = some (nI (decide (91 ∈ s)).toNat) := by
  obtain ⟨k1, k2, k3, k4, k5⟩ := K
  have el : ∀ j, j < s.length → s.getD j 0 ∈ s := by
    intro j hj
    rw [List.getD_eq_getElem?_getD, List.getElem?_eq_getElem hj]
    exact List.getElem_mem hj
  have w := wh_find (f := fun x : Int32 => m_isInside_2 193 x h) (fun i => nI i) (fun _ => (Sum.inl () : Unit ⊕ Unit)) (Sum.inr ()) (fun i => decide (s.getD (s.length - 1 - i) 0 = 91)) s.length (fun i hi => by
    unfold m_isInside_2
    rw [k1]
    refine (if_neg (by rw [nx_le (by omega) (by omega)]; omega)).trans ?_
    rw [ra_193_15 R, Option.bind_some, mn_200, gi_n (by omega), nx_cl (by omega), k3 i hi, kc_b_91]
    refine (if_pos (dec_t (by omega))).trans ?_
    have tv := k5 _ (el (s.length - 1 - i) (by omega))
    by_cases q : s.getD (s.length - 1 - i) 0 = 91
    · rw [if_pos (decide_eq_true q)]
      exact if_neg (fun z => z (by rw [q]))
    · rw [if_neg (show ¬ decide (s.getD (s.length - 1 - i) 0 = 91) = true by rw [decide_eq_false q]; decide)]
      refine (if_pos (by rw [nx_eq (by omega) (by omega)]; exact q)).trans ?_
      rw [kc_i1, nx_add]) (by
    unfold m_isInside_2
    rw [k1]
    exact if_pos (by rw [nx_le (by omega) (by omega)]; omega))
  unfold m_isInside
  rw [kc_i0, w, Option.bind_some]
  cases hf : (List.range s.length).find? (fun i => decide (s.getD (s.length - 1 - i) 0 = 91)) with
  | some i =>
    dsimp only
    have h1 := List.mem_range.mp (List.mem_of_find?_eq_some hf)
    have h2 := List.find?_some hf
    have h3 : s.getD (s.length - 1 - i) 0 = 91 := of_decide_eq_true h2
    have : 91 ∈ s := h3 ▸ el (s.length - 1 - i) (by omega)
    rw [decide_eq_true this, kc_i1]
    rfl
  | none =>
    dsimp only
    have no : ¬ 91 ∈ s := by
      intro z
      obtain ⟨j, hj, ej⟩ := List.getElem_of_mem z
      have h1 := List.find?_range_eq_none.mp hf (s.length - 1 - j) (by omega)
      rw [show s.length - 1 - (s.length - 1 - j) = j by omega, List.getD_eq_getElem?_getD, List.getElem?_eq_getElem hj] at h1
      have : (some s[j]).getD 0 = 91 := ej
      rw [this] at h1
      exact absurd h1 (by decide)
    rw [decide_eq_false no]
    rfl
end MIN
