/-! Questions and reads: both answer alike. -/
def CALLr (x m : pm_H → Option Int32) (h : pm_H) : Prop := ∃ v, x h = some v ∧ m h = some v
section QUE
variable {h : pm_H}
theorem Fr.q89 {h' : pm_H} (f : Fr (· = 89) h h') : Fq QF h h' := f.q.mono (fun c hc => by unfold QF; omega)
theorem QI.f89 {h' : pm_H} {s : Nat} {A : Nat → Int32} (Q : QI h s A) (f : Fr (· = 89) h h') : QI h' s A := by
  have hs := hull_ge Q.2.2.1.1
  have e : ∀ c, c ≠ 89 → h'.2.1 c = h.2.1 c := fun c hc => (f.2.2 c hc).1
  exact Q.keep (Q.1.fr f) (f.r _ _) (f.r _ _) (fun c h1 h2 => e c (by omega)) (fun j _ => by rw [e 168 (by omega)]) (fun c hc => e c (by omega))
theorem cl_sayable (I : INV h) : CALL (x_sayable 0) (m_sayable 193) h := call_q I (fun s A n P L B X R0 RL Ip Ig => ⟨_, x_sayable_sp Ip.1, fun h1 Ir => m_sayable_sp Ir.1⟩)
theorem cl_shortest (I : INV h) (x y : Int32) : CALL (x_shortest 0 x y) (m_shortest 193 x y) h := call_q I (fun s A n P L B X R0 RL Ip Ig => ⟨_, x_shortest_sp Ip.1 x y, fun h1 Ir => m_shortest_sp Ir.1 x y⟩)
theorem cl_fewest (I : INV h) (x y : Int32) : CALL (x_fewest 0 x y) (m_fewest 193 x y) h := call_q I (fun s A n P L B X R0 RL Ip Ig => ⟨_, x_fewest_sp Ip.1 x y, fun h1 Ir => m_fewest_sp Ir.1 x y⟩)
theorem cl_watches (I : INV h) (x y : Int32) : CALL (x_watches 0 x y) (m_watches 193 x y) h := call_q I (fun s A n P L B X R0 RL Ip Ig => ⟨_, x_watches_sp Ip.1 x y, fun h1 Ir => m_watches_sp Ir.1 x y⟩)
theorem cl_boy (I : INV h) (y : Int32) : CALL (x_boy 0 y) (m_boy 193 y) h := call_q I (fun s A n P L B X R0 RL Ip Ig => ⟨_, x_boy_sp Ip.1 y, fun h1 Ir => m_boy_sp Ir.1 y⟩)
theorem cl_awake (I : INV h) (y : Int32) : CALL (x_awake 0 y) (m_awake 193 y) h := call_q I (fun s A n P L B X R0 RL Ip Ig => ⟨_, x_awake_sp Ip.1 y, fun h1 Ir => m_awake_sp Ir.1 y⟩)
theorem cl_ask (I : INV h) (y : Int32) : CALL (x_ask 0 y) (m_ask 193 y) h := call_q I (fun s A n P L B X R0 RL Ip Ig => ⟨_, x_ask_sp Ip.1 y, fun h1 Ir => m_ask_sp Ir.1 y⟩)
theorem cl_lacks (I : INV h) (x y : Int32) : CALL (x_lacks 0 x y) (m_lacks 193 x y) h := call_q I (fun s A n P L B X R0 RL Ip Ig => by
  by_cases q : ∃ o k, x = nI o ∧ y = nI k ∧ o < an A 2 ∧ k ≤ 2
  · obtain ⟨o, k, rfl, rfl, ho, hk⟩ := q
    exact ⟨_, x_lacks_ok Ip.1 ho hk, fun h1 Ir => m_lacks_ok Ir.1 ho hk⟩
  · exact ⟨ng 1, ⟨_, x_lacks_no Ip.1 q, rfl, Fq.refl _ _, Ip.1⟩, fun h1 Ir => ⟨_, m_lacks_no Ir.1 q, rfl, FM.refl _⟩⟩)
theorem cl_nearest (I : INV h) (x y v : Int32) : CALL (x_nearest 0 x y v) (m_nearest 193 x y v) h := call_q I (fun s A n P L B X R0 RL Ip Ig => by
  by_cases q : ∃ N n k, isRD x y N n ∧ isM A N n ∧ k ≤ 1 ∧ v = nI k
  · obtain ⟨N, n, k, ⟨rfl, rfl, h0, h5, hN⟩, ok, hk, rfl⟩ := q
    exact ⟨_, x_nearest_ok Ip.1 h0 h5 hN ok hk, fun h1 Ir => m_nearest_ok Ir.1 h0 h5 hN ok hk⟩
  · exact ⟨ng 1, (x_nearest_no Ip.1 q).mono (fun z hz => ⟨hz.1, hz.2.q89, Ip.1.f89 hz.2⟩), fun h1 Ir => ⟨_, m_nearest_no Ir.1 q, rfl, FM.refl _⟩⟩)
theorem cl_meaning (I : INV h) (x y : Int32) : CALL (x_meaning 0 x y) (m_meaning 193 x y) h := call_q I (fun s A n P L B X R0 RL Ip Ig => by
  by_cases q : ∃ N n, isRD x y N n ∧ isWd A N n
  · obtain ⟨N, n, ⟨rfl, rfl, h0, h5, hN⟩, ok⟩ := q
    exact ⟨_, (x_meaning_ok Ip.1 h0 h5 hN ok).mono (fun z hz => ⟨hz.1, hz.2.q89, Ip.1.f89 hz.2⟩), fun h1 Ir => m_meaning_ok Ir.1 h0 h5 hN ok⟩
  · exact ⟨ng 1, (x_meaning_no Ip.1 q).mono (fun z hz => ⟨hz.1, hz.2.q89, Ip.1.f89 hz.2⟩), fun h1 Ir => m_meaning_no Ir.1 q⟩)
theorem cl_voyages (I : INV h) (x y v w : Int32) : CALL (x_voyages 0 x y v w) (m_voyages 193 x y v w) h := call_q I (fun s A n P L B X R0 RL Ip Ig => by
  by_cases q : ∃ m n p k, x = nI m ∧ y = nI n ∧ v = nI p ∧ w = nI k ∧ voyOk A m n p k
  · obtain ⟨m, n, p, k, rfl, rfl, rfl, rfl, ok⟩ := q
    exact ⟨_, x_voyages_ok Ip.1 Ig.2.2.2.1 Ip.2.2.2 Ig.1 ok, fun h1 Ir => m_voyages_ok Ir.1 Ig.2.2.2.1 Ir.2.2.2 Ig.1 ok⟩
  · exact ⟨ng 1, ⟨_, x_voyages_no Ip.1 q, rfl, Fq.refl _ _, Ip.1⟩, fun h1 Ir => ⟨_, m_voyages_no Ir.1 q, rfl, FM.refl _⟩⟩)
theorem cl_man (I : INV h) (x y : Int32) : CALLr (x_man 0 x y) (m_man 193 x y) h := by
  obtain ⟨s, A, n, P, L, B, X, R0, RL, b, IS, IA, IX, Ip, Ix, Ir, Iy, Ig⟩ := I
  by_cases q : ∃ m k, x = nI m ∧ y = nI k ∧ m < an A 1 ∧ k ≤ 6
  · obtain ⟨m, k, rfl, rfl, hm, hk⟩ := q
    exact ⟨_, x_man_t Ip.1 hm hk, m_man_t Ir.1 hm hk⟩
  · exact ⟨_, x_man_f Ip.1 q, m_man_f Ir.1 q⟩
theorem cl_order (I : INV h) (x y : Int32) : CALLr (x_order 0 x y) (m_order 193 x y) h := by
  obtain ⟨s, A, n, P, L, B, X, R0, RL, b, IS, IA, IX, Ip, Ix, Ir, Iy, Ig⟩ := I
  by_cases q : ∃ o k, x = nI o ∧ y = nI k ∧ o < an A 2 ∧ k ≤ 5
  · obtain ⟨o, k, rfl, rfl, ho, hk⟩ := q
    exact ⟨_, x_order_t Ip.1 ho hk, m_order_t Ir.1 ho hk⟩
  · exact ⟨_, x_order_f Ip.1 q, m_order_f Ir.1 q⟩
theorem cl_means (I : INV h) (x y : Int32) : CALLr (x_means 0 x y) (m_means 193 x y) h := by
  obtain ⟨s, A, n, P, L, B, X, R0, RL, b, IS, IA, IX, Ip, Ix, Ir, Iy, Ig⟩ := I
  by_cases q : ∃ a b, x = nI a ∧ y = nI b ∧ a < an A 0 ∧ b < an A 0
  · obtain ⟨a, b, rfl, rfl, ha, hb⟩ := q
    exact ⟨_, x_means_t Ip.1 ha hb, m_means_t Ir.1 ha hb⟩
  · exact ⟨_, x_means_f Ip.1 q, m_means_f Ir.1 q⟩
theorem cl_count (I : INV h) (x : Int32) : CALLr (x_count 0 x) (m_count 193 x) h := by
  obtain ⟨s, A, n, P, L, B, X, R0, RL, b, IS, IA, IX, Ip, Ix, Ir, Iy, Ig⟩ := I
  exact ⟨_, x_count_n Ip.1 Ix.1 Ip.2.2.2 Ip.2.1.2.1 Ip.2.2.1.1 x, m_count_n Ir.1 Iy.1 Ir.2.2.2 Ir.2.1.2.1 Ir.2.2.1.1 x⟩
end QUE
