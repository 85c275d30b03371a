/-! Rules: wakes, of the program. -/
theorem gdl {a b : List Int32} {j : Nat} (h : j < a.length) : (a ++ b).getD j 0 = a.getD j 0 := by
  rw [List.getD_eq_getElem?_getD, List.getElem?_append_left h, ← List.getD_eq_getElem?_getD]
theorem gdr {a b : List Int32} {j : Nat} : (a ++ b).getD (a.length + j) 0 = b.getD j 0 := by
  rw [List.getD_eq_getElem?_getD, List.getElem?_append_right (by omega), Nat.add_sub_cancel_left, ← List.getD_eq_getElem?_getD]
theorem gdm {l : List Nat} {j : Nat} (h : j < l.length) : (l.map tkc).getD j 0 = tkc (l.getD j 0) := by
  rw [List.getD_eq_getElem?_getD, List.getElem?_map, List.getD_eq_getElem?_getD, List.getElem?_eq_getElem h]
  rfl
section UW
variable {h : pm_H} {u s c m : Nat} {W : Nat → Int64}
theorem u_end15 {i n : Nat} (R : RF h) (hu : mi_o u 6 = true) (h1 : h.2.1 u 1 = nI n) (hi : i < n) (hn : n ≤ 412) (ht : h.2.1 (u + 1) i = ng 15) : u_wakes_8 u s c (nI m) (nI i) h = some (.inr (.inl h)) := by
  unfold u_wakes_8
  rw [h1]
  refine (if_neg (by rw [nx_le (by omega) (by omega)]; omega)).trans ?_
  rw [rf_u0 R hu, Option.bind_some, ln_u0 hu]
  refine (if_neg (by rw [kc_on, nx_le (by omega) (by omega)]; omega)).trans ?_
  rw [Option.bind_some, ln_u0 hu, gi_n (by omega), nx_cl (by omega), ht]
  exact (if_pos (dec_t (by omega))).trans (if_neg (fun z => z (by decide)))
theorem u_end16 {i n : Nat} {x y : Int64} (R : RF h) (hu : mi_o u 6 = true) (h1 : h.2.1 u 1 = nI n) (hi : i < n) (hn : n ≤ 412) (ht : h.2.1 (u + 1) i = ng 16) (S : SKc h u [y, x]) (hy : y = 0 ∨ y = 1) : SP (u_wakes_8 u s c (nI m) (nI i) h) (fun q => ∃ h', FU u h h' ∧ SKc h' u [] ∧ ((y = 0 ∧ q = .inl (nI (i + 1), h')) ∨ (y = 1 ∧ q = .inr (.inr (.inl (x, h')))))) := by
  unfold u_wakes_8
  rw [h1]
  refine sp_neg (by rw [nx_le (by omega) (by omega)]; omega) ?_
  rw [rf_u0 R hu, Option.bind_some, ln_u0 hu]
  refine sp_neg (by rw [kc_on, nx_le (by omega) (by omega)]; omega) ?_
  rw [Option.bind_some, ln_u0 hu, gi_n (by omega), nx_cl (by omega), ht]
  refine sp_pos (dec_t (by omega)) (sp_pos (by decide) (sp_neg (fun z => z (by decide)) ?_))
  refine sp_call (u_pop_n R hu S (by show 1 < 64; omega)) ?_
  rintro ⟨v, h2⟩ ⟨hv, f2, S2⟩
  dsimp only at hv f2 S2
  subst hv
  dsimp only
  unfold u_wakes_79
  rcases hy with rfl | rfl
  · refine sp_pos (by decide) ?_
    refine sp_call (u_pop_n (f2.rf R) hu S2 (by show 0 < 64; omega)) ?_
    rintro ⟨v, h3⟩ ⟨hv, f3, S3⟩
    dsimp only at hv f3 S3
    subst hv
    refine sp_pos kc_i0 (sp_some.mpr ⟨h3, f2.trans f3, S3, .inl ⟨rfl, ?_⟩⟩)
    rw [kc_i1, nx_add]
  · refine sp_neg (by decide) ?_
    refine sp_call (u_pop_n (f2.rf R) hu S2 (by show 0 < 64; omega)) ?_
    rintro ⟨v, h3⟩ ⟨hv, f3, S3⟩
    dsimp only at hv f3 S3
    subst hv
    exact sp_neg (by decide) (sp_some.mpr ⟨h3, f2.trans f3, S3, .inr ⟨rfl, rfl⟩⟩)
theorem u_wakesW (hu : mi_o u 6 = true) {n : Nat} (hn : n ≤ 412) : ∀ (cls : List (List Nat × Option (List Nat))) (i : Nat) (h : pm_H), RF h → SKc h u [] → (∀ c ∈ cls, clOK c) → (∀ h', FU u h h' → ∀ w, w < 11 → u_letters (ng (1 + w)) s c (nI m) h' = some (W w)) → i + (cods cls).length = n → h.2.1 u 1 = nI n → (∀ j, j < (cods cls).length → h.2.1 (u + 1) (i + j) = (cods cls).getD j 0) → SP (wh (fun z : (Int32 × pm_H) => u_wakes_8 u s c (nI m) z.1 z.2) (nI i, h)) (fun z => match z with | .inl h' => FU u h h' ∧ SKc h' u [clV W cls] | .inr (.inl q) => FU u h q.2 ∧ q.1 = clV W cls | .inr (.inr h') => FU u h h' ∧ clV W cls = 0)
  | [], i, h, R, S, ok, hw, he, h1, ht => by
    have e : u_wakes_8 u s c (nI m) (nI i) h = some (.inr (.inr (.inr h))) := by
      unfold u_wakes_8
      rw [h1]
      have : i = n := he
      exact if_pos (by rw [nx_le (by omega) (by omega)]; omega)
    exact ⟨_, wh_inr e, FU.refl u h, rfl⟩
  | (sm, none) :: r, i, h, R, S, ok, hw, he, h1, ht => by
    have o1 := ok (sm, none) (by simp)
    have hnp : npu sm ≤ 60 := o1.2.2.1
    have ec : cods ((sm, none) :: r) = sm.map tkc ++ ([ng 15] ++ cods r) := by
      show (sm.map tkc ++ [ng 15]) ++ cods r = _
      rw [List.append_assoc]
    rw [ec, List.length_append, List.length_append, List.length_map, List.length_singleton] at he
    have l1 : (sm.map tkc).length = sm.length := List.length_map _
    obtain ⟨h', f, S', _, e⟩ := u_wakeW (s := s) (c := c) (m := m) (W := W) hu hn sm i [] [] [false] h R S trivial o1.1 (by show 0 + npu sm ≤ 63; omega) hw (by omega) h1 (fun j hj => by
      have q := ht j (by rw [ec, List.length_append, l1]; omega)
      rw [ec, gdl (by rw [l1]; exact hj), gdm hj] at q
      exact ⟨q, o1.2.1 _ (getD_lt_mem hj)⟩)
    rw [(evs_one o1.1).1] at S'
    have q := ht sm.length (by rw [ec, List.length_append, List.length_append, l1, List.length_singleton]; omega)
    rw [ec, show sm.length = (sm.map tkc).length + 0 from by rw [l1]; rfl, gdr] at q
    rw [l1, Nat.add_zero] at q
    rw [e]
    have e15 := u_end15 (s := s) (c := c) (m := m) (f.rf R) hu (i := i + sm.length) (by rw [f.2.2.2.1 1 (by omega)]; exact h1) (by omega) hn (by rw [f.2.2.1 (u + 1) (by omega)]; exact q)
    exact ⟨_, wh_inr e15, f, S'⟩
  | (sm, some l) :: r, i, h, R, S, ok, hw, he, h1, ht => by
    have o1 := ok (sm, some l) (by simp)
    have o2 := o1.2.2.2 l rfl
    have ec : cods ((sm, some l) :: r) = sm.map tkc ++ (l.map tkc ++ ([ng 16] ++ cods r)) := by
      show (sm.map tkc ++ (l.map tkc ++ [ng 16])) ++ cods r = _
      rw [List.append_assoc, List.append_assoc]
    rw [ec, List.length_append, List.length_append, List.length_append, List.length_map, List.length_map, List.length_singleton] at he
    have l1 : (sm.map tkc).length = sm.length := List.length_map _
    have l2 : (l.map tkc).length = l.length := List.length_map _
    have lt : (cods ((sm, some l) :: r)).length = sm.length + (l.length + (1 + (cods r).length)) := by rw [ec, List.length_append, List.length_append, List.length_append, l1, l2, List.length_singleton]
    have hnp : npu sm + npu l ≤ 60 := o2.2.2
    obtain ⟨h2, f2, S2, c2, e2⟩ := u_wakeW (s := s) (c := c) (m := m) (W := W) hu hn sm i [] [] [false] h R S trivial o1.1 (by show 0 + npu sm ≤ 63; omega) hw (by omega) h1 (fun j hj => by
      have q := ht j (by rw [lt]; omega)
      rw [ec, gdl (by rw [l1]; exact hj), gdm hj] at q
      exact ⟨q, o1.2.1 _ (getD_lt_mem hj)⟩)
    have es := evs_one (W := W) o1.1
    rw [es.1] at S2 c2
    have cell2 : ∀ j, h.2.1 (u + 1) j = h2.2.1 (u + 1) j := fun j => by rw [f2.2.2.1 (u + 1) (by omega)]
    obtain ⟨h3, f3, S3, c3, e3⟩ := u_wakeW (s := s) (c := c) (m := m) (W := W) hu hn l (i + sm.length) [evV W sm] [false] [true, false] h2 (f2.rf R) S2 c2 (tys_ext [false] l [] [true] o2.1) (by show 1 + npu l ≤ 63; omega) (fun h4 f4 => hw h4 (f2.trans f4)) (by omega) (by rw [f2.2.2.2.1 1 (by omega)]; exact h1) (fun j hj => by
      have q := ht (sm.length + j) (by rw [lt]; omega)
      rw [ec, show sm.length + j = (sm.map tkc).length + j from by rw [l1], gdr, gdl (by rw [l2]; exact hj), gdm hj, l1, ← Nat.add_assoc, cell2] at q
      exact ⟨q, o2.2.1 _ (getD_lt_mem hj)⟩)
    have et := evs_one (W := W) o2.1
    have ex := evs_ext [evV W sm] W l [] [true] [] o2.1 trivial
    rw [List.nil_append, et.1] at ex
    rw [ex] at S3
    have f23 := f2.trans f3
    have q16 := ht (sm.length + l.length) (by rw [lt]; omega)
    rw [ec, show sm.length + l.length = (sm.map tkc).length + ((l.map tkc).length + 0) from by rw [l1, l2]; rfl, gdr, gdr, l1, l2, Nat.add_zero, ← Nat.add_assoc] at q16
    rw [e2, e3]
    obtain ⟨z, ez, h4, f4, S4, q⟩ := u_end16 (s := s) (c := c) (m := m) (f23.rf R) hu (i := i + sm.length + l.length) (by rw [f23.2.2.2.1 1 (by omega)]; exact h1) (by omega) hn (by rw [f23.2.2.1 (u + 1) (by omega)]; exact q16) S3 (et.2 rfl)
    have f24 := f23.trans f4
    rw [clV]
    rcases q with ⟨q0, rfl⟩ | ⟨q1, rfl⟩
    · rw [wh_inl ez, if_neg (by rw [q0]; decide)]
      refine (u_wakesW hu hn r (i + sm.length + l.length + 1) h4 (f24.rf R) S4 (fun c hc => ok c (by simp [hc])) (fun h5 f5 => hw h5 (f24.trans f5)) (by omega) (by rw [f24.2.2.2.1 1 (by omega)]; exact h1) (fun j hj => ?_)).mono ?_
      · have q := ht (sm.length + l.length + 1 + j) (by rw [lt]; omega)
        rw [ec, show sm.length + l.length + 1 + j = (sm.map tkc).length + ((l.map tkc).length + (([ng 16] : List Int32).length + j)) from by rw [l1, l2, List.length_singleton]; omega, gdr, gdr, gdr, l1, l2, List.length_singleton] at q
        have ej : i + sm.length + l.length + 1 + j = i + (sm.length + (l.length + (1 + j))) := by omega
        rw [f24.2.2.1 (u + 1) (by omega), ej]
        exact q
      · rintro (q | q | q) hq
        · exact ⟨f24.trans hq.1, hq.2⟩
        · exact ⟨f24.trans hq.1, hq.2⟩
        · exact ⟨f24.trans hq.1, hq.2⟩
    · rw [if_pos q1]
      exact ⟨_, wh_inr ez, f24, rfl⟩
/-- whether a value is above 0 -/
def posV (v : Int64) : Bool := !decide (lg_cmp v (Int64.ofNat 0) ≤ 0)
theorem u_wakes_n {cls : List (List Nat × Option (List Nat))} (R : RF h) (hu : mi_o u 6 = true) (C : RC h u cls) (ok : ∀ c ∈ cls, clOK c) (hw : ∀ h', FU u h h' → ∀ w, w < 11 → u_letters (ng (1 + w)) s c (nI m) h' = some (W w)) : SP (u_wakes u s c (nI m) h) (fun z => z.1 = nI (posV (clV W cls)).toNat ∧ FU u h z.2) := by
  obtain ⟨c1, c2, c3⟩ := C
  unfold u_wakes
  rw [sp_bd, kc_i0]
  have f0 : FU u h (pm_setI h u 4 (nI 0)) := (FU.refl u h).setI
  have fin : ∀ (v : Int64) (h' : pm_H), FU u h h' → SP (if lg_cmp v (Int64.ofNat 0) ≤ 0 then some (nI 0, h') else some (Int32.ofInt 1, h') : Option (Int32 × pm_H)) (fun z => z.1 = nI (posV v).toNat ∧ FU u h z.2) := by
    intro v h' f
    unfold posV
    by_cases q : lg_cmp v (Int64.ofNat 0) ≤ 0
    · exact sp_pos q (sp_some.mpr ⟨by rw [dec_t q]; rfl, f⟩)
    · exact sp_neg q (sp_some.mpr ⟨by rw [dec_f q]; exact kc_i1, f⟩)
  refine sp_call (u_wakesW (s := s) (c := c) (m := m) (W := W) hu c2 cls 0 (pm_setI h u 4 (nI 0)) (f0.rf R) ⟨ri_s _, fun i hi => absurd hi (by show ¬ i < 0; omega)⟩ ok (fun h1 f1 => hw h1 (f0.trans f1)) (by omega) (by rw [ri_j _ (by omega)]; exact c1) (fun j hj => by rw [Nat.zero_add, f0.2.2.1 (u + 1) (by omega)]; exact c3 j hj)) ?_
  rintro (h1 | ⟨v, h1⟩ | h1) hq
  · dsimp only
    refine sp_call (u_pop_n ((f0.trans hq.1).rf R) hu hq.2 (by show 0 < 64; omega)) ?_
    rintro ⟨v, h2⟩ ⟨hv, f2, _⟩
    dsimp only at hv f2
    subst hv
    exact fin _ _ ((f0.trans hq.1).trans f2)
  · have e : v = clV W cls := hq.2
    rw [← e]
    exact fin v h1 (f0.trans hq.1)
  · rw [hq.2]
    exact sp_some.mpr ⟨rfl, f0.trans hq.1⟩
end UW
