/-! Shortest rows: least men for a row of words. -/
theorem lxle_anti : ∀ {a b : List Nat}, a.length = b.length → lxle a b → lxle b a → a = b
  | [], [], _, _, _ => rfl
  | [], _ :: _, h, _, _ => by simp at h
  | _ :: _, [], h, _, _ => by simp at h
  | x :: a, y :: b, h, h1, h2 => by
    have hl : a.length = b.length := by simpa using h
    rcases h1 with q1 | ⟨q1, q2⟩
    · rcases h2 with p1 | ⟨p1, _⟩ <;> omega
    · rcases h2 with p1 | ⟨p1, p2⟩
      · omega
      · rw [q1, lxle_anti hl q2 p2]
theorem lxle_total : ∀ {a b : List Nat}, a.length = b.length → ¬ lxle a b → lxle b a
  | [], _, _, h => (h trivial).elim
  | _ :: _, [], h, _ => by simp at h
  | x :: a, y :: b, hl0, h => by
    have hl : a.length = b.length := by simpa using hl0
    by_cases q : x = y
    · subst q
      exact .inr ⟨rfl, lxle_total hl (fun z => h (.inr ⟨rfl, z⟩))⟩
    · refine .inl ?_
      have : ¬ x < y := fun z => h (.inl z)
      omega
theorem lxle_trans : ∀ {a b c : List Nat}, lxle a b → lxle b c → lxle a c
  | [], _, _, _, _ => trivial
  | _ :: _, [], _, h, _ => h.elim
  | _ :: _, _ :: _, [], _, h => h.elim
  | x :: a, y :: b, z :: c, h1, h2 => by
    rcases h1 with q1 | ⟨q1, q2⟩
    · rcases h2 with p1 | ⟨p1, _⟩ <;> exact .inl (by omega)
    · rcases h2 with p1 | ⟨p1, p2⟩
      · exact .inl (by omega)
      · exact .inr ⟨by omega, lxle_trans q2 p2⟩
theorem lx_lt : ∀ (i n : Nat) (g g' : Nat → Nat), i < n → (∀ j, j < i → g j = g' j) → g i < g' i → ¬ lxle (tl g' n) (tl g n)
  | 0, n, g, g', hi, _, h => by
    obtain ⟨m, rfl⟩ : ∃ m, n = m + 1 := ⟨n - 1, by omega⟩
    rw [tl_cons, tl_cons]
    rintro (q | ⟨q, _⟩) <;> omega
  | i + 1, n, g, g', hi, hj, h => by
    obtain ⟨m, rfl⟩ : ∃ m, n = m + 1 := ⟨n - 1, by omega⟩
    rw [tl_cons, tl_cons]
    have h0 := hj 0 (by omega)
    rintro (q | ⟨_, q⟩)
    · omega
    · exact lx_lt i m (fun j => g (j + 1)) (fun j => g' (j + 1)) (by omega) (fun j z => hj (j + 1) (by omega)) h q
theorem lx_gt : ∀ (i n : Nat) (g g' : Nat → Nat), i < n → (∀ j, j < i → g j = g' j) → g' i < g i → lxle (tl g' n) (tl g n)
  | 0, n, g, g', hi, _, h => by
    obtain ⟨m, rfl⟩ : ∃ m, n = m + 1 := ⟨n - 1, by omega⟩
    rw [tl_cons, tl_cons]
    exact .inl h
  | i + 1, n, g, g', hi, hj, h => by
    obtain ⟨m, rfl⟩ : ∃ m, n = m + 1 := ⟨n - 1, by omega⟩
    rw [tl_cons, tl_cons]
    exact .inr ⟨(hj 0 (by omega)).symm, lx_gt i m (fun j => g (j + 1)) (fun j => g' (j + 1)) (by omega) (fun j z => hj (j + 1) (by omega)) h⟩
section SEAT
variable (wf : Nat → Nat)
def lw (S v : Nat) : Option Nat := (List.range 9).find? (fun m => S.testBit m && wf m == v)
def seatL : Nat → List Nat → Option (List Nat)
  | _, [] => some []
  | S, v :: vs => match lw wf S v with
    | none => none
    | some m => (seatL (sd S (2 ^ m)) vs).map (m :: ·)
theorem lw_some {S v m : Nat} : lw wf S v = some m ↔ m < 9 ∧ S.testBit m = true ∧ wf m = v ∧ ∀ j, j < m → ¬ (S.testBit j = true ∧ wf j = v) := by
  unfold lw
  rw [List.find?_range_eq_some]
  simp only [Bool.and_eq_true, beq_iff_eq, List.mem_range, Bool.not_eq_true', Bool.and_eq_false_iff, beq_eq_false_iff_ne]
  constructor
  · rintro ⟨⟨a, b⟩, c, d⟩
    refine ⟨c, a, b, fun j hj q => ?_⟩
    rcases d j hj with z | z
    · rw [q.1] at z; cases z
    · exact z q.2
  · rintro ⟨a, b, c, d⟩
    refine ⟨⟨b, c⟩, a, fun j hj => ?_⟩
    by_cases z : S.testBit j = true
    · exact .inr (fun e => d j hj ⟨z, e⟩)
    · exact .inl (by simpa using z)
theorem lw_none {S v : Nat} : lw wf S v = none ↔ ∀ j, j < 9 → ¬ (S.testBit j = true ∧ wf j = v) := by
  unfold lw
  rw [List.find?_range_eq_none]
  simp only [Bool.not_eq_true', Bool.and_eq_false_iff, beq_eq_false_iff_ne]
  constructor
  · rintro q j hj ⟨a, b⟩
    rcases q j hj with z | z
    · rw [a] at z; cases z
    · exact z b
  · intro q j hj
    by_cases z : S.testBit j = true
    · exact .inr (fun e => q j hj ⟨z, e⟩)
    · exact .inl (by simpa using z)
theorem sd_bit1 (S m i : Nat) : (sd S (2 ^ m)).testBit i = true ↔ S.testBit i = true ∧ i ≠ m := by
  rw [sd_bit, Nat.testBit_two_pow]
  by_cases e : m = i
  · subst e; simp
  · have : i ≠ m := fun q => e q.symm
    simp [e, this]
theorem seat_ok : ∀ (vs : List Nat) (S : Nat) (p : List Nat), seatL wf S vs = some p → p.map wf = vs ∧ p.Nodup ∧ ∀ m ∈ p, m < 9 ∧ S.testBit m = true
  | [], S, p, h => by cases h; exact ⟨rfl, List.nodup_nil, by simp⟩
  | v :: vs, S, p, h => by
    rw [seatL] at h
    cases hl : lw wf S v with
    | none => rw [hl] at h; cases h
    | some m =>
      rw [hl] at h
      obtain ⟨q, h1, rfl⟩ := Option.map_eq_some_iff.mp h
      have hm := (lw_some wf).mp hl
      obtain ⟨a1, a2, a3⟩ := seat_ok vs _ q h1
      refine ⟨by rw [List.map_cons, a1, hm.2.2.1], List.nodup_cons.mpr ⟨fun z => ?_, a2⟩, fun x hx => ?_⟩
      · exact ((sd_bit1 S m m).mp (a3 m z).2).2 rfl
      · rcases List.mem_cons.mp hx with rfl | hx
        · exact ⟨hm.1, hm.2.1⟩
        · exact ⟨(a3 x hx).1, ((sd_bit1 S m x).mp (a3 x hx).2).1⟩
theorem seat_least : ∀ (vs : List Nat) (S : Nat) (p' : List Nat), p'.map wf = vs → p'.Nodup → (∀ m ∈ p', m < 9 ∧ S.testBit m = true) → ∃ p, seatL wf S vs = some p ∧ lxle p p'
  | [], S, p', _, _, _ => ⟨[], rfl, trivial⟩
  | v :: vs, S, p', h1, h2, h3 => by
    cases p' with
    | nil => cases h1
    | cons m' t' =>
      rw [List.map_cons] at h1
      obtain ⟨e1, e2⟩ := List.cons.inj h1
      have hm' := h3 m' List.mem_cons_self
      have hnd := List.nodup_cons.mp h2
      cases hl : lw wf S v with
      | none => exact ((lw_none wf).mp hl m' hm'.1 ⟨hm'.2, e1⟩).elim
      | some m =>
        have hm := (lw_some wf).mp hl
        have hle : m ≤ m' := by
          apply Classical.byContradiction
          intro q
          exact hm.2.2.2 m' (by omega) ⟨hm'.2, e1⟩
        by_cases em : m = m'
        · subst em
          obtain ⟨p, a1, a2⟩ := seat_least vs (sd S (2 ^ m)) t' e2 hnd.2 (fun x hx => ⟨(h3 x (List.mem_cons_of_mem _ hx)).1, (sd_bit1 S m x).mpr ⟨(h3 x (List.mem_cons_of_mem _ hx)).2, fun q => hnd.1 (q ▸ hx)⟩⟩)
          refine ⟨m :: p, ?_, .inr ⟨rfl, a2⟩⟩
          rw [seatL, hl]
          dsimp only
          rw [a1]
          rfl
        · have hmap : (t'.map (fun x => if x = m then m' else x)).map wf = vs := by
            rw [List.map_map, ← e2]
            apply List.map_congr_left
            intro x _
            show wf (if x = m then m' else x) = wf x
            by_cases q : x = m
            · rw [if_pos q, q, hm.2.2.1, e1]
            · rw [if_neg q]
          have hnd2 : (t'.map (fun x => if x = m then m' else x)).Nodup := by
            rw [List.Nodup, List.pairwise_map]
            refine List.Pairwise.imp_of_mem (fun {a b} ha hb hab => ?_) hnd.2
            by_cases qa : a = m
            · by_cases qb : b = m
              · exact (hab (by rw [qa, qb])).elim
              · rw [if_pos qa, if_neg qb]; exact fun z => hnd.1 (z ▸ hb)
            · by_cases qb : b = m
              · rw [if_neg qa, if_pos qb]; exact fun z => hnd.1 (z ▸ ha)
              · rw [if_neg qa, if_neg qb]; exact hab
          obtain ⟨p, a1, _⟩ := seat_least vs (sd S (2 ^ m)) (t'.map (fun x => if x = m then m' else x)) hmap hnd2 (fun x hx => by
            obtain ⟨y, hy, rfl⟩ := List.mem_map.mp hx
            by_cases q : y = m
            · rw [if_pos q]; exact ⟨hm'.1, (sd_bit1 S m m').mpr ⟨hm'.2, fun z => em z.symm⟩⟩
            · rw [if_neg q]; exact ⟨(h3 y (List.mem_cons_of_mem _ hy)).1, (sd_bit1 S m y).mpr ⟨(h3 y (List.mem_cons_of_mem _ hy)).2, q⟩⟩)
          refine ⟨m :: p, ?_, .inl (by omega)⟩
          rw [seatL, hl]
          dsimp only
          rw [a1]
          rfl
end SEAT
/-- a row of men of S that says o -/
def VS (A : Nat → Int32) (b S o : Nat) (r : List Nat) : Prop := r.length ≤ 5 ∧ r.Nodup ∧ (∀ m ∈ r, m < 9 ∧ S.testBit m = true) ∧ syA A (r.map (wfb A b)) = some o
/-- one row before another -/
def bef (r r' : List Nat) : Prop := r.length < r'.length ∨ (r.length = r'.length ∧ lxle r r')
theorem bef_trans {a b c : List Nat} (h1 : bef a b) (h2 : bef b c) : bef a c := by
  rcases h1 with q | ⟨q1, q2⟩
  · rcases h2 with p | ⟨p, _⟩ <;> exact .inl (by omega)
  · rcases h2 with p | ⟨p1, p2⟩
    · exact .inl (by omega)
    · exact .inr ⟨by omega, lxle_trans q2 p2⟩
theorem bef_anti {a b : List Nat} (h1 : bef a b) (h2 : bef b a) : a = b := by
  rcases h1 with q | ⟨q1, q2⟩
  · rcases h2 with p | ⟨p, _⟩ <;> omega
  · rcases h2 with p | ⟨p1, p2⟩
    · omega
    · exact lxle_anti q1 q2 p2
theorem bef_total {a b : List Nat} (h : ¬ bef a b) : bef b a := by
  rcases Nat.lt_trichotomy b.length a.length with q | q | q
  · exact .inl q
  · exact .inr ⟨q, lxle_total q.symm (fun z => h (.inr ⟨q.symm, z⟩))⟩
  · exact (h (.inl q)).elim
def isSh (A : Nat → Int32) (b S o : Nat) (r : List Nat) : Prop := VS A b S o r ∧ ∀ r', VS A b S o r' → bef r r'
noncomputable def shF (A : Nat → Int32) (b S o : Nat) : Option (List Nat) := @dite (Option (List Nat)) (∃ r, isSh A b S o r) (Classical.propDecidable _) (fun h => some (Classical.choose h)) (fun _ => none)
theorem shF_some {A : Nat → Int32} {b S o : Nat} {r : List Nat} (h : isSh A b S o r) : shF A b S o = some r := by
  unfold shF
  have hx : ∃ r, isSh A b S o r := ⟨r, h⟩
  rw [dif_pos hx]
  have hc := Classical.choose_spec hx
  congr 1
  exact bef_anti (hc.2 r h.1) (h.2 _ hc.1)
theorem shF_none {A : Nat → Int32} {b S o : Nat} (h : ∀ r, ¬ VS A b S o r) : shF A b S o = none := by
  unfold shF
  rw [dif_neg]
  rintro ⟨r, hr⟩
  exact h r hr.1
/-- the best of the seated rows so far -/
def BST (A : Nat → Int32) (b S : Nat) (dn : List (List Nat)) (best : Option (List Nat)) : Prop := match best with
  | none => ∀ v ∈ dn, seatL (wfb A b) S v = none
  | some t => (∃ v ∈ dn, seatL (wfb A b) S v = some t) ∧ ∀ v ∈ dn, ∀ t', seatL (wfb A b) S v = some t' → bef t t'
theorem BST_end {A : Nat → Int32} {b S o : Nat} {rows : List (List Nat)} (hr : ∀ v, v ∈ rows ↔ syA A v = some o ∧ v.length ≤ 5) {best : Option (List Nat)} (h : BST A b S rows best) : shF A b S o = best := by
  have hseat : ∀ r, VS A b S o r → ∃ t, seatL (wfb A b) S (r.map (wfb A b)) = some t ∧ bef t r := by
    rintro r ⟨h1, h2, h3, h4⟩
    obtain ⟨t, a1, a2⟩ := seat_least (wfb A b) _ S r rfl h2 h3
    have hl : t.length = r.length := by
      have := congrArg List.length (seat_ok (wfb A b) _ _ _ a1).1
      simpa using this
    exact ⟨t, a1, .inr ⟨hl, a2⟩⟩
  cases best with
  | none =>
    apply shF_none
    intro r hv
    obtain ⟨t, a1, _⟩ := hseat r hv
    rw [h _ ((hr _).mpr ⟨hv.2.2.2, by rw [List.length_map]; exact hv.1⟩)] at a1
    cases a1
  | some t =>
    obtain ⟨⟨v, hv, hs⟩, hall⟩ := h
    apply shF_some
    have ok := seat_ok (wfb A b) _ _ _ hs
    have hv2 := (hr v).mp hv
    refine ⟨⟨?_, ok.2.1, ok.2.2, by rw [ok.1]; exact hv2.1⟩, fun r' hr' => ?_⟩
    · have := congrArg List.length ok.1
      rw [List.length_map] at this
      omega
    · obtain ⟨t', a1, a2⟩ := hseat r' hr'
      exact bef_trans (hall _ ((hr _).mpr ⟨hr'.2.2.2, by rw [List.length_map]; exact hr'.1⟩) t' a1) a2
theorem BST_step {A : Nat → Int32} {b S : Nat} {dn : List (List Nat)} {best : Option (List Nat)} (h : BST A b S dn best) (v : List Nat) : BST A b S (dn ++ [v]) (match seatL (wfb A b) S v with
    | none => best
    | some t => match best with
      | none => some t
      | some b0 => @ite (Option (List Nat)) (bef b0 t) (Classical.propDecidable _) (some b0) (some t)) := by
  cases hs : seatL (wfb A b) S v with
  | none =>
    cases best with
    | none =>
      intro u hu
      rcases List.mem_append.mp hu with q | q
      · exact h u q
      · rw [List.mem_singleton.mp q]; exact hs
    | some b0 =>
      obtain ⟨⟨u, hu, hsu⟩, hall⟩ := h
      refine ⟨⟨u, by simp [hu], hsu⟩, fun u' hu' t' ht' => ?_⟩
      rcases List.mem_append.mp hu' with q | q
      · exact hall u' q t' ht'
      · rw [List.mem_singleton.mp q, hs] at ht'; cases ht'
  | some t =>
    cases best with
    | none =>
      refine ⟨⟨v, by simp, hs⟩, fun u' hu' t' ht' => ?_⟩
      rcases List.mem_append.mp hu' with q | q
      · rw [h u' q] at ht'; cases ht'
      · rw [List.mem_singleton.mp q, hs] at ht'; cases ht'; exact .inr ⟨rfl, lxle_refl _⟩
    | some b0 =>
      obtain ⟨⟨u, hu, hsu⟩, hall⟩ := h
      dsimp only
      by_cases q : bef b0 t
      · rw [if_pos q]
        refine ⟨⟨u, by simp [hu], hsu⟩, fun u' hu' t' ht' => ?_⟩
        rcases List.mem_append.mp hu' with z | z
        · exact hall u' z t' ht'
        · rw [List.mem_singleton.mp z, hs] at ht'; cases ht'; exact q
      · rw [if_neg q]
        refine ⟨⟨v, by simp, hs⟩, fun u' hu' t' ht' => ?_⟩
        rcases List.mem_append.mp hu' with z | z
        · exact bef_trans (bef_total q) (hall u' z t' ht')
        · rw [List.mem_singleton.mp z, hs] at ht'; cases ht'; exact .inr ⟨rfl, lxle_refl _⟩
