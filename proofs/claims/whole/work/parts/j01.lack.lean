/-! What a row lacks: bags of words. -/
theorem sub_cnt (f : Nat → Nat) (x : Nat) : ∀ (a L : List Nat), a.Nodup → (∀ m ∈ a, m ∈ L) → (a.map f).count x ≤ (L.map f).count x
  | [], _, _, _ => by simp
  | m :: a, L, hn, h => by
    have hm : m ∈ L := h m (by simp)
    have hp : L.Perm (m :: L.erase m) := List.perm_cons_erase hm
    have hn' := List.nodup_cons.mp hn
    have ih := sub_cnt f x a (L.erase m) hn'.2 (fun y hy => by
      have hne : y ≠ m := fun q => hn'.1 (q ▸ hy)
      exact (List.mem_erase_of_ne hne).mpr (h y (by simp [hy])))
    rw [(hp.map f).count_eq x, List.map_cons, List.map_cons, List.count_cons, List.count_cons]
    omega
theorem seat_cnt (f : Nat → Nat) : ∀ (v L : List Nat), L.Nodup → (∀ x, v.count x ≤ (L.map f).count x) → ∃ p : List Nat, p.Nodup ∧ (∀ m ∈ p, m ∈ L) ∧ p.map f = v
  | [], _, _, _ => ⟨[], by simp, by simp, rfl⟩
  | y :: v, L, hn, h => by
    have hy := h y
    rw [List.count_cons_self] at hy
    have hy2 : y ∈ L.map f := List.count_pos_iff.mp (by omega)
    obtain ⟨m, hm, e⟩ := List.mem_map.mp hy2
    subst e
    have hp : L.Perm (m :: L.erase m) := List.perm_cons_erase hm
    have hn2 : (m :: L.erase m).Nodup := hp.nodup_iff.mp hn
    have hn' := List.nodup_cons.mp hn2
    obtain ⟨p, p1, p2, p3⟩ := seat_cnt f v (L.erase m) hn'.2 (fun x => by
      have hx := h x
      rw [(hp.map f).count_eq x, List.map_cons, List.count_cons, List.count_cons] at hx
      omega)
    refine ⟨m :: p, List.nodup_cons.mpr ⟨fun q => hn'.1 (p2 m q), p1⟩, fun z hz => ?_, by rw [List.map_cons, p3]⟩
    rcases List.mem_cons.mp hz with rfl | hz
    · exact hm
    · exact List.mem_of_mem_erase (p2 z hz)
/-- the words that are wanting: those of v beyond S -/
def cnP (v : Nat → Nat) : Nat → Nat → Nat
  | 0, _ => 0
  | i + 1, w => cnP v i w + if v i = w then 1 else 0
def msP (S v : Nat → Nat) : Nat → List Nat
  | 0 => []
  | i + 1 => if S (v i) ≤ cnP v i (v i) then msP S v i ++ [v i] else msP S v i
theorem msP_cnt (S v : Nat → Nat) (w : Nat) : ∀ i, (msP S v i).count w = cnP v i w - S w
  | 0 => by simp [msP, cnP]
  | i + 1 => by
    have ih := msP_cnt S v w i
    rw [msP, cnP]
    by_cases q : v i = w
    · rw [if_pos q]
      by_cases q2 : S (v i) ≤ cnP v i (v i)
      · rw [if_pos q2, List.count_append, ih, q, List.count_singleton_self]
        rw [q] at q2
        omega
      · rw [if_neg q2, ih]
        rw [q] at q2
        omega
    · rw [if_neg q]
      by_cases q2 : S (v i) ≤ cnP v i (v i)
      · rw [if_pos q2, List.count_append, ih]
        have : [v i].count w = 0 := by rw [List.count_eq_zero]; simp; exact fun e => q e.symm
        omega
      · rw [if_neg q2, ih]
        omega
theorem msP_mem (S v : Nat → Nat) : ∀ i x, x ∈ msP S v i → ∃ j, j < i ∧ v j = x
  | 0, x, h => by cases h
  | i + 1, x, h => by
    rw [msP] at h
    split at h
    · rcases List.mem_append.mp h with q | q
      · obtain ⟨j, h1, h2⟩ := msP_mem S v i x q
        exact ⟨j, by omega, h2⟩
      · simp at q; exact ⟨i, by omega, q.symm⟩
    · obtain ⟨j, h1, h2⟩ := msP_mem S v i x h
      exact ⟨j, by omega, h2⟩
theorem cnP_list (l : List Nat) (w : Nat) : cnP (fun i => l.getD i 0) l.length w = l.count w := by
  have key : ∀ i, i ≤ l.length → cnP (fun i => l.getD i 0) i w = (l.take i).count w := by
    intro i
    induction i with
    | zero => intro _; simp [cnP]
    | succ i ih =>
      intro hi
      rw [cnP, ih (by omega), List.take_succ_eq_append_getElem (by omega), List.count_append]
      have e : l.getD i 0 = l[i] := by rw [List.getD_eq_getElem?_getD, List.getElem?_eq_getElem (by omega)]; rfl
      rw [e]
      by_cases q : l[i] = w
      · rw [if_pos q, q, List.count_singleton_self]
      · rw [if_neg q, List.count_eq_zero.mpr (fun e => q (List.mem_singleton.mp e).symm)]
  rw [key _ (Nat.le_refl _), List.take_length]
/-- what l lacks beside S -/
def lkL (S : Nat → Nat) (l : List Nat) : List Nat := msP S (fun i => l.getD i 0) l.length
theorem lkL_cnt (S : Nat → Nat) (l : List Nat) (w : Nat) : (lkL S l).count w = l.count w - S w := by
  unfold lkL
  rw [msP_cnt, cnP_list]
theorem lkL_mem {S : Nat → Nat} {l : List Nat} {x : Nat} (h : x ∈ lkL S l) : x ∈ l := by
  have h1 : 0 < (lkL S l).count x := List.count_pos_iff.mpr h
  rw [lkL_cnt] at h1
  exact List.count_pos_iff.mp (by omega)
/-- lacks in a row: none, one, two, more -/
def lkK : List Nat → Nat
  | [] => 0
  | [a] => 10 + a
  | [a, b] => 100 + 10 * min a b + max a b
  | _ => 1000
theorem cnt_len : ∀ (a b : List Nat), (∀ x, a.count x ≤ b.count x) → a.length ≤ b.length ∧ (a.length = b.length → a.Perm b)
  | [], b, _ => ⟨by simp, fun h => by rw [List.eq_nil_of_length_eq_zero h.symm]⟩
  | y :: a, b, h => by
    have hy := h y
    rw [List.count_cons_self] at hy
    have hm : y ∈ b := List.count_pos_iff.mp (by omega)
    have hp : b.Perm (y :: b.erase y) := List.perm_cons_erase hm
    have ih := cnt_len a (b.erase y) (fun x => by
      have hx := h x
      rw [hp.count_eq x, List.count_cons, List.count_cons] at hx
      omega)
    have hl := hp.length_eq
    rw [List.length_cons] at hl
    refine ⟨by rw [List.length_cons]; omega, fun e => ?_⟩
    rw [List.length_cons] at e
    exact ((ih.2 (by omega)).cons y).trans hp.symm
theorem lkK_perm {a b : List Nat} (h : a.Perm b) : lkK a = lkK b := by
  have hl := h.length_eq
  match a, b, hl, h with
  | [], [], _, _ => rfl
  | [x], [y], _, h => rw [List.singleton_perm_singleton.mp h]
  | [x, x'], [y, y'], _, h =>
    have hx : x ∈ [y, y'] := h.subset (by simp)
    have hx' : x' ∈ [y, y'] := h.subset (by simp)
    have hy : y ∈ [x, x'] := h.symm.subset (by simp)
    have hy' : y' ∈ [x, x'] := h.symm.subset (by simp)
    simp only [List.mem_cons, List.not_mem_nil, or_false] at hx hx' hy hy'
    show 100 + 10 * min x x' + max x x' = 100 + 10 * min y y' + max y y'
    omega
  | _ :: _ :: _ :: _, _ :: _ :: _ :: _, _, _ => rfl
theorem cnt_diff : ∀ (E v : List Nat), (∀ x, E.count x ≤ v.count x) → ∃ v' : List Nat, v.Perm (E ++ v')
  | [], v, _ => ⟨v, List.Perm.refl _⟩
  | y :: E, v, h => by
    have hy := h y
    rw [List.count_cons_self] at hy
    have hm : y ∈ v := List.count_pos_iff.mp (by omega)
    have hp : v.Perm (y :: v.erase y) := List.perm_cons_erase hm
    obtain ⟨v', h'⟩ := cnt_diff E (v.erase y) (fun x => by
      have hx := h x
      rw [hp.count_eq x, List.count_cons, List.count_cons] at hx
      omega)
    exact ⟨v', hp.trans (h'.cons y)⟩
theorem mstep_back (mn : Nat → Nat → Option Nat) {W : Nat} (hW : ∀ a b c, mn a b = some c → a < W ∧ b < W) : ∀ {l l' : List Nat}, mstep mn l = some l' → (∀ x ∈ l', x < W) → ∀ x ∈ l, x < W
  | [], _, h, _ => by cases h
  | [_], _, h, _ => by cases h
  | a :: b :: l, l', h, hl => by
    rw [mstep] at h
    split at h
    · rename_i c hc
      cases h
      intro x hx
      rcases List.mem_cons.mp hx with rfl | hx
      · exact (hW _ _ _ hc).1
      · rcases List.mem_cons.mp hx with rfl | hx
        · exact (hW _ _ _ hc).2
        · exact hl x (by simp [hx])
    · cases hm : mstep mn (b :: l) with
      | none => rw [hm] at h; cases h
      | some q =>
        rw [hm] at h
        cases h
        intro x hx
        rcases List.mem_cons.mp hx with rfl | hx
        · exact hl x (by simp)
        · exact mstep_back mn hW hm (fun y hy => hl y (List.mem_cons_of_mem _ hy)) x hx
theorem mset_back (mn : Nat → Nat → Option Nat) {W : Nat} (hW : ∀ a b c, mn a b = some c → a < W ∧ b < W) : ∀ (n : Nat) (l : List Nat), (∀ x ∈ mset mn n l, x < W) → ∀ x ∈ l, x < W
  | 0, l, h => h
  | n + 1, l, h => by
    rw [mset] at h
    cases hm : mstep mn l with
    | none => rw [hm] at h; exact h
    | some l' =>
      rw [hm] at h
      exact mstep_back mn hW hm (mset_back mn hW n l' h)
section LW
variable {A : Nat → Int32} {o : Nat}
/-- the rows of words that mean an order -/
def isRw (A : Nat → Int32) (o : Nat) (v : List Nat) : Prop := syA A v = some o ∧ v.length ≤ 5
theorem isRw_lt (w : WFA A) {v : List Nat} (h : isRw A o v) : (∀ x ∈ v, x < an A 0) ∧ 0 < v.length := by
  have h1 := h.1
  unfold syA ordOf at h1
  have ho : o < an A 2 := List.mem_range.mp (List.mem_of_find?_eq_some h1)
  have h2 : meaning (mnA A) v = rowL A o := by
    have := List.find?_some h1
    exact (eq_of_beq this).symm
  have hr : ∀ x ∈ rowL A o, x < an A 0 := by
    intro x hx
    obtain ⟨i, hi, rfl⟩ := tl_mem.mp hx
    exact (w.o2 ho hi).2
  constructor
  · unfold meaning at h2
    refine mset_back (mnA A) (fun a b c q => ⟨(w.mn_lt q).2.1, (w.mn_lt q).2.2⟩) v.length v ?_
    rw [h2]
    exact hr
  · have l1 := w.o1p ho
    have l2 : (rowL A o).length = an A (58 + 6 * o + 1) := tl_len _ _
    have l3 := (mean_len (mnA A) v).1
    rw [h2] at l3
    omega
/-- the words of those who are heard, as a bag -/
def spw (A : Nat → Int32) (x : Nat) : Nat := ((elems (hrdN A) 9).map (wm A)).count x
def exM (E : List Nat) : List Nat := (List.range E.length).map (fun i => 9 + i)
def wE (A : Nat → Int32) (E : List Nat) (m : Nat) : Nat := if m < 9 then wm A m else E.getD (m - 9) 0
/-- some of those who are heard can say the order with all of the words E besides -/
def canE (A : Nat → Int32) (o : Nat) (E : List Nat) : Prop := ∃ r : List Nat, 0 < r.length ∧ r.length ≤ 5 ∧ r.Nodup ∧ (∀ m ∈ r, (hrdN A ||| setOf (exM E)).testBit m = true) ∧ VR A (wE A E) (setOf (exM E)) o r
theorem exM_map (E : List Nat) : (exM E).map (wE A E) = E := by
  have : (exM E).map (wE A E) = tl (fun i => E.getD i 0) E.length := by
    unfold exM tl
    rw [List.map_map]
    refine List.map_congr_left (fun i hi => ?_)
    show wE A E (9 + i) = _
    unfold wE
    rw [if_neg (by omega), Nat.add_sub_cancel_left]
  rw [this, tl_of]
theorem exM_mem {E : List Nat} {m : Nat} : m ∈ exM E ↔ 9 ≤ m ∧ m < 9 + E.length := by
  unfold exM
  rw [List.mem_map]
  constructor
  · rintro ⟨i, hi, rfl⟩
    have := List.mem_range.mp hi
    omega
  · rintro ⟨h1, h2⟩
    exact ⟨m - 9, List.mem_range.mpr (by omega), by omega⟩
theorem exM_nodup (E : List Nat) : (exM E).Nodup := by
  unfold exM
  rw [List.nodup_iff_pairwise_ne, List.pairwise_map]
  exact List.nodup_range.imp (fun h q => h (by omega))
theorem hrd_mem (w : WFA A) {m : Nat} : m ∈ elems (hrdN A) 9 ↔ (hrdN A).testBit m = true := by
  rw [elems_mem]
  constructor
  · exact fun q => q.2
  · intro q
    have e1 := w.e1
    rcases hrd_al w q with q1 | q1
    · exact ⟨by omega, q⟩
    · exact ⟨by omega, q⟩
theorem elems_wE (E : List Nat) : (elems (hrdN A) 9).map (wE A E) = (elems (hrdN A) 9).map (wm A) := by
  refine List.map_congr_left (fun m hm => ?_)
  unfold wE
  rw [if_pos (elems_mem.mp hm).1]
theorem canE_wit (w : WFA A) (E : List Nat) : canE A o E ↔ ∃ v, isRw A o v ∧ ∀ x, v.count x ≤ spw A x + E.count x ∧ E.count x ≤ v.count x := by
  constructor
  · rintro ⟨r, r0, r5, rn, rm, rs, ry⟩
    refine ⟨r.map (wE A E), ⟨ry, by rw [List.length_map]; exact r5⟩, fun x => ⟨?_, ?_⟩⟩
    · have := sub_cnt (wE A E) x r (elems (hrdN A) 9 ++ exM E) rn (fun m hm => by
        have q := rm m hm
        rw [Nat.testBit_or, Bool.or_eq_true, setOf_bit, decide_eq_true_eq] at q
        rw [List.mem_append, hrd_mem w]
        exact q)
      rw [List.map_append, List.count_append, elems_wE, exM_map] at this
      exact this
    · have := sub_cnt (wE A E) x (exM E) r (exM_nodup E) (fun m hm => by
        have q := rs m (by rw [setOf_bit]; exact decide_eq_true hm)
        rw [setOf_bit, decide_eq_true_eq] at q
        exact q)
      rw [exM_map] at this
      exact this
  · rintro ⟨v, hv, hc⟩
    obtain ⟨v', hp⟩ := cnt_diff E v (fun x => (hc x).2)
    obtain ⟨p, pn, pm, pe⟩ := seat_cnt (wm A) v' (elems (hrdN A) 9) (elems_nodup _ _) (fun x => by
      have h1 := (hc x).1
      have h2 := hp.count_eq x
      rw [List.count_append] at h2
      unfold spw at h1
      omega)
    have qe : (exM E ++ p).map (wE A E) = E ++ v' := by
      rw [List.map_append, exM_map, ← pe]
      congr 1
      refine List.map_congr_left (fun m hm => ?_)
      unfold wE
      rw [if_pos (elems_mem.mp (pm m hm)).1]
    have qn : (exM E ++ p).Nodup := by
      rw [List.nodup_append]
      refine ⟨exM_nodup E, pn, fun a ha b hb q => ?_⟩
      have h1 := exM_mem.mp ha
      have h2 := (elems_mem.mp (pm b hb)).1
      omega
    obtain ⟨r, rp, re⟩ := perm_lift (wE A E) hp.symm _ qe
    have rl : r.length = v.length := by rw [← re, List.length_map]
    have h0 := (isRw_lt w hv).2
    refine ⟨r, by omega, by rw [rl]; exact hv.2, rp.nodup_iff.mpr qn, fun m hm => ?_, ?_, by rw [re]; exact hv.1⟩
    · have q := rp.mem_iff.mp hm
      rw [Nat.testBit_or, Bool.or_eq_true, setOf_bit, decide_eq_true_eq]
      rcases List.mem_append.mp q with q | q
      · exact .inr q
      · exact .inl ((hrd_mem w).mp (pm m q))
    · intro i hi
      rw [setOf_bit, decide_eq_true_eq] at hi ⊢
      exact rp.mem_iff.mpr (List.mem_append.mpr (.inl hi))
theorem canE_iff (w : WFA A) (E : List Nat) (hmin : ∀ v, isRw A o v → E.length ≤ (lkL (spw A) v).length) : canE A o E ↔ ∃ v, isRw A o v ∧ (lkL (spw A) v).Perm E := by
  rw [canE_wit w]
  constructor
  · rintro ⟨v, hv, hc⟩
    have h1 := cnt_len (lkL (spw A) v) E (fun x => by
      have := hc x
      rw [lkL_cnt]
      omega)
    exact ⟨v, hv, h1.2 (Nat.le_antisymm h1.1 (hmin v hv))⟩
  · rintro ⟨v, hv, hp⟩
    refine ⟨v, hv, fun x => ?_⟩
    have := hp.count_eq x
    rw [lkL_cnt] at this
    omega
/-- the least that an order lacks -/
def LK (A : Nat → Int32) (o K : Nat) : Prop := K ≤ 1000 ∧ (∀ v, isRw A o v → K ≤ lkK (lkL (spw A) v)) ∧ (K = 1000 ∨ ∃ v, isRw A o v ∧ lkK (lkL (spw A) v) = K)
theorem LK_eq {K K' : Nat} (h : LK A o K) (h' : LK A o K') : K = K' := by
  have one : ∀ {K K' : Nat}, LK A o K → LK A o K' → K ≤ K' := by
    intro K K' h h'
    rcases h'.2.2 with q | ⟨v, hv, q⟩
    · rw [q]; exact h.1
    · rw [← q]; exact h.2.1 v hv
  exact Nat.le_antisymm (one h h') (one h' h)
noncomputable def lkN (A : Nat → Int32) (o : Nat) : Nat := @dite Nat (∃ K, LK A o K) (Classical.propDecidable _) (fun h => h.choose) (fun _ => 1000)
theorem lkN_of {K : Nat} (h : LK A o K) : lkN A o = K := by
  have e : ∃ K, LK A o K := ⟨K, h⟩
  unfold lkN
  rw [dif_pos e]
  exact LK_eq e.choose_spec h
end LW
