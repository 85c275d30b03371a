/-! lacks, of the program: what a row lacks. -/
def spC (A : Nat → Int32) : Nat → Nat → Nat
  | 0, _ => 0
  | i + 1, x => spC A i x + if (hrdN A).testBit i = true ∧ wm A i = x then 1 else 0
theorem spC_9 (A : Nat → Int32) (x : Nat) : spC A 9 x = spw A x := by
  have key : ∀ i, spC A i x = ((elems (hrdN A) i).map (wm A)).count x := by
    intro i
    induction i with
    | zero => rfl
    | succ i ih =>
      have e : elems (hrdN A) (i + 1) = elems (hrdN A) i ++ if (hrdN A).testBit i = true then [i] else [] := by
        unfold elems
        rw [List.range_succ, List.filter_append]
        by_cases q : (hrdN A).testBit i = true <;> simp [q]
      rw [spC, ih, e, List.map_append, List.count_append]
      by_cases q : (hrdN A).testBit i = true
      · rw [if_pos q]
        by_cases q2 : wm A i = x
        · rw [if_pos ⟨q, q2⟩, ← q2]
          simp
        · rw [if_neg (fun z => q2 z.2)]
          have : (List.map (wm A) [i]).count x = 0 := List.count_eq_zero.mpr (fun z => q2 (by
            obtain ⟨i', h1, h2⟩ := List.mem_map.mp z
            rw [List.mem_singleton.mp h1] at h2
            exact h2))
          omega
      · rw [if_neg q, if_neg (fun z => q z.1)]
        simp
  exact key 9
theorem spC_men {A : Nat → Int32} (w : WFA A) (x : Nat) : spC A 8 x = spC A (an A 1) x := by
  have e1 := w.e1
  have key : ∀ d, an A 1 + d ≤ 8 → spC A (an A 1 + d) x = spC A (an A 1) x := by
    intro d
    induction d with
    | zero => intro _; rfl
    | succ d ih =>
      intro hd
      rw [← Nat.add_assoc, spC, ih (by omega), if_neg]
      · rfl
      · rintro ⟨q, _⟩
        rcases hrd_al w q with q1 | q1 <;> omega
  have := key (8 - an A 1) (by omega)
  rw [show an A 1 + (8 - an A 1) = 8 from by omega] at this
  exact this
def SPR (h : pm_H) (S : Nat → Nat) : Prop := ∀ x, x < 10 → h.2.1 83 x = nI (S x)
/-- a minus c, as a number that may be below 0 -/
def sv (a c : Nat) : Int32 := if c ≤ a then nI (a - c) else ng (c - a)
theorem sv_dec {a c : Nat} (ha : a < 1000) (hc : c < 1000) : sv a c + ng 1 = sv a (c + 1) := by
  unfold sv
  by_cases q : c + 1 ≤ a
  · rw [if_pos (by omega), if_pos q, nx_dec (by omega) (by omega), show a - c - 1 = a - (c + 1) from by omega]
  · rw [if_neg q]
    by_cases q2 : c ≤ a
    · rw [if_pos q2, show a - c = 0 from by omega, show c + 1 - a = 1 from by omega]
      decide
    · rw [if_neg q2]
      apply Int32.toInt_inj.1
      rw [Int32.toInt_add, ng_toInt (by omega), ng_toInt (by omega), ng_toInt (by omega), nx_bm (by omega) (by omega)]
      omega
theorem sv_neg {a c : Nat} (ha : a < 1000) (hc : c < 1000) : (nI 0 ≤ sv a c) = (c ≤ a) := by
  unfold sv
  by_cases q : c ≤ a
  · rw [if_pos q, nx_le (by omega) (by omega)]
    simp [q]
  · rw [if_neg q, n_le_ng (by omega) (by omega) (by omega)]
    simp [q]
/-- the lack M as the program counts it -/
def TR (M : List Nat) (n f s : Int32) : Prop := n = nI M.length ∧ (M = [] → f = ng 2 ∧ s = ng 2) ∧ (∀ a, M = [a] → f = nI a ∧ s = ng 2) ∧ ∀ a b, M = [a, b] → f = nI (min a b) ∧ s = nI (max a b)
theorem TR.step {M : List Nat} {n f s : Int32} {x : Nat} (T : TR M n f s) (hM : ∀ a ∈ M, a < 10) (hx : x < 10) : TR (M ++ [x]) (n + nI 1) (if M = [] then nI x else if nI x < f then nI x else f) (if M = [] then ng 2 else if f < nI x then nI x else f) := by
  obtain ⟨t1, t2, t3, t4⟩ := T
  refine ⟨by rw [t1, nx_add, List.length_append, List.length_singleton], fun q => by simp at q, fun a q => ?_, fun a b q => ?_⟩
  · have : M = [] := by
      cases M with
      | nil => rfl
      | cons y M => simp at q
    subst this
    rw [List.nil_append] at q
    cases q
    rw [if_pos rfl, if_pos rfl]
    exact ⟨rfl, rfl⟩
  · have : M = [a] ∧ x = b := by
      match M, q with
      | [], q => simp at q
      | [y], q => simp at q; exact ⟨by rw [q.1], q.2⟩
      | y :: z :: M, q => simp at q
    obtain ⟨rfl, rfl⟩ := this
    have ha := hM a (by simp)
    have e := (t3 a rfl).1
    rw [if_neg (show ¬ [a] = ([] : List Nat) by simp), if_neg (show ¬ [a] = ([] : List Nat) by simp), e]
    constructor
    · by_cases q : x < a
      · rw [if_pos (by rw [nx_lt (by omega) (by omega)]; exact q), Nat.min_eq_right (by omega)]
      · rw [if_neg (by rw [nx_lt (by omega) (by omega)]; exact q), Nat.min_eq_left (by omega)]
    · by_cases q : a < x
      · rw [if_pos (by rw [nx_lt (by omega) (by omega)]; exact q), Nat.max_eq_right (by omega)]
      · rw [if_neg (by rw [nx_lt (by omega) (by omega)]; exact q), Nat.max_eq_left (by omega)]
/-- the best lack so far, as the program holds it -/
def BK (h : pm_H) (K : Nat) : Prop := (K = 1000 ∧ h.2.1 68 5 = nI 3) ∨ (K = 0 ∧ h.2.1 68 5 = nI 0 ∧ h.2.1 68 6 = ng 2 ∧ h.2.1 68 7 = ng 2) ∨ (∃ a, a < 10 ∧ K = 10 + a ∧ h.2.1 68 5 = nI 1 ∧ h.2.1 68 6 = nI a ∧ h.2.1 68 7 = ng 2) ∨ ∃ a b, a ≤ b ∧ b < 10 ∧ K = 100 + 10 * a + b ∧ h.2.1 68 5 = nI 2 ∧ h.2.1 68 6 = nI a ∧ h.2.1 68 7 = nI b
theorem BK.fr {h h' : pm_H} {K : Nat} (B : BK h K) (e : h'.2.1 68 = h.2.1 68) : BK h' K := by
  unfold BK at B ⊢
  rw [e]
  exact B
theorem tl_127 (h : pm_H) (n f s z : Int32) : a_tryLack_127 68 n f s z h = a_tryLack_158 68 n f s z (nI (decide (f < h.2.1 68 6 ∨ (f = h.2.1 68 6 ∧ ¬ h.2.1 68 7 ≤ s))).toNat) h := by
  unfold a_tryLack_127 a_tryLack_153
  simp only [kc_im8, kc_im1, kc_i0, kc_i1, kc_i2, kc_i3, kc_i4, kc_i5, kc_b_m100, kc_b_m16, kc_b_m15, kc_b_m14, kc_b_m13, kc_b_m12, kc_b_m11, kc_b_m2, kc_b_6, kc_b_7, kc_b_8, kc_b_9, kc_b_10, kc_b_11, kc_b_12, kc_b_13, kc_b_14, kc_b_15, kc_b_16, kc_b_20, kc_b_24, kc_b_32, kc_b_37, kc_b_40, kc_b_42, kc_b_43, kc_b_45, kc_b_47, kc_b_48, kc_b_57, kc_b_58, kc_b_59, kc_b_60, kc_b_61, kc_b_62, kc_b_63, kc_b_91, kc_b_93, kc_b_97, kc_b_99, kc_b_100, kc_b_106, kc_b_122, kc_s_206, kc_s_226, kc_s_227, kc_s_255, kc_s_256, kc_s_316, kc_s_318, kc_s_400, kc_s_512, kc_s_999, kc_s_1160, kc_s_1536, kc_s_3003, kc_lm11, kc_lm10, kc_lm9, kc_lm8, kc_lm7, kc_lm6, kc_lm5, kc_lm4, kc_lm3, kc_lm2, kc_lm1, kc_l1, kc_l2, kc_l3, kc_l4, kc_l5, kc_l6, kc_l7, kc_l8, kc_l9, kc_l10, kc_l11, kc_l12, kc_l13, kc_l14, kc_l37, kc_l42, kc_l43, kc_l45, kc_l47, kc_l60, kc_l61, kc_l62, kc_l316, kc_l318, kc_l65536, kc_l99999, kc_l1000000, kc_l252645135, kc_l858993459, kc_l1431655765, kc_0, kc_on]
  by_cases q1 : f < h.2.1 68 6
  · rw [if_pos q1, dec_t (.inl q1)]
    rfl
  · rw [if_neg q1]
    by_cases q2 : f = h.2.1 68 6
    · rw [if_neg (fun z => z q2)]
      by_cases q3 : h.2.1 68 7 ≤ s
      · rw [if_pos q3, dec_f (by rintro (z | z); exact q1 z; exact z.2 q3)]
        rfl
      · rw [if_neg q3, dec_t (.inr ⟨q2, q3⟩)]
        rfl
    · rw [if_pos q2, dec_f (by rintro (z | z); exact q1 z; exact q2 z.1)]
      rfl
/-- whether it is taken -/
def lkC (h : pm_H) (n f s : Int32) : Prop := n < h.2.1 68 5 ∨ (n = h.2.1 68 5 ∧ ¬ nI 2 < n ∧ (f < h.2.1 68 6 ∨ (f = h.2.1 68 6 ∧ ¬ h.2.1 68 7 ≤ s)))
theorem t_tail {h : pm_H} {n f s : Int32} : (lkC h n f s → (if ¬ n = h.2.1 68 5 then a_tryLack_127 68 n f s (nI 0) h else if nI 2 < n then a_tryLack_127 68 n f s (nI 0) h else a_tryLack_127 68 n f s (nI 1) h) = a_tryLack_178 68 n f s h) ∧ (¬ lkC h n f s → (if ¬ n = h.2.1 68 5 then a_tryLack_127 68 n f s (nI 0) h else if nI 2 < n then a_tryLack_127 68 n f s (nI 0) h else a_tryLack_127 68 n f s (nI 1) h) = some h) := by
  simp only [tl_127]
  have k0 : ∀ z : Int32, ¬ n < h.2.1 68 5 → a_tryLack_158 68 n f s (nI 0) z h = some h := by
    intro z q
    unfold a_tryLack_158
    rw [if_neg q]
    exact if_pos rfl
  have k1 : ∀ (y z : Int32), n < h.2.1 68 5 → a_tryLack_158 68 n f s y z h = a_tryLack_178 68 n f s h := by
    intro y z q
    unfold a_tryLack_158
    exact if_pos q
  constructor
  · rintro (q | ⟨q1, q2, q3⟩)
    · simp only [k1 _ _ q, ite_self]
    · rw [if_neg (fun z => z q1), if_neg q2, dec_t q3]
      unfold a_tryLack_158
      by_cases q : n < h.2.1 68 5
      · exact if_pos q
      · rw [if_neg q]
        exact (if_neg (by exact n10)).trans (if_neg (by exact n10))
  · intro q
    have q0 : ¬ n < h.2.1 68 5 := fun z => q (.inl z)
    by_cases q1 : n = h.2.1 68 5
    · rw [if_neg (fun z => z q1)]
      by_cases q2 : nI 2 < n
      · rw [if_pos q2, k0 _ q0]
      · rw [if_neg q2, dec_f (fun z => q (.inr ⟨q1, q2, z⟩))]
        unfold a_tryLack_158
        rw [if_neg q0]
        exact (if_neg (by exact n10)).trans (if_pos rfl)
    · rw [if_pos q1, k0 _ q0]
theorem lkC_iff {h : pm_H} {M : List Nat} {n f s : Int32} {K : Nat} (B : BK h K) (T : TR M n f s) (hM : ∀ a ∈ M, a < 10) (hl : M.length ≤ 5) : lkC h n f s ↔ lkK M < K := by
  obtain ⟨t1, t2, t3, t4⟩ := T
  unfold lkC
  have hM3 : M = [] ∨ (∃ a, M = [a]) ∨ (∃ a b, M = [a, b]) ∨ 3 ≤ M.length := by
    match M with
    | [] => exact .inl rfl
    | [a] => exact .inr (.inl ⟨a, rfl⟩)
    | [a, b] => exact .inr (.inr (.inl ⟨a, b, rfl⟩))
    | _ :: _ :: _ :: l => exact .inr (.inr (.inr (by simp)))
  have key : ∀ c : Nat, c < 10 → ((n < nI c) = (M.length < c)) ∧ ((n = nI c) = (M.length = c)) ∧ ((nI 2 < n) = (2 < M.length)) := by
    intro c hc
    rw [t1]
    exact ⟨nx_lt (by omega) (by omega), nx_eq (by omega) (by omega), nx_lt (by omega) (by omega)⟩
  rcases B with ⟨rfl, b5⟩ | ⟨rfl, b5, b6, b7⟩ | ⟨a, a1, rfl, b5, b6, b7⟩ | ⟨a, b, ab, b1, rfl, b5, b6, b7⟩
  · rw [b5, (key 3 (by omega)).1, (key 3 (by omega)).2.1, (key 3 (by omega)).2.2]
    rcases hM3 with rfl | ⟨c, rfl⟩ | ⟨c, d, rfl⟩ | q
    · simp [lkK] <;> omega
    · have := hM c (by simp)
      simp [lkK]
      omega
    · have := hM c (by simp)
      have := hM d (by simp)
      simp [lkK]
      omega
    · rw [lkK_ge q]
      constructor
      · rintro (z | z) <;> omega
      · intro z; omega
  · rw [b5, b6, b7, (key 0 (by omega)).1, (key 0 (by omega)).2.1, (key 0 (by omega)).2.2]
    constructor
    · rintro (z | ⟨z1, _, z2⟩)
      · omega
      · have e := List.eq_nil_of_length_eq_zero z1
        obtain ⟨e1, e2⟩ := t2 e
        rw [e1, e2] at z2
        exfalso
        revert z2
        decide
    · intro z; omega
  · rw [b5, b6, b7, (key 1 (by omega)).1, (key 1 (by omega)).2.1, (key 1 (by omega)).2.2]
    rcases hM3 with rfl | ⟨c, rfl⟩ | ⟨c, d, rfl⟩ | q
    · simp [lkK] <;> omega
    · have hc := hM c (by simp)
      obtain ⟨e1, e2⟩ := t3 c rfl
      rw [e1, e2, nx_lt (by omega) (by omega), nx_eq (by omega) (by omega)]
      show _ ↔ 10 + c < 10 + a
      have e3 : ng 2 ≤ ng 2 := by decide
      constructor
      · rintro (z | ⟨_, _, z | z⟩)
        · simp at z
        · omega
        · exact (z.2 e3).elim
      · intro z
        exact .inr ⟨rfl, by simp, .inl (by omega)⟩
    · show _ ↔ 100 + 10 * min c d + max c d < 10 + a
      constructor
      · rintro (z | z)
        · simp at z
        · have := z.1; simp at this
      · intro z; omega
    · rw [lkK_ge q]
      constructor
      · rintro (z | z) <;> omega
      · intro z; omega
  · rw [b5, b6, b7, (key 2 (by omega)).1, (key 2 (by omega)).2.1, (key 2 (by omega)).2.2]
    rcases hM3 with rfl | ⟨c, rfl⟩ | ⟨c, d, rfl⟩ | q
    · simp [lkK] <;> omega
    · have := hM c (by simp)
      simp [lkK]
      omega
    · have hc := hM c (by simp)
      have hd := hM d (by simp)
      obtain ⟨e1, e2⟩ := t4 c d rfl
      rw [e1, e2, nx_lt (by omega) (by omega), nx_eq (by omega) (by omega), nx_le (by omega) (by omega)]
      show _ ↔ 100 + 10 * min c d + max c d < 100 + 10 * a + b
      constructor
      · rintro (z | ⟨_, _, z | z⟩)
        · simp at z
        · omega
        · omega
      · intro z
        refine .inr ⟨rfl, by simp, ?_⟩
        omega
    · rw [lkK_ge q]
      constructor
      · rintro (z | z) <;> omega
      · intro z; omega
theorem BK_take {h : pm_H} {M : List Nat} {n f s : Int32} {K : Nat} (B : BK h K) (hK : lkK M < K) (T : TR M n f s) (hM : ∀ a ∈ M, a < 10) : SP (a_tryLack_178 68 n f s h) (fun h' => Fr (· = 68) h h' ∧ BK h' (lkK M)) := by
  have hK2 : lkK M < 1000 := by
    rcases B with ⟨rfl, _⟩ | ⟨rfl, _⟩ | ⟨a, a1, rfl, _⟩ | ⟨a, b, ab, b1, rfl, _⟩ <;> omega
  obtain ⟨t1, t2, t3, t4⟩ := T
  unfold a_tryLack_178
  rw [sp_bd, sp_bd, sp_bd, sp_some]
  refine ⟨(((Fr.refl (· = 68) h).setI (a := 68) rfl).setI (a := 68) rfl).setI (a := 68) rfl, ?_⟩
  have c5 : (pm_setI (pm_setI (pm_setI h 68 5 n) 68 6 f) 68 7 s).2.1 68 5 = n := by rw [ri_j _ (by omega), ri_j _ (by omega), ri_s]
  have c6 : (pm_setI (pm_setI (pm_setI h 68 5 n) 68 6 f) 68 7 s).2.1 68 6 = f := by rw [ri_j _ (by omega), ri_s]
  have c7 : (pm_setI (pm_setI (pm_setI h 68 5 n) 68 6 f) 68 7 s).2.1 68 7 = s := ri_s _
  unfold BK
  rw [c5, c6, c7]
  match M, hM, hK2, t1, t2, t3, t4 with
  | [], _, _, t1, t2, _, _ => exact .inr (.inl ⟨rfl, t1, (t2 rfl).1, (t2 rfl).2⟩)
  | [a], hM, _, t1, _, t3, _ => exact .inr (.inr (.inl ⟨a, hM a (by simp), rfl, t1, (t3 a rfl).1, (t3 a rfl).2⟩))
  | [a, b], hM, _, t1, _, _, t4 =>
    have ha := hM a (by simp)
    have hb := hM b (by simp)
    exact .inr (.inr (.inr ⟨min a b, max a b, by omega, by omega, rfl, t1, (t4 a b rfl).1, (t4 a b rfl).2⟩))
  | _ :: _ :: _ :: _, _, hK2, _, _, _, _ => exact absurd hK2 (by show ¬ 1000 < 1000; omega)
