/-! A hull that is not in use. -/
section FREE
variable {h : pm_H} {s q : Nat} {b : Nat → Bool} {S : Nat → Nat} {A : Nat → Int32}
def IMG (h : pm_H) (b : Nat → Bool) (S : Nat → Nat) : Prop := ∀ k, k < 4 → h.2.1 (173 + 5 * k) 6 = nI (b k).toNat ∧ (b k = true → h.2.2.2 (173 + 5 * k) 0 = some (S k) ∧ mi_o (S k) 7 = true)
def usd (s : Nat) (b : Nat → Bool) (S : Nat → Nat) (q : Nat) : Nat → Bool
  | 0 => decide (s = q)
  | i + 1 => usd s b S q i || (b i && decide (S i = q))
theorem usd_t : ∀ n, usd s b S q n = true → s = q ∨ ∃ k, k < n ∧ S k = q
  | 0, e => .inl (by unfold usd at e; simpa using e)
  | n + 1, e => by
    unfold usd at e
    rw [Bool.or_eq_true, Bool.and_eq_true, decide_eq_true_eq] at e
    rcases e with e | ⟨_, e⟩
    · rcases usd_t n e with r | ⟨k, k1, k2⟩
      · exact .inl r
      · exact .inr ⟨k, by omega, k2⟩
    · exact .inr ⟨n, by omega, e⟩
theorem usd_f : ∀ n, usd s b S q n = false → s ≠ q ∧ ∀ k, k < n → b k = true → S k ≠ q
  | 0, e => ⟨by unfold usd at e; simpa using e, fun k hk => by omega⟩
  | n + 1, e => by
    unfold usd at e
    rw [Bool.or_eq_false_iff] at e
    obtain ⟨r1, r2⟩ := usd_f n e.1
    refine ⟨r1, fun k hk hb => ?_⟩
    by_cases z : k = n
    · subst z
      have e2 := e.2
      rw [hb, Bool.true_and] at e2
      simpa using e2
    · exact r2 k (by omega) hb
theorem bz {x : Bool} : (¬ nI x.toNat = 0) = (x = true) := by
  cases x
  · exact propext ⟨fun z => (z rfl).elim, fun z => by cases z⟩
  · exact propext ⟨fun _ => rfl, fun _ => n10⟩
theorem x_inUse_n (R : RF h) (e0 : h.2.2.2 168 0 = some s) (hs : mi_o s 7 = true) (G : IMG h b S) : x_inUse 0 q h = some (nI (usd s b S q 4).toNat) := by
  have key : ∀ v : Int32, v = nI (usd s b S q 0).toNat → x_inUse_16 0 q v h = some (nI (usd s b S q 4).toNat) := by
    intro v hv
    unfold x_inUse_16
    have : wh (fun z : (Int32 × Int32) => x_inUse_19 0 q z.1 z.2 h) (v, Int32.ofInt 0) = some (nI (usd s b S q 4).toNat) := by
      rw [hv, kc_i0]
      refine wh_for (fun i => (nI (usd s b S q i).toNat, nI i)) 4 0 (by omega) (fun i _ hi => ?_) ?_
      · dsimp only
        obtain ⟨g1, g2⟩ := G i hi
        unfold x_inUse_19
        rw [ra_0_5 R, Option.bind_some, mn_5]
        refine (if_neg (by rw [kc_on, nx_le (by omega) (by omega)]; omega)).trans ?_
        have e1 : nI i + Int32.ofInt 1 = nI (i + 1) := by rw [kc_i1, nx_add]
        cases eu : usd s b S q i with
        | true =>
          refine (if_pos n10).trans ?_
          unfold x_inUse_57 x_inUse_62
          rw [e1, kc_i1]
          have : usd s b S q (i + 1) = true := by unfold usd; rw [eu]; rfl
          rw [this]
          rfl
        | false =>
          refine (if_neg (fun z => z rfl)).trans ?_
          rw [Option.bind_some, mn_5, gi_n (by omega), nx_cl (by omega), rg_images R hi]
          refine (if_pos (dec_t hi)).trans ?_
          rw [Option.bind_some, g1]
          cases eb : b i with
          | false =>
            refine (if_pos rfl).trans ?_
            unfold x_inUse_62
            rw [e1, kc_i0]
            have : usd s b S q (i + 1) = false := by unfold usd; rw [eu, eb]; rfl
            rw [this]
            rfl
          | true =>
            refine (if_neg n10).trans ?_
            rw [Option.bind_some, mn_5, gi_n (by omega)]
            refine (if_pos (dec_t hi)).trans ?_
            rw [rg_images R hi, Option.bind_some, gO_of (g2 eb).1 (g2 eb).2, Option.bind_some]
            by_cases z : S i = q
            · refine (if_neg (fun y => y z)).trans ?_
              unfold x_inUse_57 x_inUse_62
              rw [e1, kc_i1]
              have : usd s b S q (i + 1) = true := by unfold usd; rw [eu, eb, decide_eq_true z]; rfl
              rw [this]
              rfl
            · refine (if_pos z).trans ?_
              unfold x_inUse_62
              rw [e1, kc_i0]
              have : usd s b S q (i + 1) = false := by unfold usd; rw [eu, eb, decide_eq_false z]; rfl
              rw [this]
              rfl
      · dsimp only
        unfold x_inUse_19
        rw [ra_0_5 R, Option.bind_some, mn_5]
        exact if_pos (by rw [kc_on, nx_le (by omega) (by omega)]; omega)
    rw [this, Option.bind_some]
    refine if_pos ?_
    cases usd s b S q 4
    · exact mi_bo0
    · exact mi_bo1
  unfold x_inUse
  rw [ra_0_4 R, Option.bind_some, gO_of e0 hs, Option.bind_some]
  by_cases z : s = q
  · refine (if_neg (fun y => y z)).trans (key _ ?_)
    unfold usd
    rw [decide_eq_true z, kc_i1]
    rfl
  · refine (if_pos z).trans (key _ ?_)
    unfold usd
    rw [decide_eq_false z, kc_i0]
    rfl
def frh (u : Nat → Bool) : Nat → Nat
  | 0 => 0
  | i + 1 => if u i = true then frh u i else i
theorem frh_lt (u : Nat → Bool) : ∀ n, 0 < n → frh u n < n
  | 0, z => by omega
  | n + 1, _ => by
    unfold frh
    split
    · rcases Nat.eq_zero_or_pos n with z | z
      · subst z; unfold frh; omega
      · have := frh_lt u n z; omega
    · omega
theorem frh_u (u : Nat → Bool) : ∀ n, (∃ i, i < n ∧ u i = false) → u (frh u n) = false
  | 0, ⟨i, h, _⟩ => by omega
  | n + 1, ⟨i, h1, h2⟩ => by
    unfold frh
    split
    · rename_i e
      refine frh_u u n ⟨i, ?_, h2⟩
      apply Classical.byContradiction
      intro z
      have : i = n := by omega
      rw [this] at h2
      rw [h2] at e
      cases e
    · rename_i e
      simpa using e
theorem x_freeHull_n (R : RF h) (e0 : h.2.2.2 168 0 = some s) (hs : mi_o s 7 = true) (G : IMG h b S) : ∃ q, x_freeHull 0 h = some q ∧ mi_o q 7 = true ∧ s ≠ q ∧ ∀ k, k < 4 → b k = true → S k ≠ q := by
  have lt := frh_lt (fun i => usd s b S (108 + 10 * i) 4) 6 (by omega)
  have hu : usd s b S (108 + 10 * frh (fun i => usd s b S (108 + 10 * i) 4) 6) 4 = false := by
    refine frh_u (fun i => usd s b S (108 + 10 * i) 4) 6 ?_
    apply Classical.byContradiction
    intro z
    have al : ∀ i, i < 6 → 108 + 10 * i ∈ [s, S 0, S 1, S 2, S 3] := by
      intro i hi
      have ut : usd s b S (108 + 10 * i) 4 = true := by
        cases e : usd s b S (108 + 10 * i) 4 with
        | true => rfl
        | false => exact (z ⟨i, hi, e⟩).elim
      rcases usd_t 4 ut with r | ⟨k, k1, k2⟩
      · rw [← r]; simp
      · rw [← k2]
        have : k = 0 ∨ k = 1 ∨ k = 2 ∨ k = 3 := by omega
        rcases this with rfl | rfl | rfl | rfl <;> simp
    have nd : [108, 118, 128, 138, 148, 158].Nodup := by decide
    have sb : [108, 118, 128, 138, 148, 158] ⊆ [s, S 0, S 1, S 2, S 3] := by
      intro x hx
      have : x = 108 + 10 * 0 ∨ x = 108 + 10 * 1 ∨ x = 108 + 10 * 2 ∨ x = 108 + 10 * 3 ∨ x = 108 + 10 * 4 ∨ x = 108 + 10 * 5 := by simpa using hx
      rcases this with rfl | rfl | rfl | rfl | rfl | rfl <;> exact al _ (by omega)
    have := nd.length_le_of_subset sb
    have : 6 ≤ 5 := this
    omega
  refine ⟨108 + 10 * frh (fun i => usd s b S (108 + 10 * i) 4) 6, ?_, ro_hulls lt, (usd_f 4 hu).1, (usd_f 4 hu).2⟩
  unfold x_freeHull
  have : wh (fun z : (Int32 × Int32) => x_freeHull_4 0 z.1 z.2 h) (Int32.ofInt 0, Int32.ofInt 0) = some (nI (frh (fun i => usd s b S (108 + 10 * i) 4) 6)) := by
    rw [kc_i0]
    refine wh_for (fun i => (nI (frh (fun i => usd s b S (108 + 10 * i) 4) i), nI i)) 6 0 (by omega) (fun i _ hi => ?_) ?_
    · dsimp only
      unfold x_freeHull_4
      rw [ra_0_3 R, Option.bind_some, mn_4]
      refine (if_neg (by rw [kc_on, nx_le (by omega) (by omega)]; omega)).trans ?_
      rw [Option.bind_some, mn_4, gi_n (by omega), nx_cl (by omega), rg_hulls R hi]
      refine (if_pos (dec_t hi)).trans ?_
      rw [Option.bind_some, x_inUse_n R e0 hs G, Option.bind_some]
      have e1 : nI i + Int32.ofInt 1 = nI (i + 1) := by rw [kc_i1, nx_add]
      rw [e1]
      cases eu : usd s b S (108 + 10 * i) 4 with
      | true =>
        refine (if_pos n10).trans ?_
        have : frh (fun i => usd s b S (108 + 10 * i) 4) (i + 1) = frh (fun i => usd s b S (108 + 10 * i) 4) i := if_pos eu
        rw [this]
      | false =>
        refine (if_neg (fun z => z rfl)).trans ?_
        have : frh (fun i => usd s b S (108 + 10 * i) 4) (i + 1) = i := if_neg (by dsimp only; rw [eu]; decide)
        rw [this]
    · dsimp only
      unfold x_freeHull_4
      rw [ra_0_3 R, Option.bind_some, mn_4]
      exact if_pos (by rw [kc_on, nx_le (by omega) (by omega)]; omega)
  rw [this, Option.bind_some, ra_0_3 R, Option.bind_some, mn_4, gi_n (by omega), nx_cl (by omega), rg_hulls R lt]
  refine (if_pos (dec_t lt)).trans ?_
  rw [Option.bind_some]
end FREE
