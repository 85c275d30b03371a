/-! Rules: what the letters stand for, of the reference. -/
section MVL
variable {h : pm_H} {m : Nat} {A : Nat → Int32}
theorem m_need_n (M : MI h A) {x : Nat} (hx : x < 10) : m_needOfWord 193 (nI x) h = some (nI (gnN A x (an A 2))) := by
  obtain ⟨R, hA, w⟩ := M
  have e2 := w.e2
  unfold m_needOfWord
  have key : wh (fun z : (Int32 × Int32) => m_needOfWord_4 193 (nI x) z.1 z.2 h) (Int32.ofInt 0, Int32.ofInt 0) = some (nI (gnN A x (an A 2))) := by
    rw [kc_i0]
    refine wh_for (fun i => (nI (gnN A x i), nI i)) (an A 2) 0 (by omega) (fun o _ ho => ?_) ?_
    · dsimp only
      have gl := gnN_lt w x o (by omega)
      have o0 := w.o0 ho
      have o1 := w.o1 ho
      have inner : wh (fun z : (Int32 × Int32) => m_needOfWord_20 193 (nI x) (nI (gnN A x o)) (nI o) z.1 z.2 h) (nI 0, nI 0) = some (nI (decide (x ∈ tl (fun i => an A (58 + 6 * o + 2 + i)) (an A (58 + 6 * o + 1)))).toNat) := by
        refine wh_for (fun i => (nI (decide (x ∈ tl (fun i => an A (58 + 6 * o + 2 + i)) i)).toNat, nI i)) (an A (58 + 6 * o + 1)) 0 (by omega) (fun i _ hi => ?_) ?_
        · dsimp only
          have o2 := w.o2 ho hi
          have e0 := w.e0
          unfold m_needOfWord_20 m_needOfWord_49 m_needOfWord_54
          rw [kc_i1, kc_i2, m_orderOf_n R hA (by omega), Option.bind_some, o1.1]
          refine (if_neg (by rw [nx_le (by omega) (by omega)]; omega)).trans ?_
          rw [tl_snoc]
          by_cases q : x ∈ tl (fun i => an A (58 + 6 * o + 2 + i)) i
          · rw [dec_t q, dec_t (List.mem_append.mpr (.inl q))]
            refine (if_pos (by decide)).trans ?_
            rw [nx_add]
            rfl
          · rw [dec_f q]
            refine (if_neg (fun z => z rfl)).trans ?_
            rw [nx_add, m_orderOf_n R hA (by omega), Option.bind_some, ← Nat.add_assoc, o2.1]
            by_cases q2 : an A (58 + 6 * o + 2 + i) = x
            · rw [dec_t (List.mem_append.mpr (.inr (by rw [q2]; simp)))]
              refine (if_neg (by rw [nx_eq (by omega) (by omega)]; exact fun z => z q2)).trans ?_
              rw [nx_add]
              rfl
            · rw [dec_f (fun z => by
                rcases List.mem_append.mp z with z | z
                · exact q z
                · exact q2 (List.mem_singleton.mp z).symm)]
              refine (if_pos (by rw [nx_eq (by omega) (by omega)]; exact q2)).trans ?_
              rw [kc_i0, nx_add]
              rfl
        · dsimp only
          unfold m_needOfWord_20
          rw [kc_i1, m_orderOf_n R hA (by omega), Option.bind_some, o1.1]
          exact if_pos (by rw [nx_le (by omega) (by omega)]; omega)
      unfold m_needOfWord_4 m_needOfWord_87
      rw [ra_193_20 R, Option.bind_some, mn_203, kc_i2, gi_n (by omega), nx_cl (by omega), hA, e2.1]
      refine (if_pos (dec_t (by omega))).trans ((if_neg (by rw [nx_le (by omega) (by omega)]; omega)).trans ?_)
      rw [kc_i0, inner, Option.bind_some, m_orderOf_n R hA (by omega), Option.bind_some, kc_i1, nx_add, gnN, show 58 + 6 * o + 0 = 58 + 6 * o from rfl, o0.1]
      by_cases q : x ∈ rowL A o
      · have q' : x ∈ tl (fun i => an A (58 + 6 * o + 2 + i)) (an A (58 + 6 * o + 1)) := q
        rw [dec_t q']
        refine (if_neg (by decide)).trans ?_
        by_cases q2 : gnN A x o < an A (58 + 6 * o)
        · refine (if_neg (by rw [nx_le (by omega) (by omega)]; omega)).trans ?_
          rw [Option.bind_some, if_pos ⟨q, q2⟩]
        · refine (if_pos (by rw [nx_le (by omega) (by omega)]; omega)).trans ?_
          rw [if_neg (fun z => q2 z.2)]
      · have q' : ¬ x ∈ tl (fun i => an A (58 + 6 * o + 2 + i)) (an A (58 + 6 * o + 1)) := q
        rw [dec_f q']
        refine (if_pos rfl).trans ?_
        rw [if_neg (fun z => q z.1)]
    · dsimp only
      unfold m_needOfWord_4
      rw [ra_193_20 R, Option.bind_some, mn_203, kc_i2, gi_n (by omega), nx_cl (by omega), hA, e2.1]
      exact (if_pos (dec_t (by omega))).trans (if_pos (by rw [nx_le (by omega) (by omega)]; omega))
  rw [key, Option.bind_some]
theorem m_same_n (M : MI h A) (hm : m < an A 1) : wh (fun z : (Int32 × Int32 × pm_H) => m_words_4 193 (nI m) z.1 z.2.1 z.2.2) (nI 0, nI 0, h) = some (nI (smN A m (an A 1)), h) := by
  obtain ⟨R, hA, w⟩ := M
  have e1 := w.e1
  refine wh_for (fun i => (nI (smN A m i), nI i, h)) (an A 1) 0 (by omega) (fun i _ hi => ?_) ?_
  · dsimp only
    unfold m_words_4 m_words_48
    rw [ra_193_20 R, Option.bind_some, mn_203, kc_i1, gi_n (by omega), nx_cl (by omega), hA, e1.1]
    refine (if_pos (dec_t (by omega))).trans ((if_neg (by rw [nx_le (by omega) (by omega)]; omega)).trans ?_)
    rw [smN, nx_add, kc_i0]
    by_cases q : i = m
    · refine (if_pos (by rw [q])).trans ?_
      rw [nx_add, if_neg (fun z => z.1 q)]
    · refine (if_neg (by rw [nx_eq (by omega) (by omega)]; exact q)).trans ?_
      rw [m_isAlive_t w R hA hi, Option.bind_some]
      cases dd : isDd A i with
      | true =>
        refine (if_pos rfl).trans ?_
        rw [nx_add, if_neg (fun z => by cases z.2.1)]
      | false =>
        refine (if_neg (by decide)).trans ?_
        rw [m_manOf_n R hA (by omega), Option.bind_some, m_manOf_n R hA (by omega), Option.bind_some, Nat.add_zero, Nat.add_zero]
        by_cases q2 : A (10 + 6 * i) = A (10 + 6 * m)
        · refine (if_neg (fun z => z q2)).trans ?_
          rw [nx_add, if_pos ⟨q, rfl, q2⟩]
        · refine (if_pos q2).trans ?_
          rw [nx_add, if_neg (fun z => q2 z.2.2)]
  · dsimp only
    unfold m_words_4
    rw [ra_193_20 R, Option.bind_some, mn_203, kc_i1, gi_n (by omega), nx_cl (by omega), hA, e1.1]
    exact (if_pos (dec_t (by omega))).trans (if_pos (by rw [nx_le (by omega) (by omega)]; omega))
/-- only the row of letters' values -/
def FL (h h' : pm_H) : Prop := h'.1 = h.1 ∧ h'.2.2.2 = h.2.2.2 ∧ h'.2.1 = h.2.1 ∧ ∀ c, c ≠ 202 → h'.2.2.1 c = h.2.2.1 c
theorem FL.rf {h' : pm_H} (f : FL h h') (R : RF h) : RF h' := fun q hq => by rw [f.2.1]; exact R q hq
theorem FL.mi {h' : pm_H} (f : FL h h') (M : MI h A) : MI h' A := ⟨f.rf M.1, by rw [f.2.2.1]; exact M.2.1, M.2.2⟩
theorem mw_step {h1 : pm_H} {V : Nat → Int64} {k : Nat} {v : Int64} (f : FL h h1) (c : ∀ j, j < k → h1.2.2.1 202 j = V j) (hv : v = V k) : FL h (pm_setL h1 202 k v) ∧ ∀ j, j < k + 1 → (pm_setL h1 202 k v).2.2.1 202 j = V j := by
  refine ⟨⟨f.1, f.2.1, f.2.2.1, fun d hd => by rw [← f.2.2.2 d hd]; funext j; exact rl_c v hd⟩, fun j hj => ?_⟩
  by_cases q : j = k
  · rw [q, rl_s, hv]
  · rw [rl_j _ q]
    exact c j (by omega)
theorem m_words_n (M : MI h A) (hm : m < an A 1) : SP (m_words 193 (nI m) h) (fun h' => FL h h' ∧ ∀ k, k < 11 → h'.2.2.1 202 k = (WV A m k).toInt64) := by
  have w := M.2.2
  have e1 := w.e1
  have e0 := w.e0
  have b9 := bs9 w (isAw A)
  have al9 : alvN A < 256 := bs9 w _
  have hm0 := w.m0 hm
  have hs : sd (bs (isAw A) (an A 1)) (2 ^ m) < 2 ^ 8 := sd_lt _ (by omega)
  unfold m_words
  rw [kc_i0, m_same_n M hm, Option.bind_some]
  dsimp only
  rw [ra_193_19 M.1, Option.bind_some, mn_202, gi_n (by omega), nx_cl (by omega)]
  refine sp_pos (dec_t (by omega)) ?_
  rw [sp_bd]
  have F0 : FL h h := ⟨rfl, rfl, rfl, fun _ _ => rfl⟩
  have T1 := mw_step (V := fun k => (WV A m k).toInt64) (k := 0) (v := (nI m).toInt64) F0 (fun j hj => by omega) rfl
  generalize pm_setL h 202 0 (nI m).toInt64 = h1 at T1 ⊢
  have M1 := T1.1.mi M
  rw [ra_193_19 M1.1, Option.bind_some, m_manOf_n M1.1 M1.2.1 (by omega), Option.bind_some, mn_202, kc_i1, gi_n (by omega), nx_cl (by omega), Nat.add_zero]
  refine sp_pos (dec_t (by omega)) ?_
  rw [sp_bd]
  have T2 := mw_step (k := 1) (v := (A (10 + 6 * m)).toInt64) T1.1 T1.2 rfl
  generalize pm_setL h1 202 1 (A (10 + 6 * m)).toInt64 = h2 at T2 ⊢
  have M2 := T2.1.mi M
  rw [ra_193_19 M2.1, Option.bind_some, m_manOf_n M2.1 M2.2.1 (by omega), Option.bind_some, mn_202, kc_i2, gi_n (by omega), nx_cl (by omega)]
  refine sp_pos (dec_t (by omega)) ?_
  rw [sp_bd]
  have T3 := mw_step (k := 2) (v := (A (10 + 6 * m + 1)).toInt64) T2.1 T2.2 rfl
  generalize pm_setL h2 202 2 (A (10 + 6 * m + 1)).toInt64 = h3 at T3 ⊢
  have M3 := T3.1.mi M
  rw [ra_193_19 M3.1, Option.bind_some, ra_193_20 M3.1, Option.bind_some, mn_203, mn_202, kc_i4, kc_i3, gi_n (by omega), gi_n (by omega), nx_cl (by omega), nx_cl (by omega), M3.2.1]
  refine sp_pos (dec_t (by omega)) (sp_pos (dec_t (by omega)) ?_)
  rw [sp_bd]
  have T4 := mw_step (k := 3) (v := (A 4).toInt64) T3.1 T3.2 rfl
  generalize pm_setL h3 202 3 (A 4).toInt64 = h4 at T4 ⊢
  have M4 := T4.1.mi M
  rw [ra_193_19 M4.1, Option.bind_some, ra_193_20 M4.1, Option.bind_some, mn_203, mn_202, kc_i5, gi_n (by omega), gi_n (by omega), nx_cl (by omega), M4.2.1]
  refine sp_pos (dec_t (by omega)) (sp_pos (dec_t (by omega)) ?_)
  rw [sp_bd]
  have T5 := mw_step (k := 4) (v := (A 5).toInt64) T4.1 T4.2 rfl
  generalize pm_setL h4 202 4 (A 5).toInt64 = h5 at T5 ⊢
  have M5 := T5.1.mi M
  rw [ra_193_19 M5.1, Option.bind_some, m_awakeSet_n w M5.1 M5.2.1, Option.bind_some, nx_shl1 (by omega), kc_im1, nx_andn, m_bits_n h5 (by omega), Option.bind_some, mn_202, gi_n (by omega)]
  refine sp_pos (dec_t (by omega)) ?_
  rw [sp_bd]
  have T6 := mw_step (k := 5) (v := (nI (pc (sd (bs (isAw A) (an A 1)) (2 ^ m)))).toInt64) T5.1 T5.2 rfl
  generalize pm_setL h5 202 5 (nI (pc (sd (bs (isAw A) (an A 1)) (2 ^ m)))).toInt64 = h6 at T6 ⊢
  have M6 := T6.1.mi M
  rw [ra_193_19 M6.1, Option.bind_some, m_manOf_n M6.1 M6.2.1 (by omega), Option.bind_some, mn_202, kc_b_6, gi_n (by omega), nx_cl (by omega)]
  refine sp_pos (dec_t (by omega)) ?_
  rw [sp_bd]
  have T7 := mw_step (k := 6) (v := (A (10 + 6 * m + 3)).toInt64) T6.1 T6.2 rfl
  generalize pm_setL h6 202 6 (A (10 + 6 * m + 3)).toInt64 = h7 at T7 ⊢
  have M7 := T7.1.mi M
  rw [ra_193_19 M7.1, Option.bind_some, m_manOf_n M7.1 M7.2.1 (by omega), Option.bind_some, mn_202, kc_b_7, gi_n (by omega), nx_cl (by omega)]
  refine sp_pos (dec_t (by omega)) ?_
  rw [sp_bd]
  have T8 := mw_step (k := 7) (v := (A (10 + 6 * m + 5)).toInt64) T7.1 T7.2 rfl
  generalize pm_setL h7 202 7 (A (10 + 6 * m + 5)).toInt64 = h8 at T8 ⊢
  have M8 := T8.1.mi M
  rw [ra_193_19 M8.1, Option.bind_some, mn_202, kc_b_8, gi_n (by omega), nx_cl (by omega)]
  refine sp_pos (dec_t (by omega)) ?_
  rw [sp_bd]
  have T9 := mw_step (k := 8) (v := (nI (smN A m (an A 1))).toInt64) T8.1 T8.2 rfl
  generalize pm_setL h8 202 8 (nI (smN A m (an A 1))).toInt64 = h9 at T9 ⊢
  have M9 := T9.1.mi M
  rw [ra_193_19 M9.1, Option.bind_some, m_manOf_n M9.1 M9.2.1 (by omega), Option.bind_some, Nat.add_zero, hm0.1, m_need_n M9 (by omega), Option.bind_some, mn_202, kc_b_9, gi_n (by omega), nx_cl (by omega)]
  refine sp_pos (dec_t (by omega)) ?_
  rw [sp_bd]
  have T10 := mw_step (k := 9) (v := (nI (gnN A (an A (10 + 6 * m)) (an A 2))).toInt64) T9.1 T9.2 rfl
  generalize pm_setL h9 202 9 (nI (gnN A (an A (10 + 6 * m)) (an A 2))).toInt64 = h10 at T10 ⊢
  have M10 := T10.1.mi M
  rw [ra_193_19 M10.1, Option.bind_some, m_aliveSet_n w M10.1 M10.2.1, Option.bind_some, m_bits_n h10 (by omega), Option.bind_some, mn_202, kc_b_10, gi_n (by omega), nx_cl (by omega)]
  refine sp_pos (dec_t (by omega)) ?_
  rw [sp_bd, sp_some]
  exact mw_step (k := 10) (v := (nI (pc (alvN A))).toInt64) T10.1 T10.2 rfl
end MVL
