/-! run, of the reference. -/
section MR
variable {h0 h : pm_H} {r : Nat} {A B : Nat → Int32} {cls : List (List Nat × Option (List Nat))}
theorem FL.fm {h' : pm_H} (f : FL h h') : FM h h' := ⟨f.1, f.2.1, fun c hc => ⟨by rw [f.2.2.1], f.2.2.2 c (by omega)⟩, fun c _ => by rw [f.2.2.1], fun j _ => by rw [f.2.2.1]⟩
theorem FN.rm {h' : pm_H} (f : FN h h') (K : RM h r cls) : RM h' r cls := by
  obtain ⟨k1, k2, k3⟩ := K
  have c5 : h'.2.1 195 = h.2.1 195 := f.2.2.2.1 195 (by simp)
  have c7 : h'.2.1 197 = h.2.1 197 := f.2.2.2.1 197 (by simp)
  have c8 : h'.2.1 198 = h.2.1 198 := f.2.2.2.1 198 (by simp)
  refine ⟨by rw [c8]; exact k1, k2, fun k hk => ?_⟩
  have := k3 k hk
  unfold RM1 at this ⊢
  rw [c5, c7]
  exact this
theorem m_rouseW (M : MI h A) (f0 : FN h0 h) (K : RM h0 r cls) (ok : ∀ c ∈ cls, clOK c) (hr : r < 6) (x2 x3 : Int32) : SP (wh (fun z : (Int32 × pm_H) => m_run_58 193 (nI r) x2 x3 z.1 z.2) (nI 0, h)) (fun h' => MI h' (rnV cls (an A 1) A) ∧ FN h0 h') := by
  have w := M.2.2
  have e1 := w.e1
  refine wh_cnt (fun i z => z.1 = nI i ∧ MI z.2 (rnV cls i A) ∧ FN h0 z.2) _ (an A 1) ?_ ?_ 0 (nI 0, h) (by omega) ⟨rfl, M, f0⟩
  · rintro i ⟨y, h1⟩ hi ⟨hy, M1, f1⟩
    dsimp only at hy M1 f1
    subst hy
    have V1 := (VI.refl w).rn (cls := cls) i (by omega)
    have b1 := V1.e1
    have w1 := M1.2.2
    have e1' := w1.e1
    unfold m_run_58
    rw [ra_193_20 M1.1, Option.bind_some, mn_203, kc_i1, gi_n (by omega), nx_cl (by omega), M1.2.1, e1'.1]
    refine sp_pos (dec_t (by omega)) (sp_neg (by rw [nx_le (by omega) (by omega)]; omega) ?_)
    rw [m_isAlive_t w1 M1.1 M1.2.1 (by omega), Option.bind_some]
    by_cases dd : isDd (rnV cls i A) i = true
    · rw [dd]
      refine sp_neg (fun z => z rfl) ?_
      rw [nx_add, sp_some, rnV, if_pos dd]
      exact ⟨rfl, M1, f1⟩
    · have dd' : isDd (rnV cls i A) i = false := by simpa using dd
      rw [dd']
      refine sp_pos n10 (sp_call (m_words_n M1 (by omega)) ?_)
      rintro h2 ⟨f2, v2⟩
      have M2 := f2.mi M1
      have f02 := f1.trans f2.fm.fn
      rw [ra_193_20 M2.1, Option.bind_some]
      refine sp_call (m_summed_n (W := fun w => (WV (rnV cls i A) i w).toInt64) M2.1 (f02.rm K) ok hr v2) ?_
      rintro ⟨v, h3⟩ ⟨hv, f3⟩
      dsimp only at hv f3
      subst hv
      dsimp only
      have M3 := M2.fm f3.fm
      have f03 := f02.trans f3.fm.fn
      rw [kc_b_10, kc_b_6, kc_i2, ix_man (by omega) (by omega)]
      have go : ∀ z : Bool, z = posV (clV (fun w => (WV (rnV cls i A) i w).toInt64) cls) → SP (m_run_116 193 (nI r) x2 x3 (nI i) (nI z.toNat) (nI (10 + 6 * i + 2)) 203 h3) (fun q => match q with | .inl q => q.1 = nI (i + 1) ∧ MI q.2 (rnV cls (i + 1) A) ∧ FN h0 q.2 | .inr h' => MI h' (rnV cls (an A 1) A) ∧ FN h0 h') := by
        intro z hz
        unfold m_run_116
        rw [mn_203, gi_n (by omega), nx_cl (by omega)]
        refine sp_pos (dec_t (by omega)) ?_
        rw [sp_bd, sp_some, kc_i1, nx_add, rnV, if_neg dd, ← hz]
        exact ⟨rfl, ⟨M3.1.setI, set203 M3.2.1 _ _, (up2_wf w1 (by omega) z).2⟩, f03.trans (FN.set h3 _ _)⟩
      by_cases q : lg_cmp (clV (fun w => (WV (rnV cls i A) i w).toInt64) cls) (Int64.ofNat 0) ≤ 0
      · exact sp_pos q ((go false (by unfold posV; rw [dec_t q]; rfl)).mono (by rintro (q | q) hq <;> exact hq))
      · exact sp_neg q ((go true (by unfold posV; rw [dec_f q]; rfl)).mono (by rintro (q | q) hq <;> exact hq))
  · rintro ⟨y, h1⟩ ⟨hy, M1, f1⟩
    dsimp only at hy M1 f1
    subst hy
    have V1 := (VI.refl w).rn (cls := cls) (an A 1) (Nat.le_refl _)
    have b1 := V1.e1
    have e1' := M1.2.2.e1
    unfold m_run_58
    rw [ra_193_20 M1.1, Option.bind_some, mn_203, kc_i1, gi_n (by omega), nx_cl (by omega), M1.2.1, e1'.1]
    exact sp_pos (dec_t (by omega)) (sp_pos (by rw [nx_le (by omega) (by omega)]; omega) (sp_some.mpr ⟨M1, f1⟩))
theorem m_run_ok (M : MI h A) {R0 k : Nat} (hR : h.2.1 193 2 = nI R0) (hR6 : R0 ≤ 6) (ok : runOk A R0 r k) (K : RM h r cls) (okc : ∀ c ∈ cls, clOK c) : SP (m_run 193 (nI r) (nI k) h) (fun z => z.1 = nI (an A 4 + k) ∧ MI z.2 (rnH cls k A) ∧ FN (pm_setI h 193 28 (nI 0)) z.2) := by
  obtain ⟨s0, r0, k1, k2, k3⟩ := ok
  have w := M.2.2
  have e4 := w.e4
  unfold m_run
  rw [m_isShip_n M, Option.bind_some, dec_t s0]
  refine sp_neg n10 ?_
  have ir : m_isRule 193 (nI r) h = some (nI 1) := by
    unfold m_isRule
    rw [hR]
    exact (if_neg (by rw [kc_0, nx_lt (by omega) (by omega)]; omega)).trans ((if_neg (by rw [nx_le (by omega) (by omega)]; omega)).trans (by rw [kc_i1]))
  rw [ir, Option.bind_some]
  refine sp_neg n10 ?_
  rw [in_t h (lo := Int64.ofNat 1) (hi := 60) (a := 1) (n := 60) k1 k2 (by omega) rfl rfl, Option.bind_some]
  refine sp_neg n10 ?_
  rw [ra_193_20 M.1, Option.bind_some, mn_203, kc_i4, gi_n (by omega), nx_cl (by omega), M.2.1, e4.1, nx_add, kc_s_999]
  refine sp_pos (dec_t (by omega)) (sp_pos (by rw [nx_le (by omega) (by omega)]; omega) ?_)
  rw [sp_bd, kc_i0]
  have fi : FrM (fun _ => False) (· = 28) h (pm_setI h 193 28 (nI 0)) := (FrM.refl _ _ h).setF rfl
  have M0 : MI (pm_setI h 193 28 (nI 0)) A := ⟨M.1.setI, by rw [fi.i (by omega) id]; exact M.2.1, w⟩
  have K0 : RM (pm_setI h 193 28 (nI 0)) r cls := by
    obtain ⟨a1, a2, a3⟩ := K
    refine ⟨by rw [fi.i (by omega) id]; exact a1, a2, fun k hk => ?_⟩
    have := a3 k hk
    unfold RM1 at this ⊢
    rw [fi.i (c := 197) (by omega) id, fi.i (c := 195) (by omega) id]
    exact this
  generalize pm_setI h 193 28 (nI 0) = h1 at M0 K0 ⊢
  have key : SP (wh (fun z : (Int32 × pm_H) => m_run_50 193 (nI r) (nI k) z.1 z.2) (nI 0, h1)) (fun h' => MI h' (rnH cls k A) ∧ FN h1 h') := by
    refine wh_cnt (fun i z => z.1 = nI i ∧ MI z.2 (rnH cls i A) ∧ FN h1 z.2) _ k ?_ ?_ 0 (nI 0, h1) (by omega) ⟨rfl, M0, FN.refl h1⟩
    · rintro i ⟨y, h2⟩ hi ⟨hy, M2, f2⟩
      dsimp only at hy M2 f2
      subst hy
      have V2 := (VI.refl w).rnh (cls := cls) i (by omega)
      unfold m_run_50
      refine sp_neg (by rw [nx_le (by omega) (by omega)]; omega) ?_
      rw [kc_i0]
      refine sp_call (m_rouseW M2 f2 K0 okc (by omega) (nI k) (nI i)) ?_
      rintro h3 ⟨M3, f3⟩
      refine sp_call (m_passes_sp M3) ?_
      rintro h4 ⟨f4, e4'⟩
      have V3 := (V2.rn (cls := cls) (an A 1) (Nat.le_refl _)).ps (by omega)
      have V4 := V2.rnh (cls := cls) 0 (by omega)
      rw [kc_i1, nx_add, sp_some, rnH]
      refine ⟨rfl, ⟨M3.1.fm f4, e4', ?_⟩, f3.trans ⟨f4.1, f4.2.1, fun c hc => ⟨f4.i (by omega) (by omega), by rw [f4.2.2.1]⟩, fun c hc => ?_, fun j _ => f4.f id⟩⟩
      · rw [V2.e1]; exact V3.2.1
      · simp only [List.mem_cons, List.not_mem_nil, or_false] at hc
        exact f4.i (by omega) (by omega)
    · rintro ⟨y, h2⟩ ⟨hy, M2, f2⟩
      dsimp only at hy M2 f2
      subst hy
      unfold m_run_50
      exact sp_pos (by rw [nx_le (by omega) (by omega)]; omega) (sp_some.mpr ⟨M2, f2⟩)
  refine sp_call key ?_
  rintro h2 ⟨M2, f2⟩
  rw [ra_193_20 M2.1, Option.bind_some, mn_203, gi_n (by omega), M2.2.1, rnH_4 w]
  exact sp_pos (dec_t (by omega)) (sp_some.mpr ⟨rfl, M2, f2⟩)
theorem m_run_no (M : MI h A) {R0 : Nat} {x y : Int32} (hR : h.2.1 193 2 = nI R0) (hR6 : R0 ≤ 6) (no : ¬ ∃ r k, x = nI r ∧ y = nI k ∧ runOk A R0 r k) : m_run 193 x y h = some (ng 1, h) := by
  have w := M.2.2
  have e4 := w.e4
  unfold m_run
  rw [m_isShip_n M, Option.bind_some, kc_im1]
  by_cases s0 : 0 < an A 0
  · rw [dec_t s0]
    refine (if_neg n10).trans ?_
    unfold m_isRule
    rw [hR]
    by_cases x0 : x < nI 0
    · rw [show (if x < 0 then some (Int32.ofInt 0) else if nI R0 ≤ x then some (Int32.ofInt 0) else some (Int32.ofInt 1)) = some (nI 0) from (if_pos x0).trans (by rw [kc_i0]), Option.bind_some]
      exact if_pos rfl
    by_cases x1 : nI R0 ≤ x
    · rw [show (if x < 0 then some (Int32.ofInt 0) else if nI R0 ≤ x then some (Int32.ofInt 0) else some (Int32.ofInt 1)) = some (nI 0) from (if_neg x0).trans ((if_pos x1).trans (by rw [kc_i0])), Option.bind_some]
      exact if_pos rfl
    rw [show (if x < 0 then some (Int32.ofInt 0) else if nI R0 ≤ x then some (Int32.ofInt 0) else some (Int32.ofInt 1)) = some (nI 1) from (if_neg x0).trans ((if_neg x1).trans (by rw [kc_i1])), Option.bind_some]
    refine (if_neg n10).trans ?_
    have x2 : ∃ r, r < R0 ∧ x = nI r := by
      rcases ixx x (n := R0) (by omega) with q | q | q
      · exact (x0 q).elim
      · exact (x1 q).elim
      · exact q
    obtain ⟨r, hr, rfl⟩ := x2
    by_cases y1 : ¬ y < nI 1 ∧ ¬ nI 60 < y
    · obtain ⟨k, k1, k2, rfl⟩ := rng2 (by omega) (by omega) y1.1 y1.2
      rw [in_t h (lo := Int64.ofNat 1) (hi := 60) (a := 1) (n := 60) k1 k2 (by omega) rfl rfl, Option.bind_some]
      refine (if_neg n10).trans ?_
      rw [ra_193_20 M.1, Option.bind_some, mn_203, kc_i4, gi_n (by omega), nx_cl (by omega), M.2.1, e4.1, nx_add, kc_s_999]
      refine (if_pos (dec_t (by omega))).trans (if_neg ?_)
      rw [nx_le (by omega) (by omega)]
      exact fun z => no ⟨r, k, rfl, rfl, s0, hr, k1, k2, z⟩
    · rw [in_f h (lo := Int64.ofNat 1) (hi := 60) (a := 1) (n := 60) y1 rfl rfl, Option.bind_some]
      exact if_pos rfl
  · rw [dec_f s0]
    exact if_pos rfl
end MR
