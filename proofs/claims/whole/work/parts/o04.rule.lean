/-! Rules: clauses, of the program and of the reference. -/
def clOK (c : List Nat × Option (List Nat)) : Prop := tys c.1 [] = some [false] ∧ (∀ t ∈ c.1, t < 2147483648) ∧ npu c.1 ≤ 60 ∧ ∀ l, c.2 = some l → tys l [] = some [true] ∧ (∀ t ∈ l, t < 2147483648) ∧ npu c.1 + npu l ≤ 60
def cod (c : List Nat × Option (List Nat)) : List Int32 := c.1.map tkc ++ (match c.2 with
  | none => [ng 15]
  | some l => l.map tkc ++ [ng 16])
def cods : List (List Nat × Option (List Nat)) → List Int32
  | [] => []
  | c :: l => cod c ++ cods l
def clV (W : Nat → Int64) : List (List Nat × Option (List Nat)) → Int64
  | [] => 0
  | (sm, none) :: _ => evV W sm
  | (sm, some l) :: r => if evV W l = 1 then evV W sm else clV W r
def RC (h : pm_H) (u : Nat) (cls : List (List Nat × Option (List Nat))) : Prop := h.2.1 u 1 = nI (cods cls).length ∧ (cods cls).length ≤ 412 ∧ ∀ j, j < (cods cls).length → h.2.1 (u + 1) j = (cods cls).getD j 0
def teL (c : List Nat × Option (List Nat)) : List Nat := c.2.getD []
def RM1 (h : pm_H) (r k : Nat) (c : List Nat × Option (List Nat)) : Prop := ∃ b, b + c.1.length + (teL c).length ≤ 400 ∧ h.2.1 197 (48 * r + 4 * k) = nI b ∧ h.2.1 197 (48 * r + 4 * k + 1) = nI (b + c.1.length) ∧ h.2.1 197 (48 * r + 4 * k + 2) = (match c.2 with
  | none => ng 1
  | some _ => nI (b + c.1.length)) ∧ h.2.1 197 (48 * r + 4 * k + 3) = nI (b + c.1.length + (teL c).length) ∧ (∀ j, j < c.1.length → h.2.1 195 (400 * r + (b + j)) = nI (c.1.getD j 0)) ∧ ∀ j, j < (teL c).length → h.2.1 195 (400 * r + (b + c.1.length + j)) = nI ((teL c).getD j 0)
def RM (h : pm_H) (r : Nat) (cls : List (List Nat × Option (List Nat))) : Prop := h.2.1 198 r = nI cls.length ∧ cls.length ≤ 12 ∧ ∀ k, k < cls.length → RM1 h r k (cls.getD k ([], none))
/-! more below on the stack -/
theorem ty1_ext {t : Nat} {ts tf : List Bool} (e : List Bool) (h : ty1 t ts = some tf) : ty1 t (ts ++ e) = some (tf ++ e) := by
  unfold ty1 at h ⊢
  by_cases q0 : t % 16 = 0
  · rw [if_pos q0] at h ⊢
    split at h
    · rename_i q
      cases h
      rw [if_pos q]
      rfl
    · cases h
  rw [if_neg q0] at h ⊢
  by_cases q1 : t % 16 = 1
  · rw [if_pos q1] at h ⊢
    split at h
    · rename_i q
      cases h
      rw [if_pos q]
      rfl
    · cases h
  rw [if_neg q1] at h ⊢
  by_cases q2 : t % 16 = 11
  · rw [if_pos q2] at h ⊢
    match ts, h with
    | true :: rs, h => cases h; rfl
  rw [if_neg q2] at h ⊢
  by_cases q3 : t % 16 = 12 ∨ t % 16 = 13
  · rw [if_pos q3] at h ⊢
    match ts, h with
    | true :: true :: rs, h => cases h; rfl
  rw [if_neg q3] at h ⊢
  by_cases q4 : 6 ≤ t % 16 ∧ t % 16 ≤ 10
  · rw [if_pos q4] at h ⊢
    match ts, h with
    | false :: false :: rs, h => cases h; rfl
  rw [if_neg q4] at h ⊢
  by_cases q5 : t % 16 = 15
  · rw [if_pos q5] at h
    cases h
  rw [if_neg q5] at h ⊢
  match ts, h with
  | false :: false :: rs, h => cases h; rfl
theorem tys_ext (e : List Bool) : ∀ (l : List Nat) (ts tf : List Bool), tys l ts = some tf → tys l (ts ++ e) = some (tf ++ e)
  | [], ts, tf, h => by cases h; rfl
  | t :: l, ts, tf, h => by
    rw [tys] at h ⊢
    cases e1 : ty1 t ts with
    | none => rw [e1] at h; cases h
    | some t1 =>
      rw [e1] at h
      rw [ty1_ext e e1]
      exact tys_ext e l t1 tf h
theorem ev1_ext {t : Nat} {ts tf : List Bool} {st : List Int64} (e : List Int64) (h : ty1 t ts = some tf) (c : CM st ts) (W : Nat → Int64) : ev1 W t (st ++ e) = ev1 W t st ++ e := by
  rcases ty1_cases h c W with ⟨q, v1, rfl, e1⟩ | ⟨q, v1, rfl, e1⟩ | ⟨q, x, r', rs, rfl, rfl, rfl, hx, hc, e1⟩ | ⟨q, x, y, r', b, b', rs, rfl, rfl, rfl, hc, hb, e1⟩
  · rw [e1]; unfold ev1; rw [if_pos q]; rfl
  · rw [e1]; unfold ev1; rw [if_neg (by omega), if_pos q]; rfl
  · rw [e1]; unfold ev1; rw [if_neg (by omega), if_neg (by omega), if_pos q]; rfl
  · rw [e1]; unfold isOp at q; unfold ev1; rw [if_neg (by omega), if_neg (by omega), if_neg (by omega)]; rfl
theorem evs_ext (e : List Int64) (W : Nat → Int64) : ∀ (l : List Nat) (ts tf : List Bool) (st : List Int64), tys l ts = some tf → CM st ts → evs W l (st ++ e) = evs W l st ++ e
  | [], ts, tf, st, h, c => rfl
  | t :: l, ts, tf, st, h, c => by
    rw [tys] at h
    cases e1 : ty1 t ts with
    | none => rw [e1] at h; cases h
    | some t1 =>
      rw [e1] at h
      rw [evs, evs, ev1_ext e e1 c W]
      exact evs_ext e W l t1 tf (ev1 W t st) h (ev1_cm e1 c W)
theorem evs_cm (W : Nat → Int64) : ∀ (l : List Nat) (ts tf : List Bool) (st : List Int64), tys l ts = some tf → CM st ts → CM (evs W l st) tf
  | [], ts, tf, st, h, c => by cases h; exact c
  | t :: l, ts, tf, st, h, c => by
    rw [tys] at h
    cases e1 : ty1 t ts with
    | none => rw [e1] at h; cases h
    | some t1 =>
      rw [e1] at h
      rw [evs]
      exact evs_cm W l t1 tf (ev1 W t st) h (ev1_cm e1 c W)
theorem evs_one {W : Nat → Int64} {l : List Nat} {k : Bool} (h : tys l [] = some [k]) : evs W l [] = [evV W l] ∧ (k = true → evV W l = 0 ∨ evV W l = 1) := by
  have c := evs_cm W l [] [k] [] h trivial
  unfold evV
  generalize evs W l [] = st at c
  match st, c with
  | [x], c => exact ⟨rfl, c.1⟩
  | [], c => exact c.elim
  | _ :: _ :: _, c => exact c.2.elim
section RU
variable {h : pm_H} {W : Nat → Int64} {r : Nat} {cls : List (List Nat × Option (List Nat))}
theorem m_summed_n (R : RF h) (M : RM h r cls) (ok : ∀ c ∈ cls, clOK c) (hr : r < 6) (hw : ∀ w, w < 11 → h.2.2.1 202 w = W w) : SP (m_summedBy 193 (nI r) h) (fun z => z.1 = clV W cls ∧ FS h z.2) := by
  obtain ⟨m1, m2, m3⟩ := M
  have okk : ∀ k, k < cls.length → clOK (cls.getD k ([], none)) := fun k hk => ok _ (by
    rw [List.getD_eq_getElem?_getD, List.getElem?_eq_getElem hk]
    exact List.getElem_mem _)
  have dr1 : ∀ k, k < cls.length → cls.drop k = cls.getD k ([], none) :: cls.drop (k + 1) := by
    intro k hk
    rw [List.getD_eq_getElem?_getD, List.getElem?_eq_getElem hk]
    exact List.drop_eq_getElem_cons hk
  unfold m_summedBy
  rw [kc_i0]
  have key : SP (wh (fun z : (Int32 × pm_H) => m_summedBy_2 193 (nI r) z.1 z.2) (nI 0, h)) (fun z => match z with | .inl q => ∃ k, k < cls.length ∧ q.1 = nI (48 * r + 4 * k) ∧ clV W cls = evV W (cls.getD k ([], none)).1 ∧ FS h q.2 | .inr h' => clV W cls = 0 ∧ FS h h') := by
    refine wh_cnt (fun k z => z.1 = nI k ∧ FS h z.2 ∧ clV W cls = clV W (cls.drop k)) _ cls.length ?_ ?_ 0 (nI 0, h) (by omega) ⟨rfl, FS.refl h, by rw [List.drop_zero]⟩
    · rintro k ⟨y, h1⟩ hk ⟨hy, f1, v1⟩
      dsimp only at hy f1 v1
      subst hy
      have R1 := f1.rf R
      have o1 := okk k hk
      have g1 := m3 k hk
      have v2 := v1
      rw [dr1 k hk] at v2
      generalize hg : cls.getD k ([], none) = c at o1 g1 v2
      obtain ⟨sm, te⟩ := c
      obtain ⟨b, b1, b2, b3, b4, b5, b6, b7⟩ := g1
      unfold m_summedBy_2
      rw [ra_193_6 R1, Option.bind_some, mn_198, gi_n (by omega), nx_cl (by omega), f1.2.2.1 198 (by omega), m1]
      refine sp_pos (dec_t (by omega)) (sp_neg (by rw [nx_le (by omega) (by omega)]; omega) ?_)
      rw [ra_193_5 R1, Option.bind_some, kc_b_48, kc_i4, kc_i2, kc_i3, nx_mul, nx_mul, nx_add, nx_add, nx_add, mn_197, gi_n (by omega), nx_cl (by omega), f1.2.2.1 197 (by omega), b4]
      refine sp_pos (dec_t (by omega)) ?_
      cases te with
      | none =>
        dsimp only
        refine sp_pos (by decide) (sp_some.mpr ⟨k, hk, rfl, ?_, f1⟩)
        rw [v2, hg]
        rfl
      | some l =>
        have o2 := o1.2.2.2 l rfl
        dsimp only at b1 b2 b3 b4 b5 b6 b7 o1
        have tl : teL (sm, some l) = l := rfl
        rw [tl] at b1 b5 b7
        dsimp only
        refine sp_neg (by rw [kc_0, nx_lt (by omega) (by omega)]; omega) ?_
        rw [Option.bind_some, mn_197, gi_n (by omega), f1.2.2.1 197 (by omega), b4]
        refine sp_pos (dec_t (by omega)) ?_
        rw [Option.bind_some, mn_197, gi_n (by omega), nx_cl (by omega), f1.2.2.1 197 (by omega), b5]
        refine sp_pos (dec_t (by omega)) ?_
        refine sp_call (m_reckons_n (W := W) R1 o2.1 (by omega) (fun w hw2 => by rw [f1.2.2.2.2 202 (by omega)]; exact hw w hw2) (by omega) hr (fun j hj => ⟨by rw [f1.2.2.1 195 (by omega)]; exact b7 j hj, ?_⟩)) ?_
        · exact o2.2.1 _ (getD_lt_mem hj)
        · rintro ⟨v, h2⟩ ⟨hv, hb, f2⟩
          dsimp only at hv hb f2
          dsimp only
          subst hv
          rw [clV] at v2
          rcases hb rfl with q | q
          · rw [q] at v2 ⊢
            rw [if_neg (by decide)] at v2
            refine sp_pos (by decide) (sp_some.mpr ⟨by rw [kc_i1]; exact nx_add k 1, f1.trans f2, v2⟩)
          · rw [q] at v2 ⊢
            rw [if_pos rfl] at v2
            refine sp_neg (by decide) (sp_some.mpr ⟨k, hk, rfl, ?_, f1.trans f2⟩)
            rw [v2, hg]
    · rintro ⟨y, h1⟩ ⟨hy, f1, v1⟩
      dsimp only at hy f1 v1
      subst hy
      unfold m_summedBy_2
      rw [ra_193_6 (f1.rf R), Option.bind_some, mn_198, gi_n (by omega), nx_cl (by omega), f1.2.2.1 198 (by omega), m1]
      refine sp_pos (dec_t (by omega)) (sp_pos (by rw [nx_le (by omega) (by omega)]; omega) (sp_some.mpr ⟨?_, f1⟩))
      rw [v1, List.drop_length]
      rfl
  refine sp_call key ?_
  rintro (⟨y, h1⟩ | q) hq
  · obtain ⟨k, hk, hy, v1, f1⟩ := hq
    dsimp only at hy f1
    subst hy
    have R1 := f1.rf R
    have o1 := okk k hk
    have g1 := m3 k hk
    generalize cls.getD k ([], none) = c at o1 g1 v1
    obtain ⟨b, b1, b2, b3, b4, b5, b6, b7⟩ := g1
    dsimp only
    unfold m_summedBy_58
    rw [ra_193_5 R1, Option.bind_some, kc_i1, nx_add, mn_197, gi_n (by omega), nx_cl (by omega), f1.2.2.1 197 (by omega), b2]
    refine sp_pos (dec_t (by omega)) ?_
    rw [Option.bind_some, mn_197, gi_n (by omega), nx_cl (by omega), f1.2.2.1 197 (by omega), b3]
    refine sp_pos (dec_t (by omega)) ?_
    refine sp_call (m_reckons_n (W := W) R1 o1.1 o1.2.2.1 (fun w hw2 => by rw [f1.2.2.2.2 202 (by omega)]; exact hw w hw2) (by omega) hr (fun j hj => ⟨by rw [f1.2.2.1 195 (by omega)]; exact b6 j hj, o1.2.1 _ (getD_lt_mem hj)⟩)) ?_
    rintro ⟨v, h2⟩ ⟨hv, hb, f2⟩
    exact sp_some.mpr ⟨hv.trans v1.symm, f1.trans f2⟩
  · exact sp_some.mpr ⟨hq.1.symm, hq.2⟩
end RU
