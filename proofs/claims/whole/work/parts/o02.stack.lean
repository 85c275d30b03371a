/-! Rules: the stacks, of the program and of the reference. -/
def gL (st : List Int64) (i : Nat) : Int64 := st.getD (st.length - 1 - i) 0
theorem gL_top (x : Int64) (st : List Int64) : gL (x :: st) st.length = x := by
  unfold gL
  rw [List.length_cons, show st.length + 1 - 1 - st.length = 0 from by omega]
  rfl
theorem gL_low (x : Int64) {st : List Int64} {i : Nat} (hi : i < st.length) : gL (x :: st) i = gL st i := by
  unfold gL
  rw [List.length_cons, show st.length + 1 - 1 - i = (st.length - 1 - i) + 1 from by omega]
  rfl
/-- the program's stack of the rule in the cells u to u + 2 -/
def SKc (h : pm_H) (u : Nat) (st : List Int64) : Prop := h.2.1 u 4 = nI st.length ∧ ∀ i, i < st.length → h.2.2.1 (u + 2) i = gL st i
def SKm (h : pm_H) (st : List Int64) : Prop := h.2.1 193 18 = nI st.length ∧ ∀ i, i < st.length → h.2.2.1 201 i = gL st i
/-- only the counter and the stack of u -/
def FU (u : Nat) (h h' : pm_H) : Prop := h'.1 = h.1 ∧ h'.2.2.2 = h.2.2.2 ∧ (∀ c, c ≠ u → h'.2.1 c = h.2.1 c) ∧ (∀ j, j ≠ 4 → h'.2.1 u j = h.2.1 u j) ∧ ∀ c, c ≠ u + 2 → h'.2.2.1 c = h.2.2.1 c
theorem FU.refl (u : Nat) (h : pm_H) : FU u h h := ⟨rfl, rfl, fun _ _ => rfl, fun _ _ => rfl, fun _ _ => rfl⟩
theorem FU.trans {u : Nat} {h h1 h2 : pm_H} (a : FU u h h1) (b : FU u h1 h2) : FU u h h2 := ⟨b.1.trans a.1, b.2.1.trans a.2.1, fun c hc => (b.2.2.1 c hc).trans (a.2.2.1 c hc), fun j hj => (b.2.2.2.1 j hj).trans (a.2.2.2.1 j hj), fun c hc => (b.2.2.2.2 c hc).trans (a.2.2.2.2 c hc)⟩
theorem FU.rf {u : Nat} {h h' : pm_H} (f : FU u h h') (R : RF h) : RF h' := fun q hq => by rw [f.2.1]; exact R q hq
theorem FU.fr {u : Nat} {h h' : pm_H} (f : FU u h h') : Fr (fun c => c = u ∨ c = u + 2) h h' := ⟨f.1, f.2.1, fun c hc => ⟨f.2.2.1 c (fun q => hc (.inl q)), f.2.2.2.2 c (fun q => hc (.inr q))⟩⟩
theorem FU.setI {u : Nat} {h h1 : pm_H} {v : Int32} (f : FU u h h1) : FU u h (pm_setI h1 u 4 v) :=
  ⟨f.1, f.2.1, fun c hc => by rw [← f.2.2.1 c hc]; funext j; exact ri_c v hc, fun j hj => by rw [ri_j _ hj]; exact f.2.2.2.1 j hj, f.2.2.2.2⟩
theorem FU.setL {u k : Nat} {h h1 : pm_H} {v : Int64} (f : FU u h h1) : FU u h (pm_setL h1 (u + 2) k v) :=
  ⟨f.1, f.2.1, f.2.2.1, f.2.2.2.1, fun c hc => by rw [← f.2.2.2.2 c hc]; funext j; exact rl_c v hc⟩
section SK
variable {h : pm_H} {u : Nat} {st : List Int64} {x : Int64}
theorem u_push_n (R : RF h) (hu : mi_o u 6 = true) (S : SKc h u st) (hl : st.length < 64) : SP (u_push u x h) (fun h' => FU u h h' ∧ SKc h' u (x :: st)) := by
  obtain ⟨s1, s2⟩ := S
  unfold u_push
  rw [s1]
  refine sp_neg (by rw [kc_0, nx_lt (by omega) (by omega)]; omega) ?_
  rw [rf_u3 R hu, Option.bind_some, ln_u3 hu]
  refine sp_neg (by rw [kc_on, nx_le (by omega) (by omega)]; omega) ?_
  rw [Option.bind_some, ln_u3 hu, gi_n (by omega), nx_cl (by omega)]
  refine sp_pos (dec_t hl) ?_
  rw [sp_bd, sp_bd, ri_l, s1, kc_i1, nx_add, sp_some]
  refine ⟨(FU.refl u h).setL.setI, ri_s _, fun i hi => ?_⟩
  rw [rl_i]
  rw [List.length_cons] at hi
  by_cases q : i = st.length
  · rw [q, rl_s, gL_top]
  · rw [rl_j _ q, gL_low x (by omega)]
    exact s2 i (by omega)
theorem u_pop_n (R : RF h) (hu : mi_o u 6 = true) (S : SKc h u (x :: st)) (hl : st.length < 64) : SP (u_pop u h) (fun z => z.1 = x ∧ FU u h z.2 ∧ SKc z.2 u st) := by
  obtain ⟨s1, s2⟩ := S
  rw [List.length_cons] at s1
  unfold u_pop
  rw [s1]
  refine sp_neg (by rw [kc_i1, nx_lt (by omega) (by omega)]; omega) ?_
  rw [rf_u3 R hu, Option.bind_some, ln_u3 hu]
  refine sp_pos (by rw [kc_on, nx_le (by omega) (by omega)]; omega) ?_
  rw [sp_bd, kc_i1, nx_sub (by omega), Nat.add_sub_cancel, rf_u3 R.setI hu, Option.bind_some, ri_s, ln_u3 hu, gi_n (by omega), nx_cl (by omega)]
  refine sp_pos (dec_t hl) (sp_some.mpr ⟨?_, (FU.refl u h).setI, ri_s _, fun i hi => ?_⟩)
  · show (pm_setI h u 4 (nI st.length)).2.2.1 (u + 2) st.length = x
    rw [rl_i, s2 st.length (by rw [List.length_cons]; omega), gL_top]
  · rw [rl_i, s2 i (by rw [List.length_cons]; omega), gL_low x hi]
end SK
/-- only the counter and the stack of the reference -/
def FS (h h' : pm_H) : Prop := h'.1 = h.1 ∧ h'.2.2.2 = h.2.2.2 ∧ (∀ c, c ≠ 193 → h'.2.1 c = h.2.1 c) ∧ (∀ j, j ≠ 18 → h'.2.1 193 j = h.2.1 193 j) ∧ ∀ c, c ≠ 201 → h'.2.2.1 c = h.2.2.1 c
theorem FS.refl (h : pm_H) : FS h h := ⟨rfl, rfl, fun _ _ => rfl, fun _ _ => rfl, fun _ _ => rfl⟩
theorem FS.trans {h h1 h2 : pm_H} (a : FS h h1) (b : FS h1 h2) : FS h h2 := ⟨b.1.trans a.1, b.2.1.trans a.2.1, fun c hc => (b.2.2.1 c hc).trans (a.2.2.1 c hc), fun j hj => (b.2.2.2.1 j hj).trans (a.2.2.2.1 j hj), fun c hc => (b.2.2.2.2 c hc).trans (a.2.2.2.2 c hc)⟩
theorem FS.rf {h h' : pm_H} (f : FS h h') (R : RF h) : RF h' := fun q hq => by rw [f.2.1]; exact R q hq
theorem FS.setI {h h1 : pm_H} {v : Int32} (f : FS h h1) : FS h (pm_setI h1 193 18 v) :=
  ⟨f.1, f.2.1, fun c hc => by rw [← f.2.2.1 c hc]; funext j; exact ri_c v hc, fun j hj => by rw [ri_j _ hj]; exact f.2.2.2.1 j hj, f.2.2.2.2⟩
theorem FS.setL {k : Nat} {h h1 : pm_H} {v : Int64} (f : FS h h1) : FS h (pm_setL h1 201 k v) :=
  ⟨f.1, f.2.1, f.2.2.1, f.2.2.2.1, fun c hc => by rw [← f.2.2.2.2 c hc]; funext j; exact rl_c v hc⟩
theorem FS.fm {h h' : pm_H} (f : FS h h') : FM h h' := by
  refine ⟨f.1, f.2.1, fun c hc => ⟨f.2.2.1 c (by omega), f.2.2.2.2 c (by omega)⟩, fun c hc => f.2.2.1 c ?_, fun j hj => f.2.2.2.1 j ?_⟩
  · simp only [List.mem_cons, List.not_mem_nil, or_false] at hc
    omega
  · simp only [List.mem_cons, List.not_mem_nil, or_false] at hj
    omega
section SM
variable {h : pm_H} {st : List Int64} {x : Int64}
theorem m_push_n (R : RF h) (S : SKm h st) (hl : st.length < 64) : SP (m_push 193 x h) (fun h' => FS h h' ∧ SKm h' (x :: st)) := by
  obtain ⟨s1, s2⟩ := S
  unfold m_push
  rw [ra_193_17 R, Option.bind_some, s1, mn_201, gi_n (by omega), nx_cl (by omega)]
  refine sp_pos (dec_t hl) ?_
  rw [sp_bd, sp_bd, ri_l, s1, kc_i1, nx_add, sp_some]
  refine ⟨(FS.refl h).setL.setI, ri_s _, fun i hi => ?_⟩
  rw [rl_i]
  rw [List.length_cons] at hi
  by_cases q : i = st.length
  · rw [q, rl_s, gL_top]
  · rw [rl_j _ q, gL_low x (by omega)]
    exact s2 i (by omega)
theorem m_pop_n (R : RF h) (S : SKm h (x :: st)) (hl : st.length < 64) : SP (m_pop 193 h) (fun z => z.1 = x ∧ FS h z.2 ∧ SKm z.2 st) := by
  obtain ⟨s1, s2⟩ := S
  rw [List.length_cons] at s1
  unfold m_pop
  rw [s1, sp_bd, kc_i1, nx_sub (by omega), Nat.add_sub_cancel, ra_193_17 R.setI, Option.bind_some, ri_s, mn_201, gi_n (by omega), nx_cl (by omega)]
  refine sp_pos (dec_t hl) (sp_some.mpr ⟨?_, (FS.refl h).setI, ri_s _, fun i hi => ?_⟩)
  · show (pm_setI h 193 18 (nI st.length)).2.2.1 201 st.length = x
    rw [rl_i, s2 st.length (by rw [List.length_cons]; omega), gL_top]
  · rw [rl_i, s2 i (by rw [List.length_cons]; omega), gL_low x hi]
end SM
/-! a row of tokens -/
def evs (W : Nat → Int64) : List Nat → List Int64 → List Int64
  | [], st => st
  | t :: l, st => evs W l (ev1 W t st)
def tys : List Nat → List Bool → Option (List Bool)
  | [], ts => some ts
  | t :: l, ts => (ty1 t ts).bind (tys l)
/-- how many values a row of tokens lays on the stack -/
def npu (l : List Nat) : Nat := (l.filter (fun t => decide (t % 16 < 2))).length
theorem npu_cons (t : Nat) (l : List Nat) : npu (t :: l) = (if t % 16 < 2 then 1 else 0) + npu l := by
  unfold npu
  rw [List.filter_cons]
  by_cases q : t % 16 < 2
  · rw [if_pos q, if_pos (decide_eq_true q), List.length_cons]; omega
  · rw [if_neg q, if_neg (by rw [decide_eq_false q]; simp)]; omega
theorem ty1_len {t : Nat} {ts ts' : List Bool} {st : List Int64} (h : ty1 t ts = some ts') (c : CM st ts) (W : Nat → Int64) : (ev1 W t st).length ≤ st.length + if t % 16 < 2 then 1 else 0 := by
  rcases ty1_cases h c W with ⟨q, _, rfl, e⟩ | ⟨q, _, rfl, e⟩ | ⟨q, x, r, rs, rfl, rfl, rfl, hx, hc, e⟩ | ⟨q, x, y, r, b, b', rs, rfl, rfl, rfl, hc, hb, e⟩
  · rw [e, List.length_cons, if_pos (by omega)]; omega
  · rw [e, List.length_cons, if_pos (by omega)]; omega
  · rw [e]; simp
  · rw [e]; simp; omega
