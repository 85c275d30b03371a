/-! A rule's text: values, read by the program. -/
def lws : List (List Nat) := [[109, 97, 110], [119, 111, 114, 100], [98, 101, 114, 116, 104], [104, 111, 117, 114], [119, 105, 110, 100], [97, 119, 97, 107, 101], [115, 105, 99, 107], [116, 105, 114, 101, 100], [115, 97, 109, 101], [110, 101, 101, 100], [99, 114, 101, 119]]
theorem tx7 : tx_ok 7 = true ∧ tx_l 7 = (flw lws).map nI ∧ (flw lws).length < 1000 ∧ (∀ w ∈ lws, ∀ x ∈ w, x ≠ 32 ∧ x < 256) ∧ lws.length < 1000 := by decide +kernel
/-- what a reader comes to: a fault, or the parts so far, the signs so far, and the place behind -/
abbrev RDO := Nat ⊕ (Nat × List Nat × Nat)
def valP (B : Nat → Nat) (L k : Nat) (l : List Nat) (p : Nat) : RDO :=
  if kd (ca B L p) = 1 then (if 5 < bh B L p - p then .inl (1 + 8 * p + 1) else if k < 60 then .inr (k + 1, l ++ [16 * nrV B L p], skp B L (bh B L p)) else .inl (1 + 8 * p + 3))
  else match widx B L p lws 0 with
    | none => .inl (1 + 8 * p)
    | some w => if k < 60 then .inr (k + 1, l ++ [1 + 16 * w], skp B L (bh B L p)) else .inl (1 + 8 * p + 3)
/-- the rule in the cells u, u + 1, as it is read: parts, codes -/
def US (h : pm_H) (u k : Nat) (c : List Int32) : Prop := h.2.1 u 2 = nI k ∧ h.2.1 u 1 = nI c.length ∧ c.length ≤ 412 ∧ ∀ j, j < c.length → h.2.1 (u + 1) j = c.getD j 0
def FV (u : Nat) (h h' : pm_H) : Prop := Fr (fun c => c = 1 ∨ c = u ∨ c = u + 1) h h' ∧ h'.2.1 1 1 = h.2.1 1 1
def UO (h : pm_H) (u : Nat) (B : Nat → Nat) (L : Nat) (c : List Int32) (o : RDO) (z : Int32 × pm_H) : Prop := FV u h z.2 ∧ (match o with
  | .inl e => z.1 = nI 0 ∧ z.2.2.1 1 7 = nI e ∧ ∃ n, n ≤ 412 ∧ z.2.2.1 u 1 = nI n
  | .inr y => z.1 = nI 1 ∧ US z.2 u y.1 (c ++ y.2.1.map tkc) ∧ UNT z.2 B L y.2.2)
theorem widx_k2 {B : Nat → Nat} {L p : Nat} : ∀ {ws : List (List Nat)} {k0 k : Nat}, widx B L p ws k0 = some k → kd (ca B L p) = 2
  | [], _, _, e => by cases e
  | w :: r, k0, k, e => by
    rw [widx] at e
    split at e
    · rename_i z
      exact isW_k2 z
    · exact widx_k2 e
section UVL
variable {h : pm_H} {u k L p : Nat} {B : Nat → Nat} {c : List Int32} {l : List Nat}
theorem FV.refl (u : Nat) (h : pm_H) : FV u h h := ⟨Fr.refl _ h, rfl⟩
theorem FV.trans {h1 h2 : pm_H} (a : FV u h h1) (b : FV u h1 h2) : FV u h h2 := ⟨a.1.trans b.1, b.2.trans a.2⟩
theorem FV.rf {h' : pm_H} (f : FV u h h') (R : RF h) : RF h' := R.fr f.1
theorem rule_ge {u : Nat} (hu : mi_o u 6 = true) : 90 ≤ u ∧ u ≤ 105 := by
  have h := ob_u u hu
  simp only [List.mem_cons, List.not_mem_nil, or_false] at h
  omega
theorem FV.ct {h' : pm_H} (f : FV u h h') (hu : mi_o u 6 = true) (C : CT h L B) : CT h' L B := by
  have := rule_ge hu
  exact ⟨by rw [f.2]; exact C.1, C.2.1, fun k hk => by rw [f.1.i _ (by omega)]; exact C.2.2 k hk⟩
theorem FT.fv {h' : pm_H} (f : FT h h') (u : Nat) : FV u h h' := ⟨f.fr.mono (fun c hc => .inl hc), f.2.2.2.2⟩
theorem FT.us {h' : pm_H} (f : FT h h') (hu : mi_o u 6 = true) (S : US h u k c) : US h' u k c := by
  have := rule_ge hu
  unfold US at S ⊢
  rw [f.2.2.2.1 u (by omega), f.2.2.2.1 (u + 1) (by omega)]
  exact S
theorem u_step_n (R : RF h) (hu : mi_o u 6 = true) {v : Int32} (S : US h u k c) (room : c.length < 412) : SP (u_step u v h) (fun h' => FV u h h' ∧ US h' u k (c ++ [v]) ∧ ∀ j, h'.2.1 1 j = h.2.1 1 j) := by
  have hv := rule_ge hu
  obtain ⟨s1, s2, s3, s4⟩ := S
  unfold u_step
  rw [s2]
  refine sp_neg (by rw [kc_0, nx_lt (by omega) (by omega)]; omega) ?_
  rw [rf_u0 R hu, Option.bind_some, ln_u0 hu]
  refine sp_neg (by rw [kc_on, nx_le (by omega) (by omega)]; omega) ?_
  rw [Option.bind_some, ln_u0 hu, gi_n (by omega), nx_cl (by omega)]
  refine sp_pos (dec_t room) ?_
  rw [sp_bd, sp_bd, kc_i1]
  have e : (pm_setI h (u + 1) c.length v).2.1 u 1 = nI c.length := by rw [ri_c _ (by omega)]; exact s2
  rw [e, nx_add]
  refine sp_some.mpr ⟨⟨((Fr.refl _ h).setI (by omega)).setI (by omega), ?_⟩, ⟨?_, ?_, ?_, fun j hj => ?_⟩, fun j => ?_⟩
  · rw [ri_c _ (by omega), ri_c _ (by omega)]
  · rw [ri_j _ (by omega), ri_c _ (by omega)]; exact s1
  · rw [ri_s, List.length_append]; rfl
  · rw [List.length_append]; exact room
  · rw [List.length_append] at hj
    rw [ri_c _ (by omega)]
    by_cases q : j = c.length
    · subst q
      rw [ri_s, show c.length = c.length + 0 from rfl, gdr]
      rfl
    · have : j < c.length := by
        have : j < c.length + 1 := hj
        omega
      rw [ri_j _ q, gdl this]
      exact s4 j this
  · rw [ri_c _ (by omega), ri_c _ (by omega)]
/-- a step, whatever the state -/
theorem u_step_any (R : RF h) (hu : mi_o u 6 = true) {v : Int32} {n : Nat} (hn : n ≤ 412) (s2 : h.2.1 u 1 = nI n) : SP (u_step u v h) (fun h' => FV u h h' ∧ (∃ n, n ≤ 412 ∧ h'.2.1 u 1 = nI n) ∧ ∀ j, h'.2.1 1 j = h.2.1 1 j) := by
  have hv := rule_ge hu
  unfold u_step
  rw [s2]
  refine sp_neg (by rw [kc_0, nx_lt (by omega) (by omega)]; omega) ?_
  rw [rf_u0 R hu, Option.bind_some, ln_u0 hu]
  by_cases q : 412 ≤ n
  · exact sp_pos (by rw [kc_on, nx_le (by omega) (by omega)]; exact q) (sp_some.mpr ⟨FV.refl u h, ⟨n, hn, s2⟩, fun _ => rfl⟩)
  refine sp_neg (by rw [kc_on, nx_le (by omega) (by omega)]; exact q) ?_
  rw [Option.bind_some, ln_u0 hu, gi_n (by omega), nx_cl (by omega)]
  refine sp_pos (dec_t (by omega)) ?_
  rw [sp_bd, sp_bd, kc_i1]
  have e : (pm_setI h (u + 1) n v).2.1 u 1 = nI n := by rw [ri_c _ (by omega)]; exact s2
  rw [e, nx_add]
  refine sp_some.mpr ⟨⟨((Fr.refl _ h).setI (by omega)).setI (by omega), ?_⟩, ⟨n + 1, by omega, ri_s _⟩, fun j => ?_⟩
  · rw [ri_c _ (by omega), ri_c _ (by omega)]
  · rw [ri_c _ (by omega), ri_c _ (by omega)]
theorem UNT.of {h' : pm_H} (U : UNT h B L p) (e : ∀ j, h'.2.1 1 j = h.2.1 1 j) : UNT h' B L p := by
  unfold UNT at U ⊢
  rw [e 2, e 3, e 4, e 5, e 6]
  exact U
theorem u_val105 (R : RF h) (C : CT h L B) (hu : mi_o u 6 = true) (U : UNT h B L p) {v : Int32} (S : US h u k c) (room : c.length < 412) : SP (u_readValue_105 1 v u h) (fun z => z.1 = nI 1 ∧ FV u h z.2 ∧ US z.2 u k (c ++ [v]) ∧ UNT z.2 B L (skp B L (bh B L p))) := by
  unfold u_readValue_105
  refine sp_call (u_step_n R hu S room) ?_
  rintro h1 ⟨f1, S1, e1⟩
  have U1 := U.of e1
  refine sp_call (t_advance_sp (f1.rf R) (f1.ct hu C) U1.2.2.2.2.1 (bh_ge (B := B) U.1).2) ?_
  rintro h2 ⟨f2, U2, _⟩
  exact sp_some.mpr ⟨by rw [kc_i1], f1.trans (f2.fv u), f2.us hu S1, U2⟩
theorem US.any (S : US h u k c) : ∃ n, n ≤ 412 ∧ h.2.1 u 1 = nI n := ⟨c.length, S.2.2.1, S.2.1⟩
theorem u_blame_n (hu : mi_o u 6 = true) (S : ∃ n, n ≤ 412 ∧ h.2.1 u 1 = nI n) {e : Nat} : UO h u B L c (.inl e) (nI 0, pm_setI h 1 7 (nI e)) := by
  have hv := rule_ge hu
  refine ⟨⟨(Fr.refl _ h).setI (.inl rfl), by rw [ri_j _ (by omega)]⟩, rfl, ri_s _, ?_⟩
  obtain ⟨n, n1, n2⟩ := S
  exact ⟨n, n1, by rw [ri_c _ (by omega)]; exact n2⟩
theorem u_value_n (R : RF h) (C : CT h L B) (hu : mi_o u 6 = true) (U : UNT h B L p) (S : US h u k (c ++ l.map tkc)) (hk : k ≤ 60) {d : Nat} (bd : c.length + l.length + d ≤ p + 12) : SP (u_readValue u 1 h) (UO h u B L c (valP B L k l p)) := by
  have hv := rule_ge hu
  have U' := U
  have hL := C.2.1
  obtain ⟨u1, u2, u3, u4, u5, u6, u7⟩ := U
  have kl := kd_le (ca B L p)
  have bg := bh_ge (B := B) u1
  have len : (c ++ l.map tkc).length = c.length + l.length := by rw [List.length_append, List.length_map]
  -- a value that is allowed
  have good : ∀ (z0 w v : Int32) (t : Nat), p < L → tkc t = v → (if z0 = 0 then (Int32.ofInt (-1)) - w else nI (nbr B L p)) = v → SP (u_readValue_61 u 1 z0 w h) (UO h u B L c (if k < 60 then .inr (k + 1, l ++ [t], skp B L (bh B L p)) else .inl (1 + 8 * p + 3))) := by
    intro z0 w v t pL et ev
    unfold u_readValue_61
    rw [S.1]
    by_cases q : k < 60
    · rw [if_pos q]
      refine sp_pos (by rw [kc_b_60, nx_lt (by omega) (by omega)]; exact q) ?_
      rw [sp_bd, kc_i1, nx_add]
      have f1 : FV u h (pm_setI h u 2 (nI (k + 1))) := ⟨(Fr.refl _ h).setI (by omega), ri_c _ (by omega)⟩
      have e1 : ∀ j, (pm_setI h u 2 (nI (k + 1))).2.1 1 j = h.2.1 1 j := fun j => ri_c _ (by omega)
      have S1 : US (pm_setI h u 2 (nI (k + 1))) u (k + 1) (c ++ l.map tkc) := ⟨ri_s _, by rw [ri_j _ (by omega)]; exact S.2.1, S.2.2.1, fun j hj => by rw [ri_c _ (by omega)]; exact S.2.2.2 j hj⟩
      generalize pm_setI h u 2 (nI (k + 1)) = h1 at f1 e1 S1 ⊢
      have fin : SP (u_readValue_105 1 v u h1) (UO h u B L c (.inr (k + 1, l ++ [t], skp B L (bh B L p)))) := by
        refine (u_val105 (f1.rf R) (f1.ct hu C) hu (U'.of e1) S1 (by rw [len]; omega)).mono ?_
        rintro ⟨z, h2⟩ ⟨y1, y2, y3, y4⟩
        refine ⟨f1.trans y2, y1, ?_, y4⟩
        rw [List.map_append, ← List.append_assoc]
        show US h2 u (k + 1) (c ++ l.map tkc ++ [tkc t])
        rw [et]
        exact y3
      by_cases q0 : z0 = 0
      · rw [if_pos q0] at ev
        refine sp_pos q0 ?_
        rw [ev]
        exact fin
      · rw [if_neg q0] at ev
        refine sp_neg q0 ?_
        rw [e1, u7, ev]
        exact fin
    · rw [if_neg q]
      refine sp_neg (by rw [kc_b_60, nx_lt (by omega) (by omega)]; exact q) ?_
      rw [u4, kc_i3, t_blame_n, Option.bind_some]
      exact sp_pos mi_bo0 (sp_some.mpr (u_blame_n hu S.any))
  have pl : ca B L p ≠ 256 → p < L := by
    intro z
    apply Classical.byContradiction
    intro y
    exact z (by unfold ca; rw [if_neg y])
  unfold u_readValue valP
  rw [u3]
  by_cases k1 : kd (ca B L p) = 1
  · rw [if_pos k1]
    refine sp_neg (fun z => z (by rw [k1, kc_i1])) ?_
    unfold u_readValue_13
    rw [t_wordOf_n R C U' tx7.1 tx7.2.1 tx7.2.2.1 tx7.2.2.2.1 tx7.2.2.2.2, Option.bind_some]
    refine sp_pos (by rw [kc_i1]; exact n10) ?_
    unfold u_readValue_39
    refine sp_neg (by rw [kc_i1]; exact n10) ?_
    rw [u6]
    by_cases q : 5 < bh B L p - p
    · rw [if_pos q]
      refine sp_neg (by rw [kc_i5, nx_le (by omega) (by omega)]; omega) ?_
      rw [u4, kc_i1, t_blame_n, Option.bind_some]
      exact sp_pos mi_bo0 (sp_some.mpr (u_blame_n hu S.any))
    · rw [if_neg q]
      refine sp_pos (by rw [kc_i5, nx_le (by omega) (by omega)]; omega) ?_
      have en : nbr B L p = nrV B L p := by
        unfold nbr
        rw [if_neg (by omega), if_pos k1]
        rfl
      refine good _ _ (nI (nrV B L p)) (16 * nrV B L p) (pl (fun z => by rw [z] at k1; exact absurd k1 (by decide))) ?_ ?_
      · unfold tkc
        rw [if_pos (by omega), Nat.mul_div_cancel_left _ (by omega)]
      · rw [if_neg (by rw [kc_i1]; exact n10), en]
  · rw [if_neg k1]
    refine sp_pos (by rw [kc_i1, nx_eq (by omega) (by omega)]; exact k1) ?_
    unfold u_readValue_13
    rw [t_wordOf_n R C U' tx7.1 tx7.2.1 tx7.2.2.1 tx7.2.2.2.1 tx7.2.2.2.2, Option.bind_some]
    refine sp_neg (by rw [kc_i0]; exact fun z => z rfl) ?_
    cases ew : widx B L p lws 0 with
    | none =>
      dsimp only
      refine sp_neg (by decide) ?_
      rw [u4, kc_i0, t_blame_n, Option.bind_some]
      exact sp_pos mi_bo0 (sp_some.mpr (u_blame_n hu S.any))
    | some w =>
      have wl := widx_lt lws 0 w ew
      have w11 : w < 11 := by
        have : lws.length = 11 := rfl
        omega
      dsimp only
      refine sp_pos (by rw [kc_0, nx_le (by omega) (by omega)]; omega) ?_
      unfold u_readValue_39
      refine sp_pos (by rw [kc_i0]; rfl) ?_
      refine good _ _ (ng (1 + w)) (1 + 16 * w) (pl (fun z => ?_)) ?_ ?_
      · have k2 := widx_k2 ew
        rw [z] at k2
        exact absurd k2 (by decide)
      · unfold tkc
        rw [if_neg (by omega), if_pos (by omega), show (1 + 16 * w) / 16 = w by omega]
      · rw [if_pos (by rw [kc_i0]; rfl), kc_im1, ng_sub (by omega) (by omega)]
end UVL
