/-! A rule's text: a comparison, read by the program. -/
def isCm (c : Nat) : Bool := decide (c = 60 ∨ c = 61 ∨ c = 62)
theorem isCm_t {c : Nat} : isCm c = true ↔ (c = 60 ∨ c = 61 ∨ c = 62) := decide_eq_true_iff
def cop (n : Nat) : Nat := if n = 60 then 6 else if n = 316 then 7 else if n = 61 then 8 else if n = 318 then 9 else 10
def cmpP (B : Nat → Nat) (L k : Nat) (l : List Nat) (p : Nat) : RDO := match sumP B L k l p with
  | .inl e => .inl e
  | .inr y => if isCm (ca B L y.2.2) = true then (if y.1 < 60 then (match sumP B L (y.1 + 1) y.2.1 (skp B L (bh B L y.2.2)) with
      | .inl e => .inl e
      | .inr z => .inr (z.1, z.2.1 ++ [cop (nbr B L y.2.2)], z.2.2)) else .inl (1 + 8 * y.2.2 + 3)) else .inl (1 + 8 * y.2.2)
section UCM
variable {h h0 : pm_H} {u k n0 L p : Nat} {B : Nat → Nat} {c : List Int32} {l : List Nat} {ts : List Bool}
theorem nbr_c (hc : isCm (ca B L p) = true) : kd (ca B L p) = 3 ∧ (nbr B L p = 60 ∨ nbr B L p = 61 ∨ nbr B L p = 62 ∨ nbr B L p = 316 ∨ nbr B L p = 318) := by
  rw [isCm_t] at hc
  have k3 : kd (ca B L p) = 3 := by rcases hc with z | z | z <;> rw [z] <;> decide
  refine ⟨k3, ?_⟩
  unfold nbr
  rw [if_pos k3]
  split <;> omega
theorem nbr_nc (hc : isCm (ca B L p) = false) (hB : ∀ k, k < L → B k < 256) (k3 : kd (ca B L p) = 3) : nbr B L p ≠ 60 ∧ nbr B L p ≠ 61 ∧ nbr B L p ≠ 62 ∧ nbr B L p ≠ 316 ∧ nbr B L p ≠ 318 := by
  have cl : ca B L p ≤ 256 := ca_le hB
  have nc : ¬ (ca B L p = 60 ∨ ca B L p = 61 ∨ ca B L p = 62) := fun z => by rw [isCm_t.mpr z] at hc; cases hc
  unfold nbr
  rw [if_pos k3, if_neg (by omega)]
  omega
theorem tk_cop {x : Nat} (hx : x = 60 ∨ x = 61 ∨ x = 62 ∨ x = 316 ∨ x = 318) : tkc (cop x) = (Int8.ofInt (-100)).toInt32 - nI x := by
  rcases hx with rfl | rfl | rfl | rfl | rfl <;> decide +kernel
theorem u_compares_n (h : pm_H) {s : Int32} (hB : ∀ k, k < L → B k < 256) (es : s = (if kd (ca B L p) = 3 then nI (nbr B L p) else ng 1)) : u_compares s h = some (nI (isCm (ca B L p)).toNat) := by
  unfold u_compares u_compares_32
  rw [kc_b_60, kc_b_61, kc_b_62, kc_s_316, kc_s_318, kc_i1, kc_i0]
  cases hc : isCm (ca B L p) with
  | true =>
    obtain ⟨k3, hn⟩ := nbr_c hc
    rw [es, if_pos k3]
    rcases hn with z | z | z | z | z
    · exact if_pos (by rw [z])
    · exact (if_neg (by rw [z]; decide)).trans (if_pos (by rw [z]))
    · exact (if_neg (by rw [z]; decide)).trans ((if_neg (by rw [z]; decide)).trans (if_pos (by rw [z])))
    · exact (if_neg (by rw [z]; decide)).trans ((if_neg (by rw [z]; decide)).trans ((if_neg (by rw [z]; decide)).trans (if_pos (by rw [z]))))
    · exact (if_neg (by rw [z]; decide)).trans ((if_neg (by rw [z]; decide)).trans ((if_neg (by rw [z]; decide)).trans ((if_neg (by rw [z]; decide)).trans (if_neg (fun y => y (by rw [z]))))))
  | false =>
    by_cases k3 : kd (ca B L p) = 3
    · have nl := nbr_le hB k3
      have nn := nbr_nc hc hB k3
      rw [if_pos k3] at es
      have ne : ∀ x, x < 1000 → nbr B L p ≠ x → ¬ s = nI x := fun x hx hn => by rw [es, nx_eq (by omega) (by omega)]; exact hn
      exact (if_neg (ne _ (by omega) nn.1)).trans ((if_neg (ne _ (by omega) nn.2.1)).trans ((if_neg (ne _ (by omega) nn.2.2.1)).trans ((if_neg (ne _ (by omega) nn.2.2.2.1)).trans (if_pos (ne _ (by omega) nn.2.2.2.2)))))
    · rw [if_neg k3] at es
      have ne : ∀ x, x < 1000 → ¬ s = nI x := fun x hx => by rw [es, ng_eq_n (by omega) (by omega) (by omega)]; exact id
      exact (if_neg (ne _ (by omega))).trans ((if_neg (ne _ (by omega))).trans ((if_neg (ne _ (by omega))).trans ((if_neg (ne _ (by omega))).trans (if_pos (ne _ (by omega))))))
theorem u_cmp_n (F : Bool → Nat → Nat → Int32 → pm_H → Option (Int32 × pm_H)) (v2 : Int32) (R : RF h) (C : CT h L B) (hu : mi_o u 6 = true) (U : UNT h B L p) (S : US h u k (c ++ l.map tkc)) (hk : k ≤ 60) (G : GT n0 ts k l) (hb : c.length + l.length ≤ p + 12) : SP (u_readFact_40 F u 1 v2 (nI 0) (nI 0) h) (UO h u B L c (cmpP B L k l p)) := by
  have hL := C.2.1
  have hB := fun k hk => (C.2.2 k hk).2
  have hv := rule_ge hu
  unfold u_readFact_40 cmpP
  refine sp_pos rfl (sp_pos rfl ?_)
  refine sp_call (u_sum_n R C hu U S hk hb) ?_
  rintro ⟨v, h1⟩ ⟨f1, hz⟩
  dsimp only at f1 hz ⊢
  cases ev : sumP B L k l p with
  | inl e =>
    rw [ev] at hz
    obtain ⟨y1, y2, y3⟩ := hz
    subst y1
    exact sp_neg (fun z => z rfl) (sp_some.mpr ⟨f1, by rw [kc_i0], y2, y3⟩)
  | inr y =>
    rw [ev] at hz
    obtain ⟨y1, S1, U1⟩ := hz
    obtain ⟨o1, o2, o3, o4, o5, o6, G1⟩ := sumP_ok ev U.1 G
    subst y1
    have R1 := f1.rf R
    have C1 := f1.ct hu C
    refine sp_pos n10 ?_
    refine u_sgn U1 hB (X := fun s => u_readFact_126 F u 1 s h1) ?_
    intro s es
    show SP (u_readFact_126 F u 1 s h1) _
    unfold u_readFact_126
    rw [u_compares_n h1 hB es, Option.bind_some]
    have U1' := U1
    obtain ⟨u1, u2, u3, u4, u5, u6, u7⟩ := U1
    cases hc : isCm (ca B L y.2.2) with
    | false =>
      dsimp only
      rw [if_neg (show ¬ isCm (ca B L y.2.2) = true by rw [hc]; decide)]
      refine sp_neg (fun z => z rfl) ?_
      rw [u4, kc_i0, t_blame_n, Option.bind_some]
      exact sp_pos mi_bo0 (sp_some.mpr ((u_blame_n hu S1.any).of f1))
    | true =>
      refine sp_pos n10 ?_
      obtain ⟨k3, hn⟩ := nbr_c hc
      rw [S1.1]
      dsimp only
      rw [if_pos hc]
      by_cases q : y.1 < 60
      · rw [if_pos q]
        refine sp_pos (by rw [kc_b_60, nx_lt (by omega) (by omega)]; exact q) ?_
        rw [sp_bd, kc_i1, nx_add]
        have f2 : FV u h1 (pm_setI h1 u 2 (nI (y.1 + 1))) := ⟨(Fr.refl _ h1).setI (by omega), ri_c _ (by omega)⟩
        have e2 : ∀ j, (pm_setI h1 u 2 (nI (y.1 + 1))).2.1 1 j = h1.2.1 1 j := fun j => ri_c _ (by omega)
        have S2 : US (pm_setI h1 u 2 (nI (y.1 + 1))) u (y.1 + 1) (c ++ y.2.1.map tkc) := ⟨ri_s _, by rw [ri_j _ (by omega)]; exact S1.2.1, S1.2.2.1, fun j hj => by rw [ri_c _ (by omega)]; exact S1.2.2.2 j hj⟩
        generalize pm_setI h1 u 2 (nI (y.1 + 1)) = h2 at f2 e2 S2 ⊢
        have U2 := U1'.of e2
        have bg := bh_ge (B := B) u1
        have gt := bh_gt u1 (kd_256 k3 (by omega))
        have sg := skp_ge (B := B) bg.2
        refine sp_call (t_advance_sp (f2.rf R1) (f2.ct hu C1) U2.2.2.2.2.1 bg.2) ?_
        rintro h3 ⟨f3, U3, _⟩
        have f03 := (f1.trans f2).trans (f3.fv u)
        have G2 : GT n0 (false :: ts) (y.1 + 1) y.2.1 := ⟨G1.1, G1.2.1, by have := G1.2.2; omega⟩
        refine sp_call (u_sum_n (f3.rf (f2.rf R1)) (f3.ct (f2.ct hu C1)) hu U3 (f3.us hu S2) (by omega) (by omega)) ?_
        rintro ⟨v, h4⟩ ⟨f4, hz⟩
        dsimp only at f4 hz ⊢
        have f04 := f03.trans f4
        have R4 := f4.rf (f3.rf (f2.rf R1))
        cases ew : sumP B L (y.1 + 1) y.2.1 (skp B L (bh B L y.2.2)) with
        | inl e =>
          rw [ew] at hz
          obtain ⟨y1, y2, n, n1, n2⟩ := hz
          subst y1
          refine sp_call (u_step_any R4 hu n1 n2) ?_
          rintro h5 ⟨f5, hn5, e5⟩
          exact sp_pos mi_bo0 (sp_some.mpr ⟨f04.trans f5, rfl, by rw [e5]; exact y2, hn5⟩)
        | inr z =>
          rw [ew] at hz
          obtain ⟨y1, S4, U4⟩ := hz
          obtain ⟨p1, p2, p3, p4, p5, p6, G3⟩ := sumP_ok ew sg.2 G2
          subst y1
          rw [es, if_pos k3, ← tk_cop hn]
          refine sp_call (u_step_n R4 hu S4 (by rw [List.length_append, List.length_map]; omega)) ?_
          rintro h5 ⟨f5, S5, e5⟩
          refine sp_pos mi_bo1 (sp_some.mpr ⟨f04.trans f5, rfl, ?_, U4.of e5⟩)
          show US h5 u z.1 (c ++ (z.2.1 ++ [cop (nbr B L y.2.2)]).map tkc)
          rw [List.map_append, ← List.append_assoc]
          exact S5
      · rw [if_neg q]
        refine sp_neg (by rw [kc_b_60, nx_lt (by omega) (by omega)]; exact q) ?_
        rw [u4, kc_i3, t_blame_n, Option.bind_some]
        exact sp_pos mi_bo0 (sp_some.mpr ((u_blame_n hu S1.any).of f1))
theorem cmpP_ok {y : Nat × List Nat × Nat} (e : cmpP B L k l p = .inr y) (hp : p ≤ L) (G : GT n0 ts k l) : y.2.1.length + p ≤ l.length + y.2.2 ∧ p < y.2.2 ∧ y.2.2 ≤ L ∧ ca B L y.2.2 ≠ 32 ∧ y.1 ≤ 60 ∧ k < y.1 ∧ GT n0 (true :: ts) y.1 y.2.1 := by
  unfold cmpP at e
  split at e
  · cases e
  · rename_i z ez
    obtain ⟨o1, o2, o3, o4, o5, o6, G1⟩ := sumP_ok ez hp G
    split at e
    · rename_i hc
      obtain ⟨k3, hn⟩ := nbr_c hc
      have bg := bh_ge (B := B) o3
      have gt := bh_gt o3 (kd_256 k3 (by omega))
      have sg := skp_ge (B := B) bg.2
      split at e
      · split at e
        · cases e
        · rename_i w ew
          have G2 : GT n0 (false :: ts) (z.1 + 1) z.2.1 := ⟨G1.1, G1.2.1, by have := G1.2.2; omega⟩
          obtain ⟨p1, p2, p3, p4, p5, p6, G3⟩ := sumP_ok ew sg.2 G2
          cases e
          have ln : (w.2.1 ++ [cop (nbr B L z.2.2)]).length = w.2.1.length + 1 := List.length_append
          refine ⟨by dsimp only; omega, by dsimp only; omega, p3, p4, p5, by dsimp only; omega, ?_⟩
          rcases hn with q | q | q | q | q <;> rw [q] <;> exact G3.add rfl (by decide) (Nat.le_refl _)
      · cases e
    · cases e
end UCM
