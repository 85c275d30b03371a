/-! A rule's text: a sum, read by the program: its loop. -/
theorem wh_step {S T : Type} {f : S → Option (S ⊕ T)} {s : S} {P : T → Prop} (h : SP (f s) (fun q => match q with | .inl s' => SP (wh f s') P | .inr r => P r)) : SP (wh f s) P := by
  obtain ⟨q, e, hq⟩ := h
  cases q with
  | inl s' => rw [wh_inl e]; exact hq
  | inr r => rw [wh_inr e]; exact sp_some.mpr hq
def SE (h0 : pm_H) (u : Nat) (B : Nat → Nat) (L : Nat) (c : List Int32) (o : RDO) (q : (Int32 × Int32 × pm_H) ⊕ (Int32 × Int32 × pm_H)) : Prop := SP (match q with | (.inl y) => u_readSum_150 u y.1 y.2.1 y.2.2 | (.inr y) => u_readSum_150 u y.1 y.2.1 y.2.2) (UO h0 u B L c o)
def SQ (h0 : pm_H) (u : Nat) (B : Nat → Nat) (L : Nat) (c : List Int32) (o : RDO) (q : (Int32 × Int32 × Int32 × pm_H) ⊕ (Int32 × Int32 × pm_H) ⊕ (Int32 × Int32 × pm_H)) : Prop := match q with
  | .inl s' => SP (wh (fun s : (Int32 × Int32 × Int32 × pm_H) => u_readSum_11 u 1 s.1 s.2.1 s.2.2.1 s.2.2.2) s') (SE h0 u B L c o)
  | .inr r => SE h0 u B L c o r
section US2
variable {h h0 : pm_H} {u k L p : Nat} {B : Nat → Nat} {c : List Int32} {l : List Nat}
/-- the sign that the program sees -/
theorem u_sgn (U : UNT h B L p) (hB : ∀ k, k < L → B k < 256) {β : Type} {X : Int32 → Option β} {P : β → Prop} (g : ∀ s, s = (if kd (ca B L p) = 3 then nI (nbr B L p) else ng 1) → SP (X s) P) : SP (if ¬ h.2.1 1 2 = Int32.ofInt 3 then X (Int32.ofInt (-1)) else X (h.2.1 1 6)) P := by
  have kl := kd_le (ca B L p)
  obtain ⟨u1, u2, u3, u4, u5, u6, u7⟩ := U
  rw [u3, u7]
  by_cases q : kd (ca B L p) = 3
  · refine sp_neg (fun z => z (by rw [q, kc_i3])) (g _ ?_)
    rw [if_pos q]
  · refine sp_pos (by rw [kc_i3, nx_eq (by omega) (by omega)]; exact q) (g _ ?_)
    rw [if_neg q, kc_im1]
theorem nbr_le (hB : ∀ k, k < L → B k < 256) (q : kd (ca B L p) = 3) : nbr B L p < 1000 := by
  have cl : ca B L p ≤ 256 := ca_le hB
  unfold nbr
  rw [if_pos q]
  split <;> omega
theorem sgn_eq (hB : ∀ k, k < L → B k < 256) {s : Int32} (e : s = (if kd (ca B L p) = 3 then nI (nbr B L p) else ng 1)) {x : Nat} (hx : x < 256) (h60 : x ≠ 60) (h62 : x ≠ 62) (hk : kd x = 3) : (s = nI x) ↔ ca B L p = x := by
  rw [← sign_at (B := B) (L := L) (p := p) hx h60 h62 hk, e]
  by_cases q : kd (ca B L p) = 3
  · have nl := nbr_le hB q
    rw [if_pos q, nx_eq (by omega) (by omega)]
    exact ⟨fun z => ⟨q, z⟩, fun z => z.2⟩
  · rw [if_neg q, ng_eq_n (by omega) (by omega) (by omega)]
    exact ⟨fun z => z.elim, fun z => q z.1⟩
theorem u_sumW (hu : mi_o u 6 = true) : ∀ (f i : Nat) (w : Option Nat) (k : Nat) (l : List Nat) (p : Nat) (h : pm_H), f + i = 400 → RF h → CT h L B → FV u h0 h → UNT h B L p → (∀ x, w = some x → isAd x = true) → US h u k (c ++ l.map tkc) → k ≤ 60 → c.length + l.length + wn w ≤ p + 12 → SP (wh (fun s : (Int32 × Int32 × Int32 × pm_H) => u_readSum_11 u 1 s.1 s.2.1 s.2.2.1 s.2.2.2) (wv w, nI 1, nI i, h)) (fun q => SP (match q with | (.inl y) => u_readSum_150 u y.1 y.2.1 y.2.2 | (.inr y) => u_readSum_150 u y.1 y.2.1 y.2.2) (UO h0 u B L c (sumL B L f w k l p)))
  | 0, i, w, k, l, p, h, hi, R, C, f0, U, hw, S, hk, hb => by
    have : wh (fun s : (Int32 × Int32 × Int32 × pm_H) => u_readSum_11 u 1 s.1 s.2.1 s.2.2.1 s.2.2.2) (wv w, nI 1, nI i, h) = some (.inr (wv w, nI 1, h)) := by
      refine wh_inr ?_
      unfold u_readSum_11
      refine (if_neg n10).trans (if_pos ?_)
      rw [kc_s_400, nx_le (by omega) (by omega)]
      omega
    rw [this]
    exact sp_some.mpr ((u_sum_end R C hu U hw S hb).mono (fun z hz => hz.of f0))
  | f + 1, i, w, k, l, p, h, hi, R, C, f0, U, hw, S, hk, hb => by
    have hL := C.2.1
    have hB := fun k hk => (C.2.2 k hk).2
    have hv := rule_ge hu
    have U' := U
    obtain ⟨u1, u2, u3, u4, u5, u6, u7⟩ := U
    have bg := bh_ge (B := B) u1
    have sg := skp_ge (B := B) bg.2
    have len : (c ++ l.map tkc).length = c.length + l.length := by rw [List.length_append, List.length_map]
    suffices hs : SP (u_readSum_11 u 1 (wv w) (nI 1) (nI i) h) (SQ h0 u B L c (sumL B L (f + 1) w k l p)) from wh_step (hs.mono (by rintro (q | q) hq <;> exact hq))
    -- one sign and the value behind it
    have go : ∀ (bi : Bool) (w1 : Option Nat) (l1 : List Nat) (x : Nat) (h1 : pm_H) (s : Int32) (o : RDO), s = nI x → FV u h0 h1 → RF h1 → CT h1 L B → UNT h1 B L p → US h1 u k (c ++ l1.map tkc) → ca B L p ≠ 256 → (∀ y, w1 = some y → isAd y = true) → c.length + l1.length + wn w1 + bi.toNat ≤ p + 13 → (bi = true → isBi x = true) → o = (match valP B L k l1 (skp B L (bh B L p)) with | .inl e => .inl e | .inr y => sumL B L f w1 y.1 (if bi = true then y.2.1 ++ [sop x] else y.2.1) y.2.2) → SP (u_readSum_119 u 1 (nI i) s (nI bi.toNat) (wv w1) h1) (SQ h0 u B L c o) := by
      intro bi w1 l1 x h1 s o es f1 R1 C1 U1 S1 c256 hw1 hb1 hbi ho
      have gt := bh_gt u1 c256
      subst es
      unfold u_readSum_119
      refine sp_call (t_advance_sp R1 C1 U1.2.2.2.2.1 bg.2) ?_
      rintro h2 ⟨f2, U2, _⟩
      have f02 := f1.trans (f2.fv u)
      refine sp_call (u_value_n (d := 0) (f2.rf R1) (f2.ct C1) hu U2 (f2.us hu S1) hk (by omega)) ?_
      rintro ⟨v, h3⟩ ⟨f3, hz⟩
      dsimp only at f3 hz ⊢
      have f03 := f02.trans f3
      have R3 := f3.rf (f2.rf R1)
      have C3 := f3.ct hu (f2.ct C1)
      rw [kc_i1, nx_add]
      cases ev : valP B L k l1 (skp B L (bh B L p)) with
      | inl e =>
        rw [ev] at hz ho
        dsimp only at ho
        obtain ⟨y1, y2, y3⟩ := hz
        subst y1 ho
        cases bi with
        | false => exact sp_pos rfl (sp_some.mpr (u_sum_fail R3 hu f03 y2 y3 _ _))
        | true =>
          refine sp_neg n10 ?_
          obtain ⟨n, n1, n2⟩ := y3
          refine sp_call (u_step_any R3 hu n1 n2) ?_
          rintro h4 ⟨f4, hn4, e4⟩
          exact sp_some.mpr (u_sum_fail (f4.rf R3) hu (f03.trans f4) (by rw [e4]; exact y2) hn4 _ _)
      | inr y =>
        rw [ev] at hz ho
        dsimp only at ho
        obtain ⟨y1, y2, y3⟩ := hz
        obtain ⟨o1, o2, o3, o4, o5, o6⟩ := valP_ok ev sg.2
        subst y1 ho
        cases bi with
        | false =>
          refine sp_pos rfl (sp_some.mpr ?_)
          have hb1' : c.length + l1.length + wn w1 + 0 ≤ p + 13 := hb1
          exact u_sumW hu f (i + 1) w1 y.1 y.2.1 y.2.2 h3 (by omega) R3 C3 f03 y3 hw1 y2 (by omega) (by omega)
        | true =>
          refine sp_neg n10 ?_
          have hb1' : c.length + l1.length + wn w1 + 1 ≤ p + 13 := hb1
          rw [← tk_sop (.inl (hbi rfl))]
          refine sp_call (u_step_n R3 hu y2 (by rw [List.length_append, List.length_map]; omega)) ?_
          rintro h4 ⟨f4, S4, e4⟩
          refine sp_some.mpr ?_
          rw [if_pos rfl]
          refine u_sumW hu f (i + 1) w1 y.1 (y.2.1 ++ [sop x]) y.2.2 h4 (by omega) (f4.rf R3) (f4.ct hu C3) (f03.trans f4) (y3.of e4) hw1 ?_ (by omega) ?_
          · rw [List.map_append, ← List.append_assoc]
            exact S4
          · rw [List.length_append]
            show c.length + (y.2.1.length + 1) + wn w1 ≤ _
            omega
    unfold u_readSum_11
    refine sp_neg n10 (sp_neg (by rw [kc_s_400, nx_le (by omega) (by omega)]; omega) ?_)
    refine u_sgn U' hB (X := fun s => u_readSum_39 u 1 (wv w) (nI 1) (nI i) s h) ?_
    intro s es
    have q42 := sgn_eq hB es (x := 42) (by omega) (by omega) (by omega) (by decide)
    have q47 := sgn_eq hB es (x := 47) (by omega) (by omega) (by omega) (by decide)
    have q37 := sgn_eq hB es (x := 37) (by omega) (by omega) (by omega) (by decide)
    have q43 := sgn_eq hB es (x := 43) (by omega) (by omega) (by omega) (by decide)
    have q45 := sgn_eq hB es (x := 45) (by omega) (by omega) (by omega) (by decide)
    -- a sign that binds
    have binds : ∀ x, s = nI x → ca B L p = x → isBi x = true → SP (u_readSum_62 u 1 (wv w) (nI 1) (nI i) s h) (SQ h0 u B L c (sumL B L (f + 1) w k l p)) := by
      intro x ex ec hx
      unfold u_readSum_62 u_readSum_67
      refine sp_pos n10 ?_
      unfold u_readSum_91
      refine sp_pos n10 ?_
      unfold u_readSum_108
      refine sp_neg n10 ?_
      refine go true w l x h s _ ex f0 R C U' S (by rw [ec]; rw [isBi_t] at hx; omega) hw (by show c.length + l.length + wn w + 1 ≤ _; omega) (fun _ => hx) ?_
      rw [sumL, ec, if_pos hx]
      cases valP B L k l (skp B L (bh B L p)) <;> rfl
    -- a sign that waits
    have adds : ∀ x, s = nI x → ca B L p = x → isBi x = false → isAd x = true → SP (u_readSum_91 u 1 (wv w) (nI i) s (nI 0) h) (SQ h0 u B L c (sumL B L (f + 1) w k l p)) := by
      intro x ex ec hx hx2
      have c256 : ca B L p ≠ 256 := by rw [ec]; rw [isAd_t] at hx2; omega
      have pL := (ca_in c256).1
      have es2 : sumL B L (f + 1) w k l p = (match valP B L k (fin w l) (skp B L (bh B L p)) with | .inl e => .inl e | .inr y => sumL B L f (some x) y.1 (if false = true then y.2.1 ++ [sop x] else y.2.1) y.2.2) := by
        rw [sumL, ec, hx, if_neg (by decide), if_pos hx2]
        cases valP B L k (fin w l) (skp B L (bh B L p)) <;> rfl
      have last : ∀ h1, FV u h0 h1 → RF h1 → CT h1 L B → UNT h1 B L p → US h1 u k (c ++ (fin w l).map tkc) → SP (u_readSum_108 u 1 (wv w) (nI i) s (nI 0) h1) (SQ h0 u B L c (sumL B L (f + 1) w k l p)) := by
        intro h1 f1 R1 C1 U1 S1
        unfold u_readSum_108
        refine sp_pos rfl ?_
        have g := go false (some x) (fin w l) x h1 s _ ex f1 R1 C1 U1 S1 c256 (fun y hy => by cases hy; exact hx2) (by
          have : (fin w l).length = l.length + wn w := by cases w with | none => rfl | some z => exact List.length_append
          rw [this]
          show c.length + (l.length + wn w) + 1 + 0 ≤ _
          omega) (fun z => by cases z) es2
        rw [ex] at g ⊢
        exact g
      unfold u_readSum_91
      refine sp_neg (fun z => z rfl) ?_
      cases w with
      | none => exact sp_pos (by decide) (last h f0 R C U' S)
      | some z =>
        have hz := hw z rfl
        have hz' : z < 256 := by rw [isAd_t] at hz; omega
        have hb' : c.length + l.length + 1 ≤ p + 12 := hb
        refine sp_neg (by show ¬ nI z < 0; rw [kc_0, nx_lt (by omega) (by omega)]; omega) ?_
        show SP ((u_step u ((Int8.ofInt (-100)).toInt32 - nI z) h).bind _) _
        rw [← tk_sop (.inr hz)]
        refine sp_call (u_step_n R hu S (by rw [len]; omega)) ?_
        rintro h1 ⟨f1, S1, e1⟩
        refine last h1 (f0.trans f1) (f1.rf R) (f1.ct hu C) (U'.of e1) ?_
        show US h1 u k (c ++ (l ++ [sop z]).map tkc)
        rw [List.map_append, ← List.append_assoc]
        exact S1
    show SP (u_readSum_39 u 1 (wv w) (nI 1) (nI i) s h) _
    unfold u_readSum_39
    rw [kc_b_42, kc_b_47, kc_b_37]
    by_cases x1 : s = nI 42
    · exact sp_pos x1 (binds 42 x1 (q42.mp x1) rfl)
    by_cases x2 : s = nI 47
    · exact sp_neg x1 (sp_pos x2 (binds 47 x2 (q47.mp x2) rfl))
    by_cases x3 : s = nI 37
    · exact sp_neg x1 (sp_neg x2 (sp_neg (fun z => z x3) (binds 37 x3 (q37.mp x3) rfl)))
    refine sp_neg x1 (sp_neg x2 (sp_pos x3 ?_))
    unfold u_readSum_67
    rw [kc_b_43, kc_b_45, kc_i0]
    refine sp_neg (fun z => z rfl) ?_
    by_cases x4 : s = nI 43
    · exact sp_pos x4 (adds 43 x4 (q43.mp x4) rfl rfl)
    by_cases x5 : s = nI 45
    · exact sp_neg x4 (sp_pos x5 (adds 45 x5 (q45.mp x5) rfl rfl))
    refine sp_neg x4 (sp_neg x5 (sp_some.mpr ?_))
    have nb : isBi (ca B L p) = false := decide_eq_false (fun z => z.elim (fun z => x1 (q42.mpr z)) (fun z => z.elim (fun z => x2 (q47.mpr z)) (fun z => x3 (q37.mpr z))))
    have na : isAd (ca B L p) = false := decide_eq_false (fun z => z.elim (fun z => x4 (q43.mpr z)) (fun z => x5 (q45.mpr z)))
    have es2 : sumL B L (f + 1) w k l p = .inr (k, fin w l, p) := by
      rw [sumL, nb, na, if_neg (by decide), if_neg (by decide)]
    rw [es2]
    exact (u_sum_end R C hu U' hw S hb).mono (fun z hz => hz.of f0)
theorem u_sum_n (R : RF h) (C : CT h L B) (hu : mi_o u 6 = true) (U : UNT h B L p) (S : US h u k (c ++ l.map tkc)) (hk : k ≤ 60) (hb : c.length + l.length ≤ p + 12) : SP (u_readSum u 1 h) (UO h u B L c (sumP B L k l p)) := by
  unfold u_readSum sumP
  refine sp_call (u_value_n (d := 0) R C hu U S hk (by omega)) ?_
  rintro ⟨v, h1⟩ ⟨f1, hz⟩
  dsimp only at f1 hz ⊢
  rw [kc_im1, kc_i0]
  cases ev : valP B L k l p with
  | inl e =>
    rw [ev] at hz
    obtain ⟨y1, y2, y3⟩ := hz
    subst y1
    exact sp_call (u_sum_fail (B := B) (L := L) (c := c) (f1.rf R) hu f1 y2 y3 _ _) (fun q hq => hq)
  | inr y =>
    rw [ev] at hz
    obtain ⟨y1, y2, y3⟩ := hz
    obtain ⟨o1, o2, o3, o4, o5, o6⟩ := valP_ok ev U.1
    subst y1
    exact sp_call (u_sumW hu 400 0 none y.1 y.2.1 y.2.2 h1 rfl (f1.rf R) (f1.ct hu C) f1 y3 (fun x hx => by cases hx) y2 (by omega) (by show c.length + y.2.1.length + 0 ≤ _; omega)) (fun q hq => hq)
end US2
