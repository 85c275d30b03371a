/-! Making: rows for what is made, and what holds of a world half made. -/
section MKR
variable {b : Bool} {L : Nat} {xs : Nat → Int32} {d i kc ks pc : Nat} {ls st r : List Value} {h : pm_H} {Q : Option Value → pm_H → Prop} {x : Nat}
theorem pc_inM {j n mc ms : Nat} {as ls0 : List Value} (hm : (tb_me j).2.1 = (mc, ms) ∧ (tb_me j).1.2.2.1 = n) (he : pm_ent as n = ls0) (k : PW b L xs d j mc ms 0 ls0 [] h Q) : PC b L xs d j as h Q := by
  unfold PC pm_C
  rw [hm.1, hm.2, he]
  exact k
theorem pw_new {ci q kc' ks' : Nat} (hdg : decode (tb_me i).1.2.1 pc = .ok (.new x, 3)) (hk : tb_lk b i x = (q, ci, 0, 0, 0)) (hq : q = 9 ∨ q = 10) (hc : kc = kc' + 1 ∧ ks = ks' + pm_nf tb_cl ci ∧ ci < tb_cl.length) (hl : h.1.length < pm_B) (kk : PW b L xs d i kc' ks' (pc + 3) ls (.ref h.1.length :: st) (pm_mk h (.inr ci)) Q) : PW b L xs d i kc ks pc ls st h Q := by
  refine pw_h hdg rfl rfl rfl rfl rfl (?_ : _ = some (kc', ks', pc + 3, .ref h.1.length :: st, pm_mk h (.inr ci))) kk
  simp only [pm_hp, hk]
  rw [if_pos hq]
  unfold pm_new
  rw [if_pos ⟨by omega, by omega, hl, hc.2.2⟩, hc.1, hc.2.1, Nat.add_sub_cancel, Nat.add_sub_cancel]
theorem pw_na {n kc' ks' : Nat} {v : Int32} {t : ArrayType} {ty : FieldType} (hdg : decode (tb_me i).1.2.1 pc = .ok (.newarray t, 2)) (ht : (t = .int ∨ t = .byte ∨ t = .boolean ∨ t = .long) ∧ pm_atype t = ty) (hv : v.toNatClampNeg = n ∧ ¬ v < 0 ∧ n ≤ 60000) (hc : kc = kc' + 1 ∧ ks = ks' + n) (hl : h.1.length < pm_B) (kk : PW b L xs d i kc' ks' (pc + 2) ls (.ref h.1.length :: st) (pm_mk h (.inl (ty, n))) Q) : PW b L xs d i kc ks pc ls (.int v :: st) h Q := by
  refine pw_h hdg rfl rfl rfl rfl rfl (?_ : _ = some (kc', ks', pc + 2, .ref h.1.length :: st, pm_mk h (.inl (ty, n)))) kk
  simp only [pm_hp]
  rw [if_pos ht.1]
  simp only [pm_newa, hv.1]
  rw [if_pos ⟨hv.2.1, hv.2.2, hl⟩, ht.2]
  simp only [pm_arr]
  rw [if_pos ⟨by omega, by omega⟩, hc.1, hc.2, Nat.add_sub_cancel, Nat.add_sub_cancel]
theorem pw_nr {n ci kc' ks' : Nat} {v : Int32} {C : String} (hdg : decode (tb_me i).1.2.1 pc = .ok (.anewarray x, 3)) (hk : tb_lk b i x = (10, ci, 0, 0, 0)) (hC : (tb_cl.getD ci ("", fun _ => ("", "", "", false), 0)).1 = C) (hv : v.toNatClampNeg = n ∧ ¬ v < 0 ∧ n ≤ 60000) (hc : kc = kc' + 1 ∧ ks = ks' + n) (hl : h.1.length < pm_B) (kk : PW b L xs d i kc' ks' (pc + 3) ls (.ref h.1.length :: st) (pm_mk h (.inl (.object C, n))) Q) : PW b L xs d i kc ks pc ls (.int v :: st) h Q := by
  refine pw_h hdg rfl rfl rfl rfl rfl (?_ : _ = some (kc', ks', pc + 3, .ref h.1.length :: st, pm_mk h (.inl (.object C, n)))) kk
  simp only [pm_hp, hk, if_true, pm_newa, hv.1, hC]
  rw [if_pos ⟨hv.2.1, hv.2.2, hl⟩]
  simp only [pm_arr]
  rw [if_pos ⟨by omega, by omega⟩, hc.1, hc.2, Nat.add_sub_cancel, Nat.add_sub_cancel]
theorem pw_oi {k : Nat} (hd : 1 ≤ d) (hdg : decode (tb_me i).1.2.1 pc = .ok (.invokespecial x, 3)) (hk : tb_lk b i x = (8, 0, 0, 0, 0)) (h8 : (r.map fun v => v.category).sum ≤ 8) (kk : PW b L xs d i kc ks (pc + 3) ls r h Q) : PW b L xs d i kc ks pc ls (.ref k :: r) h Q := by
  refine pw_h hdg rfl rfl rfl rfl rfl (?_ : _ = some (kc, ks, pc + 3, r, h)) kk
  simp only [pm_hp, hk, if_true, pm_oI]
  rw [if_pos ⟨hd, h8⟩]
  rfl
theorem pw_pn {k ci j : Nat} (hdg : decode (tb_me i).1.2.1 pc = .ok (.putfield x, 3)) (hk : tb_lk b i x = (1, ci, j, 0, 0)) (hs : h.1[k]? = some (.inr ci)) (hj : (j < pm_nf tb_cl ci) ∧ pm_isR (tb_ft ci j) = true ∧ pm_fin tb_cl (tb_me i).1.1 ci j = true) (kk : PW b L xs d i kc ks (pc + 3) ls r (pm_setR h k j none) Q) : PW b L xs d i kc ks pc ls (.null :: .ref k :: r) h Q := by
  refine pw_h hdg rfl rfl rfl rfl rfl (?_ : _ = some (kc, ks, pc + 3, r, pm_setR h k j none)) kk
  simp only [pm_hp, hk, if_true, pm_put]
  rw [if_pos ⟨⟨hs, hj.1⟩, hj.2.2, hj.2.1⟩]
  rfl
theorem pw_sr {k y n ci : Nat} {C : String} {v : Int32} (hdg : decode (tb_me i).1.2.1 pc = .ok (.aastore, 1)) (hs : h.1[k]? = some (.inl (.object C, n))) (hx : h.1[y]? = some (.inr ci)) (hC : (tb_cl[ci]?).map (fun q => q.1) = some C) (hi : vp_in v n) (kk : PW b L xs d i kc ks (pc + 1) ls r (pm_setR h k v.toNatClampNeg (some y)) Q) : PW b L xs d i kc ks pc ls (.ref y :: .int v :: .ref k :: r) h Q := by
  refine pw_h hdg rfl rfl rfl rfl rfl (?_ : _ = some (kc, ks, pc + 1, r, pm_setR h k v.toNatClampNeg (some y))) kk
  simp only [pm_hp, pm_astR, hs, hx]
  rw [if_pos ⟨hC, hi⟩]
  rfl
/-- a constructor is called -/
theorem pw_k {j np ci mc ms mL q kc' ks' : Nat} {as rest : List Value} {Qj : Option Value → pm_H → Prop} (hd : 1 ≤ d) (hdg : decode (tb_me i).1.2.1 pc = .ok (.invokespecial x, 3)) (hk : tb_lk b i x = (q, j, 0, 0, 0)) (hq : q = 6 ∨ q = 7) (hm : (tb_me j).2 = ((mc, ms), (np, ci)) ∧ (tb_me j).1.2.2.1 = mL) (hst : pm_isref st[np]? = true) (hc : kc = kc' + mc ∧ ks = ks' + ms) (h8 : ((st.drop (np + 1)).map fun v => v.category).sum ≤ 8) (h9 : ((st.take (np + 1)).map fun v => v.category).sum ≤ mL) (has : (st.take (np + 1)).reverse = as) (hre : st.drop (np + 1) = rest)
    (hcal : PC b L xs (d - 1) j as h Qj) (kk : ∀ v h', Qj v h' → PW b L xs d i kc' ks' (pc + 3) ls (v.toList ++ rest) h' Q) : PW b L xs d i kc ks pc ls st h Q := by
  refine pw_c hd hdg rfl rfl rfl rfl rfl ?_ (?_ : _ = some (j, as, rest)) hcal (fun v h' hv => ?_)
  · simp only [pm_hp, hk]
    rcases hq with rfl | rfl <;> simp
  · simp only [pm_cal, hk, hm.1, hm.2]
    rw [if_pos ⟨hq, hst, by omega, by omega, h8, h9⟩, has, hre]
  · rw [hm.1, hc.1, hc.2, Nat.add_sub_cancel, Nat.add_sub_cancel]
    exact kk v h' hv
/-- the script -/
theorem pw_sc {v : Int32} (hdg : decode (tb_me i).1.2.1 pc = .ok (.iaload, 1)) (hl : h.1.length ≤ 1000) (hi : vp_in v L) (kk : PW b L xs d i kc ks (pc + 1) ls (.int (xs v.toNatClampNeg) :: r) h Q) : PW b L xs d i kc ks pc ls (.int v :: .ref pm_B :: r) h Q := by
  refine pw_h hdg rfl rfl rfl rfl rfl (?_ : _ = some (kc, ks, pc + 1, .int (xs v.toNatClampNeg) :: r, h)) kk
  have e : h.1[pm_B]? = none := List.getElem?_eq_none (by unfold pm_B; omega)
  have e2 : tb_kt L xs (pm_B - pm_B) = some (.inl (.int, L, xs)) := by rw [Nat.sub_self]; rfl
  simp only [pm_hp, pm_aldI, e]
  rw [if_pos (Nat.le_refl _), e2]
  dsimp only
  rw [if_pos ⟨decide_eq_true rfl, hi⟩]
  rfl
theorem pw_sl2 (hdg : decode (tb_me i).1.2.1 pc = .ok (.arraylength, 1)) (hl : h.1.length ≤ 1000) (kk : PW b L xs d i kc ks (pc + 1) ls (.int (Int32.ofNat L) :: r) h Q) : PW b L xs d i kc ks pc ls (.ref pm_B :: r) h Q := by
  refine pw_h hdg rfl rfl rfl rfl rfl (?_ : _ = some (kc, ks, pc + 1, .int (Int32.ofNat L) :: r, h)) kk
  have e : h.1[pm_B]? = none := List.getElem?_eq_none (by unfold pm_B; omega)
  have e2 : tb_kt L xs (pm_B - pm_B) = some (.inl (.int, L, xs)) := by rw [Nat.sub_self]; rfl
  simp only [pm_hp, pm_alen, e]
  rw [if_pos (Nat.le_refl _), e2]
  rfl
end MKR
/-- what may be other than 0 in a new world -/
def EX (c j : Nat) : Prop := (mi_o c 3 = true ∧ j = 4) ∨ c = 68 ∨ c = 203
/-- the first N cells of the world stand; P the cells whose references are not all set -/
def NW (N : Nat) (P : Nat → Prop) (h : pm_H) : Prop := h.1 = tb_SH.take N ∧ N ≤ 214 ∧ (∀ c j, ¬ EX c j → h.2.1 c j = nI 0) ∧ ∀ q ∈ tb_rf, q.1.1 < N → ¬ P q.1.1 → h.2.2.2 q.1.1 q.1.2 = some q.2
def LO (k : Nat) (h h' : pm_H) : Prop := ∀ c, c < k → h'.2.1 c = h.2.1 c ∧ h'.2.2.2 c = h.2.2.2 c
theorem tb_SHl : tb_SH.length = 214 := by decide +kernel
theorem rr_s {h : pm_H} {a k : Nat} (v : Option Nat) : (pm_setR h a k v).2.2.2 a k = v := by show (if a = a then (if k = k then v else _) else _) = v; rw [if_pos rfl, if_pos rfl]
theorem rr_j {h : pm_H} {a k j : Nat} (v : Option Nat) (hj : j ≠ k) : (pm_setR h a k v).2.2.2 a j = h.2.2.2 a j := by show (if a = a then (if j = k then v else _) else _) = _; rw [if_pos rfl, if_neg hj]
theorem rr_c {h : pm_H} {a k c j : Nat} (v : Option Nat) (hc : c ≠ a) : (pm_setR h a k v).2.2.2 c j = h.2.2.2 c j := by show (if c = a then _ else _) = _; rw [if_neg hc]
theorem rm_c {h : pm_H} {c j : Nat} (sh : pm_Sh) (hc : c ≠ h.1.length) : (pm_mk h sh).2.2.2 c j = h.2.2.2 c j := by show (if c = h.1.length then _ else _) = _; rw [if_neg hc]
theorem im_c {h : pm_H} {c j : Nat} (sh : pm_Sh) (hc : c ≠ h.1.length) : (pm_mk h sh).2.1 c j = h.2.1 c j := by show (if c = h.1.length then _ else _) = _; rw [if_neg hc]
theorem im_s {h : pm_H} {j : Nat} (sh : pm_Sh) : (pm_mk h sh).2.1 h.1.length j = nI 0 := by show (if h.1.length = h.1.length then _ else _) = _; rw [if_pos rfl]; rfl
section NWS
variable {N k m : Nat} {P P' : Nat → Prop} {h h' h0 : pm_H} {F : List (Nat × Nat)}
theorem NW.len (W : NW N P h) : h.1.length = N := by
  rw [W.1, List.length_take, tb_SHl]
  have := W.2.1
  omega
theorem NW.lt (W : NW N P h) : h.1.length < pm_B := by
  have := W.len
  have := W.2.1
  unfold pm_B
  omega
theorem NW.at (W : NW N P h) {c : Nat} (hc : c < N) {x : pm_Sh} (e : tb_SH[c]? = some x) : h.1[c]? = some x := by
  rw [W.1, List.getElem?_take_of_lt hc]
  exact e
theorem NW.o (W : NW N P h) {c ci : Nat} (hc : c < N) (e : mi_o c ci = true) : h.1[c]? = some (.inr ci) := W.at hc (of_decide_eq_true e)
theorem NW.weak (W : NW N P h) (hP : ∀ q ∈ tb_rf, q.1.1 < N → P q.1.1 → P' q.1.1 ∨ h.2.2.2 q.1.1 q.1.2 = some q.2) : NW N P' h := by
  refine ⟨W.1, W.2.1, W.2.2.1, fun q hq hN hp => ?_⟩
  by_cases z : P q.1.1
  · exact (hP q hq hN z).elim (fun y => absurd y hp) id
  · exact W.2.2.2 q hq hN z
theorem NW.mk (W : NW N P h) {sh : pm_Sh} (e : tb_SH[N]? = some sh) : NW (N + 1) (fun c => P c ∨ c = N) (pm_mk h sh) := by
  have l := W.len
  have n1 : N < 214 := by
    rw [← tb_SHl]
    exact (List.getElem?_eq_some_iff.mp e).1
  refine ⟨?_, n1, fun c j hc => ?_, fun q hq hN hp => ?_⟩
  · show h.1 ++ [sh] = tb_SH.take (N + 1)
    rw [W.1, List.take_add_one, e]
    rfl
  · by_cases z : c = N
    · rw [z, ← l, im_s]
    · rw [im_c _ (by rw [l]; exact z)]
      exact W.2.2.1 c j hc
  · have z : q.1.1 ≠ N := fun z => hp (.inr z)
    rw [rm_c _ (by rw [l]; exact z)]
    exact W.2.2.2 q hq (by omega) (fun y => hp (.inl y))
theorem NW.setI (W : NW N P h) {c j : Nat} {v : Int32} (hv : v = nI 0 ∨ EX c j) : NW N P (pm_setI h c j v) := by
  refine ⟨W.1, W.2.1, fun c' j' hc => ?_, W.2.2.2⟩
  by_cases z : c' = c
  · by_cases z2 : j' = j
    · subst z z2
      rw [ri_s]
      exact hv.elim id (fun y => absurd y hc)
    · subst z
      rw [ri_j _ z2]
      exact W.2.2.1 c' j' hc
  · rw [ri_c _ z]
    exact W.2.2.1 c' j' hc
theorem NW.setR (W : NW N P h) {c j : Nat} {v : Option Nat} (hp : P c) : NW N P (pm_setR h c j v) := by
  refine ⟨W.1, W.2.1, W.2.2.1, fun q hq hN hp' => ?_⟩
  rw [rr_c _ (fun z => hp' (by rw [z]; exact hp))]
  exact W.2.2.2 q hq hN hp'
theorem LO.refl (k : Nat) (h : pm_H) : LO k h h := fun _ _ => ⟨rfl, rfl⟩
theorem LO.trans {h1 h2 : pm_H} (a : LO k h h1) (c : LO k h1 h2) : LO k h h2 := fun x hx => ⟨(c x hx).1.trans (a x hx).1, (c x hx).2.trans (a x hx).2⟩
theorem LO.mono {k' : Nat} (a : LO k h h') (hk : k' ≤ k) : LO k' h h' := fun x hx => a x (by omega)
theorem LO.mk (a : LO k h0 h) (sh : pm_Sh) (hl : k ≤ h.1.length) : LO k h0 (pm_mk h sh) := fun x hx => ⟨by
  rw [← (a x hx).1]; funext j; exact im_c _ (by omega), by
  rw [← (a x hx).2]; funext j; exact rm_c _ (by omega)⟩
theorem LO.setI (a : LO k h0 h) {c j : Nat} (v : Int32) (hc : k ≤ c) : LO k h0 (pm_setI h c j v) := fun x hx => ⟨by
  rw [← (a x hx).1]; funext j; exact ri_c _ (by omega), (a x hx).2⟩
theorem LO.setR (a : LO k h0 h) {c j : Nat} (v : Option Nat) (hc : k ≤ c) : LO k h0 (pm_setR h c j v) := fun x hx => ⟨(a x hx).1, by
  rw [← (a x hx).2]; funext j; exact rr_c _ (by omega)⟩
/-- in a constructor of the object k: m cells made, the references F set -/
def CS (k : Nat) (P : Nat → Prop) (h0 : pm_H) (m : Nat) (F : List (Nat × Nat)) (h : pm_H) : Prop := NW (k + 1 + m) (fun c => P c ∨ c = k) h ∧ LO k h0 h ∧ ∀ f ∈ F, h.2.2.2 k f.1 = some f.2
theorem tb_rfA : ∀ q ∈ tb_rf, (match tb_SH[q.1.1]? with | some (.inl (.object _, _)) => true | some (.inr _) => true | _ => false) = true := by decide +kernel
theorem CS.len (W : CS k P h0 m F h) : h.1.length = k + 1 + m := W.1.len
theorem CS.I (W : CS k P h0 m F h) {j : Nat} {v : Int32} (hv : v = nI 0 ∨ EX k j) : CS k P h0 m F (pm_setI h k j v) := ⟨W.1.setI hv, W.2.1.setI v (Nat.le_refl k), W.2.2⟩
theorem CS.R (W : CS k P h0 m F h) {j y : Nat} (hj : ∀ f ∈ F, f.1 ≠ j) : CS k P h0 m ((j, y) :: F) (pm_setR h k j (some y)) := by
  refine ⟨W.1.setR (.inr rfl), W.2.1.setR _ (Nat.le_refl k), fun f hf => ?_⟩
  rw [List.mem_cons] at hf
  rcases hf with rfl | hf
  · exact rr_s _
  · rw [rr_j _ (hj f hf)]
    exact W.2.2 f hf
theorem CS.Z (W : CS k P h0 m F h) {j : Nat} {v : Option Nat} (hj : ∀ f ∈ F, f.1 ≠ j) : CS k P h0 m F (pm_setR h k j v) := ⟨W.1.setR (.inr rfl), W.2.1.setR _ (Nat.le_refl k), fun f hf => by rw [rr_j _ (hj f hf)]; exact W.2.2 f hf⟩
theorem CS.A (W : CS k P h0 m F h) {ty : FieldType} {n : Nat} (e : tb_SH[k + 1 + m]? = some (.inl (ty, n))) (ht : ∀ C, ty ≠ .object C) : CS k P h0 (m + 1) F (pm_mk h (.inl (ty, n))) := by
  have l := W.len
  refine ⟨?_, W.2.1.mk _ (by omega), fun f hf => by rw [rm_c _ (by omega)]; exact W.2.2 f hf⟩
  refine (W.1.mk e).weak (fun q hq hN hp => ?_)
  rcases hp with hp | hp
  · exact .inl hp
  · exfalso
    have z := tb_rfA q hq
    rw [hp, e] at z
    cases ty <;> first | exact ht _ rfl | (dsimp only at z; cases z) | simp at z
/-- an object was made and its constructor run -/
theorem CS.O (W : CS k P h0 m F h) {ci m' : Nat} (W' : NW (k + 1 + m + 1 + m') (fun c => P c ∨ c = k) h') (lo : LO (k + 1 + m) (pm_mk h (.inr ci)) h') : CS k P h0 (m + 1 + m') F h' := by
  have l := W.len
  refine ⟨by rw [show k + 1 + (m + 1 + m') = k + 1 + m + 1 + m' by omega]; exact W', ?_, fun f hf => ?_⟩
  · exact (W.2.1.mk (.inr ci) (by omega)).trans (lo.mono (by omega))
  · rw [(lo k (by omega)).2, rm_c _ (by omega)]
    exact W.2.2 f hf
theorem CS.end (W : CS k P h0 m F h) (hF : ∀ q ∈ tb_rf, q.1.1 = k → (q.1.2, q.2) ∈ F) : NW (k + 1 + m) P h ∧ LO k h0 h := by
  refine ⟨W.1.weak (fun q hq _ hp => ?_), W.2.1⟩
  rcases hp with hp | hp
  · exact .inl hp
  · have := W.2.2 _ (hF q hq hp)
    rw [← hp] at this
    exact .inr this
end NWS
