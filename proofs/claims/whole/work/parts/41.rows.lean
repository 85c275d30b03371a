/-! Rows for walking this program's methods on the pure machine. -/
/-- the run of a method from a place on, with this program's tables -/
abbrev PW (b : Bool) (L : Nat) (xs : Nat → Int32) (d i kc ks pc : Nat) (ls st : List Value) (h : pm_H) (Q : Option Value → pm_H → Prop) : Prop := pm_W tb_cl tb_ft (tb_kt L xs) tb_me (tb_lk b) d i kc ks pc ls st h Q
abbrev PC (b : Bool) (L : Nat) (xs : Nat → Int32) (d j : Nat) (as : List Value) (h : pm_H) (Q : Option Value → pm_H → Prop) : Prop := pm_C tb_cl tb_ft (tb_kt L xs) tb_me (tb_lk b) d j as h Q
section ROWS
variable {b : Bool} {L : Nat} {xs : Nat → Int32} {d i kc ks pc : Nat} {ls st r : List Value} {h : pm_H} {Q : Option Value → pm_H → Prop} {x : Nat}
/-- the entry of a method that makes nothing -/
theorem pc_in {j n : Nat} {as ls0 : List Value} (hm : (tb_me j).2.1 = (0, 0) ∧ (tb_me j).1.2.2.1 = n) (he : pm_ent as n = ls0) (k : PW b L xs d j 0 0 0 ls0 [] h Q) : PC b L xs d j as h Q := by
  unfold PC pm_C
  rw [hm.1, hm.2, he]
  exact k
theorem pw_gi {k ci j : Nat} (hdg : decode (tb_me i).1.2.1 pc = .ok (.getfield x, 3)) (hk : tb_lk b i x = (1, ci, j, 0, 0)) (hs : h.1[k]? = some (.inr ci)) (hj : (j < pm_nf tb_cl ci) ∧ tb_ft ci j ≠ .long ∧ pm_isR (tb_ft ci j) = false) (kk : PW b L xs d i kc ks (pc + 3) ls (.int (h.2.1 k j) :: r) h Q) : PW b L xs d i kc ks pc ls (.ref k :: r) h Q := by
  refine pw_h hdg rfl rfl rfl rfl rfl (?_ : _ = some (kc, ks, pc + 3, .int (h.2.1 k j) :: r, h)) kk
  simp only [pm_hp, hk, if_true, pm_get]
  rw [if_pos ⟨hs, hj.1⟩]
  simp [pm_fg, hj.2.1, hj.2.2]
theorem pw_gl {k ci j : Nat} (hdg : decode (tb_me i).1.2.1 pc = .ok (.getfield x, 3)) (hk : tb_lk b i x = (1, ci, j, 0, 0)) (hs : h.1[k]? = some (.inr ci)) (hj : (j < pm_nf tb_cl ci) ∧ tb_ft ci j = .long) (kk : PW b L xs d i kc ks (pc + 3) ls (.long (h.2.2.1 k j) :: r) h Q) : PW b L xs d i kc ks pc ls (.ref k :: r) h Q := by
  refine pw_h hdg rfl rfl rfl rfl rfl (?_ : _ = some (kc, ks, pc + 3, .long (h.2.2.1 k j) :: r, h)) kk
  simp only [pm_hp, hk, if_true, pm_get]
  rw [if_pos ⟨hs, hj.1⟩]
  simp [pm_fg, hj.2]
theorem pw_gr {k ci j y : Nat} (hdg : decode (tb_me i).1.2.1 pc = .ok (.getfield x, 3)) (hk : tb_lk b i x = (1, ci, j, 0, 0)) (hs : h.1[k]? = some (.inr ci)) (hj : (j < pm_nf tb_cl ci) ∧ tb_ft ci j ≠ .long ∧ pm_isR (tb_ft ci j) = true) (hy : h.2.2.2 k j = some y) (kk : PW b L xs d i kc ks (pc + 3) ls (.ref y :: r) h Q) : PW b L xs d i kc ks pc ls (.ref k :: r) h Q := by
  refine pw_h hdg rfl rfl rfl rfl rfl (?_ : _ = some (kc, ks, pc + 3, .ref y :: r, h)) kk
  simp only [pm_hp, hk, if_true, pm_get]
  rw [if_pos ⟨hs, hj.1⟩]
  simp [pm_fg, hj.2.1, hj.2.2, hy, va_rf]
/-- a number into a field of ints -/
theorem pw_pi {k ci j : Nat} {v : Int32} (hdg : decode (tb_me i).1.2.1 pc = .ok (.putfield x, 3)) (hk : tb_lk b i x = (1, ci, j, 0, 0)) (hs : h.1[k]? = some (.inr ci)) (hj : (j < pm_nf tb_cl ci) ∧ tb_ft ci j = .int ∧ pm_fin tb_cl (tb_me i).1.1 ci j = true) (kk : PW b L xs d i kc ks (pc + 3) ls r (pm_setI h k j v) Q) : PW b L xs d i kc ks pc ls (.int v :: .ref k :: r) h Q := by
  refine pw_h hdg rfl rfl rfl rfl rfl (?_ : _ = some (kc, ks, pc + 3, r, pm_setI h k j v)) kk
  simp only [pm_hp, hk, if_true, pm_put]
  rw [if_pos ⟨⟨hs, hj.1⟩, hj.2.2, by rw [hj.2.1]; rfl, by rw [hj.2.1]; rfl⟩]
  rfl
theorem pw_pz {k ci j : Nat} {v : Int32} (hdg : decode (tb_me i).1.2.1 pc = .ok (.putfield x, 3)) (hk : tb_lk b i x = (1, ci, j, 0, 0)) (hs : h.1[k]? = some (.inr ci)) (hj : (j < pm_nf tb_cl ci) ∧ tb_ft ci j = .boolean ∧ pm_fin tb_cl (tb_me i).1.1 ci j = true) (hv : v = 0 ∨ v = 1) (kk : PW b L xs d i kc ks (pc + 3) ls r (pm_setI h k j v) Q) : PW b L xs d i kc ks pc ls (.int v :: .ref k :: r) h Q := by
  refine pw_h hdg rfl rfl rfl rfl rfl (?_ : _ = some (kc, ks, pc + 3, r, pm_setI h k j v)) kk
  simp only [pm_hp, hk, if_true, pm_put]
  rw [if_pos ⟨⟨hs, hj.1⟩, hj.2.2, by rw [hj.2.1]; rcases hv with rfl | rfl <;> rfl, by rw [hj.2.1]; rcases hv with rfl | rfl <;> rfl⟩]
  rfl
theorem pw_pl {k ci j : Nat} {v : Int64} (hdg : decode (tb_me i).1.2.1 pc = .ok (.putfield x, 3)) (hk : tb_lk b i x = (1, ci, j, 0, 0)) (hs : h.1[k]? = some (.inr ci)) (hj : (j < pm_nf tb_cl ci) ∧ tb_ft ci j = .long ∧ pm_fin tb_cl (tb_me i).1.1 ci j = true) (kk : PW b L xs d i kc ks (pc + 3) ls r (pm_setL h k j v) Q) : PW b L xs d i kc ks pc ls (.long v :: .ref k :: r) h Q := by
  refine pw_h hdg rfl rfl rfl rfl rfl (?_ : _ = some (kc, ks, pc + 3, r, pm_setL h k j v)) kk
  simp only [pm_hp, hk, if_true, pm_put]
  rw [if_pos ⟨⟨hs, hj.1⟩, hj.2.2, hj.2.1⟩]
  rfl
theorem pw_pr {k ci j y : Nat} (hdg : decode (tb_me i).1.2.1 pc = .ok (.putfield x, 3)) (hk : tb_lk b i x = (1, ci, j, 0, 0)) (hs : h.1[k]? = some (.inr ci)) (hj : (j < pm_nf tb_cl ci) ∧ pm_isR (tb_ft ci j) = true ∧ pm_fin tb_cl (tb_me i).1.1 ci j = true) (kk : PW b L xs d i kc ks (pc + 3) ls r (pm_setR h k j (some y)) Q) : PW b L xs d i kc ks pc ls (.ref y :: .ref k :: r) h Q := by
  refine pw_h hdg rfl rfl rfl rfl rfl (?_ : _ = some (kc, ks, pc + 3, r, pm_setR h k j (some y))) kk
  simp only [pm_hp, hk, if_true, pm_put]
  rw [if_pos ⟨⟨hs, hj.1⟩, hj.2.2, hj.2.1⟩]
  rfl
theorem pw_ai {k n : Nat} {v : Int32} (hdg : decode (tb_me i).1.2.1 pc = .ok (.iaload, 1)) (hs : h.1[k]? = some (.inl (.int, n))) (hi : vp_in v n) (kk : PW b L xs d i kc ks (pc + 1) ls (.int (h.2.1 k v.toNatClampNeg) :: r) h Q) : PW b L xs d i kc ks pc ls (.int v :: .ref k :: r) h Q := by
  refine pw_h hdg rfl rfl rfl rfl rfl (?_ : _ = some (kc, ks, pc + 1, .int (h.2.1 k v.toNatClampNeg) :: r, h)) kk
  simp only [pm_hp, pm_aldI, hs]
  rw [if_pos ⟨rfl, hi⟩]
  rfl
/-- bytes and booleans -/
theorem pw_ab {k n : Nat} {v : Int32} {ty : FieldType} (hdg : decode (tb_me i).1.2.1 pc = .ok (.baload, 1)) (hs : h.1[k]? = some (.inl (ty, n))) (ht : ty = .byte ∨ ty = .boolean) (hi : vp_in v n) (kk : PW b L xs d i kc ks (pc + 1) ls (.int (h.2.1 k v.toNatClampNeg) :: r) h Q) : PW b L xs d i kc ks pc ls (.int v :: .ref k :: r) h Q := by
  refine pw_h hdg rfl rfl rfl rfl rfl (?_ : _ = some (kc, ks, pc + 1, .int (h.2.1 k v.toNatClampNeg) :: r, h)) kk
  simp only [pm_hp, pm_aldI, hs]
  rw [if_pos ⟨by rcases ht with rfl | rfl <;> rfl, hi⟩]
  rfl
theorem pw_al {k n : Nat} {v : Int32} (hdg : decode (tb_me i).1.2.1 pc = .ok (.laload, 1)) (hs : h.1[k]? = some (.inl (.long, n))) (hi : vp_in v n) (kk : PW b L xs d i kc ks (pc + 1) ls (.long (h.2.2.1 k v.toNatClampNeg) :: r) h Q) : PW b L xs d i kc ks pc ls (.int v :: .ref k :: r) h Q := by
  refine pw_h hdg rfl rfl rfl rfl rfl (?_ : _ = some (kc, ks, pc + 1, .long (h.2.2.1 k v.toNatClampNeg) :: r, h)) kk
  simp only [pm_hp, pm_aldL, hs]
  rw [if_pos (show ¬ (v < 0 ∨ n ≤ v.toNatClampNeg) from hi)]
  rfl
theorem pw_ar {k n y : Nat} {C : String} {v : Int32} (hdg : decode (tb_me i).1.2.1 pc = .ok (.aaload, 1)) (hs : h.1[k]? = some (.inl (.object C, n))) (hi : vp_in v n) (hy : h.2.2.2 k v.toNatClampNeg = some y) (kk : PW b L xs d i kc ks (pc + 1) ls (.ref y :: r) h Q) : PW b L xs d i kc ks pc ls (.int v :: .ref k :: r) h Q := by
  refine pw_h hdg rfl rfl rfl rfl rfl (?_ : _ = some (kc, ks, pc + 1, .ref y :: r, h)) kk
  simp only [pm_hp, pm_aldR, hs]
  rw [if_pos (show ¬ (v < 0 ∨ n ≤ v.toNatClampNeg) from hi), hy]
  rfl
theorem pw_an {k n : Nat} {ty : FieldType} (hdg : decode (tb_me i).1.2.1 pc = .ok (.arraylength, 1)) (hs : h.1[k]? = some (.inl (ty, n))) (kk : PW b L xs d i kc ks (pc + 1) ls (.int (Int32.ofNat n) :: r) h Q) : PW b L xs d i kc ks pc ls (.ref k :: r) h Q := by
  refine pw_h hdg rfl rfl rfl rfl rfl (?_ : _ = some (kc, ks, pc + 1, .int (Int32.ofNat n) :: r, h)) kk
  simp only [pm_hp, pm_alen, hs]
  rfl
theorem pw_si {k n : Nat} {v w : Int32} (hdg : decode (tb_me i).1.2.1 pc = .ok (.iastore, 1)) (hs : h.1[k]? = some (.inl (.int, n))) (hi : vp_in v n) (kk : PW b L xs d i kc ks (pc + 1) ls r (pm_setI h k v.toNatClampNeg w) Q) : PW b L xs d i kc ks pc ls (.int w :: .int v :: .ref k :: r) h Q := by
  refine pw_h hdg rfl rfl rfl rfl rfl (?_ : _ = some (kc, ks, pc + 1, r, pm_setI h k v.toNatClampNeg w)) kk
  simp only [pm_hp, pm_astI, hs]
  rw [if_pos ⟨rfl, hi⟩]
  rfl
theorem pw_sb {k n : Nat} {v w : Int32} {ty : FieldType} (hdg : decode (tb_me i).1.2.1 pc = .ok (.bastore, 1)) (hs : h.1[k]? = some (.inl (ty, n))) (ht : ty = .byte ∨ ty = .boolean) (hi : vp_in v n) (kk : PW b L xs d i kc ks (pc + 1) ls r (pm_setI h k v.toNatClampNeg (vp_nar ty w)) Q) : PW b L xs d i kc ks pc ls (.int w :: .int v :: .ref k :: r) h Q := by
  refine pw_h hdg rfl rfl rfl rfl rfl (?_ : _ = some (kc, ks, pc + 1, r, pm_setI h k v.toNatClampNeg (vp_nar ty w))) kk
  simp only [pm_hp, pm_astI, hs]
  rw [if_pos ⟨by rcases ht with rfl | rfl <;> rfl, hi⟩]
  rfl
theorem pw_sl {k n : Nat} {v : Int32} {w : Int64} (hdg : decode (tb_me i).1.2.1 pc = .ok (.lastore, 1)) (hs : h.1[k]? = some (.inl (.long, n))) (hi : vp_in v n) (kk : PW b L xs d i kc ks (pc + 1) ls r (pm_setL h k v.toNatClampNeg w) Q) : PW b L xs d i kc ks pc ls (.long w :: .int v :: .ref k :: r) h Q := by
  refine pw_h hdg rfl rfl rfl rfl rfl (?_ : _ = some (kc, ks, pc + 1, r, pm_setL h k v.toNatClampNeg w)) kk
  simp only [pm_hp, pm_astL, hs]
  rw [if_pos (show ¬ (v < 0 ∨ n ≤ v.toNatClampNeg) from hi)]
  rfl
theorem pw_ci {v : Int32} (hdg : decode (tb_me i).1.2.1 pc = .ok (.ldc x, 2)) (hk : tb_lk b i x = (11, 0, 0, v, 0)) (kk : PW b L xs d i kc ks (pc + 2) ls (.int v :: st) h Q) : PW b L xs d i kc ks pc ls st h Q := by
  refine pw_h hdg rfl rfl rfl rfl rfl (?_ : _ = some (kc, ks, pc + 2, .int v :: st, h)) kk
  simp [pm_hp, hk]
theorem pw_cw {v : Int32} (hdg : decode (tb_me i).1.2.1 pc = .ok (.ldc_w x, 3)) (hk : tb_lk b i x = (11, 0, 0, v, 0)) (kk : PW b L xs d i kc ks (pc + 3) ls (.int v :: st) h Q) : PW b L xs d i kc ks pc ls st h Q := by
  refine pw_h hdg rfl rfl rfl rfl rfl (?_ : _ = some (kc, ks, pc + 3, .int v :: st, h)) kk
  simp [pm_hp, hk]
theorem pw_cl {v : Int64} (hdg : decode (tb_me i).1.2.1 pc = .ok (.ldc2_w x, 3)) (hk : tb_lk b i x = (12, 0, 0, 0, v)) (kk : PW b L xs d i kc ks (pc + 3) ls (.long v :: st) h Q) : PW b L xs d i kc ks pc ls st h Q := by
  refine pw_h hdg rfl rfl rfl rfl rfl (?_ : _ = some (kc, ks, pc + 3, .long v :: st, h)) kk
  simp [pm_hp, hk]
/-- a call of a method that makes nothing, on an object of the world -/
theorem pw_v {j np mL ci k : Nat} {as rest : List Value} {Qj : Option Value → pm_H → Prop} {q : Nat} (hd : 1 ≤ d) (hdg : decode (tb_me i).1.2.1 pc = .ok (.invokevirtual x, 3)) (hk : tb_lk b i x = (q, j, 0, 0, 0)) (hq : q = 2 ∨ q = 3) (hm : (tb_me j).2 = ((0, 0), (np, ci)) ∧ (tb_me j).1.2.2.1 = mL) (hci : ci ≠ pm_tc) (hst : st[np]? = some (.ref k)) (hs : h.1[k]? = some (.inr ci)) (h8 : ((st.drop (np + 1)).map fun v => v.category).sum ≤ 8) (h9 : ((st.take (np + 1)).map fun v => v.category).sum ≤ mL) (has : (st.take (np + 1)).reverse = as) (hre : st.drop (np + 1) = rest)
    (hc : PC b L xs (d - 1) j as h Qj) (kk : ∀ v h', Qj v h' → PW b L xs d i kc ks (pc + 3) ls (v.toList ++ rest) h' Q) : PW b L xs d i kc ks pc ls st h Q := by
  refine pw_c hd hdg rfl rfl rfl rfl rfl rfl (?_ : _ = some (j, as, rest)) hc (fun v h' hv => ?_)
  · simp only [pm_cal, hk, hm.1, hm.2]
    rw [if_pos ⟨hq, by rw [hst]; simp [pm_rcv, hci, hs], Nat.zero_le _, Nat.zero_le _, h8, h9⟩, has, hre]
  · rw [hm.1]; exact kk v h' hv
/-- a static call -/
theorem pw_u {j np mL ci q : Nat} {as rest : List Value} {Qj : Option Value → pm_H → Prop} (hd : 1 ≤ d) (hdg : decode (tb_me i).1.2.1 pc = .ok (.invokestatic x, 3)) (hk : tb_lk b i x = (q, j, 0, 0, 0)) (hq : q = 4 ∨ q = 5) (hm : (tb_me j).2 = ((0, 0), (np, ci)) ∧ (tb_me j).1.2.2.1 = mL) (hnp : np ≤ st.length) (h8 : ((st.drop np).map fun v => v.category).sum ≤ 8) (h9 : ((st.take np).map fun v => v.category).sum ≤ mL) (has : (st.take np).reverse = as) (hre : st.drop np = rest)
    (hc : PC b L xs (d - 1) j as h Qj) (kk : ∀ v h', Qj v h' → PW b L xs d i kc ks (pc + 3) ls (v.toList ++ rest) h' Q) : PW b L xs d i kc ks pc ls st h Q := by
  refine pw_c hd hdg rfl rfl rfl rfl rfl ?_ (?_ : _ = some (j, as, rest)) hc (fun v h' hv => ?_)
  · simp only [pm_hp, hk]
    rcases hq with rfl | rfl <;> simp
  · simp only [pm_cal, hk, hm.1, hm.2]
    rw [if_pos ⟨hq, hnp, Nat.zero_le _, Nat.zero_le _, h8, h9⟩, has, hre]
  · rw [hm.1]; exact kk v h' hv
/-- ends -/
theorem pw_ri {v : Int32} {ty : FieldType} (hdg : decode (tb_me i).1.2.1 pc = .ok (.ireturn, 1)) (hr : (tb_me i).1.2.2.2 = some ty) (hn : narrow ty (.int v) = .int v) (kk : Q (some (.int v)) h) : PW b L xs d i kc ks pc ls [.int v] h Q := by
  refine pw_r hdg rfl rfl rfl rfl rfl rfl rfl (?_ : _ = some (some (.int v))) kk
  simp only [pm_ret, hr, hn, if_true]
theorem pw_rl {v : Int64} (hdg : decode (tb_me i).1.2.1 pc = .ok (.lreturn, 1)) (hr : (tb_me i).1.2.2.2 = some .long) (kk : Q (some (.long v)) h) : PW b L xs d i kc ks pc ls [.long v] h Q := by
  refine pw_r hdg rfl rfl rfl rfl rfl rfl rfl (?_ : _ = some (some (.long v))) kk
  simp only [pm_ret, hr]
theorem pw_rv (hdg : decode (tb_me i).1.2.1 pc = .ok (.return_, 1)) (hr : (tb_me i).1.2.2.2 = none) (kk : Q none h) : PW b L xs d i kc ks pc ls [] h Q := by
  refine pw_r hdg rfl rfl rfl rfl rfl rfl rfl (?_ : _ = some none) kk
  simp [pm_ret, hr]
theorem pm_nz {v : Int32} (h : v = 0 ∨ v = 1) : narrow .boolean (.int v) = .int v := by rcases h with rfl | rfl <;> rfl
end ROWS
