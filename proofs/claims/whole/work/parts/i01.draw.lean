/-! Draws, of the program and of the reference. -/
def qN (n : Nat) : Int64 := Int64.ofNat n
theorem qN_toInt {n : Nat} (h : n < 9223372036854775808) : (qN n).toInt = (n : Int) := Int64.toInt_ofNat_of_lt h
theorem qN_add (a b : Nat) : qN a + qN b = qN (a + b) := (Int64.ofNat_add a b).symm
theorem qN_mul (a b : Nat) : qN a * qN b = qN (a * b) := (Int64.ofNat_mul a b).symm
theorem qN_div {a b : Nat} (ha : a < 9223372036854775808) (hb : b < 9223372036854775808) : qN a / qN b = qN (a / b) := by
  apply Int64.toInt_inj.1
  have h1 : a / b ≤ a := Nat.div_le_self _ _
  generalize hq : a / b = q at h1
  rw [Int64.toInt_div, qN_toInt ha, qN_toInt hb, qN_toInt (by omega), ← Int.ofNat_tdiv, hq, Int.bmod_def]
  split <;> omega
theorem qN_sub {a b : Nat} (h : b ≤ a) : qN a - qN b = qN (a - b) := by
  have e := qN_add (a - b) b
  rw [Nat.sub_add_cancel h] at e
  rw [← e]
  exact Int64.add_sub_cancel _ _
theorem qN_rem {a b : Nat} (ha : a < 9223372036854775808) (hb : b < 9223372036854775808) : qN a - qN a / qN b * qN b = qN (a % b) := by
  have h1 := Nat.div_add_mod a b
  have h2 : a / b * b ≤ a := Nat.div_mul_le_self a b
  rw [qN_div ha hb, qN_mul, qN_sub h2, Nat.mul_comm (a / b) b]
  congr 1
  omega
theorem qN_and (a b : Nat) : qN a &&& qN b = qN (a &&& b) := by
  apply Int64.toBitVec_inj.1
  show BitVec.ofNat 64 a &&& BitVec.ofNat 64 b = BitVec.ofNat 64 (a &&& b)
  apply BitVec.eq_of_getLsbD_eq
  intro i hi
  simp [hi]
theorem qN_32 (n : Nat) : (qN n).toInt32 = nI n := by
  apply Int32.toBitVec_inj.1
  show (BitVec.ofNat 64 n).signExtend 32 = BitVec.ofNat 32 n
  apply BitVec.eq_of_getLsbD_eq
  intro i hi
  have : i < 64 := by omega
  rw [BitVec.getLsbD_signExtend, BitVec.getLsbD_ofNat, BitVec.getLsbD_ofNat]
  simp [hi, this]
theorem nI_64 {n : Nat} (h : n < 2147483648) : (nI n).toInt64 = qN n := by
  apply Int64.toInt_inj.1
  rw [Int32.toInt_toInt64, qN_toInt (by omega)]
  exact Int32.toInt_ofNat_of_lt h
def dr (X : Nat) : Nat := (X * 1103515245 + 12345) % 2147483648
theorem dr_c {X : Nat} (h : X < 2147483648) : ((((nI X).toInt64 * (1103515245 : Int64)) + (12345 : Int64)) &&& (2147483647 : Int64)).toInt32 = nI (dr X) := by
  rw [nI_64 h, show (1103515245 : Int64) = qN 1103515245 from rfl, show (12345 : Int64) = qN 12345 from rfl, show (2147483647 : Int64) = qN (2 ^ 31 - 1) from rfl, qN_mul, qN_add, qN_and, qN_32, Nat.and_two_pow_sub_one_eq_mod]
  rfl
theorem dr_m {X : Nat} (h : X < 2147483648) : (((qN X) * (1103515245 : Int64)) + (12345 : Int64)) - (((qN X) * (1103515245 : Int64)) + (12345 : Int64)) / (2147483648 : Int64) * (2147483648 : Int64) = qN (dr X) := by
  rw [show (1103515245 : Int64) = qN 1103515245 from rfl, show (12345 : Int64) = qN 12345 from rfl, show (2147483648 : Int64) = qN 2147483648 from rfl, qN_mul, qN_add, qN_rem (by omega) (by omega)]
  rfl
theorem dr_d {X d : Nat} (h : X < 2147483648) (hd : d < 2147483648) : ((qN X) / (65536 : Int64) - ((qN X) / (65536 : Int64)) / (nI d).toInt64 * (nI d).toInt64).toInt32 = nI (X / 65536 % d) := by
  rw [show (65536 : Int64) = qN 65536 from rfl, nI_64 hd, qN_div (by omega) (by omega), qN_rem (by omega) (by omega), qN_32]
theorem dr_lt (X : Nat) : dr X < 2147483648 := Nat.mod_lt _ (by decide)
section DR
variable {h : pm_H}
theorem a_draw_n {X : Nat} (e : h.2.1 68 18 = nI X) (hX : X < 2147483648) : a_draw 68 h = some (nI (dr X / 65536), pm_setI h 68 18 (nI (dr X))) := by
  have hd := dr_lt X
  unfold a_draw
  simp only [bd]
  rw [e, dr_c hX, ri_s, show (65536 : Int32) = nI 65536 from rfl, nx_div hd (by omega) (by omega)]
theorem m_draw_n {X d : Nat} (e : h.2.2.1 193 31 = qN X) (hX : X < 2147483648) (d0 : 0 < d) (hd : d < 2147483648) : m_draw 193 (nI d) h = some (nI (dr X / 65536 % d), pm_setL h 193 31 (qN (dr X))) := by
  unfold m_draw
  simp only [bd]
  have nz : mi_nzl (nI d).toInt64 = true := by
    unfold mi_nzl
    refine dec_t (fun q => ?_)
    have q2 := congrArg Int64.toInt q
    rw [nI_64 hd, qN_toInt (by omega)] at q2
    have q3 : (0 : Int64).toInt = 0 := by decide
    omega
  rw [e, dr_m hX, rl_s, dr_d (dr_lt X) hd, if_pos nz]
end DR
/-! hands in any cell -/
section HC_
variable {h : pm_H} {c : Nat} {A B : Nat → Int32} {v : Int32}
theorem CHd.set3c (H : CHd h c A) : CHd (pm_setI h c 3 v) c (upA A 5 v) := by
  obtain ⟨a0, a1, a2, a3, a4, a5, a6⟩ := H
  unfold CHd
  rw [upA_an (by omega)]
  refine ⟨a0, ?_, ?_, ?_, ?_, ?_, fun m hm => ?_⟩
  · rw [ri_j _ (by omega), a1]
    exact congrArg nI (bs_congr (fun m _ => by unfold isAw; rw [upA_ne (by omega)]))
  · rw [ri_j _ (by omega), a2]
    exact congrArg nI (bs_congr (fun m _ => by unfold isDd; rw [upA_ne (by omega)]))
  · rw [ri_j _ (by omega), a3, upA_ne (by omega)]
  · rw [ri_s, upA_s]
  · rw [ri_j _ (by omega), a5, upA_ne (by omega)]
  · rw [ri_c _ (by omega), ri_c _ (by omega), upA_ne (by omega), upA_ne (by omega)]
    exact a6 m hm
theorem CHd.setWc (H : CHd h c A) {m : Nat} (hm : m < an A 1) (z : Bool) : CHd (pm_setI h c 0 (nI (if z = true then bs (isAw A) (an A 1) ||| 2 ^ m else sd (bs (isAw A) (an A 1)) (2 ^ m)))) c (upA A (10 + 6 * m + 2) (nI z.toNat)) := by
  obtain ⟨a0, a1, a2, a3, a4, a5, a6⟩ := H
  unfold CHd
  rw [upA_an (by omega)]
  refine ⟨a0, ?_, ?_, ?_, ?_, ?_, fun k hk => ?_⟩
  · rw [ri_s, ← bs_up hm]
    refine congrArg nI (bs_congr (fun i _ => ?_))
    unfold isAw
    by_cases q : i = m
    · subst q; rw [if_pos rfl, upA_s]; cases z <;> decide
    · rw [if_neg q, upA_ne (by omega)]
  · rw [ri_j _ (by omega), a2]
    exact congrArg nI (bs_congr (fun m _ => by unfold isDd; rw [upA_ne (by omega)]))
  · rw [ri_j _ (by omega), a3, upA_ne (by omega)]
  · rw [ri_j _ (by omega), a4, upA_ne (by omega)]
  · rw [ri_j _ (by omega), a5, upA_ne (by omega)]
  · rw [ri_c _ (by omega), ri_c _ (by omega), upA_ne (by omega), upA_ne (by omega)]
    exact a6 k hk
theorem n_rouse_c (H : CHd h c A) (w : WFA A) {m : Nat} (hm : m < an A 1) (z : Bool) : ∃ v, n_rouse c (nI m) (nI z.toNat) h = some (pm_setI h c 0 v) ∧ CHd (pm_setI h c 0 v) c (upA A (10 + 6 * m + 2) (nI z.toNat)) := by
  have e1 := w.e1
  refine ⟨_, ?_, H.setWc hm z⟩
  unfold n_rouse n_rouse_26
  simp only [kc_im8, kc_im1, kc_i0, kc_i1, kc_i2, kc_i3, kc_i4, kc_i5, kc_b_m100, kc_b_m16, kc_b_m15, kc_b_m14, kc_b_m13, kc_b_m12, kc_b_m11, kc_b_m2, kc_b_6, kc_b_7, kc_b_8, kc_b_9, kc_b_10, kc_b_11, kc_b_12, kc_b_13, kc_b_14, kc_b_15, kc_b_16, kc_b_20, kc_b_24, kc_b_32, kc_b_37, kc_b_40, kc_b_42, kc_b_43, kc_b_45, kc_b_47, kc_b_48, kc_b_57, kc_b_58, kc_b_59, kc_b_60, kc_b_61, kc_b_62, kc_b_63, kc_b_91, kc_b_93, kc_b_97, kc_b_99, kc_b_100, kc_b_106, kc_b_122, kc_s_206, kc_s_226, kc_s_227, kc_s_255, kc_s_256, kc_s_316, kc_s_318, kc_s_400, kc_s_512, kc_s_999, kc_s_1160, kc_s_1536, kc_s_3003, kc_lm11, kc_lm10, kc_lm9, kc_lm8, kc_lm7, kc_lm6, kc_lm5, kc_lm4, kc_lm3, kc_lm2, kc_lm1, kc_l1, kc_l2, kc_l3, kc_l4, kc_l5, kc_l6, kc_l7, kc_l8, kc_l9, kc_l10, kc_l11, kc_l12, kc_l13, kc_l14, kc_l37, kc_l42, kc_l43, kc_l45, kc_l47, kc_l60, kc_l61, kc_l62, kc_l316, kc_l318, kc_l65536, kc_l99999, kc_l1000000, kc_l252645135, kc_l858993459, kc_l1431655765, kc_0, kc_on, bd]
  rw [H.2.1, nx_shl1 (by omega)]
  cases z
  · rw [if_pos (show nI false.toNat = nI 0 from rfl), nx_andn, if_neg Bool.false_ne_true]
  · rw [if_neg (show ¬ nI true.toNat = nI 0 from n10), nx_or2, if_pos rfl]
end HC_
/-! an hour sailed, as numbers -/
def rsV (p : Nat) : Nat → (Nat → Int32) → Nat → (Nat → Int32) × Nat
  | 0, A, X => (A, X)
  | i + 1, A, X => if isDd (rsV p i A X).1 i = true then rsV p i A X else (upA (rsV p i A X).1 (10 + 6 * i + 2) (nI (!decide (dr (rsV p i A X).2 / 65536 % 100 < p)).toNat), dr (rsV p i A X).2)
def hourV (p : Nat) (A : Nat → Int32) (X : Nat) : (Nat → Int32) × Nat := rsV p (an A 1) (upA A 5 (nI (dr X / 65536 % 3))) (dr X)
/-- the same ship, its hands sailing -/
def VI (A B : Nat → Int32) (k : Nat) : Prop := SameS B A ∧ WFA B ∧ B 6 = A 6 ∧ (∀ m, m < an A 1 → isDd B m = isDd A m) ∧ an B 4 ≤ k
section VV
variable {A B : Nat → Int32} {p k : Nat}
theorem VI.e1 (V : VI A B k) : an B 1 = an A 1 := V.1.n (.inl (by omega))
theorem VI.up5 (V : VI A B k) {j : Nat} (hj : j ≤ 2) : VI A (upA B 5 (nI j)) k := by
  obtain ⟨a, w, c, d, e⟩ := V
  have u := up5_wf w hj
  refine ⟨u.1.trans a, u.2, by rw [upA_ne (by omega)]; exact c, fun m hm => ?_, by rw [upA_an (by omega)]; exact e⟩
  rw [← d m hm]
  unfold isDd
  rw [upA_ne (by omega)]
theorem VI.up2 (V : VI A B k) {m : Nat} (hm : m < an A 1) (z : Bool) : VI A (upA B (10 + 6 * m + 2) (nI z.toNat)) k := by
  have e1 := V.e1
  obtain ⟨a, w, c, d, e⟩ := V
  have u := up2_wf w (m := m) (by omega) z
  refine ⟨u.1.trans a, u.2, by rw [upA_ne (by omega)]; exact c, fun i hi => ?_, by rw [upA_an (by omega)]; exact e⟩
  rw [← d i hi]
  unfold isDd
  rw [upA_ne (by omega)]
theorem VI.rs (V : VI A B k) : ∀ (i : Nat) {X : Nat}, i ≤ an A 1 → X < 2147483648 → VI A (rsV p i B X).1 k ∧ (rsV p i B X).2 < 2147483648
  | 0, X, _, hX => ⟨V, hX⟩
  | i + 1, X, hi, hX => by
    have ih := VI.rs V i (X := X) (by omega) hX
    rw [rsV]
    split
    · exact ih
    · exact ⟨ih.1.up2 (by omega) _, dr_lt _⟩
theorem VI.ps (V : VI A B k) (hk : k < 1999) : VI A (psA B) (k + 1) := by
  have e1 := V.e1
  obtain ⟨a, w, c, d, e⟩ := V
  refine ⟨(psA_same w).trans a, psA_wf w (by omega), by rw [psA_out (by omega) (by omega)]; exact c, fun m hm => by rw [(psA_aw (by omega)).2]; exact d m hm, ?_⟩
  have e4 := w.e4
  have : psA B 4 = nI (an B 4 + 1) := by
    unfold psA
    rw [if_pos rfl, e4.1, nx_add]
  show (psA B 4).toNatClampNeg ≤ k + 1
  rw [this, nx_cl (by omega)]
  omega
theorem VI.boyN (V : VI A B k) : bN B = bN A := by unfold bN an; rw [V.2.2.1]
theorem VI.hrd (V : VI A B k) : sub (hrdN B) (alvN A ||| bb (bN A)) := by
  intro i hi
  unfold hrdN hrdM at hi
  rw [V.boyN, Nat.testBit_or, bs_bit, V.e1] at hi
  unfold alvN
  rw [Nat.testBit_or, bs_bit]
  rcases Bool.or_eq_true_iff.mp hi with q | q
  · rw [Bool.and_eq_true, decide_eq_true_eq] at q
    obtain ⟨q1, q2⟩ := q
    have q3 : isDd B i = false := by
      unfold isFit at q2
      cases e : isDd B i with
      | false => rfl
      | true => rw [e] at q2; simp at q2
    rw [V.2.2.2.1 i q1] at q3
    rw [q3]
    simp [q1]
  · rw [q]; simp
end VV
