/-! Reads: count. -/
noncomputable def vCount (A : Nat → Int32) (r v : Int32) (n L : Nat) (x : Int32) : Int32 := if x = nI 0 then A 0 else if x = nI 1 then A 1 else if x = nI 2 then A 2 else if x = nI 3 then A 3 else if x = nI 4 then r else if x = nI 5 then A 4 else if x = nI 6 then A 5 else if x = nI 7 then nI (bs (isAw A) (an A 1)) else if x = nI 8 then nI (hrdN A) else if x = nI 9 then nI (bs (isDd A) (an A 1)) else if x = nI 10 then A 6 else if x = nI 11 then A 226 else if x = nI 12 then nI n else if x = nI 13 then v else if x = nI 14 then nI L else ng 1
section CN
variable {h : pm_H} {s : Nat} {A : Nat → Int32}
theorem so_ite {c : Prop} [Decidable c] (a b : Int32) : some (if c then a else b) = if c then some a else some b := by split <;> rfl
theorem x_count_n (Q : QI h s A) {r v : Int32} {n L : Nat} (hr : h.2.1 0 2 = r) (hv : h.2.1 168 5 = v) (hn : h.2.1 6 2 = nI n) (hL : h.2.1 1 1 = nI L) (x : Int32) : x_count 0 x h = some (vCount A r v n L x) := by
  have Q' := Q
  obtain ⟨R, h1, S, H, D, w, K⟩ := Q
  obtain ⟨_, a1, a2, a3, a4, a5, _⟩ := H
  unfold x_count vCount
  simp only [kc_im8, kc_im1, kc_i0, kc_i1, kc_i2, kc_i3, kc_i4, kc_i5, kc_b_m100, kc_b_m16, kc_b_m15, kc_b_m14, kc_b_m13, kc_b_m12, kc_b_m11, kc_b_m2, kc_b_6, kc_b_7, kc_b_8, kc_b_9, kc_b_10, kc_b_11, kc_b_12, kc_b_13, kc_b_14, kc_b_15, kc_b_16, kc_b_20, kc_b_24, kc_b_32, kc_b_37, kc_b_40, kc_b_42, kc_b_43, kc_b_45, kc_b_47, kc_b_48, kc_b_57, kc_b_58, kc_b_59, kc_b_60, kc_b_61, kc_b_62, kc_b_63, kc_b_91, kc_b_93, kc_b_97, kc_b_99, kc_b_100, kc_b_106, kc_b_122, kc_s_206, kc_s_226, kc_s_227, kc_s_255, kc_s_256, kc_s_316, kc_s_318, kc_s_400, kc_s_512, kc_s_999, kc_s_1160, kc_s_1536, kc_s_3003, kc_lm11, kc_lm10, kc_lm9, kc_lm8, kc_lm7, kc_lm6, kc_lm5, kc_lm4, kc_lm3, kc_lm2, kc_lm1, kc_l1, kc_l2, kc_l3, kc_l4, kc_l5, kc_l6, kc_l7, kc_l8, kc_l9, kc_l10, kc_l11, kc_l12, kc_l13, kc_l14, kc_l37, kc_l42, kc_l43, kc_l45, kc_l47, kc_l60, kc_l61, kc_l62, kc_l316, kc_l318, kc_l65536, kc_l99999, kc_l1000000, kc_l252645135, kc_l858993459, kc_l1431655765, kc_0, kc_on, ra_0_4 R, ra_0_6 R, ra_0_0 R, Option.bind_some, Q'.now, q_hands Q', S.2.1, S.2.2.1, S.2.2.2.1, S.2.2.2.2.1, hr, hv, hn, hL, a1, a2, a3, a4, a5, D.2.1, n_heard_c S Q'.2.2.2.1 w R]
  simp only [so_ite]
theorem dead_n (w : WFA A) : ((nI 1 <<< (A 1 &&& 31)) - nI 1) &&& (nI (alvN A) ^^^ ng 1) = nI (bs (isDd A) (an A 1)) := by
  have e1 := w.e1
  have p := Nat.two_pow_pos (an A 1)
  have p8 : 2 ^ an A 1 ≤ 2 ^ 8 := Nat.pow_le_pow_right (by omega) (by omega)
  rw [e1.1, nx_shl1 (by omega), nx_sub (by omega), nx_andn]
  apply congrArg nI
  apply Nat.eq_of_testBit_eq
  intro i
  rw [sd_bit, Nat.testBit_two_pow_sub_one, bs_bit]
  unfold alvN
  rw [bs_bit]
  by_cases q : i < an A 1
  · simp [q]
  · simp [q]
end CN
