/-! Texts and switches (rows by wip/tx.py; the proofs are by hand, wip/tx.lean.txt). -/
theorem d260_0 : decode (tb_me 260).1.2.1 0 = .ok (.aload_n 0, 1) := by decide +kernel
theorem d260_1 : decode (tb_me 260).1.2.1 1 = .ok (.getfield 9, 3) := by decide +kernel
theorem k260_9 (b : Bool) : tb_lk b 260 9 = (18, 1, 0, 0, 0) := by cases b <;> decide +kernel
theorem d260_4 : decode (tb_me 260).1.2.1 4 = .ok (.arraylength, 1) := by decide +kernel
theorem d260_5 : decode (tb_me 260).1.2.1 5 = .ok (.aload_n 0, 1) := by decide +kernel
theorem d260_6 : decode (tb_me 260).1.2.1 6 = .ok (.invokevirtual 335, 3) := by decide +kernel
theorem k260_335 (b : Bool) : tb_lk b 260 335 = (2, 262, 0, 0, 0) := by cases b <;> decide +kernel
theorem d260_9 : decode (tb_me 260).1.2.1 9 = .ok (.ishr, 1) := by decide +kernel
theorem d260_10 : decode (tb_me 260).1.2.1 10 = .ok (.ireturn, 1) := by decide +kernel
theorem e260 : (tb_me 260).2.1 = (0, 0) ∧ (tb_me 260).1.2.2.1 = 1 := by decide +kernel
theorem m260 : (tb_me 260).2 = ((0, 0), (0, 1000)) ∧ (tb_me 260).1.2.2.1 = 1 := by decide +kernel
theorem t260 : (tb_me 260).1.2.2.2 = some .int := by decide +kernel
theorem d261_0 : decode (tb_me 261).1.2.1 0 = .ok (.aload_n 0, 1) := by decide +kernel
theorem d261_1 : decode (tb_me 261).1.2.1 1 = .ok (.invokevirtual 492, 3) := by decide +kernel
theorem k261_492 (b : Bool) : tb_lk b 261 492 = (2, 263, 0, 0, 0) := by cases b <;> decide +kernel
theorem d261_4 : decode (tb_me 261).1.2.1 4 = .ok (.ifCond .eq 12, 3) := by decide +kernel
theorem d261_7 : decode (tb_me 261).1.2.1 7 = .ok (.aload_n 0, 1) := by decide +kernel
theorem d261_8 : decode (tb_me 261).1.2.1 8 = .ok (.getfield 9, 3) := by decide +kernel
theorem k261_9 (b : Bool) : tb_lk b 261 9 = (18, 1, 0, 0, 0) := by cases b <;> decide +kernel
theorem d261_11 : decode (tb_me 261).1.2.1 11 = .ok (.iload_n 1, 1) := by decide +kernel
theorem d261_12 : decode (tb_me 261).1.2.1 12 = .ok (.invokestatic 495, 3) := by decide +kernel
theorem k261_495 (b : Bool) : tb_lk b 261 495 = (4, 265, 0, 0, 0) := by cases b <;> decide +kernel
theorem d261_15 : decode (tb_me 261).1.2.1 15 = .ok (.ireturn, 1) := by decide +kernel
theorem d261_16 : decode (tb_me 261).1.2.1 16 = .ok (.aload_n 0, 1) := by decide +kernel
theorem d261_17 : decode (tb_me 261).1.2.1 17 = .ok (.getfield 9, 3) := by decide +kernel
theorem d261_20 : decode (tb_me 261).1.2.1 20 = .ok (.iload_n 1, 1) := by decide +kernel
theorem d261_21 : decode (tb_me 261).1.2.1 21 = .ok (.invokestatic 498, 3) := by decide +kernel
theorem k261_498 (b : Bool) : tb_lk b 261 498 = (4, 268, 0, 0, 0) := by cases b <;> decide +kernel
theorem d261_24 : decode (tb_me 261).1.2.1 24 = .ok (.ireturn, 1) := by decide +kernel
theorem e261 : (tb_me 261).2.1 = (0, 0) ∧ (tb_me 261).1.2.2.1 = 2 := by decide +kernel
theorem m261 : (tb_me 261).2 = ((0, 0), (1, 1000)) ∧ (tb_me 261).1.2.2.1 = 2 := by decide +kernel
theorem t261 : (tb_me 261).1.2.2.2 = some .char := by decide +kernel
theorem d262_0 : decode (tb_me 262).1.2.1 0 = .ok (.getstatic 38, 3) := by decide +kernel
theorem k262_38 (b : Bool) : tb_lk b 262 38 = (19, 0, 0, 1, 0) := by cases b <;> decide +kernel
theorem d262_3 : decode (tb_me 262).1.2.1 3 = .ok (.ifCond .eq 10, 3) := by decide +kernel
theorem d262_6 : decode (tb_me 262).1.2.1 6 = .ok (.aload_n 0, 1) := by decide +kernel
theorem d262_7 : decode (tb_me 262).1.2.1 7 = .ok (.getfield 15, 3) := by decide +kernel
theorem k262_15 (b : Bool) : tb_lk b 262 15 = (18, 0, 0, 0, 0) := by cases b <;> decide +kernel
theorem d262_10 : decode (tb_me 262).1.2.1 10 = .ok (.goto 4, 3) := by decide +kernel
theorem d262_13 : decode (tb_me 262).1.2.1 13 = .ok (.iconst 1, 1) := by decide +kernel
theorem d262_14 : decode (tb_me 262).1.2.1 14 = .ok (.ireturn, 1) := by decide +kernel
theorem e262 : (tb_me 262).2.1 = (0, 0) ∧ (tb_me 262).1.2.2.1 = 1 := by decide +kernel
theorem m262 : (tb_me 262).2 = ((0, 0), (0, 1000)) ∧ (tb_me 262).1.2.2.1 = 1 := by decide +kernel
theorem t262 : (tb_me 262).1.2.2.2 = some .byte := by decide +kernel
theorem d263_0 : decode (tb_me 263).1.2.1 0 = .ok (.getstatic 38, 3) := by decide +kernel
theorem k263_38 (b : Bool) : tb_lk b 263 38 = (19, 0, 0, 1, 0) := by cases b <;> decide +kernel
theorem d263_3 : decode (tb_me 263).1.2.1 3 = .ok (.ifCond .eq 14, 3) := by decide +kernel
theorem d263_6 : decode (tb_me 263).1.2.1 6 = .ok (.aload_n 0, 1) := by decide +kernel
theorem d263_7 : decode (tb_me 263).1.2.1 7 = .ok (.getfield 15, 3) := by decide +kernel
theorem k263_15 (b : Bool) : tb_lk b 263 15 = (18, 0, 0, 0, 0) := by cases b <;> decide +kernel
theorem d263_10 : decode (tb_me 263).1.2.1 10 = .ok (.ifCond .ne 7, 3) := by decide +kernel
theorem d263_13 : decode (tb_me 263).1.2.1 13 = .ok (.iconst 1, 1) := by decide +kernel
theorem d263_14 : decode (tb_me 263).1.2.1 14 = .ok (.goto 4, 3) := by decide +kernel
theorem d263_17 : decode (tb_me 263).1.2.1 17 = .ok (.iconst 0, 1) := by decide +kernel
theorem d263_18 : decode (tb_me 263).1.2.1 18 = .ok (.ireturn, 1) := by decide +kernel
theorem e263 : (tb_me 263).2.1 = (0, 0) ∧ (tb_me 263).1.2.2.1 = 1 := by decide +kernel
theorem m263 : (tb_me 263).2 = ((0, 0), (0, 1000)) ∧ (tb_me 263).1.2.2.1 = 1 := by decide +kernel
theorem t263 : (tb_me 263).1.2.2.2 = some .boolean := by decide +kernel
theorem d264_0 : decode (tb_me 264).1.2.1 0 = .ok (.iload_n 0, 1) := by decide +kernel
theorem d264_1 : decode (tb_me 264).1.2.1 1 = .ok (.iload_n 1, 1) := by decide +kernel
theorem d264_2 : decode (tb_me 264).1.2.1 2 = .ok (.getstatic 1053, 3) := by decide +kernel
theorem d264_5 : decode (tb_me 264).1.2.1 5 = .ok (.invokestatic 1059, 3) := by decide +kernel
theorem k264_1059 (b : Bool) : tb_lk b 264 1059 = (4, 271, 0, 0, 0) := by cases b <;> decide +kernel
theorem d264_8 : decode (tb_me 264).1.2.1 8 = .ok (.pop, 1) := by decide +kernel
theorem d264_9 : decode (tb_me 264).1.2.1 9 = .ok (.return_, 1) := by decide +kernel
theorem e264 : (tb_me 264).2.1 = (0, 0) ∧ (tb_me 264).1.2.2.1 = 2 := by decide +kernel
theorem m264 : (tb_me 264).2 = ((0, 0), (2, 999)) ∧ (tb_me 264).1.2.2.1 = 2 := by decide +kernel
theorem t264 : (tb_me 264).1.2.2.2 = none := by decide +kernel
theorem d265_0 : decode (tb_me 265).1.2.1 0 = .ok (.iload_n 1, 1) := by decide +kernel
theorem d265_1 : decode (tb_me 265).1.2.1 1 = .ok (.aload_n 0, 1) := by decide +kernel
theorem d265_2 : decode (tb_me 265).1.2.1 2 = .ok (.arraylength, 1) := by decide +kernel
theorem d265_3 : decode (tb_me 265).1.2.1 3 = .ok (.invokestatic 9, 3) := by decide +kernel
theorem k265_9 (b : Bool) : tb_lk b 265 9 = (4, 264, 0, 0, 0) := by cases b <;> decide +kernel
theorem d265_6 : decode (tb_me 265).1.2.1 6 = .ok (.aload_n 0, 1) := by decide +kernel
theorem d265_7 : decode (tb_me 265).1.2.1 7 = .ok (.iload_n 1, 1) := by decide +kernel
theorem d265_8 : decode (tb_me 265).1.2.1 8 = .ok (.baload, 1) := by decide +kernel
theorem d265_9 : decode (tb_me 265).1.2.1 9 = .ok (.sipush 255, 3) := by decide +kernel
theorem d265_12 : decode (tb_me 265).1.2.1 12 = .ok (.iand, 1) := by decide +kernel
theorem d265_13 : decode (tb_me 265).1.2.1 13 = .ok (.i2c, 1) := by decide +kernel
theorem d265_14 : decode (tb_me 265).1.2.1 14 = .ok (.ireturn, 1) := by decide +kernel
theorem e265 : (tb_me 265).2.1 = (0, 0) ∧ (tb_me 265).1.2.2.1 = 2 := by decide +kernel
theorem m265 : (tb_me 265).2 = ((0, 0), (2, 999)) ∧ (tb_me 265).1.2.2.1 = 2 := by decide +kernel
theorem t265 : (tb_me 265).1.2.2.2 = some .char := by decide +kernel
theorem d271_0 : decode (tb_me 271).1.2.1 0 = .ok (.iload_n 0, 1) := by decide +kernel
theorem d271_1 : decode (tb_me 271).1.2.1 1 = .ok (.ifCond .lt 8, 3) := by decide +kernel
theorem d271_4 : decode (tb_me 271).1.2.1 4 = .ok (.iload_n 0, 1) := by decide +kernel
theorem d271_5 : decode (tb_me 271).1.2.1 5 = .ok (.iload_n 1, 1) := by decide +kernel
theorem d271_6 : decode (tb_me 271).1.2.1 6 = .ok (.if_icmp .lt 10, 3) := by decide +kernel
theorem d271_16 : decode (tb_me 271).1.2.1 16 = .ok (.iload_n 0, 1) := by decide +kernel
theorem d271_17 : decode (tb_me 271).1.2.1 17 = .ok (.ireturn, 1) := by decide +kernel
theorem e271 : (tb_me 271).2.1 = (0, 0) ∧ (tb_me 271).1.2.2.1 = 3 := by decide +kernel
theorem m271 : (tb_me 271).2 = ((0, 0), (3, 999)) ∧ (tb_me 271).1.2.2.1 = 3 := by decide +kernel
theorem t271 : (tb_me 271).1.2.2.2 = some .int := by decide +kernel
def tx_ok (t : Nat) : Bool := decide (t = 3 ∨ t = 5 ∨ t = 7 ∨ t = 9 ∨ t = 11 ∨ t = 13 ∨ t = 15)
def tx_l (t : Nat) : List Int32 := tb_byt.getD ((t - 3) / 2) []
def tx_n (t : Nat) : Option Int32 := if tx_ok t = true then some (Int32.ofNat (tx_l t).length) else none
def tx_c (t : Nat) (i : Int32) : Option Int32 := if tx_ok t = true then (if mi_in i (tx_l t).length = true then some ((tx_l t).getD i.toNatClampNeg 0) else none) else none
section ROWT
variable {b : Bool} {L : Nat} {xs : Nat → Int32} {d i kc ks pc t : Nat} {ls st r : List Value} {h : pm_H} {Q : Option Value → pm_H → Prop} {u v : Int32} {x n vi : Nat} {f : Nat → Int32}
theorem tx_kt (hok : tx_ok t = true) : tb_kt L xs t = some (.inr (t - 1)) ∧ tb_kt L xs (t - 1) = some (.inl (.byte, (tx_l t).length, fun j => (tx_l t).getD j 0)) := by
  have := of_decide_eq_true hok
  rcases this with rfl | rfl | rfl | rfl | rfl | rfl | rfl <;> exact ⟨rfl, rfl⟩
theorem tx_by (hok : tx_ok t = true) (j : Nat) (hj : j < (tx_l t).length) : ((((tx_l t).getD j 0) &&& (Int16.ofInt 255).toInt32).toUInt32 % 65536).toInt32 = (tx_l t).getD j 0 := by
  have : ∀ t ∈ [3, 5, 7, 9, 11, 13, 15], ∀ j, j < (tx_l t).length → ((((tx_l t).getD j 0) &&& (Int16.ofInt 255).toInt32).toUInt32 % 65536).toInt32 = (tx_l t).getD j 0 := by decide +kernel
  refine this t ?_ j hj
  have := of_decide_eq_true hok
  rcases this with rfl | rfl | rfl | rfl | rfl | rfl | rfl <;> decide
theorem tx_nar (hok : tx_ok t = true) (j : Nat) (hj : j < (tx_l t).length) : narrow .char (.int ((tx_l t).getD j 0)) = .int ((tx_l t).getD j 0) := by
  have : ∀ t ∈ [3, 5, 7, 9, 11, 13, 15], ∀ j, j < (tx_l t).length → narrow .char (.int ((tx_l t).getD j 0)) = .int ((tx_l t).getD j 0) := by decide +kernel
  refine this t ?_ j hj
  have := of_decide_eq_true hok
  rcases this with rfl | rfl | rfl | rfl | rfl | rfl | rfl <;> decide
theorem tx_le (hok : tx_ok t = true) : (tx_l t).length ≤ 57 := by
  have := of_decide_eq_true hok
  rcases this with rfl | rfl | rfl | rfl | rfl | rfl | rfl <;> decide
theorem pw_g19 (hdg : decode (tb_me i).1.2.1 pc = .ok (.getstatic x, 3)) (hk : tb_lk b i x = (19, 0, 0, v, 0)) (kk : PW b L xs d i kc ks (pc + 3) ls (.int v :: st) h Q) : PW b L xs d i kc ks pc ls st h Q := by
  refine pw_h hdg rfl rfl rfl rfl rfl (?_ : _ = some (kc, ks, pc + 3, .int v :: st, h)) kk
  simp [pm_hp, hk]
theorem pw_gt0 (hdg : decode (tb_me i).1.2.1 pc = .ok (.getfield x, 3)) (hk : tb_lk b i x = (18, 0, 0, 0, 0)) (hkt : tb_kt L xs t = some (.inr vi)) (kk : PW b L xs d i kc ks (pc + 3) ls (.int 0 :: r) h Q) : PW b L xs d i kc ks pc ls (.ref (pm_B + t) :: r) h Q := by
  refine pw_h hdg rfl rfl rfl rfl rfl (?_ : _ = some (kc, ks, pc + 3, .int 0 :: r, h)) kk
  simp [pm_hp, hk, pm_gtx, hkt]
theorem pw_gt1 (hdg : decode (tb_me i).1.2.1 pc = .ok (.getfield x, 3)) (hk : tb_lk b i x = (18, 1, 0, 0, 0)) (hkt : tb_kt L xs t = some (.inr vi)) (kk : PW b L xs d i kc ks (pc + 3) ls (.ref (pm_B + vi) :: r) h Q) : PW b L xs d i kc ks pc ls (.ref (pm_B + t) :: r) h Q := by
  refine pw_h hdg rfl rfl rfl rfl rfl (?_ : _ = some (kc, ks, pc + 3, .ref (pm_B + vi) :: r, h)) kk
  simp [pm_hp, hk, pm_gtx, hkt]
theorem pw_alc {ty : FieldType} (hdg : decode (tb_me i).1.2.1 pc = .ok (.arraylength, 1)) (hs : h.1 = tb_SH) (hkt : tb_kt L xs vi = some (.inl (ty, n, f))) (kk : PW b L xs d i kc ks (pc + 1) ls (.int (Int32.ofNat n) :: r) h Q) : PW b L xs d i kc ks pc ls (.ref (pm_B + vi) :: r) h Q := by
  refine pw_h hdg rfl rfl rfl rfl rfl (?_ : _ = some (kc, ks, pc + 1, .int (Int32.ofNat n) :: r, h)) kk
  simp only [pm_hp, pm_alen, mi_noB hs]
  simp [hkt]
theorem tx_ald {kt : pm_Kt} {k : Nat} (h0 : h.1[k]? = none) (hB : pm_B ≤ k) (hkt : kt (k - pm_B) = some (.inl (.byte, n, f))) (hi : ¬ (v < 0 ∨ n ≤ v.toNatClampNeg)) : pm_aldI kt h (fun t => decide (t = .byte) || decide (t = .boolean)) (.int v :: .ref k :: r) = some (.int (f v.toNatClampNeg) :: r) := by
  unfold pm_aldI
  simp only [h0, if_pos hB, hkt]
  rw [if_pos ⟨by decide, hi⟩]
theorem tx_rcv {kt : pm_Kt} {k : Nat} (hB : pm_B ≤ k) (hkt : kt (k - pm_B) = some (.inr vi)) : pm_rcv kt h 1000 (some (.ref k)) = true := by
  unfold pm_rcv
  simp only [pm_tc, if_true, hkt, pm_istx, Bool.and_true]
  exact decide_eq_true hB
theorem pw_abk {k : Nat} (hdg : decode (tb_me i).1.2.1 pc = .ok (.baload, 1)) (h0 : h.1[k]? = none) (hB : pm_B ≤ k) (hkt : tb_kt L xs (k - pm_B) = some (.inl (.byte, n, f))) (hi : mi_in v n = true) (kk : PW b L xs d i kc ks (pc + 1) ls (.int (f v.toNatClampNeg) :: r) h Q) : PW b L xs d i kc ks pc ls (.int v :: .ref k :: r) h Q := by
  refine pw_h hdg rfl rfl rfl rfl rfl (?_ : _ = some (kc, ks, pc + 1, .int (f v.toNatClampNeg) :: r, h)) kk
  have hi := mi_in_x hi
  unfold vp_in at hi
  have e := tx_ald (kt := tb_kt L xs) (r := r) h0 hB hkt hi
  simp only [pm_hp, e, Option.map_some]
theorem pw_abc (hdg : decode (tb_me i).1.2.1 pc = .ok (.baload, 1)) (hs : h.1 = tb_SH) (hkt : tb_kt L xs vi = some (.inl (.byte, n, f))) (hi : mi_in v n = true) (kk : PW b L xs d i kc ks (pc + 1) ls (.int (f v.toNatClampNeg) :: r) h Q) : PW b L xs d i kc ks pc ls (.int v :: .ref (pm_B + vi) :: r) h Q :=
  pw_abk hdg (mi_noB hs) (Nat.le_add_right _ _) (by rw [Nat.add_sub_cancel_left]; exact hkt) hi kk
/-- a call on a text -/
theorem pw_vt {j np mL : Nat} {as rest : List Value} {Qj : Option Value → pm_H → Prop} (hd : 1 ≤ d) (hdg : decode (tb_me i).1.2.1 pc = .ok (.invokevirtual x, 3)) (hk : tb_lk b i x = (2, j, 0, 0, 0)) (hm : (tb_me j).2 = ((0, 0), (np, 1000)) ∧ (tb_me j).1.2.2.1 = mL) (hst : st[np]? = some (.ref (pm_B + t))) (hkt : tb_kt L xs t = some (.inr vi)) (h8 : ((st.drop (np + 1)).map fun v => v.category).sum ≤ 8) (h9 : ((st.take (np + 1)).map fun v => v.category).sum ≤ mL) (has : (st.take (np + 1)).reverse = as) (hre : st.drop (np + 1) = rest)
    (hc : PC b L xs (d - 1) j as h Qj) (kk : ∀ v h', Qj v h' → PW b L xs d i kc ks (pc + 3) ls (v.toList ++ rest) h' Q) : PW b L xs d i kc ks pc ls st h Q := by
  have er : pm_rcv (tb_kt L xs) h 1000 st[np]? = true := by
    rw [hst]
    exact tx_rcv (kt := tb_kt L xs) (Nat.le_add_right _ _) (by rw [Nat.add_sub_cancel_left]; exact hkt)
  refine pw_c hd hdg rfl rfl rfl rfl rfl rfl (?_ : _ = some (j, as, rest)) hc (fun v h' hv => ?_)
  · simp only [pm_cal, hk, hm.1, hm.2]
    rw [if_pos ⟨Or.inl trivial, er, Nat.zero_le _, Nat.zero_le _, h8, h9⟩, has, hre]
  · rw [hm.1]; exact kk v h' hv
end ROWT
section TX
variable (b : Bool) (L : Nat) (xs : Nat → Int32) (d : Nat) (h : pm_H) (t : Nat)
theorem tx_coder (hok : tx_ok t = true) : PC b L xs d 262 [.ref (pm_B + t)] h (fun v0 h2 => v0 = some (.int 0) ∧ h2 = h) := by
  refine pc_in e262 (ls0 := [.ref (pm_B + t)]) rfl ?_
  refine pw_g19 (pc := 0) d262_0 (k262_38 b) ?_
  refine pw_zeq (pc := 3) (t := 13) d262_3 (by decide) (fun c => absurd c (by decide)) (fun _ => ?_)
  refine pw_l (pc := 6) d262_6 rfl rfl rfl ?_
  refine pw_gt0 (pc := 7) d262_7 (k262_15 b) (tx_kt hok).1 ?_
  refine pw_go (pc := 10) (t := 14) d262_10 (by decide) ?_
  exact pw_ri (pc := 14) d262_14 t262 rfl ⟨rfl, rfl⟩
theorem tx_isL (hok : tx_ok t = true) : PC b L xs d 263 [.ref (pm_B + t)] h (fun v0 h2 => v0 = some (.int 1) ∧ h2 = h) := by
  refine pc_in e263 (ls0 := [.ref (pm_B + t)]) rfl ?_
  refine pw_g19 (pc := 0) d263_0 (k263_38 b) ?_
  refine pw_zeq (pc := 3) (t := 17) d263_3 (by decide) (fun c => absurd c (by decide)) (fun _ => ?_)
  refine pw_l (pc := 6) d263_6 rfl rfl rfl ?_
  refine pw_gt0 (pc := 7) d263_7 (k263_15 b) (tx_kt hok).1 ?_
  refine pw_zne (pc := 10) (t := 17) d263_10 (by decide) (fun c => absurd rfl c) (fun _ => ?_)
  refine pw_s (pc := 13) d263_13 rfl rfl ?_
  refine pw_go (pc := 14) (t := 18) d263_14 (by decide) ?_
  exact pw_ri (pc := 18) d263_18 t263 rfl ⟨rfl, rfl⟩
theorem tx_chk3 (i n : Int32) (w : Value) (hw : w = .null ∨ w = .ref (pm_B + 40)) (h1 : ¬ i < 0) (h2 : i < n) : PC b L xs d 271 [.int i, .int n, w] h (fun v0 h2 => v0 = some (.int i) ∧ h2 = h) := by
  have go : PW b L xs d 271 0 0 0 [.int i, .int n, w] [] h (fun v0 h2 => v0 = some (.int i) ∧ h2 = h) := by
    refine pw_l (pc := 0) d271_0 rfl rfl rfl ?_
    refine pw_zlt (pc := 1) (t := 9) d271_1 (by decide) (fun c => absurd c h1) (fun _ => ?_)
    refine pw_l (pc := 4) d271_4 rfl rfl rfl ?_
    refine pw_l (pc := 5) d271_5 rfl rfl rfl ?_
    refine pw_ilt (pc := 6) (t := 16) d271_6 (by decide) (fun _ => ?_) (fun c => absurd h2 c)
    refine pw_l (pc := 16) d271_16 rfl rfl rfl ?_
    exact pw_ri (pc := 17) d271_17 t271 rfl ⟨rfl, rfl⟩
  rcases hw with rfl | rfl
  · exact pc_in e271 rfl go
  · exact pc_in e271 rfl go
theorem pw_g20 {L : Nat} {xs : Nat → Int32} {d i kc ks pc x : Nat} {ls st : List Value} {h : pm_H} {Q : Option Value → pm_H → Prop} (hdg : decode (tb_me i).1.2.1 pc = .ok (.getstatic x, 3)) (hk : tb_lk b i x = (20, 0, 0, 0, 0)) (kk : PW b L xs d i kc ks (pc + 3) ls (.null :: st) h Q) : PW b L xs d i kc ks pc ls st h Q := by
  refine pw_h hdg rfl rfl rfl rfl rfl (?_ : _ = some (kc, ks, pc + 3, .null :: st, h)) kk
  simp [pm_hp, hk]
theorem tx_k264 : tb_lk true 264 1053 = (20, 0, 0, 0, 0) ∧ tb_lk false 264 1053 = (15, 40, 0, 0, 0) := by decide +kernel
theorem tx_chk (hd : 1 ≤ d) (i n : Int32) (h1 : ¬ i < 0) (h2 : i < n) : PC b L xs d 264 [.int i, .int n] h (fun v0 h2 => v0 = none ∧ h2 = h) := by
  refine pc_in e264 (ls0 := [.int i, .int n]) rfl ?_
  refine pw_l (pc := 0) d264_0 rfl rfl rfl ?_
  refine pw_l (pc := 1) d264_1 rfl rfl rfl ?_
  have go : ∀ w : Value, w = .null ∨ w = .ref (pm_B + 40) → PW b L xs d 264 0 0 5 [.int i, .int n] [w, .int n, .int i] h (fun v0 h2 => v0 = none ∧ h2 = h) := by
    intro w hw
    have h9 : (([w, .int n, .int i].take 3).map fun v : Value => v.category).sum ≤ 3 := by rcases hw with rfl | rfl <;> exact Nat.le_of_ble_eq_true rfl
    refine pw_u (pc := 5) hd d264_5 (k264_1059 b) (Or.inl rfl) m271 (by simp) (by simp) h9 rfl rfl (tx_chk3 b L xs (d - 1) h i n w hw h1 h2) (fun v0 h0 hq => ?_)
    obtain ⟨rfl, rfl⟩ := hq
    simp only [Option.toList_some, List.cons_append, List.nil_append]
    refine pw_s (pc := 8) d264_8 rfl rfl ?_
    exact pw_rv (pc := 9) d264_9 t264 ⟨rfl, rfl⟩
  cases b with
  | true => exact pw_g20 (b := true) (pc := 2) d264_2 tx_k264.1 (go _ (Or.inl rfl))
  | false => exact pw_gs (pc := 2) d264_2 tx_k264.2 (go _ (Or.inr rfl))
theorem mi_lt {i : Int32} {n : Nat} (hn : n ≤ 57) (hi : mi_in i n = true) : ¬ i < 0 ∧ i < Int32.ofNat n ∧ i.toNatClampNeg < n := by
  have hi := of_decide_eq_true hi
  have h0 : ¬ i < 0 := fun c => hi (Or.inl c)
  have h1 : i.toNatClampNeg < n := by
    apply Nat.lt_of_not_le
    exact fun c => hi (Or.inr c)
  refine ⟨h0, ?_, h1⟩
  rw [Int32.lt_iff_toInt_lt] at h0 ⊢
  rw [Int32.toNatClampNeg] at h1
  have e : (Int32.ofNat n).toInt = n := Int32.toInt_ofNat_of_lt (by omega)
  rw [e]
  have z : (0 : Int32).toInt = 0 := rfl
  rw [z] at h0
  omega
theorem tx_at (hd : 2 ≤ d) (hs : h.1 = tb_SH) (hok : tx_ok t = true) (i : Int32) (hi : mi_in i (tx_l t).length = true) : PC b L xs d 265 [.ref (pm_B + (t - 1)), .int i] h (fun v0 h2 => v0 = some (.int ((tx_l t).getD i.toNatClampNeg 0)) ∧ h2 = h) := by
  obtain ⟨h1, h2, h3⟩ := mi_lt (tx_le hok) hi
  refine pc_in e265 (ls0 := [.ref (pm_B + (t - 1)), .int i]) rfl ?_
  refine pw_l (pc := 0) d265_0 rfl rfl rfl ?_
  refine pw_l (pc := 1) d265_1 rfl rfl rfl ?_
  refine pw_alc (pc := 2) d265_2 hs (tx_kt hok).2 ?_
  refine pw_u (pc := 3) (by omega) d265_3 (k265_9 b) (Or.inl rfl) m264 (Nat.le_of_ble_eq_true rfl) (Nat.le_of_ble_eq_true rfl) (Nat.le_of_ble_eq_true rfl) rfl rfl (tx_chk b L xs (d - 1) h (by omega) i (Int32.ofNat (tx_l t).length) h1 h2) (fun v0 h0 hq => ?_)
  obtain ⟨rfl, rfl⟩ := hq
  simp only [Option.toList_none, List.nil_append]
  refine pw_l (pc := 6) d265_6 rfl rfl rfl ?_
  refine pw_l (pc := 7) d265_7 rfl rfl rfl ?_
  refine pw_abc (pc := 8) d265_8 hs (tx_kt hok).2 hi ?_
  refine pw_s (pc := 9) d265_9 rfl rfl ?_
  refine pw_s (pc := 12) d265_12 rfl rfl ?_
  refine pw_s (pc := 13) d265_13 rfl rfl ?_
  show PW b L xs d 265 0 0 14 _ [.int ((((tx_l t).getD i.toNatClampNeg 0) &&& (Int16.ofInt 255).toInt32).toUInt32 % 65536).toInt32] _ _
  rw [tx_by hok _ h3]
  exact pw_ri (pc := 14) d265_14 t265 (tx_nar hok _ h3) ⟨rfl, rfl⟩
theorem tx_len (hd : 1 ≤ d) (hs : h.1 = tb_SH) (hok : tx_ok t = true) : PC b L xs d 260 [.ref (pm_B + t)] h (fun v0 h2 => v0 = some (.int (Int32.ofNat (tx_l t).length)) ∧ h2 = h) := by
  refine pc_in e260 (ls0 := [.ref (pm_B + t)]) rfl ?_
  refine pw_l (pc := 0) d260_0 rfl rfl rfl ?_
  refine pw_gt1 (pc := 1) d260_1 (k260_9 b) (tx_kt hok).1 ?_
  refine pw_alc (pc := 4) d260_4 hs (tx_kt hok).2 ?_
  refine pw_l (pc := 5) d260_5 rfl rfl rfl ?_
  refine pw_vt (pc := 6) hd d260_6 (k260_335 b) m262 rfl (tx_kt hok).1 (Nat.le_of_ble_eq_true rfl) (Nat.le_of_ble_eq_true rfl) rfl rfl (tx_coder b L xs (d - 1) h t hok) (fun v0 h0 hq => ?_)
  obtain ⟨rfl, rfl⟩ := hq
  simp only [Option.toList_some, List.cons_append, List.nil_append]
  refine pw_s (pc := 9) d260_9 rfl rfl ?_
  have e : Int32.ofNat (tx_l t).length >>> ((0 : Int32) &&& 31) = Int32.ofNat (tx_l t).length := by
    have := of_decide_eq_true hok
    rcases this with rfl | rfl | rfl | rfl | rfl | rfl | rfl <;> decide
  show PW b L xs d 260 0 0 10 _ [.int (Int32.ofNat (tx_l t).length >>> ((0 : Int32) &&& 31))] _ _
  rw [e]
  exact pw_ri (pc := 10) d260_10 t260 rfl ⟨rfl, rfl⟩
theorem tx_char (hd : 3 ≤ d) (hs : h.1 = tb_SH) (hok : tx_ok t = true) (i : Int32) (hi : mi_in i (tx_l t).length = true) : PC b L xs d 261 [.ref (pm_B + t), .int i] h (fun v0 h2 => v0 = some (.int ((tx_l t).getD i.toNatClampNeg 0)) ∧ h2 = h) := by
  obtain ⟨h1, h2, h3⟩ := mi_lt (tx_le hok) hi
  refine pc_in e261 (ls0 := [.ref (pm_B + t), .int i]) rfl ?_
  refine pw_l (pc := 0) d261_0 rfl rfl rfl ?_
  refine pw_vt (pc := 1) (by omega) d261_1 (k261_492 b) m263 rfl (tx_kt hok).1 (Nat.le_of_ble_eq_true rfl) (Nat.le_of_ble_eq_true rfl) rfl rfl (tx_isL b L xs (d - 1) h t hok) (fun v0 h0 hq => ?_)
  obtain ⟨rfl, rfl⟩ := hq
  simp only [Option.toList_some, List.cons_append, List.nil_append]
  refine pw_zeq (pc := 4) (t := 16) d261_4 (by decide) (fun c => absurd c (by decide)) (fun _ => ?_)
  refine pw_l (pc := 7) d261_7 rfl rfl rfl ?_
  refine pw_gt1 (pc := 8) d261_8 (k261_9 b) (tx_kt hok).1 ?_
  refine pw_l (pc := 11) d261_11 rfl rfl rfl ?_
  refine pw_u (pc := 12) (by omega) d261_12 (k261_495 b) (Or.inl rfl) m265 (Nat.le_of_ble_eq_true rfl) (Nat.le_of_ble_eq_true rfl) (Nat.le_of_ble_eq_true rfl) rfl rfl (tx_at b L xs (d - 1) h0 t (by omega) hs hok i hi) (fun v0 h4 hq => ?_)
  obtain ⟨rfl, rfl⟩ := hq
  simp only [Option.toList_some, List.cons_append, List.nil_append]
  exact pw_ri (pc := 15) d261_15 t261 (tx_nar hok _ h3) ⟨rfl, rfl⟩
end TX
section TXC
variable {b : Bool} {L : Nat} {xs : Nat → Int32} {d i kc ks pc t : Nat} {ls r : List Value} {h : pm_H} {Q : Option Value → pm_H → Prop} {u q : Int32} {x : Nat}
theorem pw_txn (hd : 8 ≤ d) (hdg : decode (tb_me i).1.2.1 pc = .ok (.invokevirtual x, 3)) (hk : tb_lk b i x = (2, 260, 0, 0, 0)) (hs : h.1 = tb_SH) (h8 : (r.map fun v => v.category).sum ≤ 8) (e : tx_n t = some q) (kk : PW b L xs d i kc ks (pc + 3) ls (.int q :: r) h Q) : PW b L xs d i kc ks pc ls (.ref (pm_B + t) :: r) h Q := by
  unfold tx_n at e
  obtain ⟨hok, e⟩ := gd_x e
  obtain rfl := Option.some.inj e
  refine pw_vt (pc := pc) (by omega) hdg hk m260 rfl (tx_kt hok).1 h8 (Nat.le_of_ble_eq_true rfl) rfl rfl (tx_len b L xs (d - 1) h t (by omega) hs hok) (fun v0 h0 hq => ?_)
  obtain ⟨rfl, rfl⟩ := hq
  exact kk
theorem pw_txc (hd : 8 ≤ d) (hdg : decode (tb_me i).1.2.1 pc = .ok (.invokevirtual x, 3)) (hk : tb_lk b i x = (2, 261, 0, 0, 0)) (hs : h.1 = tb_SH) (h8 : (r.map fun v => v.category).sum ≤ 8) (e : tx_c t u = some q) (kk : PW b L xs d i kc ks (pc + 3) ls (.int q :: r) h Q) : PW b L xs d i kc ks pc ls (.int u :: .ref (pm_B + t) :: r) h Q := by
  unfold tx_c at e
  obtain ⟨hok, e⟩ := gd_x e
  obtain ⟨hi, e⟩ := gd_x e
  obtain rfl := Option.some.inj e
  refine pw_vt (pc := pc) (by omega) hdg hk m261 rfl (tx_kt hok).1 h8 (Nat.le_of_ble_eq_true rfl) rfl rfl (tx_char b L xs (d - 1) h t (by omega) hs hok u hi) (fun v0 h0 hq => ?_)
  obtain ⟨rfl, rfl⟩ := hq
  exact kk
/-- switches: not one of the numbers -/
theorem mi_ne {x : Int32} {v : Int32} {k : Int} (c : ¬ x = v) (e : v.toInt = k) : ¬ x.toInt = k := fun g => c (Int32.toInt_inj.mp (by rw [g, e]))
theorem mi_sw {x : Int32} {lo : Int} {n : Nat} (h1 : -2147483648 ≤ lo) (h2 : lo + n ≤ 2147483647) (hx : ∀ j, j < n → ¬ x = Int32.ofInt (lo + j)) : x.toInt < lo ∨ lo + n - 1 < x.toInt := by
  apply Classical.byContradiction
  intro c
  have c1 : lo ≤ x.toInt ∧ x.toInt ≤ lo + n - 1 := by omega
  refine hx (x.toInt - lo).toNat (by omega) ?_
  have : lo + ((x.toInt - lo).toNat : Int) = x.toInt := by omega
  rw [this, Int32.ofInt_toInt]
theorem mi_lk (x : Int) {ps : List (Int × Int)} {df : Int} (hp : ∀ q ∈ ps, ¬ x = q.1) : Op.lookupswitch.offset ps df x = df := by
  induction ps with
  | nil => rfl
  | cons q r ih =>
    obtain ⟨a, o⟩ := q
    rw [Op.lookupswitch.offset_cons, if_neg (fun e => hp (a, o) List.mem_cons_self e.symm)]
    exact ih (fun q hq => hp q (List.mem_cons_of_mem _ hq))
end TXC
