/-! Walked by wip/walk.py. -/
theorem d211_9 : decode (tb_me 211).1.2.1 9 = .ok (.idiv, 1) := by decide +kernel
theorem d211_10 : decode (tb_me 211).1.2.1 10 = .ok (.bipush 10, 2) := by decide +kernel
theorem d211_12 : decode (tb_me 211).1.2.1 12 = .ok (.irem, 1) := by decide +kernel
theorem d211_13 : decode (tb_me 211).1.2.1 13 = .ok (.ireturn, 1) := by decide +kernel
theorem t211 : (tb_me 211).1.2.2.2 = some .int := by decide +kernel
theorem e211 : (tb_me 211).2.1 = (0, 0) ∧ (tb_me 211).1.2.2.1 = 3 := by decide +kernel
theorem d254_0 : decode (tb_me 254).1.2.1 0 = .ok (.aload_n 0, 1) := by decide +kernel
theorem d254_1 : decode (tb_me 254).1.2.1 1 = .ok (.aload_n 0, 1) := by decide +kernel
theorem d254_2 : decode (tb_me 254).1.2.1 2 = .ok (.getfield 419, 3) := by decide +kernel
theorem k254_419 (b : Bool) : tb_lk b 254 419 = (1, 10, 31, 0, 0) := by cases b <;> decide +kernel
theorem f10_31 : (31 < pm_nf tb_cl 10) ∧ tb_ft 10 31 = .long := by decide +kernel
theorem d254_5 : decode (tb_me 254).1.2.1 5 = .ok (.ldc2_w 423, 3) := by decide +kernel
theorem k254_423 (b : Bool) : tb_lk b 254 423 = (12, 0, 0, 0, 1103515245) := by cases b <;> decide +kernel
theorem d254_8 : decode (tb_me 254).1.2.1 8 = .ok (.lmul, 1) := by decide +kernel
theorem d254_9 : decode (tb_me 254).1.2.1 9 = .ok (.ldc2_w 425, 3) := by decide +kernel
theorem k254_425 (b : Bool) : tb_lk b 254 425 = (12, 0, 0, 0, 12345) := by cases b <;> decide +kernel
theorem d254_12 : decode (tb_me 254).1.2.1 12 = .ok (.ladd, 1) := by decide +kernel
theorem d254_13 : decode (tb_me 254).1.2.1 13 = .ok (.ldc2_w 427, 3) := by decide +kernel
theorem k254_427 (b : Bool) : tb_lk b 254 427 = (12, 0, 0, 0, 2147483648) := by cases b <;> decide +kernel
theorem d254_16 : decode (tb_me 254).1.2.1 16 = .ok (.lrem, 1) := by decide +kernel
theorem d254_17 : decode (tb_me 254).1.2.1 17 = .ok (.putfield 419, 3) := by decide +kernel
theorem p254_10_31 : (31 < pm_nf tb_cl 10) ∧ tb_ft 10 31 = .long ∧ pm_fin tb_cl (tb_me 254).1.1 10 31 = true := by decide +kernel
theorem d254_20 : decode (tb_me 254).1.2.1 20 = .ok (.aload_n 0, 1) := by decide +kernel
theorem d254_21 : decode (tb_me 254).1.2.1 21 = .ok (.getfield 419, 3) := by decide +kernel
theorem d254_24 : decode (tb_me 254).1.2.1 24 = .ok (.ldc2_w 429, 3) := by decide +kernel
theorem k254_429 (b : Bool) : tb_lk b 254 429 = (12, 0, 0, 0, 65536) := by cases b <;> decide +kernel
theorem d254_27 : decode (tb_me 254).1.2.1 27 = .ok (.ldiv, 1) := by decide +kernel
theorem d254_28 : decode (tb_me 254).1.2.1 28 = .ok (.iload_n 1, 1) := by decide +kernel
theorem d254_29 : decode (tb_me 254).1.2.1 29 = .ok (.i2l, 1) := by decide +kernel
theorem d254_30 : decode (tb_me 254).1.2.1 30 = .ok (.lrem, 1) := by decide +kernel
theorem d254_31 : decode (tb_me 254).1.2.1 31 = .ok (.l2i, 1) := by decide +kernel
theorem d254_32 : decode (tb_me 254).1.2.1 32 = .ok (.ireturn, 1) := by decide +kernel
theorem t254 : (tb_me 254).1.2.2.2 = some .int := by decide +kernel
theorem e254 : (tb_me 254).2.1 = (0, 0) ∧ (tb_me 254).1.2.2.1 = 2 := by decide +kernel
theorem m200 : (tb_me 200).2 = ((0, 0), (0, 10)) ∧ (tb_me 200).1.2.2.1 = 3 := by decide +kernel
theorem d238_12 : decode (tb_me 238).1.2.1 12 = .ok (.invokevirtual 386, 3) := by decide +kernel
theorem k238_386 (b : Bool) : tb_lk b 238 386 = (2, 221, 0, 0, 0) := by cases b <;> decide +kernel
def v_digit (a0 : Int32) (a1 : Int32) (a2 : Int32) (h : pm_H) : Int32 := ((a0 / (v_ten ((a1 - (Int32.ofInt 1)) - a2) h)) - (a0 / (v_ten ((a1 - (Int32.ofInt 1)) - a2) h)) / (Int8.ofInt 10).toInt32 * (Int8.ofInt 10).toInt32)
theorem c_digit (b : Bool) (L : Nat) (xs : Nat → Int32) (d : Nat) (hd : 1 ≤ d) (h : pm_H) (hI : IM h) (a0 : Int32) (a1 : Int32) (a2 : Int32) (b0 : (vp_in (((a1 - (Int32.ofInt 1)) - a2)) 10)) (b1 : ¬ (v_ten ((a1 - (Int32.ofInt 1)) - a2) h) = 0) : PC b L xs d 211 [.int a0, .int a1, .int a2] h (fun r0 h2 => r0 = some (.int (v_digit a0 a1 a2 h)) ∧ h2 = h) := by
  refine pc_in e211 (ls0 := [.int a0, .int a1, .int a2]) rfl ?_
  refine pw_l (pc := 0) d211_0 rfl rfl rfl ?_
  refine pw_l (pc := 1) d211_1 rfl rfl rfl ?_
  refine pw_s (pc := 2) d211_2 rfl rfl ?_
  refine pw_s (pc := 3) d211_3 rfl rfl ?_
  refine pw_l (pc := 4) d211_4 rfl rfl rfl ?_
  refine pw_s (pc := 5) d211_5 rfl rfl ?_
  refine pw_u (pc := 6) (by omega) d211_6 (k211_302 b) (by decide) m209 (Nat.le_of_ble_eq_true rfl) (Nat.le_of_ble_eq_true rfl) (Nat.le_of_ble_eq_true rfl) rfl rfl (w_ten b L xs (d - 1) (by omega) h hI ((a1 - (Int32.ofInt 1)) - a2) (b0 )) (fun v h2 hq => ?_)
  obtain ⟨rfl, hq2⟩ := hq
  rw [hq2]
  simp only [Option.toList_some, List.cons_append, List.nil_append]
  refine pw_di (pc := 9) d211_9 (b1 ) ?_
  refine pw_s (pc := 10) d211_10 rfl rfl ?_
  refine pw_re (pc := 12) d211_12 (by decide) ?_
  refine pw_ri (pc := 13) d211_13 t211 rfl ?_
  exact ⟨(by rw [v_digit]), rfl⟩
def v_draw (a0 : Int32) (h : pm_H) : Int32 := ((((pm_setL h 193 31 ((((h.2.2.1 193 31) * (1103515245 : Int64)) + (12345 : Int64)) - (((h.2.2.1 193 31) * (1103515245 : Int64)) + (12345 : Int64)) / (2147483648 : Int64) * (2147483648 : Int64))).2.2.1 193 31) / (65536 : Int64)) - (((pm_setL h 193 31 ((((h.2.2.1 193 31) * (1103515245 : Int64)) + (12345 : Int64)) - (((h.2.2.1 193 31) * (1103515245 : Int64)) + (12345 : Int64)) / (2147483648 : Int64) * (2147483648 : Int64))).2.2.1 193 31) / (65536 : Int64)) / a0.toInt64 * a0.toInt64).toInt32
def e_draw (a0 : Int32) (h : pm_H) : pm_H := (pm_setL h 193 31 ((((h.2.2.1 193 31) * (1103515245 : Int64)) + (12345 : Int64)) - (((h.2.2.1 193 31) * (1103515245 : Int64)) + (12345 : Int64)) / (2147483648 : Int64) * (2147483648 : Int64)))
theorem e_draw_I {a0 : Int32} {h : pm_H} (hI : IM h) : IM (e_draw a0 h) := by
  unfold e_draw
  repeat' split
  all_goals first | exact hI | exact e_fails_I hI | exact e_seed_I hI | exact e_end_I hI | exact e_makes_I hI | exact e_push_I hI | exact e_pop_I hI | exact e_puts_I hI | exact e_opens_I hI | exact e_done_I hI | exact e_keepsAct_I hI | exact e_wake_I hI | exact e_sicken_I hI | exact e_die_I hI | exact e_teach_I hI | exact e_turn_I hI
theorem c_draw (b : Bool) (L : Nat) (xs : Nat → Int32) (d : Nat) (hd : 0 ≤ d) (h : pm_H) (hI : IM h) (a0 : Int32) (b0 : ¬ a0.toInt64 = 0) : PC b L xs d 254 [.ref 193, .int a0] h (fun r0 h2 => r0 = some (.int (v_draw a0 h)) ∧ h2 = e_draw a0 h) := by
  refine pc_in e254 (ls0 := [.ref 193, .int a0]) rfl ?_
  refine pw_l (pc := 0) d254_0 rfl rfl rfl ?_
  refine pw_l (pc := 1) d254_1 rfl rfl rfl ?_
  refine pw_gl (pc := 2) d254_2 (k254_419 b) (sh_at hI.1 s193) f10_31 ?_
  refine pw_cl (pc := 5) d254_5 (k254_423 b) ?_
  refine pw_s (pc := 8) d254_8 rfl rfl ?_
  refine pw_cl (pc := 9) d254_9 (k254_425 b) ?_
  refine pw_s (pc := 12) d254_12 rfl rfl ?_
  refine pw_cl (pc := 13) d254_13 (k254_427 b) ?_
  refine pw_lre (pc := 16) d254_16 (by decide) ?_
  refine pw_pl (pc := 17) d254_17 (k254_419 b) (sh_at hI.1 s193) p254_10_31 ?_
  refine pw_l (pc := 20) d254_20 rfl rfl rfl ?_
  refine pw_gl (pc := 21) d254_21 (k254_419 b) (sh_at hI.1 s193) f10_31 ?_
  refine pw_cl (pc := 24) d254_24 (k254_429 b) ?_
  refine pw_ldi (pc := 27) d254_27 (by decide) ?_
  refine pw_l (pc := 28) d254_28 rfl rfl rfl ?_
  refine pw_s (pc := 29) d254_29 rfl rfl ?_
  refine pw_lre (pc := 30) d254_30 (b0 ) ?_
  refine pw_s (pc := 31) d254_31 rfl rfl ?_
  refine pw_ri (pc := 32) d254_32 t254 rfl ?_
  exact ⟨(by rw [v_draw]), (by rw [e_draw])⟩
