/-! Walked by wip/walk.py. -/
theorem m209 : (tb_me 209).2 = ((0, 0), (1, 999)) ∧ (tb_me 209).1.2.2.1 = 3 := by decide +kernel
theorem d210_21 : decode (tb_me 210).1.2.1 21 = .ok (.if_icmp .ge 7, 3) := by decide +kernel
theorem d210_24 : decode (tb_me 210).1.2.1 24 = .ok (.iconst 1, 1) := by decide +kernel
theorem d210_25 : decode (tb_me 210).1.2.1 25 = .ok (.goto 4, 3) := by decide +kernel
theorem e210 : (tb_me 210).2.1 = (0, 0) ∧ (tb_me 210).1.2.2.1 = 2 := by decide +kernel
theorem m224 : (tb_me 224).2 = ((0, 0), (0, 10)) ∧ (tb_me 224).1.2.2.1 = 2 := by decide +kernel
theorem d229_33 : decode (tb_me 229).1.2.1 33 = .ok (.aload_n 0, 1) := by decide +kernel
theorem d229_34 : decode (tb_me 229).1.2.1 34 = .ok (.getfield 39, 3) := by decide +kernel
theorem k229_39 (b : Bool) : tb_lk b 229 39 = (1, 10, 20, 0, 0) := by cases b <;> decide +kernel
theorem d229_37 : decode (tb_me 229).1.2.1 37 = .ok (.bipush 10, 2) := by decide +kernel
theorem d229_39 : decode (tb_me 229).1.2.1 39 = .ok (.bipush 6, 2) := by decide +kernel
theorem d229_41 : decode (tb_me 229).1.2.1 41 = .ok (.iload_n 1, 1) := by decide +kernel
theorem d229_42 : decode (tb_me 229).1.2.1 42 = .ok (.imul, 1) := by decide +kernel
theorem d229_43 : decode (tb_me 229).1.2.1 43 = .ok (.iadd, 1) := by decide +kernel
theorem d229_44 : decode (tb_me 229).1.2.1 44 = .ok (.iconst 2, 1) := by decide +kernel
theorem d229_45 : decode (tb_me 229).1.2.1 45 = .ok (.iadd, 1) := by decide +kernel
theorem d229_46 : decode (tb_me 229).1.2.1 46 = .ok (.iload_n 2, 1) := by decide +kernel
theorem d229_47 : decode (tb_me 229).1.2.1 47 = .ok (.ifCond .eq 7, 3) := by decide +kernel
theorem d229_54 : decode (tb_me 229).1.2.1 54 = .ok (.iconst 0, 1) := by decide +kernel
theorem d229_55 : decode (tb_me 229).1.2.1 55 = .ok (.iastore, 1) := by decide +kernel
theorem d229_56 : decode (tb_me 229).1.2.1 56 = .ok (.iconst 1, 1) := by decide +kernel
theorem d229_57 : decode (tb_me 229).1.2.1 57 = .ok (.ireturn, 1) := by decide +kernel
theorem d229_50 : decode (tb_me 229).1.2.1 50 = .ok (.iconst 1, 1) := by decide +kernel
theorem d229_51 : decode (tb_me 229).1.2.1 51 = .ok (.goto 4, 3) := by decide +kernel
theorem d229_18 : decode (tb_me 229).1.2.1 18 = .ok (.iconst 1, 1) := by decide +kernel
theorem d229_19 : decode (tb_me 229).1.2.1 19 = .ok (.goto 4, 3) := by decide +kernel
theorem e229 : (tb_me 229).2.1 = (0, 0) ∧ (tb_me 229).1.2.2.1 = 3 := by decide +kernel
theorem d230_26 : decode (tb_me 230).1.2.1 26 = .ok (.aload_n 0, 1) := by decide +kernel
theorem d230_27 : decode (tb_me 230).1.2.1 27 = .ok (.iload_n 1, 1) := by decide +kernel
theorem d230_28 : decode (tb_me 230).1.2.1 28 = .ok (.iconst 3, 1) := by decide +kernel
theorem d230_29 : decode (tb_me 230).1.2.1 29 = .ok (.invokevirtual 273, 3) := by decide +kernel
theorem k230_273 (b : Bool) : tb_lk b 230 273 = (2, 196, 0, 0, 0) := by cases b <;> decide +kernel
theorem d230_32 : decode (tb_me 230).1.2.1 32 = .ok (.istore_n 3, 1) := by decide +kernel
theorem d230_33 : decode (tb_me 230).1.2.1 33 = .ok (.aload_n 0, 1) := by decide +kernel
theorem d230_34 : decode (tb_me 230).1.2.1 34 = .ok (.getfield 39, 3) := by decide +kernel
theorem k230_39 (b : Bool) : tb_lk b 230 39 = (1, 10, 20, 0, 0) := by cases b <;> decide +kernel
theorem d230_37 : decode (tb_me 230).1.2.1 37 = .ok (.bipush 10, 2) := by decide +kernel
theorem d230_39 : decode (tb_me 230).1.2.1 39 = .ok (.bipush 6, 2) := by decide +kernel
theorem d230_41 : decode (tb_me 230).1.2.1 41 = .ok (.iload_n 1, 1) := by decide +kernel
theorem d230_42 : decode (tb_me 230).1.2.1 42 = .ok (.imul, 1) := by decide +kernel
theorem d230_43 : decode (tb_me 230).1.2.1 43 = .ok (.iadd, 1) := by decide +kernel
theorem d230_44 : decode (tb_me 230).1.2.1 44 = .ok (.iconst 3, 1) := by decide +kernel
theorem d230_45 : decode (tb_me 230).1.2.1 45 = .ok (.iadd, 1) := by decide +kernel
theorem d230_46 : decode (tb_me 230).1.2.1 46 = .ok (.iload_n 2, 1) := by decide +kernel
theorem d230_47 : decode (tb_me 230).1.2.1 47 = .ok (.iastore, 1) := by decide +kernel
theorem d230_48 : decode (tb_me 230).1.2.1 48 = .ok (.iload_n 3, 1) := by decide +kernel
theorem d230_49 : decode (tb_me 230).1.2.1 49 = .ok (.ireturn, 1) := by decide +kernel
theorem e230 : (tb_me 230).2.1 = (0, 0) ∧ (tb_me 230).1.2.2.1 = 4 := by decide +kernel
theorem d231_14 : decode (tb_me 231).1.2.1 14 = .ok (.aload_n 0, 1) := by decide +kernel
theorem d231_15 : decode (tb_me 231).1.2.1 15 = .ok (.getfield 39, 3) := by decide +kernel
theorem k231_39 (b : Bool) : tb_lk b 231 39 = (1, 10, 20, 0, 0) := by cases b <;> decide +kernel
theorem d231_18 : decode (tb_me 231).1.2.1 18 = .ok (.bipush 10, 2) := by decide +kernel
theorem d231_20 : decode (tb_me 231).1.2.1 20 = .ok (.bipush 6, 2) := by decide +kernel
theorem d231_22 : decode (tb_me 231).1.2.1 22 = .ok (.iload_n 1, 1) := by decide +kernel
theorem d231_23 : decode (tb_me 231).1.2.1 23 = .ok (.imul, 1) := by decide +kernel
theorem d231_24 : decode (tb_me 231).1.2.1 24 = .ok (.iadd, 1) := by decide +kernel
theorem d231_25 : decode (tb_me 231).1.2.1 25 = .ok (.iconst 4, 1) := by decide +kernel
theorem d231_26 : decode (tb_me 231).1.2.1 26 = .ok (.iadd, 1) := by decide +kernel
theorem d231_27 : decode (tb_me 231).1.2.1 27 = .ok (.iconst 1, 1) := by decide +kernel
theorem d231_28 : decode (tb_me 231).1.2.1 28 = .ok (.iastore, 1) := by decide +kernel
theorem d231_29 : decode (tb_me 231).1.2.1 29 = .ok (.aload_n 0, 1) := by decide +kernel
theorem d231_30 : decode (tb_me 231).1.2.1 30 = .ok (.getfield 39, 3) := by decide +kernel
theorem d231_33 : decode (tb_me 231).1.2.1 33 = .ok (.bipush 10, 2) := by decide +kernel
theorem d231_35 : decode (tb_me 231).1.2.1 35 = .ok (.bipush 6, 2) := by decide +kernel
theorem d231_37 : decode (tb_me 231).1.2.1 37 = .ok (.iload_n 1, 1) := by decide +kernel
theorem d231_38 : decode (tb_me 231).1.2.1 38 = .ok (.imul, 1) := by decide +kernel
theorem d231_39 : decode (tb_me 231).1.2.1 39 = .ok (.iadd, 1) := by decide +kernel
theorem d231_40 : decode (tb_me 231).1.2.1 40 = .ok (.iconst 2, 1) := by decide +kernel
theorem d231_41 : decode (tb_me 231).1.2.1 41 = .ok (.iadd, 1) := by decide +kernel
theorem d231_42 : decode (tb_me 231).1.2.1 42 = .ok (.iconst 0, 1) := by decide +kernel
theorem d231_43 : decode (tb_me 231).1.2.1 43 = .ok (.iastore, 1) := by decide +kernel
theorem d231_44 : decode (tb_me 231).1.2.1 44 = .ok (.aload_n 0, 1) := by decide +kernel
theorem d231_45 : decode (tb_me 231).1.2.1 45 = .ok (.invokevirtual 356, 3) := by decide +kernel
theorem k231_356 (b : Bool) : tb_lk b 231 356 = (2, 201, 0, 0, 0) := by cases b <;> decide +kernel
theorem m201 : (tb_me 201).2 = ((0, 0), (0, 10)) ∧ (tb_me 201).1.2.2.1 = 3 := by decide +kernel
theorem d231_48 : decode (tb_me 231).1.2.1 48 = .ok (.invokestatic 336, 3) := by decide +kernel
theorem k231_336 (b : Bool) : tb_lk b 231 336 = (4, 150, 0, 0, 0) := by cases b <;> decide +kernel
theorem m150 : (tb_me 150).2 = ((0, 0), (1, 999)) ∧ (tb_me 150).1.2.2.1 = 3 := by decide +kernel
theorem d231_51 : decode (tb_me 231).1.2.1 51 = .ok (.ireturn, 1) := by decide +kernel
theorem t231 : (tb_me 231).1.2.2.2 = some .int := by decide +kernel
theorem d231_8 : decode (tb_me 231).1.2.1 8 = .ok (.iconst (-1), 1) := by decide +kernel
theorem d231_9 : decode (tb_me 231).1.2.1 9 = .ok (.ireturn, 1) := by decide +kernel
theorem e231 : (tb_me 231).2.1 = (0, 0) ∧ (tb_me 231).1.2.2.1 = 2 := by decide +kernel
theorem d232_26 : decode (tb_me 232).1.2.1 26 = .ok (.aload_n 0, 1) := by decide +kernel
theorem d232_27 : decode (tb_me 232).1.2.1 27 = .ok (.getfield 39, 3) := by decide +kernel
theorem d232_30 : decode (tb_me 232).1.2.1 30 = .ok (.bipush 6, 2) := by decide +kernel
theorem d232_32 : decode (tb_me 232).1.2.1 32 = .ok (.iaload, 1) := by decide +kernel
theorem d232_33 : decode (tb_me 232).1.2.1 33 = .ok (.istore_n 2, 1) := by decide +kernel
theorem d232_34 : decode (tb_me 232).1.2.1 34 = .ok (.aload_n 0, 1) := by decide +kernel
theorem d232_35 : decode (tb_me 232).1.2.1 35 = .ok (.getfield 39, 3) := by decide +kernel
theorem d232_38 : decode (tb_me 232).1.2.1 38 = .ok (.bipush 6, 2) := by decide +kernel
theorem d232_40 : decode (tb_me 232).1.2.1 40 = .ok (.iload_n 1, 1) := by decide +kernel
theorem d232_41 : decode (tb_me 232).1.2.1 41 = .ok (.iastore, 1) := by decide +kernel
theorem d232_42 : decode (tb_me 232).1.2.1 42 = .ok (.iload_n 2, 1) := by decide +kernel
theorem d232_43 : decode (tb_me 232).1.2.1 43 = .ok (.ireturn, 1) := by decide +kernel
theorem e232 : (tb_me 232).2.1 = (0, 0) ∧ (tb_me 232).1.2.2.1 = 3 := by decide +kernel
theorem d233_35 : decode (tb_me 233).1.2.1 35 = .ok (.aload_n 0, 1) := by decide +kernel
theorem d233_36 : decode (tb_me 233).1.2.1 36 = .ok (.getfield 39, 3) := by decide +kernel
theorem d233_39 : decode (tb_me 233).1.2.1 39 = .ok (.iconst 5, 1) := by decide +kernel
theorem d233_40 : decode (tb_me 233).1.2.1 40 = .ok (.iaload, 1) := by decide +kernel
theorem d233_41 : decode (tb_me 233).1.2.1 41 = .ok (.istore_n 2, 1) := by decide +kernel
theorem d233_42 : decode (tb_me 233).1.2.1 42 = .ok (.aload_n 0, 1) := by decide +kernel
theorem d233_43 : decode (tb_me 233).1.2.1 43 = .ok (.getfield 39, 3) := by decide +kernel
theorem d233_46 : decode (tb_me 233).1.2.1 46 = .ok (.iconst 5, 1) := by decide +kernel
theorem d233_47 : decode (tb_me 233).1.2.1 47 = .ok (.iload_n 1, 1) := by decide +kernel
theorem d233_48 : decode (tb_me 233).1.2.1 48 = .ok (.iastore, 1) := by decide +kernel
theorem d233_49 : decode (tb_me 233).1.2.1 49 = .ok (.iload_n 2, 1) := by decide +kernel
theorem d233_50 : decode (tb_me 233).1.2.1 50 = .ok (.ireturn, 1) := by decide +kernel
theorem e233 : (tb_me 233).2.1 = (0, 0) ∧ (tb_me 233).1.2.2.1 = 3 := by decide +kernel
def v_isRowOf (a0 : Int32) (a1 : Int32) (h : pm_H) : Int32 := (if (v_in a1.toInt64 (Int64.ofNat 1) (5 : Int64) h) = 0 then (Int32.ofInt 0) else (if a0 < 0 then (Int32.ofInt 0) else (if (v_ten a1 h) ≤ a0 then (Int32.ofInt 0) else (Int32.ofInt 1))))
theorem v_isRowOf_b {a0 : Int32} {a1 : Int32} {h : pm_H} : v_isRowOf a0 a1 h = 0 ∨ v_isRowOf a0 a1 h = 1 := by
  unfold v_isRowOf
  repeat' split
  all_goals first | exact Or.inl rfl | exact Or.inr rfl | exact v_fails_b | exact v_in_b | exact v_isAlive_b | exact v_isDigit_b | exact v_isHeard_b | exact v_isLee_b | exact v_isLetter_b | exact v_isMan_b | exact v_isOf_b | exact v_isOrder_b | exact v_isRule_b | exact v_isShip_b | exact v_isWordOf_b | exact v_makes_b | exact v_opens_b
theorem c_isRowOf (b : Bool) (L : Nat) (xs : Nat → Int32) (d : Nat) (hd : 1 ≤ d) (h : pm_H) (hI : IM h) (a0 : Int32) (a1 : Int32) (b0 : (¬ ((v_in a1.toInt64 (Int64.ofNat 1) (5 : Int64) h) = 0)) → (¬ (a0 < 0)) → (vp_in a1 10)) : PC b L xs d 210 [.int a0, .int a1] h (fun r0 h2 => r0 = some (.int (v_isRowOf a0 a1 h)) ∧ h2 = h) := by
  refine pc_in e210 (ls0 := [.int a0, .int a1]) rfl ?_
  refine pw_l (pc := 0) d210_0 rfl rfl rfl ?_
  refine pw_s (pc := 1) d210_1 rfl rfl ?_
  refine pw_s (pc := 2) d210_2 rfl rfl ?_
  refine pw_cl (pc := 3) d210_3 (k210_291 b) ?_
  refine pw_u (pc := 6) (by omega) d210_6 (k210_112 b) (by decide) m148 (Nat.le_of_ble_eq_true rfl) (Nat.le_of_ble_eq_true rfl) (Nat.le_of_ble_eq_true rfl) rfl rfl (c_in b L xs (d - 1) (by omega) h hI a1.toInt64 (Int64.ofNat 1) (5 : Int64) ) (fun v h2 hq => ?_)
  obtain ⟨rfl, hq2⟩ := hq
  rw [hq2]
  simp only [Option.toList_some, List.cons_append, List.nil_append]
  refine pw_zeq (pc := 9) (t := 28) d210_9 (by decide) (fun c1 => ?_) (fun c1 => ?_)
  · refine pw_s (pc := 28) d210_28 rfl rfl ?_
    refine pw_ri (pc := 29) d210_29 t210 rfl ?_
    exact ⟨(by rw [v_isRowOf, if_pos c1]), rfl⟩
  · refine pw_l (pc := 12) d210_12 rfl rfl rfl ?_
    refine pw_zlt (pc := 13) (t := 28) d210_13 (by decide) (fun c2 => ?_) (fun c2 => ?_)
    · refine pw_s (pc := 28) d210_28 rfl rfl ?_
      refine pw_ri (pc := 29) d210_29 t210 rfl ?_
      exact ⟨(by rw [v_isRowOf, if_neg c1, if_pos c2]), rfl⟩
    · refine pw_l (pc := 16) d210_16 rfl rfl rfl ?_
      refine pw_l (pc := 17) d210_17 rfl rfl rfl ?_
      refine pw_u (pc := 18) (by omega) d210_18 (k210_302 b) (by decide) m209 (Nat.le_of_ble_eq_true rfl) (Nat.le_of_ble_eq_true rfl) (Nat.le_of_ble_eq_true rfl) rfl rfl (w_ten b L xs (d - 1) (by omega) h hI a1 (b0 c1 c2)) (fun v h2 hq => ?_)
      obtain ⟨rfl, hq2⟩ := hq
      rw [hq2]
      simp only [Option.toList_some, List.cons_append, List.nil_append]
      refine pw_ige (pc := 21) (t := 28) d210_21 (by decide) (fun c3 => ?_) (fun c3 => ?_)
      · refine pw_s (pc := 28) d210_28 rfl rfl ?_
        refine pw_ri (pc := 29) d210_29 t210 rfl ?_
        exact ⟨(by rw [v_isRowOf, if_neg c1, if_neg c2, if_pos c3]), rfl⟩
      · refine pw_s (pc := 24) d210_24 rfl rfl ?_
        refine pw_go (pc := 25) (t := 29) d210_25 (by decide) ?_
        refine pw_ri (pc := 29) d210_29 t210 rfl ?_
        exact ⟨(by rw [v_isRowOf, if_neg c1, if_neg c2, if_neg c3]), rfl⟩
def v_wake (a0 : Int32) (a1 : Int32) (h : pm_H) : Int32 := (if (v_isAlive a0 h) = 0 then (Int32.ofInt 0) else (if ¬ (v_manOf a0 (Int32.ofInt 2) h) = (Int32.ofInt 1) then (if ¬ (Int32.ofInt 0) = a1 then (if a1 = 0 then (Int32.ofInt 1) else (Int32.ofInt 1)) else (Int32.ofInt 0)) else (if ¬ (Int32.ofInt 1) = a1 then (if a1 = 0 then (Int32.ofInt 1) else (Int32.ofInt 1)) else (Int32.ofInt 0))))
def e_wake (a0 : Int32) (a1 : Int32) (h : pm_H) : pm_H := (if (v_isAlive a0 h) = 0 then h else (if ¬ (v_manOf a0 (Int32.ofInt 2) h) = (Int32.ofInt 1) then (if ¬ (Int32.ofInt 0) = a1 then (if a1 = 0 then (pm_setI (e_keepsAct h) 203 (((Int8.ofInt 10).toInt32 + ((Int8.ofInt 6).toInt32 * a0)) + (Int32.ofInt 2)).toNatClampNeg (Int32.ofInt 0)) else (pm_setI (e_keepsAct h) 203 (((Int8.ofInt 10).toInt32 + ((Int8.ofInt 6).toInt32 * a0)) + (Int32.ofInt 2)).toNatClampNeg (Int32.ofInt 1))) else h) else (if ¬ (Int32.ofInt 1) = a1 then (if a1 = 0 then (pm_setI (e_keepsAct h) 203 (((Int8.ofInt 10).toInt32 + ((Int8.ofInt 6).toInt32 * a0)) + (Int32.ofInt 2)).toNatClampNeg (Int32.ofInt 0)) else (pm_setI (e_keepsAct h) 203 (((Int8.ofInt 10).toInt32 + ((Int8.ofInt 6).toInt32 * a0)) + (Int32.ofInt 2)).toNatClampNeg (Int32.ofInt 1))) else h)))
theorem e_wake_I {a0 : Int32} {a1 : Int32} {h : pm_H} (hI : IM h) : IM (e_wake a0 a1 h) := by
  unfold e_wake
  repeat' split
  all_goals first | exact hI | exact e_fails_I hI | exact e_seed_I hI | exact e_end_I hI | exact e_makes_I hI | exact e_push_I hI | exact e_pop_I hI | exact e_puts_I hI | exact e_opens_I hI | exact e_done_I hI | exact e_keepsAct_I hI
theorem v_wake_b {a0 : Int32} {a1 : Int32} {h : pm_H} : v_wake a0 a1 h = 0 ∨ v_wake a0 a1 h = 1 := by
  unfold v_wake
  repeat' split
  all_goals first | exact Or.inl rfl | exact Or.inr rfl | exact v_fails_b | exact v_in_b | exact v_isAlive_b | exact v_isDigit_b | exact v_isHeard_b | exact v_isLee_b | exact v_isLetter_b | exact v_isMan_b | exact v_isOf_b | exact v_isOrder_b | exact v_isRowOf_b | exact v_isRule_b | exact v_isShip_b | exact v_isWordOf_b | exact v_makes_b | exact v_opens_b
theorem c_wake (b : Bool) (L : Nat) (xs : Nat → Int32) (d : Nat) (hd : 2 ≤ d) (h : pm_H) (hI : IM h) (a0 : Int32) (a1 : Int32) (b0 : ((¬ ((v_isMan a0 h) = 0)) → (vp_in (((Int8.ofInt 10).toInt32 + ((Int8.ofInt 6).toInt32 * a0)) + ((Int32.ofInt 4))) 227))) (b1 : (¬ ((v_isAlive a0 h) = 0)) → (vp_in (((Int8.ofInt 10).toInt32 + ((Int8.ofInt 6).toInt32 * a0)) + ((Int32.ofInt 2))) 227)) (b2 : (¬ ((v_isAlive a0 h) = 0)) → (¬ (v_manOf a0 (Int32.ofInt 2) h) = (Int32.ofInt 1)) → (¬ (Int32.ofInt 0) = a1) → (vp_in (h.2.1 193 28) 21)) (b3 : (¬ ((v_isAlive a0 h) = 0)) → (¬ (v_manOf a0 (Int32.ofInt 2) h) = (Int32.ofInt 1)) → (¬ (Int32.ofInt 0) = a1) → (a1 = 0) → vp_in (((Int8.ofInt 10).toInt32 + ((Int8.ofInt 6).toInt32 * a0)) + (Int32.ofInt 2)) 227) (b4 : (¬ ((v_isAlive a0 h) = 0)) → (¬ (v_manOf a0 (Int32.ofInt 2) h) = (Int32.ofInt 1)) → (¬ (Int32.ofInt 0) = a1) → (¬ (a1 = 0)) → vp_in (((Int8.ofInt 10).toInt32 + ((Int8.ofInt 6).toInt32 * a0)) + (Int32.ofInt 2)) 227) (b5 : (¬ ((v_isAlive a0 h) = 0)) → (¬ (¬ (v_manOf a0 (Int32.ofInt 2) h) = (Int32.ofInt 1))) → (¬ (Int32.ofInt 1) = a1) → (vp_in (h.2.1 193 28) 21)) (b6 : (¬ ((v_isAlive a0 h) = 0)) → (¬ (¬ (v_manOf a0 (Int32.ofInt 2) h) = (Int32.ofInt 1))) → (¬ (Int32.ofInt 1) = a1) → (a1 = 0) → vp_in (((Int8.ofInt 10).toInt32 + ((Int8.ofInt 6).toInt32 * a0)) + (Int32.ofInt 2)) 227) (b7 : (¬ ((v_isAlive a0 h) = 0)) → (¬ (¬ (v_manOf a0 (Int32.ofInt 2) h) = (Int32.ofInt 1))) → (¬ (Int32.ofInt 1) = a1) → (¬ (a1 = 0)) → vp_in (((Int8.ofInt 10).toInt32 + ((Int8.ofInt 6).toInt32 * a0)) + (Int32.ofInt 2)) 227) : PC b L xs d 229 [.ref 193, .int a0, .int a1] h (fun r0 h2 => r0 = some (.int (v_wake a0 a1 h)) ∧ h2 = e_wake a0 a1 h) := by
  refine pc_in e229 (ls0 := [.ref 193, .int a0, .int a1]) rfl ?_
  refine pw_l (pc := 0) d229_0 rfl rfl rfl ?_
  refine pw_l (pc := 1) d229_1 rfl rfl rfl ?_
  refine pw_v (pc := 2) (k := 193) (by omega) d229_2 (k229_277 b) (by decide) m197 (by decide) rfl (sh_at hI.1 s193) (Nat.le_of_ble_eq_true rfl) (Nat.le_of_ble_eq_true rfl) rfl rfl (c_isAlive b L xs (d - 1) (by omega) h hI a0 (b0 )) (fun v h2 hq => ?_)
  obtain ⟨rfl, hq2⟩ := hq
  rw [hq2]
  simp only [Option.toList_some, List.cons_append, List.nil_append]
  refine pw_zeq (pc := 5) (t := 27) d229_5 (by decide) (fun c1 => ?_) (fun c1 => ?_)
  · refine pw_s (pc := 27) d229_27 rfl rfl ?_
    refine pw_ri (pc := 28) d229_28 t229 rfl ?_
    exact ⟨(by rw [v_wake, if_pos c1]), (by rw [e_wake, if_pos c1])⟩
  · refine pw_l (pc := 8) d229_8 rfl rfl rfl ?_
    refine pw_l (pc := 9) d229_9 rfl rfl rfl ?_
    refine pw_s (pc := 10) d229_10 rfl rfl ?_
    refine pw_v (pc := 11) (k := 193) (by omega) d229_11 (k229_273 b) (by decide) m196 (by decide) rfl (sh_at hI.1 s193) (Nat.le_of_ble_eq_true rfl) (Nat.le_of_ble_eq_true rfl) rfl rfl (c_manOf b L xs (d - 1) (by omega) h hI a0 (Int32.ofInt 2) (b1 c1)) (fun v h2 hq => ?_)
    obtain ⟨rfl, hq2⟩ := hq
    rw [hq2]
    simp only [Option.toList_some, List.cons_append, List.nil_append]
    refine pw_s (pc := 14) d229_14 rfl rfl ?_
    refine pw_ine (pc := 15) (t := 22) d229_15 (by decide) (fun c2 => ?_) (fun c2 => ?_)
    · refine pw_s (pc := 22) d229_22 rfl rfl ?_
      refine pw_l (pc := 23) d229_23 rfl rfl rfl ?_
      refine pw_ine (pc := 24) (t := 29) d229_24 (by decide) (fun c3 => ?_) (fun c3 => ?_)
      · refine pw_l (pc := 29) d229_29 rfl rfl rfl ?_
        refine pw_v (pc := 30) (k := 193) (by omega) d229_30 (k229_348 b) (by decide) m224 (by decide) rfl (sh_at hI.1 s193) (Nat.le_of_ble_eq_true rfl) (Nat.le_of_ble_eq_true rfl) rfl rfl (w_keepsAct b L xs (d - 1) (by omega) h hI  (b2 c1 c2 c3)) (fun v h2 hq => ?_)
        obtain ⟨rfl, hq2⟩ := hq
        rw [hq2]
        simp only [Option.toList_none, List.nil_append]
        have hI : IM (e_keepsAct h) := e_keepsAct_I hI
        refine pw_l (pc := 33) d229_33 rfl rfl rfl ?_
        refine pw_gr (pc := 34) d229_34 (k229_39 b) (sh_at hI.1 s193) f10_20 hI.r20 ?_
        refine pw_s (pc := 37) d229_37 rfl rfl ?_
        refine pw_s (pc := 39) d229_39 rfl rfl ?_
        refine pw_l (pc := 41) d229_41 rfl rfl rfl ?_
        refine pw_s (pc := 42) d229_42 rfl rfl ?_
        refine pw_s (pc := 43) d229_43 rfl rfl ?_
        refine pw_s (pc := 44) d229_44 rfl rfl ?_
        refine pw_s (pc := 45) d229_45 rfl rfl ?_
        refine pw_l (pc := 46) d229_46 rfl rfl rfl ?_
        refine pw_zeq (pc := 47) (t := 54) d229_47 (by decide) (fun c4 => ?_) (fun c4 => ?_)
        · refine pw_s (pc := 54) d229_54 rfl rfl ?_
          refine pw_si (pc := 55) d229_55 (sh_at hI.1 s203) (b3 c1 c2 c3 c4) ?_
          refine pw_s (pc := 56) d229_56 rfl rfl ?_
          refine pw_ri (pc := 57) d229_57 t229 rfl ?_
          exact ⟨(by rw [v_wake, if_neg c1, if_pos c2, if_pos c3, if_pos c4]), (by rw [e_wake, if_neg c1, if_pos c2, if_pos c3, if_pos c4])⟩
        · refine pw_s (pc := 50) d229_50 rfl rfl ?_
          refine pw_go (pc := 51) (t := 55) d229_51 (by decide) ?_
          refine pw_si (pc := 55) d229_55 (sh_at hI.1 s203) (b4 c1 c2 c3 c4) ?_
          refine pw_s (pc := 56) d229_56 rfl rfl ?_
          refine pw_ri (pc := 57) d229_57 t229 rfl ?_
          exact ⟨(by rw [v_wake, if_neg c1, if_pos c2, if_pos c3, if_neg c4]), (by rw [e_wake, if_neg c1, if_pos c2, if_pos c3, if_neg c4])⟩
      · refine pw_s (pc := 27) d229_27 rfl rfl ?_
        refine pw_ri (pc := 28) d229_28 t229 rfl ?_
        exact ⟨(by rw [v_wake, if_neg c1, if_pos c2, if_neg c3]), (by rw [e_wake, if_neg c1, if_pos c2, if_neg c3])⟩
    · refine pw_s (pc := 18) d229_18 rfl rfl ?_
      refine pw_go (pc := 19) (t := 23) d229_19 (by decide) ?_
      refine pw_l (pc := 23) d229_23 rfl rfl rfl ?_
      refine pw_ine (pc := 24) (t := 29) d229_24 (by decide) (fun c5 => ?_) (fun c5 => ?_)
      · refine pw_l (pc := 29) d229_29 rfl rfl rfl ?_
        refine pw_v (pc := 30) (k := 193) (by omega) d229_30 (k229_348 b) (by decide) m224 (by decide) rfl (sh_at hI.1 s193) (Nat.le_of_ble_eq_true rfl) (Nat.le_of_ble_eq_true rfl) rfl rfl (w_keepsAct b L xs (d - 1) (by omega) h hI  (b5 c1 c2 c5)) (fun v h2 hq => ?_)
        obtain ⟨rfl, hq2⟩ := hq
        rw [hq2]
        simp only [Option.toList_none, List.nil_append]
        have hI : IM (e_keepsAct h) := e_keepsAct_I hI
        refine pw_l (pc := 33) d229_33 rfl rfl rfl ?_
        refine pw_gr (pc := 34) d229_34 (k229_39 b) (sh_at hI.1 s193) f10_20 hI.r20 ?_
        refine pw_s (pc := 37) d229_37 rfl rfl ?_
        refine pw_s (pc := 39) d229_39 rfl rfl ?_
        refine pw_l (pc := 41) d229_41 rfl rfl rfl ?_
        refine pw_s (pc := 42) d229_42 rfl rfl ?_
        refine pw_s (pc := 43) d229_43 rfl rfl ?_
        refine pw_s (pc := 44) d229_44 rfl rfl ?_
        refine pw_s (pc := 45) d229_45 rfl rfl ?_
        refine pw_l (pc := 46) d229_46 rfl rfl rfl ?_
        refine pw_zeq (pc := 47) (t := 54) d229_47 (by decide) (fun c6 => ?_) (fun c6 => ?_)
        · refine pw_s (pc := 54) d229_54 rfl rfl ?_
          refine pw_si (pc := 55) d229_55 (sh_at hI.1 s203) (b6 c1 c2 c5 c6) ?_
          refine pw_s (pc := 56) d229_56 rfl rfl ?_
          refine pw_ri (pc := 57) d229_57 t229 rfl ?_
          exact ⟨(by rw [v_wake, if_neg c1, if_neg c2, if_pos c5, if_pos c6]), (by rw [e_wake, if_neg c1, if_neg c2, if_pos c5, if_pos c6])⟩
        · refine pw_s (pc := 50) d229_50 rfl rfl ?_
          refine pw_go (pc := 51) (t := 55) d229_51 (by decide) ?_
          refine pw_si (pc := 55) d229_55 (sh_at hI.1 s203) (b7 c1 c2 c5 c6) ?_
          refine pw_s (pc := 56) d229_56 rfl rfl ?_
          refine pw_ri (pc := 57) d229_57 t229 rfl ?_
          exact ⟨(by rw [v_wake, if_neg c1, if_neg c2, if_pos c5, if_neg c6]), (by rw [e_wake, if_neg c1, if_neg c2, if_pos c5, if_neg c6])⟩
      · refine pw_s (pc := 27) d229_27 rfl rfl ?_
        refine pw_ri (pc := 28) d229_28 t229 rfl ?_
        exact ⟨(by rw [v_wake, if_neg c1, if_neg c2, if_neg c5]), (by rw [e_wake, if_neg c1, if_neg c2, if_neg c5])⟩
def v_sicken (a0 : Int32) (a1 : Int32) (h : pm_H) : Int32 := (if (v_isAlive a0 h) = 0 then (Int32.ofInt (-1)) else (if ¬ (v_in a1.toInt64 (Int64.ofNat 0) (9 : Int64) h) = 0 then (v_manOf a0 (Int32.ofInt 3) (e_keepsAct h)) else (Int32.ofInt (-1))))
def e_sicken (a0 : Int32) (a1 : Int32) (h : pm_H) : pm_H := (if (v_isAlive a0 h) = 0 then h else (if ¬ (v_in a1.toInt64 (Int64.ofNat 0) (9 : Int64) h) = 0 then (pm_setI (e_keepsAct h) 203 (((Int8.ofInt 10).toInt32 + ((Int8.ofInt 6).toInt32 * a0)) + (Int32.ofInt 3)).toNatClampNeg a1) else h))
theorem e_sicken_I {a0 : Int32} {a1 : Int32} {h : pm_H} (hI : IM h) : IM (e_sicken a0 a1 h) := by
  unfold e_sicken
  repeat' split
  all_goals first | exact hI | exact e_fails_I hI | exact e_seed_I hI | exact e_end_I hI | exact e_makes_I hI | exact e_push_I hI | exact e_pop_I hI | exact e_puts_I hI | exact e_opens_I hI | exact e_done_I hI | exact e_keepsAct_I hI | exact e_wake_I hI
theorem c_sicken (b : Bool) (L : Nat) (xs : Nat → Int32) (d : Nat) (hd : 2 ≤ d) (h : pm_H) (hI : IM h) (a0 : Int32) (a1 : Int32) (b0 : ((¬ ((v_isMan a0 h) = 0)) → (vp_in (((Int8.ofInt 10).toInt32 + ((Int8.ofInt 6).toInt32 * a0)) + ((Int32.ofInt 4))) 227))) (b1 : (¬ ((v_isAlive a0 h) = 0)) → (¬ (v_in a1.toInt64 (Int64.ofNat 0) (9 : Int64) h) = 0) → (vp_in (h.2.1 193 28) 21)) (b2 : (¬ ((v_isAlive a0 h) = 0)) → (¬ (v_in a1.toInt64 (Int64.ofNat 0) (9 : Int64) h) = 0) → (vp_in (((Int8.ofInt 10).toInt32 + ((Int8.ofInt 6).toInt32 * a0)) + ((Int32.ofInt 3))) 227)) (b3 : (¬ ((v_isAlive a0 h) = 0)) → (¬ (v_in a1.toInt64 (Int64.ofNat 0) (9 : Int64) h) = 0) → vp_in (((Int8.ofInt 10).toInt32 + ((Int8.ofInt 6).toInt32 * a0)) + (Int32.ofInt 3)) 227) : PC b L xs d 230 [.ref 193, .int a0, .int a1] h (fun r0 h2 => r0 = some (.int (v_sicken a0 a1 h)) ∧ h2 = e_sicken a0 a1 h) := by
  refine pc_in e230 (ls0 := [.ref 193, .int a0, .int a1, .retAddr 0]) rfl ?_
  refine pw_l (pc := 0) d230_0 rfl rfl rfl ?_
  refine pw_l (pc := 1) d230_1 rfl rfl rfl ?_
  refine pw_v (pc := 2) (k := 193) (by omega) d230_2 (k230_277 b) (by decide) m197 (by decide) rfl (sh_at hI.1 s193) (Nat.le_of_ble_eq_true rfl) (Nat.le_of_ble_eq_true rfl) rfl rfl (c_isAlive b L xs (d - 1) (by omega) h hI a0 (b0 )) (fun v h2 hq => ?_)
  obtain ⟨rfl, hq2⟩ := hq
  rw [hq2]
  simp only [Option.toList_some, List.cons_append, List.nil_append]
  refine pw_zeq (pc := 5) (t := 20) d230_5 (by decide) (fun c1 => ?_) (fun c1 => ?_)
  · refine pw_s (pc := 20) d230_20 rfl rfl ?_
    refine pw_ri (pc := 21) d230_21 t230 rfl ?_
    exact ⟨(by rw [v_sicken, if_pos c1]), (by rw [e_sicken, if_pos c1])⟩
  · refine pw_l (pc := 8) d230_8 rfl rfl rfl ?_
    refine pw_s (pc := 9) d230_9 rfl rfl ?_
    refine pw_s (pc := 10) d230_10 rfl rfl ?_
    refine pw_cl (pc := 11) d230_11 (k230_354 b) ?_
    refine pw_u (pc := 14) (by omega) d230_14 (k230_112 b) (by decide) m148 (Nat.le_of_ble_eq_true rfl) (Nat.le_of_ble_eq_true rfl) (Nat.le_of_ble_eq_true rfl) rfl rfl (c_in b L xs (d - 1) (by omega) h hI a1.toInt64 (Int64.ofNat 0) (9 : Int64) ) (fun v h2 hq => ?_)
    obtain ⟨rfl, hq2⟩ := hq
    rw [hq2]
    simp only [Option.toList_some, List.cons_append, List.nil_append]
    refine pw_zne (pc := 17) (t := 22) d230_17 (by decide) (fun c2 => ?_) (fun c2 => ?_)
    · refine pw_l (pc := 22) d230_22 rfl rfl rfl ?_
      refine pw_v (pc := 23) (k := 193) (by omega) d230_23 (k230_348 b) (by decide) m224 (by decide) rfl (sh_at hI.1 s193) (Nat.le_of_ble_eq_true rfl) (Nat.le_of_ble_eq_true rfl) rfl rfl (w_keepsAct b L xs (d - 1) (by omega) h hI  (b1 c1 c2)) (fun v h2 hq => ?_)
      obtain ⟨rfl, hq2⟩ := hq
      rw [hq2]
      simp only [Option.toList_none, List.nil_append]
      have hI : IM (e_keepsAct h) := e_keepsAct_I hI
      refine pw_l (pc := 26) d230_26 rfl rfl rfl ?_
      refine pw_l (pc := 27) d230_27 rfl rfl rfl ?_
      refine pw_s (pc := 28) d230_28 rfl rfl ?_
      refine pw_v (pc := 29) (k := 193) (by omega) d230_29 (k230_273 b) (by decide) m196 (by decide) rfl (sh_at hI.1 s193) (Nat.le_of_ble_eq_true rfl) (Nat.le_of_ble_eq_true rfl) rfl rfl (c_manOf b L xs (d - 1) (by omega) (e_keepsAct h) hI a0 (Int32.ofInt 3) (b2 c1 c2)) (fun v h2 hq => ?_)
      obtain ⟨rfl, hq2⟩ := hq
      rw [hq2]
      simp only [Option.toList_some, List.cons_append, List.nil_append]
      refine pw_t (pc := 32) d230_32 rfl rfl rfl rfl ?_
      refine pw_l (pc := 33) d230_33 rfl rfl rfl ?_
      refine pw_gr (pc := 34) d230_34 (k230_39 b) (sh_at hI.1 s193) f10_20 hI.r20 ?_
      refine pw_s (pc := 37) d230_37 rfl rfl ?_
      refine pw_s (pc := 39) d230_39 rfl rfl ?_
      refine pw_l (pc := 41) d230_41 rfl rfl rfl ?_
      refine pw_s (pc := 42) d230_42 rfl rfl ?_
      refine pw_s (pc := 43) d230_43 rfl rfl ?_
      refine pw_s (pc := 44) d230_44 rfl rfl ?_
      refine pw_s (pc := 45) d230_45 rfl rfl ?_
      refine pw_l (pc := 46) d230_46 rfl rfl rfl ?_
      refine pw_si (pc := 47) d230_47 (sh_at hI.1 s203) (b3 c1 c2) ?_
      refine pw_l (pc := 48) d230_48 rfl rfl rfl ?_
      refine pw_ri (pc := 49) d230_49 t230 rfl ?_
      exact ⟨(by rw [v_sicken, if_neg c1, if_pos c2]), (by rw [e_sicken, if_neg c1, if_pos c2])⟩
    · refine pw_s (pc := 20) d230_20 rfl rfl ?_
      refine pw_ri (pc := 21) d230_21 t230 rfl ?_
      exact ⟨(by rw [v_sicken, if_neg c1, if_neg c2]), (by rw [e_sicken, if_neg c1, if_neg c2])⟩
def v_die (a0 : Int32) (h : pm_H) : Int32 := (if ¬ (v_isAlive a0 h) = 0 then (v_bits (v_aliveSet (pm_setI (pm_setI (e_keepsAct h) 203 (((Int8.ofInt 10).toInt32 + ((Int8.ofInt 6).toInt32 * a0)) + (Int32.ofInt 4)).toNatClampNeg (Int32.ofInt 1)) 203 (((Int8.ofInt 10).toInt32 + ((Int8.ofInt 6).toInt32 * a0)) + (Int32.ofInt 2)).toNatClampNeg (Int32.ofInt 0))) (pm_setI (pm_setI (e_keepsAct h) 203 (((Int8.ofInt 10).toInt32 + ((Int8.ofInt 6).toInt32 * a0)) + (Int32.ofInt 4)).toNatClampNeg (Int32.ofInt 1)) 203 (((Int8.ofInt 10).toInt32 + ((Int8.ofInt 6).toInt32 * a0)) + (Int32.ofInt 2)).toNatClampNeg (Int32.ofInt 0))) else (Int32.ofInt (-1)))
def e_die (a0 : Int32) (h : pm_H) : pm_H := (if ¬ (v_isAlive a0 h) = 0 then (pm_setI (pm_setI (e_keepsAct h) 203 (((Int8.ofInt 10).toInt32 + ((Int8.ofInt 6).toInt32 * a0)) + (Int32.ofInt 4)).toNatClampNeg (Int32.ofInt 1)) 203 (((Int8.ofInt 10).toInt32 + ((Int8.ofInt 6).toInt32 * a0)) + (Int32.ofInt 2)).toNatClampNeg (Int32.ofInt 0)) else h)
theorem e_die_I {a0 : Int32} {h : pm_H} (hI : IM h) : IM (e_die a0 h) := by
  unfold e_die
  repeat' split
  all_goals first | exact hI | exact e_fails_I hI | exact e_seed_I hI | exact e_end_I hI | exact e_makes_I hI | exact e_push_I hI | exact e_pop_I hI | exact e_puts_I hI | exact e_opens_I hI | exact e_done_I hI | exact e_keepsAct_I hI | exact e_wake_I hI | exact e_sicken_I hI
theorem c_die (b : Bool) (L : Nat) (xs : Nat → Int32) (d : Nat) (hd : 3 ≤ d) (h : pm_H) (hI : IM h) (a0 : Int32) (b0 : ((¬ ((v_isMan a0 h) = 0)) → (vp_in (((Int8.ofInt 10).toInt32 + ((Int8.ofInt 6).toInt32 * a0)) + ((Int32.ofInt 4))) 227))) (b1 : (¬ (v_isAlive a0 h) = 0) → (vp_in (h.2.1 193 28) 21)) (b2 : (¬ (v_isAlive a0 h) = 0) → vp_in (((Int8.ofInt 10).toInt32 + ((Int8.ofInt 6).toInt32 * a0)) + (Int32.ofInt 4)) 227) (b3 : (¬ (v_isAlive a0 h) = 0) → vp_in (((Int8.ofInt 10).toInt32 + ((Int8.ofInt 6).toInt32 * a0)) + (Int32.ofInt 2)) 227) (b4 : (¬ (v_isAlive a0 h) = 0) → (vp_in ((pm_setI (pm_setI (e_keepsAct h) 203 (((Int8.ofInt 10).toInt32 + ((Int8.ofInt 6).toInt32 * a0)) + (Int32.ofInt 4)).toNatClampNeg (Int32.ofInt 1)) 203 (((Int8.ofInt 10).toInt32 + ((Int8.ofInt 6).toInt32 * a0)) + (Int32.ofInt 2)).toNatClampNeg (Int32.ofInt 0)).2.1 203 1) 9)) : PC b L xs d 231 [.ref 193, .int a0] h (fun r0 h2 => r0 = some (.int (v_die a0 h)) ∧ h2 = e_die a0 h) := by
  refine pc_in e231 (ls0 := [.ref 193, .int a0]) rfl ?_
  refine pw_l (pc := 0) d231_0 rfl rfl rfl ?_
  refine pw_l (pc := 1) d231_1 rfl rfl rfl ?_
  refine pw_v (pc := 2) (k := 193) (by omega) d231_2 (k231_277 b) (by decide) m197 (by decide) rfl (sh_at hI.1 s193) (Nat.le_of_ble_eq_true rfl) (Nat.le_of_ble_eq_true rfl) rfl rfl (c_isAlive b L xs (d - 1) (by omega) h hI a0 (b0 )) (fun v h2 hq => ?_)
  obtain ⟨rfl, hq2⟩ := hq
  rw [hq2]
  simp only [Option.toList_some, List.cons_append, List.nil_append]
  refine pw_zne (pc := 5) (t := 10) d231_5 (by decide) (fun c1 => ?_) (fun c1 => ?_)
  · refine pw_l (pc := 10) d231_10 rfl rfl rfl ?_
    refine pw_v (pc := 11) (k := 193) (by omega) d231_11 (k231_348 b) (by decide) m224 (by decide) rfl (sh_at hI.1 s193) (Nat.le_of_ble_eq_true rfl) (Nat.le_of_ble_eq_true rfl) rfl rfl (w_keepsAct b L xs (d - 1) (by omega) h hI  (b1 c1)) (fun v h2 hq => ?_)
    obtain ⟨rfl, hq2⟩ := hq
    rw [hq2]
    simp only [Option.toList_none, List.nil_append]
    have hI : IM (e_keepsAct h) := e_keepsAct_I hI
    refine pw_l (pc := 14) d231_14 rfl rfl rfl ?_
    refine pw_gr (pc := 15) d231_15 (k231_39 b) (sh_at hI.1 s193) f10_20 hI.r20 ?_
    refine pw_s (pc := 18) d231_18 rfl rfl ?_
    refine pw_s (pc := 20) d231_20 rfl rfl ?_
    refine pw_l (pc := 22) d231_22 rfl rfl rfl ?_
    refine pw_s (pc := 23) d231_23 rfl rfl ?_
    refine pw_s (pc := 24) d231_24 rfl rfl ?_
    refine pw_s (pc := 25) d231_25 rfl rfl ?_
    refine pw_s (pc := 26) d231_26 rfl rfl ?_
    refine pw_s (pc := 27) d231_27 rfl rfl ?_
    refine pw_si (pc := 28) d231_28 (sh_at hI.1 s203) (b2 c1) ?_
    refine pw_l (pc := 29) d231_29 rfl rfl rfl ?_
    refine pw_gr (pc := 30) d231_30 (k231_39 b) (sh_at hI.1 s193) f10_20 hI.r20 ?_
    refine pw_s (pc := 33) d231_33 rfl rfl ?_
    refine pw_s (pc := 35) d231_35 rfl rfl ?_
    refine pw_l (pc := 37) d231_37 rfl rfl rfl ?_
    refine pw_s (pc := 38) d231_38 rfl rfl ?_
    refine pw_s (pc := 39) d231_39 rfl rfl ?_
    refine pw_s (pc := 40) d231_40 rfl rfl ?_
    refine pw_s (pc := 41) d231_41 rfl rfl ?_
    refine pw_s (pc := 42) d231_42 rfl rfl ?_
    refine pw_si (pc := 43) d231_43 (sh_at hI.1 s203) (b3 c1) ?_
    refine pw_l (pc := 44) d231_44 rfl rfl rfl ?_
    refine pw_v (pc := 45) (k := 193) (by omega) d231_45 (k231_356 b) (by decide) m201 (by decide) rfl (sh_at hI.1 s193) (Nat.le_of_ble_eq_true rfl) (Nat.le_of_ble_eq_true rfl) rfl rfl (w_aliveSet b L xs (d - 1) (by omega) (pm_setI (pm_setI (e_keepsAct h) 203 (((Int8.ofInt 10).toInt32 + ((Int8.ofInt 6).toInt32 * a0)) + (Int32.ofInt 4)).toNatClampNeg (Int32.ofInt 1)) 203 (((Int8.ofInt 10).toInt32 + ((Int8.ofInt 6).toInt32 * a0)) + (Int32.ofInt 2)).toNatClampNeg (Int32.ofInt 0)) hI  (b4 c1)) (fun v h2 hq => ?_)
    obtain ⟨rfl, hq2⟩ := hq
    rw [hq2]
    simp only [Option.toList_some, List.cons_append, List.nil_append]
    refine pw_u (pc := 48) (by omega) d231_48 (k231_336 b) (by decide) m150 (Nat.le_of_ble_eq_true rfl) (Nat.le_of_ble_eq_true rfl) (Nat.le_of_ble_eq_true rfl) rfl rfl (w_bits b L xs (d - 1) (by omega) (pm_setI (pm_setI (e_keepsAct h) 203 (((Int8.ofInt 10).toInt32 + ((Int8.ofInt 6).toInt32 * a0)) + (Int32.ofInt 4)).toNatClampNeg (Int32.ofInt 1)) 203 (((Int8.ofInt 10).toInt32 + ((Int8.ofInt 6).toInt32 * a0)) + (Int32.ofInt 2)).toNatClampNeg (Int32.ofInt 0)) hI (v_aliveSet (pm_setI (pm_setI (e_keepsAct h) 203 (((Int8.ofInt 10).toInt32 + ((Int8.ofInt 6).toInt32 * a0)) + (Int32.ofInt 4)).toNatClampNeg (Int32.ofInt 1)) 203 (((Int8.ofInt 10).toInt32 + ((Int8.ofInt 6).toInt32 * a0)) + (Int32.ofInt 2)).toNatClampNeg (Int32.ofInt 0))) ) (fun v h2 hq => ?_)
    obtain ⟨rfl, hq2⟩ := hq
    rw [hq2]
    simp only [Option.toList_some, List.cons_append, List.nil_append]
    refine pw_ri (pc := 51) d231_51 t231 rfl ?_
    exact ⟨(by rw [v_die, if_pos c1]), (by rw [e_die, if_pos c1])⟩
  · refine pw_s (pc := 8) d231_8 rfl rfl ?_
    refine pw_ri (pc := 9) d231_9 t231 rfl ?_
    exact ⟨(by rw [v_die, if_neg c1]), (by rw [e_die, if_neg c1])⟩
def v_teach (a0 : Int32) (h : pm_H) : Int32 := (if (v_isWordOf a0 h) = 0 then (Int8.ofInt (-2)).toInt32 else (if ¬ (h.2.1 203 (Int8.ofInt 6).toInt32.toNatClampNeg) = a0 then ((e_keepsAct h).2.1 203 (Int8.ofInt 6).toInt32.toNatClampNeg) else (Int8.ofInt (-2)).toInt32))
def e_teach (a0 : Int32) (h : pm_H) : pm_H := (if (v_isWordOf a0 h) = 0 then h else (if ¬ (h.2.1 203 (Int8.ofInt 6).toInt32.toNatClampNeg) = a0 then (pm_setI (e_keepsAct h) 203 (Int8.ofInt 6).toInt32.toNatClampNeg a0) else h))
theorem e_teach_I {a0 : Int32} {h : pm_H} (hI : IM h) : IM (e_teach a0 h) := by
  unfold e_teach
  repeat' split
  all_goals first | exact hI | exact e_fails_I hI | exact e_seed_I hI | exact e_end_I hI | exact e_makes_I hI | exact e_push_I hI | exact e_pop_I hI | exact e_puts_I hI | exact e_opens_I hI | exact e_done_I hI | exact e_keepsAct_I hI | exact e_wake_I hI | exact e_sicken_I hI | exact e_die_I hI
theorem c_teach (b : Bool) (L : Nat) (xs : Nat → Int32) (d : Nat) (hd : 1 ≤ d) (h : pm_H) (hI : IM h) (a0 : Int32) (b0 : (¬ ((v_isWordOf a0 h) = 0)) → (¬ (h.2.1 203 (Int8.ofInt 6).toInt32.toNatClampNeg) = a0) → (vp_in (h.2.1 193 28) 21)) : PC b L xs d 232 [.ref 193, .int a0] h (fun r0 h2 => r0 = some (.int (v_teach a0 h)) ∧ h2 = e_teach a0 h) := by
  refine pc_in e232 (ls0 := [.ref 193, .int a0, .retAddr 0]) rfl ?_
  refine pw_l (pc := 0) d232_0 rfl rfl rfl ?_
  refine pw_l (pc := 1) d232_1 rfl rfl rfl ?_
  refine pw_v (pc := 2) (k := 193) (by omega) d232_2 (k232_296 b) (by decide) m195 (by decide) rfl (sh_at hI.1 s193) (Nat.le_of_ble_eq_true rfl) (Nat.le_of_ble_eq_true rfl) rfl rfl (c_isWordOf b L xs (d - 1) (by omega) h hI a0 ) (fun v h2 hq => ?_)
  obtain ⟨rfl, hq2⟩ := hq
  rw [hq2]
  simp only [Option.toList_some, List.cons_append, List.nil_append]
  refine pw_zeq (pc := 5) (t := 19) d232_5 (by decide) (fun c1 => ?_) (fun c1 => ?_)
  · refine pw_s (pc := 19) d232_19 rfl rfl ?_
    refine pw_ri (pc := 21) d232_21 t232 rfl ?_
    exact ⟨(by rw [v_teach, if_pos c1]), (by rw [e_teach, if_pos c1])⟩
  · refine pw_l (pc := 8) d232_8 rfl rfl rfl ?_
    refine pw_gr (pc := 9) d232_9 (k232_39 b) (sh_at hI.1 s193) f10_20 hI.r20 ?_
    refine pw_s (pc := 12) d232_12 rfl rfl ?_
    refine pw_ai (pc := 14) d232_14 (sh_at hI.1 s203) (by unfold vp_in; decide) ?_
    refine pw_l (pc := 15) d232_15 rfl rfl rfl ?_
    refine pw_ine (pc := 16) (t := 22) d232_16 (by decide) (fun c2 => ?_) (fun c2 => ?_)
    · refine pw_l (pc := 22) d232_22 rfl rfl rfl ?_
      refine pw_v (pc := 23) (k := 193) (by omega) d232_23 (k232_348 b) (by decide) m224 (by decide) rfl (sh_at hI.1 s193) (Nat.le_of_ble_eq_true rfl) (Nat.le_of_ble_eq_true rfl) rfl rfl (w_keepsAct b L xs (d - 1) (by omega) h hI  (b0 c1 c2)) (fun v h2 hq => ?_)
      obtain ⟨rfl, hq2⟩ := hq
      rw [hq2]
      simp only [Option.toList_none, List.nil_append]
      have hI : IM (e_keepsAct h) := e_keepsAct_I hI
      refine pw_l (pc := 26) d232_26 rfl rfl rfl ?_
      refine pw_gr (pc := 27) d232_27 (k232_39 b) (sh_at hI.1 s193) f10_20 hI.r20 ?_
      refine pw_s (pc := 30) d232_30 rfl rfl ?_
      refine pw_ai (pc := 32) d232_32 (sh_at hI.1 s203) (by unfold vp_in; decide) ?_
      refine pw_t (pc := 33) d232_33 rfl rfl rfl rfl ?_
      refine pw_l (pc := 34) d232_34 rfl rfl rfl ?_
      refine pw_gr (pc := 35) d232_35 (k232_39 b) (sh_at hI.1 s193) f10_20 hI.r20 ?_
      refine pw_s (pc := 38) d232_38 rfl rfl ?_
      refine pw_l (pc := 40) d232_40 rfl rfl rfl ?_
      refine pw_si (pc := 41) d232_41 (sh_at hI.1 s203) (by unfold vp_in; decide) ?_
      refine pw_l (pc := 42) d232_42 rfl rfl rfl ?_
      refine pw_ri (pc := 43) d232_43 t232 rfl ?_
      exact ⟨(by rw [v_teach, if_neg c1, if_pos c2]), (by rw [e_teach, if_neg c1, if_pos c2])⟩
    · refine pw_s (pc := 19) d232_19 rfl rfl ?_
      refine pw_ri (pc := 21) d232_21 t232 rfl ?_
      exact ⟨(by rw [v_teach, if_neg c1, if_neg c2]), (by rw [e_teach, if_neg c1, if_neg c2])⟩
def v_turn (a0 : Int32) (h : pm_H) : Int32 := (if (v_isShip h) = 0 then (Int32.ofInt (-1)) else (if (v_in a0.toInt64 (Int64.ofNat 0) (2 : Int64) h) = 0 then (Int32.ofInt (-1)) else (if ¬ (h.2.1 203 (Int32.ofInt 5).toNatClampNeg) = a0 then ((e_keepsAct h).2.1 203 (Int32.ofInt 5).toNatClampNeg) else (Int32.ofInt (-1)))))
def e_turn (a0 : Int32) (h : pm_H) : pm_H := (if (v_isShip h) = 0 then h else (if (v_in a0.toInt64 (Int64.ofNat 0) (2 : Int64) h) = 0 then h else (if ¬ (h.2.1 203 (Int32.ofInt 5).toNatClampNeg) = a0 then (pm_setI (e_keepsAct h) 203 (Int32.ofInt 5).toNatClampNeg a0) else h)))
theorem e_turn_I {a0 : Int32} {h : pm_H} (hI : IM h) : IM (e_turn a0 h) := by
  unfold e_turn
  repeat' split
  all_goals first | exact hI | exact e_fails_I hI | exact e_seed_I hI | exact e_end_I hI | exact e_makes_I hI | exact e_push_I hI | exact e_pop_I hI | exact e_puts_I hI | exact e_opens_I hI | exact e_done_I hI | exact e_keepsAct_I hI | exact e_wake_I hI | exact e_sicken_I hI | exact e_die_I hI | exact e_teach_I hI
theorem c_turn (b : Bool) (L : Nat) (xs : Nat → Int32) (d : Nat) (hd : 1 ≤ d) (h : pm_H) (hI : IM h) (a0 : Int32) (b0 : (¬ ((v_isShip h) = 0)) → (¬ ((v_in a0.toInt64 (Int64.ofNat 0) (2 : Int64) h) = 0)) → (¬ (h.2.1 203 (Int32.ofInt 5).toNatClampNeg) = a0) → (vp_in (h.2.1 193 28) 21)) : PC b L xs d 233 [.ref 193, .int a0] h (fun r0 h2 => r0 = some (.int (v_turn a0 h)) ∧ h2 = e_turn a0 h) := by
  refine pc_in e233 (ls0 := [.ref 193, .int a0, .retAddr 0]) rfl ?_
  refine pw_l (pc := 0) d233_0 rfl rfl rfl ?_
  refine pw_v (pc := 1) (k := 193) (by omega) d233_1 (k233_305 b) (by decide) m192 (by decide) rfl (sh_at hI.1 s193) (Nat.le_of_ble_eq_true rfl) (Nat.le_of_ble_eq_true rfl) rfl rfl (c_isShip b L xs (d - 1) (by omega) h hI  ) (fun v h2 hq => ?_)
  obtain ⟨rfl, hq2⟩ := hq
  rw [hq2]
  simp only [Option.toList_some, List.cons_append, List.nil_append]
  refine pw_zeq (pc := 4) (t := 29) d233_4 (by decide) (fun c1 => ?_) (fun c1 => ?_)
  · refine pw_s (pc := 29) d233_29 rfl rfl ?_
    refine pw_ri (pc := 30) d233_30 t233 rfl ?_
    exact ⟨(by rw [v_turn, if_pos c1]), (by rw [e_turn, if_pos c1])⟩
  · refine pw_l (pc := 7) d233_7 rfl rfl rfl ?_
    refine pw_s (pc := 8) d233_8 rfl rfl ?_
    refine pw_s (pc := 9) d233_9 rfl rfl ?_
    refine pw_cl (pc := 10) d233_10 (k233_359 b) ?_
    refine pw_u (pc := 13) (by omega) d233_13 (k233_112 b) (by decide) m148 (Nat.le_of_ble_eq_true rfl) (Nat.le_of_ble_eq_true rfl) (Nat.le_of_ble_eq_true rfl) rfl rfl (c_in b L xs (d - 1) (by omega) h hI a0.toInt64 (Int64.ofNat 0) (2 : Int64) ) (fun v h2 hq => ?_)
    obtain ⟨rfl, hq2⟩ := hq
    rw [hq2]
    simp only [Option.toList_some, List.cons_append, List.nil_append]
    refine pw_zeq (pc := 16) (t := 29) d233_16 (by decide) (fun c2 => ?_) (fun c2 => ?_)
    · refine pw_s (pc := 29) d233_29 rfl rfl ?_
      refine pw_ri (pc := 30) d233_30 t233 rfl ?_
      exact ⟨(by rw [v_turn, if_neg c1, if_pos c2]), (by rw [e_turn, if_neg c1, if_pos c2])⟩
    · refine pw_l (pc := 19) d233_19 rfl rfl rfl ?_
      refine pw_gr (pc := 20) d233_20 (k233_39 b) (sh_at hI.1 s193) f10_20 hI.r20 ?_
      refine pw_s (pc := 23) d233_23 rfl rfl ?_
      refine pw_ai (pc := 24) d233_24 (sh_at hI.1 s203) (by unfold vp_in; decide) ?_
      refine pw_l (pc := 25) d233_25 rfl rfl rfl ?_
      refine pw_ine (pc := 26) (t := 31) d233_26 (by decide) (fun c3 => ?_) (fun c3 => ?_)
      · refine pw_l (pc := 31) d233_31 rfl rfl rfl ?_
        refine pw_v (pc := 32) (k := 193) (by omega) d233_32 (k233_348 b) (by decide) m224 (by decide) rfl (sh_at hI.1 s193) (Nat.le_of_ble_eq_true rfl) (Nat.le_of_ble_eq_true rfl) rfl rfl (w_keepsAct b L xs (d - 1) (by omega) h hI  (b0 c1 c2 c3)) (fun v h2 hq => ?_)
        obtain ⟨rfl, hq2⟩ := hq
        rw [hq2]
        simp only [Option.toList_none, List.nil_append]
        have hI : IM (e_keepsAct h) := e_keepsAct_I hI
        refine pw_l (pc := 35) d233_35 rfl rfl rfl ?_
        refine pw_gr (pc := 36) d233_36 (k233_39 b) (sh_at hI.1 s193) f10_20 hI.r20 ?_
        refine pw_s (pc := 39) d233_39 rfl rfl ?_
        refine pw_ai (pc := 40) d233_40 (sh_at hI.1 s203) (by unfold vp_in; decide) ?_
        refine pw_t (pc := 41) d233_41 rfl rfl rfl rfl ?_
        refine pw_l (pc := 42) d233_42 rfl rfl rfl ?_
        refine pw_gr (pc := 43) d233_43 (k233_39 b) (sh_at hI.1 s193) f10_20 hI.r20 ?_
        refine pw_s (pc := 46) d233_46 rfl rfl ?_
        refine pw_l (pc := 47) d233_47 rfl rfl rfl ?_
        refine pw_si (pc := 48) d233_48 (sh_at hI.1 s203) (by unfold vp_in; decide) ?_
        refine pw_l (pc := 49) d233_49 rfl rfl rfl ?_
        refine pw_ri (pc := 50) d233_50 t233 rfl ?_
        exact ⟨(by rw [v_turn, if_neg c1, if_neg c2, if_pos c3]), (by rw [e_turn, if_neg c1, if_neg c2, if_pos c3])⟩
      · refine pw_s (pc := 29) d233_29 rfl rfl ?_
        refine pw_ri (pc := 30) d233_30 t233 rfl ?_
        exact ⟨(by rw [v_turn, if_neg c1, if_neg c2, if_neg c3]), (by rw [e_turn, if_neg c1, if_neg c2, if_neg c3])⟩
