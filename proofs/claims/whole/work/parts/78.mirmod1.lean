/-! Mirrors, written by wip/mir.py. -/
theorem d148_0 : decode (tb_me 148).1.2.1 0 = .ok (.lload_n 0, 1) := by decide +kernel
theorem d148_1 : decode (tb_me 148).1.2.1 1 = .ok (.lload_n 2, 1) := by decide +kernel
theorem d148_2 : decode (tb_me 148).1.2.1 2 = .ok (.lcmp, 1) := by decide +kernel
theorem d148_3 : decode (tb_me 148).1.2.1 3 = .ok (.ifCond .lt 14, 3) := by decide +kernel
theorem d148_17 : decode (tb_me 148).1.2.1 17 = .ok (.iconst 0, 1) := by decide +kernel
theorem d148_18 : decode (tb_me 148).1.2.1 18 = .ok (.ireturn, 1) := by decide +kernel
theorem t148 : (tb_me 148).1.2.2.2 = some .boolean := by decide +kernel
theorem d148_6 : decode (tb_me 148).1.2.1 6 = .ok (.lload_n 0, 1) := by decide +kernel
theorem d148_7 : decode (tb_me 148).1.2.1 7 = .ok (.lload 4, 2) := by decide +kernel
theorem d148_9 : decode (tb_me 148).1.2.1 9 = .ok (.lcmp, 1) := by decide +kernel
theorem d148_10 : decode (tb_me 148).1.2.1 10 = .ok (.ifCond .gt 7, 3) := by decide +kernel
theorem d148_13 : decode (tb_me 148).1.2.1 13 = .ok (.iconst 1, 1) := by decide +kernel
theorem d148_14 : decode (tb_me 148).1.2.1 14 = .ok (.goto 4, 3) := by decide +kernel
theorem e148 : (tb_me 148).2.1 = (0, 0) ∧ (tb_me 148).1.2.2.1 = 6 := by decide +kernel
theorem d149_0 : decode (tb_me 149).1.2.1 0 = .ok (.iload_n 0, 1) := by decide +kernel
theorem d149_1 : decode (tb_me 149).1.2.1 1 = .ok (.iload_n 1, 1) := by decide +kernel
theorem d149_2 : decode (tb_me 149).1.2.1 2 = .ok (.ishr, 1) := by decide +kernel
theorem d149_3 : decode (tb_me 149).1.2.1 3 = .ok (.iconst 1, 1) := by decide +kernel
theorem d149_4 : decode (tb_me 149).1.2.1 4 = .ok (.iand, 1) := by decide +kernel
theorem d149_5 : decode (tb_me 149).1.2.1 5 = .ok (.iconst 1, 1) := by decide +kernel
theorem d149_6 : decode (tb_me 149).1.2.1 6 = .ok (.if_icmp .ne 7, 3) := by decide +kernel
theorem d149_13 : decode (tb_me 149).1.2.1 13 = .ok (.iconst 0, 1) := by decide +kernel
theorem d149_14 : decode (tb_me 149).1.2.1 14 = .ok (.ireturn, 1) := by decide +kernel
theorem t149 : (tb_me 149).1.2.2.2 = some .boolean := by decide +kernel
theorem d149_9 : decode (tb_me 149).1.2.1 9 = .ok (.iconst 1, 1) := by decide +kernel
theorem d149_10 : decode (tb_me 149).1.2.1 10 = .ok (.goto 4, 3) := by decide +kernel
theorem e149 : (tb_me 149).2.1 = (0, 0) ∧ (tb_me 149).1.2.2.1 = 2 := by decide +kernel
theorem d150_4 : decode (tb_me 150).1.2.1 4 = .ok (.iload_n 2, 1) := by decide +kernel
theorem d150_5 : decode (tb_me 150).1.2.1 5 = .ok (.ifCond .eq 15, 3) := by decide +kernel
theorem d150_8 : decode (tb_me 150).1.2.1 8 = .ok (.iinc 1 1, 3) := by decide +kernel
theorem d150_11 : decode (tb_me 150).1.2.1 11 = .ok (.iload_n 2, 1) := by decide +kernel
theorem d150_12 : decode (tb_me 150).1.2.1 12 = .ok (.iload_n 2, 1) := by decide +kernel
theorem d150_13 : decode (tb_me 150).1.2.1 13 = .ok (.iconst 1, 1) := by decide +kernel
theorem d150_14 : decode (tb_me 150).1.2.1 14 = .ok (.isub, 1) := by decide +kernel
theorem d150_15 : decode (tb_me 150).1.2.1 15 = .ok (.iand, 1) := by decide +kernel
theorem d150_16 : decode (tb_me 150).1.2.1 16 = .ok (.istore_n 2, 1) := by decide +kernel
theorem d150_17 : decode (tb_me 150).1.2.1 17 = .ok (.goto (-13), 3) := by decide +kernel
theorem d150_0 : decode (tb_me 150).1.2.1 0 = .ok (.iconst 0, 1) := by decide +kernel
theorem d150_1 : decode (tb_me 150).1.2.1 1 = .ok (.istore_n 1, 1) := by decide +kernel
theorem d150_2 : decode (tb_me 150).1.2.1 2 = .ok (.iload_n 0, 1) := by decide +kernel
theorem d150_3 : decode (tb_me 150).1.2.1 3 = .ok (.istore_n 2, 1) := by decide +kernel
theorem d150_20 : decode (tb_me 150).1.2.1 20 = .ok (.iload_n 1, 1) := by decide +kernel
theorem d150_21 : decode (tb_me 150).1.2.1 21 = .ok (.ireturn, 1) := by decide +kernel
theorem t150 : (tb_me 150).1.2.2.2 = some .int := by decide +kernel
theorem e150 : (tb_me 150).2.1 = (0, 0) ∧ (tb_me 150).1.2.2.1 = 3 := by decide +kernel
theorem d151_3 : decode (tb_me 151).1.2.1 3 = .ok (.iload_n 2, 1) := by decide +kernel
theorem d151_4 : decode (tb_me 151).1.2.1 4 = .ok (.ifCond .lt 32, 3) := by decide +kernel
theorem d151_7 : decode (tb_me 151).1.2.1 7 = .ok (.aload_n 0, 1) := by decide +kernel
theorem d151_8 : decode (tb_me 151).1.2.1 8 = .ok (.getfield 7, 3) := by decide +kernel
theorem k151_7 (b : Bool) : tb_lk b 151 7 = (1, 10, 0, 0, 0) := by cases b <;> decide +kernel
theorem f10_0 : (0 < pm_nf tb_cl 10) ∧ tb_ft 10 0 ≠ .long ∧ pm_isR (tb_ft 10 0) = true := by decide +kernel
theorem d151_11 : decode (tb_me 151).1.2.1 11 = .ok (.aload_n 0, 1) := by decide +kernel
theorem d151_12 : decode (tb_me 151).1.2.1 12 = .ok (.getfield 73, 3) := by decide +kernel
theorem k151_73 (b : Bool) : tb_lk b 151 73 = (1, 10, 1, 0, 0) := by cases b <;> decide +kernel
theorem f10_1 : (1 < pm_nf tb_cl 10) ∧ tb_ft 10 1 ≠ .long ∧ pm_isR (tb_ft 10 1) = false := by decide +kernel
theorem d151_15 : decode (tb_me 151).1.2.1 15 = .ok (.iload_n 1, 1) := by decide +kernel
theorem d151_16 : decode (tb_me 151).1.2.1 16 = .ok (.iload_n 2, 1) := by decide +kernel
theorem d151_17 : decode (tb_me 151).1.2.1 17 = .ok (.ishr, 1) := by decide +kernel
theorem d151_18 : decode (tb_me 151).1.2.1 18 = .ok (.i2b, 1) := by decide +kernel
theorem d151_19 : decode (tb_me 151).1.2.1 19 = .ok (.bastore, 1) := by decide +kernel
theorem d151_20 : decode (tb_me 151).1.2.1 20 = .ok (.aload_n 0, 1) := by decide +kernel
theorem d151_21 : decode (tb_me 151).1.2.1 21 = .ok (.dup, 1) := by decide +kernel
theorem d151_22 : decode (tb_me 151).1.2.1 22 = .ok (.getfield 73, 3) := by decide +kernel
theorem d151_25 : decode (tb_me 151).1.2.1 25 = .ok (.iconst 1, 1) := by decide +kernel
theorem d151_26 : decode (tb_me 151).1.2.1 26 = .ok (.iadd, 1) := by decide +kernel
theorem d151_27 : decode (tb_me 151).1.2.1 27 = .ok (.putfield 73, 3) := by decide +kernel
theorem p151_10_1 : (1 < pm_nf tb_cl 10) ∧ tb_ft 10 1 = .int ∧ pm_fin tb_cl (tb_me 151).1.1 10 1 = true := by decide +kernel
theorem d151_30 : decode (tb_me 151).1.2.1 30 = .ok (.iinc 2 (-8), 3) := by decide +kernel
theorem d151_33 : decode (tb_me 151).1.2.1 33 = .ok (.goto (-30), 3) := by decide +kernel
theorem d151_0 : decode (tb_me 151).1.2.1 0 = .ok (.bipush 24, 2) := by decide +kernel
theorem d151_2 : decode (tb_me 151).1.2.1 2 = .ok (.istore_n 2, 1) := by decide +kernel
theorem d151_36 : decode (tb_me 151).1.2.1 36 = .ok (.return_, 1) := by decide +kernel
theorem t151 : (tb_me 151).1.2.2.2 = none := by decide +kernel
theorem e151 : (tb_me 151).2.1 = (0, 0) ∧ (tb_me 151).1.2.2.1 = 3 := by decide +kernel
theorem d152_0 : decode (tb_me 152).1.2.1 0 = .ok (.aload_n 0, 1) := by decide +kernel
theorem d152_1 : decode (tb_me 152).1.2.1 1 = .ok (.getfield 73, 3) := by decide +kernel
theorem k152_73 (b : Bool) : tb_lk b 152 73 = (1, 10, 1, 0, 0) := by cases b <;> decide +kernel
theorem d152_4 : decode (tb_me 152).1.2.1 4 = .ok (.bipush 20, 2) := by decide +kernel
theorem d152_6 : decode (tb_me 152).1.2.1 6 = .ok (.iadd, 1) := by decide +kernel
theorem d152_7 : decode (tb_me 152).1.2.1 7 = .ok (.sipush 400, 3) := by decide +kernel
theorem d152_10 : decode (tb_me 152).1.2.1 10 = .ok (.if_icmp .le 5, 3) := by decide +kernel
theorem d152_15 : decode (tb_me 152).1.2.1 15 = .ok (.aload_n 0, 1) := by decide +kernel
theorem d152_16 : decode (tb_me 152).1.2.1 16 = .ok (.iload_n 1, 1) := by decide +kernel
theorem d152_17 : decode (tb_me 152).1.2.1 17 = .ok (.invokevirtual 77, 3) := by decide +kernel
theorem k152_77 (b : Bool) : tb_lk b 152 77 = (2, 151, 0, 0, 0) := by cases b <;> decide +kernel
theorem m151 : (tb_me 151).2 = ((0, 0), (1, 10)) ∧ (tb_me 151).1.2.2.1 = 3 := by decide +kernel
theorem d152_20 : decode (tb_me 152).1.2.1 20 = .ok (.aload_n 0, 1) := by decide +kernel
theorem d152_21 : decode (tb_me 152).1.2.1 21 = .ok (.iload_n 2, 1) := by decide +kernel
theorem d152_22 : decode (tb_me 152).1.2.1 22 = .ok (.invokevirtual 77, 3) := by decide +kernel
theorem d152_25 : decode (tb_me 152).1.2.1 25 = .ok (.aload_n 0, 1) := by decide +kernel
theorem d152_26 : decode (tb_me 152).1.2.1 26 = .ok (.iload_n 3, 1) := by decide +kernel
theorem d152_27 : decode (tb_me 152).1.2.1 27 = .ok (.invokevirtual 77, 3) := by decide +kernel
theorem d152_30 : decode (tb_me 152).1.2.1 30 = .ok (.aload_n 0, 1) := by decide +kernel
theorem d152_31 : decode (tb_me 152).1.2.1 31 = .ok (.iload 4, 2) := by decide +kernel
theorem d152_33 : decode (tb_me 152).1.2.1 33 = .ok (.invokevirtual 77, 3) := by decide +kernel
theorem d152_36 : decode (tb_me 152).1.2.1 36 = .ok (.aload_n 0, 1) := by decide +kernel
theorem d152_37 : decode (tb_me 152).1.2.1 37 = .ok (.iload 5, 2) := by decide +kernel
theorem d152_39 : decode (tb_me 152).1.2.1 39 = .ok (.invokevirtual 77, 3) := by decide +kernel
theorem d152_42 : decode (tb_me 152).1.2.1 42 = .ok (.aload_n 0, 1) := by decide +kernel
theorem d152_43 : decode (tb_me 152).1.2.1 43 = .ok (.getfield 73, 3) := by decide +kernel
theorem d152_46 : decode (tb_me 152).1.2.1 46 = .ok (.ireturn, 1) := by decide +kernel
theorem t152 : (tb_me 152).1.2.2.2 = some .int := by decide +kernel
theorem d152_13 : decode (tb_me 152).1.2.1 13 = .ok (.iconst (-1), 1) := by decide +kernel
theorem d152_14 : decode (tb_me 152).1.2.1 14 = .ok (.ireturn, 1) := by decide +kernel
theorem e152 : (tb_me 152).2.1 = (0, 0) ∧ (tb_me 152).1.2.2.1 = 6 := by decide +kernel
theorem d153_0 : decode (tb_me 153).1.2.1 0 = .ok (.iload_n 1, 1) := by decide +kernel
theorem d153_1 : decode (tb_me 153).1.2.1 1 = .ok (.ifCond .lt 11, 3) := by decide +kernel
theorem d153_12 : decode (tb_me 153).1.2.1 12 = .ok (.iconst (-1), 1) := by decide +kernel
theorem d153_13 : decode (tb_me 153).1.2.1 13 = .ok (.ireturn, 1) := by decide +kernel
theorem t153 : (tb_me 153).1.2.2.2 = some .int := by decide +kernel
theorem d153_4 : decode (tb_me 153).1.2.1 4 = .ok (.iload_n 1, 1) := by decide +kernel
theorem d153_5 : decode (tb_me 153).1.2.1 5 = .ok (.aload_n 0, 1) := by decide +kernel
theorem d153_6 : decode (tb_me 153).1.2.1 6 = .ok (.getfield 73, 3) := by decide +kernel
theorem k153_73 (b : Bool) : tb_lk b 153 73 = (1, 10, 1, 0, 0) := by cases b <;> decide +kernel
theorem d153_9 : decode (tb_me 153).1.2.1 9 = .ok (.if_icmp .le 5, 3) := by decide +kernel
theorem d153_14 : decode (tb_me 153).1.2.1 14 = .ok (.aload_n 0, 1) := by decide +kernel
theorem d153_15 : decode (tb_me 153).1.2.1 15 = .ok (.iload_n 1, 1) := by decide +kernel
theorem d153_16 : decode (tb_me 153).1.2.1 16 = .ok (.putfield 73, 3) := by decide +kernel
theorem p153_10_1 : (1 < pm_nf tb_cl 10) ∧ tb_ft 10 1 = .int ∧ pm_fin tb_cl (tb_me 153).1.1 10 1 = true := by decide +kernel
theorem d153_19 : decode (tb_me 153).1.2.1 19 = .ok (.iload_n 1, 1) := by decide +kernel
theorem d153_20 : decode (tb_me 153).1.2.1 20 = .ok (.ireturn, 1) := by decide +kernel
theorem e153 : (tb_me 153).2.1 = (0, 0) ∧ (tb_me 153).1.2.2.1 = 2 := by decide +kernel
theorem d154_0 : decode (tb_me 154).1.2.1 0 = .ok (.aload_n 0, 1) := by decide +kernel
theorem d154_1 : decode (tb_me 154).1.2.1 1 = .ok (.getfield 81, 3) := by decide +kernel
theorem k154_81 (b : Bool) : tb_lk b 154 81 = (1, 10, 9, 0, 0) := by cases b <;> decide +kernel
theorem f10_9 : (9 < pm_nf tb_cl 10) ∧ tb_ft 10 9 ≠ .long ∧ pm_isR (tb_ft 10 9) = false := by decide +kernel
theorem d154_4 : decode (tb_me 154).1.2.1 4 = .ok (.ifCond .ne 15, 3) := by decide +kernel
theorem d154_19 : decode (tb_me 154).1.2.1 19 = .ok (.iconst 0, 1) := by decide +kernel
theorem d154_20 : decode (tb_me 154).1.2.1 20 = .ok (.ireturn, 1) := by decide +kernel
theorem t154 : (tb_me 154).1.2.2.2 = some .boolean := by decide +kernel
theorem d154_7 : decode (tb_me 154).1.2.1 7 = .ok (.aload_n 0, 1) := by decide +kernel
theorem d154_8 : decode (tb_me 154).1.2.1 8 = .ok (.iconst 1, 1) := by decide +kernel
theorem d154_9 : decode (tb_me 154).1.2.1 9 = .ok (.bipush 8, 2) := by decide +kernel
theorem d154_11 : decode (tb_me 154).1.2.1 11 = .ok (.iload_n 2, 1) := by decide +kernel
theorem d154_12 : decode (tb_me 154).1.2.1 12 = .ok (.imul, 1) := by decide +kernel
theorem d154_13 : decode (tb_me 154).1.2.1 13 = .ok (.iadd, 1) := by decide +kernel
theorem d154_14 : decode (tb_me 154).1.2.1 14 = .ok (.iload_n 1, 1) := by decide +kernel
theorem d154_15 : decode (tb_me 154).1.2.1 15 = .ok (.iadd, 1) := by decide +kernel
theorem d154_16 : decode (tb_me 154).1.2.1 16 = .ok (.putfield 81, 3) := by decide +kernel
theorem p154_10_9 : (9 < pm_nf tb_cl 10) ∧ tb_ft 10 9 = .int ∧ pm_fin tb_cl (tb_me 154).1.1 10 9 = true := by decide +kernel
theorem e154 : (tb_me 154).2.1 = (0, 0) ∧ (tb_me 154).1.2.2.1 = 3 := by decide +kernel
theorem d155_38 : decode (tb_me 155).1.2.1 38 = .ok (.aload_n 0, 1) := by decide +kernel
theorem d155_39 : decode (tb_me 155).1.2.1 39 = .ok (.getfield 84, 3) := by decide +kernel
theorem k155_84 (b : Bool) : tb_lk b 155 84 = (1, 10, 8, 0, 0) := by cases b <;> decide +kernel
theorem f10_8 : (8 < pm_nf tb_cl 10) ∧ tb_ft 10 8 ≠ .long ∧ pm_isR (tb_ft 10 8) = false := by decide +kernel
theorem d155_42 : decode (tb_me 155).1.2.1 42 = .ok (.aload_n 0, 1) := by decide +kernel
theorem d155_43 : decode (tb_me 155).1.2.1 43 = .ok (.getfield 73, 3) := by decide +kernel
theorem k155_73 (b : Bool) : tb_lk b 155 73 = (1, 10, 1, 0, 0) := by cases b <;> decide +kernel
theorem d155_46 : decode (tb_me 155).1.2.1 46 = .ok (.if_icmp .ge 19, 3) := by decide +kernel
theorem d155_65 : decode (tb_me 155).1.2.1 65 = .ok (.iconst (-1), 1) := by decide +kernel
theorem d155_66 : decode (tb_me 155).1.2.1 66 = .ok (.ireturn, 1) := by decide +kernel
theorem t155 : (tb_me 155).1.2.2.2 = some .int := by decide +kernel
theorem d155_49 : decode (tb_me 155).1.2.1 49 = .ok (.aload_n 0, 1) := by decide +kernel
theorem d155_50 : decode (tb_me 155).1.2.1 50 = .ok (.getfield 7, 3) := by decide +kernel
theorem k155_7 (b : Bool) : tb_lk b 155 7 = (1, 10, 0, 0, 0) := by cases b <;> decide +kernel
theorem d155_53 : decode (tb_me 155).1.2.1 53 = .ok (.aload_n 0, 1) := by decide +kernel
theorem d155_54 : decode (tb_me 155).1.2.1 54 = .ok (.getfield 84, 3) := by decide +kernel
theorem d155_57 : decode (tb_me 155).1.2.1 57 = .ok (.baload, 1) := by decide +kernel
theorem d155_58 : decode (tb_me 155).1.2.1 58 = .ok (.sipush 255, 3) := by decide +kernel
theorem d155_61 : decode (tb_me 155).1.2.1 61 = .ok (.iand, 1) := by decide +kernel
theorem d155_62 : decode (tb_me 155).1.2.1 62 = .ok (.goto 4, 3) := by decide +kernel
theorem d155_0 : decode (tb_me 155).1.2.1 0 = .ok (.aload_n 0, 1) := by decide +kernel
theorem d155_1 : decode (tb_me 155).1.2.1 1 = .ok (.getfield 84, 3) := by decide +kernel
theorem d155_4 : decode (tb_me 155).1.2.1 4 = .ok (.aload_n 0, 1) := by decide +kernel
theorem d155_5 : decode (tb_me 155).1.2.1 5 = .ok (.getfield 73, 3) := by decide +kernel
theorem d155_8 : decode (tb_me 155).1.2.1 8 = .ok (.if_icmp .ge 30, 3) := by decide +kernel
theorem d155_11 : decode (tb_me 155).1.2.1 11 = .ok (.aload_n 0, 1) := by decide +kernel
theorem d155_12 : decode (tb_me 155).1.2.1 12 = .ok (.getfield 7, 3) := by decide +kernel
theorem d155_15 : decode (tb_me 155).1.2.1 15 = .ok (.aload_n 0, 1) := by decide +kernel
theorem d155_16 : decode (tb_me 155).1.2.1 16 = .ok (.getfield 84, 3) := by decide +kernel
theorem d155_19 : decode (tb_me 155).1.2.1 19 = .ok (.baload, 1) := by decide +kernel
theorem d155_20 : decode (tb_me 155).1.2.1 20 = .ok (.bipush 32, 2) := by decide +kernel
theorem d155_22 : decode (tb_me 155).1.2.1 22 = .ok (.if_icmp .ne 16, 3) := by decide +kernel
theorem d155_25 : decode (tb_me 155).1.2.1 25 = .ok (.aload_n 0, 1) := by decide +kernel
theorem d155_26 : decode (tb_me 155).1.2.1 26 = .ok (.dup, 1) := by decide +kernel
theorem d155_27 : decode (tb_me 155).1.2.1 27 = .ok (.getfield 84, 3) := by decide +kernel
theorem d155_30 : decode (tb_me 155).1.2.1 30 = .ok (.iconst 1, 1) := by decide +kernel
theorem d155_31 : decode (tb_me 155).1.2.1 31 = .ok (.iadd, 1) := by decide +kernel
theorem d155_32 : decode (tb_me 155).1.2.1 32 = .ok (.putfield 84, 3) := by decide +kernel
theorem p155_10_8 : (8 < pm_nf tb_cl 10) ∧ tb_ft 10 8 = .int ∧ pm_fin tb_cl (tb_me 155).1.1 10 8 = true := by decide +kernel
theorem d155_35 : decode (tb_me 155).1.2.1 35 = .ok (.goto (-35), 3) := by decide +kernel
theorem e155 : (tb_me 155).2.1 = (0, 0) ∧ (tb_me 155).1.2.2.1 = 1 := by decide +kernel
theorem d156_0 : decode (tb_me 156).1.2.1 0 = .ok (.iload_n 1, 1) := by decide +kernel
theorem d156_1 : decode (tb_me 156).1.2.1 1 = .ok (.aload_n 0, 1) := by decide +kernel
theorem d156_2 : decode (tb_me 156).1.2.1 2 = .ok (.getfield 73, 3) := by decide +kernel
theorem k156_73 (b : Bool) : tb_lk b 156 73 = (1, 10, 1, 0, 0) := by cases b <;> decide +kernel
theorem d156_5 : decode (tb_me 156).1.2.1 5 = .ok (.if_icmp .ge 29, 3) := by decide +kernel
theorem d156_34 : decode (tb_me 156).1.2.1 34 = .ok (.iconst 0, 1) := by decide +kernel
theorem d156_35 : decode (tb_me 156).1.2.1 35 = .ok (.ireturn, 1) := by decide +kernel
theorem t156 : (tb_me 156).1.2.2.2 = some .boolean := by decide +kernel
theorem d156_8 : decode (tb_me 156).1.2.1 8 = .ok (.aload_n 0, 1) := by decide +kernel
theorem d156_9 : decode (tb_me 156).1.2.1 9 = .ok (.getfield 7, 3) := by decide +kernel
theorem k156_7 (b : Bool) : tb_lk b 156 7 = (1, 10, 0, 0, 0) := by cases b <;> decide +kernel
theorem d156_12 : decode (tb_me 156).1.2.1 12 = .ok (.iload_n 1, 1) := by decide +kernel
theorem d156_13 : decode (tb_me 156).1.2.1 13 = .ok (.baload, 1) := by decide +kernel
theorem d156_14 : decode (tb_me 156).1.2.1 14 = .ok (.bipush 48, 2) := by decide +kernel
theorem d156_16 : decode (tb_me 156).1.2.1 16 = .ok (.if_icmp .lt 18, 3) := by decide +kernel
theorem d156_19 : decode (tb_me 156).1.2.1 19 = .ok (.aload_n 0, 1) := by decide +kernel
theorem d156_20 : decode (tb_me 156).1.2.1 20 = .ok (.getfield 7, 3) := by decide +kernel
theorem d156_23 : decode (tb_me 156).1.2.1 23 = .ok (.iload_n 1, 1) := by decide +kernel
theorem d156_24 : decode (tb_me 156).1.2.1 24 = .ok (.baload, 1) := by decide +kernel
theorem d156_25 : decode (tb_me 156).1.2.1 25 = .ok (.bipush 57, 2) := by decide +kernel
theorem d156_27 : decode (tb_me 156).1.2.1 27 = .ok (.if_icmp .gt 7, 3) := by decide +kernel
theorem d156_30 : decode (tb_me 156).1.2.1 30 = .ok (.iconst 1, 1) := by decide +kernel
theorem d156_31 : decode (tb_me 156).1.2.1 31 = .ok (.goto 4, 3) := by decide +kernel
theorem e156 : (tb_me 156).2.1 = (0, 0) ∧ (tb_me 156).1.2.2.1 = 2 := by decide +kernel
theorem d157_0 : decode (tb_me 157).1.2.1 0 = .ok (.iload_n 1, 1) := by decide +kernel
theorem d157_1 : decode (tb_me 157).1.2.1 1 = .ok (.aload_n 0, 1) := by decide +kernel
theorem d157_2 : decode (tb_me 157).1.2.1 2 = .ok (.getfield 73, 3) := by decide +kernel
theorem k157_73 (b : Bool) : tb_lk b 157 73 = (1, 10, 1, 0, 0) := by cases b <;> decide +kernel
theorem d157_5 : decode (tb_me 157).1.2.1 5 = .ok (.if_icmp .ge 29, 3) := by decide +kernel
theorem d157_34 : decode (tb_me 157).1.2.1 34 = .ok (.iconst 0, 1) := by decide +kernel
theorem d157_35 : decode (tb_me 157).1.2.1 35 = .ok (.ireturn, 1) := by decide +kernel
theorem t157 : (tb_me 157).1.2.2.2 = some .boolean := by decide +kernel
theorem d157_8 : decode (tb_me 157).1.2.1 8 = .ok (.aload_n 0, 1) := by decide +kernel
theorem d157_9 : decode (tb_me 157).1.2.1 9 = .ok (.getfield 7, 3) := by decide +kernel
theorem k157_7 (b : Bool) : tb_lk b 157 7 = (1, 10, 0, 0, 0) := by cases b <;> decide +kernel
theorem d157_12 : decode (tb_me 157).1.2.1 12 = .ok (.iload_n 1, 1) := by decide +kernel
theorem d157_13 : decode (tb_me 157).1.2.1 13 = .ok (.baload, 1) := by decide +kernel
theorem d157_14 : decode (tb_me 157).1.2.1 14 = .ok (.bipush 97, 2) := by decide +kernel
theorem d157_16 : decode (tb_me 157).1.2.1 16 = .ok (.if_icmp .lt 18, 3) := by decide +kernel
theorem d157_19 : decode (tb_me 157).1.2.1 19 = .ok (.aload_n 0, 1) := by decide +kernel
theorem d157_20 : decode (tb_me 157).1.2.1 20 = .ok (.getfield 7, 3) := by decide +kernel
theorem d157_23 : decode (tb_me 157).1.2.1 23 = .ok (.iload_n 1, 1) := by decide +kernel
theorem d157_24 : decode (tb_me 157).1.2.1 24 = .ok (.baload, 1) := by decide +kernel
theorem d157_25 : decode (tb_me 157).1.2.1 25 = .ok (.bipush 122, 2) := by decide +kernel
theorem d157_27 : decode (tb_me 157).1.2.1 27 = .ok (.if_icmp .gt 7, 3) := by decide +kernel
theorem d157_30 : decode (tb_me 157).1.2.1 30 = .ok (.iconst 1, 1) := by decide +kernel
theorem d157_31 : decode (tb_me 157).1.2.1 31 = .ok (.goto 4, 3) := by decide +kernel
theorem e157 : (tb_me 157).2.1 = (0, 0) ∧ (tb_me 157).1.2.2.1 = 2 := by decide +kernel
theorem d158_10 : decode (tb_me 158).1.2.1 10 = .ok (.aload_n 0, 1) := by decide +kernel
theorem d158_11 : decode (tb_me 158).1.2.1 11 = .ok (.aload_n 0, 1) := by decide +kernel
theorem d158_12 : decode (tb_me 158).1.2.1 12 = .ok (.getfield 84, 3) := by decide +kernel
theorem k158_84 (b : Bool) : tb_lk b 158 84 = (1, 10, 8, 0, 0) := by cases b <;> decide +kernel
theorem d158_15 : decode (tb_me 158).1.2.1 15 = .ok (.iload 5, 2) := by decide +kernel
theorem d158_17 : decode (tb_me 158).1.2.1 17 = .ok (.iadd, 1) := by decide +kernel
theorem d158_18 : decode (tb_me 158).1.2.1 18 = .ok (.invokevirtual 91, 3) := by decide +kernel
theorem k158_91 (b : Bool) : tb_lk b 158 91 = (2, 157, 0, 0, 0) := by cases b <;> decide +kernel
theorem m157 : (tb_me 157).2 = ((0, 0), (1, 10)) ∧ (tb_me 157).1.2.2.1 = 2 := by decide +kernel
theorem d158_21 : decode (tb_me 158).1.2.1 21 = .ok (.ifCond .eq 35, 3) := by decide +kernel
theorem d158_24 : decode (tb_me 158).1.2.1 24 = .ok (.iload 5, 2) := by decide +kernel
theorem d158_26 : decode (tb_me 158).1.2.1 26 = .ok (.bipush 8, 2) := by decide +kernel
theorem d158_28 : decode (tb_me 158).1.2.1 28 = .ok (.if_icmp .ge 22, 3) := by decide +kernel
theorem d158_50 : decode (tb_me 158).1.2.1 50 = .ok (.iinc 5 1, 3) := by decide +kernel
theorem d158_53 : decode (tb_me 158).1.2.1 53 = .ok (.goto (-43), 3) := by decide +kernel
theorem d158_31 : decode (tb_me 158).1.2.1 31 = .ok (.lload_n 3, 1) := by decide +kernel
theorem d158_32 : decode (tb_me 158).1.2.1 32 = .ok (.bipush 8, 2) := by decide +kernel
theorem d158_34 : decode (tb_me 158).1.2.1 34 = .ok (.lshl, 1) := by decide +kernel
theorem d158_35 : decode (tb_me 158).1.2.1 35 = .ok (.aload_n 0, 1) := by decide +kernel
theorem d158_36 : decode (tb_me 158).1.2.1 36 = .ok (.getfield 7, 3) := by decide +kernel
theorem k158_7 (b : Bool) : tb_lk b 158 7 = (1, 10, 0, 0, 0) := by cases b <;> decide +kernel
theorem d158_39 : decode (tb_me 158).1.2.1 39 = .ok (.aload_n 0, 1) := by decide +kernel
theorem d158_40 : decode (tb_me 158).1.2.1 40 = .ok (.getfield 84, 3) := by decide +kernel
theorem d158_43 : decode (tb_me 158).1.2.1 43 = .ok (.iload 5, 2) := by decide +kernel
theorem d158_45 : decode (tb_me 158).1.2.1 45 = .ok (.iadd, 1) := by decide +kernel
theorem d158_46 : decode (tb_me 158).1.2.1 46 = .ok (.baload, 1) := by decide +kernel
theorem d158_47 : decode (tb_me 158).1.2.1 47 = .ok (.i2l, 1) := by decide +kernel
theorem d158_48 : decode (tb_me 158).1.2.1 48 = .ok (.lor, 1) := by decide +kernel
theorem d158_49 : decode (tb_me 158).1.2.1 49 = .ok (.lstore_n 3, 1) := by decide +kernel
theorem d158_0 : decode (tb_me 158).1.2.1 0 = .ok (.aload_n 0, 1) := by decide +kernel
theorem d158_1 : decode (tb_me 158).1.2.1 1 = .ok (.invokevirtual 87, 3) := by decide +kernel
theorem k158_87 (b : Bool) : tb_lk b 158 87 = (2, 155, 0, 0, 0) := by cases b <;> decide +kernel
theorem m155 : (tb_me 155).2 = ((0, 0), (0, 10)) ∧ (tb_me 155).1.2.2.1 = 1 := by decide +kernel
theorem d158_4 : decode (tb_me 158).1.2.1 4 = .ok (.pop, 1) := by decide +kernel
theorem d158_5 : decode (tb_me 158).1.2.1 5 = .ok (.lconst 0, 1) := by decide +kernel
theorem d158_6 : decode (tb_me 158).1.2.1 6 = .ok (.lstore_n 3, 1) := by decide +kernel
theorem d158_7 : decode (tb_me 158).1.2.1 7 = .ok (.iconst 0, 1) := by decide +kernel
theorem d158_8 : decode (tb_me 158).1.2.1 8 = .ok (.istore 5, 2) := by decide +kernel
theorem d158_56 : decode (tb_me 158).1.2.1 56 = .ok (.iload 5, 2) := by decide +kernel
theorem d158_58 : decode (tb_me 158).1.2.1 58 = .ok (.ifCond .le 20, 3) := by decide +kernel
theorem d158_78 : decode (tb_me 158).1.2.1 78 = .ok (.iconst 0, 1) := by decide +kernel
theorem d158_79 : decode (tb_me 158).1.2.1 79 = .ok (.ireturn, 1) := by decide +kernel
theorem t158 : (tb_me 158).1.2.2.2 = some .boolean := by decide +kernel
theorem d158_61 : decode (tb_me 158).1.2.1 61 = .ok (.iload 5, 2) := by decide +kernel
theorem d158_63 : decode (tb_me 158).1.2.1 63 = .ok (.bipush 8, 2) := by decide +kernel
theorem d158_65 : decode (tb_me 158).1.2.1 65 = .ok (.if_icmp .ge 13, 3) := by decide +kernel
theorem d158_68 : decode (tb_me 158).1.2.1 68 = .ok (.lload_n 3, 1) := by decide +kernel
theorem d158_69 : decode (tb_me 158).1.2.1 69 = .ok (.lload_n 1, 1) := by decide +kernel
theorem d158_70 : decode (tb_me 158).1.2.1 70 = .ok (.lcmp, 1) := by decide +kernel
theorem d158_71 : decode (tb_me 158).1.2.1 71 = .ok (.ifCond .ne 7, 3) := by decide +kernel
theorem d158_74 : decode (tb_me 158).1.2.1 74 = .ok (.iconst 1, 1) := by decide +kernel
theorem d158_75 : decode (tb_me 158).1.2.1 75 = .ok (.goto 4, 3) := by decide +kernel
theorem e158 : (tb_me 158).2.1 = (0, 0) ∧ (tb_me 158).1.2.2.1 = 6 := by decide +kernel
theorem d159_0 : decode (tb_me 159).1.2.1 0 = .ok (.aload_n 0, 1) := by decide +kernel
theorem d159_1 : decode (tb_me 159).1.2.1 1 = .ok (.aload_n 0, 1) := by decide +kernel
theorem d159_2 : decode (tb_me 159).1.2.1 2 = .ok (.getfield 84, 3) := by decide +kernel
theorem k159_84 (b : Bool) : tb_lk b 159 84 = (1, 10, 8, 0, 0) := by cases b <;> decide +kernel
theorem d159_5 : decode (tb_me 159).1.2.1 5 = .ok (.invokevirtual 91, 3) := by decide +kernel
theorem k159_91 (b : Bool) : tb_lk b 159 91 = (2, 157, 0, 0, 0) := by cases b <;> decide +kernel
theorem d159_8 : decode (tb_me 159).1.2.1 8 = .ok (.ifCond .eq 16, 3) := by decide +kernel
theorem d159_11 : decode (tb_me 159).1.2.1 11 = .ok (.aload_n 0, 1) := by decide +kernel
theorem d159_12 : decode (tb_me 159).1.2.1 12 = .ok (.dup, 1) := by decide +kernel
theorem d159_13 : decode (tb_me 159).1.2.1 13 = .ok (.getfield 84, 3) := by decide +kernel
theorem d159_16 : decode (tb_me 159).1.2.1 16 = .ok (.iconst 1, 1) := by decide +kernel
theorem d159_17 : decode (tb_me 159).1.2.1 17 = .ok (.iadd, 1) := by decide +kernel
theorem d159_18 : decode (tb_me 159).1.2.1 18 = .ok (.putfield 84, 3) := by decide +kernel
theorem p159_10_8 : (8 < pm_nf tb_cl 10) ∧ tb_ft 10 8 = .int ∧ pm_fin tb_cl (tb_me 159).1.1 10 8 = true := by decide +kernel
theorem d159_21 : decode (tb_me 159).1.2.1 21 = .ok (.goto (-21), 3) := by decide +kernel
theorem d159_24 : decode (tb_me 159).1.2.1 24 = .ok (.return_, 1) := by decide +kernel
theorem t159 : (tb_me 159).1.2.2.2 = none := by decide +kernel
theorem e159 : (tb_me 159).2.1 = (0, 0) ∧ (tb_me 159).1.2.2.1 = 1 := by decide +kernel
theorem d160_0 : decode (tb_me 160).1.2.1 0 = .ok (.aload_n 0, 1) := by decide +kernel
theorem d160_1 : decode (tb_me 160).1.2.1 1 = .ok (.lload_n 1, 1) := by decide +kernel
theorem d160_2 : decode (tb_me 160).1.2.1 2 = .ok (.invokevirtual 95, 3) := by decide +kernel
theorem k160_95 (b : Bool) : tb_lk b 160 95 = (2, 158, 0, 0, 0) := by cases b <;> decide +kernel
theorem m158 : (tb_me 158).2 = ((0, 0), (1, 10)) ∧ (tb_me 158).1.2.2.1 = 6 := by decide +kernel
theorem d160_5 : decode (tb_me 160).1.2.1 5 = .ok (.ifCond .ne 5, 3) := by decide +kernel
theorem d160_10 : decode (tb_me 160).1.2.1 10 = .ok (.aload_n 0, 1) := by decide +kernel
theorem d160_11 : decode (tb_me 160).1.2.1 11 = .ok (.invokevirtual 99, 3) := by decide +kernel
theorem k160_99 (b : Bool) : tb_lk b 160 99 = (2, 159, 0, 0, 0) := by cases b <;> decide +kernel
theorem m159 : (tb_me 159).2 = ((0, 0), (0, 10)) ∧ (tb_me 159).1.2.2.1 = 1 := by decide +kernel
theorem d160_14 : decode (tb_me 160).1.2.1 14 = .ok (.iconst 1, 1) := by decide +kernel
theorem d160_15 : decode (tb_me 160).1.2.1 15 = .ok (.ireturn, 1) := by decide +kernel
theorem t160 : (tb_me 160).1.2.2.2 = some .boolean := by decide +kernel
theorem d160_8 : decode (tb_me 160).1.2.1 8 = .ok (.iconst 0, 1) := by decide +kernel
theorem d160_9 : decode (tb_me 160).1.2.1 9 = .ok (.ireturn, 1) := by decide +kernel
theorem e160 : (tb_me 160).2.1 = (0, 0) ∧ (tb_me 160).1.2.2.1 = 3 := by decide +kernel
theorem d161_126 : decode (tb_me 161).1.2.1 126 = .ok (.iconst 1, 1) := by decide +kernel
theorem d161_127 : decode (tb_me 161).1.2.1 127 = .ok (.goto 4, 3) := by decide +kernel
theorem d161_131 : decode (tb_me 161).1.2.1 131 = .ok (.ireturn, 1) := by decide +kernel
theorem t161 : (tb_me 161).1.2.2.2 = some .boolean := by decide +kernel
theorem d161_117 : decode (tb_me 161).1.2.1 117 = .ok (.aload_n 0, 1) := by decide +kernel
theorem d161_118 : decode (tb_me 161).1.2.1 118 = .ok (.iconst 1, 1) := by decide +kernel
theorem d161_119 : decode (tb_me 161).1.2.1 119 = .ok (.iload_n 3, 1) := by decide +kernel
theorem d161_120 : decode (tb_me 161).1.2.1 120 = .ok (.invokevirtual 105, 3) := by decide +kernel
theorem k161_105 (b : Bool) : tb_lk b 161 105 = (2, 154, 0, 0, 0) := by cases b <;> decide +kernel
theorem m154 : (tb_me 154).2 = ((0, 0), (2, 10)) ∧ (tb_me 154).1.2.2.1 = 3 := by decide +kernel
theorem d161_123 : decode (tb_me 161).1.2.1 123 = .ok (.ifCond .eq 7, 3) := by decide +kernel
theorem d161_130 : decode (tb_me 161).1.2.1 130 = .ok (.iconst 0, 1) := by decide +kernel
theorem d161_75 : decode (tb_me 161).1.2.1 75 = .ok (.aload_n 0, 1) := by decide +kernel
theorem d161_76 : decode (tb_me 161).1.2.1 76 = .ok (.dup, 1) := by decide +kernel
theorem d161_77 : decode (tb_me 161).1.2.1 77 = .ok (.getfield 84, 3) := by decide +kernel
theorem k161_84 (b : Bool) : tb_lk b 161 84 = (1, 10, 8, 0, 0) := by cases b <;> decide +kernel
theorem d161_80 : decode (tb_me 161).1.2.1 80 = .ok (.iconst 1, 1) := by decide +kernel
theorem d161_81 : decode (tb_me 161).1.2.1 81 = .ok (.iadd, 1) := by decide +kernel
theorem d161_82 : decode (tb_me 161).1.2.1 82 = .ok (.putfield 84, 3) := by decide +kernel
theorem p161_10_8 : (8 < pm_nf tb_cl 10) ∧ tb_ft 10 8 = .int ∧ pm_fin tb_cl (tb_me 161).1.1 10 8 = true := by decide +kernel
theorem d161_85 : decode (tb_me 161).1.2.1 85 = .ok (.goto (-51), 3) := by decide +kernel
theorem d161_34 : decode (tb_me 161).1.2.1 34 = .ok (.aload_n 0, 1) := by decide +kernel
theorem d161_35 : decode (tb_me 161).1.2.1 35 = .ok (.aload_n 0, 1) := by decide +kernel
theorem d161_36 : decode (tb_me 161).1.2.1 36 = .ok (.getfield 84, 3) := by decide +kernel
theorem d161_39 : decode (tb_me 161).1.2.1 39 = .ok (.invokevirtual 102, 3) := by decide +kernel
theorem k161_102 (b : Bool) : tb_lk b 161 102 = (2, 156, 0, 0, 0) := by cases b <;> decide +kernel
theorem m156 : (tb_me 156).2 = ((0, 0), (1, 10)) ∧ (tb_me 156).1.2.2.1 = 2 := by decide +kernel
theorem d161_42 : decode (tb_me 161).1.2.1 42 = .ok (.ifCond .eq 46, 3) := by decide +kernel
theorem d161_45 : decode (tb_me 161).1.2.1 45 = .ok (.aload_n 0, 1) := by decide +kernel
theorem d161_46 : decode (tb_me 161).1.2.1 46 = .ok (.getfield 84, 3) := by decide +kernel
theorem d161_49 : decode (tb_me 161).1.2.1 49 = .ok (.iload_n 3, 1) := by decide +kernel
theorem d161_50 : decode (tb_me 161).1.2.1 50 = .ok (.isub, 1) := by decide +kernel
theorem d161_51 : decode (tb_me 161).1.2.1 51 = .ok (.iconst 5, 1) := by decide +kernel
theorem d161_52 : decode (tb_me 161).1.2.1 52 = .ok (.if_icmp .ge 23, 3) := by decide +kernel
theorem d161_55 : decode (tb_me 161).1.2.1 55 = .ok (.bipush 10, 2) := by decide +kernel
theorem d161_57 : decode (tb_me 161).1.2.1 57 = .ok (.iload 4, 2) := by decide +kernel
theorem d161_59 : decode (tb_me 161).1.2.1 59 = .ok (.imul, 1) := by decide +kernel
theorem d161_60 : decode (tb_me 161).1.2.1 60 = .ok (.aload_n 0, 1) := by decide +kernel
theorem d161_61 : decode (tb_me 161).1.2.1 61 = .ok (.getfield 7, 3) := by decide +kernel
theorem k161_7 (b : Bool) : tb_lk b 161 7 = (1, 10, 0, 0, 0) := by cases b <;> decide +kernel
theorem d161_64 : decode (tb_me 161).1.2.1 64 = .ok (.aload_n 0, 1) := by decide +kernel
theorem d161_65 : decode (tb_me 161).1.2.1 65 = .ok (.getfield 84, 3) := by decide +kernel
theorem d161_68 : decode (tb_me 161).1.2.1 68 = .ok (.baload, 1) := by decide +kernel
theorem d161_69 : decode (tb_me 161).1.2.1 69 = .ok (.iadd, 1) := by decide +kernel
theorem d161_70 : decode (tb_me 161).1.2.1 70 = .ok (.bipush 48, 2) := by decide +kernel
theorem d161_72 : decode (tb_me 161).1.2.1 72 = .ok (.isub, 1) := by decide +kernel
theorem d161_73 : decode (tb_me 161).1.2.1 73 = .ok (.istore 4, 2) := by decide +kernel
theorem d161_0 : decode (tb_me 161).1.2.1 0 = .ok (.aload_n 0, 1) := by decide +kernel
theorem d161_1 : decode (tb_me 161).1.2.1 1 = .ok (.invokevirtual 87, 3) := by decide +kernel
theorem k161_87 (b : Bool) : tb_lk b 161 87 = (2, 155, 0, 0, 0) := by cases b <;> decide +kernel
theorem d161_4 : decode (tb_me 161).1.2.1 4 = .ok (.pop, 1) := by decide +kernel
theorem d161_5 : decode (tb_me 161).1.2.1 5 = .ok (.aload_n 0, 1) := by decide +kernel
theorem d161_6 : decode (tb_me 161).1.2.1 6 = .ok (.aload_n 0, 1) := by decide +kernel
theorem d161_7 : decode (tb_me 161).1.2.1 7 = .ok (.getfield 84, 3) := by decide +kernel
theorem d161_10 : decode (tb_me 161).1.2.1 10 = .ok (.invokevirtual 102, 3) := by decide +kernel
theorem d161_13 : decode (tb_me 161).1.2.1 13 = .ok (.ifCond .ne 13, 3) := by decide +kernel
theorem d161_26 : decode (tb_me 161).1.2.1 26 = .ok (.aload_n 0, 1) := by decide +kernel
theorem d161_27 : decode (tb_me 161).1.2.1 27 = .ok (.getfield 84, 3) := by decide +kernel
theorem d161_30 : decode (tb_me 161).1.2.1 30 = .ok (.istore_n 3, 1) := by decide +kernel
theorem d161_31 : decode (tb_me 161).1.2.1 31 = .ok (.iconst 0, 1) := by decide +kernel
theorem d161_32 : decode (tb_me 161).1.2.1 32 = .ok (.istore 4, 2) := by decide +kernel
theorem d161_88 : decode (tb_me 161).1.2.1 88 = .ok (.aload_n 0, 1) := by decide +kernel
theorem d161_89 : decode (tb_me 161).1.2.1 89 = .ok (.iload 4, 2) := by decide +kernel
theorem d161_91 : decode (tb_me 161).1.2.1 91 = .ok (.putfield 109, 3) := by decide +kernel
theorem k161_109 (b : Bool) : tb_lk b 161 109 = (1, 10, 10, 0, 0) := by cases b <;> decide +kernel
theorem p161_10_10 : (10 < pm_nf tb_cl 10) ∧ tb_ft 10 10 = .int ∧ pm_fin tb_cl (tb_me 161).1.1 10 10 = true := by decide +kernel
theorem d161_94 : decode (tb_me 161).1.2.1 94 = .ok (.aload_n 0, 1) := by decide +kernel
theorem d161_95 : decode (tb_me 161).1.2.1 95 = .ok (.getfield 84, 3) := by decide +kernel
theorem d161_98 : decode (tb_me 161).1.2.1 98 = .ok (.iload_n 3, 1) := by decide +kernel
theorem d161_99 : decode (tb_me 161).1.2.1 99 = .ok (.isub, 1) := by decide +kernel
theorem d161_100 : decode (tb_me 161).1.2.1 100 = .ok (.iconst 5, 1) := by decide +kernel
theorem d161_101 : decode (tb_me 161).1.2.1 101 = .ok (.if_icmp .gt 16, 3) := by decide +kernel
theorem d161_104 : decode (tb_me 161).1.2.1 104 = .ok (.iload 4, 2) := by decide +kernel
theorem d161_106 : decode (tb_me 161).1.2.1 106 = .ok (.i2l, 1) := by decide +kernel
theorem d161_107 : decode (tb_me 161).1.2.1 107 = .ok (.iload_n 1, 1) := by decide +kernel
theorem d161_108 : decode (tb_me 161).1.2.1 108 = .ok (.i2l, 1) := by decide +kernel
theorem d161_109 : decode (tb_me 161).1.2.1 109 = .ok (.iload_n 2, 1) := by decide +kernel
theorem d161_110 : decode (tb_me 161).1.2.1 110 = .ok (.i2l, 1) := by decide +kernel
theorem d161_111 : decode (tb_me 161).1.2.1 111 = .ok (.invokestatic 112, 3) := by decide +kernel
theorem k161_112 (b : Bool) : tb_lk b 161 112 = (4, 148, 0, 0, 0) := by cases b <;> decide +kernel
theorem m148 : (tb_me 148).2 = ((0, 0), (3, 999)) ∧ (tb_me 148).1.2.2.1 = 6 := by decide +kernel
theorem d161_114 : decode (tb_me 161).1.2.1 114 = .ok (.ifCond .ne 12, 3) := by decide +kernel
theorem d161_16 : decode (tb_me 161).1.2.1 16 = .ok (.aload_n 0, 1) := by decide +kernel
theorem d161_17 : decode (tb_me 161).1.2.1 17 = .ok (.iconst 0, 1) := by decide +kernel
theorem d161_18 : decode (tb_me 161).1.2.1 18 = .ok (.aload_n 0, 1) := by decide +kernel
theorem d161_19 : decode (tb_me 161).1.2.1 19 = .ok (.getfield 84, 3) := by decide +kernel
theorem d161_22 : decode (tb_me 161).1.2.1 22 = .ok (.invokevirtual 105, 3) := by decide +kernel
theorem d161_25 : decode (tb_me 161).1.2.1 25 = .ok (.ireturn, 1) := by decide +kernel
theorem e161 : (tb_me 161).2.1 = (0, 0) ∧ (tb_me 161).1.2.2.1 = 5 := by decide +kernel
theorem d162_0 : decode (tb_me 162).1.2.1 0 = .ok (.aload_n 0, 1) := by decide +kernel
theorem d162_1 : decode (tb_me 162).1.2.1 1 = .ok (.ldc2_w 116, 3) := by decide +kernel
theorem k162_116 (b : Bool) : tb_lk b 162 116 = (12, 0, 0, 0, 7168366) := by cases b <;> decide +kernel
theorem d162_4 : decode (tb_me 162).1.2.1 4 = .ok (.invokevirtual 95, 3) := by decide +kernel
theorem k162_95 (b : Bool) : tb_lk b 162 95 = (2, 158, 0, 0, 0) := by cases b <;> decide +kernel
theorem d162_7 : decode (tb_me 162).1.2.1 7 = .ok (.ifCond .eq 5, 3) := by decide +kernel
theorem d162_12 : decode (tb_me 162).1.2.1 12 = .ok (.aload_n 0, 1) := by decide +kernel
theorem d162_13 : decode (tb_me 162).1.2.1 13 = .ok (.ldc2_w 118, 3) := by decide +kernel
theorem k162_118 (b : Bool) : tb_lk b 162 118 = (12, 0, 0, 0, 2003792484) := by cases b <;> decide +kernel
theorem d162_16 : decode (tb_me 162).1.2.1 16 = .ok (.invokevirtual 95, 3) := by decide +kernel
theorem d162_19 : decode (tb_me 162).1.2.1 19 = .ok (.ifCond .eq 5, 3) := by decide +kernel
theorem d162_24 : decode (tb_me 162).1.2.1 24 = .ok (.aload_n 0, 1) := by decide +kernel
theorem d162_25 : decode (tb_me 162).1.2.1 25 = .ok (.ldc2_w 120, 3) := by decide +kernel
theorem k162_120 (b : Bool) : tb_lk b 162 120 = (12, 0, 0, 0, 422608794728) := by cases b <;> decide +kernel
theorem d162_28 : decode (tb_me 162).1.2.1 28 = .ok (.invokevirtual 95, 3) := by decide +kernel
theorem d162_31 : decode (tb_me 162).1.2.1 31 = .ok (.ifCond .eq 5, 3) := by decide +kernel
theorem d162_36 : decode (tb_me 162).1.2.1 36 = .ok (.aload_n 0, 1) := by decide +kernel
theorem d162_37 : decode (tb_me 162).1.2.1 37 = .ok (.ldc2_w 122, 3) := by decide +kernel
theorem k162_122 (b : Bool) : tb_lk b 162 122 = (12, 0, 0, 0, 1752135026) := by cases b <;> decide +kernel
theorem d162_40 : decode (tb_me 162).1.2.1 40 = .ok (.invokevirtual 95, 3) := by decide +kernel
theorem d162_43 : decode (tb_me 162).1.2.1 43 = .ok (.ifCond .eq 5, 3) := by decide +kernel
theorem d162_48 : decode (tb_me 162).1.2.1 48 = .ok (.aload_n 0, 1) := by decide +kernel
theorem d162_49 : decode (tb_me 162).1.2.1 49 = .ok (.ldc2_w 124, 3) := by decide +kernel
theorem k162_124 (b : Bool) : tb_lk b 162 124 = (12, 0, 0, 0, 2003398244) := by cases b <;> decide +kernel
theorem d162_52 : decode (tb_me 162).1.2.1 52 = .ok (.invokevirtual 95, 3) := by decide +kernel
theorem d162_55 : decode (tb_me 162).1.2.1 55 = .ok (.ifCond .eq 5, 3) := by decide +kernel
theorem d162_60 : decode (tb_me 162).1.2.1 60 = .ok (.aload_n 0, 1) := by decide +kernel
theorem d162_61 : decode (tb_me 162).1.2.1 61 = .ok (.ldc2_w 126, 3) := by decide +kernel
theorem k162_126 (b : Bool) : tb_lk b 162 126 = (12, 0, 0, 0, 418614700901) := by cases b <;> decide +kernel
theorem d162_64 : decode (tb_me 162).1.2.1 64 = .ok (.invokevirtual 95, 3) := by decide +kernel
theorem d162_67 : decode (tb_me 162).1.2.1 67 = .ok (.ifCond .eq 5, 3) := by decide +kernel
theorem d162_72 : decode (tb_me 162).1.2.1 72 = .ok (.aload_n 0, 1) := by decide +kernel
theorem d162_73 : decode (tb_me 162).1.2.1 73 = .ok (.ldc2_w 128, 3) := by decide +kernel
theorem k162_128 (b : Bool) : tb_lk b 162 128 = (12, 0, 0, 0, 1936286571) := by cases b <;> decide +kernel
theorem d162_76 : decode (tb_me 162).1.2.1 76 = .ok (.invokevirtual 95, 3) := by decide +kernel
theorem d162_79 : decode (tb_me 162).1.2.1 79 = .ok (.ifCond .eq 6, 3) := by decide +kernel
theorem d162_85 : decode (tb_me 162).1.2.1 85 = .ok (.aload_n 0, 1) := by decide +kernel
theorem d162_86 : decode (tb_me 162).1.2.1 86 = .ok (.ldc2_w 130, 3) := by decide +kernel
theorem k162_130 (b : Bool) : tb_lk b 162 130 = (12, 0, 0, 0, 499985311076) := by cases b <;> decide +kernel
theorem d162_89 : decode (tb_me 162).1.2.1 89 = .ok (.invokevirtual 95, 3) := by decide +kernel
theorem d162_92 : decode (tb_me 162).1.2.1 92 = .ok (.ifCond .eq 6, 3) := by decide +kernel
theorem d162_98 : decode (tb_me 162).1.2.1 98 = .ok (.aload_n 0, 1) := by decide +kernel
theorem d162_99 : decode (tb_me 162).1.2.1 99 = .ok (.ldc2_w 132, 3) := by decide +kernel
theorem k162_132 (b : Bool) : tb_lk b 162 132 = (12, 0, 0, 0, 1935764837) := by cases b <;> decide +kernel
theorem d162_102 : decode (tb_me 162).1.2.1 102 = .ok (.invokevirtual 95, 3) := by decide +kernel
theorem d162_105 : decode (tb_me 162).1.2.1 105 = .ok (.ifCond .eq 6, 3) := by decide +kernel
theorem d162_111 : decode (tb_me 162).1.2.1 111 = .ok (.aload_n 0, 1) := by decide +kernel
theorem d162_112 : decode (tb_me 162).1.2.1 112 = .ok (.ldc2_w 134, 3) := by decide +kernel
theorem k162_134 (b : Bool) : tb_lk b 162 134 = (12, 0, 0, 0, 1852138852) := by cases b <;> decide +kernel
theorem d162_115 : decode (tb_me 162).1.2.1 115 = .ok (.invokevirtual 95, 3) := by decide +kernel
theorem d162_118 : decode (tb_me 162).1.2.1 118 = .ok (.ifCond .eq 8, 3) := by decide +kernel
theorem d162_126 : decode (tb_me 162).1.2.1 126 = .ok (.aload_n 0, 1) := by decide +kernel
theorem d162_127 : decode (tb_me 162).1.2.1 127 = .ok (.ldc2_w 136, 3) := by decide +kernel
theorem k162_136 (b : Bool) : tb_lk b 162 136 = (12, 0, 0, 0, 1668441463) := by cases b <;> decide +kernel
theorem d162_130 : decode (tb_me 162).1.2.1 130 = .ok (.invokevirtual 95, 3) := by decide +kernel
theorem d162_133 : decode (tb_me 162).1.2.1 133 = .ok (.ifCond .eq 8, 3) := by decide +kernel
theorem d162_141 : decode (tb_me 162).1.2.1 141 = .ok (.iconst (-1), 1) := by decide +kernel
theorem d162_142 : decode (tb_me 162).1.2.1 142 = .ok (.ireturn, 1) := by decide +kernel
theorem t162 : (tb_me 162).1.2.2.2 = some .int := by decide +kernel
theorem d162_136 : decode (tb_me 162).1.2.1 136 = .ok (.bipush 10, 2) := by decide +kernel
theorem d162_138 : decode (tb_me 162).1.2.1 138 = .ok (.goto 4, 3) := by decide +kernel
theorem d162_121 : decode (tb_me 162).1.2.1 121 = .ok (.bipush 9, 2) := by decide +kernel
theorem d162_123 : decode (tb_me 162).1.2.1 123 = .ok (.goto 19, 3) := by decide +kernel
theorem d162_108 : decode (tb_me 162).1.2.1 108 = .ok (.bipush 8, 2) := by decide +kernel
theorem d162_110 : decode (tb_me 162).1.2.1 110 = .ok (.ireturn, 1) := by decide +kernel
theorem d162_95 : decode (tb_me 162).1.2.1 95 = .ok (.bipush 7, 2) := by decide +kernel
theorem d162_97 : decode (tb_me 162).1.2.1 97 = .ok (.ireturn, 1) := by decide +kernel
theorem d162_82 : decode (tb_me 162).1.2.1 82 = .ok (.bipush 6, 2) := by decide +kernel
theorem d162_84 : decode (tb_me 162).1.2.1 84 = .ok (.ireturn, 1) := by decide +kernel
theorem d162_70 : decode (tb_me 162).1.2.1 70 = .ok (.iconst 5, 1) := by decide +kernel
theorem d162_71 : decode (tb_me 162).1.2.1 71 = .ok (.ireturn, 1) := by decide +kernel
theorem d162_58 : decode (tb_me 162).1.2.1 58 = .ok (.iconst 4, 1) := by decide +kernel
theorem d162_59 : decode (tb_me 162).1.2.1 59 = .ok (.ireturn, 1) := by decide +kernel
theorem d162_46 : decode (tb_me 162).1.2.1 46 = .ok (.iconst 3, 1) := by decide +kernel
theorem d162_47 : decode (tb_me 162).1.2.1 47 = .ok (.ireturn, 1) := by decide +kernel
theorem d162_34 : decode (tb_me 162).1.2.1 34 = .ok (.iconst 2, 1) := by decide +kernel
theorem d162_35 : decode (tb_me 162).1.2.1 35 = .ok (.ireturn, 1) := by decide +kernel
theorem d162_22 : decode (tb_me 162).1.2.1 22 = .ok (.iconst 1, 1) := by decide +kernel
theorem d162_23 : decode (tb_me 162).1.2.1 23 = .ok (.ireturn, 1) := by decide +kernel
theorem d162_10 : decode (tb_me 162).1.2.1 10 = .ok (.iconst 0, 1) := by decide +kernel
theorem d162_11 : decode (tb_me 162).1.2.1 11 = .ok (.ireturn, 1) := by decide +kernel
theorem e162 : (tb_me 162).2.1 = (0, 0) ∧ (tb_me 162).1.2.2.1 = 1 := by decide +kernel
theorem d163_0 : decode (tb_me 163).1.2.1 0 = .ok (.aload_n 0, 1) := by decide +kernel
theorem d163_1 : decode (tb_me 163).1.2.1 1 = .ok (.getfield 13, 3) := by decide +kernel
theorem k163_13 (b : Bool) : tb_lk b 163 13 = (1, 10, 3, 0, 0) := by cases b <;> decide +kernel
theorem f10_3 : (3 < pm_nf tb_cl 10) ∧ tb_ft 10 3 ≠ .long ∧ pm_isR (tb_ft 10 3) = true := by decide +kernel
theorem d163_4 : decode (tb_me 163).1.2.1 4 = .ok (.sipush 400, 3) := by decide +kernel
theorem d163_7 : decode (tb_me 163).1.2.1 7 = .ok (.aload_n 0, 1) := by decide +kernel
theorem d163_8 : decode (tb_me 163).1.2.1 8 = .ok (.getfield 138, 3) := by decide +kernel
theorem k163_138 (b : Bool) : tb_lk b 163 138 = (1, 10, 11, 0, 0) := by cases b <;> decide +kernel
theorem f10_11 : (11 < pm_nf tb_cl 10) ∧ tb_ft 10 11 ≠ .long ∧ pm_isR (tb_ft 10 11) = false := by decide +kernel
theorem d163_11 : decode (tb_me 163).1.2.1 11 = .ok (.imul, 1) := by decide +kernel
theorem d163_12 : decode (tb_me 163).1.2.1 12 = .ok (.aload_n 0, 1) := by decide +kernel
theorem d163_13 : decode (tb_me 163).1.2.1 13 = .ok (.getfield 17, 3) := by decide +kernel
theorem k163_17 (b : Bool) : tb_lk b 163 17 = (1, 10, 4, 0, 0) := by cases b <;> decide +kernel
theorem f10_4 : (4 < pm_nf tb_cl 10) ∧ tb_ft 10 4 ≠ .long ∧ pm_isR (tb_ft 10 4) = true := by decide +kernel
theorem d163_16 : decode (tb_me 163).1.2.1 16 = .ok (.aload_n 0, 1) := by decide +kernel
theorem d163_17 : decode (tb_me 163).1.2.1 17 = .ok (.getfield 138, 3) := by decide +kernel
theorem d163_20 : decode (tb_me 163).1.2.1 20 = .ok (.iaload, 1) := by decide +kernel
theorem d163_21 : decode (tb_me 163).1.2.1 21 = .ok (.iadd, 1) := by decide +kernel
theorem d163_22 : decode (tb_me 163).1.2.1 22 = .ok (.iload_n 1, 1) := by decide +kernel
theorem d163_23 : decode (tb_me 163).1.2.1 23 = .ok (.bipush 16, 2) := by decide +kernel
theorem d163_25 : decode (tb_me 163).1.2.1 25 = .ok (.iload_n 2, 1) := by decide +kernel
theorem d163_26 : decode (tb_me 163).1.2.1 26 = .ok (.imul, 1) := by decide +kernel
theorem d163_27 : decode (tb_me 163).1.2.1 27 = .ok (.iadd, 1) := by decide +kernel
theorem d163_28 : decode (tb_me 163).1.2.1 28 = .ok (.iastore, 1) := by decide +kernel
theorem d163_29 : decode (tb_me 163).1.2.1 29 = .ok (.aload_n 0, 1) := by decide +kernel
theorem d163_30 : decode (tb_me 163).1.2.1 30 = .ok (.getfield 17, 3) := by decide +kernel
theorem d163_33 : decode (tb_me 163).1.2.1 33 = .ok (.aload_n 0, 1) := by decide +kernel
theorem d163_34 : decode (tb_me 163).1.2.1 34 = .ok (.getfield 138, 3) := by decide +kernel
theorem d163_37 : decode (tb_me 163).1.2.1 37 = .ok (.dup2, 1) := by decide +kernel
theorem d163_38 : decode (tb_me 163).1.2.1 38 = .ok (.iaload, 1) := by decide +kernel
theorem d163_39 : decode (tb_me 163).1.2.1 39 = .ok (.iconst 1, 1) := by decide +kernel
theorem d163_40 : decode (tb_me 163).1.2.1 40 = .ok (.iadd, 1) := by decide +kernel
theorem d163_41 : decode (tb_me 163).1.2.1 41 = .ok (.iastore, 1) := by decide +kernel
theorem d163_42 : decode (tb_me 163).1.2.1 42 = .ok (.return_, 1) := by decide +kernel
theorem t163 : (tb_me 163).1.2.2.2 = none := by decide +kernel
theorem e163 : (tb_me 163).2.1 = (0, 0) ∧ (tb_me 163).1.2.2.1 = 3 := by decide +kernel
theorem d164_0 : decode (tb_me 164).1.2.1 0 = .ok (.aload_n 0, 1) := by decide +kernel
theorem d164_1 : decode (tb_me 164).1.2.1 1 = .ok (.getfield 141, 3) := by decide +kernel
theorem k164_141 (b : Bool) : tb_lk b 164 141 = (1, 10, 12, 0, 0) := by cases b <;> decide +kernel
theorem f10_12 : (12 < pm_nf tb_cl 10) ∧ tb_ft 10 12 ≠ .long ∧ pm_isR (tb_ft 10 12) = false := by decide +kernel
theorem d164_4 : decode (tb_me 164).1.2.1 4 = .ok (.bipush 60, 2) := by decide +kernel
theorem d164_6 : decode (tb_me 164).1.2.1 6 = .ok (.if_icmp .ne 10, 3) := by decide +kernel
theorem d164_16 : decode (tb_me 164).1.2.1 16 = .ok (.aload_n 0, 1) := by decide +kernel
theorem d164_17 : decode (tb_me 164).1.2.1 17 = .ok (.dup, 1) := by decide +kernel
theorem d164_18 : decode (tb_me 164).1.2.1 18 = .ok (.getfield 141, 3) := by decide +kernel
theorem d164_21 : decode (tb_me 164).1.2.1 21 = .ok (.iconst 1, 1) := by decide +kernel
theorem d164_22 : decode (tb_me 164).1.2.1 22 = .ok (.iadd, 1) := by decide +kernel
theorem d164_23 : decode (tb_me 164).1.2.1 23 = .ok (.putfield 141, 3) := by decide +kernel
theorem p164_10_12 : (12 < pm_nf tb_cl 10) ∧ tb_ft 10 12 = .int ∧ pm_fin tb_cl (tb_me 164).1.1 10 12 = true := by decide +kernel
theorem d164_26 : decode (tb_me 164).1.2.1 26 = .ok (.iconst 1, 1) := by decide +kernel
theorem d164_27 : decode (tb_me 164).1.2.1 27 = .ok (.ireturn, 1) := by decide +kernel
theorem t164 : (tb_me 164).1.2.2.2 = some .boolean := by decide +kernel
theorem d164_9 : decode (tb_me 164).1.2.1 9 = .ok (.aload_n 0, 1) := by decide +kernel
theorem d164_10 : decode (tb_me 164).1.2.1 10 = .ok (.iconst 3, 1) := by decide +kernel
theorem d164_11 : decode (tb_me 164).1.2.1 11 = .ok (.iload_n 1, 1) := by decide +kernel
theorem d164_12 : decode (tb_me 164).1.2.1 12 = .ok (.invokevirtual 105, 3) := by decide +kernel
theorem k164_105 (b : Bool) : tb_lk b 164 105 = (2, 154, 0, 0, 0) := by cases b <;> decide +kernel
theorem d164_15 : decode (tb_me 164).1.2.1 15 = .ok (.ireturn, 1) := by decide +kernel
theorem e164 : (tb_me 164).2.1 = (0, 0) ∧ (tb_me 164).1.2.2.1 = 2 := by decide +kernel
theorem d165_0 : decode (tb_me 165).1.2.1 0 = .ok (.aload_n 0, 1) := by decide +kernel
theorem d165_1 : decode (tb_me 165).1.2.1 1 = .ok (.getfield 144, 3) := by decide +kernel
theorem k165_144 (b : Bool) : tb_lk b 165 144 = (1, 10, 13, 0, 0) := by cases b <;> decide +kernel
theorem f10_13 : (13 < pm_nf tb_cl 10) ∧ tb_ft 10 13 ≠ .long ∧ pm_isR (tb_ft 10 13) = false := by decide +kernel
theorem d165_4 : decode (tb_me 165).1.2.1 4 = .ok (.bipush 10, 2) := by decide +kernel
theorem d165_6 : decode (tb_me 165).1.2.1 6 = .ok (.if_icmp .ne 13, 3) := by decide +kernel
theorem d165_19 : decode (tb_me 165).1.2.1 19 = .ok (.aload_n 0, 1) := by decide +kernel
theorem d165_20 : decode (tb_me 165).1.2.1 20 = .ok (.dup, 1) := by decide +kernel
theorem d165_21 : decode (tb_me 165).1.2.1 21 = .ok (.getfield 144, 3) := by decide +kernel
theorem d165_24 : decode (tb_me 165).1.2.1 24 = .ok (.iconst 1, 1) := by decide +kernel
theorem d165_25 : decode (tb_me 165).1.2.1 25 = .ok (.iadd, 1) := by decide +kernel
theorem d165_26 : decode (tb_me 165).1.2.1 26 = .ok (.putfield 144, 3) := by decide +kernel
theorem p165_10_13 : (13 < pm_nf tb_cl 10) ∧ tb_ft 10 13 = .int ∧ pm_fin tb_cl (tb_me 165).1.1 10 13 = true := by decide +kernel
theorem d165_29 : decode (tb_me 165).1.2.1 29 = .ok (.aload_n 0, 1) := by decide +kernel
theorem d165_30 : decode (tb_me 165).1.2.1 30 = .ok (.getfield 29, 3) := by decide +kernel
theorem k165_29 (b : Bool) : tb_lk b 165 29 = (1, 10, 15, 0, 0) := by cases b <;> decide +kernel
theorem f10_15 : (15 < pm_nf tb_cl 10) ∧ tb_ft 10 15 ≠ .long ∧ pm_isR (tb_ft 10 15) = true := by decide +kernel
theorem d165_33 : decode (tb_me 165).1.2.1 33 = .ok (.aload_n 0, 1) := by decide +kernel
theorem d165_34 : decode (tb_me 165).1.2.1 34 = .ok (.getfield 147, 3) := by decide +kernel
theorem k165_147 (b : Bool) : tb_lk b 165 147 = (1, 10, 16, 0, 0) := by cases b <;> decide +kernel
theorem f10_16 : (16 < pm_nf tb_cl 10) ∧ tb_ft 10 16 ≠ .long ∧ pm_isR (tb_ft 10 16) = false := by decide +kernel
theorem d165_37 : decode (tb_me 165).1.2.1 37 = .ok (.iload_n 1, 1) := by decide +kernel
theorem d165_38 : decode (tb_me 165).1.2.1 38 = .ok (.iastore, 1) := by decide +kernel
theorem d165_39 : decode (tb_me 165).1.2.1 39 = .ok (.aload_n 0, 1) := by decide +kernel
theorem d165_40 : decode (tb_me 165).1.2.1 40 = .ok (.dup, 1) := by decide +kernel
theorem d165_41 : decode (tb_me 165).1.2.1 41 = .ok (.getfield 147, 3) := by decide +kernel
theorem d165_44 : decode (tb_me 165).1.2.1 44 = .ok (.iconst 1, 1) := by decide +kernel
theorem d165_45 : decode (tb_me 165).1.2.1 45 = .ok (.iadd, 1) := by decide +kernel
theorem d165_46 : decode (tb_me 165).1.2.1 46 = .ok (.putfield 147, 3) := by decide +kernel
theorem p165_10_16 : (16 < pm_nf tb_cl 10) ∧ tb_ft 10 16 = .int ∧ pm_fin tb_cl (tb_me 165).1.1 10 16 = true := by decide +kernel
theorem d165_49 : decode (tb_me 165).1.2.1 49 = .ok (.iconst 1, 1) := by decide +kernel
theorem d165_50 : decode (tb_me 165).1.2.1 50 = .ok (.ireturn, 1) := by decide +kernel
theorem t165 : (tb_me 165).1.2.2.2 = some .boolean := by decide +kernel
theorem d165_9 : decode (tb_me 165).1.2.1 9 = .ok (.aload_n 0, 1) := by decide +kernel
theorem d165_10 : decode (tb_me 165).1.2.1 10 = .ok (.iconst 2, 1) := by decide +kernel
theorem d165_11 : decode (tb_me 165).1.2.1 11 = .ok (.aload_n 0, 1) := by decide +kernel
theorem d165_12 : decode (tb_me 165).1.2.1 12 = .ok (.getfield 84, 3) := by decide +kernel
theorem k165_84 (b : Bool) : tb_lk b 165 84 = (1, 10, 8, 0, 0) := by cases b <;> decide +kernel
theorem d165_15 : decode (tb_me 165).1.2.1 15 = .ok (.invokevirtual 105, 3) := by decide +kernel
theorem k165_105 (b : Bool) : tb_lk b 165 105 = (2, 154, 0, 0, 0) := by cases b <;> decide +kernel
theorem d165_18 : decode (tb_me 165).1.2.1 18 = .ok (.ireturn, 1) := by decide +kernel
theorem e165 : (tb_me 165).2.1 = (0, 0) ∧ (tb_me 165).1.2.2.1 = 2 := by decide +kernel
theorem d166_0 : decode (tb_me 166).1.2.1 0 = .ok (.iload_n 0, 1) := by decide +kernel
theorem d166_1 : decode (tb_me 166).1.2.1 1 = .ok (.bipush 13, 2) := by decide +kernel
theorem d166_3 : decode (tb_me 166).1.2.1 3 = .ok (.if_icmp .ne 7, 3) := by decide +kernel
theorem d166_10 : decode (tb_me 166).1.2.1 10 = .ok (.iload_n 0, 1) := by decide +kernel
theorem d166_11 : decode (tb_me 166).1.2.1 11 = .ok (.bipush 12, 2) := by decide +kernel
theorem d166_13 : decode (tb_me 166).1.2.1 13 = .ok (.if_icmp .ne 7, 3) := by decide +kernel
theorem d166_20 : decode (tb_me 166).1.2.1 20 = .ok (.iload_n 0, 1) := by decide +kernel
theorem d166_21 : decode (tb_me 166).1.2.1 21 = .ok (.bipush 11, 2) := by decide +kernel
theorem d166_23 : decode (tb_me 166).1.2.1 23 = .ok (.if_icmp .ne 7, 3) := by decide +kernel
theorem d166_30 : decode (tb_me 166).1.2.1 30 = .ok (.iconst 0, 1) := by decide +kernel
theorem d166_31 : decode (tb_me 166).1.2.1 31 = .ok (.ireturn, 1) := by decide +kernel
theorem t166 : (tb_me 166).1.2.2.2 = some .int := by decide +kernel
theorem d166_26 : decode (tb_me 166).1.2.1 26 = .ok (.iconst 3, 1) := by decide +kernel
theorem d166_27 : decode (tb_me 166).1.2.1 27 = .ok (.goto 4, 3) := by decide +kernel
theorem d166_16 : decode (tb_me 166).1.2.1 16 = .ok (.iconst 2, 1) := by decide +kernel
theorem d166_17 : decode (tb_me 166).1.2.1 17 = .ok (.goto 14, 3) := by decide +kernel
theorem d166_6 : decode (tb_me 166).1.2.1 6 = .ok (.iconst 1, 1) := by decide +kernel
theorem d166_7 : decode (tb_me 166).1.2.1 7 = .ok (.goto 24, 3) := by decide +kernel
theorem e166 : (tb_me 166).2.1 = (0, 0) ∧ (tb_me 166).1.2.2.1 = 1 := by decide +kernel
theorem d167_0 : decode (tb_me 167).1.2.1 0 = .ok (.aload_n 0, 1) := by decide +kernel
theorem d167_1 : decode (tb_me 167).1.2.1 1 = .ok (.getfield 147, 3) := by decide +kernel
theorem k167_147 (b : Bool) : tb_lk b 167 147 = (1, 10, 16, 0, 0) := by cases b <;> decide +kernel
theorem d167_4 : decode (tb_me 167).1.2.1 4 = .ok (.ifCond .le 72, 3) := by decide +kernel
theorem d167_7 : decode (tb_me 167).1.2.1 7 = .ok (.aload_n 0, 1) := by decide +kernel
theorem d167_8 : decode (tb_me 167).1.2.1 8 = .ok (.getfield 29, 3) := by decide +kernel
theorem k167_29 (b : Bool) : tb_lk b 167 29 = (1, 10, 15, 0, 0) := by cases b <;> decide +kernel
theorem d167_11 : decode (tb_me 167).1.2.1 11 = .ok (.aload_n 0, 1) := by decide +kernel
theorem d167_12 : decode (tb_me 167).1.2.1 12 = .ok (.getfield 147, 3) := by decide +kernel
theorem d167_15 : decode (tb_me 167).1.2.1 15 = .ok (.iconst 1, 1) := by decide +kernel
theorem d167_16 : decode (tb_me 167).1.2.1 16 = .ok (.isub, 1) := by decide +kernel
theorem d167_17 : decode (tb_me 167).1.2.1 17 = .ok (.iaload, 1) := by decide +kernel
theorem d167_18 : decode (tb_me 167).1.2.1 18 = .ok (.invokestatic 150, 3) := by decide +kernel
theorem k167_150 (b : Bool) : tb_lk b 167 150 = (4, 166, 0, 0, 0) := by cases b <;> decide +kernel
theorem m166 : (tb_me 166).2 = ((0, 0), (1, 999)) ∧ (tb_me 166).1.2.2.1 = 1 := by decide +kernel
theorem d167_21 : decode (tb_me 167).1.2.1 21 = .ok (.iload_n 1, 1) := by decide +kernel
theorem d167_22 : decode (tb_me 167).1.2.1 22 = .ok (.if_icmp .lt 54, 3) := by decide +kernel
theorem d167_25 : decode (tb_me 167).1.2.1 25 = .ok (.aload_n 0, 1) := by decide +kernel
theorem d167_26 : decode (tb_me 167).1.2.1 26 = .ok (.dup, 1) := by decide +kernel
theorem d167_27 : decode (tb_me 167).1.2.1 27 = .ok (.getfield 147, 3) := by decide +kernel
theorem d167_30 : decode (tb_me 167).1.2.1 30 = .ok (.iconst 1, 1) := by decide +kernel
theorem d167_31 : decode (tb_me 167).1.2.1 31 = .ok (.isub, 1) := by decide +kernel
theorem d167_32 : decode (tb_me 167).1.2.1 32 = .ok (.putfield 147, 3) := by decide +kernel
theorem p167_10_16 : (16 < pm_nf tb_cl 10) ∧ tb_ft 10 16 = .int ∧ pm_fin tb_cl (tb_me 167).1.1 10 16 = true := by decide +kernel
theorem d167_35 : decode (tb_me 167).1.2.1 35 = .ok (.aload_n 0, 1) := by decide +kernel
theorem d167_36 : decode (tb_me 167).1.2.1 36 = .ok (.aload_n 0, 1) := by decide +kernel
theorem d167_37 : decode (tb_me 167).1.2.1 37 = .ok (.getfield 29, 3) := by decide +kernel
theorem d167_40 : decode (tb_me 167).1.2.1 40 = .ok (.aload_n 0, 1) := by decide +kernel
theorem d167_41 : decode (tb_me 167).1.2.1 41 = .ok (.getfield 147, 3) := by decide +kernel
theorem d167_44 : decode (tb_me 167).1.2.1 44 = .ok (.iaload, 1) := by decide +kernel
theorem d167_45 : decode (tb_me 167).1.2.1 45 = .ok (.iconst 0, 1) := by decide +kernel
theorem d167_46 : decode (tb_me 167).1.2.1 46 = .ok (.invokevirtual 154, 3) := by decide +kernel
theorem k167_154 (b : Bool) : tb_lk b 167 154 = (2, 163, 0, 0, 0) := by cases b <;> decide +kernel
theorem m163 : (tb_me 163).2 = ((0, 0), (2, 10)) ∧ (tb_me 163).1.2.2.1 = 3 := by decide +kernel
theorem d167_49 : decode (tb_me 167).1.2.1 49 = .ok (.aload_n 0, 1) := by decide +kernel
theorem d167_50 : decode (tb_me 167).1.2.1 50 = .ok (.getfield 29, 3) := by decide +kernel
theorem d167_53 : decode (tb_me 167).1.2.1 53 = .ok (.aload_n 0, 1) := by decide +kernel
theorem d167_54 : decode (tb_me 167).1.2.1 54 = .ok (.getfield 147, 3) := by decide +kernel
theorem d167_57 : decode (tb_me 167).1.2.1 57 = .ok (.iaload, 1) := by decide +kernel
theorem d167_58 : decode (tb_me 167).1.2.1 58 = .ok (.bipush 11, 2) := by decide +kernel
theorem d167_60 : decode (tb_me 167).1.2.1 60 = .ok (.if_icmp .ne (-60), 3) := by decide +kernel
theorem d167_63 : decode (tb_me 167).1.2.1 63 = .ok (.aload_n 0, 1) := by decide +kernel
theorem d167_64 : decode (tb_me 167).1.2.1 64 = .ok (.dup, 1) := by decide +kernel
theorem d167_65 : decode (tb_me 167).1.2.1 65 = .ok (.getfield 144, 3) := by decide +kernel
theorem k167_144 (b : Bool) : tb_lk b 167 144 = (1, 10, 13, 0, 0) := by cases b <;> decide +kernel
theorem d167_68 : decode (tb_me 167).1.2.1 68 = .ok (.iconst 1, 1) := by decide +kernel
theorem d167_69 : decode (tb_me 167).1.2.1 69 = .ok (.isub, 1) := by decide +kernel
theorem d167_70 : decode (tb_me 167).1.2.1 70 = .ok (.putfield 144, 3) := by decide +kernel
theorem p167_10_13 : (13 < pm_nf tb_cl 10) ∧ tb_ft 10 13 = .int ∧ pm_fin tb_cl (tb_me 167).1.1 10 13 = true := by decide +kernel
theorem d167_73 : decode (tb_me 167).1.2.1 73 = .ok (.goto (-73), 3) := by decide +kernel
theorem d167_76 : decode (tb_me 167).1.2.1 76 = .ok (.return_, 1) := by decide +kernel
theorem t167 : (tb_me 167).1.2.2.2 = none := by decide +kernel
theorem e167 : (tb_me 167).2.1 = (0, 0) ∧ (tb_me 167).1.2.2.1 = 2 := by decide +kernel
theorem d168_0 : decode (tb_me 168).1.2.1 0 = .ok (.aload_n 0, 1) := by decide +kernel
theorem d168_1 : decode (tb_me 168).1.2.1 1 = .ok (.invokevirtual 87, 3) := by decide +kernel
theorem k168_87 (b : Bool) : tb_lk b 168 87 = (2, 155, 0, 0, 0) := by cases b <;> decide +kernel
theorem d168_4 : decode (tb_me 168).1.2.1 4 = .ok (.pop, 1) := by decide +kernel
theorem d168_5 : decode (tb_me 168).1.2.1 5 = .ok (.aload_n 0, 1) := by decide +kernel
theorem d168_6 : decode (tb_me 168).1.2.1 6 = .ok (.getfield 84, 3) := by decide +kernel
theorem k168_84 (b : Bool) : tb_lk b 168 84 = (1, 10, 8, 0, 0) := by cases b <;> decide +kernel
theorem d168_9 : decode (tb_me 168).1.2.1 9 = .ok (.istore_n 1, 1) := by decide +kernel
theorem d168_10 : decode (tb_me 168).1.2.1 10 = .ok (.aload_n 0, 1) := by decide +kernel
theorem d168_11 : decode (tb_me 168).1.2.1 11 = .ok (.aload_n 0, 1) := by decide +kernel
theorem d168_12 : decode (tb_me 168).1.2.1 12 = .ok (.getfield 84, 3) := by decide +kernel
theorem d168_15 : decode (tb_me 168).1.2.1 15 = .ok (.invokevirtual 102, 3) := by decide +kernel
theorem k168_102 (b : Bool) : tb_lk b 168 102 = (2, 156, 0, 0, 0) := by cases b <;> decide +kernel
theorem d168_18 : decode (tb_me 168).1.2.1 18 = .ok (.ifCond .eq 34, 3) := by decide +kernel
theorem d168_52 : decode (tb_me 168).1.2.1 52 = .ok (.aload_n 0, 1) := by decide +kernel
theorem d168_53 : decode (tb_me 168).1.2.1 53 = .ok (.invokevirtual 165, 3) := by decide +kernel
theorem k168_165 (b : Bool) : tb_lk b 168 165 = (2, 162, 0, 0, 0) := by cases b <;> decide +kernel
theorem m162 : (tb_me 162).2 = ((0, 0), (0, 10)) ∧ (tb_me 162).1.2.2.1 = 1 := by decide +kernel
theorem d168_56 : decode (tb_me 168).1.2.1 56 = .ok (.istore_n 2, 1) := by decide +kernel
theorem d168_57 : decode (tb_me 168).1.2.1 57 = .ok (.iload_n 2, 1) := by decide +kernel
theorem d168_58 : decode (tb_me 168).1.2.1 58 = .ok (.ifCond .ge 10, 3) := by decide +kernel
theorem d168_68 : decode (tb_me 168).1.2.1 68 = .ok (.aload_n 0, 1) := by decide +kernel
theorem d168_69 : decode (tb_me 168).1.2.1 69 = .ok (.iload_n 1, 1) := by decide +kernel
theorem d168_70 : decode (tb_me 168).1.2.1 70 = .ok (.invokevirtual 162, 3) := by decide +kernel
theorem k168_162 (b : Bool) : tb_lk b 168 162 = (2, 164, 0, 0, 0) := by cases b <;> decide +kernel
theorem m164 : (tb_me 164).2 = ((0, 0), (1, 10)) ∧ (tb_me 164).1.2.2.1 = 2 := by decide +kernel
theorem d168_73 : decode (tb_me 168).1.2.1 73 = .ok (.ifCond .ne 5, 3) := by decide +kernel
theorem d168_78 : decode (tb_me 168).1.2.1 78 = .ok (.aload_n 0, 1) := by decide +kernel
theorem d168_79 : decode (tb_me 168).1.2.1 79 = .ok (.invokevirtual 99, 3) := by decide +kernel
theorem k168_99 (b : Bool) : tb_lk b 168 99 = (2, 159, 0, 0, 0) := by cases b <;> decide +kernel
theorem d168_82 : decode (tb_me 168).1.2.1 82 = .ok (.aload_n 0, 1) := by decide +kernel
theorem d168_83 : decode (tb_me 168).1.2.1 83 = .ok (.iconst 1, 1) := by decide +kernel
theorem d168_84 : decode (tb_me 168).1.2.1 84 = .ok (.iload_n 2, 1) := by decide +kernel
theorem d168_85 : decode (tb_me 168).1.2.1 85 = .ok (.invokevirtual 154, 3) := by decide +kernel
theorem k168_154 (b : Bool) : tb_lk b 168 154 = (2, 163, 0, 0, 0) := by cases b <;> decide +kernel
theorem d168_88 : decode (tb_me 168).1.2.1 88 = .ok (.iconst 1, 1) := by decide +kernel
theorem d168_89 : decode (tb_me 168).1.2.1 89 = .ok (.ireturn, 1) := by decide +kernel
theorem t168 : (tb_me 168).1.2.2.2 = some .boolean := by decide +kernel
theorem d168_76 : decode (tb_me 168).1.2.1 76 = .ok (.iconst 0, 1) := by decide +kernel
theorem d168_77 : decode (tb_me 168).1.2.1 77 = .ok (.ireturn, 1) := by decide +kernel
theorem d168_61 : decode (tb_me 168).1.2.1 61 = .ok (.aload_n 0, 1) := by decide +kernel
theorem d168_62 : decode (tb_me 168).1.2.1 62 = .ok (.iconst 0, 1) := by decide +kernel
theorem d168_63 : decode (tb_me 168).1.2.1 63 = .ok (.iload_n 1, 1) := by decide +kernel
theorem d168_64 : decode (tb_me 168).1.2.1 64 = .ok (.invokevirtual 105, 3) := by decide +kernel
theorem k168_105 (b : Bool) : tb_lk b 168 105 = (2, 154, 0, 0, 0) := by cases b <;> decide +kernel
theorem d168_67 : decode (tb_me 168).1.2.1 67 = .ok (.ireturn, 1) := by decide +kernel
theorem d168_21 : decode (tb_me 168).1.2.1 21 = .ok (.aload_n 0, 1) := by decide +kernel
theorem d168_22 : decode (tb_me 168).1.2.1 22 = .ok (.iconst 0, 1) := by decide +kernel
theorem d168_23 : decode (tb_me 168).1.2.1 23 = .ok (.ldc 158, 2) := by decide +kernel
theorem k168_158 (b : Bool) : tb_lk b 168 158 = (11, 0, 0, 99999, 0) := by cases b <;> decide +kernel
theorem d168_25 : decode (tb_me 168).1.2.1 25 = .ok (.invokevirtual 159, 3) := by decide +kernel
theorem k168_159 (b : Bool) : tb_lk b 168 159 = (2, 161, 0, 0, 0) := by cases b <;> decide +kernel
theorem m161 : (tb_me 161).2 = ((0, 0), (2, 10)) ∧ (tb_me 161).1.2.2.1 = 5 := by decide +kernel
theorem d168_28 : decode (tb_me 168).1.2.1 28 = .ok (.ifCond .eq 11, 3) := by decide +kernel
theorem d168_39 : decode (tb_me 168).1.2.1 39 = .ok (.iconst 0, 1) := by decide +kernel
theorem d168_40 : decode (tb_me 168).1.2.1 40 = .ok (.ireturn, 1) := by decide +kernel
theorem d168_31 : decode (tb_me 168).1.2.1 31 = .ok (.aload_n 0, 1) := by decide +kernel
theorem d168_32 : decode (tb_me 168).1.2.1 32 = .ok (.iload_n 1, 1) := by decide +kernel
theorem d168_33 : decode (tb_me 168).1.2.1 33 = .ok (.invokevirtual 162, 3) := by decide +kernel
theorem d168_36 : decode (tb_me 168).1.2.1 36 = .ok (.ifCond .ne 5, 3) := by decide +kernel
theorem d168_41 : decode (tb_me 168).1.2.1 41 = .ok (.aload_n 0, 1) := by decide +kernel
theorem d168_42 : decode (tb_me 168).1.2.1 42 = .ok (.iconst 0, 1) := by decide +kernel
theorem d168_43 : decode (tb_me 168).1.2.1 43 = .ok (.aload_n 0, 1) := by decide +kernel
theorem d168_44 : decode (tb_me 168).1.2.1 44 = .ok (.getfield 109, 3) := by decide +kernel
theorem k168_109 (b : Bool) : tb_lk b 168 109 = (1, 10, 10, 0, 0) := by cases b <;> decide +kernel
theorem f10_10 : (10 < pm_nf tb_cl 10) ∧ tb_ft 10 10 ≠ .long ∧ pm_isR (tb_ft 10 10) = false := by decide +kernel
theorem d168_47 : decode (tb_me 168).1.2.1 47 = .ok (.invokevirtual 154, 3) := by decide +kernel
theorem d168_50 : decode (tb_me 168).1.2.1 50 = .ok (.iconst 1, 1) := by decide +kernel
theorem d168_51 : decode (tb_me 168).1.2.1 51 = .ok (.ireturn, 1) := by decide +kernel
theorem e168 : (tb_me 168).2.1 = (0, 0) ∧ (tb_me 168).1.2.2.1 = 3 := by decide +kernel
theorem d169_74 : decode (tb_me 169).1.2.1 74 = .ok (.istore_n 1, 1) := by decide +kernel
theorem d169_75 : decode (tb_me 169).1.2.1 75 = .ok (.aload_n 0, 1) := by decide +kernel
theorem d169_76 : decode (tb_me 169).1.2.1 76 = .ok (.dup, 1) := by decide +kernel
theorem d169_77 : decode (tb_me 169).1.2.1 77 = .ok (.getfield 84, 3) := by decide +kernel
theorem k169_84 (b : Bool) : tb_lk b 169 84 = (1, 10, 8, 0, 0) := by cases b <;> decide +kernel
theorem d169_80 : decode (tb_me 169).1.2.1 80 = .ok (.iconst 1, 1) := by decide +kernel
theorem d169_81 : decode (tb_me 169).1.2.1 81 = .ok (.iadd, 1) := by decide +kernel
theorem d169_82 : decode (tb_me 169).1.2.1 82 = .ok (.putfield 84, 3) := by decide +kernel
theorem p169_10_8 : (8 < pm_nf tb_cl 10) ∧ tb_ft 10 8 = .int ∧ pm_fin tb_cl (tb_me 169).1.1 10 8 = true := by decide +kernel
theorem d169_85 : decode (tb_me 169).1.2.1 85 = .ok (.aload_n 0, 1) := by decide +kernel
theorem d169_86 : decode (tb_me 169).1.2.1 86 = .ok (.invokevirtual 168, 3) := by decide +kernel
theorem k169_168 (b : Bool) : tb_lk b 169 168 = (2, 168, 0, 0, 0) := by cases b <;> decide +kernel
theorem m168 : (tb_me 168).2 = ((0, 0), (0, 10)) ∧ (tb_me 168).1.2.2.1 = 3 := by decide +kernel
theorem d169_89 : decode (tb_me 169).1.2.1 89 = .ok (.ifCond .ne 5, 3) := by decide +kernel
theorem d169_94 : decode (tb_me 169).1.2.1 94 = .ok (.aload_n 0, 1) := by decide +kernel
theorem d169_95 : decode (tb_me 169).1.2.1 95 = .ok (.iload_n 1, 1) := by decide +kernel
theorem d169_96 : decode (tb_me 169).1.2.1 96 = .ok (.iconst 0, 1) := by decide +kernel
theorem d169_97 : decode (tb_me 169).1.2.1 97 = .ok (.invokevirtual 154, 3) := by decide +kernel
theorem k169_154 (b : Bool) : tb_lk b 169 154 = (2, 163, 0, 0, 0) := by cases b <;> decide +kernel
theorem d169_100 : decode (tb_me 169).1.2.1 100 = .ok (.goto (-91), 3) := by decide +kernel
theorem d169_36 : decode (tb_me 169).1.2.1 36 = .ok (.aload_n 0, 1) := by decide +kernel
theorem d169_37 : decode (tb_me 169).1.2.1 37 = .ok (.getfield 7, 3) := by decide +kernel
theorem k169_7 (b : Bool) : tb_lk b 169 7 = (1, 10, 0, 0, 0) := by cases b <;> decide +kernel
theorem d169_40 : decode (tb_me 169).1.2.1 40 = .ok (.aload_n 0, 1) := by decide +kernel
theorem d169_41 : decode (tb_me 169).1.2.1 41 = .ok (.getfield 84, 3) := by decide +kernel
theorem d169_44 : decode (tb_me 169).1.2.1 44 = .ok (.baload, 1) := by decide +kernel
theorem d169_45 : decode (tb_me 169).1.2.1 45 = .ok (.bipush 42, 2) := by decide +kernel
theorem d169_47 : decode (tb_me 169).1.2.1 47 = .ok (.if_icmp .ne 7, 3) := by decide +kernel
theorem d169_54 : decode (tb_me 169).1.2.1 54 = .ok (.aload_n 0, 1) := by decide +kernel
theorem d169_55 : decode (tb_me 169).1.2.1 55 = .ok (.getfield 7, 3) := by decide +kernel
theorem d169_58 : decode (tb_me 169).1.2.1 58 = .ok (.aload_n 0, 1) := by decide +kernel
theorem d169_59 : decode (tb_me 169).1.2.1 59 = .ok (.getfield 84, 3) := by decide +kernel
theorem d169_62 : decode (tb_me 169).1.2.1 62 = .ok (.baload, 1) := by decide +kernel
theorem d169_63 : decode (tb_me 169).1.2.1 63 = .ok (.bipush 47, 2) := by decide +kernel
theorem d169_65 : decode (tb_me 169).1.2.1 65 = .ok (.if_icmp .ne 7, 3) := by decide +kernel
theorem d169_72 : decode (tb_me 169).1.2.1 72 = .ok (.bipush 14, 2) := by decide +kernel
theorem d169_68 : decode (tb_me 169).1.2.1 68 = .ok (.iconst 5, 1) := by decide +kernel
theorem d169_69 : decode (tb_me 169).1.2.1 69 = .ok (.goto 5, 3) := by decide +kernel
theorem d169_50 : decode (tb_me 169).1.2.1 50 = .ok (.iconst 4, 1) := by decide +kernel
theorem d169_51 : decode (tb_me 169).1.2.1 51 = .ok (.goto 23, 3) := by decide +kernel
theorem d169_9 : decode (tb_me 169).1.2.1 9 = .ok (.aload_n 0, 1) := by decide +kernel
theorem d169_10 : decode (tb_me 169).1.2.1 10 = .ok (.invokevirtual 87, 3) := by decide +kernel
theorem k169_87 (b : Bool) : tb_lk b 169 87 = (2, 155, 0, 0, 0) := by cases b <;> decide +kernel
theorem d169_13 : decode (tb_me 169).1.2.1 13 = .ok (.bipush 42, 2) := by decide +kernel
theorem d169_15 : decode (tb_me 169).1.2.1 15 = .ok (.if_icmp .eq 21, 3) := by decide +kernel
theorem d169_18 : decode (tb_me 169).1.2.1 18 = .ok (.aload_n 0, 1) := by decide +kernel
theorem d169_19 : decode (tb_me 169).1.2.1 19 = .ok (.invokevirtual 87, 3) := by decide +kernel
theorem d169_22 : decode (tb_me 169).1.2.1 22 = .ok (.bipush 47, 2) := by decide +kernel
theorem d169_24 : decode (tb_me 169).1.2.1 24 = .ok (.if_icmp .eq 12, 3) := by decide +kernel
theorem d169_27 : decode (tb_me 169).1.2.1 27 = .ok (.aload_n 0, 1) := by decide +kernel
theorem d169_28 : decode (tb_me 169).1.2.1 28 = .ok (.invokevirtual 87, 3) := by decide +kernel
theorem d169_31 : decode (tb_me 169).1.2.1 31 = .ok (.bipush 37, 2) := by decide +kernel
theorem d169_33 : decode (tb_me 169).1.2.1 33 = .ok (.if_icmp .ne 70, 3) := by decide +kernel
theorem d169_0 : decode (tb_me 169).1.2.1 0 = .ok (.aload_n 0, 1) := by decide +kernel
theorem d169_1 : decode (tb_me 169).1.2.1 1 = .ok (.invokevirtual 168, 3) := by decide +kernel
theorem d169_4 : decode (tb_me 169).1.2.1 4 = .ok (.ifCond .ne 5, 3) := by decide +kernel
theorem d169_92 : decode (tb_me 169).1.2.1 92 = .ok (.iconst 0, 1) := by decide +kernel
theorem d169_93 : decode (tb_me 169).1.2.1 93 = .ok (.ireturn, 1) := by decide +kernel
theorem t169 : (tb_me 169).1.2.2.2 = some .boolean := by decide +kernel
theorem d169_103 : decode (tb_me 169).1.2.1 103 = .ok (.iconst 1, 1) := by decide +kernel
theorem d169_104 : decode (tb_me 169).1.2.1 104 = .ok (.ireturn, 1) := by decide +kernel
theorem d169_7 : decode (tb_me 169).1.2.1 7 = .ok (.iconst 0, 1) := by decide +kernel
theorem d169_8 : decode (tb_me 169).1.2.1 8 = .ok (.ireturn, 1) := by decide +kernel
theorem e169 : (tb_me 169).2.1 = (0, 0) ∧ (tb_me 169).1.2.2.1 = 2 := by decide +kernel
theorem d170_46 : decode (tb_me 170).1.2.1 46 = .ok (.istore_n 1, 1) := by decide +kernel
theorem d170_47 : decode (tb_me 170).1.2.1 47 = .ok (.aload_n 0, 1) := by decide +kernel
theorem d170_48 : decode (tb_me 170).1.2.1 48 = .ok (.dup, 1) := by decide +kernel
theorem d170_49 : decode (tb_me 170).1.2.1 49 = .ok (.getfield 84, 3) := by decide +kernel
theorem k170_84 (b : Bool) : tb_lk b 170 84 = (1, 10, 8, 0, 0) := by cases b <;> decide +kernel
theorem d170_52 : decode (tb_me 170).1.2.1 52 = .ok (.iconst 1, 1) := by decide +kernel
theorem d170_53 : decode (tb_me 170).1.2.1 53 = .ok (.iadd, 1) := by decide +kernel
theorem d170_54 : decode (tb_me 170).1.2.1 54 = .ok (.putfield 84, 3) := by decide +kernel
theorem p170_10_8 : (8 < pm_nf tb_cl 10) ∧ tb_ft 10 8 = .int ∧ pm_fin tb_cl (tb_me 170).1.1 10 8 = true := by decide +kernel
theorem d170_57 : decode (tb_me 170).1.2.1 57 = .ok (.aload_n 0, 1) := by decide +kernel
theorem d170_58 : decode (tb_me 170).1.2.1 58 = .ok (.invokevirtual 172, 3) := by decide +kernel
theorem k170_172 (b : Bool) : tb_lk b 170 172 = (2, 169, 0, 0, 0) := by cases b <;> decide +kernel
theorem m169 : (tb_me 169).2 = ((0, 0), (0, 10)) ∧ (tb_me 169).1.2.2.1 = 2 := by decide +kernel
theorem d170_61 : decode (tb_me 170).1.2.1 61 = .ok (.ifCond .ne 5, 3) := by decide +kernel
theorem d170_66 : decode (tb_me 170).1.2.1 66 = .ok (.aload_n 0, 1) := by decide +kernel
theorem d170_67 : decode (tb_me 170).1.2.1 67 = .ok (.iload_n 1, 1) := by decide +kernel
theorem d170_68 : decode (tb_me 170).1.2.1 68 = .ok (.iconst 0, 1) := by decide +kernel
theorem d170_69 : decode (tb_me 170).1.2.1 69 = .ok (.invokevirtual 154, 3) := by decide +kernel
theorem k170_154 (b : Bool) : tb_lk b 170 154 = (2, 163, 0, 0, 0) := by cases b <;> decide +kernel
theorem d170_72 : decode (tb_me 170).1.2.1 72 = .ok (.goto (-63), 3) := by decide +kernel
theorem d170_27 : decode (tb_me 170).1.2.1 27 = .ok (.aload_n 0, 1) := by decide +kernel
theorem d170_28 : decode (tb_me 170).1.2.1 28 = .ok (.getfield 7, 3) := by decide +kernel
theorem k170_7 (b : Bool) : tb_lk b 170 7 = (1, 10, 0, 0, 0) := by cases b <;> decide +kernel
theorem d170_31 : decode (tb_me 170).1.2.1 31 = .ok (.aload_n 0, 1) := by decide +kernel
theorem d170_32 : decode (tb_me 170).1.2.1 32 = .ok (.getfield 84, 3) := by decide +kernel
theorem d170_35 : decode (tb_me 170).1.2.1 35 = .ok (.baload, 1) := by decide +kernel
theorem d170_36 : decode (tb_me 170).1.2.1 36 = .ok (.bipush 43, 2) := by decide +kernel
theorem d170_38 : decode (tb_me 170).1.2.1 38 = .ok (.if_icmp .ne 7, 3) := by decide +kernel
theorem d170_45 : decode (tb_me 170).1.2.1 45 = .ok (.iconst 3, 1) := by decide +kernel
theorem d170_41 : decode (tb_me 170).1.2.1 41 = .ok (.iconst 2, 1) := by decide +kernel
theorem d170_42 : decode (tb_me 170).1.2.1 42 = .ok (.goto 4, 3) := by decide +kernel
theorem d170_9 : decode (tb_me 170).1.2.1 9 = .ok (.aload_n 0, 1) := by decide +kernel
theorem d170_10 : decode (tb_me 170).1.2.1 10 = .ok (.invokevirtual 87, 3) := by decide +kernel
theorem k170_87 (b : Bool) : tb_lk b 170 87 = (2, 155, 0, 0, 0) := by cases b <;> decide +kernel
theorem d170_13 : decode (tb_me 170).1.2.1 13 = .ok (.bipush 43, 2) := by decide +kernel
theorem d170_15 : decode (tb_me 170).1.2.1 15 = .ok (.if_icmp .eq 12, 3) := by decide +kernel
theorem d170_18 : decode (tb_me 170).1.2.1 18 = .ok (.aload_n 0, 1) := by decide +kernel
theorem d170_19 : decode (tb_me 170).1.2.1 19 = .ok (.invokevirtual 87, 3) := by decide +kernel
theorem d170_22 : decode (tb_me 170).1.2.1 22 = .ok (.bipush 45, 2) := by decide +kernel
theorem d170_24 : decode (tb_me 170).1.2.1 24 = .ok (.if_icmp .ne 51, 3) := by decide +kernel
theorem d170_0 : decode (tb_me 170).1.2.1 0 = .ok (.aload_n 0, 1) := by decide +kernel
theorem d170_1 : decode (tb_me 170).1.2.1 1 = .ok (.invokevirtual 172, 3) := by decide +kernel
theorem d170_4 : decode (tb_me 170).1.2.1 4 = .ok (.ifCond .ne 5, 3) := by decide +kernel
theorem d170_64 : decode (tb_me 170).1.2.1 64 = .ok (.iconst 0, 1) := by decide +kernel
theorem d170_65 : decode (tb_me 170).1.2.1 65 = .ok (.ireturn, 1) := by decide +kernel
theorem t170 : (tb_me 170).1.2.2.2 = some .boolean := by decide +kernel
theorem d170_75 : decode (tb_me 170).1.2.1 75 = .ok (.iconst 1, 1) := by decide +kernel
theorem d170_76 : decode (tb_me 170).1.2.1 76 = .ok (.ireturn, 1) := by decide +kernel
theorem d170_7 : decode (tb_me 170).1.2.1 7 = .ok (.iconst 0, 1) := by decide +kernel
theorem d170_8 : decode (tb_me 170).1.2.1 8 = .ok (.ireturn, 1) := by decide +kernel
theorem e170 : (tb_me 170).2.1 = (0, 0) ∧ (tb_me 170).1.2.2.1 = 2 := by decide +kernel
theorem d171_152 : decode (tb_me 171).1.2.1 152 = .ok (.istore 4, 2) := by decide +kernel
theorem d171_154 : decode (tb_me 171).1.2.1 154 = .ok (.aload_n 0, 1) := by decide +kernel
theorem d171_155 : decode (tb_me 171).1.2.1 155 = .ok (.invokevirtual 175, 3) := by decide +kernel
theorem k171_175 (b : Bool) : tb_lk b 171 175 = (2, 170, 0, 0, 0) := by cases b <;> decide +kernel
theorem m170 : (tb_me 170).2 = ((0, 0), (0, 10)) ∧ (tb_me 170).1.2.2.1 = 2 := by decide +kernel
theorem d171_158 : decode (tb_me 171).1.2.1 158 = .ok (.ifCond .ne 5, 3) := by decide +kernel
theorem d171_163 : decode (tb_me 171).1.2.1 163 = .ok (.aload_n 0, 1) := by decide +kernel
theorem d171_164 : decode (tb_me 171).1.2.1 164 = .ok (.bipush 6, 2) := by decide +kernel
theorem d171_166 : decode (tb_me 171).1.2.1 166 = .ok (.iload 4, 2) := by decide +kernel
theorem d171_168 : decode (tb_me 171).1.2.1 168 = .ok (.iadd, 1) := by decide +kernel
theorem d171_169 : decode (tb_me 171).1.2.1 169 = .ok (.iconst 0, 1) := by decide +kernel
theorem d171_170 : decode (tb_me 171).1.2.1 170 = .ok (.invokevirtual 154, 3) := by decide +kernel
theorem k171_154 (b : Bool) : tb_lk b 171 154 = (2, 163, 0, 0, 0) := by cases b <;> decide +kernel
theorem d171_173 : decode (tb_me 171).1.2.1 173 = .ok (.iconst 1, 1) := by decide +kernel
theorem d171_174 : decode (tb_me 171).1.2.1 174 = .ok (.ireturn, 1) := by decide +kernel
theorem t171 : (tb_me 171).1.2.2.2 = some .boolean := by decide +kernel
theorem d171_161 : decode (tb_me 171).1.2.1 161 = .ok (.iconst 0, 1) := by decide +kernel
theorem d171_162 : decode (tb_me 171).1.2.1 162 = .ok (.ireturn, 1) := by decide +kernel
theorem d171_105 : decode (tb_me 171).1.2.1 105 = .ok (.aload_n 0, 1) := by decide +kernel
theorem d171_106 : decode (tb_me 171).1.2.1 106 = .ok (.iload_n 2, 1) := by decide +kernel
theorem d171_107 : decode (tb_me 171).1.2.1 107 = .ok (.invokevirtual 162, 3) := by decide +kernel
theorem k171_162 (b : Bool) : tb_lk b 171 162 = (2, 164, 0, 0, 0) := by cases b <;> decide +kernel
theorem d171_110 : decode (tb_me 171).1.2.1 110 = .ok (.ifCond .ne 5, 3) := by decide +kernel
theorem d171_115 : decode (tb_me 171).1.2.1 115 = .ok (.iload_n 1, 1) := by decide +kernel
theorem d171_116 : decode (tb_me 171).1.2.1 116 = .ok (.bipush 60, 2) := by decide +kernel
theorem d171_118 : decode (tb_me 171).1.2.1 118 = .ok (.if_icmp .ne 15, 3) := by decide +kernel
theorem d171_133 : decode (tb_me 171).1.2.1 133 = .ok (.iload_n 1, 1) := by decide +kernel
theorem d171_134 : decode (tb_me 171).1.2.1 134 = .ok (.bipush 61, 2) := by decide +kernel
theorem d171_136 : decode (tb_me 171).1.2.1 136 = .ok (.if_icmp .ne 7, 3) := by decide +kernel
theorem d171_143 : decode (tb_me 171).1.2.1 143 = .ok (.iload_n 3, 1) := by decide +kernel
theorem d171_144 : decode (tb_me 171).1.2.1 144 = .ok (.ifCond .eq 7, 3) := by decide +kernel
theorem d171_151 : decode (tb_me 171).1.2.1 151 = .ok (.iconst 4, 1) := by decide +kernel
theorem d171_147 : decode (tb_me 171).1.2.1 147 = .ok (.iconst 3, 1) := by decide +kernel
theorem d171_148 : decode (tb_me 171).1.2.1 148 = .ok (.goto 4, 3) := by decide +kernel
theorem d171_139 : decode (tb_me 171).1.2.1 139 = .ok (.iconst 2, 1) := by decide +kernel
theorem d171_140 : decode (tb_me 171).1.2.1 140 = .ok (.goto 12, 3) := by decide +kernel
theorem d171_121 : decode (tb_me 171).1.2.1 121 = .ok (.iload_n 3, 1) := by decide +kernel
theorem d171_122 : decode (tb_me 171).1.2.1 122 = .ok (.ifCond .eq 7, 3) := by decide +kernel
theorem d171_129 : decode (tb_me 171).1.2.1 129 = .ok (.iconst 0, 1) := by decide +kernel
theorem d171_130 : decode (tb_me 171).1.2.1 130 = .ok (.goto 22, 3) := by decide +kernel
theorem d171_125 : decode (tb_me 171).1.2.1 125 = .ok (.iconst 1, 1) := by decide +kernel
theorem d171_126 : decode (tb_me 171).1.2.1 126 = .ok (.goto 26, 3) := by decide +kernel
theorem d171_113 : decode (tb_me 171).1.2.1 113 = .ok (.iconst 0, 1) := by decide +kernel
theorem d171_114 : decode (tb_me 171).1.2.1 114 = .ok (.ireturn, 1) := by decide +kernel
theorem d171_90 : decode (tb_me 171).1.2.1 90 = .ok (.istore_n 3, 1) := by decide +kernel
theorem d171_91 : decode (tb_me 171).1.2.1 91 = .ok (.iload_n 3, 1) := by decide +kernel
theorem d171_92 : decode (tb_me 171).1.2.1 92 = .ok (.ifCond .eq 13, 3) := by decide +kernel
theorem d171_95 : decode (tb_me 171).1.2.1 95 = .ok (.aload_n 0, 1) := by decide +kernel
theorem d171_96 : decode (tb_me 171).1.2.1 96 = .ok (.dup, 1) := by decide +kernel
theorem d171_97 : decode (tb_me 171).1.2.1 97 = .ok (.getfield 84, 3) := by decide +kernel
theorem k171_84 (b : Bool) : tb_lk b 171 84 = (1, 10, 8, 0, 0) := by cases b <;> decide +kernel
theorem d171_100 : decode (tb_me 171).1.2.1 100 = .ok (.iconst 1, 1) := by decide +kernel
theorem d171_101 : decode (tb_me 171).1.2.1 101 = .ok (.iadd, 1) := by decide +kernel
theorem d171_102 : decode (tb_me 171).1.2.1 102 = .ok (.putfield 84, 3) := by decide +kernel
theorem p171_10_8 : (8 < pm_nf tb_cl 10) ∧ tb_ft 10 8 = .int ∧ pm_fin tb_cl (tb_me 171).1.1 10 8 = true := by decide +kernel
theorem d171_44 : decode (tb_me 171).1.2.1 44 = .ok (.aload_n 0, 1) := by decide +kernel
theorem d171_45 : decode (tb_me 171).1.2.1 45 = .ok (.dup, 1) := by decide +kernel
theorem d171_46 : decode (tb_me 171).1.2.1 46 = .ok (.getfield 84, 3) := by decide +kernel
theorem d171_49 : decode (tb_me 171).1.2.1 49 = .ok (.iconst 1, 1) := by decide +kernel
theorem d171_50 : decode (tb_me 171).1.2.1 50 = .ok (.iadd, 1) := by decide +kernel
theorem d171_51 : decode (tb_me 171).1.2.1 51 = .ok (.putfield 84, 3) := by decide +kernel
theorem d171_54 : decode (tb_me 171).1.2.1 54 = .ok (.iload_n 1, 1) := by decide +kernel
theorem d171_55 : decode (tb_me 171).1.2.1 55 = .ok (.bipush 61, 2) := by decide +kernel
theorem d171_57 : decode (tb_me 171).1.2.1 57 = .ok (.if_icmp .eq 32, 3) := by decide +kernel
theorem d171_89 : decode (tb_me 171).1.2.1 89 = .ok (.iconst 0, 1) := by decide +kernel
theorem d171_60 : decode (tb_me 171).1.2.1 60 = .ok (.aload_n 0, 1) := by decide +kernel
theorem d171_61 : decode (tb_me 171).1.2.1 61 = .ok (.getfield 84, 3) := by decide +kernel
theorem d171_64 : decode (tb_me 171).1.2.1 64 = .ok (.aload_n 0, 1) := by decide +kernel
theorem d171_65 : decode (tb_me 171).1.2.1 65 = .ok (.getfield 73, 3) := by decide +kernel
theorem k171_73 (b : Bool) : tb_lk b 171 73 = (1, 10, 1, 0, 0) := by cases b <;> decide +kernel
theorem d171_68 : decode (tb_me 171).1.2.1 68 = .ok (.if_icmp .ge 21, 3) := by decide +kernel
theorem d171_71 : decode (tb_me 171).1.2.1 71 = .ok (.aload_n 0, 1) := by decide +kernel
theorem d171_72 : decode (tb_me 171).1.2.1 72 = .ok (.getfield 7, 3) := by decide +kernel
theorem k171_7 (b : Bool) : tb_lk b 171 7 = (1, 10, 0, 0, 0) := by cases b <;> decide +kernel
theorem d171_75 : decode (tb_me 171).1.2.1 75 = .ok (.aload_n 0, 1) := by decide +kernel
theorem d171_76 : decode (tb_me 171).1.2.1 76 = .ok (.getfield 84, 3) := by decide +kernel
theorem d171_79 : decode (tb_me 171).1.2.1 79 = .ok (.baload, 1) := by decide +kernel
theorem d171_80 : decode (tb_me 171).1.2.1 80 = .ok (.bipush 61, 2) := by decide +kernel
theorem d171_82 : decode (tb_me 171).1.2.1 82 = .ok (.if_icmp .ne 7, 3) := by decide +kernel
theorem d171_85 : decode (tb_me 171).1.2.1 85 = .ok (.iconst 1, 1) := by decide +kernel
theorem d171_86 : decode (tb_me 171).1.2.1 86 = .ok (.goto 4, 3) := by decide +kernel
theorem d171_0 : decode (tb_me 171).1.2.1 0 = .ok (.aload_n 0, 1) := by decide +kernel
theorem d171_1 : decode (tb_me 171).1.2.1 1 = .ok (.invokevirtual 175, 3) := by decide +kernel
theorem d171_4 : decode (tb_me 171).1.2.1 4 = .ok (.ifCond .ne 5, 3) := by decide +kernel
theorem d171_9 : decode (tb_me 171).1.2.1 9 = .ok (.aload_n 0, 1) := by decide +kernel
theorem d171_10 : decode (tb_me 171).1.2.1 10 = .ok (.invokevirtual 87, 3) := by decide +kernel
theorem k171_87 (b : Bool) : tb_lk b 171 87 = (2, 155, 0, 0, 0) := by cases b <;> decide +kernel
theorem d171_13 : decode (tb_me 171).1.2.1 13 = .ok (.istore_n 1, 1) := by decide +kernel
theorem d171_14 : decode (tb_me 171).1.2.1 14 = .ok (.aload_n 0, 1) := by decide +kernel
theorem d171_15 : decode (tb_me 171).1.2.1 15 = .ok (.getfield 84, 3) := by decide +kernel
theorem d171_18 : decode (tb_me 171).1.2.1 18 = .ok (.istore_n 2, 1) := by decide +kernel
theorem d171_19 : decode (tb_me 171).1.2.1 19 = .ok (.iload_n 1, 1) := by decide +kernel
theorem d171_20 : decode (tb_me 171).1.2.1 20 = .ok (.bipush 60, 2) := by decide +kernel
theorem d171_22 : decode (tb_me 171).1.2.1 22 = .ok (.if_icmp .eq 22, 3) := by decide +kernel
theorem d171_25 : decode (tb_me 171).1.2.1 25 = .ok (.iload_n 1, 1) := by decide +kernel
theorem d171_26 : decode (tb_me 171).1.2.1 26 = .ok (.bipush 61, 2) := by decide +kernel
theorem d171_28 : decode (tb_me 171).1.2.1 28 = .ok (.if_icmp .eq 16, 3) := by decide +kernel
theorem d171_31 : decode (tb_me 171).1.2.1 31 = .ok (.iload_n 1, 1) := by decide +kernel
theorem d171_32 : decode (tb_me 171).1.2.1 32 = .ok (.bipush 62, 2) := by decide +kernel
theorem d171_34 : decode (tb_me 171).1.2.1 34 = .ok (.if_icmp .eq 10, 3) := by decide +kernel
theorem d171_37 : decode (tb_me 171).1.2.1 37 = .ok (.aload_n 0, 1) := by decide +kernel
theorem d171_38 : decode (tb_me 171).1.2.1 38 = .ok (.iconst 0, 1) := by decide +kernel
theorem d171_39 : decode (tb_me 171).1.2.1 39 = .ok (.iload_n 2, 1) := by decide +kernel
theorem d171_40 : decode (tb_me 171).1.2.1 40 = .ok (.invokevirtual 105, 3) := by decide +kernel
theorem k171_105 (b : Bool) : tb_lk b 171 105 = (2, 154, 0, 0, 0) := by cases b <;> decide +kernel
theorem d171_43 : decode (tb_me 171).1.2.1 43 = .ok (.ireturn, 1) := by decide +kernel
theorem d171_7 : decode (tb_me 171).1.2.1 7 = .ok (.iconst 0, 1) := by decide +kernel
theorem d171_8 : decode (tb_me 171).1.2.1 8 = .ok (.ireturn, 1) := by decide +kernel
theorem e171 : (tb_me 171).2.1 = (0, 0) ∧ (tb_me 171).1.2.2.1 = 5 := by decide +kernel
theorem d172_2 : decode (tb_me 172).1.2.1 2 = .ok (.iload_n 1, 1) := by decide +kernel
theorem d172_3 : decode (tb_me 172).1.2.1 3 = .ok (.ifCond .eq 72, 3) := by decide +kernel
theorem d172_6 : decode (tb_me 172).1.2.1 6 = .ok (.iconst 0, 1) := by decide +kernel
theorem d172_7 : decode (tb_me 172).1.2.1 7 = .ok (.istore_n 1, 1) := by decide +kernel
theorem d172_8 : decode (tb_me 172).1.2.1 8 = .ok (.aload_n 0, 1) := by decide +kernel
theorem d172_9 : decode (tb_me 172).1.2.1 9 = .ok (.invokevirtual 87, 3) := by decide +kernel
theorem k172_87 (b : Bool) : tb_lk b 172 87 = (2, 155, 0, 0, 0) := by cases b <;> decide +kernel
theorem d172_12 : decode (tb_me 172).1.2.1 12 = .ok (.istore_n 2, 1) := by decide +kernel
theorem d172_13 : decode (tb_me 172).1.2.1 13 = .ok (.aload_n 0, 1) := by decide +kernel
theorem d172_14 : decode (tb_me 172).1.2.1 14 = .ok (.ldc2_w 178, 3) := by decide +kernel
theorem k172_178 (b : Bool) : tb_lk b 172 178 = (12, 0, 0, 0, 7237492) := by cases b <;> decide +kernel
theorem d172_17 : decode (tb_me 172).1.2.1 17 = .ok (.invokevirtual 95, 3) := by decide +kernel
theorem k172_95 (b : Bool) : tb_lk b 172 95 = (2, 158, 0, 0, 0) := by cases b <;> decide +kernel
theorem d172_20 : decode (tb_me 172).1.2.1 20 = .ok (.ifCond .eq 23, 3) := by decide +kernel
theorem d172_43 : decode (tb_me 172).1.2.1 43 = .ok (.iload_n 2, 1) := by decide +kernel
theorem d172_44 : decode (tb_me 172).1.2.1 44 = .ok (.bipush 91, 2) := by decide +kernel
theorem d172_46 : decode (tb_me 172).1.2.1 46 = .ok (.if_icmp .ne 26, 3) := by decide +kernel
theorem d172_72 : decode (tb_me 172).1.2.1 72 = .ok (.goto (-70), 3) := by decide +kernel
theorem d172_49 : decode (tb_me 172).1.2.1 49 = .ok (.aload_n 0, 1) := by decide +kernel
theorem d172_50 : decode (tb_me 172).1.2.1 50 = .ok (.bipush 91, 2) := by decide +kernel
theorem d172_52 : decode (tb_me 172).1.2.1 52 = .ok (.invokevirtual 180, 3) := by decide +kernel
theorem k172_180 (b : Bool) : tb_lk b 172 180 = (2, 165, 0, 0, 0) := by cases b <;> decide +kernel
theorem m165 : (tb_me 165).2 = ((0, 0), (1, 10)) ∧ (tb_me 165).1.2.2.1 = 2 := by decide +kernel
theorem d172_55 : decode (tb_me 172).1.2.1 55 = .ok (.ifCond .ne 5, 3) := by decide +kernel
theorem d172_60 : decode (tb_me 172).1.2.1 60 = .ok (.aload_n 0, 1) := by decide +kernel
theorem d172_61 : decode (tb_me 172).1.2.1 61 = .ok (.dup, 1) := by decide +kernel
theorem d172_62 : decode (tb_me 172).1.2.1 62 = .ok (.getfield 84, 3) := by decide +kernel
theorem k172_84 (b : Bool) : tb_lk b 172 84 = (1, 10, 8, 0, 0) := by cases b <;> decide +kernel
theorem d172_65 : decode (tb_me 172).1.2.1 65 = .ok (.iconst 1, 1) := by decide +kernel
theorem d172_66 : decode (tb_me 172).1.2.1 66 = .ok (.iadd, 1) := by decide +kernel
theorem d172_67 : decode (tb_me 172).1.2.1 67 = .ok (.putfield 84, 3) := by decide +kernel
theorem p172_10_8 : (8 < pm_nf tb_cl 10) ∧ tb_ft 10 8 = .int ∧ pm_fin tb_cl (tb_me 172).1.1 10 8 = true := by decide +kernel
theorem d172_70 : decode (tb_me 172).1.2.1 70 = .ok (.iconst 1, 1) := by decide +kernel
theorem d172_71 : decode (tb_me 172).1.2.1 71 = .ok (.istore_n 1, 1) := by decide +kernel
theorem d172_23 : decode (tb_me 172).1.2.1 23 = .ok (.aload_n 0, 1) := by decide +kernel
theorem d172_24 : decode (tb_me 172).1.2.1 24 = .ok (.bipush 11, 2) := by decide +kernel
theorem d172_26 : decode (tb_me 172).1.2.1 26 = .ok (.invokevirtual 180, 3) := by decide +kernel
theorem d172_29 : decode (tb_me 172).1.2.1 29 = .ok (.ifCond .ne 5, 3) := by decide +kernel
theorem d172_34 : decode (tb_me 172).1.2.1 34 = .ok (.aload_n 0, 1) := by decide +kernel
theorem d172_35 : decode (tb_me 172).1.2.1 35 = .ok (.invokevirtual 99, 3) := by decide +kernel
theorem k172_99 (b : Bool) : tb_lk b 172 99 = (2, 159, 0, 0, 0) := by cases b <;> decide +kernel
theorem d172_38 : decode (tb_me 172).1.2.1 38 = .ok (.iconst 1, 1) := by decide +kernel
theorem d172_39 : decode (tb_me 172).1.2.1 39 = .ok (.istore_n 1, 1) := by decide +kernel
theorem d172_40 : decode (tb_me 172).1.2.1 40 = .ok (.goto 32, 3) := by decide +kernel
theorem d172_0 : decode (tb_me 172).1.2.1 0 = .ok (.iconst 1, 1) := by decide +kernel
theorem d172_1 : decode (tb_me 172).1.2.1 1 = .ok (.istore_n 1, 1) := by decide +kernel
theorem d172_32 : decode (tb_me 172).1.2.1 32 = .ok (.iconst 0, 1) := by decide +kernel
theorem d172_33 : decode (tb_me 172).1.2.1 33 = .ok (.ireturn, 1) := by decide +kernel
theorem t172 : (tb_me 172).1.2.2.2 = some .boolean := by decide +kernel
theorem d172_58 : decode (tb_me 172).1.2.1 58 = .ok (.iconst 0, 1) := by decide +kernel
theorem d172_59 : decode (tb_me 172).1.2.1 59 = .ok (.ireturn, 1) := by decide +kernel
theorem d172_75 : decode (tb_me 172).1.2.1 75 = .ok (.aload_n 0, 1) := by decide +kernel
theorem d172_76 : decode (tb_me 172).1.2.1 76 = .ok (.invokevirtual 183, 3) := by decide +kernel
theorem k172_183 (b : Bool) : tb_lk b 172 183 = (2, 171, 0, 0, 0) := by cases b <;> decide +kernel
theorem m171 : (tb_me 171).2 = ((0, 0), (0, 10)) ∧ (tb_me 171).1.2.2.1 = 5 := by decide +kernel
theorem d172_79 : decode (tb_me 172).1.2.1 79 = .ok (.ireturn, 1) := by decide +kernel
theorem e172 : (tb_me 172).2.1 = (0, 0) ∧ (tb_me 172).1.2.2.1 = 3 := by decide +kernel
theorem d173_2 : decode (tb_me 173).1.2.1 2 = .ok (.iload_n 1, 1) := by decide +kernel
theorem d173_3 : decode (tb_me 173).1.2.1 3 = .ok (.aload_n 0, 1) := by decide +kernel
theorem d173_4 : decode (tb_me 173).1.2.1 4 = .ok (.getfield 147, 3) := by decide +kernel
theorem k173_147 (b : Bool) : tb_lk b 173 147 = (1, 10, 16, 0, 0) := by cases b <;> decide +kernel
theorem d173_7 : decode (tb_me 173).1.2.1 7 = .ok (.if_icmp .ge 22, 3) := by decide +kernel
theorem d173_10 : decode (tb_me 173).1.2.1 10 = .ok (.aload_n 0, 1) := by decide +kernel
theorem d173_11 : decode (tb_me 173).1.2.1 11 = .ok (.getfield 29, 3) := by decide +kernel
theorem k173_29 (b : Bool) : tb_lk b 173 29 = (1, 10, 15, 0, 0) := by cases b <;> decide +kernel
theorem d173_14 : decode (tb_me 173).1.2.1 14 = .ok (.iload_n 1, 1) := by decide +kernel
theorem d173_15 : decode (tb_me 173).1.2.1 15 = .ok (.iaload, 1) := by decide +kernel
theorem d173_16 : decode (tb_me 173).1.2.1 16 = .ok (.bipush 91, 2) := by decide +kernel
theorem d173_18 : decode (tb_me 173).1.2.1 18 = .ok (.if_icmp .ne 5, 3) := by decide +kernel
theorem d173_23 : decode (tb_me 173).1.2.1 23 = .ok (.iinc 1 1, 3) := by decide +kernel
theorem d173_26 : decode (tb_me 173).1.2.1 26 = .ok (.goto (-24), 3) := by decide +kernel
theorem d173_0 : decode (tb_me 173).1.2.1 0 = .ok (.iconst 0, 1) := by decide +kernel
theorem d173_1 : decode (tb_me 173).1.2.1 1 = .ok (.istore_n 1, 1) := by decide +kernel
theorem d173_21 : decode (tb_me 173).1.2.1 21 = .ok (.iconst 1, 1) := by decide +kernel
theorem d173_22 : decode (tb_me 173).1.2.1 22 = .ok (.ireturn, 1) := by decide +kernel
theorem t173 : (tb_me 173).1.2.2.2 = some .boolean := by decide +kernel
theorem d173_29 : decode (tb_me 173).1.2.1 29 = .ok (.iconst 0, 1) := by decide +kernel
theorem d173_30 : decode (tb_me 173).1.2.1 30 = .ok (.ireturn, 1) := by decide +kernel
theorem e173 : (tb_me 173).2.1 = (0, 0) ∧ (tb_me 173).1.2.2.1 = 2 := by decide +kernel
theorem d174_5 : decode (tb_me 174).1.2.1 5 = .ok (.aload_n 0, 1) := by decide +kernel
theorem d174_6 : decode (tb_me 174).1.2.1 6 = .ok (.invokevirtual 87, 3) := by decide +kernel
theorem k174_87 (b : Bool) : tb_lk b 174 87 = (2, 155, 0, 0, 0) := by cases b <;> decide +kernel
theorem d174_9 : decode (tb_me 174).1.2.1 9 = .ok (.bipush 93, 2) := by decide +kernel
theorem d174_11 : decode (tb_me 174).1.2.1 11 = .ok (.if_icmp .ne 53, 3) := by decide +kernel
theorem d174_14 : decode (tb_me 174).1.2.1 14 = .ok (.aload_n 0, 1) := by decide +kernel
theorem d174_15 : decode (tb_me 174).1.2.1 15 = .ok (.invokevirtual 189, 3) := by decide +kernel
theorem k174_189 (b : Bool) : tb_lk b 174 189 = (2, 173, 0, 0, 0) := by cases b <;> decide +kernel
theorem m173 : (tb_me 173).2 = ((0, 0), (0, 10)) ∧ (tb_me 173).1.2.2.1 = 2 := by decide +kernel
theorem d174_18 : decode (tb_me 174).1.2.1 18 = .ok (.ifCond .eq 46, 3) := by decide +kernel
theorem d174_21 : decode (tb_me 174).1.2.1 21 = .ok (.aload_n 0, 1) := by decide +kernel
theorem d174_22 : decode (tb_me 174).1.2.1 22 = .ok (.iconst 1, 1) := by decide +kernel
theorem d174_23 : decode (tb_me 174).1.2.1 23 = .ok (.invokevirtual 186, 3) := by decide +kernel
theorem k174_186 (b : Bool) : tb_lk b 174 186 = (2, 167, 0, 0, 0) := by cases b <;> decide +kernel
theorem m167 : (tb_me 167).2 = ((0, 0), (1, 10)) ∧ (tb_me 167).1.2.2.1 = 2 := by decide +kernel
theorem d174_26 : decode (tb_me 174).1.2.1 26 = .ok (.aload_n 0, 1) := by decide +kernel
theorem d174_27 : decode (tb_me 174).1.2.1 27 = .ok (.dup, 1) := by decide +kernel
theorem d174_28 : decode (tb_me 174).1.2.1 28 = .ok (.getfield 147, 3) := by decide +kernel
theorem k174_147 (b : Bool) : tb_lk b 174 147 = (1, 10, 16, 0, 0) := by cases b <;> decide +kernel
theorem d174_31 : decode (tb_me 174).1.2.1 31 = .ok (.iconst 1, 1) := by decide +kernel
theorem d174_32 : decode (tb_me 174).1.2.1 32 = .ok (.isub, 1) := by decide +kernel
theorem d174_33 : decode (tb_me 174).1.2.1 33 = .ok (.putfield 147, 3) := by decide +kernel
theorem p174_10_16 : (16 < pm_nf tb_cl 10) ∧ tb_ft 10 16 = .int ∧ pm_fin tb_cl (tb_me 174).1.1 10 16 = true := by decide +kernel
theorem d174_36 : decode (tb_me 174).1.2.1 36 = .ok (.aload_n 0, 1) := by decide +kernel
theorem d174_37 : decode (tb_me 174).1.2.1 37 = .ok (.dup, 1) := by decide +kernel
theorem d174_38 : decode (tb_me 174).1.2.1 38 = .ok (.getfield 144, 3) := by decide +kernel
theorem k174_144 (b : Bool) : tb_lk b 174 144 = (1, 10, 13, 0, 0) := by cases b <;> decide +kernel
theorem d174_41 : decode (tb_me 174).1.2.1 41 = .ok (.iconst 1, 1) := by decide +kernel
theorem d174_42 : decode (tb_me 174).1.2.1 42 = .ok (.isub, 1) := by decide +kernel
theorem d174_43 : decode (tb_me 174).1.2.1 43 = .ok (.putfield 144, 3) := by decide +kernel
theorem p174_10_13 : (13 < pm_nf tb_cl 10) ∧ tb_ft 10 13 = .int ∧ pm_fin tb_cl (tb_me 174).1.1 10 13 = true := by decide +kernel
theorem d174_46 : decode (tb_me 174).1.2.1 46 = .ok (.aload_n 0, 1) := by decide +kernel
theorem d174_47 : decode (tb_me 174).1.2.1 47 = .ok (.dup, 1) := by decide +kernel
theorem d174_48 : decode (tb_me 174).1.2.1 48 = .ok (.getfield 84, 3) := by decide +kernel
theorem k174_84 (b : Bool) : tb_lk b 174 84 = (1, 10, 8, 0, 0) := by cases b <;> decide +kernel
theorem d174_51 : decode (tb_me 174).1.2.1 51 = .ok (.iconst 1, 1) := by decide +kernel
theorem d174_52 : decode (tb_me 174).1.2.1 52 = .ok (.iadd, 1) := by decide +kernel
theorem d174_53 : decode (tb_me 174).1.2.1 53 = .ok (.putfield 84, 3) := by decide +kernel
theorem p174_10_8 : (8 < pm_nf tb_cl 10) ∧ tb_ft 10 8 = .int ∧ pm_fin tb_cl (tb_me 174).1.1 10 8 = true := by decide +kernel
theorem d174_56 : decode (tb_me 174).1.2.1 56 = .ok (.aload_n 0, 1) := by decide +kernel
theorem d174_57 : decode (tb_me 174).1.2.1 57 = .ok (.iconst 3, 1) := by decide +kernel
theorem d174_58 : decode (tb_me 174).1.2.1 58 = .ok (.invokevirtual 186, 3) := by decide +kernel
theorem d174_61 : decode (tb_me 174).1.2.1 61 = .ok (.goto (-56), 3) := by decide +kernel
theorem d174_0 : decode (tb_me 174).1.2.1 0 = .ok (.aload_n 0, 1) := by decide +kernel
theorem d174_1 : decode (tb_me 174).1.2.1 1 = .ok (.iconst 3, 1) := by decide +kernel
theorem d174_2 : decode (tb_me 174).1.2.1 2 = .ok (.invokevirtual 186, 3) := by decide +kernel
theorem d174_64 : decode (tb_me 174).1.2.1 64 = .ok (.return_, 1) := by decide +kernel
theorem t174 : (tb_me 174).1.2.2.2 = none := by decide +kernel
theorem e174 : (tb_me 174).2.1 = (0, 0) ∧ (tb_me 174).1.2.2.1 = 1 := by decide +kernel
theorem d175_76 : decode (tb_me 175).1.2.1 76 = .ok (.istore_n 2, 1) := by decide +kernel
theorem d175_77 : decode (tb_me 175).1.2.1 77 = .ok (.aload_n 0, 1) := by decide +kernel
theorem d175_78 : decode (tb_me 175).1.2.1 78 = .ok (.invokevirtual 99, 3) := by decide +kernel
theorem k175_99 (b : Bool) : tb_lk b 175 99 = (2, 159, 0, 0, 0) := by cases b <;> decide +kernel
theorem d175_81 : decode (tb_me 175).1.2.1 81 = .ok (.aload_n 0, 1) := by decide +kernel
theorem d175_82 : decode (tb_me 175).1.2.1 82 = .ok (.iload_n 2, 1) := by decide +kernel
theorem d175_83 : decode (tb_me 175).1.2.1 83 = .ok (.invokestatic 150, 3) := by decide +kernel
theorem k175_150 (b : Bool) : tb_lk b 175 150 = (4, 166, 0, 0, 0) := by cases b <;> decide +kernel
theorem d175_86 : decode (tb_me 175).1.2.1 86 = .ok (.invokevirtual 186, 3) := by decide +kernel
theorem k175_186 (b : Bool) : tb_lk b 175 186 = (2, 167, 0, 0, 0) := by cases b <;> decide +kernel
theorem d175_89 : decode (tb_me 175).1.2.1 89 = .ok (.aload_n 0, 1) := by decide +kernel
theorem d175_90 : decode (tb_me 175).1.2.1 90 = .ok (.getfield 29, 3) := by decide +kernel
theorem k175_29 (b : Bool) : tb_lk b 175 29 = (1, 10, 15, 0, 0) := by cases b <;> decide +kernel
theorem d175_93 : decode (tb_me 175).1.2.1 93 = .ok (.aload_n 0, 1) := by decide +kernel
theorem d175_94 : decode (tb_me 175).1.2.1 94 = .ok (.getfield 147, 3) := by decide +kernel
theorem k175_147 (b : Bool) : tb_lk b 175 147 = (1, 10, 16, 0, 0) := by cases b <;> decide +kernel
theorem d175_97 : decode (tb_me 175).1.2.1 97 = .ok (.iload_n 2, 1) := by decide +kernel
theorem d175_98 : decode (tb_me 175).1.2.1 98 = .ok (.iastore, 1) := by decide +kernel
theorem d175_99 : decode (tb_me 175).1.2.1 99 = .ok (.aload_n 0, 1) := by decide +kernel
theorem d175_100 : decode (tb_me 175).1.2.1 100 = .ok (.dup, 1) := by decide +kernel
theorem d175_101 : decode (tb_me 175).1.2.1 101 = .ok (.getfield 147, 3) := by decide +kernel
theorem d175_104 : decode (tb_me 175).1.2.1 104 = .ok (.iconst 1, 1) := by decide +kernel
theorem d175_105 : decode (tb_me 175).1.2.1 105 = .ok (.iadd, 1) := by decide +kernel
theorem d175_106 : decode (tb_me 175).1.2.1 106 = .ok (.putfield 147, 3) := by decide +kernel
theorem p175_10_16 : (16 < pm_nf tb_cl 10) ∧ tb_ft 10 16 = .int ∧ pm_fin tb_cl (tb_me 175).1.1 10 16 = true := by decide +kernel
theorem d175_109 : decode (tb_me 175).1.2.1 109 = .ok (.goto (-97), 3) := by decide +kernel
theorem d175_54 : decode (tb_me 175).1.2.1 54 = .ok (.istore_n 1, 1) := by decide +kernel
theorem d175_55 : decode (tb_me 175).1.2.1 55 = .ok (.iload_n 1, 1) := by decide +kernel
theorem d175_56 : decode (tb_me 175).1.2.1 56 = .ok (.ifCond .eq (-44), 3) := by decide +kernel
theorem d175_59 : decode (tb_me 175).1.2.1 59 = .ok (.aload_n 0, 1) := by decide +kernel
theorem d175_60 : decode (tb_me 175).1.2.1 60 = .ok (.ldc2_w 198, 3) := by decide +kernel
theorem k175_198 (b : Bool) : tb_lk b 175 198 = (12, 0, 0, 0, 6385252) := by cases b <;> decide +kernel
theorem d175_63 : decode (tb_me 175).1.2.1 63 = .ok (.invokevirtual 95, 3) := by decide +kernel
theorem k175_95 (b : Bool) : tb_lk b 175 95 = (2, 158, 0, 0, 0) := by cases b <;> decide +kernel
theorem d175_66 : decode (tb_me 175).1.2.1 66 = .ok (.ifCond .eq 8, 3) := by decide +kernel
theorem d175_74 : decode (tb_me 175).1.2.1 74 = .ok (.bipush 13, 2) := by decide +kernel
theorem d175_69 : decode (tb_me 175).1.2.1 69 = .ok (.bipush 12, 2) := by decide +kernel
theorem d175_71 : decode (tb_me 175).1.2.1 71 = .ok (.goto 5, 3) := by decide +kernel
theorem d175_49 : decode (tb_me 175).1.2.1 49 = .ok (.iconst 1, 1) := by decide +kernel
theorem d175_50 : decode (tb_me 175).1.2.1 50 = .ok (.goto 4, 3) := by decide +kernel
theorem d175_12 : decode (tb_me 175).1.2.1 12 = .ok (.iload_n 1, 1) := by decide +kernel
theorem d175_13 : decode (tb_me 175).1.2.1 13 = .ok (.ifCond .eq 99, 3) := by decide +kernel
theorem d175_16 : decode (tb_me 175).1.2.1 16 = .ok (.aload_n 0, 1) := by decide +kernel
theorem d175_17 : decode (tb_me 175).1.2.1 17 = .ok (.invokevirtual 192, 3) := by decide +kernel
theorem k175_192 (b : Bool) : tb_lk b 175 192 = (2, 172, 0, 0, 0) := by cases b <;> decide +kernel
theorem m172 : (tb_me 172).2 = ((0, 0), (0, 10)) ∧ (tb_me 172).1.2.2.1 = 3 := by decide +kernel
theorem d175_20 : decode (tb_me 175).1.2.1 20 = .ok (.ifCond .ne 5, 3) := by decide +kernel
theorem d175_25 : decode (tb_me 175).1.2.1 25 = .ok (.aload_n 0, 1) := by decide +kernel
theorem d175_26 : decode (tb_me 175).1.2.1 26 = .ok (.invokevirtual 195, 3) := by decide +kernel
theorem k175_195 (b : Bool) : tb_lk b 175 195 = (2, 174, 0, 0, 0) := by cases b <;> decide +kernel
theorem m174 : (tb_me 174).2 = ((0, 0), (0, 10)) ∧ (tb_me 174).1.2.2.1 = 1 := by decide +kernel
theorem d175_29 : decode (tb_me 175).1.2.1 29 = .ok (.aload_n 0, 1) := by decide +kernel
theorem d175_30 : decode (tb_me 175).1.2.1 30 = .ok (.ldc2_w 198, 3) := by decide +kernel
theorem d175_33 : decode (tb_me 175).1.2.1 33 = .ok (.invokevirtual 95, 3) := by decide +kernel
theorem d175_36 : decode (tb_me 175).1.2.1 36 = .ok (.ifCond .ne 13, 3) := by decide +kernel
theorem d175_39 : decode (tb_me 175).1.2.1 39 = .ok (.aload_n 0, 1) := by decide +kernel
theorem d175_40 : decode (tb_me 175).1.2.1 40 = .ok (.ldc2_w 200, 3) := by decide +kernel
theorem k175_200 (b : Bool) : tb_lk b 175 200 = (12, 0, 0, 0, 28530) := by cases b <;> decide +kernel
theorem d175_43 : decode (tb_me 175).1.2.1 43 = .ok (.invokevirtual 95, 3) := by decide +kernel
theorem d175_46 : decode (tb_me 175).1.2.1 46 = .ok (.ifCond .eq 7, 3) := by decide +kernel
theorem d175_53 : decode (tb_me 175).1.2.1 53 = .ok (.iconst 0, 1) := by decide +kernel
theorem d175_0 : decode (tb_me 175).1.2.1 0 = .ok (.aload_n 0, 1) := by decide +kernel
theorem d175_1 : decode (tb_me 175).1.2.1 1 = .ok (.iconst 0, 1) := by decide +kernel
theorem d175_2 : decode (tb_me 175).1.2.1 2 = .ok (.putfield 147, 3) := by decide +kernel
theorem d175_5 : decode (tb_me 175).1.2.1 5 = .ok (.aload_n 0, 1) := by decide +kernel
theorem d175_6 : decode (tb_me 175).1.2.1 6 = .ok (.iconst 0, 1) := by decide +kernel
theorem d175_7 : decode (tb_me 175).1.2.1 7 = .ok (.putfield 144, 3) := by decide +kernel
theorem k175_144 (b : Bool) : tb_lk b 175 144 = (1, 10, 13, 0, 0) := by cases b <;> decide +kernel
theorem p175_10_13 : (13 < pm_nf tb_cl 10) ∧ tb_ft 10 13 = .int ∧ pm_fin tb_cl (tb_me 175).1.1 10 13 = true := by decide +kernel
theorem d175_10 : decode (tb_me 175).1.2.1 10 = .ok (.iconst 1, 1) := by decide +kernel
theorem d175_11 : decode (tb_me 175).1.2.1 11 = .ok (.istore_n 1, 1) := by decide +kernel
theorem d175_23 : decode (tb_me 175).1.2.1 23 = .ok (.iconst 0, 1) := by decide +kernel
theorem d175_24 : decode (tb_me 175).1.2.1 24 = .ok (.ireturn, 1) := by decide +kernel
theorem t175 : (tb_me 175).1.2.2.2 = some .boolean := by decide +kernel
theorem d175_112 : decode (tb_me 175).1.2.1 112 = .ok (.aload_n 0, 1) := by decide +kernel
theorem d175_113 : decode (tb_me 175).1.2.1 113 = .ok (.invokevirtual 189, 3) := by decide +kernel
theorem k175_189 (b : Bool) : tb_lk b 175 189 = (2, 173, 0, 0, 0) := by cases b <;> decide +kernel
theorem d175_116 : decode (tb_me 175).1.2.1 116 = .ok (.ifCond .eq 18, 3) := by decide +kernel
theorem d175_134 : decode (tb_me 175).1.2.1 134 = .ok (.aload_n 0, 1) := by decide +kernel
theorem d175_135 : decode (tb_me 175).1.2.1 135 = .ok (.iconst 1, 1) := by decide +kernel
theorem d175_136 : decode (tb_me 175).1.2.1 136 = .ok (.invokevirtual 186, 3) := by decide +kernel
theorem d175_139 : decode (tb_me 175).1.2.1 139 = .ok (.iconst 1, 1) := by decide +kernel
theorem d175_140 : decode (tb_me 175).1.2.1 140 = .ok (.ireturn, 1) := by decide +kernel
theorem d175_119 : decode (tb_me 175).1.2.1 119 = .ok (.aload_n 0, 1) := by decide +kernel
theorem d175_120 : decode (tb_me 175).1.2.1 120 = .ok (.invokevirtual 87, 3) := by decide +kernel
theorem k175_87 (b : Bool) : tb_lk b 175 87 = (2, 155, 0, 0, 0) := by cases b <;> decide +kernel
theorem d175_123 : decode (tb_me 175).1.2.1 123 = .ok (.pop, 1) := by decide +kernel
theorem d175_124 : decode (tb_me 175).1.2.1 124 = .ok (.aload_n 0, 1) := by decide +kernel
theorem d175_125 : decode (tb_me 175).1.2.1 125 = .ok (.iconst 0, 1) := by decide +kernel
theorem d175_126 : decode (tb_me 175).1.2.1 126 = .ok (.aload_n 0, 1) := by decide +kernel
theorem d175_127 : decode (tb_me 175).1.2.1 127 = .ok (.getfield 84, 3) := by decide +kernel
theorem k175_84 (b : Bool) : tb_lk b 175 84 = (1, 10, 8, 0, 0) := by cases b <;> decide +kernel
theorem d175_130 : decode (tb_me 175).1.2.1 130 = .ok (.invokevirtual 105, 3) := by decide +kernel
theorem k175_105 (b : Bool) : tb_lk b 175 105 = (2, 154, 0, 0, 0) := by cases b <;> decide +kernel
theorem d175_133 : decode (tb_me 175).1.2.1 133 = .ok (.ireturn, 1) := by decide +kernel
theorem e175 : (tb_me 175).2.1 = (0, 0) ∧ (tb_me 175).1.2.2.1 = 3 := by decide +kernel
theorem d176_110 : decode (tb_me 176).1.2.1 110 = .ok (.aload_n 0, 1) := by decide +kernel
theorem d176_111 : decode (tb_me 176).1.2.1 111 = .ok (.getfield 20, 3) := by decide +kernel
theorem k176_20 (b : Bool) : tb_lk b 176 20 = (1, 10, 5, 0, 0) := by cases b <;> decide +kernel
theorem f10_5 : (5 < pm_nf tb_cl 10) ∧ tb_ft 10 5 ≠ .long ∧ pm_isR (tb_ft 10 5) = true := by decide +kernel
theorem d176_114 : decode (tb_me 176).1.2.1 114 = .ok (.iload_n 1, 1) := by decide +kernel
theorem d176_115 : decode (tb_me 176).1.2.1 115 = .ok (.iconst 3, 1) := by decide +kernel
theorem d176_116 : decode (tb_me 176).1.2.1 116 = .ok (.iadd, 1) := by decide +kernel
theorem d176_117 : decode (tb_me 176).1.2.1 117 = .ok (.aload_n 0, 1) := by decide +kernel
theorem d176_118 : decode (tb_me 176).1.2.1 118 = .ok (.getfield 17, 3) := by decide +kernel
theorem k176_17 (b : Bool) : tb_lk b 176 17 = (1, 10, 4, 0, 0) := by cases b <;> decide +kernel
theorem d176_121 : decode (tb_me 176).1.2.1 121 = .ok (.aload_n 0, 1) := by decide +kernel
theorem d176_122 : decode (tb_me 176).1.2.1 122 = .ok (.getfield 138, 3) := by decide +kernel
theorem k176_138 (b : Bool) : tb_lk b 176 138 = (1, 10, 11, 0, 0) := by cases b <;> decide +kernel
theorem d176_125 : decode (tb_me 176).1.2.1 125 = .ok (.iaload, 1) := by decide +kernel
theorem d176_126 : decode (tb_me 176).1.2.1 126 = .ok (.iastore, 1) := by decide +kernel
theorem d176_127 : decode (tb_me 176).1.2.1 127 = .ok (.aload_n 0, 1) := by decide +kernel
theorem d176_128 : decode (tb_me 176).1.2.1 128 = .ok (.getfield 23, 3) := by decide +kernel
theorem k176_23 (b : Bool) : tb_lk b 176 23 = (1, 10, 6, 0, 0) := by cases b <;> decide +kernel
theorem f10_6 : (6 < pm_nf tb_cl 10) ∧ tb_ft 10 6 ≠ .long ∧ pm_isR (tb_ft 10 6) = true := by decide +kernel
theorem d176_131 : decode (tb_me 176).1.2.1 131 = .ok (.aload_n 0, 1) := by decide +kernel
theorem d176_132 : decode (tb_me 176).1.2.1 132 = .ok (.getfield 138, 3) := by decide +kernel
theorem d176_135 : decode (tb_me 176).1.2.1 135 = .ok (.dup2, 1) := by decide +kernel
theorem d176_136 : decode (tb_me 176).1.2.1 136 = .ok (.iaload, 1) := by decide +kernel
theorem d176_137 : decode (tb_me 176).1.2.1 137 = .ok (.iconst 1, 1) := by decide +kernel
theorem d176_138 : decode (tb_me 176).1.2.1 138 = .ok (.iadd, 1) := by decide +kernel
theorem d176_139 : decode (tb_me 176).1.2.1 139 = .ok (.iastore, 1) := by decide +kernel
theorem d176_140 : decode (tb_me 176).1.2.1 140 = .ok (.iconst 1, 1) := by decide +kernel
theorem d176_141 : decode (tb_me 176).1.2.1 141 = .ok (.ireturn, 1) := by decide +kernel
theorem t176 : (tb_me 176).1.2.2.2 = some .boolean := by decide +kernel
theorem d176_0 : decode (tb_me 176).1.2.1 0 = .ok (.aload_n 0, 1) := by decide +kernel
theorem d176_1 : decode (tb_me 176).1.2.1 1 = .ok (.invokevirtual 99, 3) := by decide +kernel
theorem k176_99 (b : Bool) : tb_lk b 176 99 = (2, 159, 0, 0, 0) := by cases b <;> decide +kernel
theorem d176_4 : decode (tb_me 176).1.2.1 4 = .ok (.bipush 48, 2) := by decide +kernel
theorem d176_6 : decode (tb_me 176).1.2.1 6 = .ok (.aload_n 0, 1) := by decide +kernel
theorem d176_7 : decode (tb_me 176).1.2.1 7 = .ok (.getfield 138, 3) := by decide +kernel
theorem d176_10 : decode (tb_me 176).1.2.1 10 = .ok (.imul, 1) := by decide +kernel
theorem d176_11 : decode (tb_me 176).1.2.1 11 = .ok (.iconst 4, 1) := by decide +kernel
theorem d176_12 : decode (tb_me 176).1.2.1 12 = .ok (.aload_n 0, 1) := by decide +kernel
theorem d176_13 : decode (tb_me 176).1.2.1 13 = .ok (.getfield 23, 3) := by decide +kernel
theorem d176_16 : decode (tb_me 176).1.2.1 16 = .ok (.aload_n 0, 1) := by decide +kernel
theorem d176_17 : decode (tb_me 176).1.2.1 17 = .ok (.getfield 138, 3) := by decide +kernel
theorem d176_20 : decode (tb_me 176).1.2.1 20 = .ok (.iaload, 1) := by decide +kernel
theorem d176_21 : decode (tb_me 176).1.2.1 21 = .ok (.imul, 1) := by decide +kernel
theorem d176_22 : decode (tb_me 176).1.2.1 22 = .ok (.iadd, 1) := by decide +kernel
theorem d176_23 : decode (tb_me 176).1.2.1 23 = .ok (.istore_n 1, 1) := by decide +kernel
theorem d176_24 : decode (tb_me 176).1.2.1 24 = .ok (.aload_n 0, 1) := by decide +kernel
theorem d176_25 : decode (tb_me 176).1.2.1 25 = .ok (.getfield 20, 3) := by decide +kernel
theorem d176_28 : decode (tb_me 176).1.2.1 28 = .ok (.iload_n 1, 1) := by decide +kernel
theorem d176_29 : decode (tb_me 176).1.2.1 29 = .ok (.aload_n 0, 1) := by decide +kernel
theorem d176_30 : decode (tb_me 176).1.2.1 30 = .ok (.getfield 17, 3) := by decide +kernel
theorem d176_33 : decode (tb_me 176).1.2.1 33 = .ok (.aload_n 0, 1) := by decide +kernel
theorem d176_34 : decode (tb_me 176).1.2.1 34 = .ok (.getfield 138, 3) := by decide +kernel
theorem d176_37 : decode (tb_me 176).1.2.1 37 = .ok (.iaload, 1) := by decide +kernel
theorem d176_38 : decode (tb_me 176).1.2.1 38 = .ok (.iastore, 1) := by decide +kernel
theorem d176_39 : decode (tb_me 176).1.2.1 39 = .ok (.aload_n 0, 1) := by decide +kernel
theorem d176_40 : decode (tb_me 176).1.2.1 40 = .ok (.invokevirtual 175, 3) := by decide +kernel
theorem k176_175 (b : Bool) : tb_lk b 176 175 = (2, 170, 0, 0, 0) := by cases b <;> decide +kernel
theorem d176_43 : decode (tb_me 176).1.2.1 43 = .ok (.ifCond .ne 5, 3) := by decide +kernel
theorem d176_48 : decode (tb_me 176).1.2.1 48 = .ok (.aload_n 0, 1) := by decide +kernel
theorem d176_49 : decode (tb_me 176).1.2.1 49 = .ok (.getfield 20, 3) := by decide +kernel
theorem d176_52 : decode (tb_me 176).1.2.1 52 = .ok (.iload_n 1, 1) := by decide +kernel
theorem d176_53 : decode (tb_me 176).1.2.1 53 = .ok (.iconst 1, 1) := by decide +kernel
theorem d176_54 : decode (tb_me 176).1.2.1 54 = .ok (.iadd, 1) := by decide +kernel
theorem d176_55 : decode (tb_me 176).1.2.1 55 = .ok (.aload_n 0, 1) := by decide +kernel
theorem d176_56 : decode (tb_me 176).1.2.1 56 = .ok (.getfield 17, 3) := by decide +kernel
theorem d176_59 : decode (tb_me 176).1.2.1 59 = .ok (.aload_n 0, 1) := by decide +kernel
theorem d176_60 : decode (tb_me 176).1.2.1 60 = .ok (.getfield 138, 3) := by decide +kernel
theorem d176_63 : decode (tb_me 176).1.2.1 63 = .ok (.iaload, 1) := by decide +kernel
theorem d176_64 : decode (tb_me 176).1.2.1 64 = .ok (.iastore, 1) := by decide +kernel
theorem d176_65 : decode (tb_me 176).1.2.1 65 = .ok (.aload_n 0, 1) := by decide +kernel
theorem d176_66 : decode (tb_me 176).1.2.1 66 = .ok (.getfield 20, 3) := by decide +kernel
theorem d176_69 : decode (tb_me 176).1.2.1 69 = .ok (.iload_n 1, 1) := by decide +kernel
theorem d176_70 : decode (tb_me 176).1.2.1 70 = .ok (.iconst 2, 1) := by decide +kernel
theorem d176_71 : decode (tb_me 176).1.2.1 71 = .ok (.iadd, 1) := by decide +kernel
theorem d176_72 : decode (tb_me 176).1.2.1 72 = .ok (.iconst (-1), 1) := by decide +kernel
theorem d176_73 : decode (tb_me 176).1.2.1 73 = .ok (.iastore, 1) := by decide +kernel
theorem d176_74 : decode (tb_me 176).1.2.1 74 = .ok (.aload_n 0, 1) := by decide +kernel
theorem d176_75 : decode (tb_me 176).1.2.1 75 = .ok (.ldc2_w 202, 3) := by decide +kernel
theorem k176_202 (b : Bool) : tb_lk b 176 202 = (12, 0, 0, 0, 26982) := by cases b <;> decide +kernel
theorem d176_78 : decode (tb_me 176).1.2.1 78 = .ok (.invokevirtual 204, 3) := by decide +kernel
theorem k176_204 (b : Bool) : tb_lk b 176 204 = (2, 160, 0, 0, 0) := by cases b <;> decide +kernel
theorem m160 : (tb_me 160).2 = ((0, 0), (1, 10)) ∧ (tb_me 160).1.2.2.1 = 3 := by decide +kernel
theorem d176_81 : decode (tb_me 176).1.2.1 81 = .ok (.ifCond .eq 29, 3) := by decide +kernel
theorem d176_84 : decode (tb_me 176).1.2.1 84 = .ok (.aload_n 0, 1) := by decide +kernel
theorem d176_85 : decode (tb_me 176).1.2.1 85 = .ok (.getfield 20, 3) := by decide +kernel
theorem d176_88 : decode (tb_me 176).1.2.1 88 = .ok (.iload_n 1, 1) := by decide +kernel
theorem d176_89 : decode (tb_me 176).1.2.1 89 = .ok (.iconst 2, 1) := by decide +kernel
theorem d176_90 : decode (tb_me 176).1.2.1 90 = .ok (.iadd, 1) := by decide +kernel
theorem d176_91 : decode (tb_me 176).1.2.1 91 = .ok (.aload_n 0, 1) := by decide +kernel
theorem d176_92 : decode (tb_me 176).1.2.1 92 = .ok (.getfield 17, 3) := by decide +kernel
theorem d176_95 : decode (tb_me 176).1.2.1 95 = .ok (.aload_n 0, 1) := by decide +kernel
theorem d176_96 : decode (tb_me 176).1.2.1 96 = .ok (.getfield 138, 3) := by decide +kernel
theorem d176_99 : decode (tb_me 176).1.2.1 99 = .ok (.iaload, 1) := by decide +kernel
theorem d176_100 : decode (tb_me 176).1.2.1 100 = .ok (.iastore, 1) := by decide +kernel
theorem d176_101 : decode (tb_me 176).1.2.1 101 = .ok (.aload_n 0, 1) := by decide +kernel
theorem d176_102 : decode (tb_me 176).1.2.1 102 = .ok (.invokevirtual 207, 3) := by decide +kernel
theorem k176_207 (b : Bool) : tb_lk b 176 207 = (2, 175, 0, 0, 0) := by cases b <;> decide +kernel
theorem m175 : (tb_me 175).2 = ((0, 0), (0, 10)) ∧ (tb_me 175).1.2.2.1 = 3 := by decide +kernel
theorem d176_105 : decode (tb_me 176).1.2.1 105 = .ok (.ifCond .ne 5, 3) := by decide +kernel
theorem d176_108 : decode (tb_me 176).1.2.1 108 = .ok (.iconst 0, 1) := by decide +kernel
theorem d176_109 : decode (tb_me 176).1.2.1 109 = .ok (.ireturn, 1) := by decide +kernel
theorem d176_46 : decode (tb_me 176).1.2.1 46 = .ok (.iconst 0, 1) := by decide +kernel
theorem d176_47 : decode (tb_me 176).1.2.1 47 = .ok (.ireturn, 1) := by decide +kernel
theorem e176 : (tb_me 176).2.1 = (0, 0) ∧ (tb_me 176).1.2.2.1 = 2 := by decide +kernel
theorem d177_0 : decode (tb_me 177).1.2.1 0 = .ok (.aload_n 0, 1) := by decide +kernel
theorem d177_1 : decode (tb_me 177).1.2.1 1 = .ok (.iload_n 2, 1) := by decide +kernel
theorem d177_2 : decode (tb_me 177).1.2.1 2 = .ok (.iload_n 3, 1) := by decide +kernel
theorem d177_3 : decode (tb_me 177).1.2.1 3 = .ok (.invokevirtual 159, 3) := by decide +kernel
theorem k177_159 (b : Bool) : tb_lk b 177 159 = (2, 161, 0, 0, 0) := by cases b <;> decide +kernel
theorem d177_6 : decode (tb_me 177).1.2.1 6 = .ok (.ifCond .ne 5, 3) := by decide +kernel
theorem d177_11 : decode (tb_me 177).1.2.1 11 = .ok (.aload_n 0, 1) := by decide +kernel
theorem d177_12 : decode (tb_me 177).1.2.1 12 = .ok (.getfield 26, 3) := by decide +kernel
theorem k177_26 (b : Bool) : tb_lk b 177 26 = (1, 10, 7, 0, 0) := by cases b <;> decide +kernel
theorem f10_7 : (7 < pm_nf tb_cl 10) ∧ tb_ft 10 7 ≠ .long ∧ pm_isR (tb_ft 10 7) = true := by decide +kernel
theorem d177_15 : decode (tb_me 177).1.2.1 15 = .ok (.iload_n 1, 1) := by decide +kernel
theorem d177_16 : decode (tb_me 177).1.2.1 16 = .ok (.aload_n 0, 1) := by decide +kernel
theorem d177_17 : decode (tb_me 177).1.2.1 17 = .ok (.getfield 109, 3) := by decide +kernel
theorem k177_109 (b : Bool) : tb_lk b 177 109 = (1, 10, 10, 0, 0) := by cases b <;> decide +kernel
theorem d177_20 : decode (tb_me 177).1.2.1 20 = .ok (.iastore, 1) := by decide +kernel
theorem d177_21 : decode (tb_me 177).1.2.1 21 = .ok (.iconst 1, 1) := by decide +kernel
theorem d177_22 : decode (tb_me 177).1.2.1 22 = .ok (.ireturn, 1) := by decide +kernel
theorem t177 : (tb_me 177).1.2.2.2 = some .boolean := by decide +kernel
theorem d177_9 : decode (tb_me 177).1.2.1 9 = .ok (.iconst 0, 1) := by decide +kernel
theorem d177_10 : decode (tb_me 177).1.2.1 10 = .ok (.ireturn, 1) := by decide +kernel
theorem e177 : (tb_me 177).2.1 = (0, 0) ∧ (tb_me 177).1.2.2.1 = 4 := by decide +kernel
theorem d178_0 : decode (tb_me 178).1.2.1 0 = .ok (.aload_n 0, 1) := by decide +kernel
theorem d178_1 : decode (tb_me 178).1.2.1 1 = .ok (.getfield 26, 3) := by decide +kernel
theorem k178_26 (b : Bool) : tb_lk b 178 26 = (1, 10, 7, 0, 0) := by cases b <;> decide +kernel
theorem d178_4 : decode (tb_me 178).1.2.1 4 = .ok (.iconst 0, 1) := by decide +kernel
theorem d178_5 : decode (tb_me 178).1.2.1 5 = .ok (.iaload, 1) := by decide +kernel
theorem d178_6 : decode (tb_me 178).1.2.1 6 = .ok (.ifCond .le 10, 3) := by decide +kernel
theorem d178_16 : decode (tb_me 178).1.2.1 16 = .ok (.aload_n 0, 1) := by decide +kernel
theorem d178_17 : decode (tb_me 178).1.2.1 17 = .ok (.invokevirtual 99, 3) := by decide +kernel
theorem k178_99 (b : Bool) : tb_lk b 178 99 = (2, 159, 0, 0, 0) := by cases b <;> decide +kernel
theorem d178_20 : decode (tb_me 178).1.2.1 20 = .ok (.aload_n 0, 1) := by decide +kernel
theorem d178_21 : decode (tb_me 178).1.2.1 21 = .ok (.iconst 0, 1) := by decide +kernel
theorem d178_22 : decode (tb_me 178).1.2.1 22 = .ok (.iconst 1, 1) := by decide +kernel
theorem d178_23 : decode (tb_me 178).1.2.1 23 = .ok (.bipush 10, 2) := by decide +kernel
theorem d178_25 : decode (tb_me 178).1.2.1 25 = .ok (.invokevirtual 210, 3) := by decide +kernel
theorem k178_210 (b : Bool) : tb_lk b 178 210 = (2, 177, 0, 0, 0) := by cases b <;> decide +kernel
theorem m177 : (tb_me 177).2 = ((0, 0), (3, 10)) ∧ (tb_me 177).1.2.2.1 = 4 := by decide +kernel
theorem d178_28 : decode (tb_me 178).1.2.1 28 = .ok (.ireturn, 1) := by decide +kernel
theorem t178 : (tb_me 178).1.2.2.2 = some .boolean := by decide +kernel
theorem d178_9 : decode (tb_me 178).1.2.1 9 = .ok (.aload_n 0, 1) := by decide +kernel
theorem d178_10 : decode (tb_me 178).1.2.1 10 = .ok (.iconst 4, 1) := by decide +kernel
theorem d178_11 : decode (tb_me 178).1.2.1 11 = .ok (.iload_n 1, 1) := by decide +kernel
theorem d178_12 : decode (tb_me 178).1.2.1 12 = .ok (.invokevirtual 105, 3) := by decide +kernel
theorem k178_105 (b : Bool) : tb_lk b 178 105 = (2, 154, 0, 0, 0) := by cases b <;> decide +kernel
theorem d178_15 : decode (tb_me 178).1.2.1 15 = .ok (.ireturn, 1) := by decide +kernel
theorem e178 : (tb_me 178).2.1 = (0, 0) ∧ (tb_me 178).1.2.2.1 = 2 := by decide +kernel
theorem d179_77 : decode (tb_me 179).1.2.1 77 = .ok (.iload_n 3, 1) := by decide +kernel
theorem d179_78 : decode (tb_me 179).1.2.1 78 = .ok (.bipush 6, 2) := by decide +kernel
theorem d179_80 : decode (tb_me 179).1.2.1 80 = .ok (.if_icmp .ge 18, 3) := by decide +kernel
theorem d179_83 : decode (tb_me 179).1.2.1 83 = .ok (.aload_n 0, 1) := by decide +kernel
theorem d179_84 : decode (tb_me 179).1.2.1 84 = .ok (.getfield 26, 3) := by decide +kernel
theorem k179_26 (b : Bool) : tb_lk b 179 26 = (1, 10, 7, 0, 0) := by cases b <;> decide +kernel
theorem d179_87 : decode (tb_me 179).1.2.1 87 = .ok (.iload_n 2, 1) := by decide +kernel
theorem d179_88 : decode (tb_me 179).1.2.1 88 = .ok (.iload_n 3, 1) := by decide +kernel
theorem d179_89 : decode (tb_me 179).1.2.1 89 = .ok (.iadd, 1) := by decide +kernel
theorem d179_90 : decode (tb_me 179).1.2.1 90 = .ok (.iconst 0, 1) := by decide +kernel
theorem d179_91 : decode (tb_me 179).1.2.1 91 = .ok (.iastore, 1) := by decide +kernel
theorem d179_92 : decode (tb_me 179).1.2.1 92 = .ok (.iinc 3 1, 3) := by decide +kernel
theorem d179_95 : decode (tb_me 179).1.2.1 95 = .ok (.goto (-18), 3) := by decide +kernel
theorem d179_0 : decode (tb_me 179).1.2.1 0 = .ok (.aload_n 0, 1) := by decide +kernel
theorem d179_1 : decode (tb_me 179).1.2.1 1 = .ok (.getfield 26, 3) := by decide +kernel
theorem d179_4 : decode (tb_me 179).1.2.1 4 = .ok (.iconst 1, 1) := by decide +kernel
theorem d179_5 : decode (tb_me 179).1.2.1 5 = .ok (.iaload, 1) := by decide +kernel
theorem d179_6 : decode (tb_me 179).1.2.1 6 = .ok (.bipush 8, 2) := by decide +kernel
theorem d179_8 : decode (tb_me 179).1.2.1 8 = .ok (.if_icmp .ne 10, 3) := by decide +kernel
theorem d179_18 : decode (tb_me 179).1.2.1 18 = .ok (.aload_n 0, 1) := by decide +kernel
theorem d179_19 : decode (tb_me 179).1.2.1 19 = .ok (.invokevirtual 99, 3) := by decide +kernel
theorem k179_99 (b : Bool) : tb_lk b 179 99 = (2, 159, 0, 0, 0) := by cases b <;> decide +kernel
theorem d179_22 : decode (tb_me 179).1.2.1 22 = .ok (.bipush 10, 2) := by decide +kernel
theorem d179_24 : decode (tb_me 179).1.2.1 24 = .ok (.bipush 6, 2) := by decide +kernel
theorem d179_26 : decode (tb_me 179).1.2.1 26 = .ok (.aload_n 0, 1) := by decide +kernel
theorem d179_27 : decode (tb_me 179).1.2.1 27 = .ok (.getfield 26, 3) := by decide +kernel
theorem d179_30 : decode (tb_me 179).1.2.1 30 = .ok (.iconst 1, 1) := by decide +kernel
theorem d179_31 : decode (tb_me 179).1.2.1 31 = .ok (.iaload, 1) := by decide +kernel
theorem d179_32 : decode (tb_me 179).1.2.1 32 = .ok (.imul, 1) := by decide +kernel
theorem d179_33 : decode (tb_me 179).1.2.1 33 = .ok (.iadd, 1) := by decide +kernel
theorem d179_34 : decode (tb_me 179).1.2.1 34 = .ok (.istore_n 2, 1) := by decide +kernel
theorem d179_35 : decode (tb_me 179).1.2.1 35 = .ok (.aload_n 0, 1) := by decide +kernel
theorem d179_36 : decode (tb_me 179).1.2.1 36 = .ok (.iload_n 2, 1) := by decide +kernel
theorem d179_37 : decode (tb_me 179).1.2.1 37 = .ok (.iconst 0, 1) := by decide +kernel
theorem d179_38 : decode (tb_me 179).1.2.1 38 = .ok (.aload_n 0, 1) := by decide +kernel
theorem d179_39 : decode (tb_me 179).1.2.1 39 = .ok (.getfield 26, 3) := by decide +kernel
theorem d179_42 : decode (tb_me 179).1.2.1 42 = .ok (.iconst 0, 1) := by decide +kernel
theorem d179_43 : decode (tb_me 179).1.2.1 43 = .ok (.iaload, 1) := by decide +kernel
theorem d179_44 : decode (tb_me 179).1.2.1 44 = .ok (.iconst 1, 1) := by decide +kernel
theorem d179_45 : decode (tb_me 179).1.2.1 45 = .ok (.isub, 1) := by decide +kernel
theorem d179_46 : decode (tb_me 179).1.2.1 46 = .ok (.invokevirtual 210, 3) := by decide +kernel
theorem k179_210 (b : Bool) : tb_lk b 179 210 = (2, 177, 0, 0, 0) := by cases b <;> decide +kernel
theorem d179_49 : decode (tb_me 179).1.2.1 49 = .ok (.ifCond .eq 15, 3) := by decide +kernel
theorem d179_64 : decode (tb_me 179).1.2.1 64 = .ok (.iconst 0, 1) := by decide +kernel
theorem d179_65 : decode (tb_me 179).1.2.1 65 = .ok (.ireturn, 1) := by decide +kernel
theorem t179 : (tb_me 179).1.2.2.2 = some .boolean := by decide +kernel
theorem d179_52 : decode (tb_me 179).1.2.1 52 = .ok (.aload_n 0, 1) := by decide +kernel
theorem d179_53 : decode (tb_me 179).1.2.1 53 = .ok (.iload_n 2, 1) := by decide +kernel
theorem d179_54 : decode (tb_me 179).1.2.1 54 = .ok (.iconst 1, 1) := by decide +kernel
theorem d179_55 : decode (tb_me 179).1.2.1 55 = .ok (.iadd, 1) := by decide +kernel
theorem d179_56 : decode (tb_me 179).1.2.1 56 = .ok (.iconst 0, 1) := by decide +kernel
theorem d179_57 : decode (tb_me 179).1.2.1 57 = .ok (.iconst 2, 1) := by decide +kernel
theorem d179_58 : decode (tb_me 179).1.2.1 58 = .ok (.invokevirtual 210, 3) := by decide +kernel
theorem d179_61 : decode (tb_me 179).1.2.1 61 = .ok (.ifCond .ne 5, 3) := by decide +kernel
theorem d179_66 : decode (tb_me 179).1.2.1 66 = .ok (.aload_n 0, 1) := by decide +kernel
theorem d179_67 : decode (tb_me 179).1.2.1 67 = .ok (.getfield 26, 3) := by decide +kernel
theorem d179_70 : decode (tb_me 179).1.2.1 70 = .ok (.iload_n 2, 1) := by decide +kernel
theorem d179_71 : decode (tb_me 179).1.2.1 71 = .ok (.iconst 2, 1) := by decide +kernel
theorem d179_72 : decode (tb_me 179).1.2.1 72 = .ok (.iadd, 1) := by decide +kernel
theorem d179_73 : decode (tb_me 179).1.2.1 73 = .ok (.iconst 1, 1) := by decide +kernel
theorem d179_74 : decode (tb_me 179).1.2.1 74 = .ok (.iastore, 1) := by decide +kernel
theorem d179_75 : decode (tb_me 179).1.2.1 75 = .ok (.iconst 3, 1) := by decide +kernel
theorem d179_76 : decode (tb_me 179).1.2.1 76 = .ok (.istore_n 3, 1) := by decide +kernel
theorem d179_98 : decode (tb_me 179).1.2.1 98 = .ok (.aload_n 0, 1) := by decide +kernel
theorem d179_99 : decode (tb_me 179).1.2.1 99 = .ok (.getfield 26, 3) := by decide +kernel
theorem d179_102 : decode (tb_me 179).1.2.1 102 = .ok (.iconst 1, 1) := by decide +kernel
theorem d179_103 : decode (tb_me 179).1.2.1 103 = .ok (.dup2, 1) := by decide +kernel
theorem d179_104 : decode (tb_me 179).1.2.1 104 = .ok (.iaload, 1) := by decide +kernel
theorem d179_105 : decode (tb_me 179).1.2.1 105 = .ok (.iconst 1, 1) := by decide +kernel
theorem d179_106 : decode (tb_me 179).1.2.1 106 = .ok (.iadd, 1) := by decide +kernel
theorem d179_107 : decode (tb_me 179).1.2.1 107 = .ok (.iastore, 1) := by decide +kernel
theorem d179_108 : decode (tb_me 179).1.2.1 108 = .ok (.iconst 1, 1) := by decide +kernel
theorem d179_109 : decode (tb_me 179).1.2.1 109 = .ok (.ireturn, 1) := by decide +kernel
theorem d179_11 : decode (tb_me 179).1.2.1 11 = .ok (.aload_n 0, 1) := by decide +kernel
theorem d179_12 : decode (tb_me 179).1.2.1 12 = .ok (.iconst 4, 1) := by decide +kernel
theorem d179_13 : decode (tb_me 179).1.2.1 13 = .ok (.iload_n 1, 1) := by decide +kernel
theorem d179_14 : decode (tb_me 179).1.2.1 14 = .ok (.invokevirtual 105, 3) := by decide +kernel
theorem k179_105 (b : Bool) : tb_lk b 179 105 = (2, 154, 0, 0, 0) := by cases b <;> decide +kernel
theorem d179_17 : decode (tb_me 179).1.2.1 17 = .ok (.ireturn, 1) := by decide +kernel
theorem e179 : (tb_me 179).2.1 = (0, 0) ∧ (tb_me 179).1.2.2.1 = 4 := by decide +kernel
theorem d180_116 : decode (tb_me 180).1.2.1 116 = .ok (.iload 5, 2) := by decide +kernel
theorem d180_118 : decode (tb_me 180).1.2.1 118 = .ok (.iload 4, 2) := by decide +kernel
theorem d180_120 : decode (tb_me 180).1.2.1 120 = .ok (.if_icmp .ge 62, 3) := by decide +kernel
theorem d180_123 : decode (tb_me 180).1.2.1 123 = .ok (.aload_n 0, 1) := by decide +kernel
theorem d180_124 : decode (tb_me 180).1.2.1 124 = .ok (.getfield 26, 3) := by decide +kernel
theorem k180_26 (b : Bool) : tb_lk b 180 26 = (1, 10, 7, 0, 0) := by cases b <;> decide +kernel
theorem d180_127 : decode (tb_me 180).1.2.1 127 = .ok (.iload_n 2, 1) := by decide +kernel
theorem d180_128 : decode (tb_me 180).1.2.1 128 = .ok (.iconst 2, 1) := by decide +kernel
theorem d180_129 : decode (tb_me 180).1.2.1 129 = .ok (.iadd, 1) := by decide +kernel
theorem d180_130 : decode (tb_me 180).1.2.1 130 = .ok (.iload 5, 2) := by decide +kernel
theorem d180_132 : decode (tb_me 180).1.2.1 132 = .ok (.iadd, 1) := by decide +kernel
theorem d180_133 : decode (tb_me 180).1.2.1 133 = .ok (.aload_n 0, 1) := by decide +kernel
theorem d180_134 : decode (tb_me 180).1.2.1 134 = .ok (.getfield 7, 3) := by decide +kernel
theorem k180_7 (b : Bool) : tb_lk b 180 7 = (1, 10, 0, 0, 0) := by cases b <;> decide +kernel
theorem d180_137 : decode (tb_me 180).1.2.1 137 = .ok (.iload_n 3, 1) := by decide +kernel
theorem d180_138 : decode (tb_me 180).1.2.1 138 = .ok (.iload 5, 2) := by decide +kernel
theorem d180_140 : decode (tb_me 180).1.2.1 140 = .ok (.iadd, 1) := by decide +kernel
theorem d180_141 : decode (tb_me 180).1.2.1 141 = .ok (.baload, 1) := by decide +kernel
theorem d180_142 : decode (tb_me 180).1.2.1 142 = .ok (.bipush 48, 2) := by decide +kernel
theorem d180_144 : decode (tb_me 180).1.2.1 144 = .ok (.isub, 1) := by decide +kernel
theorem d180_145 : decode (tb_me 180).1.2.1 145 = .ok (.iastore, 1) := by decide +kernel
theorem d180_146 : decode (tb_me 180).1.2.1 146 = .ok (.aload_n 0, 1) := by decide +kernel
theorem d180_147 : decode (tb_me 180).1.2.1 147 = .ok (.getfield 26, 3) := by decide +kernel
theorem d180_150 : decode (tb_me 180).1.2.1 150 = .ok (.iload_n 2, 1) := by decide +kernel
theorem d180_151 : decode (tb_me 180).1.2.1 151 = .ok (.iconst 2, 1) := by decide +kernel
theorem d180_152 : decode (tb_me 180).1.2.1 152 = .ok (.iadd, 1) := by decide +kernel
theorem d180_153 : decode (tb_me 180).1.2.1 153 = .ok (.iload 5, 2) := by decide +kernel
theorem d180_155 : decode (tb_me 180).1.2.1 155 = .ok (.iadd, 1) := by decide +kernel
theorem d180_156 : decode (tb_me 180).1.2.1 156 = .ok (.iaload, 1) := by decide +kernel
theorem d180_157 : decode (tb_me 180).1.2.1 157 = .ok (.aload_n 0, 1) := by decide +kernel
theorem d180_158 : decode (tb_me 180).1.2.1 158 = .ok (.getfield 26, 3) := by decide +kernel
theorem d180_161 : decode (tb_me 180).1.2.1 161 = .ok (.iconst 0, 1) := by decide +kernel
theorem d180_162 : decode (tb_me 180).1.2.1 162 = .ok (.iaload, 1) := by decide +kernel
theorem d180_163 : decode (tb_me 180).1.2.1 163 = .ok (.if_icmp .lt 13, 3) := by decide +kernel
theorem d180_176 : decode (tb_me 180).1.2.1 176 = .ok (.iinc 5 1, 3) := by decide +kernel
theorem d180_179 : decode (tb_me 180).1.2.1 179 = .ok (.goto (-63), 3) := by decide +kernel
theorem d180_61 : decode (tb_me 180).1.2.1 61 = .ok (.aload_n 0, 1) := by decide +kernel
theorem d180_62 : decode (tb_me 180).1.2.1 62 = .ok (.iload_n 3, 1) := by decide +kernel
theorem d180_63 : decode (tb_me 180).1.2.1 63 = .ok (.iload 4, 2) := by decide +kernel
theorem d180_65 : decode (tb_me 180).1.2.1 65 = .ok (.iadd, 1) := by decide +kernel
theorem d180_66 : decode (tb_me 180).1.2.1 66 = .ok (.invokevirtual 102, 3) := by decide +kernel
theorem k180_102 (b : Bool) : tb_lk b 180 102 = (2, 156, 0, 0, 0) := by cases b <;> decide +kernel
theorem d180_69 : decode (tb_me 180).1.2.1 69 = .ok (.ifCond .eq 9, 3) := by decide +kernel
theorem d180_72 : decode (tb_me 180).1.2.1 72 = .ok (.iinc 4 1, 3) := by decide +kernel
theorem d180_75 : decode (tb_me 180).1.2.1 75 = .ok (.goto (-14), 3) := by decide +kernel
theorem d180_0 : decode (tb_me 180).1.2.1 0 = .ok (.aload_n 0, 1) := by decide +kernel
theorem d180_1 : decode (tb_me 180).1.2.1 1 = .ok (.getfield 26, 3) := by decide +kernel
theorem d180_4 : decode (tb_me 180).1.2.1 4 = .ok (.iconst 2, 1) := by decide +kernel
theorem d180_5 : decode (tb_me 180).1.2.1 5 = .ok (.iaload, 1) := by decide +kernel
theorem d180_6 : decode (tb_me 180).1.2.1 6 = .ok (.bipush 8, 2) := by decide +kernel
theorem d180_8 : decode (tb_me 180).1.2.1 8 = .ok (.if_icmp .ne 10, 3) := by decide +kernel
theorem d180_18 : decode (tb_me 180).1.2.1 18 = .ok (.aload_n 0, 1) := by decide +kernel
theorem d180_19 : decode (tb_me 180).1.2.1 19 = .ok (.invokevirtual 99, 3) := by decide +kernel
theorem k180_99 (b : Bool) : tb_lk b 180 99 = (2, 159, 0, 0, 0) := by cases b <;> decide +kernel
theorem d180_22 : decode (tb_me 180).1.2.1 22 = .ok (.bipush 58, 2) := by decide +kernel
theorem d180_24 : decode (tb_me 180).1.2.1 24 = .ok (.bipush 6, 2) := by decide +kernel
theorem d180_26 : decode (tb_me 180).1.2.1 26 = .ok (.aload_n 0, 1) := by decide +kernel
theorem d180_27 : decode (tb_me 180).1.2.1 27 = .ok (.getfield 26, 3) := by decide +kernel
theorem d180_30 : decode (tb_me 180).1.2.1 30 = .ok (.iconst 2, 1) := by decide +kernel
theorem d180_31 : decode (tb_me 180).1.2.1 31 = .ok (.iaload, 1) := by decide +kernel
theorem d180_32 : decode (tb_me 180).1.2.1 32 = .ok (.imul, 1) := by decide +kernel
theorem d180_33 : decode (tb_me 180).1.2.1 33 = .ok (.iadd, 1) := by decide +kernel
theorem d180_34 : decode (tb_me 180).1.2.1 34 = .ok (.istore_n 2, 1) := by decide +kernel
theorem d180_35 : decode (tb_me 180).1.2.1 35 = .ok (.aload_n 0, 1) := by decide +kernel
theorem d180_36 : decode (tb_me 180).1.2.1 36 = .ok (.iload_n 2, 1) := by decide +kernel
theorem d180_37 : decode (tb_me 180).1.2.1 37 = .ok (.iconst 0, 1) := by decide +kernel
theorem d180_38 : decode (tb_me 180).1.2.1 38 = .ok (.bipush 99, 2) := by decide +kernel
theorem d180_40 : decode (tb_me 180).1.2.1 40 = .ok (.invokevirtual 210, 3) := by decide +kernel
theorem k180_210 (b : Bool) : tb_lk b 180 210 = (2, 177, 0, 0, 0) := by cases b <;> decide +kernel
theorem d180_43 : decode (tb_me 180).1.2.1 43 = .ok (.ifCond .ne 5, 3) := by decide +kernel
theorem d180_48 : decode (tb_me 180).1.2.1 48 = .ok (.aload_n 0, 1) := by decide +kernel
theorem d180_49 : decode (tb_me 180).1.2.1 49 = .ok (.invokevirtual 87, 3) := by decide +kernel
theorem k180_87 (b : Bool) : tb_lk b 180 87 = (2, 155, 0, 0, 0) := by cases b <;> decide +kernel
theorem d180_52 : decode (tb_me 180).1.2.1 52 = .ok (.pop, 1) := by decide +kernel
theorem d180_53 : decode (tb_me 180).1.2.1 53 = .ok (.aload_n 0, 1) := by decide +kernel
theorem d180_54 : decode (tb_me 180).1.2.1 54 = .ok (.getfield 84, 3) := by decide +kernel
theorem k180_84 (b : Bool) : tb_lk b 180 84 = (1, 10, 8, 0, 0) := by cases b <;> decide +kernel
theorem d180_57 : decode (tb_me 180).1.2.1 57 = .ok (.istore_n 3, 1) := by decide +kernel
theorem d180_58 : decode (tb_me 180).1.2.1 58 = .ok (.iconst 0, 1) := by decide +kernel
theorem d180_59 : decode (tb_me 180).1.2.1 59 = .ok (.istore 4, 2) := by decide +kernel
theorem d180_78 : decode (tb_me 180).1.2.1 78 = .ok (.iload 4, 2) := by decide +kernel
theorem d180_80 : decode (tb_me 180).1.2.1 80 = .ok (.ifCond .ne 10, 3) := by decide +kernel
theorem d180_90 : decode (tb_me 180).1.2.1 90 = .ok (.iload 4, 2) := by decide +kernel
theorem d180_92 : decode (tb_me 180).1.2.1 92 = .ok (.iconst 4, 1) := by decide +kernel
theorem d180_93 : decode (tb_me 180).1.2.1 93 = .ok (.if_icmp .le 10, 3) := by decide +kernel
theorem d180_103 : decode (tb_me 180).1.2.1 103 = .ok (.aload_n 0, 1) := by decide +kernel
theorem d180_104 : decode (tb_me 180).1.2.1 104 = .ok (.getfield 26, 3) := by decide +kernel
theorem d180_107 : decode (tb_me 180).1.2.1 107 = .ok (.iload_n 2, 1) := by decide +kernel
theorem d180_108 : decode (tb_me 180).1.2.1 108 = .ok (.iconst 1, 1) := by decide +kernel
theorem d180_109 : decode (tb_me 180).1.2.1 109 = .ok (.iadd, 1) := by decide +kernel
theorem d180_110 : decode (tb_me 180).1.2.1 110 = .ok (.iload 4, 2) := by decide +kernel
theorem d180_112 : decode (tb_me 180).1.2.1 112 = .ok (.iastore, 1) := by decide +kernel
theorem d180_113 : decode (tb_me 180).1.2.1 113 = .ok (.iconst 0, 1) := by decide +kernel
theorem d180_114 : decode (tb_me 180).1.2.1 114 = .ok (.istore 5, 2) := by decide +kernel
theorem d180_166 : decode (tb_me 180).1.2.1 166 = .ok (.aload_n 0, 1) := by decide +kernel
theorem d180_167 : decode (tb_me 180).1.2.1 167 = .ok (.iconst 1, 1) := by decide +kernel
theorem d180_168 : decode (tb_me 180).1.2.1 168 = .ok (.iload_n 3, 1) := by decide +kernel
theorem d180_169 : decode (tb_me 180).1.2.1 169 = .ok (.iload 5, 2) := by decide +kernel
theorem d180_171 : decode (tb_me 180).1.2.1 171 = .ok (.iadd, 1) := by decide +kernel
theorem d180_172 : decode (tb_me 180).1.2.1 172 = .ok (.invokevirtual 105, 3) := by decide +kernel
theorem k180_105 (b : Bool) : tb_lk b 180 105 = (2, 154, 0, 0, 0) := by cases b <;> decide +kernel
theorem d180_175 : decode (tb_me 180).1.2.1 175 = .ok (.ireturn, 1) := by decide +kernel
theorem t180 : (tb_me 180).1.2.2.2 = some .boolean := by decide +kernel
theorem d180_182 : decode (tb_me 180).1.2.1 182 = .ok (.aload_n 0, 1) := by decide +kernel
theorem d180_183 : decode (tb_me 180).1.2.1 183 = .ok (.iload_n 3, 1) := by decide +kernel
theorem d180_184 : decode (tb_me 180).1.2.1 184 = .ok (.iload 4, 2) := by decide +kernel
theorem d180_186 : decode (tb_me 180).1.2.1 186 = .ok (.iadd, 1) := by decide +kernel
theorem d180_187 : decode (tb_me 180).1.2.1 187 = .ok (.putfield 84, 3) := by decide +kernel
theorem p180_10_8 : (8 < pm_nf tb_cl 10) ∧ tb_ft 10 8 = .int ∧ pm_fin tb_cl (tb_me 180).1.1 10 8 = true := by decide +kernel
theorem d180_190 : decode (tb_me 180).1.2.1 190 = .ok (.aload_n 0, 1) := by decide +kernel
theorem d180_191 : decode (tb_me 180).1.2.1 191 = .ok (.getfield 26, 3) := by decide +kernel
theorem d180_194 : decode (tb_me 180).1.2.1 194 = .ok (.iconst 2, 1) := by decide +kernel
theorem d180_195 : decode (tb_me 180).1.2.1 195 = .ok (.dup2, 1) := by decide +kernel
theorem d180_196 : decode (tb_me 180).1.2.1 196 = .ok (.iaload, 1) := by decide +kernel
theorem d180_197 : decode (tb_me 180).1.2.1 197 = .ok (.iconst 1, 1) := by decide +kernel
theorem d180_198 : decode (tb_me 180).1.2.1 198 = .ok (.iadd, 1) := by decide +kernel
theorem d180_199 : decode (tb_me 180).1.2.1 199 = .ok (.iastore, 1) := by decide +kernel
theorem d180_200 : decode (tb_me 180).1.2.1 200 = .ok (.iconst 1, 1) := by decide +kernel
theorem d180_201 : decode (tb_me 180).1.2.1 201 = .ok (.ireturn, 1) := by decide +kernel
theorem d180_96 : decode (tb_me 180).1.2.1 96 = .ok (.aload_n 0, 1) := by decide +kernel
theorem d180_97 : decode (tb_me 180).1.2.1 97 = .ok (.iconst 1, 1) := by decide +kernel
theorem d180_98 : decode (tb_me 180).1.2.1 98 = .ok (.iload_n 3, 1) := by decide +kernel
theorem d180_99 : decode (tb_me 180).1.2.1 99 = .ok (.invokevirtual 105, 3) := by decide +kernel
theorem d180_102 : decode (tb_me 180).1.2.1 102 = .ok (.ireturn, 1) := by decide +kernel
theorem d180_83 : decode (tb_me 180).1.2.1 83 = .ok (.aload_n 0, 1) := by decide +kernel
theorem d180_84 : decode (tb_me 180).1.2.1 84 = .ok (.iconst 0, 1) := by decide +kernel
theorem d180_85 : decode (tb_me 180).1.2.1 85 = .ok (.iload_n 3, 1) := by decide +kernel
theorem d180_86 : decode (tb_me 180).1.2.1 86 = .ok (.invokevirtual 105, 3) := by decide +kernel
theorem d180_89 : decode (tb_me 180).1.2.1 89 = .ok (.ireturn, 1) := by decide +kernel
theorem d180_46 : decode (tb_me 180).1.2.1 46 = .ok (.iconst 0, 1) := by decide +kernel
theorem d180_47 : decode (tb_me 180).1.2.1 47 = .ok (.ireturn, 1) := by decide +kernel
theorem d180_11 : decode (tb_me 180).1.2.1 11 = .ok (.aload_n 0, 1) := by decide +kernel
theorem d180_12 : decode (tb_me 180).1.2.1 12 = .ok (.iconst 4, 1) := by decide +kernel
theorem d180_13 : decode (tb_me 180).1.2.1 13 = .ok (.iload_n 1, 1) := by decide +kernel
theorem d180_14 : decode (tb_me 180).1.2.1 14 = .ok (.invokevirtual 105, 3) := by decide +kernel
theorem d180_17 : decode (tb_me 180).1.2.1 17 = .ok (.ireturn, 1) := by decide +kernel
theorem e180 : (tb_me 180).2.1 = (0, 0) ∧ (tb_me 180).1.2.2.1 = 6 := by decide +kernel
theorem d181_0 : decode (tb_me 181).1.2.1 0 = .ok (.aload_n 0, 1) := by decide +kernel
theorem d181_1 : decode (tb_me 181).1.2.1 1 = .ok (.getfield 26, 3) := by decide +kernel
theorem k181_26 (b : Bool) : tb_lk b 181 26 = (1, 10, 7, 0, 0) := by cases b <;> decide +kernel
theorem d181_4 : decode (tb_me 181).1.2.1 4 = .ok (.iconst 3, 1) := by decide +kernel
theorem d181_5 : decode (tb_me 181).1.2.1 5 = .ok (.iaload, 1) := by decide +kernel
theorem d181_6 : decode (tb_me 181).1.2.1 6 = .ok (.bipush 10, 2) := by decide +kernel
theorem d181_8 : decode (tb_me 181).1.2.1 8 = .ok (.if_icmp .ne 10, 3) := by decide +kernel
theorem d181_18 : decode (tb_me 181).1.2.1 18 = .ok (.aload_n 0, 1) := by decide +kernel
theorem d181_19 : decode (tb_me 181).1.2.1 19 = .ok (.invokevirtual 99, 3) := by decide +kernel
theorem k181_99 (b : Bool) : tb_lk b 181 99 = (2, 159, 0, 0, 0) := by cases b <;> decide +kernel
theorem d181_22 : decode (tb_me 181).1.2.1 22 = .ok (.aload_n 0, 1) := by decide +kernel
theorem d181_23 : decode (tb_me 181).1.2.1 23 = .ok (.iconst 0, 1) := by decide +kernel
theorem d181_24 : decode (tb_me 181).1.2.1 24 = .ok (.aload_n 0, 1) := by decide +kernel
theorem d181_25 : decode (tb_me 181).1.2.1 25 = .ok (.getfield 26, 3) := by decide +kernel
theorem d181_28 : decode (tb_me 181).1.2.1 28 = .ok (.iconst 0, 1) := by decide +kernel
theorem d181_29 : decode (tb_me 181).1.2.1 29 = .ok (.iaload, 1) := by decide +kernel
theorem d181_30 : decode (tb_me 181).1.2.1 30 = .ok (.iconst 1, 1) := by decide +kernel
theorem d181_31 : decode (tb_me 181).1.2.1 31 = .ok (.isub, 1) := by decide +kernel
theorem d181_32 : decode (tb_me 181).1.2.1 32 = .ok (.invokevirtual 159, 3) := by decide +kernel
theorem k181_159 (b : Bool) : tb_lk b 181 159 = (2, 161, 0, 0, 0) := by cases b <;> decide +kernel
theorem d181_35 : decode (tb_me 181).1.2.1 35 = .ok (.ifCond .ne 5, 3) := by decide +kernel
theorem d181_40 : decode (tb_me 181).1.2.1 40 = .ok (.aload_n 0, 1) := by decide +kernel
theorem d181_41 : decode (tb_me 181).1.2.1 41 = .ok (.getfield 109, 3) := by decide +kernel
theorem k181_109 (b : Bool) : tb_lk b 181 109 = (1, 10, 10, 0, 0) := by cases b <;> decide +kernel
theorem d181_44 : decode (tb_me 181).1.2.1 44 = .ok (.istore_n 2, 1) := by decide +kernel
theorem d181_45 : decode (tb_me 181).1.2.1 45 = .ok (.aload_n 0, 1) := by decide +kernel
theorem d181_46 : decode (tb_me 181).1.2.1 46 = .ok (.invokevirtual 87, 3) := by decide +kernel
theorem k181_87 (b : Bool) : tb_lk b 181 87 = (2, 155, 0, 0, 0) := by cases b <;> decide +kernel
theorem d181_49 : decode (tb_me 181).1.2.1 49 = .ok (.pop, 1) := by decide +kernel
theorem d181_50 : decode (tb_me 181).1.2.1 50 = .ok (.aload_n 0, 1) := by decide +kernel
theorem d181_51 : decode (tb_me 181).1.2.1 51 = .ok (.getfield 84, 3) := by decide +kernel
theorem k181_84 (b : Bool) : tb_lk b 181 84 = (1, 10, 8, 0, 0) := by cases b <;> decide +kernel
theorem d181_54 : decode (tb_me 181).1.2.1 54 = .ok (.istore_n 3, 1) := by decide +kernel
theorem d181_55 : decode (tb_me 181).1.2.1 55 = .ok (.aload_n 0, 1) := by decide +kernel
theorem d181_56 : decode (tb_me 181).1.2.1 56 = .ok (.iconst 0, 1) := by decide +kernel
theorem d181_57 : decode (tb_me 181).1.2.1 57 = .ok (.aload_n 0, 1) := by decide +kernel
theorem d181_58 : decode (tb_me 181).1.2.1 58 = .ok (.getfield 26, 3) := by decide +kernel
theorem d181_61 : decode (tb_me 181).1.2.1 61 = .ok (.iconst 0, 1) := by decide +kernel
theorem d181_62 : decode (tb_me 181).1.2.1 62 = .ok (.iaload, 1) := by decide +kernel
theorem d181_63 : decode (tb_me 181).1.2.1 63 = .ok (.iconst 1, 1) := by decide +kernel
theorem d181_64 : decode (tb_me 181).1.2.1 64 = .ok (.isub, 1) := by decide +kernel
theorem d181_65 : decode (tb_me 181).1.2.1 65 = .ok (.invokevirtual 159, 3) := by decide +kernel
theorem d181_68 : decode (tb_me 181).1.2.1 68 = .ok (.ifCond .ne 5, 3) := by decide +kernel
theorem d181_73 : decode (tb_me 181).1.2.1 73 = .ok (.bipush 106, 2) := by decide +kernel
theorem d181_75 : decode (tb_me 181).1.2.1 75 = .ok (.bipush 10, 2) := by decide +kernel
theorem d181_77 : decode (tb_me 181).1.2.1 77 = .ok (.iload_n 2, 1) := by decide +kernel
theorem d181_78 : decode (tb_me 181).1.2.1 78 = .ok (.imul, 1) := by decide +kernel
theorem d181_79 : decode (tb_me 181).1.2.1 79 = .ok (.iadd, 1) := by decide +kernel
theorem d181_80 : decode (tb_me 181).1.2.1 80 = .ok (.aload_n 0, 1) := by decide +kernel
theorem d181_81 : decode (tb_me 181).1.2.1 81 = .ok (.getfield 109, 3) := by decide +kernel
theorem d181_84 : decode (tb_me 181).1.2.1 84 = .ok (.iadd, 1) := by decide +kernel
theorem d181_85 : decode (tb_me 181).1.2.1 85 = .ok (.istore 4, 2) := by decide +kernel
theorem d181_87 : decode (tb_me 181).1.2.1 87 = .ok (.aload_n 0, 1) := by decide +kernel
theorem d181_88 : decode (tb_me 181).1.2.1 88 = .ok (.getfield 26, 3) := by decide +kernel
theorem d181_91 : decode (tb_me 181).1.2.1 91 = .ok (.iload 4, 2) := by decide +kernel
theorem d181_93 : decode (tb_me 181).1.2.1 93 = .ok (.iaload, 1) := by decide +kernel
theorem d181_94 : decode (tb_me 181).1.2.1 94 = .ok (.ifCond .lt 10, 3) := by decide +kernel
theorem d181_104 : decode (tb_me 181).1.2.1 104 = .ok (.aload_n 0, 1) := by decide +kernel
theorem d181_105 : decode (tb_me 181).1.2.1 105 = .ok (.iload 4, 2) := by decide +kernel
theorem d181_107 : decode (tb_me 181).1.2.1 107 = .ok (.iconst 0, 1) := by decide +kernel
theorem d181_108 : decode (tb_me 181).1.2.1 108 = .ok (.aload_n 0, 1) := by decide +kernel
theorem d181_109 : decode (tb_me 181).1.2.1 109 = .ok (.getfield 26, 3) := by decide +kernel
theorem d181_112 : decode (tb_me 181).1.2.1 112 = .ok (.iconst 0, 1) := by decide +kernel
theorem d181_113 : decode (tb_me 181).1.2.1 113 = .ok (.iaload, 1) := by decide +kernel
theorem d181_114 : decode (tb_me 181).1.2.1 114 = .ok (.iconst 1, 1) := by decide +kernel
theorem d181_115 : decode (tb_me 181).1.2.1 115 = .ok (.isub, 1) := by decide +kernel
theorem d181_116 : decode (tb_me 181).1.2.1 116 = .ok (.invokevirtual 210, 3) := by decide +kernel
theorem k181_210 (b : Bool) : tb_lk b 181 210 = (2, 177, 0, 0, 0) := by cases b <;> decide +kernel
theorem d181_119 : decode (tb_me 181).1.2.1 119 = .ok (.ifCond .ne 5, 3) := by decide +kernel
theorem d181_124 : decode (tb_me 181).1.2.1 124 = .ok (.aload_n 0, 1) := by decide +kernel
theorem d181_125 : decode (tb_me 181).1.2.1 125 = .ok (.getfield 26, 3) := by decide +kernel
theorem d181_128 : decode (tb_me 181).1.2.1 128 = .ok (.iconst 3, 1) := by decide +kernel
theorem d181_129 : decode (tb_me 181).1.2.1 129 = .ok (.dup2, 1) := by decide +kernel
theorem d181_130 : decode (tb_me 181).1.2.1 130 = .ok (.iaload, 1) := by decide +kernel
theorem d181_131 : decode (tb_me 181).1.2.1 131 = .ok (.iconst 1, 1) := by decide +kernel
theorem d181_132 : decode (tb_me 181).1.2.1 132 = .ok (.iadd, 1) := by decide +kernel
theorem d181_133 : decode (tb_me 181).1.2.1 133 = .ok (.iastore, 1) := by decide +kernel
theorem d181_134 : decode (tb_me 181).1.2.1 134 = .ok (.iconst 1, 1) := by decide +kernel
theorem d181_135 : decode (tb_me 181).1.2.1 135 = .ok (.ireturn, 1) := by decide +kernel
theorem t181 : (tb_me 181).1.2.2.2 = some .boolean := by decide +kernel
theorem d181_122 : decode (tb_me 181).1.2.1 122 = .ok (.iconst 0, 1) := by decide +kernel
theorem d181_123 : decode (tb_me 181).1.2.1 123 = .ok (.ireturn, 1) := by decide +kernel
theorem d181_97 : decode (tb_me 181).1.2.1 97 = .ok (.aload_n 0, 1) := by decide +kernel
theorem d181_98 : decode (tb_me 181).1.2.1 98 = .ok (.iconst 1, 1) := by decide +kernel
theorem d181_99 : decode (tb_me 181).1.2.1 99 = .ok (.iload_n 3, 1) := by decide +kernel
theorem d181_100 : decode (tb_me 181).1.2.1 100 = .ok (.invokevirtual 105, 3) := by decide +kernel
theorem k181_105 (b : Bool) : tb_lk b 181 105 = (2, 154, 0, 0, 0) := by cases b <;> decide +kernel
theorem d181_103 : decode (tb_me 181).1.2.1 103 = .ok (.ireturn, 1) := by decide +kernel
theorem d181_71 : decode (tb_me 181).1.2.1 71 = .ok (.iconst 0, 1) := by decide +kernel
theorem d181_72 : decode (tb_me 181).1.2.1 72 = .ok (.ireturn, 1) := by decide +kernel
theorem d181_38 : decode (tb_me 181).1.2.1 38 = .ok (.iconst 0, 1) := by decide +kernel
theorem d181_39 : decode (tb_me 181).1.2.1 39 = .ok (.ireturn, 1) := by decide +kernel
theorem d181_11 : decode (tb_me 181).1.2.1 11 = .ok (.aload_n 0, 1) := by decide +kernel
theorem d181_12 : decode (tb_me 181).1.2.1 12 = .ok (.iconst 4, 1) := by decide +kernel
theorem d181_13 : decode (tb_me 181).1.2.1 13 = .ok (.iload_n 1, 1) := by decide +kernel
theorem d181_14 : decode (tb_me 181).1.2.1 14 = .ok (.invokevirtual 105, 3) := by decide +kernel
theorem d181_17 : decode (tb_me 181).1.2.1 17 = .ok (.ireturn, 1) := by decide +kernel
theorem e181 : (tb_me 181).2.1 = (0, 0) ∧ (tb_me 181).1.2.2.1 = 5 := by decide +kernel
theorem d182_0 : decode (tb_me 182).1.2.1 0 = .ok (.aload_n 0, 1) := by decide +kernel
theorem d182_1 : decode (tb_me 182).1.2.1 1 = .ok (.ldc2_w 214, 3) := by decide +kernel
theorem k182_214 (b : Bool) : tb_lk b 182 214 = (12, 0, 0, 0, 1936222576) := by cases b <;> decide +kernel
theorem d182_4 : decode (tb_me 182).1.2.1 4 = .ok (.invokevirtual 95, 3) := by decide +kernel
theorem k182_95 (b : Bool) : tb_lk b 182 95 = (2, 158, 0, 0, 0) := by cases b <;> decide +kernel
theorem d182_7 : decode (tb_me 182).1.2.1 7 = .ok (.ifCond .eq 9, 3) := by decide +kernel
theorem d182_16 : decode (tb_me 182).1.2.1 16 = .ok (.aload_n 0, 1) := by decide +kernel
theorem d182_17 : decode (tb_me 182).1.2.1 17 = .ok (.getfield 26, 3) := by decide +kernel
theorem k182_26 (b : Bool) : tb_lk b 182 26 = (1, 10, 7, 0, 0) := by cases b <;> decide +kernel
theorem d182_20 : decode (tb_me 182).1.2.1 20 = .ok (.iconst 0, 1) := by decide +kernel
theorem d182_21 : decode (tb_me 182).1.2.1 21 = .ok (.iaload, 1) := by decide +kernel
theorem d182_22 : decode (tb_me 182).1.2.1 22 = .ok (.ifCond .ne 10, 3) := by decide +kernel
theorem d182_32 : decode (tb_me 182).1.2.1 32 = .ok (.aload_n 0, 1) := by decide +kernel
theorem d182_33 : decode (tb_me 182).1.2.1 33 = .ok (.ldc2_w 116, 3) := by decide +kernel
theorem k182_116 (b : Bool) : tb_lk b 182 116 = (12, 0, 0, 0, 7168366) := by cases b <;> decide +kernel
theorem d182_36 : decode (tb_me 182).1.2.1 36 = .ok (.invokevirtual 95, 3) := by decide +kernel
theorem d182_39 : decode (tb_me 182).1.2.1 39 = .ok (.ifCond .eq 11, 3) := by decide +kernel
theorem d182_50 : decode (tb_me 182).1.2.1 50 = .ok (.aload_n 0, 1) := by decide +kernel
theorem d182_51 : decode (tb_me 182).1.2.1 51 = .ok (.ldc2_w 222, 3) := by decide +kernel
theorem k182_222 (b : Bool) : tb_lk b 182 222 = (12, 0, 0, 0, 478660552050) := by cases b <;> decide +kernel
theorem d182_54 : decode (tb_me 182).1.2.1 54 = .ok (.invokevirtual 95, 3) := by decide +kernel
theorem d182_57 : decode (tb_me 182).1.2.1 57 = .ok (.ifCond .eq 11, 3) := by decide +kernel
theorem d182_68 : decode (tb_me 182).1.2.1 68 = .ok (.aload_n 0, 1) := by decide +kernel
theorem d182_69 : decode (tb_me 182).1.2.1 69 = .ok (.iload_n 1, 1) := by decide +kernel
theorem d182_70 : decode (tb_me 182).1.2.1 70 = .ok (.invokevirtual 227, 3) := by decide +kernel
theorem k182_227 (b : Bool) : tb_lk b 182 227 = (2, 181, 0, 0, 0) := by cases b <;> decide +kernel
theorem m181 : (tb_me 181).2 = ((0, 0), (1, 10)) ∧ (tb_me 181).1.2.2.1 = 5 := by decide +kernel
theorem d182_73 : decode (tb_me 182).1.2.1 73 = .ok (.ireturn, 1) := by decide +kernel
theorem t182 : (tb_me 182).1.2.2.2 = some .boolean := by decide +kernel
theorem d182_60 : decode (tb_me 182).1.2.1 60 = .ok (.aload_n 0, 1) := by decide +kernel
theorem d182_61 : decode (tb_me 182).1.2.1 61 = .ok (.iload_n 1, 1) := by decide +kernel
theorem d182_62 : decode (tb_me 182).1.2.1 62 = .ok (.invokevirtual 224, 3) := by decide +kernel
theorem k182_224 (b : Bool) : tb_lk b 182 224 = (2, 180, 0, 0, 0) := by cases b <;> decide +kernel
theorem m180 : (tb_me 180).2 = ((0, 0), (1, 10)) ∧ (tb_me 180).1.2.2.1 = 6 := by decide +kernel
theorem d182_65 : decode (tb_me 182).1.2.1 65 = .ok (.goto 8, 3) := by decide +kernel
theorem d182_42 : decode (tb_me 182).1.2.1 42 = .ok (.aload_n 0, 1) := by decide +kernel
theorem d182_43 : decode (tb_me 182).1.2.1 43 = .ok (.iload_n 1, 1) := by decide +kernel
theorem d182_44 : decode (tb_me 182).1.2.1 44 = .ok (.invokevirtual 219, 3) := by decide +kernel
theorem k182_219 (b : Bool) : tb_lk b 182 219 = (2, 179, 0, 0, 0) := by cases b <;> decide +kernel
theorem m179 : (tb_me 179).2 = ((0, 0), (1, 10)) ∧ (tb_me 179).1.2.2.1 = 4 := by decide +kernel
theorem d182_47 : decode (tb_me 182).1.2.1 47 = .ok (.goto 26, 3) := by decide +kernel
theorem d182_25 : decode (tb_me 182).1.2.1 25 = .ok (.aload_n 0, 1) := by decide +kernel
theorem d182_26 : decode (tb_me 182).1.2.1 26 = .ok (.iconst 4, 1) := by decide +kernel
theorem d182_27 : decode (tb_me 182).1.2.1 27 = .ok (.iload_n 1, 1) := by decide +kernel
theorem d182_28 : decode (tb_me 182).1.2.1 28 = .ok (.invokevirtual 105, 3) := by decide +kernel
theorem k182_105 (b : Bool) : tb_lk b 182 105 = (2, 154, 0, 0, 0) := by cases b <;> decide +kernel
theorem d182_31 : decode (tb_me 182).1.2.1 31 = .ok (.ireturn, 1) := by decide +kernel
theorem d182_10 : decode (tb_me 182).1.2.1 10 = .ok (.aload_n 0, 1) := by decide +kernel
theorem d182_11 : decode (tb_me 182).1.2.1 11 = .ok (.iload_n 1, 1) := by decide +kernel
theorem d182_12 : decode (tb_me 182).1.2.1 12 = .ok (.invokevirtual 216, 3) := by decide +kernel
theorem k182_216 (b : Bool) : tb_lk b 182 216 = (2, 178, 0, 0, 0) := by cases b <;> decide +kernel
theorem m178 : (tb_me 178).2 = ((0, 0), (1, 10)) ∧ (tb_me 178).1.2.2.1 = 2 := by decide +kernel
theorem d182_15 : decode (tb_me 182).1.2.1 15 = .ok (.ireturn, 1) := by decide +kernel
theorem e182 : (tb_me 182).2.1 = (0, 0) ∧ (tb_me 182).1.2.2.1 = 2 := by decide +kernel
theorem d183_114 : decode (tb_me 183).1.2.1 114 = .ok (.if_icmp .ne 10, 3) := by decide +kernel
theorem d183_124 : decode (tb_me 183).1.2.1 124 = .ok (.aload_n 0, 1) := by decide +kernel
theorem d183_125 : decode (tb_me 183).1.2.1 125 = .ok (.dup, 1) := by decide +kernel
theorem d183_126 : decode (tb_me 183).1.2.1 126 = .ok (.getfield 234, 3) := by decide +kernel
theorem k183_234 (b : Bool) : tb_lk b 183 234 = (1, 10, 14, 0, 0) := by cases b <;> decide +kernel
theorem f10_14 : (14 < pm_nf tb_cl 10) ∧ tb_ft 10 14 ≠ .long ∧ pm_isR (tb_ft 10 14) = false := by decide +kernel
theorem d183_129 : decode (tb_me 183).1.2.1 129 = .ok (.iconst 1, 1) := by decide +kernel
theorem d183_130 : decode (tb_me 183).1.2.1 130 = .ok (.iadd, 1) := by decide +kernel
theorem d183_131 : decode (tb_me 183).1.2.1 131 = .ok (.putfield 234, 3) := by decide +kernel
theorem p183_10_14 : (14 < pm_nf tb_cl 10) ∧ tb_ft 10 14 = .int ∧ pm_fin tb_cl (tb_me 183).1.1 10 14 = true := by decide +kernel
theorem d183_134 : decode (tb_me 183).1.2.1 134 = .ok (.iload_n 2, 1) := by decide +kernel
theorem d183_135 : decode (tb_me 183).1.2.1 135 = .ok (.ifCond .eq 11, 3) := by decide +kernel
theorem d183_146 : decode (tb_me 183).1.2.1 146 = .ok (.aload_n 0, 1) := by decide +kernel
theorem d183_147 : decode (tb_me 183).1.2.1 147 = .ok (.invokevirtual 240, 3) := by decide +kernel
theorem k183_240 (b : Bool) : tb_lk b 183 240 = (2, 176, 0, 0, 0) := by cases b <;> decide +kernel
theorem m176 : (tb_me 176).2 = ((0, 0), (0, 10)) ∧ (tb_me 176).1.2.2.1 = 2 := by decide +kernel
theorem d183_150 : decode (tb_me 183).1.2.1 150 = .ok (.ireturn, 1) := by decide +kernel
theorem t183 : (tb_me 183).1.2.2.2 = some .boolean := by decide +kernel
theorem d183_138 : decode (tb_me 183).1.2.1 138 = .ok (.aload_n 0, 1) := by decide +kernel
theorem d183_139 : decode (tb_me 183).1.2.1 139 = .ok (.iload_n 1, 1) := by decide +kernel
theorem d183_140 : decode (tb_me 183).1.2.1 140 = .ok (.invokevirtual 237, 3) := by decide +kernel
theorem k183_237 (b : Bool) : tb_lk b 183 237 = (2, 182, 0, 0, 0) := by cases b <;> decide +kernel
theorem m182 : (tb_me 182).2 = ((0, 0), (1, 10)) ∧ (tb_me 182).1.2.2.1 = 2 := by decide +kernel
theorem d183_143 : decode (tb_me 183).1.2.1 143 = .ok (.goto 7, 3) := by decide +kernel
theorem d183_117 : decode (tb_me 183).1.2.1 117 = .ok (.aload_n 0, 1) := by decide +kernel
theorem d183_118 : decode (tb_me 183).1.2.1 118 = .ok (.iconst 4, 1) := by decide +kernel
theorem d183_119 : decode (tb_me 183).1.2.1 119 = .ok (.iload_n 1, 1) := by decide +kernel
theorem d183_120 : decode (tb_me 183).1.2.1 120 = .ok (.invokevirtual 105, 3) := by decide +kernel
theorem k183_105 (b : Bool) : tb_lk b 183 105 = (2, 154, 0, 0, 0) := by cases b <;> decide +kernel
theorem d183_123 : decode (tb_me 183).1.2.1 123 = .ok (.ireturn, 1) := by decide +kernel
theorem d183_99 : decode (tb_me 183).1.2.1 99 = .ok (.aload_n 0, 1) := by decide +kernel
theorem d183_100 : decode (tb_me 183).1.2.1 100 = .ok (.getfield 234, 3) := by decide +kernel
theorem d183_103 : decode (tb_me 183).1.2.1 103 = .ok (.iload_n 2, 1) := by decide +kernel
theorem d183_104 : decode (tb_me 183).1.2.1 104 = .ok (.ifCond .eq 8, 3) := by decide +kernel
theorem d183_112 : decode (tb_me 183).1.2.1 112 = .ok (.bipush 12, 2) := by decide +kernel
theorem d183_107 : decode (tb_me 183).1.2.1 107 = .ok (.bipush 40, 2) := by decide +kernel
theorem d183_109 : decode (tb_me 183).1.2.1 109 = .ok (.goto 5, 3) := by decide +kernel
theorem d183_92 : decode (tb_me 183).1.2.1 92 = .ok (.aload_n 0, 1) := by decide +kernel
theorem d183_93 : decode (tb_me 183).1.2.1 93 = .ok (.iconst 0, 1) := by decide +kernel
theorem d183_94 : decode (tb_me 183).1.2.1 94 = .ok (.iload_n 1, 1) := by decide +kernel
theorem d183_95 : decode (tb_me 183).1.2.1 95 = .ok (.invokevirtual 105, 3) := by decide +kernel
theorem d183_98 : decode (tb_me 183).1.2.1 98 = .ok (.ireturn, 1) := by decide +kernel
theorem d183_70 : decode (tb_me 183).1.2.1 70 = .ok (.istore_n 3, 1) := by decide +kernel
theorem d183_71 : decode (tb_me 183).1.2.1 71 = .ok (.iload_n 2, 1) := by decide +kernel
theorem d183_72 : decode (tb_me 183).1.2.1 72 = .ok (.ifCond .eq 10, 3) := by decide +kernel
theorem d183_82 : decode (tb_me 183).1.2.1 82 = .ok (.aload_n 0, 1) := by decide +kernel
theorem d183_83 : decode (tb_me 183).1.2.1 83 = .ok (.ldc2_w 232, 3) := by decide +kernel
theorem k183_232 (b : Bool) : tb_lk b 183 232 = (12, 0, 0, 0, 2002873189) := by cases b <;> decide +kernel
theorem d183_86 : decode (tb_me 183).1.2.1 86 = .ok (.invokevirtual 95, 3) := by decide +kernel
theorem k183_95 (b : Bool) : tb_lk b 183 95 = (2, 158, 0, 0, 0) := by cases b <;> decide +kernel
theorem d183_89 : decode (tb_me 183).1.2.1 89 = .ok (.ifCond .ne 10, 3) := by decide +kernel
theorem d183_75 : decode (tb_me 183).1.2.1 75 = .ok (.iload_n 3, 1) := by decide +kernel
theorem d183_76 : decode (tb_me 183).1.2.1 76 = .ok (.ifCond .ne 23, 3) := by decide +kernel
theorem d183_79 : decode (tb_me 183).1.2.1 79 = .ok (.goto 13, 3) := by decide +kernel
theorem d183_65 : decode (tb_me 183).1.2.1 65 = .ok (.iconst 1, 1) := by decide +kernel
theorem d183_66 : decode (tb_me 183).1.2.1 66 = .ok (.goto 4, 3) := by decide +kernel
theorem d183_24 : decode (tb_me 183).1.2.1 24 = .ok (.istore_n 2, 1) := by decide +kernel
theorem d183_25 : decode (tb_me 183).1.2.1 25 = .ok (.aload_n 0, 1) := by decide +kernel
theorem d183_26 : decode (tb_me 183).1.2.1 26 = .ok (.ldc2_w 214, 3) := by decide +kernel
theorem k183_214 (b : Bool) : tb_lk b 183 214 = (12, 0, 0, 0, 1936222576) := by cases b <;> decide +kernel
theorem d183_29 : decode (tb_me 183).1.2.1 29 = .ok (.invokevirtual 95, 3) := by decide +kernel
theorem d183_32 : decode (tb_me 183).1.2.1 32 = .ok (.ifCond .ne 33, 3) := by decide +kernel
theorem d183_35 : decode (tb_me 183).1.2.1 35 = .ok (.aload_n 0, 1) := by decide +kernel
theorem d183_36 : decode (tb_me 183).1.2.1 36 = .ok (.ldc2_w 116, 3) := by decide +kernel
theorem k183_116 (b : Bool) : tb_lk b 183 116 = (12, 0, 0, 0, 7168366) := by cases b <;> decide +kernel
theorem d183_39 : decode (tb_me 183).1.2.1 39 = .ok (.invokevirtual 95, 3) := by decide +kernel
theorem d183_42 : decode (tb_me 183).1.2.1 42 = .ok (.ifCond .ne 23, 3) := by decide +kernel
theorem d183_45 : decode (tb_me 183).1.2.1 45 = .ok (.aload_n 0, 1) := by decide +kernel
theorem d183_46 : decode (tb_me 183).1.2.1 46 = .ok (.ldc2_w 222, 3) := by decide +kernel
theorem k183_222 (b : Bool) : tb_lk b 183 222 = (12, 0, 0, 0, 478660552050) := by cases b <;> decide +kernel
theorem d183_49 : decode (tb_me 183).1.2.1 49 = .ok (.invokevirtual 95, 3) := by decide +kernel
theorem d183_52 : decode (tb_me 183).1.2.1 52 = .ok (.ifCond .ne 13, 3) := by decide +kernel
theorem d183_55 : decode (tb_me 183).1.2.1 55 = .ok (.aload_n 0, 1) := by decide +kernel
theorem d183_56 : decode (tb_me 183).1.2.1 56 = .ok (.ldc2_w 230, 3) := by decide +kernel
theorem k183_230 (b : Bool) : tb_lk b 183 230 = (12, 0, 0, 0, 469852319347) := by cases b <;> decide +kernel
theorem d183_59 : decode (tb_me 183).1.2.1 59 = .ok (.invokevirtual 95, 3) := by decide +kernel
theorem d183_62 : decode (tb_me 183).1.2.1 62 = .ok (.ifCond .eq 7, 3) := by decide +kernel
theorem d183_69 : decode (tb_me 183).1.2.1 69 = .ok (.iconst 0, 1) := by decide +kernel
theorem d183_0 : decode (tb_me 183).1.2.1 0 = .ok (.aload_n 0, 1) := by decide +kernel
theorem d183_1 : decode (tb_me 183).1.2.1 1 = .ok (.invokevirtual 87, 3) := by decide +kernel
theorem k183_87 (b : Bool) : tb_lk b 183 87 = (2, 155, 0, 0, 0) := by cases b <;> decide +kernel
theorem d183_4 : decode (tb_me 183).1.2.1 4 = .ok (.pop, 1) := by decide +kernel
theorem d183_5 : decode (tb_me 183).1.2.1 5 = .ok (.aload_n 0, 1) := by decide +kernel
theorem d183_6 : decode (tb_me 183).1.2.1 6 = .ok (.getfield 84, 3) := by decide +kernel
theorem k183_84 (b : Bool) : tb_lk b 183 84 = (1, 10, 8, 0, 0) := by cases b <;> decide +kernel
theorem d183_9 : decode (tb_me 183).1.2.1 9 = .ok (.istore_n 1, 1) := by decide +kernel
theorem d183_10 : decode (tb_me 183).1.2.1 10 = .ok (.aload_n 0, 1) := by decide +kernel
theorem d183_11 : decode (tb_me 183).1.2.1 11 = .ok (.getfield 138, 3) := by decide +kernel
theorem k183_138 (b : Bool) : tb_lk b 183 138 = (1, 10, 11, 0, 0) := by cases b <;> decide +kernel
theorem d183_14 : decode (tb_me 183).1.2.1 14 = .ok (.bipush 6, 2) := by decide +kernel
theorem d183_16 : decode (tb_me 183).1.2.1 16 = .ok (.if_icmp .ne 7, 3) := by decide +kernel
theorem d183_23 : decode (tb_me 183).1.2.1 23 = .ok (.iconst 0, 1) := by decide +kernel
theorem d183_19 : decode (tb_me 183).1.2.1 19 = .ok (.iconst 1, 1) := by decide +kernel
theorem d183_20 : decode (tb_me 183).1.2.1 20 = .ok (.goto 4, 3) := by decide +kernel
theorem e183 : (tb_me 183).2.1 = (0, 0) ∧ (tb_me 183).1.2.2.1 = 4 := by decide +kernel
theorem d184_88 : decode (tb_me 184).1.2.1 88 = .ok (.aload_n 0, 1) := by decide +kernel
theorem d184_89 : decode (tb_me 184).1.2.1 89 = .ok (.iconst 0, 1) := by decide +kernel
theorem d184_90 : decode (tb_me 184).1.2.1 90 = .ok (.putfield 73, 3) := by decide +kernel
theorem k184_73 (b : Bool) : tb_lk b 184 73 = (1, 10, 1, 0, 0) := by cases b <;> decide +kernel
theorem p184_10_1 : (1 < pm_nf tb_cl 10) ∧ tb_ft 10 1 = .int ∧ pm_fin tb_cl (tb_me 184).1.1 10 1 = true := by decide +kernel
theorem d184_93 : decode (tb_me 184).1.2.1 93 = .ok (.aload_n 0, 1) := by decide +kernel
theorem d184_94 : decode (tb_me 184).1.2.1 94 = .ok (.getfield 81, 3) := by decide +kernel
theorem k184_81 (b : Bool) : tb_lk b 184 81 = (1, 10, 9, 0, 0) := by cases b <;> decide +kernel
theorem d184_97 : decode (tb_me 184).1.2.1 97 = .ok (.ifCond .ne 7, 3) := by decide +kernel
theorem d184_104 : decode (tb_me 184).1.2.1 104 = .ok (.iconst 0, 1) := by decide +kernel
theorem d184_105 : decode (tb_me 184).1.2.1 105 = .ok (.ireturn, 1) := by decide +kernel
theorem t184 : (tb_me 184).1.2.2.2 = some .boolean := by decide +kernel
theorem d184_100 : decode (tb_me 184).1.2.1 100 = .ok (.iconst 1, 1) := by decide +kernel
theorem d184_101 : decode (tb_me 184).1.2.1 101 = .ok (.goto 4, 3) := by decide +kernel
theorem d184_66 : decode (tb_me 184).1.2.1 66 = .ok (.iload_n 1, 1) := by decide +kernel
theorem d184_67 : decode (tb_me 184).1.2.1 67 = .ok (.ifCond .eq 21, 3) := by decide +kernel
theorem d184_70 : decode (tb_me 184).1.2.1 70 = .ok (.aload_n 0, 1) := by decide +kernel
theorem d184_71 : decode (tb_me 184).1.2.1 71 = .ok (.invokevirtual 87, 3) := by decide +kernel
theorem k184_87 (b : Bool) : tb_lk b 184 87 = (2, 155, 0, 0, 0) := by cases b <;> decide +kernel
theorem d184_74 : decode (tb_me 184).1.2.1 74 = .ok (.iconst (-1), 1) := by decide +kernel
theorem d184_75 : decode (tb_me 184).1.2.1 75 = .ok (.if_icmp .eq 13, 3) := by decide +kernel
theorem d184_78 : decode (tb_me 184).1.2.1 78 = .ok (.aload_n 0, 1) := by decide +kernel
theorem d184_79 : decode (tb_me 184).1.2.1 79 = .ok (.iconst 0, 1) := by decide +kernel
theorem d184_80 : decode (tb_me 184).1.2.1 80 = .ok (.aload_n 0, 1) := by decide +kernel
theorem d184_81 : decode (tb_me 184).1.2.1 81 = .ok (.getfield 84, 3) := by decide +kernel
theorem k184_84 (b : Bool) : tb_lk b 184 84 = (1, 10, 8, 0, 0) := by cases b <;> decide +kernel
theorem d184_84 : decode (tb_me 184).1.2.1 84 = .ok (.invokevirtual 105, 3) := by decide +kernel
theorem k184_105 (b : Bool) : tb_lk b 184 105 = (2, 154, 0, 0, 0) := by cases b <;> decide +kernel
theorem d184_87 : decode (tb_me 184).1.2.1 87 = .ok (.pop, 1) := by decide +kernel
theorem d184_35 : decode (tb_me 184).1.2.1 35 = .ok (.iload_n 1, 1) := by decide +kernel
theorem d184_36 : decode (tb_me 184).1.2.1 36 = .ok (.ifCond .eq 30, 3) := by decide +kernel
theorem d184_39 : decode (tb_me 184).1.2.1 39 = .ok (.aload_n 0, 1) := by decide +kernel
theorem d184_40 : decode (tb_me 184).1.2.1 40 = .ok (.invokevirtual 87, 3) := by decide +kernel
theorem d184_43 : decode (tb_me 184).1.2.1 43 = .ok (.bipush 59, 2) := by decide +kernel
theorem d184_45 : decode (tb_me 184).1.2.1 45 = .ok (.if_icmp .ne 21, 3) := by decide +kernel
theorem d184_48 : decode (tb_me 184).1.2.1 48 = .ok (.aload_n 0, 1) := by decide +kernel
theorem d184_49 : decode (tb_me 184).1.2.1 49 = .ok (.dup, 1) := by decide +kernel
theorem d184_50 : decode (tb_me 184).1.2.1 50 = .ok (.getfield 84, 3) := by decide +kernel
theorem d184_53 : decode (tb_me 184).1.2.1 53 = .ok (.iconst 1, 1) := by decide +kernel
theorem d184_54 : decode (tb_me 184).1.2.1 54 = .ok (.iadd, 1) := by decide +kernel
theorem d184_55 : decode (tb_me 184).1.2.1 55 = .ok (.putfield 84, 3) := by decide +kernel
theorem p184_10_8 : (8 < pm_nf tb_cl 10) ∧ tb_ft 10 8 = .int ∧ pm_fin tb_cl (tb_me 184).1.1 10 8 = true := by decide +kernel
theorem d184_58 : decode (tb_me 184).1.2.1 58 = .ok (.aload_n 0, 1) := by decide +kernel
theorem d184_59 : decode (tb_me 184).1.2.1 59 = .ok (.invokevirtual 243, 3) := by decide +kernel
theorem k184_243 (b : Bool) : tb_lk b 184 243 = (2, 183, 0, 0, 0) := by cases b <;> decide +kernel
theorem m183 : (tb_me 183).2 = ((0, 0), (0, 10)) ∧ (tb_me 183).1.2.2.1 = 4 := by decide +kernel
theorem d184_62 : decode (tb_me 184).1.2.1 62 = .ok (.istore_n 1, 1) := by decide +kernel
theorem d184_63 : decode (tb_me 184).1.2.1 63 = .ok (.goto (-28), 3) := by decide +kernel
theorem d184_0 : decode (tb_me 184).1.2.1 0 = .ok (.aload_n 0, 1) := by decide +kernel
theorem d184_1 : decode (tb_me 184).1.2.1 1 = .ok (.getfield 17, 3) := by decide +kernel
theorem k184_17 (b : Bool) : tb_lk b 184 17 = (1, 10, 4, 0, 0) := by cases b <;> decide +kernel
theorem d184_4 : decode (tb_me 184).1.2.1 4 = .ok (.aload_n 0, 1) := by decide +kernel
theorem d184_5 : decode (tb_me 184).1.2.1 5 = .ok (.getfield 138, 3) := by decide +kernel
theorem k184_138 (b : Bool) : tb_lk b 184 138 = (1, 10, 11, 0, 0) := by cases b <;> decide +kernel
theorem d184_8 : decode (tb_me 184).1.2.1 8 = .ok (.iconst 0, 1) := by decide +kernel
theorem d184_9 : decode (tb_me 184).1.2.1 9 = .ok (.iastore, 1) := by decide +kernel
theorem d184_10 : decode (tb_me 184).1.2.1 10 = .ok (.aload_n 0, 1) := by decide +kernel
theorem d184_11 : decode (tb_me 184).1.2.1 11 = .ok (.iconst 0, 1) := by decide +kernel
theorem d184_12 : decode (tb_me 184).1.2.1 12 = .ok (.putfield 234, 3) := by decide +kernel
theorem k184_234 (b : Bool) : tb_lk b 184 234 = (1, 10, 14, 0, 0) := by cases b <;> decide +kernel
theorem p184_10_14 : (14 < pm_nf tb_cl 10) ∧ tb_ft 10 14 = .int ∧ pm_fin tb_cl (tb_me 184).1.1 10 14 = true := by decide +kernel
theorem d184_15 : decode (tb_me 184).1.2.1 15 = .ok (.aload_n 0, 1) := by decide +kernel
theorem d184_16 : decode (tb_me 184).1.2.1 16 = .ok (.iconst 0, 1) := by decide +kernel
theorem d184_17 : decode (tb_me 184).1.2.1 17 = .ok (.putfield 84, 3) := by decide +kernel
theorem d184_20 : decode (tb_me 184).1.2.1 20 = .ok (.aload_n 0, 1) := by decide +kernel
theorem d184_21 : decode (tb_me 184).1.2.1 21 = .ok (.iconst 0, 1) := by decide +kernel
theorem d184_22 : decode (tb_me 184).1.2.1 22 = .ok (.putfield 81, 3) := by decide +kernel
theorem p184_10_9 : (9 < pm_nf tb_cl 10) ∧ tb_ft 10 9 = .int ∧ pm_fin tb_cl (tb_me 184).1.1 10 9 = true := by decide +kernel
theorem d184_25 : decode (tb_me 184).1.2.1 25 = .ok (.aload_n 0, 1) := by decide +kernel
theorem d184_26 : decode (tb_me 184).1.2.1 26 = .ok (.iconst 0, 1) := by decide +kernel
theorem d184_27 : decode (tb_me 184).1.2.1 27 = .ok (.putfield 141, 3) := by decide +kernel
theorem k184_141 (b : Bool) : tb_lk b 184 141 = (1, 10, 12, 0, 0) := by cases b <;> decide +kernel
theorem p184_10_12 : (12 < pm_nf tb_cl 10) ∧ tb_ft 10 12 = .int ∧ pm_fin tb_cl (tb_me 184).1.1 10 12 = true := by decide +kernel
theorem d184_30 : decode (tb_me 184).1.2.1 30 = .ok (.aload_n 0, 1) := by decide +kernel
theorem d184_31 : decode (tb_me 184).1.2.1 31 = .ok (.invokevirtual 243, 3) := by decide +kernel
theorem d184_34 : decode (tb_me 184).1.2.1 34 = .ok (.istore_n 1, 1) := by decide +kernel
theorem e184 : (tb_me 184).2.1 = (0, 0) ∧ (tb_me 184).1.2.2.1 = 2 := by decide +kernel
noncomputable def m_in (l0 : Int64) (l2 : Int64) (l4 : Int64) (h : pm_H) : Option Int32 := if (lg_cmp l0 l2) < 0 then (some (Int32.ofInt 0)) else (if 0 < (lg_cmp l0 l4) then (some (Int32.ofInt 0)) else (some (Int32.ofInt 1)))
theorem T_m_in (b : Bool) (L : Nat) (xs : Nat → Int32) (d : Nat) (hd : 0 ≤ d) (h : pm_H) (s_h : h.1 = tb_SH) (l0 : Int64) (l2 : Int64) (l4 : Int64) {r : Int32} (hm : m_in l0 l2 l4 h = some r) : PC b L xs d 148 [(Value.long l0), (Value.long l2), (Value.long l4)] h (fun (v0 : Option Value) (h2 : pm_H) => v0 = (some (Value.int r)) ∧ h2 = h ∧ h2.1 = tb_SH) := by
  refine pc_in e148 (ls0 := [(Value.long l0), Value.retAddr 0, (Value.long l2), Value.retAddr 0, (Value.long l4), Value.retAddr 0]) rfl ?_
  have key : ∀ (Q : Option Value → pm_H → Prop), (Q (some (Value.int r)) h) → PW b L xs d 148 0 0 0 [(Value.long l0), Value.retAddr 0, (Value.long l2), Value.retAddr 0, (Value.long l4), Value.retAddr 0] [] h Q := by
    intro Q hE
    rw [m_in] at hm
    refine pw_l (pc := 0) d148_0 rfl rfl rfl ?_
    refine pw_l (pc := 1) d148_1 rfl rfl rfl ?_
    refine pw_s (pc := 2) d148_2 rfl rfl ?_
    refine pw_zlt (pc := 3) (t := 17) d148_3 (by decide) (fun c1 => ?_) (fun c1 => ?_)
    · rw [if_pos (show (lg_cmp l0 l2) < 0 from c1)] at hm
      refine pw_s (pc := 17) d148_17 rfl rfl ?_
      obtain rfl := Option.some.inj hm
      refine pw_ri (pc := 18) d148_18 t148 rfl ?_
      exact hE
    · rw [if_neg (show ¬ ((lg_cmp l0 l2) < 0) from c1)] at hm
      refine pw_l (pc := 6) d148_6 rfl rfl rfl ?_
      refine pw_l (pc := 7) d148_7 rfl rfl rfl ?_
      refine pw_s (pc := 9) d148_9 rfl rfl ?_
      refine pw_zgt (pc := 10) (t := 17) d148_10 (by decide) (fun c2 => ?_) (fun c2 => ?_)
      · rw [if_pos (show 0 < (lg_cmp l0 l4) from c2)] at hm
        refine pw_s (pc := 17) d148_17 rfl rfl ?_
        obtain rfl := Option.some.inj hm
        refine pw_ri (pc := 18) d148_18 t148 rfl ?_
        exact hE
      · rw [if_neg (show ¬ (0 < (lg_cmp l0 l4)) from c2)] at hm
        refine pw_s (pc := 13) d148_13 rfl rfl ?_
        refine pw_go (pc := 14) (t := 18) d148_14 (by decide) ?_
        obtain rfl := Option.some.inj hm
        refine pw_ri (pc := 18) d148_18 t148 rfl ?_
        exact hE
  exact key _ ⟨rfl, rfl, s_h⟩
noncomputable def m_isOf (l0 : Int32) (l1 : Int32) (h : pm_H) : Option Int32 := if ¬ ((l0 >>> (l1 &&& 31)) &&& (Int32.ofInt 1)) = (Int32.ofInt 1) then (some (Int32.ofInt 0)) else (some (Int32.ofInt 1))
theorem T_m_isOf (b : Bool) (L : Nat) (xs : Nat → Int32) (d : Nat) (hd : 0 ≤ d) (h : pm_H) (s_h : h.1 = tb_SH) (l0 : Int32) (l1 : Int32) {r : Int32} (hm : m_isOf l0 l1 h = some r) : PC b L xs d 149 [(Value.int l0), (Value.int l1)] h (fun (v0 : Option Value) (h2 : pm_H) => v0 = (some (Value.int r)) ∧ h2 = h ∧ h2.1 = tb_SH) := by
  refine pc_in e149 (ls0 := [(Value.int l0), (Value.int l1)]) rfl ?_
  have key : ∀ (Q : Option Value → pm_H → Prop), (Q (some (Value.int r)) h) → PW b L xs d 149 0 0 0 [(Value.int l0), (Value.int l1)] [] h Q := by
    intro Q hE
    rw [m_isOf] at hm
    refine pw_l (pc := 0) d149_0 rfl rfl rfl ?_
    refine pw_l (pc := 1) d149_1 rfl rfl rfl ?_
    refine pw_s (pc := 2) d149_2 rfl rfl ?_
    refine pw_s (pc := 3) d149_3 rfl rfl ?_
    refine pw_s (pc := 4) d149_4 rfl rfl ?_
    refine pw_s (pc := 5) d149_5 rfl rfl ?_
    refine pw_ine (pc := 6) (t := 13) d149_6 (by decide) (fun c1 => ?_) (fun c1 => ?_)
    · rw [if_pos c1] at hm
      refine pw_s (pc := 13) d149_13 rfl rfl ?_
      obtain rfl := Option.some.inj hm
      refine pw_ri (pc := 14) d149_14 t149 rfl ?_
      exact hE
    · rw [if_neg c1] at hm
      refine pw_s (pc := 9) d149_9 rfl rfl ?_
      refine pw_go (pc := 10) (t := 14) d149_10 (by decide) ?_
      obtain rfl := Option.some.inj hm
      refine pw_ri (pc := 14) d149_14 t149 rfl ?_
      exact hE
  exact key _ ⟨rfl, rfl, s_h⟩
def E_m_bits_4 (b : Bool) (L : Nat) (xs : Nat → Int32) (d : Nat) (Q : Option Value → pm_H → Prop) (h : pm_H) : ((Int32 × Int32) ⊕ Int32) → Prop
  | .inl s => ∀ w0 : Value, PW b L xs d 150 0 0 4 [w0, (Value.int s.1), (Value.int s.2)] [] h Q
  | .inr e => ∀ w0 w2 : Value, PW b L xs d 150 0 0 20 [w0, (Value.int e), w2] [] h Q
noncomputable def m_bits_4 (l1 : Int32) (l2 : Int32) (h : pm_H) : Option ((Int32 × Int32) ⊕ Int32) := if l2 = 0 then (some (.inr l1)) else (some (.inl ((l1 + Int32.ofInt 1), (l2 &&& (l2 - (Int32.ofInt 1))))))
theorem t_m_bits_4 (b : Bool) (L : Nat) (xs : Nat → Int32) (d : Nat) (hd : 0 ≤ d) {Q : Option Value → pm_H → Prop} (h : pm_H) (s_h : h.1 = tb_SH) (l1 : Int32) (l2 : Int32) (w0 : Value) {r : ((Int32 × Int32) ⊕ Int32)} (hm : m_bits_4 l1 l2 h = some r) (hE : E_m_bits_4 b L xs d Q h r) : PW b L xs d 150 0 0 4 [w0, (Value.int l1), (Value.int l2)] [] h Q := by
  rw [m_bits_4] at hm
  refine pw_l (pc := 4) d150_4 rfl rfl rfl ?_
  refine pw_zeq (pc := 5) (t := 20) d150_5 (by decide) (fun c1 => ?_) (fun c1 => ?_)
  · rw [if_pos c1] at hm
    obtain rfl := Option.some.inj hm
    exact hE   w0 (Value.int l2)
  · rw [if_neg c1] at hm
    refine pw_t (pc := 8) d150_8 rfl rfl rfl (n := 3) (ls' := [(mi_w w0), (Value.int (l1 + Int32.ofInt 1)), (Value.int l2)]) (st' := []) (by by_cases hw : Value.category w0 = 2 <;> simp [pm_sto, pm_sI, pm_sL, pm_sA, pm_inc, pm_st1, pm_st2, pm_pre, mi_w, hw] <;> first | done | exact ⟨by decide, rfl⟩ | rfl) ?_
    refine pw_l (pc := 11) d150_11 rfl rfl rfl ?_
    refine pw_l (pc := 12) d150_12 rfl rfl rfl ?_
    refine pw_s (pc := 13) d150_13 rfl rfl ?_
    refine pw_s (pc := 14) d150_14 rfl rfl ?_
    refine pw_s (pc := 15) d150_15 rfl rfl ?_
    refine pw_t (pc := 16) d150_16 rfl rfl rfl rfl ?_
    refine pw_go (pc := 17) (t := 4) d150_17 (by decide) ?_
    obtain rfl := Option.some.inj hm
    exact hE   (mi_w w0)
noncomputable def m_bits (l0 : Int32) (h : pm_H) : Option Int32 := (wh (fun s : (Int32 × Int32) => m_bits_4 s.1 s.2 h) ((Int32.ofInt 0), l0)).bind fun q1 => some q1
theorem T_m_bits (b : Bool) (L : Nat) (xs : Nat → Int32) (d : Nat) (hd : 0 ≤ d) (h : pm_H) (s_h : h.1 = tb_SH) (l0 : Int32) {r : Int32} (hm : m_bits l0 h = some r) : PC b L xs d 150 [(Value.int l0)] h (fun (v0 : Option Value) (h2 : pm_H) => v0 = (some (Value.int r)) ∧ h2 = h ∧ h2.1 = tb_SH) := by
  refine pc_in e150 (ls0 := [(Value.int l0), Value.retAddr 0, Value.retAddr 0]) rfl ?_
  have key : ∀ (Q : Option Value → pm_H → Prop), (Q (some (Value.int r)) h) → PW b L xs d 150 0 0 0 [(Value.int l0), Value.retAddr 0, Value.retAddr 0] [] h Q := by
    intro Q hE
    rw [m_bits] at hm
    refine pw_s (pc := 0) d150_0 rfl rfl ?_
    refine pw_t (pc := 1) d150_1 rfl rfl rfl rfl ?_
    refine pw_l (pc := 2) d150_2 rfl rfl rfl ?_
    refine pw_t (pc := 3) d150_3 rfl rfl rfl rfl ?_
    obtain ⟨q1, e_q1, hm⟩ := ob_x hm
    refine wh_ind e_q1 (fun s : (Int32 × Int32) => ∀ w0 : Value, PW b L xs d 150 0 0 4 [w0, (Value.int s.1), (Value.int s.2)] [] h Q) (fun s s2 hf ih w0 => t_m_bits_4 b L xs d hd h s_h s.1 s.2 w0  hf ih) (fun s hf w0 => t_m_bits_4 b L xs d hd h s_h s.1 s.2 w0  hf ?_)   (Value.int l0)
    intro w0 w2
    refine pw_l (pc := 20) d150_20 rfl rfl rfl ?_
    obtain rfl := Option.some.inj hm
    refine pw_ri (pc := 21) d150_21 t150 rfl ?_
    exact hE
  exact key _ ⟨rfl, rfl, s_h⟩
def E_m_four_3 (b : Bool) (L : Nat) (xs : Nat → Int32) (d : Nat) (Q : Option Value → pm_H → Prop) (l0 : Nat) (l1 : Int32) : ((Int32 × pm_H) ⊕ pm_H) → Prop
  | .inl s => s.2.1 = tb_SH → PW b L xs d 151 0 0 3 [(Value.ref l0), (Value.int l1), (Value.int s.1)] [] s.2 Q
  | .inr e => e.1 = tb_SH → ∀ w0 w1 w2 : Value, PW b L xs d 151 0 0 36 [w0, w1, w2] [] e Q
noncomputable def m_four_3 (l0 : Nat) (l1 : Int32) (l2 : Int32) (h : pm_H) : Option ((Int32 × pm_H) ⊕ pm_H) := if l2 < 0 then (some (.inr h)) else ((gA h l0 0 .byte).bind fun y2 => if mi_in (h.2.1 l0 1) (mi_n y2) = true then bd (pm_setI h y2 (h.2.1 l0 1).toNatClampNeg (vp_nar .byte ((l1 >>> (l2 &&& 31)).toInt8.toInt32))) fun h4 => bd (pm_setI h4 l0 1 ((h4.2.1 l0 1) + (Int32.ofInt 1))) fun h5 => some (.inl ((l2 + Int32.ofInt (-8)), h5)) else none)
theorem t_m_four_3 (b : Bool) (L : Nat) (xs : Nat → Int32) (d : Nat) (hd : 0 ≤ d) {Q : Option Value → pm_H → Prop} (h : pm_H) (s_h : h.1 = tb_SH) (l0 : Nat) (l1 : Int32) (l2 : Int32) (f_l0 : mi_o l0 10 = true) {r : ((Int32 × pm_H) ⊕ pm_H)} (hm : m_four_3 l0 l1 l2 h = some r) (hE : E_m_four_3 b L xs d Q l0 l1 r) : PW b L xs d 151 0 0 3 [(Value.ref l0), (Value.int l1), (Value.int l2)] [] h Q := by
  rw [m_four_3] at hm
  refine pw_l (pc := 3) d151_3 rfl rfl rfl ?_
  refine pw_zlt (pc := 4) (t := 36) d151_4 (by decide) (fun c1 => ?_) (fun c1 => ?_)
  · rw [if_pos c1] at hm
    obtain rfl := Option.some.inj hm
    exact hE s_h  (Value.ref l0) (Value.int l1) (Value.int l2)
  · rw [if_neg c1] at hm
    refine pw_l (pc := 7) d151_7 rfl rfl rfl ?_
    obtain ⟨y2, e_y2, hm⟩ := ob_x hm
    have f_y2 := gA_x e_y2
    refine pw_gr (pc := 8) d151_8 (k151_7 b) (sho s_h f_l0) f10_0 f_y2.1 ?_
    refine pw_l (pc := 11) d151_11 rfl rfl rfl ?_
    refine pw_gi (pc := 12) d151_12 (k151_73 b) (sho s_h f_l0) f10_1 ?_
    refine pw_l (pc := 15) d151_15 rfl rfl rfl ?_
    refine pw_l (pc := 16) d151_16 rfl rfl rfl ?_
    refine pw_s (pc := 17) d151_17 rfl rfl ?_
    refine pw_s (pc := 18) d151_18 rfl rfl ?_
    obtain ⟨g3, hm⟩ := gd_x hm
    refine pw_sb (pc := 19) d151_19 (sha s_h f_y2.2) (by decide) (mi_in_x g3) ?_
    obtain ⟨h4, e_h4, hm⟩ := bd_x hm
    rw [e_h4]
    have s_h4 : h4.1 = tb_SH := by rw [← e_h4]; exact s_h
    refine pw_l (pc := 20) d151_20 rfl rfl rfl ?_
    refine pw_s (pc := 21) d151_21 rfl rfl ?_
    refine pw_gi (pc := 22) d151_22 (k151_73 b) (sho s_h4 f_l0) f10_1 ?_
    refine pw_s (pc := 25) d151_25 rfl rfl ?_
    refine pw_s (pc := 26) d151_26 rfl rfl ?_
    refine pw_pi (pc := 27) d151_27 (k151_73 b) (sho s_h4 f_l0) p151_10_1 ?_
    obtain ⟨h5, e_h5, hm⟩ := bd_x hm
    rw [e_h5]
    have s_h5 : h5.1 = tb_SH := by rw [← e_h5]; exact s_h4
    refine pw_t (pc := 30) d151_30 rfl rfl rfl rfl ?_
    refine pw_go (pc := 33) (t := 3) d151_33 (by decide) ?_
    obtain rfl := Option.some.inj hm
    exact hE s_h5  
noncomputable def m_four (l0 : Nat) (l1 : Int32) (h : pm_H) : Option pm_H := (wh (fun s : (Int32 × pm_H) => m_four_3 l0 l1 s.1 s.2) ((Int8.ofInt 24).toInt32, h)).bind fun q1 => some q1
theorem T_m_four (b : Bool) (L : Nat) (xs : Nat → Int32) (d : Nat) (hd : 0 ≤ d) (h : pm_H) (s_h : h.1 = tb_SH) (l0 : Nat) (l1 : Int32) (f_l0 : mi_o l0 10 = true) {r : pm_H} (hm : m_four l0 l1 h = some r) : PC b L xs d 151 [(Value.ref l0), (Value.int l1)] h (fun (v0 : Option Value) (h2 : pm_H) => v0 = none ∧ h2 = r ∧ h2.1 = tb_SH) := by
  refine pc_in e151 (ls0 := [(Value.ref l0), (Value.int l1), Value.retAddr 0]) rfl ?_
  have key : ∀ (Q : Option Value → pm_H → Prop), (r.1 = tb_SH → Q none r) → PW b L xs d 151 0 0 0 [(Value.ref l0), (Value.int l1), Value.retAddr 0] [] h Q := by
    intro Q hE
    rw [m_four] at hm
    refine pw_s (pc := 0) d151_0 rfl rfl ?_
    refine pw_t (pc := 2) d151_2 rfl rfl rfl rfl ?_
    obtain ⟨q1, e_q1, hm⟩ := ob_x hm
    refine wh_ind e_q1 (fun s : (Int32 × pm_H) => s.2.1 = tb_SH → PW b L xs d 151 0 0 3 [(Value.ref l0), (Value.int l1), (Value.int s.1)] [] s.2 Q) (fun s s2 hf ih sx => t_m_four_3 b L xs d hd s.2 sx l0 l1 s.1  f_l0 hf ih) (fun s hf sx => t_m_four_3 b L xs d hd s.2 sx l0 l1 s.1  f_l0 hf ?_) s_h  
    intro s_q1_0 w0 w1 w2
    obtain rfl := Option.some.inj hm
    refine pw_rv (pc := 36) d151_36 t151 ?_
    exact hE s_q1_0
  exact key _ (fun q => ⟨rfl, rfl, q⟩)
noncomputable def m_feed (l0 : Nat) (l1 : Int32) (l2 : Int32) (l3 : Int32) (l4 : Int32) (l5 : Int32) (h : pm_H) : Option (Int32 × pm_H) := if ((h.2.1 l0 1) + (Int8.ofInt 20).toInt32) ≤ (Int16.ofInt 400).toInt32 then ((m_four l0 l1 h).bind fun q2 => (m_four l0 l2 q2).bind fun q3 => (m_four l0 l3 q3).bind fun q4 => (m_four l0 l4 q4).bind fun q5 => (m_four l0 l5 q5).bind fun q6 => some ((q6.2.1 l0 1), q6)) else (some ((Int32.ofInt (-1)), h))
theorem T_m_feed (b : Bool) (L : Nat) (xs : Nat → Int32) (d : Nat) (hd : 1 ≤ d) (h : pm_H) (s_h : h.1 = tb_SH) (l0 : Nat) (l1 : Int32) (l2 : Int32) (l3 : Int32) (l4 : Int32) (l5 : Int32) (f_l0 : mi_o l0 10 = true) {r : (Int32 × pm_H)} (hm : m_feed l0 l1 l2 l3 l4 l5 h = some r) : PC b L xs d 152 [(Value.ref l0), (Value.int l1), (Value.int l2), (Value.int l3), (Value.int l4), (Value.int l5)] h (fun (v0 : Option Value) (h2 : pm_H) => v0 = (some (Value.int r.1)) ∧ h2 = r.2 ∧ h2.1 = tb_SH) := by
  refine pc_in e152 (ls0 := [(Value.ref l0), (Value.int l1), (Value.int l2), (Value.int l3), (Value.int l4), (Value.int l5)]) rfl ?_
  have key : ∀ (Q : Option Value → pm_H → Prop), (r.2.1 = tb_SH → Q (some (Value.int r.1)) r.2) → PW b L xs d 152 0 0 0 [(Value.ref l0), (Value.int l1), (Value.int l2), (Value.int l3), (Value.int l4), (Value.int l5)] [] h Q := by
    intro Q hE
    rw [m_feed] at hm
    refine pw_l (pc := 0) d152_0 rfl rfl rfl ?_
    refine pw_gi (pc := 1) d152_1 (k152_73 b) (sho s_h f_l0) f10_1 ?_
    refine pw_s (pc := 4) d152_4 rfl rfl ?_
    refine pw_s (pc := 6) d152_6 rfl rfl ?_
    refine pw_s (pc := 7) d152_7 rfl rfl ?_
    refine pw_ile (pc := 10) (t := 15) d152_10 (by decide) (fun c1 => ?_) (fun c1 => ?_)
    · rw [if_pos c1] at hm
      refine pw_l (pc := 15) d152_15 rfl rfl rfl ?_
      refine pw_l (pc := 16) d152_16 rfl rfl rfl ?_
      obtain ⟨q2, e_q2, hm⟩ := ob_x hm
      refine pw_v (pc := 17) (k := l0) (by omega) d152_17 (k152_77 b) (by decide) m151 (by decide) rfl (sho s_h f_l0) (Nat.le_of_ble_eq_true rfl) (Nat.le_of_ble_eq_true rfl) rfl rfl (T_m_four b L xs (d - 1) (by omega) h s_h l0 l1 f_l0 e_q2) (fun v0 h0 hq => ?_)
      obtain ⟨rfl, hh0, s_q2⟩ := hq
      rw [hh0] at s_q2 ⊢
      simp only [Option.toList_none, List.nil_append]
      refine pw_l (pc := 20) d152_20 rfl rfl rfl ?_
      refine pw_l (pc := 21) d152_21 rfl rfl rfl ?_
      obtain ⟨q3, e_q3, hm⟩ := ob_x hm
      refine pw_v (pc := 22) (k := l0) (by omega) d152_22 (k152_77 b) (by decide) m151 (by decide) rfl (sho s_q2 f_l0) (Nat.le_of_ble_eq_true rfl) (Nat.le_of_ble_eq_true rfl) rfl rfl (T_m_four b L xs (d - 1) (by omega) q2 s_q2 l0 l2 f_l0 e_q3) (fun v0 h0 hq => ?_)
      obtain ⟨rfl, hh0, s_q3⟩ := hq
      rw [hh0] at s_q3 ⊢
      simp only [Option.toList_none, List.nil_append]
      refine pw_l (pc := 25) d152_25 rfl rfl rfl ?_
      refine pw_l (pc := 26) d152_26 rfl rfl rfl ?_
      obtain ⟨q4, e_q4, hm⟩ := ob_x hm
      refine pw_v (pc := 27) (k := l0) (by omega) d152_27 (k152_77 b) (by decide) m151 (by decide) rfl (sho s_q3 f_l0) (Nat.le_of_ble_eq_true rfl) (Nat.le_of_ble_eq_true rfl) rfl rfl (T_m_four b L xs (d - 1) (by omega) q3 s_q3 l0 l3 f_l0 e_q4) (fun v0 h0 hq => ?_)
      obtain ⟨rfl, hh0, s_q4⟩ := hq
      rw [hh0] at s_q4 ⊢
      simp only [Option.toList_none, List.nil_append]
      refine pw_l (pc := 30) d152_30 rfl rfl rfl ?_
      refine pw_l (pc := 31) d152_31 rfl rfl rfl ?_
      obtain ⟨q5, e_q5, hm⟩ := ob_x hm
      refine pw_v (pc := 33) (k := l0) (by omega) d152_33 (k152_77 b) (by decide) m151 (by decide) rfl (sho s_q4 f_l0) (Nat.le_of_ble_eq_true rfl) (Nat.le_of_ble_eq_true rfl) rfl rfl (T_m_four b L xs (d - 1) (by omega) q4 s_q4 l0 l4 f_l0 e_q5) (fun v0 h0 hq => ?_)
      obtain ⟨rfl, hh0, s_q5⟩ := hq
      rw [hh0] at s_q5 ⊢
      simp only [Option.toList_none, List.nil_append]
      refine pw_l (pc := 36) d152_36 rfl rfl rfl ?_
      refine pw_l (pc := 37) d152_37 rfl rfl rfl ?_
      obtain ⟨q6, e_q6, hm⟩ := ob_x hm
      refine pw_v (pc := 39) (k := l0) (by omega) d152_39 (k152_77 b) (by decide) m151 (by decide) rfl (sho s_q5 f_l0) (Nat.le_of_ble_eq_true rfl) (Nat.le_of_ble_eq_true rfl) rfl rfl (T_m_four b L xs (d - 1) (by omega) q5 s_q5 l0 l5 f_l0 e_q6) (fun v0 h0 hq => ?_)
      obtain ⟨rfl, hh0, s_q6⟩ := hq
      rw [hh0] at s_q6 ⊢
      simp only [Option.toList_none, List.nil_append]
      refine pw_l (pc := 42) d152_42 rfl rfl rfl ?_
      refine pw_gi (pc := 43) d152_43 (k152_73 b) (sho s_q6 f_l0) f10_1 ?_
      obtain rfl := Option.some.inj hm
      refine pw_ri (pc := 46) d152_46 t152 rfl ?_
      exact hE s_q6
    · rw [if_neg c1] at hm
      refine pw_s (pc := 13) d152_13 rfl rfl ?_
      obtain rfl := Option.some.inj hm
      refine pw_ri (pc := 14) d152_14 t152 rfl ?_
      exact hE s_h
  exact key _ (fun q => ⟨rfl, rfl, q⟩)
noncomputable def m_end (l0 : Nat) (l1 : Int32) (h : pm_H) : Option (Int32 × pm_H) := if l1 < 0 then (some ((Int32.ofInt (-1)), h)) else (if l1 ≤ (h.2.1 l0 1) then (bd (pm_setI h l0 1 l1) fun h3 => some (l1, h3)) else (some ((Int32.ofInt (-1)), h)))
theorem T_m_end (b : Bool) (L : Nat) (xs : Nat → Int32) (d : Nat) (hd : 0 ≤ d) (h : pm_H) (s_h : h.1 = tb_SH) (l0 : Nat) (l1 : Int32) (f_l0 : mi_o l0 10 = true) {r : (Int32 × pm_H)} (hm : m_end l0 l1 h = some r) : PC b L xs d 153 [(Value.ref l0), (Value.int l1)] h (fun (v0 : Option Value) (h2 : pm_H) => v0 = (some (Value.int r.1)) ∧ h2 = r.2 ∧ h2.1 = tb_SH) := by
  refine pc_in e153 (ls0 := [(Value.ref l0), (Value.int l1)]) rfl ?_
  have key : ∀ (Q : Option Value → pm_H → Prop), (r.2.1 = tb_SH → Q (some (Value.int r.1)) r.2) → PW b L xs d 153 0 0 0 [(Value.ref l0), (Value.int l1)] [] h Q := by
    intro Q hE
    rw [m_end] at hm
    refine pw_l (pc := 0) d153_0 rfl rfl rfl ?_
    refine pw_zlt (pc := 1) (t := 12) d153_1 (by decide) (fun c1 => ?_) (fun c1 => ?_)
    · rw [if_pos c1] at hm
      refine pw_s (pc := 12) d153_12 rfl rfl ?_
      obtain rfl := Option.some.inj hm
      refine pw_ri (pc := 13) d153_13 t153 rfl ?_
      exact hE s_h
    · rw [if_neg c1] at hm
      refine pw_l (pc := 4) d153_4 rfl rfl rfl ?_
      refine pw_l (pc := 5) d153_5 rfl rfl rfl ?_
      refine pw_gi (pc := 6) d153_6 (k153_73 b) (sho s_h f_l0) f10_1 ?_
      refine pw_ile (pc := 9) (t := 14) d153_9 (by decide) (fun c2 => ?_) (fun c2 => ?_)
      · rw [if_pos c2] at hm
        refine pw_l (pc := 14) d153_14 rfl rfl rfl ?_
        refine pw_l (pc := 15) d153_15 rfl rfl rfl ?_
        refine pw_pi (pc := 16) d153_16 (k153_73 b) (sho s_h f_l0) p153_10_1 ?_
        obtain ⟨h3, e_h3, hm⟩ := bd_x hm
        rw [e_h3]
        have s_h3 : h3.1 = tb_SH := by rw [← e_h3]; exact s_h
        refine pw_l (pc := 19) d153_19 rfl rfl rfl ?_
        obtain rfl := Option.some.inj hm
        refine pw_ri (pc := 20) d153_20 t153 rfl ?_
        exact hE s_h3
      · rw [if_neg c2] at hm
        refine pw_s (pc := 12) d153_12 rfl rfl ?_
        obtain rfl := Option.some.inj hm
        refine pw_ri (pc := 13) d153_13 t153 rfl ?_
        exact hE s_h
  exact key _ (fun q => ⟨rfl, rfl, q⟩)
noncomputable def m_fails (l0 : Nat) (l1 : Int32) (l2 : Int32) (h : pm_H) : Option (Int32 × pm_H) := if ¬ (h.2.1 l0 9) = 0 then (some ((Int32.ofInt 0), h)) else (bd (pm_setI h l0 9 (((Int32.ofInt 1) + ((Int8.ofInt 8).toInt32 * l2)) + l1)) fun h2 => some ((Int32.ofInt 0), h2))
theorem T_m_fails (b : Bool) (L : Nat) (xs : Nat → Int32) (d : Nat) (hd : 0 ≤ d) (h : pm_H) (s_h : h.1 = tb_SH) (l0 : Nat) (l1 : Int32) (l2 : Int32) (f_l0 : mi_o l0 10 = true) {r : (Int32 × pm_H)} (hm : m_fails l0 l1 l2 h = some r) : PC b L xs d 154 [(Value.ref l0), (Value.int l1), (Value.int l2)] h (fun (v0 : Option Value) (h2 : pm_H) => v0 = (some (Value.int r.1)) ∧ h2 = r.2 ∧ h2.1 = tb_SH) := by
  refine pc_in e154 (ls0 := [(Value.ref l0), (Value.int l1), (Value.int l2)]) rfl ?_
  have key : ∀ (Q : Option Value → pm_H → Prop), (r.2.1 = tb_SH → Q (some (Value.int r.1)) r.2) → PW b L xs d 154 0 0 0 [(Value.ref l0), (Value.int l1), (Value.int l2)] [] h Q := by
    intro Q hE
    rw [m_fails] at hm
    refine pw_l (pc := 0) d154_0 rfl rfl rfl ?_
    refine pw_gi (pc := 1) d154_1 (k154_81 b) (sho s_h f_l0) f10_9 ?_
    refine pw_zne (pc := 4) (t := 19) d154_4 (by decide) (fun c1 => ?_) (fun c1 => ?_)
    · rw [if_pos c1] at hm
      refine pw_s (pc := 19) d154_19 rfl rfl ?_
      obtain rfl := Option.some.inj hm
      refine pw_ri (pc := 20) d154_20 t154 rfl ?_
      exact hE s_h
    · rw [if_neg c1] at hm
      refine pw_l (pc := 7) d154_7 rfl rfl rfl ?_
      refine pw_s (pc := 8) d154_8 rfl rfl ?_
      refine pw_s (pc := 9) d154_9 rfl rfl ?_
      refine pw_l (pc := 11) d154_11 rfl rfl rfl ?_
      refine pw_s (pc := 12) d154_12 rfl rfl ?_
      refine pw_s (pc := 13) d154_13 rfl rfl ?_
      refine pw_l (pc := 14) d154_14 rfl rfl rfl ?_
      refine pw_s (pc := 15) d154_15 rfl rfl ?_
      refine pw_pi (pc := 16) d154_16 (k154_81 b) (sho s_h f_l0) p154_10_9 ?_
      obtain ⟨h2, e_h2, hm⟩ := bd_x hm
      rw [e_h2]
      have s_h2 : h2.1 = tb_SH := by rw [← e_h2]; exact s_h
      refine pw_s (pc := 19) d154_19 rfl rfl ?_
      obtain rfl := Option.some.inj hm
      refine pw_ri (pc := 20) d154_20 t154 rfl ?_
      exact hE s_h2
  exact key _ (fun q => ⟨rfl, rfl, q⟩)
def E_m_see_0 (b : Bool) (L : Nat) (xs : Nat → Int32) (d : Nat) (Q : Option Value → pm_H → Prop) (l0 : Nat) : (pm_H ⊕ pm_H) → Prop
  | .inl s => s.1 = tb_SH → PW b L xs d 155 0 0 0 [(Value.ref l0)] [] s Q
  | .inr e => e.1 = tb_SH → PW b L xs d 155 0 0 38 [(Value.ref l0)] [] e Q
noncomputable def m_see_38 (l0 : Nat) (h : pm_H) : Option (Int32 × pm_H) := if (h.2.1 l0 1) ≤ (h.2.1 l0 8) then (some ((Int32.ofInt (-1)), h)) else ((gA h l0 0 .byte).bind fun y2 => if mi_in (h.2.1 l0 8) (mi_n y2) = true then some (((h.2.1 y2 (h.2.1 l0 8).toNatClampNeg) &&& (Int16.ofInt 255).toInt32), h) else none)
theorem t_m_see_38 (b : Bool) (L : Nat) (xs : Nat → Int32) (d : Nat) (hd : 0 ≤ d) {Q : Option Value → pm_H → Prop} (h : pm_H) (s_h : h.1 = tb_SH) (l0 : Nat) (f_l0 : mi_o l0 10 = true) {r : (Int32 × pm_H)} (hm : m_see_38 l0 h = some r) (hE : r.2.1 = tb_SH → Q (some (Value.int r.1)) r.2) : PW b L xs d 155 0 0 38 [(Value.ref l0)] [] h Q := by
  rw [m_see_38] at hm
  refine pw_l (pc := 38) d155_38 rfl rfl rfl ?_
  refine pw_gi (pc := 39) d155_39 (k155_84 b) (sho s_h f_l0) f10_8 ?_
  refine pw_l (pc := 42) d155_42 rfl rfl rfl ?_
  refine pw_gi (pc := 43) d155_43 (k155_73 b) (sho s_h f_l0) f10_1 ?_
  refine pw_ige (pc := 46) (t := 65) d155_46 (by decide) (fun c1 => ?_) (fun c1 => ?_)
  · rw [if_pos c1] at hm
    refine pw_s (pc := 65) d155_65 rfl rfl ?_
    obtain rfl := Option.some.inj hm
    refine pw_ri (pc := 66) d155_66 t155 rfl ?_
    exact hE s_h
  · rw [if_neg c1] at hm
    refine pw_l (pc := 49) d155_49 rfl rfl rfl ?_
    obtain ⟨y2, e_y2, hm⟩ := ob_x hm
    have f_y2 := gA_x e_y2
    refine pw_gr (pc := 50) d155_50 (k155_7 b) (sho s_h f_l0) f10_0 f_y2.1 ?_
    refine pw_l (pc := 53) d155_53 rfl rfl rfl ?_
    refine pw_gi (pc := 54) d155_54 (k155_84 b) (sho s_h f_l0) f10_8 ?_
    obtain ⟨g3, hm⟩ := gd_x hm
    refine pw_ab (pc := 57) d155_57 (sha s_h f_y2.2) (by decide) (mi_in_x g3) ?_
    refine pw_s (pc := 58) d155_58 rfl rfl ?_
    refine pw_s (pc := 61) d155_61 rfl rfl ?_
    refine pw_go (pc := 62) (t := 66) d155_62 (by decide) ?_
    obtain rfl := Option.some.inj hm
    refine pw_ri (pc := 66) d155_66 t155 rfl ?_
    exact hE s_h
noncomputable def m_see_0 (l0 : Nat) (h : pm_H) : Option (pm_H ⊕ pm_H) := if (h.2.1 l0 1) ≤ (h.2.1 l0 8) then (some (.inr h)) else ((gA h l0 0 .byte).bind fun y2 => if mi_in (h.2.1 l0 8) (mi_n y2) = true then if ¬ (h.2.1 y2 (h.2.1 l0 8).toNatClampNeg) = (Int8.ofInt 32).toInt32 then (some (.inr h)) else (bd (pm_setI h l0 8 ((h.2.1 l0 8) + (Int32.ofInt 1))) fun h5 => some (.inl h5)) else none)
theorem t_m_see_0 (b : Bool) (L : Nat) (xs : Nat → Int32) (d : Nat) (hd : 0 ≤ d) {Q : Option Value → pm_H → Prop} (h : pm_H) (s_h : h.1 = tb_SH) (l0 : Nat) (f_l0 : mi_o l0 10 = true) {r : (pm_H ⊕ pm_H)} (hm : m_see_0 l0 h = some r) (hE : E_m_see_0 b L xs d Q l0 r) : PW b L xs d 155 0 0 0 [(Value.ref l0)] [] h Q := by
  rw [m_see_0] at hm
  refine pw_l (pc := 0) d155_0 rfl rfl rfl ?_
  refine pw_gi (pc := 1) d155_1 (k155_84 b) (sho s_h f_l0) f10_8 ?_
  refine pw_l (pc := 4) d155_4 rfl rfl rfl ?_
  refine pw_gi (pc := 5) d155_5 (k155_73 b) (sho s_h f_l0) f10_1 ?_
  refine pw_ige (pc := 8) (t := 38) d155_8 (by decide) (fun c1 => ?_) (fun c1 => ?_)
  · rw [if_pos c1] at hm
    obtain rfl := Option.some.inj hm
    exact hE s_h  
  · rw [if_neg c1] at hm
    refine pw_l (pc := 11) d155_11 rfl rfl rfl ?_
    obtain ⟨y2, e_y2, hm⟩ := ob_x hm
    have f_y2 := gA_x e_y2
    refine pw_gr (pc := 12) d155_12 (k155_7 b) (sho s_h f_l0) f10_0 f_y2.1 ?_
    refine pw_l (pc := 15) d155_15 rfl rfl rfl ?_
    refine pw_gi (pc := 16) d155_16 (k155_84 b) (sho s_h f_l0) f10_8 ?_
    obtain ⟨g3, hm⟩ := gd_x hm
    refine pw_ab (pc := 19) d155_19 (sha s_h f_y2.2) (by decide) (mi_in_x g3) ?_
    refine pw_s (pc := 20) d155_20 rfl rfl ?_
    refine pw_ine (pc := 22) (t := 38) d155_22 (by decide) (fun c4 => ?_) (fun c4 => ?_)
    · rw [if_pos c4] at hm
      obtain rfl := Option.some.inj hm
      exact hE s_h  
    · rw [if_neg c4] at hm
      refine pw_l (pc := 25) d155_25 rfl rfl rfl ?_
      refine pw_s (pc := 26) d155_26 rfl rfl ?_
      refine pw_gi (pc := 27) d155_27 (k155_84 b) (sho s_h f_l0) f10_8 ?_
      refine pw_s (pc := 30) d155_30 rfl rfl ?_
      refine pw_s (pc := 31) d155_31 rfl rfl ?_
      refine pw_pi (pc := 32) d155_32 (k155_84 b) (sho s_h f_l0) p155_10_8 ?_
      obtain ⟨h5, e_h5, hm⟩ := bd_x hm
      rw [e_h5]
      have s_h5 : h5.1 = tb_SH := by rw [← e_h5]; exact s_h
      refine pw_go (pc := 35) (t := 0) d155_35 (by decide) ?_
      obtain rfl := Option.some.inj hm
      exact hE s_h5  
noncomputable def m_see (l0 : Nat) (h : pm_H) : Option (Int32 × pm_H) := (wh (fun s : pm_H => m_see_0 l0 s) h).bind fun q1 => m_see_38 l0 q1
theorem T_m_see (b : Bool) (L : Nat) (xs : Nat → Int32) (d : Nat) (hd : 0 ≤ d) (h : pm_H) (s_h : h.1 = tb_SH) (l0 : Nat) (f_l0 : mi_o l0 10 = true) {r : (Int32 × pm_H)} (hm : m_see l0 h = some r) : PC b L xs d 155 [(Value.ref l0)] h (fun (v0 : Option Value) (h2 : pm_H) => v0 = (some (Value.int r.1)) ∧ h2 = r.2 ∧ h2.1 = tb_SH) := by
  refine pc_in e155 (ls0 := [(Value.ref l0)]) rfl ?_
  have key : ∀ (Q : Option Value → pm_H → Prop), (r.2.1 = tb_SH → Q (some (Value.int r.1)) r.2) → PW b L xs d 155 0 0 0 [(Value.ref l0)] [] h Q := by
    intro Q hE
    rw [m_see] at hm
    obtain ⟨q1, e_q1, hm⟩ := ob_x hm
    refine wh_ind e_q1 (fun s : pm_H => s.1 = tb_SH → PW b L xs d 155 0 0 0 [(Value.ref l0)] [] s Q) (fun s s2 hf ih sx => t_m_see_0 b L xs d hd s sx l0  f_l0 hf ih) (fun s hf sx => t_m_see_0 b L xs d hd s sx l0  f_l0 hf ?_) s_h  
    intro s_q1_0
    exact t_m_see_38 b L xs d hd q1 s_q1_0 l0  f_l0  hm hE
  exact key _ (fun q => ⟨rfl, rfl, q⟩)
noncomputable def m_isDigit (l0 : Nat) (l1 : Int32) (h : pm_H) : Option Int32 := if (h.2.1 l0 1) ≤ l1 then (some (Int32.ofInt 0)) else ((gA h l0 0 .byte).bind fun y2 => if mi_in l1 (mi_n y2) = true then if (h.2.1 y2 l1.toNatClampNeg) < (Int8.ofInt 48).toInt32 then (some (Int32.ofInt 0)) else ((gA h l0 0 .byte).bind fun y5 => if mi_in l1 (mi_n y5) = true then if (Int8.ofInt 57).toInt32 < (h.2.1 y5 l1.toNatClampNeg) then (some (Int32.ofInt 0)) else (some (Int32.ofInt 1)) else none) else none)
theorem T_m_isDigit (b : Bool) (L : Nat) (xs : Nat → Int32) (d : Nat) (hd : 0 ≤ d) (h : pm_H) (s_h : h.1 = tb_SH) (l0 : Nat) (l1 : Int32) (f_l0 : mi_o l0 10 = true) {r : Int32} (hm : m_isDigit l0 l1 h = some r) : PC b L xs d 156 [(Value.ref l0), (Value.int l1)] h (fun (v0 : Option Value) (h2 : pm_H) => v0 = (some (Value.int r)) ∧ h2 = h ∧ h2.1 = tb_SH) := by
  refine pc_in e156 (ls0 := [(Value.ref l0), (Value.int l1)]) rfl ?_
  have key : ∀ (Q : Option Value → pm_H → Prop), (Q (some (Value.int r)) h) → PW b L xs d 156 0 0 0 [(Value.ref l0), (Value.int l1)] [] h Q := by
    intro Q hE
    rw [m_isDigit] at hm
    refine pw_l (pc := 0) d156_0 rfl rfl rfl ?_
    refine pw_l (pc := 1) d156_1 rfl rfl rfl ?_
    refine pw_gi (pc := 2) d156_2 (k156_73 b) (sho s_h f_l0) f10_1 ?_
    refine pw_ige (pc := 5) (t := 34) d156_5 (by decide) (fun c1 => ?_) (fun c1 => ?_)
    · rw [if_pos c1] at hm
      refine pw_s (pc := 34) d156_34 rfl rfl ?_
      obtain rfl := Option.some.inj hm
      refine pw_ri (pc := 35) d156_35 t156 rfl ?_
      exact hE
    · rw [if_neg c1] at hm
      refine pw_l (pc := 8) d156_8 rfl rfl rfl ?_
      obtain ⟨y2, e_y2, hm⟩ := ob_x hm
      have f_y2 := gA_x e_y2
      refine pw_gr (pc := 9) d156_9 (k156_7 b) (sho s_h f_l0) f10_0 f_y2.1 ?_
      refine pw_l (pc := 12) d156_12 rfl rfl rfl ?_
      obtain ⟨g3, hm⟩ := gd_x hm
      refine pw_ab (pc := 13) d156_13 (sha s_h f_y2.2) (by decide) (mi_in_x g3) ?_
      refine pw_s (pc := 14) d156_14 rfl rfl ?_
      refine pw_ilt (pc := 16) (t := 34) d156_16 (by decide) (fun c4 => ?_) (fun c4 => ?_)
      · rw [if_pos c4] at hm
        refine pw_s (pc := 34) d156_34 rfl rfl ?_
        obtain rfl := Option.some.inj hm
        refine pw_ri (pc := 35) d156_35 t156 rfl ?_
        exact hE
      · rw [if_neg c4] at hm
        refine pw_l (pc := 19) d156_19 rfl rfl rfl ?_
        obtain ⟨y5, e_y5, hm⟩ := ob_x hm
        have f_y5 := gA_x e_y5
        refine pw_gr (pc := 20) d156_20 (k156_7 b) (sho s_h f_l0) f10_0 f_y5.1 ?_
        refine pw_l (pc := 23) d156_23 rfl rfl rfl ?_
        obtain ⟨g6, hm⟩ := gd_x hm
        refine pw_ab (pc := 24) d156_24 (sha s_h f_y5.2) (by decide) (mi_in_x g6) ?_
        refine pw_s (pc := 25) d156_25 rfl rfl ?_
        refine pw_igt (pc := 27) (t := 34) d156_27 (by decide) (fun c7 => ?_) (fun c7 => ?_)
        · rw [if_pos c7] at hm
          refine pw_s (pc := 34) d156_34 rfl rfl ?_
          obtain rfl := Option.some.inj hm
          refine pw_ri (pc := 35) d156_35 t156 rfl ?_
          exact hE
        · rw [if_neg c7] at hm
          refine pw_s (pc := 30) d156_30 rfl rfl ?_
          refine pw_go (pc := 31) (t := 35) d156_31 (by decide) ?_
          obtain rfl := Option.some.inj hm
          refine pw_ri (pc := 35) d156_35 t156 rfl ?_
          exact hE
  exact key _ ⟨rfl, rfl, s_h⟩
noncomputable def m_isLetter (l0 : Nat) (l1 : Int32) (h : pm_H) : Option Int32 := if (h.2.1 l0 1) ≤ l1 then (some (Int32.ofInt 0)) else ((gA h l0 0 .byte).bind fun y2 => if mi_in l1 (mi_n y2) = true then if (h.2.1 y2 l1.toNatClampNeg) < (Int8.ofInt 97).toInt32 then (some (Int32.ofInt 0)) else ((gA h l0 0 .byte).bind fun y5 => if mi_in l1 (mi_n y5) = true then if (Int8.ofInt 122).toInt32 < (h.2.1 y5 l1.toNatClampNeg) then (some (Int32.ofInt 0)) else (some (Int32.ofInt 1)) else none) else none)
theorem T_m_isLetter (b : Bool) (L : Nat) (xs : Nat → Int32) (d : Nat) (hd : 0 ≤ d) (h : pm_H) (s_h : h.1 = tb_SH) (l0 : Nat) (l1 : Int32) (f_l0 : mi_o l0 10 = true) {r : Int32} (hm : m_isLetter l0 l1 h = some r) : PC b L xs d 157 [(Value.ref l0), (Value.int l1)] h (fun (v0 : Option Value) (h2 : pm_H) => v0 = (some (Value.int r)) ∧ h2 = h ∧ h2.1 = tb_SH) := by
  refine pc_in e157 (ls0 := [(Value.ref l0), (Value.int l1)]) rfl ?_
  have key : ∀ (Q : Option Value → pm_H → Prop), (Q (some (Value.int r)) h) → PW b L xs d 157 0 0 0 [(Value.ref l0), (Value.int l1)] [] h Q := by
    intro Q hE
    rw [m_isLetter] at hm
    refine pw_l (pc := 0) d157_0 rfl rfl rfl ?_
    refine pw_l (pc := 1) d157_1 rfl rfl rfl ?_
    refine pw_gi (pc := 2) d157_2 (k157_73 b) (sho s_h f_l0) f10_1 ?_
    refine pw_ige (pc := 5) (t := 34) d157_5 (by decide) (fun c1 => ?_) (fun c1 => ?_)
    · rw [if_pos c1] at hm
      refine pw_s (pc := 34) d157_34 rfl rfl ?_
      obtain rfl := Option.some.inj hm
      refine pw_ri (pc := 35) d157_35 t157 rfl ?_
      exact hE
    · rw [if_neg c1] at hm
      refine pw_l (pc := 8) d157_8 rfl rfl rfl ?_
      obtain ⟨y2, e_y2, hm⟩ := ob_x hm
      have f_y2 := gA_x e_y2
      refine pw_gr (pc := 9) d157_9 (k157_7 b) (sho s_h f_l0) f10_0 f_y2.1 ?_
      refine pw_l (pc := 12) d157_12 rfl rfl rfl ?_
      obtain ⟨g3, hm⟩ := gd_x hm
      refine pw_ab (pc := 13) d157_13 (sha s_h f_y2.2) (by decide) (mi_in_x g3) ?_
      refine pw_s (pc := 14) d157_14 rfl rfl ?_
      refine pw_ilt (pc := 16) (t := 34) d157_16 (by decide) (fun c4 => ?_) (fun c4 => ?_)
      · rw [if_pos c4] at hm
        refine pw_s (pc := 34) d157_34 rfl rfl ?_
        obtain rfl := Option.some.inj hm
        refine pw_ri (pc := 35) d157_35 t157 rfl ?_
        exact hE
      · rw [if_neg c4] at hm
        refine pw_l (pc := 19) d157_19 rfl rfl rfl ?_
        obtain ⟨y5, e_y5, hm⟩ := ob_x hm
        have f_y5 := gA_x e_y5
        refine pw_gr (pc := 20) d157_20 (k157_7 b) (sho s_h f_l0) f10_0 f_y5.1 ?_
        refine pw_l (pc := 23) d157_23 rfl rfl rfl ?_
        obtain ⟨g6, hm⟩ := gd_x hm
        refine pw_ab (pc := 24) d157_24 (sha s_h f_y5.2) (by decide) (mi_in_x g6) ?_
        refine pw_s (pc := 25) d157_25 rfl rfl ?_
        refine pw_igt (pc := 27) (t := 34) d157_27 (by decide) (fun c7 => ?_) (fun c7 => ?_)
        · rw [if_pos c7] at hm
          refine pw_s (pc := 34) d157_34 rfl rfl ?_
          obtain rfl := Option.some.inj hm
          refine pw_ri (pc := 35) d157_35 t157 rfl ?_
          exact hE
        · rw [if_neg c7] at hm
          refine pw_s (pc := 30) d157_30 rfl rfl ?_
          refine pw_go (pc := 31) (t := 35) d157_31 (by decide) ?_
          obtain rfl := Option.some.inj hm
          refine pw_ri (pc := 35) d157_35 t157 rfl ?_
          exact hE
  exact key _ ⟨rfl, rfl, s_h⟩
def E_m_isWord_10 (b : Bool) (L : Nat) (xs : Nat → Int32) (d : Nat) (Q : Option Value → pm_H → Prop) (l0 : Nat) (l1 : Int64) : ((Int64 × Int32 × pm_H) ⊕ (Int64 × Int32 × pm_H)) → Prop
  | .inl s => s.2.2.1 = tb_SH → PW b L xs d 158 0 0 10 [(Value.ref l0), (Value.long l1), Value.retAddr 0, (Value.long s.1), Value.retAddr 0, (Value.int s.2.1)] [] s.2.2 Q
  | .inr e => e.2.2.1 = tb_SH → ∀ w0 : Value, PW b L xs d 158 0 0 56 [w0, (Value.long l1), Value.retAddr 0, (Value.long e.1), Value.retAddr 0, (Value.int e.2.1)] [] e.2.2 Q
noncomputable def m_isWord_10 (l0 : Nat) (l1 : Int64) (l3 : Int64) (l5 : Int32) (h : pm_H) : Option ((Int64 × Int32 × pm_H) ⊕ (Int64 × Int32 × pm_H)) := (m_isLetter l0 ((h.2.1 l0 8) + l5) h).bind fun q1 => if q1 = 0 then (some (.inr (l3, l5, h))) else (if (Int8.ofInt 8).toInt32 ≤ l5 then (some (.inl (l3, (l5 + Int32.ofInt 1), h))) else ((gA h l0 0 .byte).bind fun y4 => if mi_in ((h.2.1 l0 8) + l5) (mi_n y4) = true then some (.inl (((l3 <<< (((Int8.ofInt 8).toInt32).toInt64 &&& 63)) ||| (h.2.1 y4 ((h.2.1 l0 8) + l5).toNatClampNeg).toInt64), (l5 + Int32.ofInt 1), h)) else none))
theorem t_m_isWord_10 (b : Bool) (L : Nat) (xs : Nat → Int32) (d : Nat) (hd : 1 ≤ d) {Q : Option Value → pm_H → Prop} (h : pm_H) (s_h : h.1 = tb_SH) (l0 : Nat) (l1 : Int64) (l3 : Int64) (l5 : Int32) (f_l0 : mi_o l0 10 = true) {r : ((Int64 × Int32 × pm_H) ⊕ (Int64 × Int32 × pm_H))} (hm : m_isWord_10 l0 l1 l3 l5 h = some r) (hE : E_m_isWord_10 b L xs d Q l0 l1 r) : PW b L xs d 158 0 0 10 [(Value.ref l0), (Value.long l1), Value.retAddr 0, (Value.long l3), Value.retAddr 0, (Value.int l5)] [] h Q := by
  rw [m_isWord_10] at hm
  refine pw_l (pc := 10) d158_10 rfl rfl rfl ?_
  refine pw_l (pc := 11) d158_11 rfl rfl rfl ?_
  refine pw_gi (pc := 12) d158_12 (k158_84 b) (sho s_h f_l0) f10_8 ?_
  refine pw_l (pc := 15) d158_15 rfl rfl rfl ?_
  refine pw_s (pc := 17) d158_17 rfl rfl ?_
  obtain ⟨q1, e_q1, hm⟩ := ob_x hm
  refine pw_v (pc := 18) (k := l0) (by omega) d158_18 (k158_91 b) (by decide) m157 (by decide) rfl (sho s_h f_l0) (Nat.le_of_ble_eq_true rfl) (Nat.le_of_ble_eq_true rfl) rfl rfl (T_m_isLetter b L xs (d - 1) (by omega) h s_h l0 ((h.2.1 l0 8) + l5) f_l0 e_q1) (fun v0 h0 hq => ?_)
  obtain ⟨rfl, hh0, s_q1⟩ := hq
  rw [hh0] at s_q1 ⊢
  simp only [Option.toList_some, List.cons_append, List.nil_append]
  refine pw_zeq (pc := 21) (t := 56) d158_21 (by decide) (fun c2 => ?_) (fun c2 => ?_)
  · rw [if_pos c2] at hm
    obtain rfl := Option.some.inj hm
    exact hE s_h  (Value.ref l0)
  · rw [if_neg c2] at hm
    refine pw_l (pc := 24) d158_24 rfl rfl rfl ?_
    refine pw_s (pc := 26) d158_26 rfl rfl ?_
    refine pw_ige (pc := 28) (t := 50) d158_28 (by decide) (fun c3 => ?_) (fun c3 => ?_)
    · rw [if_pos c3] at hm
      refine pw_t (pc := 50) d158_50 rfl rfl rfl rfl ?_
      refine pw_go (pc := 53) (t := 10) d158_53 (by decide) ?_
      obtain rfl := Option.some.inj hm
      exact hE s_h  
    · rw [if_neg c3] at hm
      refine pw_l (pc := 31) d158_31 rfl rfl rfl ?_
      refine pw_s (pc := 32) d158_32 rfl rfl ?_
      refine pw_s (pc := 34) d158_34 rfl rfl ?_
      refine pw_l (pc := 35) d158_35 rfl rfl rfl ?_
      obtain ⟨y4, e_y4, hm⟩ := ob_x hm
      have f_y4 := gA_x e_y4
      refine pw_gr (pc := 36) d158_36 (k158_7 b) (sho s_h f_l0) f10_0 f_y4.1 ?_
      refine pw_l (pc := 39) d158_39 rfl rfl rfl ?_
      refine pw_gi (pc := 40) d158_40 (k158_84 b) (sho s_h f_l0) f10_8 ?_
      refine pw_l (pc := 43) d158_43 rfl rfl rfl ?_
      refine pw_s (pc := 45) d158_45 rfl rfl ?_
      obtain ⟨g5, hm⟩ := gd_x hm
      refine pw_ab (pc := 46) d158_46 (sha s_h f_y4.2) (by decide) (mi_in_x g5) ?_
      refine pw_s (pc := 47) d158_47 rfl rfl ?_
      refine pw_s (pc := 48) d158_48 rfl rfl ?_
      refine pw_t (pc := 49) d158_49 rfl rfl rfl rfl ?_
      refine pw_t (pc := 50) d158_50 rfl rfl rfl rfl ?_
      refine pw_go (pc := 53) (t := 10) d158_53 (by decide) ?_
      obtain rfl := Option.some.inj hm
      exact hE s_h  
noncomputable def m_isWord (l0 : Nat) (l1 : Int64) (h : pm_H) : Option (Int32 × pm_H) := (m_see l0 h).bind fun q1 => (wh (fun s : (Int64 × Int32 × pm_H) => m_isWord_10 l0 l1 s.1 s.2.1 s.2.2) ((Int64.ofNat 0), (Int32.ofInt 0), q1.2)).bind fun q2 => if q2.2.1 ≤ 0 then (some ((Int32.ofInt 0), q2.2.2)) else (if (Int8.ofInt 8).toInt32 ≤ q2.2.1 then (some ((Int32.ofInt 0), q2.2.2)) else (if ¬ (lg_cmp q2.1 l1) = 0 then (some ((Int32.ofInt 0), q2.2.2)) else (some ((Int32.ofInt 1), q2.2.2))))
theorem T_m_isWord (b : Bool) (L : Nat) (xs : Nat → Int32) (d : Nat) (hd : 1 ≤ d) (h : pm_H) (s_h : h.1 = tb_SH) (l0 : Nat) (l1 : Int64) (f_l0 : mi_o l0 10 = true) {r : (Int32 × pm_H)} (hm : m_isWord l0 l1 h = some r) : PC b L xs d 158 [(Value.ref l0), (Value.long l1)] h (fun (v0 : Option Value) (h2 : pm_H) => v0 = (some (Value.int r.1)) ∧ h2 = r.2 ∧ h2.1 = tb_SH) := by
  refine pc_in e158 (ls0 := [(Value.ref l0), (Value.long l1), Value.retAddr 0, Value.retAddr 0, Value.retAddr 0, Value.retAddr 0]) rfl ?_
  have key : ∀ (Q : Option Value → pm_H → Prop), (r.2.1 = tb_SH → Q (some (Value.int r.1)) r.2) → PW b L xs d 158 0 0 0 [(Value.ref l0), (Value.long l1), Value.retAddr 0, Value.retAddr 0, Value.retAddr 0, Value.retAddr 0] [] h Q := by
    intro Q hE
    rw [m_isWord] at hm
    refine pw_l (pc := 0) d158_0 rfl rfl rfl ?_
    obtain ⟨q1, e_q1, hm⟩ := ob_x hm
    refine pw_v (pc := 1) (k := l0) (by omega) d158_1 (k158_87 b) (by decide) m155 (by decide) rfl (sho s_h f_l0) (Nat.le_of_ble_eq_true rfl) (Nat.le_of_ble_eq_true rfl) rfl rfl (T_m_see b L xs (d - 1) (by omega) h s_h l0 f_l0 e_q1) (fun v0 h0 hq => ?_)
    obtain ⟨rfl, hh0, s_q1⟩ := hq
    rw [hh0] at s_q1 ⊢
    simp only [Option.toList_some, List.cons_append, List.nil_append]
    refine pw_s (pc := 4) d158_4 rfl rfl ?_
    refine pw_s (pc := 5) d158_5 rfl rfl ?_
    refine pw_t (pc := 6) d158_6 rfl rfl rfl rfl ?_
    refine pw_s (pc := 7) d158_7 rfl rfl ?_
    refine pw_t (pc := 8) d158_8 rfl rfl rfl rfl ?_
    obtain ⟨q2, e_q2, hm⟩ := ob_x hm
    refine wh_ind e_q2 (fun s : (Int64 × Int32 × pm_H) => s.2.2.1 = tb_SH → PW b L xs d 158 0 0 10 [(Value.ref l0), (Value.long l1), Value.retAddr 0, (Value.long s.1), Value.retAddr 0, (Value.int s.2.1)] [] s.2.2 Q) (fun s s2 hf ih sx => t_m_isWord_10 b L xs d hd s.2.2 sx l0 l1 s.1 s.2.1  f_l0 hf ih) (fun s hf sx => t_m_isWord_10 b L xs d hd s.2.2 sx l0 l1 s.1 s.2.1  f_l0 hf ?_) s_q1  
    intro s_q2_0 w0
    refine pw_l (pc := 56) d158_56 rfl rfl rfl ?_
    refine pw_zle (pc := 58) (t := 78) d158_58 (by decide) (fun c3 => ?_) (fun c3 => ?_)
    · rw [if_pos c3] at hm
      refine pw_s (pc := 78) d158_78 rfl rfl ?_
      obtain rfl := Option.some.inj hm
      refine pw_ri (pc := 79) d158_79 t158 rfl ?_
      exact hE s_q2_0
    · rw [if_neg c3] at hm
      refine pw_l (pc := 61) d158_61 rfl rfl rfl ?_
      refine pw_s (pc := 63) d158_63 rfl rfl ?_
      refine pw_ige (pc := 65) (t := 78) d158_65 (by decide) (fun c4 => ?_) (fun c4 => ?_)
      · rw [if_pos c4] at hm
        refine pw_s (pc := 78) d158_78 rfl rfl ?_
        obtain rfl := Option.some.inj hm
        refine pw_ri (pc := 79) d158_79 t158 rfl ?_
        exact hE s_q2_0
      · rw [if_neg c4] at hm
        refine pw_l (pc := 68) d158_68 rfl rfl rfl ?_
        refine pw_l (pc := 69) d158_69 rfl rfl rfl ?_
        refine pw_s (pc := 70) d158_70 rfl rfl ?_
        refine pw_zne (pc := 71) (t := 78) d158_71 (by decide) (fun c5 => ?_) (fun c5 => ?_)
        · rw [if_pos (show ¬ (lg_cmp q2.1 l1) = 0 from c5)] at hm
          refine pw_s (pc := 78) d158_78 rfl rfl ?_
          obtain rfl := Option.some.inj hm
          refine pw_ri (pc := 79) d158_79 t158 rfl ?_
          exact hE s_q2_0
        · rw [if_neg (show ¬ (¬ (lg_cmp q2.1 l1) = 0) from c5)] at hm
          refine pw_s (pc := 74) d158_74 rfl rfl ?_
          refine pw_go (pc := 75) (t := 79) d158_75 (by decide) ?_
          obtain rfl := Option.some.inj hm
          refine pw_ri (pc := 79) d158_79 t158 rfl ?_
          exact hE s_q2_0
  exact key _ (fun q => ⟨rfl, rfl, q⟩)
def E_m_passWord_0 (b : Bool) (L : Nat) (xs : Nat → Int32) (d : Nat) (Q : Option Value → pm_H → Prop) (l0 : Nat) : (pm_H ⊕ pm_H) → Prop
  | .inl s => s.1 = tb_SH → PW b L xs d 159 0 0 0 [(Value.ref l0)] [] s Q
  | .inr e => e.1 = tb_SH → ∀ w0 : Value, PW b L xs d 159 0 0 24 [w0] [] e Q
noncomputable def m_passWord_0 (l0 : Nat) (h : pm_H) : Option (pm_H ⊕ pm_H) := (m_isLetter l0 (h.2.1 l0 8) h).bind fun q1 => if q1 = 0 then (some (.inr h)) else (bd (pm_setI h l0 8 ((h.2.1 l0 8) + (Int32.ofInt 1))) fun h3 => some (.inl h3))
theorem t_m_passWord_0 (b : Bool) (L : Nat) (xs : Nat → Int32) (d : Nat) (hd : 1 ≤ d) {Q : Option Value → pm_H → Prop} (h : pm_H) (s_h : h.1 = tb_SH) (l0 : Nat) (f_l0 : mi_o l0 10 = true) {r : (pm_H ⊕ pm_H)} (hm : m_passWord_0 l0 h = some r) (hE : E_m_passWord_0 b L xs d Q l0 r) : PW b L xs d 159 0 0 0 [(Value.ref l0)] [] h Q := by
  rw [m_passWord_0] at hm
  refine pw_l (pc := 0) d159_0 rfl rfl rfl ?_
  refine pw_l (pc := 1) d159_1 rfl rfl rfl ?_
  refine pw_gi (pc := 2) d159_2 (k159_84 b) (sho s_h f_l0) f10_8 ?_
  obtain ⟨q1, e_q1, hm⟩ := ob_x hm
  refine pw_v (pc := 5) (k := l0) (by omega) d159_5 (k159_91 b) (by decide) m157 (by decide) rfl (sho s_h f_l0) (Nat.le_of_ble_eq_true rfl) (Nat.le_of_ble_eq_true rfl) rfl rfl (T_m_isLetter b L xs (d - 1) (by omega) h s_h l0 (h.2.1 l0 8) f_l0 e_q1) (fun v0 h0 hq => ?_)
  obtain ⟨rfl, hh0, s_q1⟩ := hq
  rw [hh0] at s_q1 ⊢
  simp only [Option.toList_some, List.cons_append, List.nil_append]
  refine pw_zeq (pc := 8) (t := 24) d159_8 (by decide) (fun c2 => ?_) (fun c2 => ?_)
  · rw [if_pos c2] at hm
    obtain rfl := Option.some.inj hm
    exact hE s_h  (Value.ref l0)
  · rw [if_neg c2] at hm
    refine pw_l (pc := 11) d159_11 rfl rfl rfl ?_
    refine pw_s (pc := 12) d159_12 rfl rfl ?_
    refine pw_gi (pc := 13) d159_13 (k159_84 b) (sho s_h f_l0) f10_8 ?_
    refine pw_s (pc := 16) d159_16 rfl rfl ?_
    refine pw_s (pc := 17) d159_17 rfl rfl ?_
    refine pw_pi (pc := 18) d159_18 (k159_84 b) (sho s_h f_l0) p159_10_8 ?_
    obtain ⟨h3, e_h3, hm⟩ := bd_x hm
    rw [e_h3]
    have s_h3 : h3.1 = tb_SH := by rw [← e_h3]; exact s_h
    refine pw_go (pc := 21) (t := 0) d159_21 (by decide) ?_
    obtain rfl := Option.some.inj hm
    exact hE s_h3  
noncomputable def m_passWord (l0 : Nat) (h : pm_H) : Option pm_H := (wh (fun s : pm_H => m_passWord_0 l0 s) h).bind fun q1 => some q1
theorem T_m_passWord (b : Bool) (L : Nat) (xs : Nat → Int32) (d : Nat) (hd : 1 ≤ d) (h : pm_H) (s_h : h.1 = tb_SH) (l0 : Nat) (f_l0 : mi_o l0 10 = true) {r : pm_H} (hm : m_passWord l0 h = some r) : PC b L xs d 159 [(Value.ref l0)] h (fun (v0 : Option Value) (h2 : pm_H) => v0 = none ∧ h2 = r ∧ h2.1 = tb_SH) := by
  refine pc_in e159 (ls0 := [(Value.ref l0)]) rfl ?_
  have key : ∀ (Q : Option Value → pm_H → Prop), (r.1 = tb_SH → Q none r) → PW b L xs d 159 0 0 0 [(Value.ref l0)] [] h Q := by
    intro Q hE
    rw [m_passWord] at hm
    obtain ⟨q1, e_q1, hm⟩ := ob_x hm
    refine wh_ind e_q1 (fun s : pm_H => s.1 = tb_SH → PW b L xs d 159 0 0 0 [(Value.ref l0)] [] s Q) (fun s s2 hf ih sx => t_m_passWord_0 b L xs d hd s sx l0  f_l0 hf ih) (fun s hf sx => t_m_passWord_0 b L xs d hd s sx l0  f_l0 hf ?_) s_h  
    intro s_q1_0 w0
    obtain rfl := Option.some.inj hm
    refine pw_rv (pc := 24) d159_24 t159 ?_
    exact hE s_q1_0
  exact key _ (fun q => ⟨rfl, rfl, q⟩)
noncomputable def m_takesWord (l0 : Nat) (l1 : Int64) (h : pm_H) : Option (Int32 × pm_H) := (m_isWord l0 l1 h).bind fun q1 => if ¬ q1.1 = 0 then ((m_passWord l0 q1.2).bind fun q3 => some ((Int32.ofInt 1), q3)) else (some ((Int32.ofInt 0), q1.2))
theorem T_m_takesWord (b : Bool) (L : Nat) (xs : Nat → Int32) (d : Nat) (hd : 2 ≤ d) (h : pm_H) (s_h : h.1 = tb_SH) (l0 : Nat) (l1 : Int64) (f_l0 : mi_o l0 10 = true) {r : (Int32 × pm_H)} (hm : m_takesWord l0 l1 h = some r) : PC b L xs d 160 [(Value.ref l0), (Value.long l1)] h (fun (v0 : Option Value) (h2 : pm_H) => v0 = (some (Value.int r.1)) ∧ h2 = r.2 ∧ h2.1 = tb_SH) := by
  refine pc_in e160 (ls0 := [(Value.ref l0), (Value.long l1), Value.retAddr 0]) rfl ?_
  have key : ∀ (Q : Option Value → pm_H → Prop), (r.2.1 = tb_SH → Q (some (Value.int r.1)) r.2) → PW b L xs d 160 0 0 0 [(Value.ref l0), (Value.long l1), Value.retAddr 0] [] h Q := by
    intro Q hE
    rw [m_takesWord] at hm
    refine pw_l (pc := 0) d160_0 rfl rfl rfl ?_
    refine pw_l (pc := 1) d160_1 rfl rfl rfl ?_
    obtain ⟨q1, e_q1, hm⟩ := ob_x hm
    refine pw_v (pc := 2) (k := l0) (by omega) d160_2 (k160_95 b) (by decide) m158 (by decide) rfl (sho s_h f_l0) (Nat.le_of_ble_eq_true rfl) (Nat.le_of_ble_eq_true rfl) rfl rfl (T_m_isWord b L xs (d - 1) (by omega) h s_h l0 l1 f_l0 e_q1) (fun v0 h0 hq => ?_)
    obtain ⟨rfl, hh0, s_q1⟩ := hq
    rw [hh0] at s_q1 ⊢
    simp only [Option.toList_some, List.cons_append, List.nil_append]
    refine pw_zne (pc := 5) (t := 10) d160_5 (by decide) (fun c2 => ?_) (fun c2 => ?_)
    · rw [if_pos c2] at hm
      refine pw_l (pc := 10) d160_10 rfl rfl rfl ?_
      obtain ⟨q3, e_q3, hm⟩ := ob_x hm
      refine pw_v (pc := 11) (k := l0) (by omega) d160_11 (k160_99 b) (by decide) m159 (by decide) rfl (sho s_q1 f_l0) (Nat.le_of_ble_eq_true rfl) (Nat.le_of_ble_eq_true rfl) rfl rfl (T_m_passWord b L xs (d - 1) (by omega) q1.2 s_q1 l0 f_l0 e_q3) (fun v0 h0 hq => ?_)
      obtain ⟨rfl, hh0, s_q3⟩ := hq
      rw [hh0] at s_q3 ⊢
      simp only [Option.toList_none, List.nil_append]
      refine pw_s (pc := 14) d160_14 rfl rfl ?_
      obtain rfl := Option.some.inj hm
      refine pw_ri (pc := 15) d160_15 t160 rfl ?_
      exact hE s_q3
    · rw [if_neg c2] at hm
      refine pw_s (pc := 8) d160_8 rfl rfl ?_
      obtain rfl := Option.some.inj hm
      refine pw_ri (pc := 9) d160_9 t160 rfl ?_
      exact hE s_q1
  exact key _ (fun q => ⟨rfl, rfl, q⟩)
def E_m_numberHere_34 (b : Bool) (L : Nat) (xs : Nat → Int32) (d : Nat) (Q : Option Value → pm_H → Prop) (l0 : Nat) (l1 : Int32) (l2 : Int32) (l3 : Int32) : ((Int32 × pm_H) ⊕ (Int32 × pm_H)) → Prop
  | .inl s => s.2.1 = tb_SH → PW b L xs d 161 0 0 34 [(Value.ref l0), (Value.int l1), (Value.int l2), (Value.int l3), (Value.int s.1)] [] s.2 Q
  | .inr e => e.2.1 = tb_SH → PW b L xs d 161 0 0 88 [(Value.ref l0), (Value.int l1), (Value.int l2), (Value.int l3), (Value.int e.1)] [] e.2 Q
noncomputable def m_numberHere_126 (h : pm_H) : Option (Int32 × pm_H) := some ((Int32.ofInt 1), h)
theorem t_m_numberHere_126 (b : Bool) (L : Nat) (xs : Nat → Int32) (d : Nat) (hd : 1 ≤ d) {Q : Option Value → pm_H → Prop} (h : pm_H) (s_h : h.1 = tb_SH) (w0 : Value) (w1 : Value) (w2 : Value) (w3 : Value) (w4 : Value) {r : (Int32 × pm_H)} (hm : m_numberHere_126 h = some r) (hE : r.2.1 = tb_SH → Q (some (Value.int r.1)) r.2) : PW b L xs d 161 0 0 126 [w0, w1, w2, w3, w4] [] h Q := by
  rw [m_numberHere_126] at hm
  refine pw_s (pc := 126) d161_126 rfl rfl ?_
  refine pw_go (pc := 127) (t := 131) d161_127 (by decide) ?_
  obtain rfl := Option.some.inj hm
  refine pw_ri (pc := 131) d161_131 t161 rfl ?_
  exact hE s_h
noncomputable def m_numberHere_117 (l0 : Nat) (l3 : Int32) (h : pm_H) : Option (Int32 × pm_H) := (m_fails l0 (Int32.ofInt 1) l3 h).bind fun q1 => if q1.1 = 0 then (some ((Int32.ofInt 0), q1.2)) else (m_numberHere_126 q1.2)
theorem t_m_numberHere_117 (b : Bool) (L : Nat) (xs : Nat → Int32) (d : Nat) (hd : 1 ≤ d) {Q : Option Value → pm_H → Prop} (h : pm_H) (s_h : h.1 = tb_SH) (l0 : Nat) (l3 : Int32) (w1 : Value) (w2 : Value) (w4 : Value) (f_l0 : mi_o l0 10 = true) {r : (Int32 × pm_H)} (hm : m_numberHere_117 l0 l3 h = some r) (hE : r.2.1 = tb_SH → Q (some (Value.int r.1)) r.2) : PW b L xs d 161 0 0 117 [(Value.ref l0), w1, w2, (Value.int l3), w4] [] h Q := by
  rw [m_numberHere_117] at hm
  refine pw_l (pc := 117) d161_117 rfl rfl rfl ?_
  refine pw_s (pc := 118) d161_118 rfl rfl ?_
  refine pw_l (pc := 119) d161_119 rfl rfl rfl ?_
  obtain ⟨q1, e_q1, hm⟩ := ob_x hm
  refine pw_v (pc := 120) (k := l0) (by omega) d161_120 (k161_105 b) (by decide) m154 (by decide) rfl (sho s_h f_l0) (Nat.le_of_ble_eq_true rfl) (Nat.le_of_ble_eq_true rfl) rfl rfl (T_m_fails b L xs (d - 1) (by omega) h s_h l0 (Int32.ofInt 1) l3 f_l0 e_q1) (fun v0 h0 hq => ?_)
  obtain ⟨rfl, hh0, s_q1⟩ := hq
  rw [hh0] at s_q1 ⊢
  simp only [Option.toList_some, List.cons_append, List.nil_append]
  refine pw_zeq (pc := 123) (t := 130) d161_123 (by decide) (fun c2 => ?_) (fun c2 => ?_)
  · rw [if_pos c2] at hm
    refine pw_s (pc := 130) d161_130 rfl rfl ?_
    obtain rfl := Option.some.inj hm
    refine pw_ri (pc := 131) d161_131 t161 rfl ?_
    exact hE s_q1
  · rw [if_neg c2] at hm
    exact t_m_numberHere_126 b L xs d hd q1.2 s_q1 (Value.ref l0) w1 w2 (Value.int l3) w4   hm hE
noncomputable def m_numberHere_75 (l0 : Nat) (l1 : Int32) (l2 : Int32) (l3 : Int32) (l4 : Int32) (h : pm_H) : Option ((Int32 × pm_H) ⊕ (Int32 × pm_H)) := bd (pm_setI h l0 8 ((h.2.1 l0 8) + (Int32.ofInt 1))) fun h1 => some (.inl (l4, h1))
theorem t_m_numberHere_75 (b : Bool) (L : Nat) (xs : Nat → Int32) (d : Nat) (hd : 1 ≤ d) {Q : Option Value → pm_H → Prop} (h : pm_H) (s_h : h.1 = tb_SH) (l0 : Nat) (l1 : Int32) (l2 : Int32) (l3 : Int32) (l4 : Int32) (f_l0 : mi_o l0 10 = true) {r : ((Int32 × pm_H) ⊕ (Int32 × pm_H))} (hm : m_numberHere_75 l0 l1 l2 l3 l4 h = some r) (hE : E_m_numberHere_34 b L xs d Q l0 l1 l2 l3 r) : PW b L xs d 161 0 0 75 [(Value.ref l0), (Value.int l1), (Value.int l2), (Value.int l3), (Value.int l4)] [] h Q := by
  rw [m_numberHere_75] at hm
  refine pw_l (pc := 75) d161_75 rfl rfl rfl ?_
  refine pw_s (pc := 76) d161_76 rfl rfl ?_
  refine pw_gi (pc := 77) d161_77 (k161_84 b) (sho s_h f_l0) f10_8 ?_
  refine pw_s (pc := 80) d161_80 rfl rfl ?_
  refine pw_s (pc := 81) d161_81 rfl rfl ?_
  refine pw_pi (pc := 82) d161_82 (k161_84 b) (sho s_h f_l0) p161_10_8 ?_
  obtain ⟨h1, e_h1, hm⟩ := bd_x hm
  rw [e_h1]
  have s_h1 : h1.1 = tb_SH := by rw [← e_h1]; exact s_h
  refine pw_go (pc := 85) (t := 34) d161_85 (by decide) ?_
  obtain rfl := Option.some.inj hm
  exact hE s_h1  
noncomputable def m_numberHere_34 (l0 : Nat) (l1 : Int32) (l2 : Int32) (l3 : Int32) (l4 : Int32) (h : pm_H) : Option ((Int32 × pm_H) ⊕ (Int32 × pm_H)) := (m_isDigit l0 (h.2.1 l0 8) h).bind fun q1 => if q1 = 0 then (some (.inr (l4, h))) else (if (Int32.ofInt 5) ≤ ((h.2.1 l0 8) - l3) then (m_numberHere_75 l0 l1 l2 l3 l4 h) else ((gA h l0 0 .byte).bind fun y4 => if mi_in (h.2.1 l0 8) (mi_n y4) = true then m_numberHere_75 l0 l1 l2 l3 ((((Int8.ofInt 10).toInt32 * l4) + (h.2.1 y4 (h.2.1 l0 8).toNatClampNeg)) - (Int8.ofInt 48).toInt32) h else none))
theorem t_m_numberHere_34 (b : Bool) (L : Nat) (xs : Nat → Int32) (d : Nat) (hd : 1 ≤ d) {Q : Option Value → pm_H → Prop} (h : pm_H) (s_h : h.1 = tb_SH) (l0 : Nat) (l1 : Int32) (l2 : Int32) (l3 : Int32) (l4 : Int32) (f_l0 : mi_o l0 10 = true) {r : ((Int32 × pm_H) ⊕ (Int32 × pm_H))} (hm : m_numberHere_34 l0 l1 l2 l3 l4 h = some r) (hE : E_m_numberHere_34 b L xs d Q l0 l1 l2 l3 r) : PW b L xs d 161 0 0 34 [(Value.ref l0), (Value.int l1), (Value.int l2), (Value.int l3), (Value.int l4)] [] h Q := by
  rw [m_numberHere_34] at hm
  refine pw_l (pc := 34) d161_34 rfl rfl rfl ?_
  refine pw_l (pc := 35) d161_35 rfl rfl rfl ?_
  refine pw_gi (pc := 36) d161_36 (k161_84 b) (sho s_h f_l0) f10_8 ?_
  obtain ⟨q1, e_q1, hm⟩ := ob_x hm
  refine pw_v (pc := 39) (k := l0) (by omega) d161_39 (k161_102 b) (by decide) m156 (by decide) rfl (sho s_h f_l0) (Nat.le_of_ble_eq_true rfl) (Nat.le_of_ble_eq_true rfl) rfl rfl (T_m_isDigit b L xs (d - 1) (by omega) h s_h l0 (h.2.1 l0 8) f_l0 e_q1) (fun v0 h0 hq => ?_)
  obtain ⟨rfl, hh0, s_q1⟩ := hq
  rw [hh0] at s_q1 ⊢
  simp only [Option.toList_some, List.cons_append, List.nil_append]
  refine pw_zeq (pc := 42) (t := 88) d161_42 (by decide) (fun c2 => ?_) (fun c2 => ?_)
  · rw [if_pos c2] at hm
    obtain rfl := Option.some.inj hm
    exact hE s_h  
  · rw [if_neg c2] at hm
    refine pw_l (pc := 45) d161_45 rfl rfl rfl ?_
    refine pw_gi (pc := 46) d161_46 (k161_84 b) (sho s_h f_l0) f10_8 ?_
    refine pw_l (pc := 49) d161_49 rfl rfl rfl ?_
    refine pw_s (pc := 50) d161_50 rfl rfl ?_
    refine pw_s (pc := 51) d161_51 rfl rfl ?_
    refine pw_ige (pc := 52) (t := 75) d161_52 (by decide) (fun c3 => ?_) (fun c3 => ?_)
    · rw [if_pos c3] at hm
      exact t_m_numberHere_75 b L xs d hd h s_h l0 l1 l2 l3 l4  f_l0  hm hE
    · rw [if_neg c3] at hm
      refine pw_s (pc := 55) d161_55 rfl rfl ?_
      refine pw_l (pc := 57) d161_57 rfl rfl rfl ?_
      refine pw_s (pc := 59) d161_59 rfl rfl ?_
      refine pw_l (pc := 60) d161_60 rfl rfl rfl ?_
      obtain ⟨y4, e_y4, hm⟩ := ob_x hm
      have f_y4 := gA_x e_y4
      refine pw_gr (pc := 61) d161_61 (k161_7 b) (sho s_h f_l0) f10_0 f_y4.1 ?_
      refine pw_l (pc := 64) d161_64 rfl rfl rfl ?_
      refine pw_gi (pc := 65) d161_65 (k161_84 b) (sho s_h f_l0) f10_8 ?_
      obtain ⟨g5, hm⟩ := gd_x hm
      refine pw_ab (pc := 68) d161_68 (sha s_h f_y4.2) (by decide) (mi_in_x g5) ?_
      refine pw_s (pc := 69) d161_69 rfl rfl ?_
      refine pw_s (pc := 70) d161_70 rfl rfl ?_
      refine pw_s (pc := 72) d161_72 rfl rfl ?_
      refine pw_t (pc := 73) d161_73 rfl rfl rfl rfl ?_
      exact t_m_numberHere_75 b L xs d hd h s_h l0 l1 l2 l3 ((((Int8.ofInt 10).toInt32 * l4) + (h.2.1 y4 (h.2.1 l0 8).toNatClampNeg)) - (Int8.ofInt 48).toInt32)  f_l0  hm hE
noncomputable def m_numberHere (l0 : Nat) (l1 : Int32) (l2 : Int32) (h : pm_H) : Option (Int32 × pm_H) := (m_see l0 h).bind fun q1 => (m_isDigit l0 (q1.2.2.1 l0 8) q1.2).bind fun q2 => if ¬ q2 = 0 then ((wh (fun s : (Int32 × pm_H) => m_numberHere_34 l0 l1 l2 (q1.2.2.1 l0 8) s.1 s.2) ((Int32.ofInt 0), q1.2)).bind fun q4 => bd (pm_setI q4.2 l0 10 q4.1) fun h5 => if (Int32.ofInt 5) < ((h5.2.1 l0 8) - (q1.2.2.1 l0 8)) then (m_numberHere_117 l0 (q1.2.2.1 l0 8) h5) else ((m_in q4.1.toInt64 l1.toInt64 l2.toInt64 h5).bind fun q7 => if ¬ q7 = 0 then (m_numberHere_126 h5) else (m_numberHere_117 l0 (q1.2.2.1 l0 8) h5))) else ((m_fails l0 (Int32.ofInt 0) (q1.2.2.1 l0 8) q1.2).bind fun q9 => if mi_bo q9.1 = true then some (q9.1, q9.2) else none)
theorem T_m_numberHere (b : Bool) (L : Nat) (xs : Nat → Int32) (d : Nat) (hd : 1 ≤ d) (h : pm_H) (s_h : h.1 = tb_SH) (l0 : Nat) (l1 : Int32) (l2 : Int32) (f_l0 : mi_o l0 10 = true) {r : (Int32 × pm_H)} (hm : m_numberHere l0 l1 l2 h = some r) : PC b L xs d 161 [(Value.ref l0), (Value.int l1), (Value.int l2)] h (fun (v0 : Option Value) (h2 : pm_H) => v0 = (some (Value.int r.1)) ∧ h2 = r.2 ∧ h2.1 = tb_SH) := by
  refine pc_in e161 (ls0 := [(Value.ref l0), (Value.int l1), (Value.int l2), Value.retAddr 0, Value.retAddr 0]) rfl ?_
  have key : ∀ (Q : Option Value → pm_H → Prop), (r.2.1 = tb_SH → Q (some (Value.int r.1)) r.2) → PW b L xs d 161 0 0 0 [(Value.ref l0), (Value.int l1), (Value.int l2), Value.retAddr 0, Value.retAddr 0] [] h Q := by
    intro Q hE
    rw [m_numberHere] at hm
    refine pw_l (pc := 0) d161_0 rfl rfl rfl ?_
    obtain ⟨q1, e_q1, hm⟩ := ob_x hm
    refine pw_v (pc := 1) (k := l0) (by omega) d161_1 (k161_87 b) (by decide) m155 (by decide) rfl (sho s_h f_l0) (Nat.le_of_ble_eq_true rfl) (Nat.le_of_ble_eq_true rfl) rfl rfl (T_m_see b L xs (d - 1) (by omega) h s_h l0 f_l0 e_q1) (fun v0 h0 hq => ?_)
    obtain ⟨rfl, hh0, s_q1⟩ := hq
    rw [hh0] at s_q1 ⊢
    simp only [Option.toList_some, List.cons_append, List.nil_append]
    refine pw_s (pc := 4) d161_4 rfl rfl ?_
    refine pw_l (pc := 5) d161_5 rfl rfl rfl ?_
    refine pw_l (pc := 6) d161_6 rfl rfl rfl ?_
    refine pw_gi (pc := 7) d161_7 (k161_84 b) (sho s_q1 f_l0) f10_8 ?_
    obtain ⟨q2, e_q2, hm⟩ := ob_x hm
    refine pw_v (pc := 10) (k := l0) (by omega) d161_10 (k161_102 b) (by decide) m156 (by decide) rfl (sho s_q1 f_l0) (Nat.le_of_ble_eq_true rfl) (Nat.le_of_ble_eq_true rfl) rfl rfl (T_m_isDigit b L xs (d - 1) (by omega) q1.2 s_q1 l0 (q1.2.2.1 l0 8) f_l0 e_q2) (fun v0 h0 hq => ?_)
    obtain ⟨rfl, hh0, s_q2⟩ := hq
    rw [hh0] at s_q2 ⊢
    simp only [Option.toList_some, List.cons_append, List.nil_append]
    refine pw_zne (pc := 13) (t := 26) d161_13 (by decide) (fun c3 => ?_) (fun c3 => ?_)
    · rw [if_pos c3] at hm
      refine pw_l (pc := 26) d161_26 rfl rfl rfl ?_
      refine pw_gi (pc := 27) d161_27 (k161_84 b) (sho s_q1 f_l0) f10_8 ?_
      refine pw_t (pc := 30) d161_30 rfl rfl rfl rfl ?_
      refine pw_s (pc := 31) d161_31 rfl rfl ?_
      refine pw_t (pc := 32) d161_32 rfl rfl rfl rfl ?_
      obtain ⟨q4, e_q4, hm⟩ := ob_x hm
      refine wh_ind e_q4 (fun s : (Int32 × pm_H) => s.2.1 = tb_SH → PW b L xs d 161 0 0 34 [(Value.ref l0), (Value.int l1), (Value.int l2), (Value.int (q1.2.2.1 l0 8)), (Value.int s.1)] [] s.2 Q) (fun s s2 hf ih sx => t_m_numberHere_34 b L xs d hd s.2 sx l0 l1 l2 (q1.2.2.1 l0 8) s.1  f_l0 hf ih) (fun s hf sx => t_m_numberHere_34 b L xs d hd s.2 sx l0 l1 l2 (q1.2.2.1 l0 8) s.1  f_l0 hf ?_) s_q1  
      intro s_q4_0
      refine pw_l (pc := 88) d161_88 rfl rfl rfl ?_
      refine pw_l (pc := 89) d161_89 rfl rfl rfl ?_
      refine pw_pi (pc := 91) d161_91 (k161_109 b) (sho s_q4_0 f_l0) p161_10_10 ?_
      obtain ⟨h5, e_h5, hm⟩ := bd_x hm
      rw [e_h5]
      have s_h5 : h5.1 = tb_SH := by rw [← e_h5]; exact s_q4_0
      refine pw_l (pc := 94) d161_94 rfl rfl rfl ?_
      refine pw_gi (pc := 95) d161_95 (k161_84 b) (sho s_h5 f_l0) f10_8 ?_
      refine pw_l (pc := 98) d161_98 rfl rfl rfl ?_
      refine pw_s (pc := 99) d161_99 rfl rfl ?_
      refine pw_s (pc := 100) d161_100 rfl rfl ?_
      refine pw_igt (pc := 101) (t := 117) d161_101 (by decide) (fun c6 => ?_) (fun c6 => ?_)
      · rw [if_pos c6] at hm
        exact t_m_numberHere_117 b L xs d hd h5 s_h5 l0 (q1.2.2.1 l0 8) (Value.int l1) (Value.int l2) (Value.int q4.1) f_l0  hm hE
      · rw [if_neg c6] at hm
        refine pw_l (pc := 104) d161_104 rfl rfl rfl ?_
        refine pw_s (pc := 106) d161_106 rfl rfl ?_
        refine pw_l (pc := 107) d161_107 rfl rfl rfl ?_
        refine pw_s (pc := 108) d161_108 rfl rfl ?_
        refine pw_l (pc := 109) d161_109 rfl rfl rfl ?_
        refine pw_s (pc := 110) d161_110 rfl rfl ?_
        obtain ⟨q7, e_q7, hm⟩ := ob_x hm
        refine pw_u (pc := 111) (by omega) d161_111 (k161_112 b) (by decide) m148 (Nat.le_of_ble_eq_true rfl) (Nat.le_of_ble_eq_true rfl) (Nat.le_of_ble_eq_true rfl) rfl rfl (T_m_in b L xs (d - 1) (by omega) h5 s_h5 q4.1.toInt64 l1.toInt64 l2.toInt64  e_q7) (fun v0 h0 hq => ?_)
        obtain ⟨rfl, hh0, s_q7⟩ := hq
        rw [hh0] at s_q7 ⊢
        simp only [Option.toList_some, List.cons_append, List.nil_append]
        refine pw_zne (pc := 114) (t := 126) d161_114 (by decide) (fun c8 => ?_) (fun c8 => ?_)
        · rw [if_pos c8] at hm
          exact t_m_numberHere_126 b L xs d hd h5 s_h5 (Value.ref l0) (Value.int l1) (Value.int l2) (Value.int (q1.2.2.1 l0 8)) (Value.int q4.1)   hm hE
        · rw [if_neg c8] at hm
          exact t_m_numberHere_117 b L xs d hd h5 s_h5 l0 (q1.2.2.1 l0 8) (Value.int l1) (Value.int l2) (Value.int q4.1) f_l0  hm hE
    · rw [if_neg c3] at hm
      refine pw_l (pc := 16) d161_16 rfl rfl rfl ?_
      refine pw_s (pc := 17) d161_17 rfl rfl ?_
      refine pw_l (pc := 18) d161_18 rfl rfl rfl ?_
      refine pw_gi (pc := 19) d161_19 (k161_84 b) (sho s_q1 f_l0) f10_8 ?_
      obtain ⟨q9, e_q9, hm⟩ := ob_x hm
      refine pw_v (pc := 22) (k := l0) (by omega) d161_22 (k161_105 b) (by decide) m154 (by decide) rfl (sho s_q1 f_l0) (Nat.le_of_ble_eq_true rfl) (Nat.le_of_ble_eq_true rfl) rfl rfl (T_m_fails b L xs (d - 1) (by omega) q1.2 s_q1 l0 (Int32.ofInt 0) (q1.2.2.1 l0 8) f_l0 e_q9) (fun v0 h0 hq => ?_)
      obtain ⟨rfl, hh0, s_q9⟩ := hq
      rw [hh0] at s_q9 ⊢
      simp only [Option.toList_some, List.cons_append, List.nil_append]
      obtain ⟨g10, hm⟩ := gd_x hm
      obtain rfl := Option.some.inj hm
      refine pw_ri (pc := 25) d161_25 t161 (pm_nz (mi_bo_x g10)) ?_
      exact hE s_q9
  exact key _ (fun q => ⟨rfl, rfl, q⟩)
noncomputable def m_wordHere (l0 : Nat) (h : pm_H) : Option (Int32 × pm_H) := (m_isWord l0 (7168366 : Int64) h).bind fun q1 => if q1.1 = 0 then ((m_isWord l0 (2003792484 : Int64) q1.2).bind fun q3 => if q3.1 = 0 then ((m_isWord l0 (422608794728 : Int64) q3.2).bind fun q5 => if q5.1 = 0 then ((m_isWord l0 (1752135026 : Int64) q5.2).bind fun q7 => if q7.1 = 0 then ((m_isWord l0 (2003398244 : Int64) q7.2).bind fun q9 => if q9.1 = 0 then ((m_isWord l0 (418614700901 : Int64) q9.2).bind fun q11 => if q11.1 = 0 then ((m_isWord l0 (1936286571 : Int64) q11.2).bind fun q13 => if q13.1 = 0 then ((m_isWord l0 (499985311076 : Int64) q13.2).bind fun q15 => if q15.1 = 0 then ((m_isWord l0 (1935764837 : Int64) q15.2).bind fun q17 => if q17.1 = 0 then ((m_isWord l0 (1852138852 : Int64) q17.2).bind fun q19 => if q19.1 = 0 then ((m_isWord l0 (1668441463 : Int64) q19.2).bind fun q21 => if q21.1 = 0 then (some ((Int32.ofInt (-1)), q21.2)) else (some ((Int8.ofInt 10).toInt32, q21.2))) else (some ((Int8.ofInt 9).toInt32, q19.2))) else (some ((Int8.ofInt 8).toInt32, q17.2))) else (some ((Int8.ofInt 7).toInt32, q15.2))) else (some ((Int8.ofInt 6).toInt32, q13.2))) else (some ((Int32.ofInt 5), q11.2))) else (some ((Int32.ofInt 4), q9.2))) else (some ((Int32.ofInt 3), q7.2))) else (some ((Int32.ofInt 2), q5.2))) else (some ((Int32.ofInt 1), q3.2))) else (some ((Int32.ofInt 0), q1.2))
theorem T_m_wordHere (b : Bool) (L : Nat) (xs : Nat → Int32) (d : Nat) (hd : 2 ≤ d) (h : pm_H) (s_h : h.1 = tb_SH) (l0 : Nat) (f_l0 : mi_o l0 10 = true) {r : (Int32 × pm_H)} (hm : m_wordHere l0 h = some r) : PC b L xs d 162 [(Value.ref l0)] h (fun (v0 : Option Value) (h2 : pm_H) => v0 = (some (Value.int r.1)) ∧ h2 = r.2 ∧ h2.1 = tb_SH) := by
  refine pc_in e162 (ls0 := [(Value.ref l0)]) rfl ?_
  have key : ∀ (Q : Option Value → pm_H → Prop), (r.2.1 = tb_SH → Q (some (Value.int r.1)) r.2) → PW b L xs d 162 0 0 0 [(Value.ref l0)] [] h Q := by
    intro Q hE
    rw [m_wordHere] at hm
    refine pw_l (pc := 0) d162_0 rfl rfl rfl ?_
    refine pw_cl (pc := 1) d162_1 (k162_116 b) ?_
    obtain ⟨q1, e_q1, hm⟩ := ob_x hm
    refine pw_v (pc := 4) (k := l0) (by omega) d162_4 (k162_95 b) (by decide) m158 (by decide) rfl (sho s_h f_l0) (Nat.le_of_ble_eq_true rfl) (Nat.le_of_ble_eq_true rfl) rfl rfl (T_m_isWord b L xs (d - 1) (by omega) h s_h l0 (7168366 : Int64) f_l0 e_q1) (fun v0 h0 hq => ?_)
    obtain ⟨rfl, hh0, s_q1⟩ := hq
    rw [hh0] at s_q1 ⊢
    simp only [Option.toList_some, List.cons_append, List.nil_append]
    refine pw_zeq (pc := 7) (t := 12) d162_7 (by decide) (fun c2 => ?_) (fun c2 => ?_)
    · rw [if_pos c2] at hm
      refine pw_l (pc := 12) d162_12 rfl rfl rfl ?_
      refine pw_cl (pc := 13) d162_13 (k162_118 b) ?_
      obtain ⟨q3, e_q3, hm⟩ := ob_x hm
      refine pw_v (pc := 16) (k := l0) (by omega) d162_16 (k162_95 b) (by decide) m158 (by decide) rfl (sho s_q1 f_l0) (Nat.le_of_ble_eq_true rfl) (Nat.le_of_ble_eq_true rfl) rfl rfl (T_m_isWord b L xs (d - 1) (by omega) q1.2 s_q1 l0 (2003792484 : Int64) f_l0 e_q3) (fun v0 h0 hq => ?_)
      obtain ⟨rfl, hh0, s_q3⟩ := hq
      rw [hh0] at s_q3 ⊢
      simp only [Option.toList_some, List.cons_append, List.nil_append]
      refine pw_zeq (pc := 19) (t := 24) d162_19 (by decide) (fun c4 => ?_) (fun c4 => ?_)
      · rw [if_pos c4] at hm
        refine pw_l (pc := 24) d162_24 rfl rfl rfl ?_
        refine pw_cl (pc := 25) d162_25 (k162_120 b) ?_
        obtain ⟨q5, e_q5, hm⟩ := ob_x hm
        refine pw_v (pc := 28) (k := l0) (by omega) d162_28 (k162_95 b) (by decide) m158 (by decide) rfl (sho s_q3 f_l0) (Nat.le_of_ble_eq_true rfl) (Nat.le_of_ble_eq_true rfl) rfl rfl (T_m_isWord b L xs (d - 1) (by omega) q3.2 s_q3 l0 (422608794728 : Int64) f_l0 e_q5) (fun v0 h0 hq => ?_)
        obtain ⟨rfl, hh0, s_q5⟩ := hq
        rw [hh0] at s_q5 ⊢
        simp only [Option.toList_some, List.cons_append, List.nil_append]
        refine pw_zeq (pc := 31) (t := 36) d162_31 (by decide) (fun c6 => ?_) (fun c6 => ?_)
        · rw [if_pos c6] at hm
          refine pw_l (pc := 36) d162_36 rfl rfl rfl ?_
          refine pw_cl (pc := 37) d162_37 (k162_122 b) ?_
          obtain ⟨q7, e_q7, hm⟩ := ob_x hm
          refine pw_v (pc := 40) (k := l0) (by omega) d162_40 (k162_95 b) (by decide) m158 (by decide) rfl (sho s_q5 f_l0) (Nat.le_of_ble_eq_true rfl) (Nat.le_of_ble_eq_true rfl) rfl rfl (T_m_isWord b L xs (d - 1) (by omega) q5.2 s_q5 l0 (1752135026 : Int64) f_l0 e_q7) (fun v0 h0 hq => ?_)
          obtain ⟨rfl, hh0, s_q7⟩ := hq
          rw [hh0] at s_q7 ⊢
          simp only [Option.toList_some, List.cons_append, List.nil_append]
          refine pw_zeq (pc := 43) (t := 48) d162_43 (by decide) (fun c8 => ?_) (fun c8 => ?_)
          · rw [if_pos c8] at hm
            refine pw_l (pc := 48) d162_48 rfl rfl rfl ?_
            refine pw_cl (pc := 49) d162_49 (k162_124 b) ?_
            obtain ⟨q9, e_q9, hm⟩ := ob_x hm
            refine pw_v (pc := 52) (k := l0) (by omega) d162_52 (k162_95 b) (by decide) m158 (by decide) rfl (sho s_q7 f_l0) (Nat.le_of_ble_eq_true rfl) (Nat.le_of_ble_eq_true rfl) rfl rfl (T_m_isWord b L xs (d - 1) (by omega) q7.2 s_q7 l0 (2003398244 : Int64) f_l0 e_q9) (fun v0 h0 hq => ?_)
            obtain ⟨rfl, hh0, s_q9⟩ := hq
            rw [hh0] at s_q9 ⊢
            simp only [Option.toList_some, List.cons_append, List.nil_append]
            refine pw_zeq (pc := 55) (t := 60) d162_55 (by decide) (fun c10 => ?_) (fun c10 => ?_)
            · rw [if_pos c10] at hm
              refine pw_l (pc := 60) d162_60 rfl rfl rfl ?_
              refine pw_cl (pc := 61) d162_61 (k162_126 b) ?_
              obtain ⟨q11, e_q11, hm⟩ := ob_x hm
              refine pw_v (pc := 64) (k := l0) (by omega) d162_64 (k162_95 b) (by decide) m158 (by decide) rfl (sho s_q9 f_l0) (Nat.le_of_ble_eq_true rfl) (Nat.le_of_ble_eq_true rfl) rfl rfl (T_m_isWord b L xs (d - 1) (by omega) q9.2 s_q9 l0 (418614700901 : Int64) f_l0 e_q11) (fun v0 h0 hq => ?_)
              obtain ⟨rfl, hh0, s_q11⟩ := hq
              rw [hh0] at s_q11 ⊢
              simp only [Option.toList_some, List.cons_append, List.nil_append]
              refine pw_zeq (pc := 67) (t := 72) d162_67 (by decide) (fun c12 => ?_) (fun c12 => ?_)
              · rw [if_pos c12] at hm
                refine pw_l (pc := 72) d162_72 rfl rfl rfl ?_
                refine pw_cl (pc := 73) d162_73 (k162_128 b) ?_
                obtain ⟨q13, e_q13, hm⟩ := ob_x hm
                refine pw_v (pc := 76) (k := l0) (by omega) d162_76 (k162_95 b) (by decide) m158 (by decide) rfl (sho s_q11 f_l0) (Nat.le_of_ble_eq_true rfl) (Nat.le_of_ble_eq_true rfl) rfl rfl (T_m_isWord b L xs (d - 1) (by omega) q11.2 s_q11 l0 (1936286571 : Int64) f_l0 e_q13) (fun v0 h0 hq => ?_)
                obtain ⟨rfl, hh0, s_q13⟩ := hq
                rw [hh0] at s_q13 ⊢
                simp only [Option.toList_some, List.cons_append, List.nil_append]
                refine pw_zeq (pc := 79) (t := 85) d162_79 (by decide) (fun c14 => ?_) (fun c14 => ?_)
                · rw [if_pos c14] at hm
                  refine pw_l (pc := 85) d162_85 rfl rfl rfl ?_
                  refine pw_cl (pc := 86) d162_86 (k162_130 b) ?_
                  obtain ⟨q15, e_q15, hm⟩ := ob_x hm
                  refine pw_v (pc := 89) (k := l0) (by omega) d162_89 (k162_95 b) (by decide) m158 (by decide) rfl (sho s_q13 f_l0) (Nat.le_of_ble_eq_true rfl) (Nat.le_of_ble_eq_true rfl) rfl rfl (T_m_isWord b L xs (d - 1) (by omega) q13.2 s_q13 l0 (499985311076 : Int64) f_l0 e_q15) (fun v0 h0 hq => ?_)
                  obtain ⟨rfl, hh0, s_q15⟩ := hq
                  rw [hh0] at s_q15 ⊢
                  simp only [Option.toList_some, List.cons_append, List.nil_append]
                  refine pw_zeq (pc := 92) (t := 98) d162_92 (by decide) (fun c16 => ?_) (fun c16 => ?_)
                  · rw [if_pos c16] at hm
                    refine pw_l (pc := 98) d162_98 rfl rfl rfl ?_
                    refine pw_cl (pc := 99) d162_99 (k162_132 b) ?_
                    obtain ⟨q17, e_q17, hm⟩ := ob_x hm
                    refine pw_v (pc := 102) (k := l0) (by omega) d162_102 (k162_95 b) (by decide) m158 (by decide) rfl (sho s_q15 f_l0) (Nat.le_of_ble_eq_true rfl) (Nat.le_of_ble_eq_true rfl) rfl rfl (T_m_isWord b L xs (d - 1) (by omega) q15.2 s_q15 l0 (1935764837 : Int64) f_l0 e_q17) (fun v0 h0 hq => ?_)
                    obtain ⟨rfl, hh0, s_q17⟩ := hq
                    rw [hh0] at s_q17 ⊢
                    simp only [Option.toList_some, List.cons_append, List.nil_append]
                    refine pw_zeq (pc := 105) (t := 111) d162_105 (by decide) (fun c18 => ?_) (fun c18 => ?_)
                    · rw [if_pos c18] at hm
                      refine pw_l (pc := 111) d162_111 rfl rfl rfl ?_
                      refine pw_cl (pc := 112) d162_112 (k162_134 b) ?_
                      obtain ⟨q19, e_q19, hm⟩ := ob_x hm
                      refine pw_v (pc := 115) (k := l0) (by omega) d162_115 (k162_95 b) (by decide) m158 (by decide) rfl (sho s_q17 f_l0) (Nat.le_of_ble_eq_true rfl) (Nat.le_of_ble_eq_true rfl) rfl rfl (T_m_isWord b L xs (d - 1) (by omega) q17.2 s_q17 l0 (1852138852 : Int64) f_l0 e_q19) (fun v0 h0 hq => ?_)
                      obtain ⟨rfl, hh0, s_q19⟩ := hq
                      rw [hh0] at s_q19 ⊢
                      simp only [Option.toList_some, List.cons_append, List.nil_append]
                      refine pw_zeq (pc := 118) (t := 126) d162_118 (by decide) (fun c20 => ?_) (fun c20 => ?_)
                      · rw [if_pos c20] at hm
                        refine pw_l (pc := 126) d162_126 rfl rfl rfl ?_
                        refine pw_cl (pc := 127) d162_127 (k162_136 b) ?_
                        obtain ⟨q21, e_q21, hm⟩ := ob_x hm
                        refine pw_v (pc := 130) (k := l0) (by omega) d162_130 (k162_95 b) (by decide) m158 (by decide) rfl (sho s_q19 f_l0) (Nat.le_of_ble_eq_true rfl) (Nat.le_of_ble_eq_true rfl) rfl rfl (T_m_isWord b L xs (d - 1) (by omega) q19.2 s_q19 l0 (1668441463 : Int64) f_l0 e_q21) (fun v0 h0 hq => ?_)
                        obtain ⟨rfl, hh0, s_q21⟩ := hq
                        rw [hh0] at s_q21 ⊢
                        simp only [Option.toList_some, List.cons_append, List.nil_append]
                        refine pw_zeq (pc := 133) (t := 141) d162_133 (by decide) (fun c22 => ?_) (fun c22 => ?_)
                        · rw [if_pos c22] at hm
                          refine pw_s (pc := 141) d162_141 rfl rfl ?_
                          obtain rfl := Option.some.inj hm
                          refine pw_ri (pc := 142) d162_142 t162 rfl ?_
                          exact hE s_q21
                        · rw [if_neg c22] at hm
                          refine pw_s (pc := 136) d162_136 rfl rfl ?_
                          refine pw_go (pc := 138) (t := 142) d162_138 (by decide) ?_
                          obtain rfl := Option.some.inj hm
                          refine pw_ri (pc := 142) d162_142 t162 rfl ?_
                          exact hE s_q21
                      · rw [if_neg c20] at hm
                        refine pw_s (pc := 121) d162_121 rfl rfl ?_
                        refine pw_go (pc := 123) (t := 142) d162_123 (by decide) ?_
                        obtain rfl := Option.some.inj hm
                        refine pw_ri (pc := 142) d162_142 t162 rfl ?_
                        exact hE s_q19
                    · rw [if_neg c18] at hm
                      refine pw_s (pc := 108) d162_108 rfl rfl ?_
                      obtain rfl := Option.some.inj hm
                      refine pw_ri (pc := 110) d162_110 t162 rfl ?_
                      exact hE s_q17
                  · rw [if_neg c16] at hm
                    refine pw_s (pc := 95) d162_95 rfl rfl ?_
                    obtain rfl := Option.some.inj hm
                    refine pw_ri (pc := 97) d162_97 t162 rfl ?_
                    exact hE s_q15
                · rw [if_neg c14] at hm
                  refine pw_s (pc := 82) d162_82 rfl rfl ?_
                  obtain rfl := Option.some.inj hm
                  refine pw_ri (pc := 84) d162_84 t162 rfl ?_
                  exact hE s_q13
              · rw [if_neg c12] at hm
                refine pw_s (pc := 70) d162_70 rfl rfl ?_
                obtain rfl := Option.some.inj hm
                refine pw_ri (pc := 71) d162_71 t162 rfl ?_
                exact hE s_q11
            · rw [if_neg c10] at hm
              refine pw_s (pc := 58) d162_58 rfl rfl ?_
              obtain rfl := Option.some.inj hm
              refine pw_ri (pc := 59) d162_59 t162 rfl ?_
              exact hE s_q9
          · rw [if_neg c8] at hm
            refine pw_s (pc := 46) d162_46 rfl rfl ?_
            obtain rfl := Option.some.inj hm
            refine pw_ri (pc := 47) d162_47 t162 rfl ?_
            exact hE s_q7
        · rw [if_neg c6] at hm
          refine pw_s (pc := 34) d162_34 rfl rfl ?_
          obtain rfl := Option.some.inj hm
          refine pw_ri (pc := 35) d162_35 t162 rfl ?_
          exact hE s_q5
      · rw [if_neg c4] at hm
        refine pw_s (pc := 22) d162_22 rfl rfl ?_
        obtain rfl := Option.some.inj hm
        refine pw_ri (pc := 23) d162_23 t162 rfl ?_
        exact hE s_q3
    · rw [if_neg c2] at hm
      refine pw_s (pc := 10) d162_10 rfl rfl ?_
      obtain rfl := Option.some.inj hm
      refine pw_ri (pc := 11) d162_11 t162 rfl ?_
      exact hE s_q1
  exact key _ (fun q => ⟨rfl, rfl, q⟩)
noncomputable def m_puts (l0 : Nat) (l1 : Int32) (l2 : Int32) (h : pm_H) : Option pm_H := (gA h l0 3 .int).bind fun y1 => (gA h l0 4 .int).bind fun y2 => if mi_in (h.2.1 l0 11) (mi_n y2) = true then if mi_in (((Int16.ofInt 400).toInt32 * (h.2.1 l0 11)) + (h.2.1 y2 (h.2.1 l0 11).toNatClampNeg)) (mi_n y1) = true then bd (pm_setI h y1 (((Int16.ofInt 400).toInt32 * (h.2.1 l0 11)) + (h.2.1 y2 (h.2.1 l0 11).toNatClampNeg)).toNatClampNeg (l1 + ((Int8.ofInt 16).toInt32 * l2))) fun h5 => (gA h5 l0 4 .int).bind fun y6 => if mi_in (h5.2.1 l0 11) (mi_n y6) = true then if mi_in (h5.2.1 l0 11) (mi_n y6) = true then bd (pm_setI h5 y6 (h5.2.1 l0 11).toNatClampNeg ((h5.2.1 y6 (h5.2.1 l0 11).toNatClampNeg) + (Int32.ofInt 1))) fun h9 => some h9 else none else none else none else none
theorem T_m_puts (b : Bool) (L : Nat) (xs : Nat → Int32) (d : Nat) (hd : 0 ≤ d) (h : pm_H) (s_h : h.1 = tb_SH) (l0 : Nat) (l1 : Int32) (l2 : Int32) (f_l0 : mi_o l0 10 = true) {r : pm_H} (hm : m_puts l0 l1 l2 h = some r) : PC b L xs d 163 [(Value.ref l0), (Value.int l1), (Value.int l2)] h (fun (v0 : Option Value) (h2 : pm_H) => v0 = none ∧ h2 = r ∧ h2.1 = tb_SH) := by
  refine pc_in e163 (ls0 := [(Value.ref l0), (Value.int l1), (Value.int l2)]) rfl ?_
  have key : ∀ (Q : Option Value → pm_H → Prop), (r.1 = tb_SH → Q none r) → PW b L xs d 163 0 0 0 [(Value.ref l0), (Value.int l1), (Value.int l2)] [] h Q := by
    intro Q hE
    rw [m_puts] at hm
    refine pw_l (pc := 0) d163_0 rfl rfl rfl ?_
    obtain ⟨y1, e_y1, hm⟩ := ob_x hm
    have f_y1 := gA_x e_y1
    refine pw_gr (pc := 1) d163_1 (k163_13 b) (sho s_h f_l0) f10_3 f_y1.1 ?_
    refine pw_s (pc := 4) d163_4 rfl rfl ?_
    refine pw_l (pc := 7) d163_7 rfl rfl rfl ?_
    refine pw_gi (pc := 8) d163_8 (k163_138 b) (sho s_h f_l0) f10_11 ?_
    refine pw_s (pc := 11) d163_11 rfl rfl ?_
    refine pw_l (pc := 12) d163_12 rfl rfl rfl ?_
    obtain ⟨y2, e_y2, hm⟩ := ob_x hm
    have f_y2 := gA_x e_y2
    refine pw_gr (pc := 13) d163_13 (k163_17 b) (sho s_h f_l0) f10_4 f_y2.1 ?_
    refine pw_l (pc := 16) d163_16 rfl rfl rfl ?_
    refine pw_gi (pc := 17) d163_17 (k163_138 b) (sho s_h f_l0) f10_11 ?_
    obtain ⟨g3, hm⟩ := gd_x hm
    refine pw_ai (pc := 20) d163_20 (sha s_h f_y2.2) (mi_in_x g3) ?_
    refine pw_s (pc := 21) d163_21 rfl rfl ?_
    refine pw_l (pc := 22) d163_22 rfl rfl rfl ?_
    refine pw_s (pc := 23) d163_23 rfl rfl ?_
    refine pw_l (pc := 25) d163_25 rfl rfl rfl ?_
    refine pw_s (pc := 26) d163_26 rfl rfl ?_
    refine pw_s (pc := 27) d163_27 rfl rfl ?_
    obtain ⟨g4, hm⟩ := gd_x hm
    refine pw_si (pc := 28) d163_28 (sha s_h f_y1.2) (mi_in_x g4) ?_
    obtain ⟨h5, e_h5, hm⟩ := bd_x hm
    rw [e_h5]
    have s_h5 : h5.1 = tb_SH := by rw [← e_h5]; exact s_h
    refine pw_l (pc := 29) d163_29 rfl rfl rfl ?_
    obtain ⟨y6, e_y6, hm⟩ := ob_x hm
    have f_y6 := gA_x e_y6
    refine pw_gr (pc := 30) d163_30 (k163_17 b) (sho s_h5 f_l0) f10_4 f_y6.1 ?_
    refine pw_l (pc := 33) d163_33 rfl rfl rfl ?_
    refine pw_gi (pc := 34) d163_34 (k163_138 b) (sho s_h5 f_l0) f10_11 ?_
    refine pw_s (pc := 37) d163_37 rfl rfl ?_
    obtain ⟨g7, hm⟩ := gd_x hm
    refine pw_ai (pc := 38) d163_38 (sha s_h5 f_y6.2) (mi_in_x g7) ?_
    refine pw_s (pc := 39) d163_39 rfl rfl ?_
    refine pw_s (pc := 40) d163_40 rfl rfl ?_
    obtain ⟨g8, hm⟩ := gd_x hm
    refine pw_si (pc := 41) d163_41 (sha s_h5 f_y6.2) (mi_in_x g8) ?_
    obtain ⟨h9, e_h9, hm⟩ := bd_x hm
    rw [e_h9]
    have s_h9 : h9.1 = tb_SH := by rw [← e_h9]; exact s_h5
    obtain rfl := Option.some.inj hm
    refine pw_rv (pc := 42) d163_42 t163 ?_
    exact hE s_h9
  exact key _ (fun q => ⟨rfl, rfl, q⟩)
noncomputable def m_makes (l0 : Nat) (l1 : Int32) (h : pm_H) : Option (Int32 × pm_H) := if ¬ (h.2.1 l0 12) = (Int8.ofInt 60).toInt32 then (bd (pm_setI h l0 12 ((h.2.1 l0 12) + (Int32.ofInt 1))) fun h2 => some ((Int32.ofInt 1), h2)) else ((m_fails l0 (Int32.ofInt 3) l1 h).bind fun q3 => if mi_bo q3.1 = true then some (q3.1, q3.2) else none)
theorem T_m_makes (b : Bool) (L : Nat) (xs : Nat → Int32) (d : Nat) (hd : 1 ≤ d) (h : pm_H) (s_h : h.1 = tb_SH) (l0 : Nat) (l1 : Int32) (f_l0 : mi_o l0 10 = true) {r : (Int32 × pm_H)} (hm : m_makes l0 l1 h = some r) : PC b L xs d 164 [(Value.ref l0), (Value.int l1)] h (fun (v0 : Option Value) (h2 : pm_H) => v0 = (some (Value.int r.1)) ∧ h2 = r.2 ∧ h2.1 = tb_SH) := by
  refine pc_in e164 (ls0 := [(Value.ref l0), (Value.int l1)]) rfl ?_
  have key : ∀ (Q : Option Value → pm_H → Prop), (r.2.1 = tb_SH → Q (some (Value.int r.1)) r.2) → PW b L xs d 164 0 0 0 [(Value.ref l0), (Value.int l1)] [] h Q := by
    intro Q hE
    rw [m_makes] at hm
    refine pw_l (pc := 0) d164_0 rfl rfl rfl ?_
    refine pw_gi (pc := 1) d164_1 (k164_141 b) (sho s_h f_l0) f10_12 ?_
    refine pw_s (pc := 4) d164_4 rfl rfl ?_
    refine pw_ine (pc := 6) (t := 16) d164_6 (by decide) (fun c1 => ?_) (fun c1 => ?_)
    · rw [if_pos c1] at hm
      refine pw_l (pc := 16) d164_16 rfl rfl rfl ?_
      refine pw_s (pc := 17) d164_17 rfl rfl ?_
      refine pw_gi (pc := 18) d164_18 (k164_141 b) (sho s_h f_l0) f10_12 ?_
      refine pw_s (pc := 21) d164_21 rfl rfl ?_
      refine pw_s (pc := 22) d164_22 rfl rfl ?_
      refine pw_pi (pc := 23) d164_23 (k164_141 b) (sho s_h f_l0) p164_10_12 ?_
      obtain ⟨h2, e_h2, hm⟩ := bd_x hm
      rw [e_h2]
      have s_h2 : h2.1 = tb_SH := by rw [← e_h2]; exact s_h
      refine pw_s (pc := 26) d164_26 rfl rfl ?_
      obtain rfl := Option.some.inj hm
      refine pw_ri (pc := 27) d164_27 t164 rfl ?_
      exact hE s_h2
    · rw [if_neg c1] at hm
      refine pw_l (pc := 9) d164_9 rfl rfl rfl ?_
      refine pw_s (pc := 10) d164_10 rfl rfl ?_
      refine pw_l (pc := 11) d164_11 rfl rfl rfl ?_
      obtain ⟨q3, e_q3, hm⟩ := ob_x hm
      refine pw_v (pc := 12) (k := l0) (by omega) d164_12 (k164_105 b) (by decide) m154 (by decide) rfl (sho s_h f_l0) (Nat.le_of_ble_eq_true rfl) (Nat.le_of_ble_eq_true rfl) rfl rfl (T_m_fails b L xs (d - 1) (by omega) h s_h l0 (Int32.ofInt 3) l1 f_l0 e_q3) (fun v0 h0 hq => ?_)
      obtain ⟨rfl, hh0, s_q3⟩ := hq
      rw [hh0] at s_q3 ⊢
      simp only [Option.toList_some, List.cons_append, List.nil_append]
      obtain ⟨g4, hm⟩ := gd_x hm
      obtain rfl := Option.some.inj hm
      refine pw_ri (pc := 15) d164_15 t164 (pm_nz (mi_bo_x g4)) ?_
      exact hE s_q3
  exact key _ (fun q => ⟨rfl, rfl, q⟩)
noncomputable def m_opens (l0 : Nat) (l1 : Int32) (h : pm_H) : Option (Int32 × pm_H) := if ¬ (h.2.1 l0 13) = (Int8.ofInt 10).toInt32 then (bd (pm_setI h l0 13 ((h.2.1 l0 13) + (Int32.ofInt 1))) fun h2 => (gA h2 l0 15 .int).bind fun y3 => if mi_in (h2.2.1 l0 16) (mi_n y3) = true then bd (pm_setI h2 y3 (h2.2.1 l0 16).toNatClampNeg l1) fun h5 => bd (pm_setI h5 l0 16 ((h5.2.1 l0 16) + (Int32.ofInt 1))) fun h6 => some ((Int32.ofInt 1), h6) else none) else ((m_fails l0 (Int32.ofInt 2) (h.2.1 l0 8) h).bind fun q7 => if mi_bo q7.1 = true then some (q7.1, q7.2) else none)
theorem T_m_opens (b : Bool) (L : Nat) (xs : Nat → Int32) (d : Nat) (hd : 1 ≤ d) (h : pm_H) (s_h : h.1 = tb_SH) (l0 : Nat) (l1 : Int32) (f_l0 : mi_o l0 10 = true) {r : (Int32 × pm_H)} (hm : m_opens l0 l1 h = some r) : PC b L xs d 165 [(Value.ref l0), (Value.int l1)] h (fun (v0 : Option Value) (h2 : pm_H) => v0 = (some (Value.int r.1)) ∧ h2 = r.2 ∧ h2.1 = tb_SH) := by
  refine pc_in e165 (ls0 := [(Value.ref l0), (Value.int l1)]) rfl ?_
  have key : ∀ (Q : Option Value → pm_H → Prop), (r.2.1 = tb_SH → Q (some (Value.int r.1)) r.2) → PW b L xs d 165 0 0 0 [(Value.ref l0), (Value.int l1)] [] h Q := by
    intro Q hE
    rw [m_opens] at hm
    refine pw_l (pc := 0) d165_0 rfl rfl rfl ?_
    refine pw_gi (pc := 1) d165_1 (k165_144 b) (sho s_h f_l0) f10_13 ?_
    refine pw_s (pc := 4) d165_4 rfl rfl ?_
    refine pw_ine (pc := 6) (t := 19) d165_6 (by decide) (fun c1 => ?_) (fun c1 => ?_)
    · rw [if_pos c1] at hm
      refine pw_l (pc := 19) d165_19 rfl rfl rfl ?_
      refine pw_s (pc := 20) d165_20 rfl rfl ?_
      refine pw_gi (pc := 21) d165_21 (k165_144 b) (sho s_h f_l0) f10_13 ?_
      refine pw_s (pc := 24) d165_24 rfl rfl ?_
      refine pw_s (pc := 25) d165_25 rfl rfl ?_
      refine pw_pi (pc := 26) d165_26 (k165_144 b) (sho s_h f_l0) p165_10_13 ?_
      obtain ⟨h2, e_h2, hm⟩ := bd_x hm
      rw [e_h2]
      have s_h2 : h2.1 = tb_SH := by rw [← e_h2]; exact s_h
      refine pw_l (pc := 29) d165_29 rfl rfl rfl ?_
      obtain ⟨y3, e_y3, hm⟩ := ob_x hm
      have f_y3 := gA_x e_y3
      refine pw_gr (pc := 30) d165_30 (k165_29 b) (sho s_h2 f_l0) f10_15 f_y3.1 ?_
      refine pw_l (pc := 33) d165_33 rfl rfl rfl ?_
      refine pw_gi (pc := 34) d165_34 (k165_147 b) (sho s_h2 f_l0) f10_16 ?_
      refine pw_l (pc := 37) d165_37 rfl rfl rfl ?_
      obtain ⟨g4, hm⟩ := gd_x hm
      refine pw_si (pc := 38) d165_38 (sha s_h2 f_y3.2) (mi_in_x g4) ?_
      obtain ⟨h5, e_h5, hm⟩ := bd_x hm
      rw [e_h5]
      have s_h5 : h5.1 = tb_SH := by rw [← e_h5]; exact s_h2
      refine pw_l (pc := 39) d165_39 rfl rfl rfl ?_
      refine pw_s (pc := 40) d165_40 rfl rfl ?_
      refine pw_gi (pc := 41) d165_41 (k165_147 b) (sho s_h5 f_l0) f10_16 ?_
      refine pw_s (pc := 44) d165_44 rfl rfl ?_
      refine pw_s (pc := 45) d165_45 rfl rfl ?_
      refine pw_pi (pc := 46) d165_46 (k165_147 b) (sho s_h5 f_l0) p165_10_16 ?_
      obtain ⟨h6, e_h6, hm⟩ := bd_x hm
      rw [e_h6]
      have s_h6 : h6.1 = tb_SH := by rw [← e_h6]; exact s_h5
      refine pw_s (pc := 49) d165_49 rfl rfl ?_
      obtain rfl := Option.some.inj hm
      refine pw_ri (pc := 50) d165_50 t165 rfl ?_
      exact hE s_h6
    · rw [if_neg c1] at hm
      refine pw_l (pc := 9) d165_9 rfl rfl rfl ?_
      refine pw_s (pc := 10) d165_10 rfl rfl ?_
      refine pw_l (pc := 11) d165_11 rfl rfl rfl ?_
      refine pw_gi (pc := 12) d165_12 (k165_84 b) (sho s_h f_l0) f10_8 ?_
      obtain ⟨q7, e_q7, hm⟩ := ob_x hm
      refine pw_v (pc := 15) (k := l0) (by omega) d165_15 (k165_105 b) (by decide) m154 (by decide) rfl (sho s_h f_l0) (Nat.le_of_ble_eq_true rfl) (Nat.le_of_ble_eq_true rfl) rfl rfl (T_m_fails b L xs (d - 1) (by omega) h s_h l0 (Int32.ofInt 2) (h.2.1 l0 8) f_l0 e_q7) (fun v0 h0 hq => ?_)
      obtain ⟨rfl, hh0, s_q7⟩ := hq
      rw [hh0] at s_q7 ⊢
      simp only [Option.toList_some, List.cons_append, List.nil_append]
      obtain ⟨g8, hm⟩ := gd_x hm
      obtain rfl := Option.some.inj hm
      refine pw_ri (pc := 18) d165_18 t165 (pm_nz (mi_bo_x g8)) ?_
      exact hE s_q7
  exact key _ (fun q => ⟨rfl, rfl, q⟩)
noncomputable def m_strength (l0 : Int32) (h : pm_H) : Option Int32 := if ¬ l0 = (Int8.ofInt 13).toInt32 then (if ¬ l0 = (Int8.ofInt 12).toInt32 then (if ¬ l0 = (Int8.ofInt 11).toInt32 then (some (Int32.ofInt 0)) else (some (Int32.ofInt 3))) else (some (Int32.ofInt 2))) else (some (Int32.ofInt 1))
theorem T_m_strength (b : Bool) (L : Nat) (xs : Nat → Int32) (d : Nat) (hd : 0 ≤ d) (h : pm_H) (s_h : h.1 = tb_SH) (l0 : Int32) {r : Int32} (hm : m_strength l0 h = some r) : PC b L xs d 166 [(Value.int l0)] h (fun (v0 : Option Value) (h2 : pm_H) => v0 = (some (Value.int r)) ∧ h2 = h ∧ h2.1 = tb_SH) := by
  refine pc_in e166 (ls0 := [(Value.int l0)]) rfl ?_
  have key : ∀ (Q : Option Value → pm_H → Prop), (Q (some (Value.int r)) h) → PW b L xs d 166 0 0 0 [(Value.int l0)] [] h Q := by
    intro Q hE
    rw [m_strength] at hm
    refine pw_l (pc := 0) d166_0 rfl rfl rfl ?_
    refine pw_s (pc := 1) d166_1 rfl rfl ?_
    refine pw_ine (pc := 3) (t := 10) d166_3 (by decide) (fun c1 => ?_) (fun c1 => ?_)
    · rw [if_pos c1] at hm
      refine pw_l (pc := 10) d166_10 rfl rfl rfl ?_
      refine pw_s (pc := 11) d166_11 rfl rfl ?_
      refine pw_ine (pc := 13) (t := 20) d166_13 (by decide) (fun c2 => ?_) (fun c2 => ?_)
      · rw [if_pos c2] at hm
        refine pw_l (pc := 20) d166_20 rfl rfl rfl ?_
        refine pw_s (pc := 21) d166_21 rfl rfl ?_
        refine pw_ine (pc := 23) (t := 30) d166_23 (by decide) (fun c3 => ?_) (fun c3 => ?_)
        · rw [if_pos c3] at hm
          refine pw_s (pc := 30) d166_30 rfl rfl ?_
          obtain rfl := Option.some.inj hm
          refine pw_ri (pc := 31) d166_31 t166 rfl ?_
          exact hE
        · rw [if_neg c3] at hm
          refine pw_s (pc := 26) d166_26 rfl rfl ?_
          refine pw_go (pc := 27) (t := 31) d166_27 (by decide) ?_
          obtain rfl := Option.some.inj hm
          refine pw_ri (pc := 31) d166_31 t166 rfl ?_
          exact hE
      · rw [if_neg c2] at hm
        refine pw_s (pc := 16) d166_16 rfl rfl ?_
        refine pw_go (pc := 17) (t := 31) d166_17 (by decide) ?_
        obtain rfl := Option.some.inj hm
        refine pw_ri (pc := 31) d166_31 t166 rfl ?_
        exact hE
    · rw [if_neg c1] at hm
      refine pw_s (pc := 6) d166_6 rfl rfl ?_
      refine pw_go (pc := 7) (t := 31) d166_7 (by decide) ?_
      obtain rfl := Option.some.inj hm
      refine pw_ri (pc := 31) d166_31 t166 rfl ?_
      exact hE
  exact key _ ⟨rfl, rfl, s_h⟩
def E_m_settles_0 (b : Bool) (L : Nat) (xs : Nat → Int32) (d : Nat) (Q : Option Value → pm_H → Prop) (l0 : Nat) (l1 : Int32) : (pm_H ⊕ pm_H) → Prop
  | .inl s => s.1 = tb_SH → PW b L xs d 167 0 0 0 [(Value.ref l0), (Value.int l1)] [] s Q
  | .inr e => e.1 = tb_SH → ∀ w0 w1 : Value, PW b L xs d 167 0 0 76 [w0, w1] [] e Q
noncomputable def m_settles_0 (l0 : Nat) (l1 : Int32) (h : pm_H) : Option (pm_H ⊕ pm_H) := if (h.2.1 l0 16) ≤ 0 then (some (.inr h)) else ((gA h l0 15 .int).bind fun y2 => if mi_in ((h.2.1 l0 16) - (Int32.ofInt 1)) (mi_n y2) = true then (m_strength (h.2.1 y2 ((h.2.1 l0 16) - (Int32.ofInt 1)).toNatClampNeg) h).bind fun q4 => if q4 < l1 then (some (.inr h)) else (bd (pm_setI h l0 16 ((h.2.1 l0 16) - (Int32.ofInt 1))) fun h6 => (gA h6 l0 15 .int).bind fun y7 => if mi_in (h6.2.1 l0 16) (mi_n y7) = true then (m_puts l0 (h6.2.1 y7 (h6.2.1 l0 16).toNatClampNeg) (Int32.ofInt 0) h6).bind fun q9 => (gA q9 l0 15 .int).bind fun y10 => if mi_in (q9.2.1 l0 16) (mi_n y10) = true then if ¬ (q9.2.1 y10 (q9.2.1 l0 16).toNatClampNeg) = (Int8.ofInt 11).toInt32 then (some (.inl q9)) else (bd (pm_setI q9 l0 13 ((q9.2.1 l0 13) - (Int32.ofInt 1))) fun h13 => some (.inl h13)) else none else none) else none)
theorem t_m_settles_0 (b : Bool) (L : Nat) (xs : Nat → Int32) (d : Nat) (hd : 1 ≤ d) {Q : Option Value → pm_H → Prop} (h : pm_H) (s_h : h.1 = tb_SH) (l0 : Nat) (l1 : Int32) (f_l0 : mi_o l0 10 = true) {r : (pm_H ⊕ pm_H)} (hm : m_settles_0 l0 l1 h = some r) (hE : E_m_settles_0 b L xs d Q l0 l1 r) : PW b L xs d 167 0 0 0 [(Value.ref l0), (Value.int l1)] [] h Q := by
  rw [m_settles_0] at hm
  refine pw_l (pc := 0) d167_0 rfl rfl rfl ?_
  refine pw_gi (pc := 1) d167_1 (k167_147 b) (sho s_h f_l0) f10_16 ?_
  refine pw_zle (pc := 4) (t := 76) d167_4 (by decide) (fun c1 => ?_) (fun c1 => ?_)
  · rw [if_pos c1] at hm
    obtain rfl := Option.some.inj hm
    exact hE s_h  (Value.ref l0) (Value.int l1)
  · rw [if_neg c1] at hm
    refine pw_l (pc := 7) d167_7 rfl rfl rfl ?_
    obtain ⟨y2, e_y2, hm⟩ := ob_x hm
    have f_y2 := gA_x e_y2
    refine pw_gr (pc := 8) d167_8 (k167_29 b) (sho s_h f_l0) f10_15 f_y2.1 ?_
    refine pw_l (pc := 11) d167_11 rfl rfl rfl ?_
    refine pw_gi (pc := 12) d167_12 (k167_147 b) (sho s_h f_l0) f10_16 ?_
    refine pw_s (pc := 15) d167_15 rfl rfl ?_
    refine pw_s (pc := 16) d167_16 rfl rfl ?_
    obtain ⟨g3, hm⟩ := gd_x hm
    refine pw_ai (pc := 17) d167_17 (sha s_h f_y2.2) (mi_in_x g3) ?_
    obtain ⟨q4, e_q4, hm⟩ := ob_x hm
    refine pw_u (pc := 18) (by omega) d167_18 (k167_150 b) (by decide) m166 (Nat.le_of_ble_eq_true rfl) (Nat.le_of_ble_eq_true rfl) (Nat.le_of_ble_eq_true rfl) rfl rfl (T_m_strength b L xs (d - 1) (by omega) h s_h (h.2.1 y2 ((h.2.1 l0 16) - (Int32.ofInt 1)).toNatClampNeg)  e_q4) (fun v0 h0 hq => ?_)
    obtain ⟨rfl, hh0, s_q4⟩ := hq
    rw [hh0] at s_q4 ⊢
    simp only [Option.toList_some, List.cons_append, List.nil_append]
    refine pw_l (pc := 21) d167_21 rfl rfl rfl ?_
    refine pw_ilt (pc := 22) (t := 76) d167_22 (by decide) (fun c5 => ?_) (fun c5 => ?_)
    · rw [if_pos c5] at hm
      obtain rfl := Option.some.inj hm
      exact hE s_h  (Value.ref l0) (Value.int l1)
    · rw [if_neg c5] at hm
      refine pw_l (pc := 25) d167_25 rfl rfl rfl ?_
      refine pw_s (pc := 26) d167_26 rfl rfl ?_
      refine pw_gi (pc := 27) d167_27 (k167_147 b) (sho s_h f_l0) f10_16 ?_
      refine pw_s (pc := 30) d167_30 rfl rfl ?_
      refine pw_s (pc := 31) d167_31 rfl rfl ?_
      refine pw_pi (pc := 32) d167_32 (k167_147 b) (sho s_h f_l0) p167_10_16 ?_
      obtain ⟨h6, e_h6, hm⟩ := bd_x hm
      rw [e_h6]
      have s_h6 : h6.1 = tb_SH := by rw [← e_h6]; exact s_h
      refine pw_l (pc := 35) d167_35 rfl rfl rfl ?_
      refine pw_l (pc := 36) d167_36 rfl rfl rfl ?_
      obtain ⟨y7, e_y7, hm⟩ := ob_x hm
      have f_y7 := gA_x e_y7
      refine pw_gr (pc := 37) d167_37 (k167_29 b) (sho s_h6 f_l0) f10_15 f_y7.1 ?_
      refine pw_l (pc := 40) d167_40 rfl rfl rfl ?_
      refine pw_gi (pc := 41) d167_41 (k167_147 b) (sho s_h6 f_l0) f10_16 ?_
      obtain ⟨g8, hm⟩ := gd_x hm
      refine pw_ai (pc := 44) d167_44 (sha s_h6 f_y7.2) (mi_in_x g8) ?_
      refine pw_s (pc := 45) d167_45 rfl rfl ?_
      obtain ⟨q9, e_q9, hm⟩ := ob_x hm
      refine pw_v (pc := 46) (k := l0) (by omega) d167_46 (k167_154 b) (by decide) m163 (by decide) rfl (sho s_h6 f_l0) (Nat.le_of_ble_eq_true rfl) (Nat.le_of_ble_eq_true rfl) rfl rfl (T_m_puts b L xs (d - 1) (by omega) h6 s_h6 l0 (h6.2.1 y7 (h6.2.1 l0 16).toNatClampNeg) (Int32.ofInt 0) f_l0 e_q9) (fun v0 h0 hq => ?_)
      obtain ⟨rfl, hh0, s_q9⟩ := hq
      rw [hh0] at s_q9 ⊢
      simp only [Option.toList_none, List.nil_append]
      refine pw_l (pc := 49) d167_49 rfl rfl rfl ?_
      obtain ⟨y10, e_y10, hm⟩ := ob_x hm
      have f_y10 := gA_x e_y10
      refine pw_gr (pc := 50) d167_50 (k167_29 b) (sho s_q9 f_l0) f10_15 f_y10.1 ?_
      refine pw_l (pc := 53) d167_53 rfl rfl rfl ?_
      refine pw_gi (pc := 54) d167_54 (k167_147 b) (sho s_q9 f_l0) f10_16 ?_
      obtain ⟨g11, hm⟩ := gd_x hm
      refine pw_ai (pc := 57) d167_57 (sha s_q9 f_y10.2) (mi_in_x g11) ?_
      refine pw_s (pc := 58) d167_58 rfl rfl ?_
      refine pw_ine (pc := 60) (t := 0) d167_60 (by decide) (fun c12 => ?_) (fun c12 => ?_)
      · rw [if_pos c12] at hm
        obtain rfl := Option.some.inj hm
        exact hE s_q9  
      · rw [if_neg c12] at hm
        refine pw_l (pc := 63) d167_63 rfl rfl rfl ?_
        refine pw_s (pc := 64) d167_64 rfl rfl ?_
        refine pw_gi (pc := 65) d167_65 (k167_144 b) (sho s_q9 f_l0) f10_13 ?_
        refine pw_s (pc := 68) d167_68 rfl rfl ?_
        refine pw_s (pc := 69) d167_69 rfl rfl ?_
        refine pw_pi (pc := 70) d167_70 (k167_144 b) (sho s_q9 f_l0) p167_10_13 ?_
        obtain ⟨h13, e_h13, hm⟩ := bd_x hm
        rw [e_h13]
        have s_h13 : h13.1 = tb_SH := by rw [← e_h13]; exact s_q9
        refine pw_go (pc := 73) (t := 0) d167_73 (by decide) ?_
        obtain rfl := Option.some.inj hm
        exact hE s_h13  
noncomputable def m_settles (l0 : Nat) (l1 : Int32) (h : pm_H) : Option pm_H := (wh (fun s : pm_H => m_settles_0 l0 l1 s) h).bind fun q1 => some q1
theorem T_m_settles (b : Bool) (L : Nat) (xs : Nat → Int32) (d : Nat) (hd : 1 ≤ d) (h : pm_H) (s_h : h.1 = tb_SH) (l0 : Nat) (l1 : Int32) (f_l0 : mi_o l0 10 = true) {r : pm_H} (hm : m_settles l0 l1 h = some r) : PC b L xs d 167 [(Value.ref l0), (Value.int l1)] h (fun (v0 : Option Value) (h2 : pm_H) => v0 = none ∧ h2 = r ∧ h2.1 = tb_SH) := by
  refine pc_in e167 (ls0 := [(Value.ref l0), (Value.int l1)]) rfl ?_
  have key : ∀ (Q : Option Value → pm_H → Prop), (r.1 = tb_SH → Q none r) → PW b L xs d 167 0 0 0 [(Value.ref l0), (Value.int l1)] [] h Q := by
    intro Q hE
    rw [m_settles] at hm
    obtain ⟨q1, e_q1, hm⟩ := ob_x hm
    refine wh_ind e_q1 (fun s : pm_H => s.1 = tb_SH → PW b L xs d 167 0 0 0 [(Value.ref l0), (Value.int l1)] [] s Q) (fun s s2 hf ih sx => t_m_settles_0 b L xs d hd s sx l0 l1  f_l0 hf ih) (fun s hf sx => t_m_settles_0 b L xs d hd s sx l0 l1  f_l0 hf ?_) s_h  
    intro s_q1_0 w0 w1
    obtain rfl := Option.some.inj hm
    refine pw_rv (pc := 76) d167_76 t167 ?_
    exact hE s_q1_0
  exact key _ (fun q => ⟨rfl, rfl, q⟩)
noncomputable def m_value (l0 : Nat) (h : pm_H) : Option (Int32 × pm_H) := (m_see l0 h).bind fun q1 => (m_isDigit l0 (q1.2.2.1 l0 8) q1.2).bind fun q2 => if q2 = 0 then ((m_wordHere l0 q1.2).bind fun q4 => if 0 ≤ q4.1 then ((m_makes l0 (q1.2.2.1 l0 8) q4.2).bind fun q6 => if ¬ q6.1 = 0 then ((m_passWord l0 q6.2).bind fun q8 => (m_puts l0 (Int32.ofInt 1) q4.1 q8).bind fun q9 => some ((Int32.ofInt 1), q9)) else (some ((Int32.ofInt 0), q6.2))) else ((m_fails l0 (Int32.ofInt 0) (q1.2.2.1 l0 8) q4.2).bind fun q10 => if mi_bo q10.1 = true then some (q10.1, q10.2) else none)) else ((m_numberHere l0 (Int32.ofInt 0) (99999 : Int32) q1.2).bind fun q12 => if q12.1 = 0 then (some ((Int32.ofInt 0), q12.2)) else ((m_makes l0 (q1.2.2.1 l0 8) q12.2).bind fun q14 => if ¬ q14.1 = 0 then ((m_puts l0 (Int32.ofInt 0) (q14.2.2.1 l0 10) q14.2).bind fun q16 => some ((Int32.ofInt 1), q16)) else (some ((Int32.ofInt 0), q14.2))))
theorem T_m_value (b : Bool) (L : Nat) (xs : Nat → Int32) (d : Nat) (hd : 3 ≤ d) (h : pm_H) (s_h : h.1 = tb_SH) (l0 : Nat) (f_l0 : mi_o l0 10 = true) {r : (Int32 × pm_H)} (hm : m_value l0 h = some r) : PC b L xs d 168 [(Value.ref l0)] h (fun (v0 : Option Value) (h2 : pm_H) => v0 = (some (Value.int r.1)) ∧ h2 = r.2 ∧ h2.1 = tb_SH) := by
  refine pc_in e168 (ls0 := [(Value.ref l0), Value.retAddr 0, Value.retAddr 0]) rfl ?_
  have key : ∀ (Q : Option Value → pm_H → Prop), (r.2.1 = tb_SH → Q (some (Value.int r.1)) r.2) → PW b L xs d 168 0 0 0 [(Value.ref l0), Value.retAddr 0, Value.retAddr 0] [] h Q := by
    intro Q hE
    rw [m_value] at hm
    refine pw_l (pc := 0) d168_0 rfl rfl rfl ?_
    obtain ⟨q1, e_q1, hm⟩ := ob_x hm
    refine pw_v (pc := 1) (k := l0) (by omega) d168_1 (k168_87 b) (by decide) m155 (by decide) rfl (sho s_h f_l0) (Nat.le_of_ble_eq_true rfl) (Nat.le_of_ble_eq_true rfl) rfl rfl (T_m_see b L xs (d - 1) (by omega) h s_h l0 f_l0 e_q1) (fun v0 h0 hq => ?_)
    obtain ⟨rfl, hh0, s_q1⟩ := hq
    rw [hh0] at s_q1 ⊢
    simp only [Option.toList_some, List.cons_append, List.nil_append]
    refine pw_s (pc := 4) d168_4 rfl rfl ?_
    refine pw_l (pc := 5) d168_5 rfl rfl rfl ?_
    refine pw_gi (pc := 6) d168_6 (k168_84 b) (sho s_q1 f_l0) f10_8 ?_
    refine pw_t (pc := 9) d168_9 rfl rfl rfl rfl ?_
    refine pw_l (pc := 10) d168_10 rfl rfl rfl ?_
    refine pw_l (pc := 11) d168_11 rfl rfl rfl ?_
    refine pw_gi (pc := 12) d168_12 (k168_84 b) (sho s_q1 f_l0) f10_8 ?_
    obtain ⟨q2, e_q2, hm⟩ := ob_x hm
    refine pw_v (pc := 15) (k := l0) (by omega) d168_15 (k168_102 b) (by decide) m156 (by decide) rfl (sho s_q1 f_l0) (Nat.le_of_ble_eq_true rfl) (Nat.le_of_ble_eq_true rfl) rfl rfl (T_m_isDigit b L xs (d - 1) (by omega) q1.2 s_q1 l0 (q1.2.2.1 l0 8) f_l0 e_q2) (fun v0 h0 hq => ?_)
    obtain ⟨rfl, hh0, s_q2⟩ := hq
    rw [hh0] at s_q2 ⊢
    simp only [Option.toList_some, List.cons_append, List.nil_append]
    refine pw_zeq (pc := 18) (t := 52) d168_18 (by decide) (fun c3 => ?_) (fun c3 => ?_)
    · rw [if_pos c3] at hm
      refine pw_l (pc := 52) d168_52 rfl rfl rfl ?_
      obtain ⟨q4, e_q4, hm⟩ := ob_x hm
      refine pw_v (pc := 53) (k := l0) (by omega) d168_53 (k168_165 b) (by decide) m162 (by decide) rfl (sho s_q1 f_l0) (Nat.le_of_ble_eq_true rfl) (Nat.le_of_ble_eq_true rfl) rfl rfl (T_m_wordHere b L xs (d - 1) (by omega) q1.2 s_q1 l0 f_l0 e_q4) (fun v0 h0 hq => ?_)
      obtain ⟨rfl, hh0, s_q4⟩ := hq
      rw [hh0] at s_q4 ⊢
      simp only [Option.toList_some, List.cons_append, List.nil_append]
      refine pw_t (pc := 56) d168_56 rfl rfl rfl rfl ?_
      refine pw_l (pc := 57) d168_57 rfl rfl rfl ?_
      refine pw_zge (pc := 58) (t := 68) d168_58 (by decide) (fun c5 => ?_) (fun c5 => ?_)
      · rw [if_pos c5] at hm
        refine pw_l (pc := 68) d168_68 rfl rfl rfl ?_
        refine pw_l (pc := 69) d168_69 rfl rfl rfl ?_
        obtain ⟨q6, e_q6, hm⟩ := ob_x hm
        refine pw_v (pc := 70) (k := l0) (by omega) d168_70 (k168_162 b) (by decide) m164 (by decide) rfl (sho s_q4 f_l0) (Nat.le_of_ble_eq_true rfl) (Nat.le_of_ble_eq_true rfl) rfl rfl (T_m_makes b L xs (d - 1) (by omega) q4.2 s_q4 l0 (q1.2.2.1 l0 8) f_l0 e_q6) (fun v0 h0 hq => ?_)
        obtain ⟨rfl, hh0, s_q6⟩ := hq
        rw [hh0] at s_q6 ⊢
        simp only [Option.toList_some, List.cons_append, List.nil_append]
        refine pw_zne (pc := 73) (t := 78) d168_73 (by decide) (fun c7 => ?_) (fun c7 => ?_)
        · rw [if_pos c7] at hm
          refine pw_l (pc := 78) d168_78 rfl rfl rfl ?_
          obtain ⟨q8, e_q8, hm⟩ := ob_x hm
          refine pw_v (pc := 79) (k := l0) (by omega) d168_79 (k168_99 b) (by decide) m159 (by decide) rfl (sho s_q6 f_l0) (Nat.le_of_ble_eq_true rfl) (Nat.le_of_ble_eq_true rfl) rfl rfl (T_m_passWord b L xs (d - 1) (by omega) q6.2 s_q6 l0 f_l0 e_q8) (fun v0 h0 hq => ?_)
          obtain ⟨rfl, hh0, s_q8⟩ := hq
          rw [hh0] at s_q8 ⊢
          simp only [Option.toList_none, List.nil_append]
          refine pw_l (pc := 82) d168_82 rfl rfl rfl ?_
          refine pw_s (pc := 83) d168_83 rfl rfl ?_
          refine pw_l (pc := 84) d168_84 rfl rfl rfl ?_
          obtain ⟨q9, e_q9, hm⟩ := ob_x hm
          refine pw_v (pc := 85) (k := l0) (by omega) d168_85 (k168_154 b) (by decide) m163 (by decide) rfl (sho s_q8 f_l0) (Nat.le_of_ble_eq_true rfl) (Nat.le_of_ble_eq_true rfl) rfl rfl (T_m_puts b L xs (d - 1) (by omega) q8 s_q8 l0 (Int32.ofInt 1) q4.1 f_l0 e_q9) (fun v0 h0 hq => ?_)
          obtain ⟨rfl, hh0, s_q9⟩ := hq
          rw [hh0] at s_q9 ⊢
          simp only [Option.toList_none, List.nil_append]
          refine pw_s (pc := 88) d168_88 rfl rfl ?_
          obtain rfl := Option.some.inj hm
          refine pw_ri (pc := 89) d168_89 t168 rfl ?_
          exact hE s_q9
        · rw [if_neg c7] at hm
          refine pw_s (pc := 76) d168_76 rfl rfl ?_
          obtain rfl := Option.some.inj hm
          refine pw_ri (pc := 77) d168_77 t168 rfl ?_
          exact hE s_q6
      · rw [if_neg c5] at hm
        refine pw_l (pc := 61) d168_61 rfl rfl rfl ?_
        refine pw_s (pc := 62) d168_62 rfl rfl ?_
        refine pw_l (pc := 63) d168_63 rfl rfl rfl ?_
        obtain ⟨q10, e_q10, hm⟩ := ob_x hm
        refine pw_v (pc := 64) (k := l0) (by omega) d168_64 (k168_105 b) (by decide) m154 (by decide) rfl (sho s_q4 f_l0) (Nat.le_of_ble_eq_true rfl) (Nat.le_of_ble_eq_true rfl) rfl rfl (T_m_fails b L xs (d - 1) (by omega) q4.2 s_q4 l0 (Int32.ofInt 0) (q1.2.2.1 l0 8) f_l0 e_q10) (fun v0 h0 hq => ?_)
        obtain ⟨rfl, hh0, s_q10⟩ := hq
        rw [hh0] at s_q10 ⊢
        simp only [Option.toList_some, List.cons_append, List.nil_append]
        obtain ⟨g11, hm⟩ := gd_x hm
        obtain rfl := Option.some.inj hm
        refine pw_ri (pc := 67) d168_67 t168 (pm_nz (mi_bo_x g11)) ?_
        exact hE s_q10
    · rw [if_neg c3] at hm
      refine pw_l (pc := 21) d168_21 rfl rfl rfl ?_
      refine pw_s (pc := 22) d168_22 rfl rfl ?_
      refine pw_ci (pc := 23) d168_23 (k168_158 b) ?_
      obtain ⟨q12, e_q12, hm⟩ := ob_x hm
      refine pw_v (pc := 25) (k := l0) (by omega) d168_25 (k168_159 b) (by decide) m161 (by decide) rfl (sho s_q1 f_l0) (Nat.le_of_ble_eq_true rfl) (Nat.le_of_ble_eq_true rfl) rfl rfl (T_m_numberHere b L xs (d - 1) (by omega) q1.2 s_q1 l0 (Int32.ofInt 0) (99999 : Int32) f_l0 e_q12) (fun v0 h0 hq => ?_)
      obtain ⟨rfl, hh0, s_q12⟩ := hq
      rw [hh0] at s_q12 ⊢
      simp only [Option.toList_some, List.cons_append, List.nil_append]
      refine pw_zeq (pc := 28) (t := 39) d168_28 (by decide) (fun c13 => ?_) (fun c13 => ?_)
      · rw [if_pos c13] at hm
        refine pw_s (pc := 39) d168_39 rfl rfl ?_
        obtain rfl := Option.some.inj hm
        refine pw_ri (pc := 40) d168_40 t168 rfl ?_
        exact hE s_q12
      · rw [if_neg c13] at hm
        refine pw_l (pc := 31) d168_31 rfl rfl rfl ?_
        refine pw_l (pc := 32) d168_32 rfl rfl rfl ?_
        obtain ⟨q14, e_q14, hm⟩ := ob_x hm
        refine pw_v (pc := 33) (k := l0) (by omega) d168_33 (k168_162 b) (by decide) m164 (by decide) rfl (sho s_q12 f_l0) (Nat.le_of_ble_eq_true rfl) (Nat.le_of_ble_eq_true rfl) rfl rfl (T_m_makes b L xs (d - 1) (by omega) q12.2 s_q12 l0 (q1.2.2.1 l0 8) f_l0 e_q14) (fun v0 h0 hq => ?_)
        obtain ⟨rfl, hh0, s_q14⟩ := hq
        rw [hh0] at s_q14 ⊢
        simp only [Option.toList_some, List.cons_append, List.nil_append]
        refine pw_zne (pc := 36) (t := 41) d168_36 (by decide) (fun c15 => ?_) (fun c15 => ?_)
        · rw [if_pos c15] at hm
          refine pw_l (pc := 41) d168_41 rfl rfl rfl ?_
          refine pw_s (pc := 42) d168_42 rfl rfl ?_
          refine pw_l (pc := 43) d168_43 rfl rfl rfl ?_
          refine pw_gi (pc := 44) d168_44 (k168_109 b) (sho s_q14 f_l0) f10_10 ?_
          obtain ⟨q16, e_q16, hm⟩ := ob_x hm
          refine pw_v (pc := 47) (k := l0) (by omega) d168_47 (k168_154 b) (by decide) m163 (by decide) rfl (sho s_q14 f_l0) (Nat.le_of_ble_eq_true rfl) (Nat.le_of_ble_eq_true rfl) rfl rfl (T_m_puts b L xs (d - 1) (by omega) q14.2 s_q14 l0 (Int32.ofInt 0) (q14.2.2.1 l0 10) f_l0 e_q16) (fun v0 h0 hq => ?_)
          obtain ⟨rfl, hh0, s_q16⟩ := hq
          rw [hh0] at s_q16 ⊢
          simp only [Option.toList_none, List.nil_append]
          refine pw_s (pc := 50) d168_50 rfl rfl ?_
          obtain rfl := Option.some.inj hm
          refine pw_ri (pc := 51) d168_51 t168 rfl ?_
          exact hE s_q16
        · rw [if_neg c15] at hm
          refine pw_s (pc := 39) d168_39 rfl rfl ?_
          obtain rfl := Option.some.inj hm
          refine pw_ri (pc := 40) d168_40 t168 rfl ?_
          exact hE s_q14
  exact key _ (fun q => ⟨rfl, rfl, q⟩)
def E_m_term_9 (b : Bool) (L : Nat) (xs : Nat → Int32) (d : Nat) (Q : Option Value → pm_H → Prop) (l0 : Nat) : (pm_H ⊕ pm_H ⊕ pm_H) → Prop
  | .inl s => s.1 = tb_SH → ∀ w1 : Value, PW b L xs d 169 0 0 9 [(Value.ref l0), w1] [] s Q
  | .inr (.inl e) => e.1 = tb_SH → ∀ w0 w1 : Value, PW b L xs d 169 0 0 92 [w0, w1] [] e Q
  | .inr (.inr e) => e.1 = tb_SH → ∀ w0 w1 : Value, PW b L xs d 169 0 0 103 [w0, w1] [] e Q
noncomputable def m_term_74 (l0 : Nat) (z0 : Int32) (h : pm_H) : Option (pm_H ⊕ pm_H ⊕ pm_H) := bd (pm_setI h l0 8 ((h.2.1 l0 8) + (Int32.ofInt 1))) fun h1 => (m_value l0 h1).bind fun q2 => if ¬ q2.1 = 0 then ((m_puts l0 z0 (Int32.ofInt 0) q2.2).bind fun q4 => some (.inl q4)) else (some (.inr (.inl q2.2)))
theorem t_m_term_74 (b : Bool) (L : Nat) (xs : Nat → Int32) (d : Nat) (hd : 4 ≤ d) {Q : Option Value → pm_H → Prop} (h : pm_H) (s_h : h.1 = tb_SH) (l0 : Nat) (z0 : Int32) (w1 : Value) (f_l0 : mi_o l0 10 = true) {r : (pm_H ⊕ pm_H ⊕ pm_H)} (hm : m_term_74 l0 z0 h = some r) (hE : E_m_term_9 b L xs d Q l0 r) : PW b L xs d 169 0 0 74 [(Value.ref l0), w1] [(Value.int z0)] h Q := by
  rw [m_term_74] at hm
  refine pw_t (pc := 74) d169_74 rfl rfl rfl rfl ?_
  refine pw_l (pc := 75) d169_75 rfl rfl rfl ?_
  refine pw_s (pc := 76) d169_76 rfl rfl ?_
  refine pw_gi (pc := 77) d169_77 (k169_84 b) (sho s_h f_l0) f10_8 ?_
  refine pw_s (pc := 80) d169_80 rfl rfl ?_
  refine pw_s (pc := 81) d169_81 rfl rfl ?_
  refine pw_pi (pc := 82) d169_82 (k169_84 b) (sho s_h f_l0) p169_10_8 ?_
  obtain ⟨h1, e_h1, hm⟩ := bd_x hm
  rw [e_h1]
  have s_h1 : h1.1 = tb_SH := by rw [← e_h1]; exact s_h
  refine pw_l (pc := 85) d169_85 rfl rfl rfl ?_
  obtain ⟨q2, e_q2, hm⟩ := ob_x hm
  refine pw_v (pc := 86) (k := l0) (by omega) d169_86 (k169_168 b) (by decide) m168 (by decide) rfl (sho s_h1 f_l0) (Nat.le_of_ble_eq_true rfl) (Nat.le_of_ble_eq_true rfl) rfl rfl (T_m_value b L xs (d - 1) (by omega) h1 s_h1 l0 f_l0 e_q2) (fun v0 h0 hq => ?_)
  obtain ⟨rfl, hh0, s_q2⟩ := hq
  rw [hh0] at s_q2 ⊢
  simp only [Option.toList_some, List.cons_append, List.nil_append]
  refine pw_zne (pc := 89) (t := 94) d169_89 (by decide) (fun c3 => ?_) (fun c3 => ?_)
  · rw [if_pos c3] at hm
    refine pw_l (pc := 94) d169_94 rfl rfl rfl ?_
    refine pw_l (pc := 95) d169_95 rfl rfl rfl ?_
    refine pw_s (pc := 96) d169_96 rfl rfl ?_
    obtain ⟨q4, e_q4, hm⟩ := ob_x hm
    refine pw_v (pc := 97) (k := l0) (by omega) d169_97 (k169_154 b) (by decide) m163 (by decide) rfl (sho s_q2 f_l0) (Nat.le_of_ble_eq_true rfl) (Nat.le_of_ble_eq_true rfl) rfl rfl (T_m_puts b L xs (d - 1) (by omega) q2.2 s_q2 l0 z0 (Int32.ofInt 0) f_l0 e_q4) (fun v0 h0 hq => ?_)
    obtain ⟨rfl, hh0, s_q4⟩ := hq
    rw [hh0] at s_q4 ⊢
    simp only [Option.toList_none, List.nil_append]
    refine pw_go (pc := 100) (t := 9) d169_100 (by decide) ?_
    obtain rfl := Option.some.inj hm
    exact hE s_q4  (Value.int z0)
  · rw [if_neg c3] at hm
    obtain rfl := Option.some.inj hm
    exact hE s_q2  (Value.ref l0) (Value.int z0)
noncomputable def m_term_36 (l0 : Nat) (h : pm_H) : Option (pm_H ⊕ pm_H ⊕ pm_H) := (gA h l0 0 .byte).bind fun y1 => if mi_in (h.2.1 l0 8) (mi_n y1) = true then if ¬ (h.2.1 y1 (h.2.1 l0 8).toNatClampNeg) = (Int8.ofInt 42).toInt32 then ((gA h l0 0 .byte).bind fun y4 => if mi_in (h.2.1 l0 8) (mi_n y4) = true then if ¬ (h.2.1 y4 (h.2.1 l0 8).toNatClampNeg) = (Int8.ofInt 47).toInt32 then (m_term_74 l0 ((Int8.ofInt 14).toInt32) h) else (m_term_74 l0 (Int32.ofInt 5) h) else none) else (m_term_74 l0 (Int32.ofInt 4) h) else none
theorem t_m_term_36 (b : Bool) (L : Nat) (xs : Nat → Int32) (d : Nat) (hd : 4 ≤ d) {Q : Option Value → pm_H → Prop} (h : pm_H) (s_h : h.1 = tb_SH) (l0 : Nat) (w1 : Value) (f_l0 : mi_o l0 10 = true) {r : (pm_H ⊕ pm_H ⊕ pm_H)} (hm : m_term_36 l0 h = some r) (hE : E_m_term_9 b L xs d Q l0 r) : PW b L xs d 169 0 0 36 [(Value.ref l0), w1] [] h Q := by
  rw [m_term_36] at hm
  refine pw_l (pc := 36) d169_36 rfl rfl rfl ?_
  obtain ⟨y1, e_y1, hm⟩ := ob_x hm
  have f_y1 := gA_x e_y1
  refine pw_gr (pc := 37) d169_37 (k169_7 b) (sho s_h f_l0) f10_0 f_y1.1 ?_
  refine pw_l (pc := 40) d169_40 rfl rfl rfl ?_
  refine pw_gi (pc := 41) d169_41 (k169_84 b) (sho s_h f_l0) f10_8 ?_
  obtain ⟨g2, hm⟩ := gd_x hm
  refine pw_ab (pc := 44) d169_44 (sha s_h f_y1.2) (by decide) (mi_in_x g2) ?_
  refine pw_s (pc := 45) d169_45 rfl rfl ?_
  refine pw_ine (pc := 47) (t := 54) d169_47 (by decide) (fun c3 => ?_) (fun c3 => ?_)
  · rw [if_pos c3] at hm
    refine pw_l (pc := 54) d169_54 rfl rfl rfl ?_
    obtain ⟨y4, e_y4, hm⟩ := ob_x hm
    have f_y4 := gA_x e_y4
    refine pw_gr (pc := 55) d169_55 (k169_7 b) (sho s_h f_l0) f10_0 f_y4.1 ?_
    refine pw_l (pc := 58) d169_58 rfl rfl rfl ?_
    refine pw_gi (pc := 59) d169_59 (k169_84 b) (sho s_h f_l0) f10_8 ?_
    obtain ⟨g5, hm⟩ := gd_x hm
    refine pw_ab (pc := 62) d169_62 (sha s_h f_y4.2) (by decide) (mi_in_x g5) ?_
    refine pw_s (pc := 63) d169_63 rfl rfl ?_
    refine pw_ine (pc := 65) (t := 72) d169_65 (by decide) (fun c6 => ?_) (fun c6 => ?_)
    · rw [if_pos c6] at hm
      refine pw_s (pc := 72) d169_72 rfl rfl ?_
      exact t_m_term_74 b L xs d hd h s_h l0 ((Int8.ofInt 14).toInt32) w1 f_l0  hm hE
    · rw [if_neg c6] at hm
      refine pw_s (pc := 68) d169_68 rfl rfl ?_
      refine pw_go (pc := 69) (t := 74) d169_69 (by decide) ?_
      exact t_m_term_74 b L xs d hd h s_h l0 (Int32.ofInt 5) w1 f_l0  hm hE
  · rw [if_neg c3] at hm
    refine pw_s (pc := 50) d169_50 rfl rfl ?_
    refine pw_go (pc := 51) (t := 74) d169_51 (by decide) ?_
    exact t_m_term_74 b L xs d hd h s_h l0 (Int32.ofInt 4) w1 f_l0  hm hE
noncomputable def m_term_9 (l0 : Nat) (h : pm_H) : Option (pm_H ⊕ pm_H ⊕ pm_H) := (m_see l0 h).bind fun q1 => if q1.1 = (Int8.ofInt 42).toInt32 then (m_term_36 l0 q1.2) else ((m_see l0 q1.2).bind fun q3 => if q3.1 = (Int8.ofInt 47).toInt32 then (m_term_36 l0 q3.2) else ((m_see l0 q3.2).bind fun q5 => if ¬ q5.1 = (Int8.ofInt 37).toInt32 then (some (.inr (.inr q5.2))) else (m_term_36 l0 q5.2)))
theorem t_m_term_9 (b : Bool) (L : Nat) (xs : Nat → Int32) (d : Nat) (hd : 4 ≤ d) {Q : Option Value → pm_H → Prop} (h : pm_H) (s_h : h.1 = tb_SH) (l0 : Nat) (w1 : Value) (f_l0 : mi_o l0 10 = true) {r : (pm_H ⊕ pm_H ⊕ pm_H)} (hm : m_term_9 l0 h = some r) (hE : E_m_term_9 b L xs d Q l0 r) : PW b L xs d 169 0 0 9 [(Value.ref l0), w1] [] h Q := by
  rw [m_term_9] at hm
  refine pw_l (pc := 9) d169_9 rfl rfl rfl ?_
  obtain ⟨q1, e_q1, hm⟩ := ob_x hm
  refine pw_v (pc := 10) (k := l0) (by omega) d169_10 (k169_87 b) (by decide) m155 (by decide) rfl (sho s_h f_l0) (Nat.le_of_ble_eq_true rfl) (Nat.le_of_ble_eq_true rfl) rfl rfl (T_m_see b L xs (d - 1) (by omega) h s_h l0 f_l0 e_q1) (fun v0 h0 hq => ?_)
  obtain ⟨rfl, hh0, s_q1⟩ := hq
  rw [hh0] at s_q1 ⊢
  simp only [Option.toList_some, List.cons_append, List.nil_append]
  refine pw_s (pc := 13) d169_13 rfl rfl ?_
  refine pw_ieq (pc := 15) (t := 36) d169_15 (by decide) (fun c2 => ?_) (fun c2 => ?_)
  · rw [if_pos c2] at hm
    exact t_m_term_36 b L xs d hd q1.2 s_q1 l0 w1 f_l0  hm hE
  · rw [if_neg c2] at hm
    refine pw_l (pc := 18) d169_18 rfl rfl rfl ?_
    obtain ⟨q3, e_q3, hm⟩ := ob_x hm
    refine pw_v (pc := 19) (k := l0) (by omega) d169_19 (k169_87 b) (by decide) m155 (by decide) rfl (sho s_q1 f_l0) (Nat.le_of_ble_eq_true rfl) (Nat.le_of_ble_eq_true rfl) rfl rfl (T_m_see b L xs (d - 1) (by omega) q1.2 s_q1 l0 f_l0 e_q3) (fun v0 h0 hq => ?_)
    obtain ⟨rfl, hh0, s_q3⟩ := hq
    rw [hh0] at s_q3 ⊢
    simp only [Option.toList_some, List.cons_append, List.nil_append]
    refine pw_s (pc := 22) d169_22 rfl rfl ?_
    refine pw_ieq (pc := 24) (t := 36) d169_24 (by decide) (fun c4 => ?_) (fun c4 => ?_)
    · rw [if_pos c4] at hm
      exact t_m_term_36 b L xs d hd q3.2 s_q3 l0 w1 f_l0  hm hE
    · rw [if_neg c4] at hm
      refine pw_l (pc := 27) d169_27 rfl rfl rfl ?_
      obtain ⟨q5, e_q5, hm⟩ := ob_x hm
      refine pw_v (pc := 28) (k := l0) (by omega) d169_28 (k169_87 b) (by decide) m155 (by decide) rfl (sho s_q3 f_l0) (Nat.le_of_ble_eq_true rfl) (Nat.le_of_ble_eq_true rfl) rfl rfl (T_m_see b L xs (d - 1) (by omega) q3.2 s_q3 l0 f_l0 e_q5) (fun v0 h0 hq => ?_)
      obtain ⟨rfl, hh0, s_q5⟩ := hq
      rw [hh0] at s_q5 ⊢
      simp only [Option.toList_some, List.cons_append, List.nil_append]
      refine pw_s (pc := 31) d169_31 rfl rfl ?_
      refine pw_ine (pc := 33) (t := 103) d169_33 (by decide) (fun c6 => ?_) (fun c6 => ?_)
      · rw [if_pos c6] at hm
        obtain rfl := Option.some.inj hm
        exact hE s_q5  (Value.ref l0) w1
      · rw [if_neg c6] at hm
        exact t_m_term_36 b L xs d hd q5.2 s_q5 l0 w1 f_l0  hm hE
noncomputable def m_term (l0 : Nat) (h : pm_H) : Option (Int32 × pm_H) := (m_value l0 h).bind fun q1 => if ¬ q1.1 = 0 then ((wh (fun s : pm_H => m_term_9 l0 s) q1.2).bind fun q3 => (match q3 with | (.inl eq3_0) => some ((Int32.ofInt 0), eq3_0) | (.inr eq3_1) => some ((Int32.ofInt 1), eq3_1))) else (some ((Int32.ofInt 0), q1.2))
theorem T_m_term (b : Bool) (L : Nat) (xs : Nat → Int32) (d : Nat) (hd : 4 ≤ d) (h : pm_H) (s_h : h.1 = tb_SH) (l0 : Nat) (f_l0 : mi_o l0 10 = true) {r : (Int32 × pm_H)} (hm : m_term l0 h = some r) : PC b L xs d 169 [(Value.ref l0)] h (fun (v0 : Option Value) (h2 : pm_H) => v0 = (some (Value.int r.1)) ∧ h2 = r.2 ∧ h2.1 = tb_SH) := by
  refine pc_in e169 (ls0 := [(Value.ref l0), Value.retAddr 0]) rfl ?_
  have key : ∀ (Q : Option Value → pm_H → Prop), (r.2.1 = tb_SH → Q (some (Value.int r.1)) r.2) → PW b L xs d 169 0 0 0 [(Value.ref l0), Value.retAddr 0] [] h Q := by
    intro Q hE
    rw [m_term] at hm
    refine pw_l (pc := 0) d169_0 rfl rfl rfl ?_
    obtain ⟨q1, e_q1, hm⟩ := ob_x hm
    refine pw_v (pc := 1) (k := l0) (by omega) d169_1 (k169_168 b) (by decide) m168 (by decide) rfl (sho s_h f_l0) (Nat.le_of_ble_eq_true rfl) (Nat.le_of_ble_eq_true rfl) rfl rfl (T_m_value b L xs (d - 1) (by omega) h s_h l0 f_l0 e_q1) (fun v0 h0 hq => ?_)
    obtain ⟨rfl, hh0, s_q1⟩ := hq
    rw [hh0] at s_q1 ⊢
    simp only [Option.toList_some, List.cons_append, List.nil_append]
    refine pw_zne (pc := 4) (t := 9) d169_4 (by decide) (fun c2 => ?_) (fun c2 => ?_)
    · rw [if_pos c2] at hm
      obtain ⟨q3, e_q3, hm⟩ := ob_x hm
      refine wh_ind e_q3 (fun s : pm_H => s.1 = tb_SH → ∀ w1 : Value, PW b L xs d 169 0 0 9 [(Value.ref l0), w1] [] s Q) (fun s s2 hf ih sx w1 => t_m_term_9 b L xs d hd s sx l0 w1 f_l0 hf ih) (fun s hf sx w1 => t_m_term_9 b L xs d hd s sx l0 w1 f_l0 hf ?_) s_q1  (Value.retAddr 0)
      rcases q3 with eq3_0 | eq3_1
      · dsimp only at hm
        intro s_q3_0 w0 w1
        refine pw_s (pc := 92) d169_92 rfl rfl ?_
        obtain rfl := Option.some.inj hm
        refine pw_ri (pc := 93) d169_93 t169 rfl ?_
        exact hE s_q3_0
      · dsimp only at hm
        intro s_q3_1 w0 w1
        refine pw_s (pc := 103) d169_103 rfl rfl ?_
        obtain rfl := Option.some.inj hm
        refine pw_ri (pc := 104) d169_104 t169 rfl ?_
        exact hE s_q3_1
    · rw [if_neg c2] at hm
      refine pw_s (pc := 7) d169_7 rfl rfl ?_
      obtain rfl := Option.some.inj hm
      refine pw_ri (pc := 8) d169_8 t169 rfl ?_
      exact hE s_q1
  exact key _ (fun q => ⟨rfl, rfl, q⟩)
def E_m_sum_9 (b : Bool) (L : Nat) (xs : Nat → Int32) (d : Nat) (Q : Option Value → pm_H → Prop) (l0 : Nat) : (pm_H ⊕ pm_H ⊕ pm_H) → Prop
  | .inl s => s.1 = tb_SH → ∀ w1 : Value, PW b L xs d 170 0 0 9 [(Value.ref l0), w1] [] s Q
  | .inr (.inl e) => e.1 = tb_SH → ∀ w0 w1 : Value, PW b L xs d 170 0 0 64 [w0, w1] [] e Q
  | .inr (.inr e) => e.1 = tb_SH → ∀ w0 w1 : Value, PW b L xs d 170 0 0 75 [w0, w1] [] e Q
noncomputable def m_sum_46 (l0 : Nat) (z0 : Int32) (h : pm_H) : Option (pm_H ⊕ pm_H ⊕ pm_H) := bd (pm_setI h l0 8 ((h.2.1 l0 8) + (Int32.ofInt 1))) fun h1 => (m_term l0 h1).bind fun q2 => if ¬ q2.1 = 0 then ((m_puts l0 z0 (Int32.ofInt 0) q2.2).bind fun q4 => some (.inl q4)) else (some (.inr (.inl q2.2)))
theorem t_m_sum_46 (b : Bool) (L : Nat) (xs : Nat → Int32) (d : Nat) (hd : 5 ≤ d) {Q : Option Value → pm_H → Prop} (h : pm_H) (s_h : h.1 = tb_SH) (l0 : Nat) (z0 : Int32) (w1 : Value) (f_l0 : mi_o l0 10 = true) {r : (pm_H ⊕ pm_H ⊕ pm_H)} (hm : m_sum_46 l0 z0 h = some r) (hE : E_m_sum_9 b L xs d Q l0 r) : PW b L xs d 170 0 0 46 [(Value.ref l0), w1] [(Value.int z0)] h Q := by
  rw [m_sum_46] at hm
  refine pw_t (pc := 46) d170_46 rfl rfl rfl rfl ?_
  refine pw_l (pc := 47) d170_47 rfl rfl rfl ?_
  refine pw_s (pc := 48) d170_48 rfl rfl ?_
  refine pw_gi (pc := 49) d170_49 (k170_84 b) (sho s_h f_l0) f10_8 ?_
  refine pw_s (pc := 52) d170_52 rfl rfl ?_
  refine pw_s (pc := 53) d170_53 rfl rfl ?_
  refine pw_pi (pc := 54) d170_54 (k170_84 b) (sho s_h f_l0) p170_10_8 ?_
  obtain ⟨h1, e_h1, hm⟩ := bd_x hm
  rw [e_h1]
  have s_h1 : h1.1 = tb_SH := by rw [← e_h1]; exact s_h
  refine pw_l (pc := 57) d170_57 rfl rfl rfl ?_
  obtain ⟨q2, e_q2, hm⟩ := ob_x hm
  refine pw_v (pc := 58) (k := l0) (by omega) d170_58 (k170_172 b) (by decide) m169 (by decide) rfl (sho s_h1 f_l0) (Nat.le_of_ble_eq_true rfl) (Nat.le_of_ble_eq_true rfl) rfl rfl (T_m_term b L xs (d - 1) (by omega) h1 s_h1 l0 f_l0 e_q2) (fun v0 h0 hq => ?_)
  obtain ⟨rfl, hh0, s_q2⟩ := hq
  rw [hh0] at s_q2 ⊢
  simp only [Option.toList_some, List.cons_append, List.nil_append]
  refine pw_zne (pc := 61) (t := 66) d170_61 (by decide) (fun c3 => ?_) (fun c3 => ?_)
  · rw [if_pos c3] at hm
    refine pw_l (pc := 66) d170_66 rfl rfl rfl ?_
    refine pw_l (pc := 67) d170_67 rfl rfl rfl ?_
    refine pw_s (pc := 68) d170_68 rfl rfl ?_
    obtain ⟨q4, e_q4, hm⟩ := ob_x hm
    refine pw_v (pc := 69) (k := l0) (by omega) d170_69 (k170_154 b) (by decide) m163 (by decide) rfl (sho s_q2 f_l0) (Nat.le_of_ble_eq_true rfl) (Nat.le_of_ble_eq_true rfl) rfl rfl (T_m_puts b L xs (d - 1) (by omega) q2.2 s_q2 l0 z0 (Int32.ofInt 0) f_l0 e_q4) (fun v0 h0 hq => ?_)
    obtain ⟨rfl, hh0, s_q4⟩ := hq
    rw [hh0] at s_q4 ⊢
    simp only [Option.toList_none, List.nil_append]
    refine pw_go (pc := 72) (t := 9) d170_72 (by decide) ?_
    obtain rfl := Option.some.inj hm
    exact hE s_q4  (Value.int z0)
  · rw [if_neg c3] at hm
    obtain rfl := Option.some.inj hm
    exact hE s_q2  (Value.ref l0) (Value.int z0)
noncomputable def m_sum_27 (l0 : Nat) (h : pm_H) : Option (pm_H ⊕ pm_H ⊕ pm_H) := (gA h l0 0 .byte).bind fun y1 => if mi_in (h.2.1 l0 8) (mi_n y1) = true then if ¬ (h.2.1 y1 (h.2.1 l0 8).toNatClampNeg) = (Int8.ofInt 43).toInt32 then (m_sum_46 l0 (Int32.ofInt 3) h) else (m_sum_46 l0 (Int32.ofInt 2) h) else none
theorem t_m_sum_27 (b : Bool) (L : Nat) (xs : Nat → Int32) (d : Nat) (hd : 5 ≤ d) {Q : Option Value → pm_H → Prop} (h : pm_H) (s_h : h.1 = tb_SH) (l0 : Nat) (w1 : Value) (f_l0 : mi_o l0 10 = true) {r : (pm_H ⊕ pm_H ⊕ pm_H)} (hm : m_sum_27 l0 h = some r) (hE : E_m_sum_9 b L xs d Q l0 r) : PW b L xs d 170 0 0 27 [(Value.ref l0), w1] [] h Q := by
  rw [m_sum_27] at hm
  refine pw_l (pc := 27) d170_27 rfl rfl rfl ?_
  obtain ⟨y1, e_y1, hm⟩ := ob_x hm
  have f_y1 := gA_x e_y1
  refine pw_gr (pc := 28) d170_28 (k170_7 b) (sho s_h f_l0) f10_0 f_y1.1 ?_
  refine pw_l (pc := 31) d170_31 rfl rfl rfl ?_
  refine pw_gi (pc := 32) d170_32 (k170_84 b) (sho s_h f_l0) f10_8 ?_
  obtain ⟨g2, hm⟩ := gd_x hm
  refine pw_ab (pc := 35) d170_35 (sha s_h f_y1.2) (by decide) (mi_in_x g2) ?_
  refine pw_s (pc := 36) d170_36 rfl rfl ?_
  refine pw_ine (pc := 38) (t := 45) d170_38 (by decide) (fun c3 => ?_) (fun c3 => ?_)
  · rw [if_pos c3] at hm
    refine pw_s (pc := 45) d170_45 rfl rfl ?_
    exact t_m_sum_46 b L xs d hd h s_h l0 (Int32.ofInt 3) w1 f_l0  hm hE
  · rw [if_neg c3] at hm
    refine pw_s (pc := 41) d170_41 rfl rfl ?_
    refine pw_go (pc := 42) (t := 46) d170_42 (by decide) ?_
    exact t_m_sum_46 b L xs d hd h s_h l0 (Int32.ofInt 2) w1 f_l0  hm hE
noncomputable def m_sum_9 (l0 : Nat) (h : pm_H) : Option (pm_H ⊕ pm_H ⊕ pm_H) := (m_see l0 h).bind fun q1 => if q1.1 = (Int8.ofInt 43).toInt32 then (m_sum_27 l0 q1.2) else ((m_see l0 q1.2).bind fun q3 => if ¬ q3.1 = (Int8.ofInt 45).toInt32 then (some (.inr (.inr q3.2))) else (m_sum_27 l0 q3.2))
theorem t_m_sum_9 (b : Bool) (L : Nat) (xs : Nat → Int32) (d : Nat) (hd : 5 ≤ d) {Q : Option Value → pm_H → Prop} (h : pm_H) (s_h : h.1 = tb_SH) (l0 : Nat) (w1 : Value) (f_l0 : mi_o l0 10 = true) {r : (pm_H ⊕ pm_H ⊕ pm_H)} (hm : m_sum_9 l0 h = some r) (hE : E_m_sum_9 b L xs d Q l0 r) : PW b L xs d 170 0 0 9 [(Value.ref l0), w1] [] h Q := by
  rw [m_sum_9] at hm
  refine pw_l (pc := 9) d170_9 rfl rfl rfl ?_
  obtain ⟨q1, e_q1, hm⟩ := ob_x hm
  refine pw_v (pc := 10) (k := l0) (by omega) d170_10 (k170_87 b) (by decide) m155 (by decide) rfl (sho s_h f_l0) (Nat.le_of_ble_eq_true rfl) (Nat.le_of_ble_eq_true rfl) rfl rfl (T_m_see b L xs (d - 1) (by omega) h s_h l0 f_l0 e_q1) (fun v0 h0 hq => ?_)
  obtain ⟨rfl, hh0, s_q1⟩ := hq
  rw [hh0] at s_q1 ⊢
  simp only [Option.toList_some, List.cons_append, List.nil_append]
  refine pw_s (pc := 13) d170_13 rfl rfl ?_
  refine pw_ieq (pc := 15) (t := 27) d170_15 (by decide) (fun c2 => ?_) (fun c2 => ?_)
  · rw [if_pos c2] at hm
    exact t_m_sum_27 b L xs d hd q1.2 s_q1 l0 w1 f_l0  hm hE
  · rw [if_neg c2] at hm
    refine pw_l (pc := 18) d170_18 rfl rfl rfl ?_
    obtain ⟨q3, e_q3, hm⟩ := ob_x hm
    refine pw_v (pc := 19) (k := l0) (by omega) d170_19 (k170_87 b) (by decide) m155 (by decide) rfl (sho s_q1 f_l0) (Nat.le_of_ble_eq_true rfl) (Nat.le_of_ble_eq_true rfl) rfl rfl (T_m_see b L xs (d - 1) (by omega) q1.2 s_q1 l0 f_l0 e_q3) (fun v0 h0 hq => ?_)
    obtain ⟨rfl, hh0, s_q3⟩ := hq
    rw [hh0] at s_q3 ⊢
    simp only [Option.toList_some, List.cons_append, List.nil_append]
    refine pw_s (pc := 22) d170_22 rfl rfl ?_
    refine pw_ine (pc := 24) (t := 75) d170_24 (by decide) (fun c4 => ?_) (fun c4 => ?_)
    · rw [if_pos c4] at hm
      obtain rfl := Option.some.inj hm
      exact hE s_q3  (Value.ref l0) w1
    · rw [if_neg c4] at hm
      exact t_m_sum_27 b L xs d hd q3.2 s_q3 l0 w1 f_l0  hm hE
noncomputable def m_sum (l0 : Nat) (h : pm_H) : Option (Int32 × pm_H) := (m_term l0 h).bind fun q1 => if ¬ q1.1 = 0 then ((wh (fun s : pm_H => m_sum_9 l0 s) q1.2).bind fun q3 => (match q3 with | (.inl eq3_0) => some ((Int32.ofInt 0), eq3_0) | (.inr eq3_1) => some ((Int32.ofInt 1), eq3_1))) else (some ((Int32.ofInt 0), q1.2))
theorem T_m_sum (b : Bool) (L : Nat) (xs : Nat → Int32) (d : Nat) (hd : 5 ≤ d) (h : pm_H) (s_h : h.1 = tb_SH) (l0 : Nat) (f_l0 : mi_o l0 10 = true) {r : (Int32 × pm_H)} (hm : m_sum l0 h = some r) : PC b L xs d 170 [(Value.ref l0)] h (fun (v0 : Option Value) (h2 : pm_H) => v0 = (some (Value.int r.1)) ∧ h2 = r.2 ∧ h2.1 = tb_SH) := by
  refine pc_in e170 (ls0 := [(Value.ref l0), Value.retAddr 0]) rfl ?_
  have key : ∀ (Q : Option Value → pm_H → Prop), (r.2.1 = tb_SH → Q (some (Value.int r.1)) r.2) → PW b L xs d 170 0 0 0 [(Value.ref l0), Value.retAddr 0] [] h Q := by
    intro Q hE
    rw [m_sum] at hm
    refine pw_l (pc := 0) d170_0 rfl rfl rfl ?_
    obtain ⟨q1, e_q1, hm⟩ := ob_x hm
    refine pw_v (pc := 1) (k := l0) (by omega) d170_1 (k170_172 b) (by decide) m169 (by decide) rfl (sho s_h f_l0) (Nat.le_of_ble_eq_true rfl) (Nat.le_of_ble_eq_true rfl) rfl rfl (T_m_term b L xs (d - 1) (by omega) h s_h l0 f_l0 e_q1) (fun v0 h0 hq => ?_)
    obtain ⟨rfl, hh0, s_q1⟩ := hq
    rw [hh0] at s_q1 ⊢
    simp only [Option.toList_some, List.cons_append, List.nil_append]
    refine pw_zne (pc := 4) (t := 9) d170_4 (by decide) (fun c2 => ?_) (fun c2 => ?_)
    · rw [if_pos c2] at hm
      obtain ⟨q3, e_q3, hm⟩ := ob_x hm
      refine wh_ind e_q3 (fun s : pm_H => s.1 = tb_SH → ∀ w1 : Value, PW b L xs d 170 0 0 9 [(Value.ref l0), w1] [] s Q) (fun s s2 hf ih sx w1 => t_m_sum_9 b L xs d hd s sx l0 w1 f_l0 hf ih) (fun s hf sx w1 => t_m_sum_9 b L xs d hd s sx l0 w1 f_l0 hf ?_) s_q1  (Value.retAddr 0)
      rcases q3 with eq3_0 | eq3_1
      · dsimp only at hm
        intro s_q3_0 w0 w1
        refine pw_s (pc := 64) d170_64 rfl rfl ?_
        obtain rfl := Option.some.inj hm
        refine pw_ri (pc := 65) d170_65 t170 rfl ?_
        exact hE s_q3_0
      · dsimp only at hm
        intro s_q3_1 w0 w1
        refine pw_s (pc := 75) d170_75 rfl rfl ?_
        obtain rfl := Option.some.inj hm
        refine pw_ri (pc := 76) d170_76 t170 rfl ?_
        exact hE s_q3_1
    · rw [if_neg c2] at hm
      refine pw_s (pc := 7) d170_7 rfl rfl ?_
      obtain rfl := Option.some.inj hm
      refine pw_ri (pc := 8) d170_8 t170 rfl ?_
      exact hE s_q1
  exact key _ (fun q => ⟨rfl, rfl, q⟩)
noncomputable def m_compare_152 (l0 : Nat) (z0 : Int32) (h : pm_H) : Option (Int32 × pm_H) := (m_sum l0 h).bind fun q1 => if ¬ q1.1 = 0 then ((m_puts l0 ((Int8.ofInt 6).toInt32 + z0) (Int32.ofInt 0) q1.2).bind fun q3 => some ((Int32.ofInt 1), q3)) else (some ((Int32.ofInt 0), q1.2))
theorem t_m_compare_152 (b : Bool) (L : Nat) (xs : Nat → Int32) (d : Nat) (hd : 6 ≤ d) {Q : Option Value → pm_H → Prop} (h : pm_H) (s_h : h.1 = tb_SH) (l0 : Nat) (z0 : Int32) (w1 : Value) (w2 : Value) (w3 : Value) (w4 : Value) (f_l0 : mi_o l0 10 = true) {r : (Int32 × pm_H)} (hm : m_compare_152 l0 z0 h = some r) (hE : r.2.1 = tb_SH → Q (some (Value.int r.1)) r.2) : PW b L xs d 171 0 0 152 [(Value.ref l0), w1, w2, w3, w4] [(Value.int z0)] h Q := by
  rw [m_compare_152] at hm
  refine pw_t (pc := 152) d171_152 rfl rfl rfl (n := 2) (ls' := [(Value.ref l0), w1, w2, (mi_w w3), (Value.int z0)]) (st' := []) (by by_cases hw : Value.category w3 = 2 <;> simp [pm_sto, pm_sI, pm_sL, pm_sA, pm_inc, pm_st1, pm_st2, pm_pre, mi_w, hw] <;> first | done | exact ⟨by decide, rfl⟩ | rfl) ?_
  refine pw_l (pc := 154) d171_154 rfl rfl rfl ?_
  obtain ⟨q1, e_q1, hm⟩ := ob_x hm
  refine pw_v (pc := 155) (k := l0) (by omega) d171_155 (k171_175 b) (by decide) m170 (by decide) rfl (sho s_h f_l0) (Nat.le_of_ble_eq_true rfl) (Nat.le_of_ble_eq_true rfl) rfl rfl (T_m_sum b L xs (d - 1) (by omega) h s_h l0 f_l0 e_q1) (fun v0 h0 hq => ?_)
  obtain ⟨rfl, hh0, s_q1⟩ := hq
  rw [hh0] at s_q1 ⊢
  simp only [Option.toList_some, List.cons_append, List.nil_append]
  refine pw_zne (pc := 158) (t := 163) d171_158 (by decide) (fun c2 => ?_) (fun c2 => ?_)
  · rw [if_pos c2] at hm
    refine pw_l (pc := 163) d171_163 rfl rfl rfl ?_
    refine pw_s (pc := 164) d171_164 rfl rfl ?_
    refine pw_l (pc := 166) d171_166 rfl rfl rfl ?_
    refine pw_s (pc := 168) d171_168 rfl rfl ?_
    refine pw_s (pc := 169) d171_169 rfl rfl ?_
    obtain ⟨q3, e_q3, hm⟩ := ob_x hm
    refine pw_v (pc := 170) (k := l0) (by omega) d171_170 (k171_154 b) (by decide) m163 (by decide) rfl (sho s_q1 f_l0) (Nat.le_of_ble_eq_true rfl) (Nat.le_of_ble_eq_true rfl) rfl rfl (T_m_puts b L xs (d - 1) (by omega) q1.2 s_q1 l0 ((Int8.ofInt 6).toInt32 + z0) (Int32.ofInt 0) f_l0 e_q3) (fun v0 h0 hq => ?_)
    obtain ⟨rfl, hh0, s_q3⟩ := hq
    rw [hh0] at s_q3 ⊢
    simp only [Option.toList_none, List.nil_append]
    refine pw_s (pc := 173) d171_173 rfl rfl ?_
    obtain rfl := Option.some.inj hm
    refine pw_ri (pc := 174) d171_174 t171 rfl ?_
    exact hE s_q3
  · rw [if_neg c2] at hm
    refine pw_s (pc := 161) d171_161 rfl rfl ?_
    obtain rfl := Option.some.inj hm
    refine pw_ri (pc := 162) d171_162 t171 rfl ?_
    exact hE s_q1
noncomputable def m_compare_105 (l0 : Nat) (l1 : Int32) (l2 : Int32) (l3 : Int32) (h : pm_H) : Option (Int32 × pm_H) := (m_makes l0 l2 h).bind fun q1 => if ¬ q1.1 = 0 then (if ¬ l1 = (Int8.ofInt 60).toInt32 then (if ¬ l1 = (Int8.ofInt 61).toInt32 then (if l3 = 0 then (m_compare_152 l0 (Int32.ofInt 4) q1.2) else (m_compare_152 l0 (Int32.ofInt 3) q1.2)) else (m_compare_152 l0 (Int32.ofInt 2) q1.2)) else (if l3 = 0 then (m_compare_152 l0 (Int32.ofInt 0) q1.2) else (m_compare_152 l0 (Int32.ofInt 1) q1.2))) else (some ((Int32.ofInt 0), q1.2))
theorem t_m_compare_105 (b : Bool) (L : Nat) (xs : Nat → Int32) (d : Nat) (hd : 6 ≤ d) {Q : Option Value → pm_H → Prop} (h : pm_H) (s_h : h.1 = tb_SH) (l0 : Nat) (l1 : Int32) (l2 : Int32) (l3 : Int32) (w4 : Value) (f_l0 : mi_o l0 10 = true) {r : (Int32 × pm_H)} (hm : m_compare_105 l0 l1 l2 l3 h = some r) (hE : r.2.1 = tb_SH → Q (some (Value.int r.1)) r.2) : PW b L xs d 171 0 0 105 [(Value.ref l0), (Value.int l1), (Value.int l2), (Value.int l3), w4] [] h Q := by
  rw [m_compare_105] at hm
  refine pw_l (pc := 105) d171_105 rfl rfl rfl ?_
  refine pw_l (pc := 106) d171_106 rfl rfl rfl ?_
  obtain ⟨q1, e_q1, hm⟩ := ob_x hm
  refine pw_v (pc := 107) (k := l0) (by omega) d171_107 (k171_162 b) (by decide) m164 (by decide) rfl (sho s_h f_l0) (Nat.le_of_ble_eq_true rfl) (Nat.le_of_ble_eq_true rfl) rfl rfl (T_m_makes b L xs (d - 1) (by omega) h s_h l0 l2 f_l0 e_q1) (fun v0 h0 hq => ?_)
  obtain ⟨rfl, hh0, s_q1⟩ := hq
  rw [hh0] at s_q1 ⊢
  simp only [Option.toList_some, List.cons_append, List.nil_append]
  refine pw_zne (pc := 110) (t := 115) d171_110 (by decide) (fun c2 => ?_) (fun c2 => ?_)
  · rw [if_pos c2] at hm
    refine pw_l (pc := 115) d171_115 rfl rfl rfl ?_
    refine pw_s (pc := 116) d171_116 rfl rfl ?_
    refine pw_ine (pc := 118) (t := 133) d171_118 (by decide) (fun c3 => ?_) (fun c3 => ?_)
    · rw [if_pos c3] at hm
      refine pw_l (pc := 133) d171_133 rfl rfl rfl ?_
      refine pw_s (pc := 134) d171_134 rfl rfl ?_
      refine pw_ine (pc := 136) (t := 143) d171_136 (by decide) (fun c4 => ?_) (fun c4 => ?_)
      · rw [if_pos c4] at hm
        refine pw_l (pc := 143) d171_143 rfl rfl rfl ?_
        refine pw_zeq (pc := 144) (t := 151) d171_144 (by decide) (fun c5 => ?_) (fun c5 => ?_)
        · rw [if_pos c5] at hm
          refine pw_s (pc := 151) d171_151 rfl rfl ?_
          exact t_m_compare_152 b L xs d hd q1.2 s_q1 l0 (Int32.ofInt 4) (Value.int l1) (Value.int l2) (Value.int l3) w4 f_l0  hm hE
        · rw [if_neg c5] at hm
          refine pw_s (pc := 147) d171_147 rfl rfl ?_
          refine pw_go (pc := 148) (t := 152) d171_148 (by decide) ?_
          exact t_m_compare_152 b L xs d hd q1.2 s_q1 l0 (Int32.ofInt 3) (Value.int l1) (Value.int l2) (Value.int l3) w4 f_l0  hm hE
      · rw [if_neg c4] at hm
        refine pw_s (pc := 139) d171_139 rfl rfl ?_
        refine pw_go (pc := 140) (t := 152) d171_140 (by decide) ?_
        exact t_m_compare_152 b L xs d hd q1.2 s_q1 l0 (Int32.ofInt 2) (Value.int l1) (Value.int l2) (Value.int l3) w4 f_l0  hm hE
    · rw [if_neg c3] at hm
      refine pw_l (pc := 121) d171_121 rfl rfl rfl ?_
      refine pw_zeq (pc := 122) (t := 129) d171_122 (by decide) (fun c6 => ?_) (fun c6 => ?_)
      · rw [if_pos c6] at hm
        refine pw_s (pc := 129) d171_129 rfl rfl ?_
        refine pw_go (pc := 130) (t := 152) d171_130 (by decide) ?_
        exact t_m_compare_152 b L xs d hd q1.2 s_q1 l0 (Int32.ofInt 0) (Value.int l1) (Value.int l2) (Value.int l3) w4 f_l0  hm hE
      · rw [if_neg c6] at hm
        refine pw_s (pc := 125) d171_125 rfl rfl ?_
        refine pw_go (pc := 126) (t := 152) d171_126 (by decide) ?_
        exact t_m_compare_152 b L xs d hd q1.2 s_q1 l0 (Int32.ofInt 1) (Value.int l1) (Value.int l2) (Value.int l3) w4 f_l0  hm hE
  · rw [if_neg c2] at hm
    refine pw_s (pc := 113) d171_113 rfl rfl ?_
    obtain rfl := Option.some.inj hm
    refine pw_ri (pc := 114) d171_114 t171 rfl ?_
    exact hE s_q1
noncomputable def m_compare_90 (l0 : Nat) (l1 : Int32) (l2 : Int32) (z0 : Int32) (h : pm_H) : Option (Int32 × pm_H) := if z0 = 0 then (m_compare_105 l0 l1 l2 z0 h) else (bd (pm_setI h l0 8 ((h.2.1 l0 8) + (Int32.ofInt 1))) fun h2 => m_compare_105 l0 l1 l2 z0 h2)
theorem t_m_compare_90 (b : Bool) (L : Nat) (xs : Nat → Int32) (d : Nat) (hd : 6 ≤ d) {Q : Option Value → pm_H → Prop} (h : pm_H) (s_h : h.1 = tb_SH) (l0 : Nat) (l1 : Int32) (l2 : Int32) (z0 : Int32) (w3 : Value) (w4 : Value) (f_l0 : mi_o l0 10 = true) {r : (Int32 × pm_H)} (hm : m_compare_90 l0 l1 l2 z0 h = some r) (hE : r.2.1 = tb_SH → Q (some (Value.int r.1)) r.2) : PW b L xs d 171 0 0 90 [(Value.ref l0), (Value.int l1), (Value.int l2), w3, w4] [(Value.int z0)] h Q := by
  rw [m_compare_90] at hm
  refine pw_t (pc := 90) d171_90 rfl rfl rfl rfl ?_
  refine pw_l (pc := 91) d171_91 rfl rfl rfl ?_
  refine pw_zeq (pc := 92) (t := 105) d171_92 (by decide) (fun c1 => ?_) (fun c1 => ?_)
  · rw [if_pos c1] at hm
    exact t_m_compare_105 b L xs d hd h s_h l0 l1 l2 z0 w4 f_l0  hm hE
  · rw [if_neg c1] at hm
    refine pw_l (pc := 95) d171_95 rfl rfl rfl ?_
    refine pw_s (pc := 96) d171_96 rfl rfl ?_
    refine pw_gi (pc := 97) d171_97 (k171_84 b) (sho s_h f_l0) f10_8 ?_
    refine pw_s (pc := 100) d171_100 rfl rfl ?_
    refine pw_s (pc := 101) d171_101 rfl rfl ?_
    refine pw_pi (pc := 102) d171_102 (k171_84 b) (sho s_h f_l0) p171_10_8 ?_
    obtain ⟨h2, e_h2, hm⟩ := bd_x hm
    rw [e_h2]
    have s_h2 : h2.1 = tb_SH := by rw [← e_h2]; exact s_h
    exact t_m_compare_105 b L xs d hd h2 s_h2 l0 l1 l2 z0 w4 f_l0  hm hE
noncomputable def m_compare_44 (l0 : Nat) (l1 : Int32) (l2 : Int32) (h : pm_H) : Option (Int32 × pm_H) := bd (pm_setI h l0 8 ((h.2.1 l0 8) + (Int32.ofInt 1))) fun h1 => if l1 = (Int8.ofInt 61).toInt32 then (m_compare_90 l0 l1 l2 (Int32.ofInt 0) h1) else (if (h1.2.1 l0 1) ≤ (h1.2.1 l0 8) then (m_compare_90 l0 l1 l2 (Int32.ofInt 0) h1) else ((gA h1 l0 0 .byte).bind fun y4 => if mi_in (h1.2.1 l0 8) (mi_n y4) = true then if ¬ (h1.2.1 y4 (h1.2.1 l0 8).toNatClampNeg) = (Int8.ofInt 61).toInt32 then (m_compare_90 l0 l1 l2 (Int32.ofInt 0) h1) else (m_compare_90 l0 l1 l2 (Int32.ofInt 1) h1) else none))
theorem t_m_compare_44 (b : Bool) (L : Nat) (xs : Nat → Int32) (d : Nat) (hd : 6 ≤ d) {Q : Option Value → pm_H → Prop} (h : pm_H) (s_h : h.1 = tb_SH) (l0 : Nat) (l1 : Int32) (l2 : Int32) (w3 : Value) (w4 : Value) (f_l0 : mi_o l0 10 = true) {r : (Int32 × pm_H)} (hm : m_compare_44 l0 l1 l2 h = some r) (hE : r.2.1 = tb_SH → Q (some (Value.int r.1)) r.2) : PW b L xs d 171 0 0 44 [(Value.ref l0), (Value.int l1), (Value.int l2), w3, w4] [] h Q := by
  rw [m_compare_44] at hm
  refine pw_l (pc := 44) d171_44 rfl rfl rfl ?_
  refine pw_s (pc := 45) d171_45 rfl rfl ?_
  refine pw_gi (pc := 46) d171_46 (k171_84 b) (sho s_h f_l0) f10_8 ?_
  refine pw_s (pc := 49) d171_49 rfl rfl ?_
  refine pw_s (pc := 50) d171_50 rfl rfl ?_
  refine pw_pi (pc := 51) d171_51 (k171_84 b) (sho s_h f_l0) p171_10_8 ?_
  obtain ⟨h1, e_h1, hm⟩ := bd_x hm
  rw [e_h1]
  have s_h1 : h1.1 = tb_SH := by rw [← e_h1]; exact s_h
  refine pw_l (pc := 54) d171_54 rfl rfl rfl ?_
  refine pw_s (pc := 55) d171_55 rfl rfl ?_
  refine pw_ieq (pc := 57) (t := 89) d171_57 (by decide) (fun c2 => ?_) (fun c2 => ?_)
  · rw [if_pos c2] at hm
    refine pw_s (pc := 89) d171_89 rfl rfl ?_
    exact t_m_compare_90 b L xs d hd h1 s_h1 l0 l1 l2 (Int32.ofInt 0) w3 w4 f_l0  hm hE
  · rw [if_neg c2] at hm
    refine pw_l (pc := 60) d171_60 rfl rfl rfl ?_
    refine pw_gi (pc := 61) d171_61 (k171_84 b) (sho s_h1 f_l0) f10_8 ?_
    refine pw_l (pc := 64) d171_64 rfl rfl rfl ?_
    refine pw_gi (pc := 65) d171_65 (k171_73 b) (sho s_h1 f_l0) f10_1 ?_
    refine pw_ige (pc := 68) (t := 89) d171_68 (by decide) (fun c3 => ?_) (fun c3 => ?_)
    · rw [if_pos c3] at hm
      refine pw_s (pc := 89) d171_89 rfl rfl ?_
      exact t_m_compare_90 b L xs d hd h1 s_h1 l0 l1 l2 (Int32.ofInt 0) w3 w4 f_l0  hm hE
    · rw [if_neg c3] at hm
      refine pw_l (pc := 71) d171_71 rfl rfl rfl ?_
      obtain ⟨y4, e_y4, hm⟩ := ob_x hm
      have f_y4 := gA_x e_y4
      refine pw_gr (pc := 72) d171_72 (k171_7 b) (sho s_h1 f_l0) f10_0 f_y4.1 ?_
      refine pw_l (pc := 75) d171_75 rfl rfl rfl ?_
      refine pw_gi (pc := 76) d171_76 (k171_84 b) (sho s_h1 f_l0) f10_8 ?_
      obtain ⟨g5, hm⟩ := gd_x hm
      refine pw_ab (pc := 79) d171_79 (sha s_h1 f_y4.2) (by decide) (mi_in_x g5) ?_
      refine pw_s (pc := 80) d171_80 rfl rfl ?_
      refine pw_ine (pc := 82) (t := 89) d171_82 (by decide) (fun c6 => ?_) (fun c6 => ?_)
      · rw [if_pos c6] at hm
        refine pw_s (pc := 89) d171_89 rfl rfl ?_
        exact t_m_compare_90 b L xs d hd h1 s_h1 l0 l1 l2 (Int32.ofInt 0) w3 w4 f_l0  hm hE
      · rw [if_neg c6] at hm
        refine pw_s (pc := 85) d171_85 rfl rfl ?_
        refine pw_go (pc := 86) (t := 90) d171_86 (by decide) ?_
        exact t_m_compare_90 b L xs d hd h1 s_h1 l0 l1 l2 (Int32.ofInt 1) w3 w4 f_l0  hm hE
noncomputable def m_compare (l0 : Nat) (h : pm_H) : Option (Int32 × pm_H) := (m_sum l0 h).bind fun q1 => if ¬ q1.1 = 0 then ((m_see l0 q1.2).bind fun q3 => if q3.1 = (Int8.ofInt 60).toInt32 then (m_compare_44 l0 q3.1 (q3.2.2.1 l0 8) q3.2) else (if q3.1 = (Int8.ofInt 61).toInt32 then (m_compare_44 l0 q3.1 (q3.2.2.1 l0 8) q3.2) else (if q3.1 = (Int8.ofInt 62).toInt32 then (m_compare_44 l0 q3.1 (q3.2.2.1 l0 8) q3.2) else ((m_fails l0 (Int32.ofInt 0) (q3.2.2.1 l0 8) q3.2).bind fun q7 => if mi_bo q7.1 = true then some (q7.1, q7.2) else none)))) else (some ((Int32.ofInt 0), q1.2))
theorem T_m_compare (b : Bool) (L : Nat) (xs : Nat → Int32) (d : Nat) (hd : 6 ≤ d) (h : pm_H) (s_h : h.1 = tb_SH) (l0 : Nat) (f_l0 : mi_o l0 10 = true) {r : (Int32 × pm_H)} (hm : m_compare l0 h = some r) : PC b L xs d 171 [(Value.ref l0)] h (fun (v0 : Option Value) (h2 : pm_H) => v0 = (some (Value.int r.1)) ∧ h2 = r.2 ∧ h2.1 = tb_SH) := by
  refine pc_in e171 (ls0 := [(Value.ref l0), Value.retAddr 0, Value.retAddr 0, Value.retAddr 0, Value.retAddr 0]) rfl ?_
  have key : ∀ (Q : Option Value → pm_H → Prop), (r.2.1 = tb_SH → Q (some (Value.int r.1)) r.2) → PW b L xs d 171 0 0 0 [(Value.ref l0), Value.retAddr 0, Value.retAddr 0, Value.retAddr 0, Value.retAddr 0] [] h Q := by
    intro Q hE
    rw [m_compare] at hm
    refine pw_l (pc := 0) d171_0 rfl rfl rfl ?_
    obtain ⟨q1, e_q1, hm⟩ := ob_x hm
    refine pw_v (pc := 1) (k := l0) (by omega) d171_1 (k171_175 b) (by decide) m170 (by decide) rfl (sho s_h f_l0) (Nat.le_of_ble_eq_true rfl) (Nat.le_of_ble_eq_true rfl) rfl rfl (T_m_sum b L xs (d - 1) (by omega) h s_h l0 f_l0 e_q1) (fun v0 h0 hq => ?_)
    obtain ⟨rfl, hh0, s_q1⟩ := hq
    rw [hh0] at s_q1 ⊢
    simp only [Option.toList_some, List.cons_append, List.nil_append]
    refine pw_zne (pc := 4) (t := 9) d171_4 (by decide) (fun c2 => ?_) (fun c2 => ?_)
    · rw [if_pos c2] at hm
      refine pw_l (pc := 9) d171_9 rfl rfl rfl ?_
      obtain ⟨q3, e_q3, hm⟩ := ob_x hm
      refine pw_v (pc := 10) (k := l0) (by omega) d171_10 (k171_87 b) (by decide) m155 (by decide) rfl (sho s_q1 f_l0) (Nat.le_of_ble_eq_true rfl) (Nat.le_of_ble_eq_true rfl) rfl rfl (T_m_see b L xs (d - 1) (by omega) q1.2 s_q1 l0 f_l0 e_q3) (fun v0 h0 hq => ?_)
      obtain ⟨rfl, hh0, s_q3⟩ := hq
      rw [hh0] at s_q3 ⊢
      simp only [Option.toList_some, List.cons_append, List.nil_append]
      refine pw_t (pc := 13) d171_13 rfl rfl rfl rfl ?_
      refine pw_l (pc := 14) d171_14 rfl rfl rfl ?_
      refine pw_gi (pc := 15) d171_15 (k171_84 b) (sho s_q3 f_l0) f10_8 ?_
      refine pw_t (pc := 18) d171_18 rfl rfl rfl rfl ?_
      refine pw_l (pc := 19) d171_19 rfl rfl rfl ?_
      refine pw_s (pc := 20) d171_20 rfl rfl ?_
      refine pw_ieq (pc := 22) (t := 44) d171_22 (by decide) (fun c4 => ?_) (fun c4 => ?_)
      · rw [if_pos c4] at hm
        exact t_m_compare_44 b L xs d hd q3.2 s_q3 l0 q3.1 (q3.2.2.1 l0 8) (Value.retAddr 0) (Value.retAddr 0) f_l0  hm hE
      · rw [if_neg c4] at hm
        refine pw_l (pc := 25) d171_25 rfl rfl rfl ?_
        refine pw_s (pc := 26) d171_26 rfl rfl ?_
        refine pw_ieq (pc := 28) (t := 44) d171_28 (by decide) (fun c5 => ?_) (fun c5 => ?_)
        · rw [if_pos c5] at hm
          exact t_m_compare_44 b L xs d hd q3.2 s_q3 l0 q3.1 (q3.2.2.1 l0 8) (Value.retAddr 0) (Value.retAddr 0) f_l0  hm hE
        · rw [if_neg c5] at hm
          refine pw_l (pc := 31) d171_31 rfl rfl rfl ?_
          refine pw_s (pc := 32) d171_32 rfl rfl ?_
          refine pw_ieq (pc := 34) (t := 44) d171_34 (by decide) (fun c6 => ?_) (fun c6 => ?_)
          · rw [if_pos c6] at hm
            exact t_m_compare_44 b L xs d hd q3.2 s_q3 l0 q3.1 (q3.2.2.1 l0 8) (Value.retAddr 0) (Value.retAddr 0) f_l0  hm hE
          · rw [if_neg c6] at hm
            refine pw_l (pc := 37) d171_37 rfl rfl rfl ?_
            refine pw_s (pc := 38) d171_38 rfl rfl ?_
            refine pw_l (pc := 39) d171_39 rfl rfl rfl ?_
            obtain ⟨q7, e_q7, hm⟩ := ob_x hm
            refine pw_v (pc := 40) (k := l0) (by omega) d171_40 (k171_105 b) (by decide) m154 (by decide) rfl (sho s_q3 f_l0) (Nat.le_of_ble_eq_true rfl) (Nat.le_of_ble_eq_true rfl) rfl rfl (T_m_fails b L xs (d - 1) (by omega) q3.2 s_q3 l0 (Int32.ofInt 0) (q3.2.2.1 l0 8) f_l0 e_q7) (fun v0 h0 hq => ?_)
            obtain ⟨rfl, hh0, s_q7⟩ := hq
            rw [hh0] at s_q7 ⊢
            simp only [Option.toList_some, List.cons_append, List.nil_append]
            obtain ⟨g8, hm⟩ := gd_x hm
            obtain rfl := Option.some.inj hm
            refine pw_ri (pc := 43) d171_43 t171 (pm_nz (mi_bo_x g8)) ?_
            exact hE s_q7
    · rw [if_neg c2] at hm
      refine pw_s (pc := 7) d171_7 rfl rfl ?_
      obtain rfl := Option.some.inj hm
      refine pw_ri (pc := 8) d171_8 t171 rfl ?_
      exact hE s_q1
  exact key _ (fun q => ⟨rfl, rfl, q⟩)
def E_m_fact_2 (b : Bool) (L : Nat) (xs : Nat → Int32) (d : Nat) (Q : Option Value → pm_H → Prop) (l0 : Nat) : ((Int32 × pm_H) ⊕ pm_H ⊕ pm_H ⊕ pm_H) → Prop
  | .inl s => s.2.1 = tb_SH → ∀ w2 : Value, PW b L xs d 172 0 0 2 [(Value.ref l0), (Value.int s.1), w2] [] s.2 Q
  | .inr (.inl e) => e.1 = tb_SH → ∀ w0 w1 w2 : Value, PW b L xs d 172 0 0 32 [w0, w1, w2] [] e Q
  | .inr (.inr (.inl e)) => e.1 = tb_SH → ∀ w0 w1 w2 : Value, PW b L xs d 172 0 0 58 [w0, w1, w2] [] e Q
  | .inr (.inr (.inr e)) => e.1 = tb_SH → ∀ w1 w2 : Value, PW b L xs d 172 0 0 75 [(Value.ref l0), w1, w2] [] e Q
noncomputable def m_fact_2 (l0 : Nat) (l1 : Int32) (h : pm_H) : Option ((Int32 × pm_H) ⊕ pm_H ⊕ pm_H ⊕ pm_H) := if l1 = 0 then (some (.inr (.inr (.inr h)))) else ((m_see l0 h).bind fun q2 => (m_isWord l0 (7237492 : Int64) q2.2).bind fun q3 => if q3.1 = 0 then (if ¬ q2.1 = (Int8.ofInt 91).toInt32 then (some (.inl ((Int32.ofInt 0), q3.2))) else ((m_opens l0 ((Int8.ofInt 91).toInt32) q3.2).bind fun q6 => if ¬ q6.1 = 0 then (bd (pm_setI q6.2 l0 8 ((q6.2.2.1 l0 8) + (Int32.ofInt 1))) fun h8 => some (.inl ((Int32.ofInt 1), h8))) else (some (.inr (.inr (.inl q6.2)))))) else ((m_opens l0 ((Int8.ofInt 11).toInt32) q3.2).bind fun q9 => if ¬ q9.1 = 0 then ((m_passWord l0 q9.2).bind fun q11 => some (.inl ((Int32.ofInt 1), q11))) else (some (.inr (.inl q9.2)))))
theorem t_m_fact_2 (b : Bool) (L : Nat) (xs : Nat → Int32) (d : Nat) (hd : 7 ≤ d) {Q : Option Value → pm_H → Prop} (h : pm_H) (s_h : h.1 = tb_SH) (l0 : Nat) (l1 : Int32) (w2 : Value) (f_l0 : mi_o l0 10 = true) {r : ((Int32 × pm_H) ⊕ pm_H ⊕ pm_H ⊕ pm_H)} (hm : m_fact_2 l0 l1 h = some r) (hE : E_m_fact_2 b L xs d Q l0 r) : PW b L xs d 172 0 0 2 [(Value.ref l0), (Value.int l1), w2] [] h Q := by
  rw [m_fact_2] at hm
  refine pw_l (pc := 2) d172_2 rfl rfl rfl ?_
  refine pw_zeq (pc := 3) (t := 75) d172_3 (by decide) (fun c1 => ?_) (fun c1 => ?_)
  · rw [if_pos c1] at hm
    obtain rfl := Option.some.inj hm
    exact hE s_h  (Value.int l1) w2
  · rw [if_neg c1] at hm
    refine pw_s (pc := 6) d172_6 rfl rfl ?_
    refine pw_t (pc := 7) d172_7 rfl rfl rfl rfl ?_
    refine pw_l (pc := 8) d172_8 rfl rfl rfl ?_
    obtain ⟨q2, e_q2, hm⟩ := ob_x hm
    refine pw_v (pc := 9) (k := l0) (by omega) d172_9 (k172_87 b) (by decide) m155 (by decide) rfl (sho s_h f_l0) (Nat.le_of_ble_eq_true rfl) (Nat.le_of_ble_eq_true rfl) rfl rfl (T_m_see b L xs (d - 1) (by omega) h s_h l0 f_l0 e_q2) (fun v0 h0 hq => ?_)
    obtain ⟨rfl, hh0, s_q2⟩ := hq
    rw [hh0] at s_q2 ⊢
    simp only [Option.toList_some, List.cons_append, List.nil_append]
    refine pw_t (pc := 12) d172_12 rfl rfl rfl rfl ?_
    refine pw_l (pc := 13) d172_13 rfl rfl rfl ?_
    refine pw_cl (pc := 14) d172_14 (k172_178 b) ?_
    obtain ⟨q3, e_q3, hm⟩ := ob_x hm
    refine pw_v (pc := 17) (k := l0) (by omega) d172_17 (k172_95 b) (by decide) m158 (by decide) rfl (sho s_q2 f_l0) (Nat.le_of_ble_eq_true rfl) (Nat.le_of_ble_eq_true rfl) rfl rfl (T_m_isWord b L xs (d - 1) (by omega) q2.2 s_q2 l0 (7237492 : Int64) f_l0 e_q3) (fun v0 h0 hq => ?_)
    obtain ⟨rfl, hh0, s_q3⟩ := hq
    rw [hh0] at s_q3 ⊢
    simp only [Option.toList_some, List.cons_append, List.nil_append]
    refine pw_zeq (pc := 20) (t := 43) d172_20 (by decide) (fun c4 => ?_) (fun c4 => ?_)
    · rw [if_pos c4] at hm
      refine pw_l (pc := 43) d172_43 rfl rfl rfl ?_
      refine pw_s (pc := 44) d172_44 rfl rfl ?_
      refine pw_ine (pc := 46) (t := 72) d172_46 (by decide) (fun c5 => ?_) (fun c5 => ?_)
      · rw [if_pos c5] at hm
        refine pw_go (pc := 72) (t := 2) d172_72 (by decide) ?_
        obtain rfl := Option.some.inj hm
        exact hE s_q3  (Value.int q2.1)
      · rw [if_neg c5] at hm
        refine pw_l (pc := 49) d172_49 rfl rfl rfl ?_
        refine pw_s (pc := 50) d172_50 rfl rfl ?_
        obtain ⟨q6, e_q6, hm⟩ := ob_x hm
        refine pw_v (pc := 52) (k := l0) (by omega) d172_52 (k172_180 b) (by decide) m165 (by decide) rfl (sho s_q3 f_l0) (Nat.le_of_ble_eq_true rfl) (Nat.le_of_ble_eq_true rfl) rfl rfl (T_m_opens b L xs (d - 1) (by omega) q3.2 s_q3 l0 ((Int8.ofInt 91).toInt32) f_l0 e_q6) (fun v0 h0 hq => ?_)
        obtain ⟨rfl, hh0, s_q6⟩ := hq
        rw [hh0] at s_q6 ⊢
        simp only [Option.toList_some, List.cons_append, List.nil_append]
        refine pw_zne (pc := 55) (t := 60) d172_55 (by decide) (fun c7 => ?_) (fun c7 => ?_)
        · rw [if_pos c7] at hm
          refine pw_l (pc := 60) d172_60 rfl rfl rfl ?_
          refine pw_s (pc := 61) d172_61 rfl rfl ?_
          refine pw_gi (pc := 62) d172_62 (k172_84 b) (sho s_q6 f_l0) f10_8 ?_
          refine pw_s (pc := 65) d172_65 rfl rfl ?_
          refine pw_s (pc := 66) d172_66 rfl rfl ?_
          refine pw_pi (pc := 67) d172_67 (k172_84 b) (sho s_q6 f_l0) p172_10_8 ?_
          obtain ⟨h8, e_h8, hm⟩ := bd_x hm
          rw [e_h8]
          have s_h8 : h8.1 = tb_SH := by rw [← e_h8]; exact s_q6
          refine pw_s (pc := 70) d172_70 rfl rfl ?_
          refine pw_t (pc := 71) d172_71 rfl rfl rfl rfl ?_
          refine pw_go (pc := 72) (t := 2) d172_72 (by decide) ?_
          obtain rfl := Option.some.inj hm
          exact hE s_h8  (Value.int q2.1)
        · rw [if_neg c7] at hm
          obtain rfl := Option.some.inj hm
          exact hE s_q6  (Value.ref l0) (Value.int (Int32.ofInt 0)) (Value.int q2.1)
    · rw [if_neg c4] at hm
      refine pw_l (pc := 23) d172_23 rfl rfl rfl ?_
      refine pw_s (pc := 24) d172_24 rfl rfl ?_
      obtain ⟨q9, e_q9, hm⟩ := ob_x hm
      refine pw_v (pc := 26) (k := l0) (by omega) d172_26 (k172_180 b) (by decide) m165 (by decide) rfl (sho s_q3 f_l0) (Nat.le_of_ble_eq_true rfl) (Nat.le_of_ble_eq_true rfl) rfl rfl (T_m_opens b L xs (d - 1) (by omega) q3.2 s_q3 l0 ((Int8.ofInt 11).toInt32) f_l0 e_q9) (fun v0 h0 hq => ?_)
      obtain ⟨rfl, hh0, s_q9⟩ := hq
      rw [hh0] at s_q9 ⊢
      simp only [Option.toList_some, List.cons_append, List.nil_append]
      refine pw_zne (pc := 29) (t := 34) d172_29 (by decide) (fun c10 => ?_) (fun c10 => ?_)
      · rw [if_pos c10] at hm
        refine pw_l (pc := 34) d172_34 rfl rfl rfl ?_
        obtain ⟨q11, e_q11, hm⟩ := ob_x hm
        refine pw_v (pc := 35) (k := l0) (by omega) d172_35 (k172_99 b) (by decide) m159 (by decide) rfl (sho s_q9 f_l0) (Nat.le_of_ble_eq_true rfl) (Nat.le_of_ble_eq_true rfl) rfl rfl (T_m_passWord b L xs (d - 1) (by omega) q9.2 s_q9 l0 f_l0 e_q11) (fun v0 h0 hq => ?_)
        obtain ⟨rfl, hh0, s_q11⟩ := hq
        rw [hh0] at s_q11 ⊢
        simp only [Option.toList_none, List.nil_append]
        refine pw_s (pc := 38) d172_38 rfl rfl ?_
        refine pw_t (pc := 39) d172_39 rfl rfl rfl rfl ?_
        refine pw_go (pc := 40) (t := 72) d172_40 (by decide) ?_
        refine pw_go (pc := 72) (t := 2) d172_72 (by decide) ?_
        obtain rfl := Option.some.inj hm
        exact hE s_q11  (Value.int q2.1)
      · rw [if_neg c10] at hm
        obtain rfl := Option.some.inj hm
        exact hE s_q9  (Value.ref l0) (Value.int (Int32.ofInt 0)) (Value.int q2.1)
noncomputable def m_fact (l0 : Nat) (h : pm_H) : Option (Int32 × pm_H) := (wh (fun s : (Int32 × pm_H) => m_fact_2 l0 s.1 s.2) ((Int32.ofInt 1), h)).bind fun q1 => (match q1 with | (.inl eq1_0) => some ((Int32.ofInt 0), eq1_0) | (.inr (.inl eq1_1)) => some ((Int32.ofInt 0), eq1_1) | (.inr (.inr eq1_2)) => (m_compare l0 eq1_2).bind fun q2 => if mi_bo q2.1 = true then some (q2.1, q2.2) else none)
theorem T_m_fact (b : Bool) (L : Nat) (xs : Nat → Int32) (d : Nat) (hd : 7 ≤ d) (h : pm_H) (s_h : h.1 = tb_SH) (l0 : Nat) (f_l0 : mi_o l0 10 = true) {r : (Int32 × pm_H)} (hm : m_fact l0 h = some r) : PC b L xs d 172 [(Value.ref l0)] h (fun (v0 : Option Value) (h2 : pm_H) => v0 = (some (Value.int r.1)) ∧ h2 = r.2 ∧ h2.1 = tb_SH) := by
  refine pc_in e172 (ls0 := [(Value.ref l0), Value.retAddr 0, Value.retAddr 0]) rfl ?_
  have key : ∀ (Q : Option Value → pm_H → Prop), (r.2.1 = tb_SH → Q (some (Value.int r.1)) r.2) → PW b L xs d 172 0 0 0 [(Value.ref l0), Value.retAddr 0, Value.retAddr 0] [] h Q := by
    intro Q hE
    rw [m_fact] at hm
    refine pw_s (pc := 0) d172_0 rfl rfl ?_
    refine pw_t (pc := 1) d172_1 rfl rfl rfl rfl ?_
    obtain ⟨q1, e_q1, hm⟩ := ob_x hm
    refine wh_ind e_q1 (fun s : (Int32 × pm_H) => s.2.1 = tb_SH → ∀ w2 : Value, PW b L xs d 172 0 0 2 [(Value.ref l0), (Value.int s.1), w2] [] s.2 Q) (fun s s2 hf ih sx w2 => t_m_fact_2 b L xs d hd s.2 sx l0 s.1 w2 f_l0 hf ih) (fun s hf sx w2 => t_m_fact_2 b L xs d hd s.2 sx l0 s.1 w2 f_l0 hf ?_) s_h  (Value.retAddr 0)
    rcases q1 with eq1_0 | eq1_1 | eq1_2
    · dsimp only at hm
      intro s_q1_0 w0 w1 w2
      refine pw_s (pc := 32) d172_32 rfl rfl ?_
      obtain rfl := Option.some.inj hm
      refine pw_ri (pc := 33) d172_33 t172 rfl ?_
      exact hE s_q1_0
    · dsimp only at hm
      intro s_q1_1 w0 w1 w2
      refine pw_s (pc := 58) d172_58 rfl rfl ?_
      obtain rfl := Option.some.inj hm
      refine pw_ri (pc := 59) d172_59 t172 rfl ?_
      exact hE s_q1_1
    · dsimp only at hm
      intro s_q1_2 w1 w2
      refine pw_l (pc := 75) d172_75 rfl rfl rfl ?_
      obtain ⟨q2, e_q2, hm⟩ := ob_x hm
      refine pw_v (pc := 76) (k := l0) (by omega) d172_76 (k172_183 b) (by decide) m171 (by decide) rfl (sho s_q1_2 f_l0) (Nat.le_of_ble_eq_true rfl) (Nat.le_of_ble_eq_true rfl) rfl rfl (T_m_compare b L xs (d - 1) (by omega) eq1_2 s_q1_2 l0 f_l0 e_q2) (fun v0 h0 hq => ?_)
      obtain ⟨rfl, hh0, s_q2⟩ := hq
      rw [hh0] at s_q2 ⊢
      simp only [Option.toList_some, List.cons_append, List.nil_append]
      obtain ⟨g3, hm⟩ := gd_x hm
      obtain rfl := Option.some.inj hm
      refine pw_ri (pc := 79) d172_79 t172 (pm_nz (mi_bo_x g3)) ?_
      exact hE s_q2
  exact key _ (fun q => ⟨rfl, rfl, q⟩)
def E_m_isInside_2 (b : Bool) (L : Nat) (xs : Nat → Int32) (d : Nat) (Q : Option Value → pm_H → Prop) (h : pm_H) (l0 : Nat) : (Int32 ⊕ Unit ⊕ Unit) → Prop
  | .inl s => PW b L xs d 173 0 0 2 [(Value.ref l0), (Value.int s)] [] h Q
  | .inr (.inl e) => ∀ w0 w1 : Value, PW b L xs d 173 0 0 21 [w0, w1] [] h Q
  | .inr (.inr e) => ∀ w0 w1 : Value, PW b L xs d 173 0 0 29 [w0, w1] [] h Q
noncomputable def m_isInside_2 (l0 : Nat) (l1 : Int32) (h : pm_H) : Option (Int32 ⊕ Unit ⊕ Unit) := if (h.2.1 l0 16) ≤ l1 then (some (.inr (.inr ()))) else ((gA h l0 15 .int).bind fun y2 => if mi_in l1 (mi_n y2) = true then if ¬ (h.2.1 y2 l1.toNatClampNeg) = (Int8.ofInt 91).toInt32 then (some (.inl (l1 + Int32.ofInt 1))) else (some (.inr (.inl ()))) else none)
theorem t_m_isInside_2 (b : Bool) (L : Nat) (xs : Nat → Int32) (d : Nat) (hd : 0 ≤ d) {Q : Option Value → pm_H → Prop} (h : pm_H) (s_h : h.1 = tb_SH) (l0 : Nat) (l1 : Int32) (f_l0 : mi_o l0 10 = true) {r : (Int32 ⊕ Unit ⊕ Unit)} (hm : m_isInside_2 l0 l1 h = some r) (hE : E_m_isInside_2 b L xs d Q h l0 r) : PW b L xs d 173 0 0 2 [(Value.ref l0), (Value.int l1)] [] h Q := by
  rw [m_isInside_2] at hm
  refine pw_l (pc := 2) d173_2 rfl rfl rfl ?_
  refine pw_l (pc := 3) d173_3 rfl rfl rfl ?_
  refine pw_gi (pc := 4) d173_4 (k173_147 b) (sho s_h f_l0) f10_16 ?_
  refine pw_ige (pc := 7) (t := 29) d173_7 (by decide) (fun c1 => ?_) (fun c1 => ?_)
  · rw [if_pos c1] at hm
    obtain rfl := Option.some.inj hm
    exact hE   (Value.ref l0) (Value.int l1)
  · rw [if_neg c1] at hm
    refine pw_l (pc := 10) d173_10 rfl rfl rfl ?_
    obtain ⟨y2, e_y2, hm⟩ := ob_x hm
    have f_y2 := gA_x e_y2
    refine pw_gr (pc := 11) d173_11 (k173_29 b) (sho s_h f_l0) f10_15 f_y2.1 ?_
    refine pw_l (pc := 14) d173_14 rfl rfl rfl ?_
    obtain ⟨g3, hm⟩ := gd_x hm
    refine pw_ai (pc := 15) d173_15 (sha s_h f_y2.2) (mi_in_x g3) ?_
    refine pw_s (pc := 16) d173_16 rfl rfl ?_
    refine pw_ine (pc := 18) (t := 23) d173_18 (by decide) (fun c4 => ?_) (fun c4 => ?_)
    · rw [if_pos c4] at hm
      refine pw_t (pc := 23) d173_23 rfl rfl rfl rfl ?_
      refine pw_go (pc := 26) (t := 2) d173_26 (by decide) ?_
      obtain rfl := Option.some.inj hm
      exact hE   
    · rw [if_neg c4] at hm
      obtain rfl := Option.some.inj hm
      exact hE   (Value.ref l0) (Value.int l1)
noncomputable def m_isInside (l0 : Nat) (h : pm_H) : Option Int32 := (wh (fun s : Int32 => m_isInside_2 l0 s h) (Int32.ofInt 0)).bind fun q1 => (match q1 with | (.inl eq1_0) => some (Int32.ofInt 1) | (.inr eq1_1) => some (Int32.ofInt 0))
theorem T_m_isInside (b : Bool) (L : Nat) (xs : Nat → Int32) (d : Nat) (hd : 0 ≤ d) (h : pm_H) (s_h : h.1 = tb_SH) (l0 : Nat) (f_l0 : mi_o l0 10 = true) {r : Int32} (hm : m_isInside l0 h = some r) : PC b L xs d 173 [(Value.ref l0)] h (fun (v0 : Option Value) (h2 : pm_H) => v0 = (some (Value.int r)) ∧ h2 = h ∧ h2.1 = tb_SH) := by
  refine pc_in e173 (ls0 := [(Value.ref l0), Value.retAddr 0]) rfl ?_
  have key : ∀ (Q : Option Value → pm_H → Prop), (Q (some (Value.int r)) h) → PW b L xs d 173 0 0 0 [(Value.ref l0), Value.retAddr 0] [] h Q := by
    intro Q hE
    rw [m_isInside] at hm
    refine pw_s (pc := 0) d173_0 rfl rfl ?_
    refine pw_t (pc := 1) d173_1 rfl rfl rfl rfl ?_
    obtain ⟨q1, e_q1, hm⟩ := ob_x hm
    refine wh_ind e_q1 (fun s : Int32 => PW b L xs d 173 0 0 2 [(Value.ref l0), (Value.int s)] [] h Q) (fun s s2 hf ih  => t_m_isInside_2 b L xs d hd h s_h l0 s  f_l0 hf ih) (fun s hf  => t_m_isInside_2 b L xs d hd h s_h l0 s  f_l0 hf ?_)   
    rcases q1 with eq1_0 | eq1_1
    · dsimp only at hm
      intro w0 w1
      refine pw_s (pc := 21) d173_21 rfl rfl ?_
      obtain rfl := Option.some.inj hm
      refine pw_ri (pc := 22) d173_22 t173 rfl ?_
      exact hE
    · dsimp only at hm
      intro w0 w1
      refine pw_s (pc := 29) d173_29 rfl rfl ?_
      obtain rfl := Option.some.inj hm
      refine pw_ri (pc := 30) d173_30 t173 rfl ?_
      exact hE
  exact key _ ⟨rfl, rfl, s_h⟩
def E_m_closes_5 (b : Bool) (L : Nat) (xs : Nat → Int32) (d : Nat) (Q : Option Value → pm_H → Prop) (l0 : Nat) : (pm_H ⊕ pm_H) → Prop
  | .inl s => s.1 = tb_SH → PW b L xs d 174 0 0 5 [(Value.ref l0)] [] s Q
  | .inr e => e.1 = tb_SH → ∀ w0 : Value, PW b L xs d 174 0 0 64 [w0] [] e Q
noncomputable def m_closes_5 (l0 : Nat) (h : pm_H) : Option (pm_H ⊕ pm_H) := (m_see l0 h).bind fun q1 => if ¬ q1.1 = (Int8.ofInt 93).toInt32 then (some (.inr q1.2)) else ((m_isInside l0 q1.2).bind fun q3 => if q3 = 0 then (some (.inr q1.2)) else ((m_settles l0 (Int32.ofInt 1) q1.2).bind fun q5 => bd (pm_setI q5 l0 16 ((q5.2.1 l0 16) - (Int32.ofInt 1))) fun h6 => bd (pm_setI h6 l0 13 ((h6.2.1 l0 13) - (Int32.ofInt 1))) fun h7 => bd (pm_setI h7 l0 8 ((h7.2.1 l0 8) + (Int32.ofInt 1))) fun h8 => (m_settles l0 (Int32.ofInt 3) h8).bind fun q9 => some (.inl q9)))
theorem t_m_closes_5 (b : Bool) (L : Nat) (xs : Nat → Int32) (d : Nat) (hd : 2 ≤ d) {Q : Option Value → pm_H → Prop} (h : pm_H) (s_h : h.1 = tb_SH) (l0 : Nat) (f_l0 : mi_o l0 10 = true) {r : (pm_H ⊕ pm_H)} (hm : m_closes_5 l0 h = some r) (hE : E_m_closes_5 b L xs d Q l0 r) : PW b L xs d 174 0 0 5 [(Value.ref l0)] [] h Q := by
  rw [m_closes_5] at hm
  refine pw_l (pc := 5) d174_5 rfl rfl rfl ?_
  obtain ⟨q1, e_q1, hm⟩ := ob_x hm
  refine pw_v (pc := 6) (k := l0) (by omega) d174_6 (k174_87 b) (by decide) m155 (by decide) rfl (sho s_h f_l0) (Nat.le_of_ble_eq_true rfl) (Nat.le_of_ble_eq_true rfl) rfl rfl (T_m_see b L xs (d - 1) (by omega) h s_h l0 f_l0 e_q1) (fun v0 h0 hq => ?_)
  obtain ⟨rfl, hh0, s_q1⟩ := hq
  rw [hh0] at s_q1 ⊢
  simp only [Option.toList_some, List.cons_append, List.nil_append]
  refine pw_s (pc := 9) d174_9 rfl rfl ?_
  refine pw_ine (pc := 11) (t := 64) d174_11 (by decide) (fun c2 => ?_) (fun c2 => ?_)
  · rw [if_pos c2] at hm
    obtain rfl := Option.some.inj hm
    exact hE s_q1  (Value.ref l0)
  · rw [if_neg c2] at hm
    refine pw_l (pc := 14) d174_14 rfl rfl rfl ?_
    obtain ⟨q3, e_q3, hm⟩ := ob_x hm
    refine pw_v (pc := 15) (k := l0) (by omega) d174_15 (k174_189 b) (by decide) m173 (by decide) rfl (sho s_q1 f_l0) (Nat.le_of_ble_eq_true rfl) (Nat.le_of_ble_eq_true rfl) rfl rfl (T_m_isInside b L xs (d - 1) (by omega) q1.2 s_q1 l0 f_l0 e_q3) (fun v0 h0 hq => ?_)
    obtain ⟨rfl, hh0, s_q3⟩ := hq
    rw [hh0] at s_q3 ⊢
    simp only [Option.toList_some, List.cons_append, List.nil_append]
    refine pw_zeq (pc := 18) (t := 64) d174_18 (by decide) (fun c4 => ?_) (fun c4 => ?_)
    · rw [if_pos c4] at hm
      obtain rfl := Option.some.inj hm
      exact hE s_q1  (Value.ref l0)
    · rw [if_neg c4] at hm
      refine pw_l (pc := 21) d174_21 rfl rfl rfl ?_
      refine pw_s (pc := 22) d174_22 rfl rfl ?_
      obtain ⟨q5, e_q5, hm⟩ := ob_x hm
      refine pw_v (pc := 23) (k := l0) (by omega) d174_23 (k174_186 b) (by decide) m167 (by decide) rfl (sho s_q1 f_l0) (Nat.le_of_ble_eq_true rfl) (Nat.le_of_ble_eq_true rfl) rfl rfl (T_m_settles b L xs (d - 1) (by omega) q1.2 s_q1 l0 (Int32.ofInt 1) f_l0 e_q5) (fun v0 h0 hq => ?_)
      obtain ⟨rfl, hh0, s_q5⟩ := hq
      rw [hh0] at s_q5 ⊢
      simp only [Option.toList_none, List.nil_append]
      refine pw_l (pc := 26) d174_26 rfl rfl rfl ?_
      refine pw_s (pc := 27) d174_27 rfl rfl ?_
      refine pw_gi (pc := 28) d174_28 (k174_147 b) (sho s_q5 f_l0) f10_16 ?_
      refine pw_s (pc := 31) d174_31 rfl rfl ?_
      refine pw_s (pc := 32) d174_32 rfl rfl ?_
      refine pw_pi (pc := 33) d174_33 (k174_147 b) (sho s_q5 f_l0) p174_10_16 ?_
      obtain ⟨h6, e_h6, hm⟩ := bd_x hm
      rw [e_h6]
      have s_h6 : h6.1 = tb_SH := by rw [← e_h6]; exact s_q5
      refine pw_l (pc := 36) d174_36 rfl rfl rfl ?_
      refine pw_s (pc := 37) d174_37 rfl rfl ?_
      refine pw_gi (pc := 38) d174_38 (k174_144 b) (sho s_h6 f_l0) f10_13 ?_
      refine pw_s (pc := 41) d174_41 rfl rfl ?_
      refine pw_s (pc := 42) d174_42 rfl rfl ?_
      refine pw_pi (pc := 43) d174_43 (k174_144 b) (sho s_h6 f_l0) p174_10_13 ?_
      obtain ⟨h7, e_h7, hm⟩ := bd_x hm
      rw [e_h7]
      have s_h7 : h7.1 = tb_SH := by rw [← e_h7]; exact s_h6
      refine pw_l (pc := 46) d174_46 rfl rfl rfl ?_
      refine pw_s (pc := 47) d174_47 rfl rfl ?_
      refine pw_gi (pc := 48) d174_48 (k174_84 b) (sho s_h7 f_l0) f10_8 ?_
      refine pw_s (pc := 51) d174_51 rfl rfl ?_
      refine pw_s (pc := 52) d174_52 rfl rfl ?_
      refine pw_pi (pc := 53) d174_53 (k174_84 b) (sho s_h7 f_l0) p174_10_8 ?_
      obtain ⟨h8, e_h8, hm⟩ := bd_x hm
      rw [e_h8]
      have s_h8 : h8.1 = tb_SH := by rw [← e_h8]; exact s_h7
      refine pw_l (pc := 56) d174_56 rfl rfl rfl ?_
      refine pw_s (pc := 57) d174_57 rfl rfl ?_
      obtain ⟨q9, e_q9, hm⟩ := ob_x hm
      refine pw_v (pc := 58) (k := l0) (by omega) d174_58 (k174_186 b) (by decide) m167 (by decide) rfl (sho s_h8 f_l0) (Nat.le_of_ble_eq_true rfl) (Nat.le_of_ble_eq_true rfl) rfl rfl (T_m_settles b L xs (d - 1) (by omega) h8 s_h8 l0 (Int32.ofInt 3) f_l0 e_q9) (fun v0 h0 hq => ?_)
      obtain ⟨rfl, hh0, s_q9⟩ := hq
      rw [hh0] at s_q9 ⊢
      simp only [Option.toList_none, List.nil_append]
      refine pw_go (pc := 61) (t := 5) d174_61 (by decide) ?_
      obtain rfl := Option.some.inj hm
      exact hE s_q9  
noncomputable def m_closes (l0 : Nat) (h : pm_H) : Option pm_H := (m_settles l0 (Int32.ofInt 3) h).bind fun q1 => (wh (fun s : pm_H => m_closes_5 l0 s) q1).bind fun q2 => some q2
theorem T_m_closes (b : Bool) (L : Nat) (xs : Nat → Int32) (d : Nat) (hd : 2 ≤ d) (h : pm_H) (s_h : h.1 = tb_SH) (l0 : Nat) (f_l0 : mi_o l0 10 = true) {r : pm_H} (hm : m_closes l0 h = some r) : PC b L xs d 174 [(Value.ref l0)] h (fun (v0 : Option Value) (h2 : pm_H) => v0 = none ∧ h2 = r ∧ h2.1 = tb_SH) := by
  refine pc_in e174 (ls0 := [(Value.ref l0)]) rfl ?_
  have key : ∀ (Q : Option Value → pm_H → Prop), (r.1 = tb_SH → Q none r) → PW b L xs d 174 0 0 0 [(Value.ref l0)] [] h Q := by
    intro Q hE
    rw [m_closes] at hm
    refine pw_l (pc := 0) d174_0 rfl rfl rfl ?_
    refine pw_s (pc := 1) d174_1 rfl rfl ?_
    obtain ⟨q1, e_q1, hm⟩ := ob_x hm
    refine pw_v (pc := 2) (k := l0) (by omega) d174_2 (k174_186 b) (by decide) m167 (by decide) rfl (sho s_h f_l0) (Nat.le_of_ble_eq_true rfl) (Nat.le_of_ble_eq_true rfl) rfl rfl (T_m_settles b L xs (d - 1) (by omega) h s_h l0 (Int32.ofInt 3) f_l0 e_q1) (fun v0 h0 hq => ?_)
    obtain ⟨rfl, hh0, s_q1⟩ := hq
    rw [hh0] at s_q1 ⊢
    simp only [Option.toList_none, List.nil_append]
    obtain ⟨q2, e_q2, hm⟩ := ob_x hm
    refine wh_ind e_q2 (fun s : pm_H => s.1 = tb_SH → PW b L xs d 174 0 0 5 [(Value.ref l0)] [] s Q) (fun s s2 hf ih sx => t_m_closes_5 b L xs d hd s sx l0  f_l0 hf ih) (fun s hf sx => t_m_closes_5 b L xs d hd s sx l0  f_l0 hf ?_) s_q1  
    intro s_q2_0 w0
    obtain rfl := Option.some.inj hm
    refine pw_rv (pc := 64) d174_64 t174 ?_
    exact hE s_q2_0
  exact key _ (fun q => ⟨rfl, rfl, q⟩)
def E_m_tested_12 (b : Bool) (L : Nat) (xs : Nat → Int32) (d : Nat) (Q : Option Value → pm_H → Prop) (l0 : Nat) : ((Int32 × pm_H) ⊕ pm_H ⊕ pm_H) → Prop
  | .inl s => s.2.1 = tb_SH → ∀ w2 : Value, PW b L xs d 175 0 0 12 [(Value.ref l0), (Value.int s.1), w2] [] s.2 Q
  | .inr (.inl e) => e.1 = tb_SH → ∀ w0 w1 w2 : Value, PW b L xs d 175 0 0 23 [w0, w1, w2] [] e Q
  | .inr (.inr e) => e.1 = tb_SH → ∀ w1 w2 : Value, PW b L xs d 175 0 0 112 [(Value.ref l0), w1, w2] [] e Q
noncomputable def m_tested_76 (l0 : Nat) (l1 : Int32) (z0 : Int32) (h : pm_H) : Option ((Int32 × pm_H) ⊕ pm_H ⊕ pm_H) := (m_passWord l0 h).bind fun q1 => (m_strength z0 q1).bind fun q2 => (m_settles l0 q2 q1).bind fun q3 => (gA q3 l0 15 .int).bind fun y4 => if mi_in (q3.2.1 l0 16) (mi_n y4) = true then bd (pm_setI q3 y4 (q3.2.1 l0 16).toNatClampNeg z0) fun h6 => bd (pm_setI h6 l0 16 ((h6.2.1 l0 16) + (Int32.ofInt 1))) fun h7 => some (.inl (l1, h7)) else none
theorem t_m_tested_76 (b : Bool) (L : Nat) (xs : Nat → Int32) (d : Nat) (hd : 8 ≤ d) {Q : Option Value → pm_H → Prop} (h : pm_H) (s_h : h.1 = tb_SH) (l0 : Nat) (l1 : Int32) (z0 : Int32) (w2 : Value) (f_l0 : mi_o l0 10 = true) {r : ((Int32 × pm_H) ⊕ pm_H ⊕ pm_H)} (hm : m_tested_76 l0 l1 z0 h = some r) (hE : E_m_tested_12 b L xs d Q l0 r) : PW b L xs d 175 0 0 76 [(Value.ref l0), (Value.int l1), w2] [(Value.int z0)] h Q := by
  rw [m_tested_76] at hm
  refine pw_t (pc := 76) d175_76 rfl rfl rfl rfl ?_
  refine pw_l (pc := 77) d175_77 rfl rfl rfl ?_
  obtain ⟨q1, e_q1, hm⟩ := ob_x hm
  refine pw_v (pc := 78) (k := l0) (by omega) d175_78 (k175_99 b) (by decide) m159 (by decide) rfl (sho s_h f_l0) (Nat.le_of_ble_eq_true rfl) (Nat.le_of_ble_eq_true rfl) rfl rfl (T_m_passWord b L xs (d - 1) (by omega) h s_h l0 f_l0 e_q1) (fun v0 h0 hq => ?_)
  obtain ⟨rfl, hh0, s_q1⟩ := hq
  rw [hh0] at s_q1 ⊢
  simp only [Option.toList_none, List.nil_append]
  refine pw_l (pc := 81) d175_81 rfl rfl rfl ?_
  refine pw_l (pc := 82) d175_82 rfl rfl rfl ?_
  obtain ⟨q2, e_q2, hm⟩ := ob_x hm
  refine pw_u (pc := 83) (by omega) d175_83 (k175_150 b) (by decide) m166 (Nat.le_of_ble_eq_true rfl) (Nat.le_of_ble_eq_true rfl) (Nat.le_of_ble_eq_true rfl) rfl rfl (T_m_strength b L xs (d - 1) (by omega) q1 s_q1 z0  e_q2) (fun v0 h0 hq => ?_)
  obtain ⟨rfl, hh0, s_q2⟩ := hq
  rw [hh0] at s_q2 ⊢
  simp only [Option.toList_some, List.cons_append, List.nil_append]
  obtain ⟨q3, e_q3, hm⟩ := ob_x hm
  refine pw_v (pc := 86) (k := l0) (by omega) d175_86 (k175_186 b) (by decide) m167 (by decide) rfl (sho s_q1 f_l0) (Nat.le_of_ble_eq_true rfl) (Nat.le_of_ble_eq_true rfl) rfl rfl (T_m_settles b L xs (d - 1) (by omega) q1 s_q1 l0 q2 f_l0 e_q3) (fun v0 h0 hq => ?_)
  obtain ⟨rfl, hh0, s_q3⟩ := hq
  rw [hh0] at s_q3 ⊢
  simp only [Option.toList_none, List.nil_append]
  refine pw_l (pc := 89) d175_89 rfl rfl rfl ?_
  obtain ⟨y4, e_y4, hm⟩ := ob_x hm
  have f_y4 := gA_x e_y4
  refine pw_gr (pc := 90) d175_90 (k175_29 b) (sho s_q3 f_l0) f10_15 f_y4.1 ?_
  refine pw_l (pc := 93) d175_93 rfl rfl rfl ?_
  refine pw_gi (pc := 94) d175_94 (k175_147 b) (sho s_q3 f_l0) f10_16 ?_
  refine pw_l (pc := 97) d175_97 rfl rfl rfl ?_
  obtain ⟨g5, hm⟩ := gd_x hm
  refine pw_si (pc := 98) d175_98 (sha s_q3 f_y4.2) (mi_in_x g5) ?_
  obtain ⟨h6, e_h6, hm⟩ := bd_x hm
  rw [e_h6]
  have s_h6 : h6.1 = tb_SH := by rw [← e_h6]; exact s_q3
  refine pw_l (pc := 99) d175_99 rfl rfl rfl ?_
  refine pw_s (pc := 100) d175_100 rfl rfl ?_
  refine pw_gi (pc := 101) d175_101 (k175_147 b) (sho s_h6 f_l0) f10_16 ?_
  refine pw_s (pc := 104) d175_104 rfl rfl ?_
  refine pw_s (pc := 105) d175_105 rfl rfl ?_
  refine pw_pi (pc := 106) d175_106 (k175_147 b) (sho s_h6 f_l0) p175_10_16 ?_
  obtain ⟨h7, e_h7, hm⟩ := bd_x hm
  rw [e_h7]
  have s_h7 : h7.1 = tb_SH := by rw [← e_h7]; exact s_h6
  refine pw_go (pc := 109) (t := 12) d175_109 (by decide) ?_
  obtain rfl := Option.some.inj hm
  exact hE s_h7  (Value.int z0)
noncomputable def m_tested_54 (l0 : Nat) (z0 : Int32) (h : pm_H) : Option ((Int32 × pm_H) ⊕ pm_H ⊕ pm_H) := if z0 = 0 then (some (.inl (z0, h))) else ((m_isWord l0 (6385252 : Int64) h).bind fun q2 => if q2.1 = 0 then (m_tested_76 l0 z0 ((Int8.ofInt 13).toInt32) q2.2) else (m_tested_76 l0 z0 ((Int8.ofInt 12).toInt32) q2.2))
theorem t_m_tested_54 (b : Bool) (L : Nat) (xs : Nat → Int32) (d : Nat) (hd : 8 ≤ d) {Q : Option Value → pm_H → Prop} (h : pm_H) (s_h : h.1 = tb_SH) (l0 : Nat) (z0 : Int32) (w1 : Value) (w2 : Value) (f_l0 : mi_o l0 10 = true) {r : ((Int32 × pm_H) ⊕ pm_H ⊕ pm_H)} (hm : m_tested_54 l0 z0 h = some r) (hE : E_m_tested_12 b L xs d Q l0 r) : PW b L xs d 175 0 0 54 [(Value.ref l0), w1, w2] [(Value.int z0)] h Q := by
  rw [m_tested_54] at hm
  refine pw_t (pc := 54) d175_54 rfl rfl rfl rfl ?_
  refine pw_l (pc := 55) d175_55 rfl rfl rfl ?_
  refine pw_zeq (pc := 56) (t := 12) d175_56 (by decide) (fun c1 => ?_) (fun c1 => ?_)
  · rw [if_pos c1] at hm
    obtain rfl := Option.some.inj hm
    exact hE s_h  w2
  · rw [if_neg c1] at hm
    refine pw_l (pc := 59) d175_59 rfl rfl rfl ?_
    refine pw_cl (pc := 60) d175_60 (k175_198 b) ?_
    obtain ⟨q2, e_q2, hm⟩ := ob_x hm
    refine pw_v (pc := 63) (k := l0) (by omega) d175_63 (k175_95 b) (by decide) m158 (by decide) rfl (sho s_h f_l0) (Nat.le_of_ble_eq_true rfl) (Nat.le_of_ble_eq_true rfl) rfl rfl (T_m_isWord b L xs (d - 1) (by omega) h s_h l0 (6385252 : Int64) f_l0 e_q2) (fun v0 h0 hq => ?_)
    obtain ⟨rfl, hh0, s_q2⟩ := hq
    rw [hh0] at s_q2 ⊢
    simp only [Option.toList_some, List.cons_append, List.nil_append]
    refine pw_zeq (pc := 66) (t := 74) d175_66 (by decide) (fun c3 => ?_) (fun c3 => ?_)
    · rw [if_pos c3] at hm
      refine pw_s (pc := 74) d175_74 rfl rfl ?_
      exact t_m_tested_76 b L xs d hd q2.2 s_q2 l0 z0 ((Int8.ofInt 13).toInt32) w2 f_l0  hm hE
    · rw [if_neg c3] at hm
      refine pw_s (pc := 69) d175_69 rfl rfl ?_
      refine pw_go (pc := 71) (t := 76) d175_71 (by decide) ?_
      exact t_m_tested_76 b L xs d hd q2.2 s_q2 l0 z0 ((Int8.ofInt 12).toInt32) w2 f_l0  hm hE
noncomputable def m_tested_49 (l0 : Nat) (h : pm_H) : Option ((Int32 × pm_H) ⊕ pm_H ⊕ pm_H) := m_tested_54 l0 (Int32.ofInt 1) h
theorem t_m_tested_49 (b : Bool) (L : Nat) (xs : Nat → Int32) (d : Nat) (hd : 8 ≤ d) {Q : Option Value → pm_H → Prop} (h : pm_H) (s_h : h.1 = tb_SH) (l0 : Nat) (w1 : Value) (w2 : Value) (f_l0 : mi_o l0 10 = true) {r : ((Int32 × pm_H) ⊕ pm_H ⊕ pm_H)} (hm : m_tested_49 l0 h = some r) (hE : E_m_tested_12 b L xs d Q l0 r) : PW b L xs d 175 0 0 49 [(Value.ref l0), w1, w2] [] h Q := by
  rw [m_tested_49] at hm
  refine pw_s (pc := 49) d175_49 rfl rfl ?_
  refine pw_go (pc := 50) (t := 54) d175_50 (by decide) ?_
  exact t_m_tested_54 b L xs d hd h s_h l0 (Int32.ofInt 1) w1 w2 f_l0  hm hE
noncomputable def m_tested_12 (l0 : Nat) (l1 : Int32) (h : pm_H) : Option ((Int32 × pm_H) ⊕ pm_H ⊕ pm_H) := if l1 = 0 then (some (.inr (.inr h))) else ((m_fact l0 h).bind fun q2 => if ¬ q2.1 = 0 then ((m_closes l0 q2.2).bind fun q4 => (m_isWord l0 (6385252 : Int64) q4).bind fun q5 => if ¬ q5.1 = 0 then (m_tested_49 l0 q5.2) else ((m_isWord l0 (28530 : Int64) q5.2).bind fun q7 => if q7.1 = 0 then (m_tested_54 l0 (Int32.ofInt 0) q7.2) else (m_tested_49 l0 q7.2))) else (some (.inr (.inl q2.2))))
theorem t_m_tested_12 (b : Bool) (L : Nat) (xs : Nat → Int32) (d : Nat) (hd : 8 ≤ d) {Q : Option Value → pm_H → Prop} (h : pm_H) (s_h : h.1 = tb_SH) (l0 : Nat) (l1 : Int32) (w2 : Value) (f_l0 : mi_o l0 10 = true) {r : ((Int32 × pm_H) ⊕ pm_H ⊕ pm_H)} (hm : m_tested_12 l0 l1 h = some r) (hE : E_m_tested_12 b L xs d Q l0 r) : PW b L xs d 175 0 0 12 [(Value.ref l0), (Value.int l1), w2] [] h Q := by
  rw [m_tested_12] at hm
  refine pw_l (pc := 12) d175_12 rfl rfl rfl ?_
  refine pw_zeq (pc := 13) (t := 112) d175_13 (by decide) (fun c1 => ?_) (fun c1 => ?_)
  · rw [if_pos c1] at hm
    obtain rfl := Option.some.inj hm
    exact hE s_h  (Value.int l1) w2
  · rw [if_neg c1] at hm
    refine pw_l (pc := 16) d175_16 rfl rfl rfl ?_
    obtain ⟨q2, e_q2, hm⟩ := ob_x hm
    refine pw_v (pc := 17) (k := l0) (by omega) d175_17 (k175_192 b) (by decide) m172 (by decide) rfl (sho s_h f_l0) (Nat.le_of_ble_eq_true rfl) (Nat.le_of_ble_eq_true rfl) rfl rfl (T_m_fact b L xs (d - 1) (by omega) h s_h l0 f_l0 e_q2) (fun v0 h0 hq => ?_)
    obtain ⟨rfl, hh0, s_q2⟩ := hq
    rw [hh0] at s_q2 ⊢
    simp only [Option.toList_some, List.cons_append, List.nil_append]
    refine pw_zne (pc := 20) (t := 25) d175_20 (by decide) (fun c3 => ?_) (fun c3 => ?_)
    · rw [if_pos c3] at hm
      refine pw_l (pc := 25) d175_25 rfl rfl rfl ?_
      obtain ⟨q4, e_q4, hm⟩ := ob_x hm
      refine pw_v (pc := 26) (k := l0) (by omega) d175_26 (k175_195 b) (by decide) m174 (by decide) rfl (sho s_q2 f_l0) (Nat.le_of_ble_eq_true rfl) (Nat.le_of_ble_eq_true rfl) rfl rfl (T_m_closes b L xs (d - 1) (by omega) q2.2 s_q2 l0 f_l0 e_q4) (fun v0 h0 hq => ?_)
      obtain ⟨rfl, hh0, s_q4⟩ := hq
      rw [hh0] at s_q4 ⊢
      simp only [Option.toList_none, List.nil_append]
      refine pw_l (pc := 29) d175_29 rfl rfl rfl ?_
      refine pw_cl (pc := 30) d175_30 (k175_198 b) ?_
      obtain ⟨q5, e_q5, hm⟩ := ob_x hm
      refine pw_v (pc := 33) (k := l0) (by omega) d175_33 (k175_95 b) (by decide) m158 (by decide) rfl (sho s_q4 f_l0) (Nat.le_of_ble_eq_true rfl) (Nat.le_of_ble_eq_true rfl) rfl rfl (T_m_isWord b L xs (d - 1) (by omega) q4 s_q4 l0 (6385252 : Int64) f_l0 e_q5) (fun v0 h0 hq => ?_)
      obtain ⟨rfl, hh0, s_q5⟩ := hq
      rw [hh0] at s_q5 ⊢
      simp only [Option.toList_some, List.cons_append, List.nil_append]
      refine pw_zne (pc := 36) (t := 49) d175_36 (by decide) (fun c6 => ?_) (fun c6 => ?_)
      · rw [if_pos c6] at hm
        exact t_m_tested_49 b L xs d hd q5.2 s_q5 l0 (Value.int l1) w2 f_l0  hm hE
      · rw [if_neg c6] at hm
        refine pw_l (pc := 39) d175_39 rfl rfl rfl ?_
        refine pw_cl (pc := 40) d175_40 (k175_200 b) ?_
        obtain ⟨q7, e_q7, hm⟩ := ob_x hm
        refine pw_v (pc := 43) (k := l0) (by omega) d175_43 (k175_95 b) (by decide) m158 (by decide) rfl (sho s_q5 f_l0) (Nat.le_of_ble_eq_true rfl) (Nat.le_of_ble_eq_true rfl) rfl rfl (T_m_isWord b L xs (d - 1) (by omega) q5.2 s_q5 l0 (28530 : Int64) f_l0 e_q7) (fun v0 h0 hq => ?_)
        obtain ⟨rfl, hh0, s_q7⟩ := hq
        rw [hh0] at s_q7 ⊢
        simp only [Option.toList_some, List.cons_append, List.nil_append]
        refine pw_zeq (pc := 46) (t := 53) d175_46 (by decide) (fun c8 => ?_) (fun c8 => ?_)
        · rw [if_pos c8] at hm
          refine pw_s (pc := 53) d175_53 rfl rfl ?_
          exact t_m_tested_54 b L xs d hd q7.2 s_q7 l0 (Int32.ofInt 0) (Value.int l1) w2 f_l0  hm hE
        · rw [if_neg c8] at hm
          exact t_m_tested_49 b L xs d hd q7.2 s_q7 l0 (Value.int l1) w2 f_l0  hm hE
    · rw [if_neg c3] at hm
      obtain rfl := Option.some.inj hm
      exact hE s_q2  (Value.ref l0) (Value.int l1) w2
noncomputable def m_tested (l0 : Nat) (h : pm_H) : Option (Int32 × pm_H) := bd (pm_setI h l0 16 (Int32.ofInt 0)) fun h1 => bd (pm_setI h1 l0 13 (Int32.ofInt 0)) fun h2 => (wh (fun s : (Int32 × pm_H) => m_tested_12 l0 s.1 s.2) ((Int32.ofInt 1), h2)).bind fun q3 => (match q3 with | (.inl eq3_0) => some ((Int32.ofInt 0), eq3_0) | (.inr eq3_1) => (m_isInside l0 eq3_1).bind fun q4 => if q4 = 0 then ((m_settles l0 (Int32.ofInt 1) eq3_1).bind fun q6 => some ((Int32.ofInt 1), q6)) else ((m_see l0 eq3_1).bind fun q7 => (m_fails l0 (Int32.ofInt 0) (q7.2.2.1 l0 8) q7.2).bind fun q8 => if mi_bo q8.1 = true then some (q8.1, q8.2) else none))
theorem T_m_tested (b : Bool) (L : Nat) (xs : Nat → Int32) (d : Nat) (hd : 8 ≤ d) (h : pm_H) (s_h : h.1 = tb_SH) (l0 : Nat) (f_l0 : mi_o l0 10 = true) {r : (Int32 × pm_H)} (hm : m_tested l0 h = some r) : PC b L xs d 175 [(Value.ref l0)] h (fun (v0 : Option Value) (h2 : pm_H) => v0 = (some (Value.int r.1)) ∧ h2 = r.2 ∧ h2.1 = tb_SH) := by
  refine pc_in e175 (ls0 := [(Value.ref l0), Value.retAddr 0, Value.retAddr 0]) rfl ?_
  have key : ∀ (Q : Option Value → pm_H → Prop), (r.2.1 = tb_SH → Q (some (Value.int r.1)) r.2) → PW b L xs d 175 0 0 0 [(Value.ref l0), Value.retAddr 0, Value.retAddr 0] [] h Q := by
    intro Q hE
    rw [m_tested] at hm
    refine pw_l (pc := 0) d175_0 rfl rfl rfl ?_
    refine pw_s (pc := 1) d175_1 rfl rfl ?_
    refine pw_pi (pc := 2) d175_2 (k175_147 b) (sho s_h f_l0) p175_10_16 ?_
    obtain ⟨h1, e_h1, hm⟩ := bd_x hm
    rw [e_h1]
    have s_h1 : h1.1 = tb_SH := by rw [← e_h1]; exact s_h
    refine pw_l (pc := 5) d175_5 rfl rfl rfl ?_
    refine pw_s (pc := 6) d175_6 rfl rfl ?_
    refine pw_pi (pc := 7) d175_7 (k175_144 b) (sho s_h1 f_l0) p175_10_13 ?_
    obtain ⟨h2, e_h2, hm⟩ := bd_x hm
    rw [e_h2]
    have s_h2 : h2.1 = tb_SH := by rw [← e_h2]; exact s_h1
    refine pw_s (pc := 10) d175_10 rfl rfl ?_
    refine pw_t (pc := 11) d175_11 rfl rfl rfl rfl ?_
    obtain ⟨q3, e_q3, hm⟩ := ob_x hm
    refine wh_ind e_q3 (fun s : (Int32 × pm_H) => s.2.1 = tb_SH → ∀ w2 : Value, PW b L xs d 175 0 0 12 [(Value.ref l0), (Value.int s.1), w2] [] s.2 Q) (fun s s2 hf ih sx w2 => t_m_tested_12 b L xs d hd s.2 sx l0 s.1 w2 f_l0 hf ih) (fun s hf sx w2 => t_m_tested_12 b L xs d hd s.2 sx l0 s.1 w2 f_l0 hf ?_) s_h2  (Value.retAddr 0)
    rcases q3 with eq3_0 | eq3_1
    · dsimp only at hm
      intro s_q3_0 w0 w1 w2
      refine pw_s (pc := 23) d175_23 rfl rfl ?_
      obtain rfl := Option.some.inj hm
      refine pw_ri (pc := 24) d175_24 t175 rfl ?_
      exact hE s_q3_0
    · dsimp only at hm
      intro s_q3_1 w1 w2
      refine pw_l (pc := 112) d175_112 rfl rfl rfl ?_
      obtain ⟨q4, e_q4, hm⟩ := ob_x hm
      refine pw_v (pc := 113) (k := l0) (by omega) d175_113 (k175_189 b) (by decide) m173 (by decide) rfl (sho s_q3_1 f_l0) (Nat.le_of_ble_eq_true rfl) (Nat.le_of_ble_eq_true rfl) rfl rfl (T_m_isInside b L xs (d - 1) (by omega) eq3_1 s_q3_1 l0 f_l0 e_q4) (fun v0 h0 hq => ?_)
      obtain ⟨rfl, hh0, s_q4⟩ := hq
      rw [hh0] at s_q4 ⊢
      simp only [Option.toList_some, List.cons_append, List.nil_append]
      refine pw_zeq (pc := 116) (t := 134) d175_116 (by decide) (fun c5 => ?_) (fun c5 => ?_)
      · rw [if_pos c5] at hm
        refine pw_l (pc := 134) d175_134 rfl rfl rfl ?_
        refine pw_s (pc := 135) d175_135 rfl rfl ?_
        obtain ⟨q6, e_q6, hm⟩ := ob_x hm
        refine pw_v (pc := 136) (k := l0) (by omega) d175_136 (k175_186 b) (by decide) m167 (by decide) rfl (sho s_q3_1 f_l0) (Nat.le_of_ble_eq_true rfl) (Nat.le_of_ble_eq_true rfl) rfl rfl (T_m_settles b L xs (d - 1) (by omega) eq3_1 s_q3_1 l0 (Int32.ofInt 1) f_l0 e_q6) (fun v0 h0 hq => ?_)
        obtain ⟨rfl, hh0, s_q6⟩ := hq
        rw [hh0] at s_q6 ⊢
        simp only [Option.toList_none, List.nil_append]
        refine pw_s (pc := 139) d175_139 rfl rfl ?_
        obtain rfl := Option.some.inj hm
        refine pw_ri (pc := 140) d175_140 t175 rfl ?_
        exact hE s_q6
      · rw [if_neg c5] at hm
        refine pw_l (pc := 119) d175_119 rfl rfl rfl ?_
        obtain ⟨q7, e_q7, hm⟩ := ob_x hm
        refine pw_v (pc := 120) (k := l0) (by omega) d175_120 (k175_87 b) (by decide) m155 (by decide) rfl (sho s_q3_1 f_l0) (Nat.le_of_ble_eq_true rfl) (Nat.le_of_ble_eq_true rfl) rfl rfl (T_m_see b L xs (d - 1) (by omega) eq3_1 s_q3_1 l0 f_l0 e_q7) (fun v0 h0 hq => ?_)
        obtain ⟨rfl, hh0, s_q7⟩ := hq
        rw [hh0] at s_q7 ⊢
        simp only [Option.toList_some, List.cons_append, List.nil_append]
        refine pw_s (pc := 123) d175_123 rfl rfl ?_
        refine pw_l (pc := 124) d175_124 rfl rfl rfl ?_
        refine pw_s (pc := 125) d175_125 rfl rfl ?_
        refine pw_l (pc := 126) d175_126 rfl rfl rfl ?_
        refine pw_gi (pc := 127) d175_127 (k175_84 b) (sho s_q7 f_l0) f10_8 ?_
        obtain ⟨q8, e_q8, hm⟩ := ob_x hm
        refine pw_v (pc := 130) (k := l0) (by omega) d175_130 (k175_105 b) (by decide) m154 (by decide) rfl (sho s_q7 f_l0) (Nat.le_of_ble_eq_true rfl) (Nat.le_of_ble_eq_true rfl) rfl rfl (T_m_fails b L xs (d - 1) (by omega) q7.2 s_q7 l0 (Int32.ofInt 0) (q7.2.2.1 l0 8) f_l0 e_q8) (fun v0 h0 hq => ?_)
        obtain ⟨rfl, hh0, s_q8⟩ := hq
        rw [hh0] at s_q8 ⊢
        simp only [Option.toList_some, List.cons_append, List.nil_append]
        obtain ⟨g9, hm⟩ := gd_x hm
        obtain rfl := Option.some.inj hm
        refine pw_ri (pc := 133) d175_133 t175 (pm_nz (mi_bo_x g9)) ?_
        exact hE s_q8
  exact key _ (fun q => ⟨rfl, rfl, q⟩)
noncomputable def m_isWakeHere_110 (l0 : Nat) (l1 : Int32) (h : pm_H) : Option (Int32 × pm_H) := (gA h l0 5 .int).bind fun y1 => (gA h l0 4 .int).bind fun y2 => if mi_in (h.2.1 l0 11) (mi_n y2) = true then if mi_in (l1 + (Int32.ofInt 3)) (mi_n y1) = true then bd (pm_setI h y1 (l1 + (Int32.ofInt 3)).toNatClampNeg (h.2.1 y2 (h.2.1 l0 11).toNatClampNeg)) fun h5 => (gA h5 l0 6 .int).bind fun y6 => if mi_in (h5.2.1 l0 11) (mi_n y6) = true then if mi_in (h5.2.1 l0 11) (mi_n y6) = true then bd (pm_setI h5 y6 (h5.2.1 l0 11).toNatClampNeg ((h5.2.1 y6 (h5.2.1 l0 11).toNatClampNeg) + (Int32.ofInt 1))) fun h9 => some ((Int32.ofInt 1), h9) else none else none else none else none
theorem t_m_isWakeHere_110 (b : Bool) (L : Nat) (xs : Nat → Int32) (d : Nat) (hd : 9 ≤ d) {Q : Option Value → pm_H → Prop} (h : pm_H) (s_h : h.1 = tb_SH) (l0 : Nat) (l1 : Int32) (f_l0 : mi_o l0 10 = true) {r : (Int32 × pm_H)} (hm : m_isWakeHere_110 l0 l1 h = some r) (hE : r.2.1 = tb_SH → Q (some (Value.int r.1)) r.2) : PW b L xs d 176 0 0 110 [(Value.ref l0), (Value.int l1)] [] h Q := by
  rw [m_isWakeHere_110] at hm
  refine pw_l (pc := 110) d176_110 rfl rfl rfl ?_
  obtain ⟨y1, e_y1, hm⟩ := ob_x hm
  have f_y1 := gA_x e_y1
  refine pw_gr (pc := 111) d176_111 (k176_20 b) (sho s_h f_l0) f10_5 f_y1.1 ?_
  refine pw_l (pc := 114) d176_114 rfl rfl rfl ?_
  refine pw_s (pc := 115) d176_115 rfl rfl ?_
  refine pw_s (pc := 116) d176_116 rfl rfl ?_
  refine pw_l (pc := 117) d176_117 rfl rfl rfl ?_
  obtain ⟨y2, e_y2, hm⟩ := ob_x hm
  have f_y2 := gA_x e_y2
  refine pw_gr (pc := 118) d176_118 (k176_17 b) (sho s_h f_l0) f10_4 f_y2.1 ?_
  refine pw_l (pc := 121) d176_121 rfl rfl rfl ?_
  refine pw_gi (pc := 122) d176_122 (k176_138 b) (sho s_h f_l0) f10_11 ?_
  obtain ⟨g3, hm⟩ := gd_x hm
  refine pw_ai (pc := 125) d176_125 (sha s_h f_y2.2) (mi_in_x g3) ?_
  obtain ⟨g4, hm⟩ := gd_x hm
  refine pw_si (pc := 126) d176_126 (sha s_h f_y1.2) (mi_in_x g4) ?_
  obtain ⟨h5, e_h5, hm⟩ := bd_x hm
  rw [e_h5]
  have s_h5 : h5.1 = tb_SH := by rw [← e_h5]; exact s_h
  refine pw_l (pc := 127) d176_127 rfl rfl rfl ?_
  obtain ⟨y6, e_y6, hm⟩ := ob_x hm
  have f_y6 := gA_x e_y6
  refine pw_gr (pc := 128) d176_128 (k176_23 b) (sho s_h5 f_l0) f10_6 f_y6.1 ?_
  refine pw_l (pc := 131) d176_131 rfl rfl rfl ?_
  refine pw_gi (pc := 132) d176_132 (k176_138 b) (sho s_h5 f_l0) f10_11 ?_
  refine pw_s (pc := 135) d176_135 rfl rfl ?_
  obtain ⟨g7, hm⟩ := gd_x hm
  refine pw_ai (pc := 136) d176_136 (sha s_h5 f_y6.2) (mi_in_x g7) ?_
  refine pw_s (pc := 137) d176_137 rfl rfl ?_
  refine pw_s (pc := 138) d176_138 rfl rfl ?_
  obtain ⟨g8, hm⟩ := gd_x hm
  refine pw_si (pc := 139) d176_139 (sha s_h5 f_y6.2) (mi_in_x g8) ?_
  obtain ⟨h9, e_h9, hm⟩ := bd_x hm
  rw [e_h9]
  have s_h9 : h9.1 = tb_SH := by rw [← e_h9]; exact s_h5
  refine pw_s (pc := 140) d176_140 rfl rfl ?_
  obtain rfl := Option.some.inj hm
  refine pw_ri (pc := 141) d176_141 t176 rfl ?_
  exact hE s_h9
noncomputable def m_isWakeHere (l0 : Nat) (h : pm_H) : Option (Int32 × pm_H) := (m_passWord l0 h).bind fun q1 => (gA q1 l0 6 .int).bind fun y2 => if mi_in (q1.2.1 l0 11) (mi_n y2) = true then (gA q1 l0 5 .int).bind fun y4 => (gA q1 l0 4 .int).bind fun y5 => if mi_in (q1.2.1 l0 11) (mi_n y5) = true then if mi_in (((Int8.ofInt 48).toInt32 * (q1.2.1 l0 11)) + ((Int32.ofInt 4) * (q1.2.1 y2 (q1.2.1 l0 11).toNatClampNeg))) (mi_n y4) = true then bd (pm_setI q1 y4 (((Int8.ofInt 48).toInt32 * (q1.2.1 l0 11)) + ((Int32.ofInt 4) * (q1.2.1 y2 (q1.2.1 l0 11).toNatClampNeg))).toNatClampNeg (q1.2.1 y5 (q1.2.1 l0 11).toNatClampNeg)) fun h8 => (m_sum l0 h8).bind fun q9 => if ¬ q9.1 = 0 then ((gA q9.2 l0 5 .int).bind fun y11 => (gA q9.2 l0 4 .int).bind fun y12 => if mi_in (q9.2.2.1 l0 11) (mi_n y12) = true then if mi_in ((((Int8.ofInt 48).toInt32 * (q1.2.1 l0 11)) + ((Int32.ofInt 4) * (q1.2.1 y2 (q1.2.1 l0 11).toNatClampNeg))) + (Int32.ofInt 1)) (mi_n y11) = true then bd (pm_setI q9.2 y11 ((((Int8.ofInt 48).toInt32 * (q1.2.1 l0 11)) + ((Int32.ofInt 4) * (q1.2.1 y2 (q1.2.1 l0 11).toNatClampNeg))) + (Int32.ofInt 1)).toNatClampNeg (q9.2.2.1 y12 (q9.2.2.1 l0 11).toNatClampNeg)) fun h15 => (gA h15 l0 5 .int).bind fun y16 => if mi_in ((((Int8.ofInt 48).toInt32 * (q1.2.1 l0 11)) + ((Int32.ofInt 4) * (q1.2.1 y2 (q1.2.1 l0 11).toNatClampNeg))) + (Int32.ofInt 2)) (mi_n y16) = true then bd (pm_setI h15 y16 ((((Int8.ofInt 48).toInt32 * (q1.2.1 l0 11)) + ((Int32.ofInt 4) * (q1.2.1 y2 (q1.2.1 l0 11).toNatClampNeg))) + (Int32.ofInt 2)).toNatClampNeg (Int32.ofInt (-1))) fun h18 => (m_takesWord l0 (26982 : Int64) h18).bind fun q19 => if q19.1 = 0 then (m_isWakeHere_110 l0 (((Int8.ofInt 48).toInt32 * (q1.2.1 l0 11)) + ((Int32.ofInt 4) * (q1.2.1 y2 (q1.2.1 l0 11).toNatClampNeg))) q19.2) else ((gA q19.2 l0 5 .int).bind fun y21 => (gA q19.2 l0 4 .int).bind fun y22 => if mi_in (q19.2.2.1 l0 11) (mi_n y22) = true then if mi_in ((((Int8.ofInt 48).toInt32 * (q1.2.1 l0 11)) + ((Int32.ofInt 4) * (q1.2.1 y2 (q1.2.1 l0 11).toNatClampNeg))) + (Int32.ofInt 2)) (mi_n y21) = true then bd (pm_setI q19.2 y21 ((((Int8.ofInt 48).toInt32 * (q1.2.1 l0 11)) + ((Int32.ofInt 4) * (q1.2.1 y2 (q1.2.1 l0 11).toNatClampNeg))) + (Int32.ofInt 2)).toNatClampNeg (q19.2.2.1 y22 (q19.2.2.1 l0 11).toNatClampNeg)) fun h25 => (m_tested l0 h25).bind fun q26 => if ¬ q26.1 = 0 then (m_isWakeHere_110 l0 (((Int8.ofInt 48).toInt32 * (q1.2.1 l0 11)) + ((Int32.ofInt 4) * (q1.2.1 y2 (q1.2.1 l0 11).toNatClampNeg))) q26.2) else (some ((Int32.ofInt 0), q26.2)) else none else none) else none else none else none) else (some ((Int32.ofInt 0), q9.2)) else none else none else none
theorem T_m_isWakeHere (b : Bool) (L : Nat) (xs : Nat → Int32) (d : Nat) (hd : 9 ≤ d) (h : pm_H) (s_h : h.1 = tb_SH) (l0 : Nat) (f_l0 : mi_o l0 10 = true) {r : (Int32 × pm_H)} (hm : m_isWakeHere l0 h = some r) : PC b L xs d 176 [(Value.ref l0)] h (fun (v0 : Option Value) (h2 : pm_H) => v0 = (some (Value.int r.1)) ∧ h2 = r.2 ∧ h2.1 = tb_SH) := by
  refine pc_in e176 (ls0 := [(Value.ref l0), Value.retAddr 0]) rfl ?_
  have key : ∀ (Q : Option Value → pm_H → Prop), (r.2.1 = tb_SH → Q (some (Value.int r.1)) r.2) → PW b L xs d 176 0 0 0 [(Value.ref l0), Value.retAddr 0] [] h Q := by
    intro Q hE
    rw [m_isWakeHere] at hm
    refine pw_l (pc := 0) d176_0 rfl rfl rfl ?_
    obtain ⟨q1, e_q1, hm⟩ := ob_x hm
    refine pw_v (pc := 1) (k := l0) (by omega) d176_1 (k176_99 b) (by decide) m159 (by decide) rfl (sho s_h f_l0) (Nat.le_of_ble_eq_true rfl) (Nat.le_of_ble_eq_true rfl) rfl rfl (T_m_passWord b L xs (d - 1) (by omega) h s_h l0 f_l0 e_q1) (fun v0 h0 hq => ?_)
    obtain ⟨rfl, hh0, s_q1⟩ := hq
    rw [hh0] at s_q1 ⊢
    simp only [Option.toList_none, List.nil_append]
    refine pw_s (pc := 4) d176_4 rfl rfl ?_
    refine pw_l (pc := 6) d176_6 rfl rfl rfl ?_
    refine pw_gi (pc := 7) d176_7 (k176_138 b) (sho s_q1 f_l0) f10_11 ?_
    refine pw_s (pc := 10) d176_10 rfl rfl ?_
    refine pw_s (pc := 11) d176_11 rfl rfl ?_
    refine pw_l (pc := 12) d176_12 rfl rfl rfl ?_
    obtain ⟨y2, e_y2, hm⟩ := ob_x hm
    have f_y2 := gA_x e_y2
    refine pw_gr (pc := 13) d176_13 (k176_23 b) (sho s_q1 f_l0) f10_6 f_y2.1 ?_
    refine pw_l (pc := 16) d176_16 rfl rfl rfl ?_
    refine pw_gi (pc := 17) d176_17 (k176_138 b) (sho s_q1 f_l0) f10_11 ?_
    obtain ⟨g3, hm⟩ := gd_x hm
    refine pw_ai (pc := 20) d176_20 (sha s_q1 f_y2.2) (mi_in_x g3) ?_
    refine pw_s (pc := 21) d176_21 rfl rfl ?_
    refine pw_s (pc := 22) d176_22 rfl rfl ?_
    refine pw_t (pc := 23) d176_23 rfl rfl rfl rfl ?_
    refine pw_l (pc := 24) d176_24 rfl rfl rfl ?_
    obtain ⟨y4, e_y4, hm⟩ := ob_x hm
    have f_y4 := gA_x e_y4
    refine pw_gr (pc := 25) d176_25 (k176_20 b) (sho s_q1 f_l0) f10_5 f_y4.1 ?_
    refine pw_l (pc := 28) d176_28 rfl rfl rfl ?_
    refine pw_l (pc := 29) d176_29 rfl rfl rfl ?_
    obtain ⟨y5, e_y5, hm⟩ := ob_x hm
    have f_y5 := gA_x e_y5
    refine pw_gr (pc := 30) d176_30 (k176_17 b) (sho s_q1 f_l0) f10_4 f_y5.1 ?_
    refine pw_l (pc := 33) d176_33 rfl rfl rfl ?_
    refine pw_gi (pc := 34) d176_34 (k176_138 b) (sho s_q1 f_l0) f10_11 ?_
    obtain ⟨g6, hm⟩ := gd_x hm
    refine pw_ai (pc := 37) d176_37 (sha s_q1 f_y5.2) (mi_in_x g6) ?_
    obtain ⟨g7, hm⟩ := gd_x hm
    refine pw_si (pc := 38) d176_38 (sha s_q1 f_y4.2) (mi_in_x g7) ?_
    obtain ⟨h8, e_h8, hm⟩ := bd_x hm
    rw [e_h8]
    have s_h8 : h8.1 = tb_SH := by rw [← e_h8]; exact s_q1
    refine pw_l (pc := 39) d176_39 rfl rfl rfl ?_
    obtain ⟨q9, e_q9, hm⟩ := ob_x hm
    refine pw_v (pc := 40) (k := l0) (by omega) d176_40 (k176_175 b) (by decide) m170 (by decide) rfl (sho s_h8 f_l0) (Nat.le_of_ble_eq_true rfl) (Nat.le_of_ble_eq_true rfl) rfl rfl (T_m_sum b L xs (d - 1) (by omega) h8 s_h8 l0 f_l0 e_q9) (fun v0 h0 hq => ?_)
    obtain ⟨rfl, hh0, s_q9⟩ := hq
    rw [hh0] at s_q9 ⊢
    simp only [Option.toList_some, List.cons_append, List.nil_append]
    refine pw_zne (pc := 43) (t := 48) d176_43 (by decide) (fun c10 => ?_) (fun c10 => ?_)
    · rw [if_pos c10] at hm
      refine pw_l (pc := 48) d176_48 rfl rfl rfl ?_
      obtain ⟨y11, e_y11, hm⟩ := ob_x hm
      have f_y11 := gA_x e_y11
      refine pw_gr (pc := 49) d176_49 (k176_20 b) (sho s_q9 f_l0) f10_5 f_y11.1 ?_
      refine pw_l (pc := 52) d176_52 rfl rfl rfl ?_
      refine pw_s (pc := 53) d176_53 rfl rfl ?_
      refine pw_s (pc := 54) d176_54 rfl rfl ?_
      refine pw_l (pc := 55) d176_55 rfl rfl rfl ?_
      obtain ⟨y12, e_y12, hm⟩ := ob_x hm
      have f_y12 := gA_x e_y12
      refine pw_gr (pc := 56) d176_56 (k176_17 b) (sho s_q9 f_l0) f10_4 f_y12.1 ?_
      refine pw_l (pc := 59) d176_59 rfl rfl rfl ?_
      refine pw_gi (pc := 60) d176_60 (k176_138 b) (sho s_q9 f_l0) f10_11 ?_
      obtain ⟨g13, hm⟩ := gd_x hm
      refine pw_ai (pc := 63) d176_63 (sha s_q9 f_y12.2) (mi_in_x g13) ?_
      obtain ⟨g14, hm⟩ := gd_x hm
      refine pw_si (pc := 64) d176_64 (sha s_q9 f_y11.2) (mi_in_x g14) ?_
      obtain ⟨h15, e_h15, hm⟩ := bd_x hm
      rw [e_h15]
      have s_h15 : h15.1 = tb_SH := by rw [← e_h15]; exact s_q9
      refine pw_l (pc := 65) d176_65 rfl rfl rfl ?_
      obtain ⟨y16, e_y16, hm⟩ := ob_x hm
      have f_y16 := gA_x e_y16
      refine pw_gr (pc := 66) d176_66 (k176_20 b) (sho s_h15 f_l0) f10_5 f_y16.1 ?_
      refine pw_l (pc := 69) d176_69 rfl rfl rfl ?_
      refine pw_s (pc := 70) d176_70 rfl rfl ?_
      refine pw_s (pc := 71) d176_71 rfl rfl ?_
      refine pw_s (pc := 72) d176_72 rfl rfl ?_
      obtain ⟨g17, hm⟩ := gd_x hm
      refine pw_si (pc := 73) d176_73 (sha s_h15 f_y16.2) (mi_in_x g17) ?_
      obtain ⟨h18, e_h18, hm⟩ := bd_x hm
      rw [e_h18]
      have s_h18 : h18.1 = tb_SH := by rw [← e_h18]; exact s_h15
      refine pw_l (pc := 74) d176_74 rfl rfl rfl ?_
      refine pw_cl (pc := 75) d176_75 (k176_202 b) ?_
      obtain ⟨q19, e_q19, hm⟩ := ob_x hm
      refine pw_v (pc := 78) (k := l0) (by omega) d176_78 (k176_204 b) (by decide) m160 (by decide) rfl (sho s_h18 f_l0) (Nat.le_of_ble_eq_true rfl) (Nat.le_of_ble_eq_true rfl) rfl rfl (T_m_takesWord b L xs (d - 1) (by omega) h18 s_h18 l0 (26982 : Int64) f_l0 e_q19) (fun v0 h0 hq => ?_)
      obtain ⟨rfl, hh0, s_q19⟩ := hq
      rw [hh0] at s_q19 ⊢
      simp only [Option.toList_some, List.cons_append, List.nil_append]
      refine pw_zeq (pc := 81) (t := 110) d176_81 (by decide) (fun c20 => ?_) (fun c20 => ?_)
      · rw [if_pos c20] at hm
        exact t_m_isWakeHere_110 b L xs d hd q19.2 s_q19 l0 (((Int8.ofInt 48).toInt32 * (q1.2.1 l0 11)) + ((Int32.ofInt 4) * (q1.2.1 y2 (q1.2.1 l0 11).toNatClampNeg)))  f_l0  hm hE
      · rw [if_neg c20] at hm
        refine pw_l (pc := 84) d176_84 rfl rfl rfl ?_
        obtain ⟨y21, e_y21, hm⟩ := ob_x hm
        have f_y21 := gA_x e_y21
        refine pw_gr (pc := 85) d176_85 (k176_20 b) (sho s_q19 f_l0) f10_5 f_y21.1 ?_
        refine pw_l (pc := 88) d176_88 rfl rfl rfl ?_
        refine pw_s (pc := 89) d176_89 rfl rfl ?_
        refine pw_s (pc := 90) d176_90 rfl rfl ?_
        refine pw_l (pc := 91) d176_91 rfl rfl rfl ?_
        obtain ⟨y22, e_y22, hm⟩ := ob_x hm
        have f_y22 := gA_x e_y22
        refine pw_gr (pc := 92) d176_92 (k176_17 b) (sho s_q19 f_l0) f10_4 f_y22.1 ?_
        refine pw_l (pc := 95) d176_95 rfl rfl rfl ?_
        refine pw_gi (pc := 96) d176_96 (k176_138 b) (sho s_q19 f_l0) f10_11 ?_
        obtain ⟨g23, hm⟩ := gd_x hm
        refine pw_ai (pc := 99) d176_99 (sha s_q19 f_y22.2) (mi_in_x g23) ?_
        obtain ⟨g24, hm⟩ := gd_x hm
        refine pw_si (pc := 100) d176_100 (sha s_q19 f_y21.2) (mi_in_x g24) ?_
        obtain ⟨h25, e_h25, hm⟩ := bd_x hm
        rw [e_h25]
        have s_h25 : h25.1 = tb_SH := by rw [← e_h25]; exact s_q19
        refine pw_l (pc := 101) d176_101 rfl rfl rfl ?_
        obtain ⟨q26, e_q26, hm⟩ := ob_x hm
        refine pw_v (pc := 102) (k := l0) (by omega) d176_102 (k176_207 b) (by decide) m175 (by decide) rfl (sho s_h25 f_l0) (Nat.le_of_ble_eq_true rfl) (Nat.le_of_ble_eq_true rfl) rfl rfl (T_m_tested b L xs (d - 1) (by omega) h25 s_h25 l0 f_l0 e_q26) (fun v0 h0 hq => ?_)
        obtain ⟨rfl, hh0, s_q26⟩ := hq
        rw [hh0] at s_q26 ⊢
        simp only [Option.toList_some, List.cons_append, List.nil_append]
        refine pw_zne (pc := 105) (t := 110) d176_105 (by decide) (fun c27 => ?_) (fun c27 => ?_)
        · rw [if_pos c27] at hm
          exact t_m_isWakeHere_110 b L xs d hd q26.2 s_q26 l0 (((Int8.ofInt 48).toInt32 * (q1.2.1 l0 11)) + ((Int32.ofInt 4) * (q1.2.1 y2 (q1.2.1 l0 11).toNatClampNeg)))  f_l0  hm hE
        · rw [if_neg c27] at hm
          refine pw_s (pc := 108) d176_108 rfl rfl ?_
          obtain rfl := Option.some.inj hm
          refine pw_ri (pc := 109) d176_109 t176 rfl ?_
          exact hE s_q26
    · rw [if_neg c10] at hm
      refine pw_s (pc := 46) d176_46 rfl rfl ?_
      obtain rfl := Option.some.inj hm
      refine pw_ri (pc := 47) d176_47 t176 rfl ?_
      exact hE s_q9
  exact key _ (fun q => ⟨rfl, rfl, q⟩)
noncomputable def m_cellHere (l0 : Nat) (l1 : Int32) (l2 : Int32) (l3 : Int32) (h : pm_H) : Option (Int32 × pm_H) := (m_numberHere l0 l2 l3 h).bind fun q1 => if ¬ q1.1 = 0 then ((gA q1.2 l0 7 .int).bind fun y3 => if mi_in l1 (mi_n y3) = true then bd (pm_setI q1.2 y3 l1.toNatClampNeg (q1.2.2.1 l0 10)) fun h5 => some ((Int32.ofInt 1), h5) else none) else (some ((Int32.ofInt 0), q1.2))
theorem T_m_cellHere (b : Bool) (L : Nat) (xs : Nat → Int32) (d : Nat) (hd : 2 ≤ d) (h : pm_H) (s_h : h.1 = tb_SH) (l0 : Nat) (l1 : Int32) (l2 : Int32) (l3 : Int32) (f_l0 : mi_o l0 10 = true) {r : (Int32 × pm_H)} (hm : m_cellHere l0 l1 l2 l3 h = some r) : PC b L xs d 177 [(Value.ref l0), (Value.int l1), (Value.int l2), (Value.int l3)] h (fun (v0 : Option Value) (h2 : pm_H) => v0 = (some (Value.int r.1)) ∧ h2 = r.2 ∧ h2.1 = tb_SH) := by
  refine pc_in e177 (ls0 := [(Value.ref l0), (Value.int l1), (Value.int l2), (Value.int l3)]) rfl ?_
  have key : ∀ (Q : Option Value → pm_H → Prop), (r.2.1 = tb_SH → Q (some (Value.int r.1)) r.2) → PW b L xs d 177 0 0 0 [(Value.ref l0), (Value.int l1), (Value.int l2), (Value.int l3)] [] h Q := by
    intro Q hE
    rw [m_cellHere] at hm
    refine pw_l (pc := 0) d177_0 rfl rfl rfl ?_
    refine pw_l (pc := 1) d177_1 rfl rfl rfl ?_
    refine pw_l (pc := 2) d177_2 rfl rfl rfl ?_
    obtain ⟨q1, e_q1, hm⟩ := ob_x hm
    refine pw_v (pc := 3) (k := l0) (by omega) d177_3 (k177_159 b) (by decide) m161 (by decide) rfl (sho s_h f_l0) (Nat.le_of_ble_eq_true rfl) (Nat.le_of_ble_eq_true rfl) rfl rfl (T_m_numberHere b L xs (d - 1) (by omega) h s_h l0 l2 l3 f_l0 e_q1) (fun v0 h0 hq => ?_)
    obtain ⟨rfl, hh0, s_q1⟩ := hq
    rw [hh0] at s_q1 ⊢
    simp only [Option.toList_some, List.cons_append, List.nil_append]
    refine pw_zne (pc := 6) (t := 11) d177_6 (by decide) (fun c2 => ?_) (fun c2 => ?_)
    · rw [if_pos c2] at hm
      refine pw_l (pc := 11) d177_11 rfl rfl rfl ?_
      obtain ⟨y3, e_y3, hm⟩ := ob_x hm
      have f_y3 := gA_x e_y3
      refine pw_gr (pc := 12) d177_12 (k177_26 b) (sho s_q1 f_l0) f10_7 f_y3.1 ?_
      refine pw_l (pc := 15) d177_15 rfl rfl rfl ?_
      refine pw_l (pc := 16) d177_16 rfl rfl rfl ?_
      refine pw_gi (pc := 17) d177_17 (k177_109 b) (sho s_q1 f_l0) f10_10 ?_
      obtain ⟨g4, hm⟩ := gd_x hm
      refine pw_si (pc := 20) d177_20 (sha s_q1 f_y3.2) (mi_in_x g4) ?_
      obtain ⟨h5, e_h5, hm⟩ := bd_x hm
      rw [e_h5]
      have s_h5 : h5.1 = tb_SH := by rw [← e_h5]; exact s_q1
      refine pw_s (pc := 21) d177_21 rfl rfl ?_
      obtain rfl := Option.some.inj hm
      refine pw_ri (pc := 22) d177_22 t177 rfl ?_
      exact hE s_h5
    · rw [if_neg c2] at hm
      refine pw_s (pc := 9) d177_9 rfl rfl ?_
      obtain rfl := Option.some.inj hm
      refine pw_ri (pc := 10) d177_10 t177 rfl ?_
      exact hE s_q1
  exact key _ (fun q => ⟨rfl, rfl, q⟩)
noncomputable def m_isShipHere (l0 : Nat) (l1 : Int32) (h : pm_H) : Option (Int32 × pm_H) := (gA h l0 7 .int).bind fun y1 => if mi_in (Int32.ofInt 0) (mi_n y1) = true then if (h.2.1 y1 (Int32.ofInt 0).toNatClampNeg) ≤ 0 then ((m_passWord l0 h).bind fun q4 => (m_cellHere l0 (Int32.ofInt 0) (Int32.ofInt 1) ((Int8.ofInt 10).toInt32) q4).bind fun q5 => if mi_bo q5.1 = true then some (q5.1, q5.2) else none) else ((m_fails l0 (Int32.ofInt 4) l1 h).bind fun q7 => if mi_bo q7.1 = true then some (q7.1, q7.2) else none) else none
theorem T_m_isShipHere (b : Bool) (L : Nat) (xs : Nat → Int32) (d : Nat) (hd : 3 ≤ d) (h : pm_H) (s_h : h.1 = tb_SH) (l0 : Nat) (l1 : Int32) (f_l0 : mi_o l0 10 = true) {r : (Int32 × pm_H)} (hm : m_isShipHere l0 l1 h = some r) : PC b L xs d 178 [(Value.ref l0), (Value.int l1)] h (fun (v0 : Option Value) (h2 : pm_H) => v0 = (some (Value.int r.1)) ∧ h2 = r.2 ∧ h2.1 = tb_SH) := by
  refine pc_in e178 (ls0 := [(Value.ref l0), (Value.int l1)]) rfl ?_
  have key : ∀ (Q : Option Value → pm_H → Prop), (r.2.1 = tb_SH → Q (some (Value.int r.1)) r.2) → PW b L xs d 178 0 0 0 [(Value.ref l0), (Value.int l1)] [] h Q := by
    intro Q hE
    rw [m_isShipHere] at hm
    refine pw_l (pc := 0) d178_0 rfl rfl rfl ?_
    obtain ⟨y1, e_y1, hm⟩ := ob_x hm
    have f_y1 := gA_x e_y1
    refine pw_gr (pc := 1) d178_1 (k178_26 b) (sho s_h f_l0) f10_7 f_y1.1 ?_
    refine pw_s (pc := 4) d178_4 rfl rfl ?_
    obtain ⟨g2, hm⟩ := gd_x hm
    refine pw_ai (pc := 5) d178_5 (sha s_h f_y1.2) (mi_in_x g2) ?_
    refine pw_zle (pc := 6) (t := 16) d178_6 (by decide) (fun c3 => ?_) (fun c3 => ?_)
    · rw [if_pos c3] at hm
      refine pw_l (pc := 16) d178_16 rfl rfl rfl ?_
      obtain ⟨q4, e_q4, hm⟩ := ob_x hm
      refine pw_v (pc := 17) (k := l0) (by omega) d178_17 (k178_99 b) (by decide) m159 (by decide) rfl (sho s_h f_l0) (Nat.le_of_ble_eq_true rfl) (Nat.le_of_ble_eq_true rfl) rfl rfl (T_m_passWord b L xs (d - 1) (by omega) h s_h l0 f_l0 e_q4) (fun v0 h0 hq => ?_)
      obtain ⟨rfl, hh0, s_q4⟩ := hq
      rw [hh0] at s_q4 ⊢
      simp only [Option.toList_none, List.nil_append]
      refine pw_l (pc := 20) d178_20 rfl rfl rfl ?_
      refine pw_s (pc := 21) d178_21 rfl rfl ?_
      refine pw_s (pc := 22) d178_22 rfl rfl ?_
      refine pw_s (pc := 23) d178_23 rfl rfl ?_
      obtain ⟨q5, e_q5, hm⟩ := ob_x hm
      refine pw_v (pc := 25) (k := l0) (by omega) d178_25 (k178_210 b) (by decide) m177 (by decide) rfl (sho s_q4 f_l0) (Nat.le_of_ble_eq_true rfl) (Nat.le_of_ble_eq_true rfl) rfl rfl (T_m_cellHere b L xs (d - 1) (by omega) q4 s_q4 l0 (Int32.ofInt 0) (Int32.ofInt 1) ((Int8.ofInt 10).toInt32) f_l0 e_q5) (fun v0 h0 hq => ?_)
      obtain ⟨rfl, hh0, s_q5⟩ := hq
      rw [hh0] at s_q5 ⊢
      simp only [Option.toList_some, List.cons_append, List.nil_append]
      obtain ⟨g6, hm⟩ := gd_x hm
      obtain rfl := Option.some.inj hm
      refine pw_ri (pc := 28) d178_28 t178 (pm_nz (mi_bo_x g6)) ?_
      exact hE s_q5
    · rw [if_neg c3] at hm
      refine pw_l (pc := 9) d178_9 rfl rfl rfl ?_
      refine pw_s (pc := 10) d178_10 rfl rfl ?_
      refine pw_l (pc := 11) d178_11 rfl rfl rfl ?_
      obtain ⟨q7, e_q7, hm⟩ := ob_x hm
      refine pw_v (pc := 12) (k := l0) (by omega) d178_12 (k178_105 b) (by decide) m154 (by decide) rfl (sho s_h f_l0) (Nat.le_of_ble_eq_true rfl) (Nat.le_of_ble_eq_true rfl) rfl rfl (T_m_fails b L xs (d - 1) (by omega) h s_h l0 (Int32.ofInt 4) l1 f_l0 e_q7) (fun v0 h0 hq => ?_)
      obtain ⟨rfl, hh0, s_q7⟩ := hq
      rw [hh0] at s_q7 ⊢
      simp only [Option.toList_some, List.cons_append, List.nil_append]
      obtain ⟨g8, hm⟩ := gd_x hm
      obtain rfl := Option.some.inj hm
      refine pw_ri (pc := 15) d178_15 t178 (pm_nz (mi_bo_x g8)) ?_
      exact hE s_q7
  exact key _ (fun q => ⟨rfl, rfl, q⟩)
def E_m_isManHere_77 (b : Bool) (L : Nat) (xs : Nat → Int32) (d : Nat) (Q : Option Value → pm_H → Prop) (l0 : Nat) (l2 : Int32) : ((Int32 × pm_H) ⊕ pm_H) → Prop
  | .inl s => s.2.1 = tb_SH → ∀ w1 : Value, PW b L xs d 179 0 0 77 [(Value.ref l0), w1, (Value.int l2), (Value.int s.1)] [] s.2 Q
  | .inr e => e.1 = tb_SH → ∀ w1 w2 w3 : Value, PW b L xs d 179 0 0 98 [(Value.ref l0), w1, w2, w3] [] e Q
noncomputable def m_isManHere_77 (l0 : Nat) (l2 : Int32) (l3 : Int32) (h : pm_H) : Option ((Int32 × pm_H) ⊕ pm_H) := if (Int8.ofInt 6).toInt32 ≤ l3 then (some (.inr h)) else ((gA h l0 7 .int).bind fun y2 => if mi_in (l2 + l3) (mi_n y2) = true then bd (pm_setI h y2 (l2 + l3).toNatClampNeg (Int32.ofInt 0)) fun h4 => some (.inl ((l3 + Int32.ofInt 1), h4)) else none)
theorem t_m_isManHere_77 (b : Bool) (L : Nat) (xs : Nat → Int32) (d : Nat) (hd : 3 ≤ d) {Q : Option Value → pm_H → Prop} (h : pm_H) (s_h : h.1 = tb_SH) (l0 : Nat) (l2 : Int32) (l3 : Int32) (w1 : Value) (f_l0 : mi_o l0 10 = true) {r : ((Int32 × pm_H) ⊕ pm_H)} (hm : m_isManHere_77 l0 l2 l3 h = some r) (hE : E_m_isManHere_77 b L xs d Q l0 l2 r) : PW b L xs d 179 0 0 77 [(Value.ref l0), w1, (Value.int l2), (Value.int l3)] [] h Q := by
  rw [m_isManHere_77] at hm
  refine pw_l (pc := 77) d179_77 rfl rfl rfl ?_
  refine pw_s (pc := 78) d179_78 rfl rfl ?_
  refine pw_ige (pc := 80) (t := 98) d179_80 (by decide) (fun c1 => ?_) (fun c1 => ?_)
  · rw [if_pos c1] at hm
    obtain rfl := Option.some.inj hm
    exact hE s_h  w1 (Value.int l2) (Value.int l3)
  · rw [if_neg c1] at hm
    refine pw_l (pc := 83) d179_83 rfl rfl rfl ?_
    obtain ⟨y2, e_y2, hm⟩ := ob_x hm
    have f_y2 := gA_x e_y2
    refine pw_gr (pc := 84) d179_84 (k179_26 b) (sho s_h f_l0) f10_7 f_y2.1 ?_
    refine pw_l (pc := 87) d179_87 rfl rfl rfl ?_
    refine pw_l (pc := 88) d179_88 rfl rfl rfl ?_
    refine pw_s (pc := 89) d179_89 rfl rfl ?_
    refine pw_s (pc := 90) d179_90 rfl rfl ?_
    obtain ⟨g3, hm⟩ := gd_x hm
    refine pw_si (pc := 91) d179_91 (sha s_h f_y2.2) (mi_in_x g3) ?_
    obtain ⟨h4, e_h4, hm⟩ := bd_x hm
    rw [e_h4]
    have s_h4 : h4.1 = tb_SH := by rw [← e_h4]; exact s_h
    refine pw_t (pc := 92) d179_92 rfl rfl rfl rfl ?_
    refine pw_go (pc := 95) (t := 77) d179_95 (by decide) ?_
    obtain rfl := Option.some.inj hm
    exact hE s_h4  w1
noncomputable def m_isManHere (l0 : Nat) (l1 : Int32) (h : pm_H) : Option (Int32 × pm_H) := (gA h l0 7 .int).bind fun y1 => if mi_in (Int32.ofInt 1) (mi_n y1) = true then if ¬ (h.2.1 y1 (Int32.ofInt 1).toNatClampNeg) = (Int8.ofInt 8).toInt32 then ((m_passWord l0 h).bind fun q4 => (gA q4 l0 7 .int).bind fun y5 => if mi_in (Int32.ofInt 1) (mi_n y5) = true then (gA q4 l0 7 .int).bind fun y7 => if mi_in (Int32.ofInt 0) (mi_n y7) = true then (m_cellHere l0 ((Int8.ofInt 10).toInt32 + ((Int8.ofInt 6).toInt32 * (q4.2.1 y5 (Int32.ofInt 1).toNatClampNeg))) (Int32.ofInt 0) ((q4.2.1 y7 (Int32.ofInt 0).toNatClampNeg) - (Int32.ofInt 1)) q4).bind fun q9 => if q9.1 = 0 then (some ((Int32.ofInt 0), q9.2)) else ((m_cellHere l0 (((Int8.ofInt 10).toInt32 + ((Int8.ofInt 6).toInt32 * (q4.2.1 y5 (Int32.ofInt 1).toNatClampNeg))) + (Int32.ofInt 1)) (Int32.ofInt 0) (Int32.ofInt 2) q9.2).bind fun q11 => if ¬ q11.1 = 0 then ((gA q11.2 l0 7 .int).bind fun y13 => if mi_in (((Int8.ofInt 10).toInt32 + ((Int8.ofInt 6).toInt32 * (q4.2.1 y5 (Int32.ofInt 1).toNatClampNeg))) + (Int32.ofInt 2)) (mi_n y13) = true then bd (pm_setI q11.2 y13 (((Int8.ofInt 10).toInt32 + ((Int8.ofInt 6).toInt32 * (q4.2.1 y5 (Int32.ofInt 1).toNatClampNeg))) + (Int32.ofInt 2)).toNatClampNeg (Int32.ofInt 1)) fun h15 => (wh (fun s : (Int32 × pm_H) => m_isManHere_77 l0 ((Int8.ofInt 10).toInt32 + ((Int8.ofInt 6).toInt32 * (q4.2.1 y5 (Int32.ofInt 1).toNatClampNeg))) s.1 s.2) ((Int32.ofInt 3), h15)).bind fun q16 => (gA q16 l0 7 .int).bind fun y17 => if mi_in (Int32.ofInt 1) (mi_n y17) = true then if mi_in (Int32.ofInt 1) (mi_n y17) = true then bd (pm_setI q16 y17 (Int32.ofInt 1).toNatClampNeg ((q16.2.1 y17 (Int32.ofInt 1).toNatClampNeg) + (Int32.ofInt 1))) fun h20 => some ((Int32.ofInt 1), h20) else none else none else none) else (some ((Int32.ofInt 0), q11.2))) else none else none) else ((m_fails l0 (Int32.ofInt 4) l1 h).bind fun q21 => if mi_bo q21.1 = true then some (q21.1, q21.2) else none) else none
theorem T_m_isManHere (b : Bool) (L : Nat) (xs : Nat → Int32) (d : Nat) (hd : 3 ≤ d) (h : pm_H) (s_h : h.1 = tb_SH) (l0 : Nat) (l1 : Int32) (f_l0 : mi_o l0 10 = true) {r : (Int32 × pm_H)} (hm : m_isManHere l0 l1 h = some r) : PC b L xs d 179 [(Value.ref l0), (Value.int l1)] h (fun (v0 : Option Value) (h2 : pm_H) => v0 = (some (Value.int r.1)) ∧ h2 = r.2 ∧ h2.1 = tb_SH) := by
  refine pc_in e179 (ls0 := [(Value.ref l0), (Value.int l1), Value.retAddr 0, Value.retAddr 0]) rfl ?_
  have key : ∀ (Q : Option Value → pm_H → Prop), (r.2.1 = tb_SH → Q (some (Value.int r.1)) r.2) → PW b L xs d 179 0 0 0 [(Value.ref l0), (Value.int l1), Value.retAddr 0, Value.retAddr 0] [] h Q := by
    intro Q hE
    rw [m_isManHere] at hm
    refine pw_l (pc := 0) d179_0 rfl rfl rfl ?_
    obtain ⟨y1, e_y1, hm⟩ := ob_x hm
    have f_y1 := gA_x e_y1
    refine pw_gr (pc := 1) d179_1 (k179_26 b) (sho s_h f_l0) f10_7 f_y1.1 ?_
    refine pw_s (pc := 4) d179_4 rfl rfl ?_
    obtain ⟨g2, hm⟩ := gd_x hm
    refine pw_ai (pc := 5) d179_5 (sha s_h f_y1.2) (mi_in_x g2) ?_
    refine pw_s (pc := 6) d179_6 rfl rfl ?_
    refine pw_ine (pc := 8) (t := 18) d179_8 (by decide) (fun c3 => ?_) (fun c3 => ?_)
    · rw [if_pos c3] at hm
      refine pw_l (pc := 18) d179_18 rfl rfl rfl ?_
      obtain ⟨q4, e_q4, hm⟩ := ob_x hm
      refine pw_v (pc := 19) (k := l0) (by omega) d179_19 (k179_99 b) (by decide) m159 (by decide) rfl (sho s_h f_l0) (Nat.le_of_ble_eq_true rfl) (Nat.le_of_ble_eq_true rfl) rfl rfl (T_m_passWord b L xs (d - 1) (by omega) h s_h l0 f_l0 e_q4) (fun v0 h0 hq => ?_)
      obtain ⟨rfl, hh0, s_q4⟩ := hq
      rw [hh0] at s_q4 ⊢
      simp only [Option.toList_none, List.nil_append]
      refine pw_s (pc := 22) d179_22 rfl rfl ?_
      refine pw_s (pc := 24) d179_24 rfl rfl ?_
      refine pw_l (pc := 26) d179_26 rfl rfl rfl ?_
      obtain ⟨y5, e_y5, hm⟩ := ob_x hm
      have f_y5 := gA_x e_y5
      refine pw_gr (pc := 27) d179_27 (k179_26 b) (sho s_q4 f_l0) f10_7 f_y5.1 ?_
      refine pw_s (pc := 30) d179_30 rfl rfl ?_
      obtain ⟨g6, hm⟩ := gd_x hm
      refine pw_ai (pc := 31) d179_31 (sha s_q4 f_y5.2) (mi_in_x g6) ?_
      refine pw_s (pc := 32) d179_32 rfl rfl ?_
      refine pw_s (pc := 33) d179_33 rfl rfl ?_
      refine pw_t (pc := 34) d179_34 rfl rfl rfl rfl ?_
      refine pw_l (pc := 35) d179_35 rfl rfl rfl ?_
      refine pw_l (pc := 36) d179_36 rfl rfl rfl ?_
      refine pw_s (pc := 37) d179_37 rfl rfl ?_
      refine pw_l (pc := 38) d179_38 rfl rfl rfl ?_
      obtain ⟨y7, e_y7, hm⟩ := ob_x hm
      have f_y7 := gA_x e_y7
      refine pw_gr (pc := 39) d179_39 (k179_26 b) (sho s_q4 f_l0) f10_7 f_y7.1 ?_
      refine pw_s (pc := 42) d179_42 rfl rfl ?_
      obtain ⟨g8, hm⟩ := gd_x hm
      refine pw_ai (pc := 43) d179_43 (sha s_q4 f_y7.2) (mi_in_x g8) ?_
      refine pw_s (pc := 44) d179_44 rfl rfl ?_
      refine pw_s (pc := 45) d179_45 rfl rfl ?_
      obtain ⟨q9, e_q9, hm⟩ := ob_x hm
      refine pw_v (pc := 46) (k := l0) (by omega) d179_46 (k179_210 b) (by decide) m177 (by decide) rfl (sho s_q4 f_l0) (Nat.le_of_ble_eq_true rfl) (Nat.le_of_ble_eq_true rfl) rfl rfl (T_m_cellHere b L xs (d - 1) (by omega) q4 s_q4 l0 ((Int8.ofInt 10).toInt32 + ((Int8.ofInt 6).toInt32 * (q4.2.1 y5 (Int32.ofInt 1).toNatClampNeg))) (Int32.ofInt 0) ((q4.2.1 y7 (Int32.ofInt 0).toNatClampNeg) - (Int32.ofInt 1)) f_l0 e_q9) (fun v0 h0 hq => ?_)
      obtain ⟨rfl, hh0, s_q9⟩ := hq
      rw [hh0] at s_q9 ⊢
      simp only [Option.toList_some, List.cons_append, List.nil_append]
      refine pw_zeq (pc := 49) (t := 64) d179_49 (by decide) (fun c10 => ?_) (fun c10 => ?_)
      · rw [if_pos c10] at hm
        refine pw_s (pc := 64) d179_64 rfl rfl ?_
        obtain rfl := Option.some.inj hm
        refine pw_ri (pc := 65) d179_65 t179 rfl ?_
        exact hE s_q9
      · rw [if_neg c10] at hm
        refine pw_l (pc := 52) d179_52 rfl rfl rfl ?_
        refine pw_l (pc := 53) d179_53 rfl rfl rfl ?_
        refine pw_s (pc := 54) d179_54 rfl rfl ?_
        refine pw_s (pc := 55) d179_55 rfl rfl ?_
        refine pw_s (pc := 56) d179_56 rfl rfl ?_
        refine pw_s (pc := 57) d179_57 rfl rfl ?_
        obtain ⟨q11, e_q11, hm⟩ := ob_x hm
        refine pw_v (pc := 58) (k := l0) (by omega) d179_58 (k179_210 b) (by decide) m177 (by decide) rfl (sho s_q9 f_l0) (Nat.le_of_ble_eq_true rfl) (Nat.le_of_ble_eq_true rfl) rfl rfl (T_m_cellHere b L xs (d - 1) (by omega) q9.2 s_q9 l0 (((Int8.ofInt 10).toInt32 + ((Int8.ofInt 6).toInt32 * (q4.2.1 y5 (Int32.ofInt 1).toNatClampNeg))) + (Int32.ofInt 1)) (Int32.ofInt 0) (Int32.ofInt 2) f_l0 e_q11) (fun v0 h0 hq => ?_)
        obtain ⟨rfl, hh0, s_q11⟩ := hq
        rw [hh0] at s_q11 ⊢
        simp only [Option.toList_some, List.cons_append, List.nil_append]
        refine pw_zne (pc := 61) (t := 66) d179_61 (by decide) (fun c12 => ?_) (fun c12 => ?_)
        · rw [if_pos c12] at hm
          refine pw_l (pc := 66) d179_66 rfl rfl rfl ?_
          obtain ⟨y13, e_y13, hm⟩ := ob_x hm
          have f_y13 := gA_x e_y13
          refine pw_gr (pc := 67) d179_67 (k179_26 b) (sho s_q11 f_l0) f10_7 f_y13.1 ?_
          refine pw_l (pc := 70) d179_70 rfl rfl rfl ?_
          refine pw_s (pc := 71) d179_71 rfl rfl ?_
          refine pw_s (pc := 72) d179_72 rfl rfl ?_
          refine pw_s (pc := 73) d179_73 rfl rfl ?_
          obtain ⟨g14, hm⟩ := gd_x hm
          refine pw_si (pc := 74) d179_74 (sha s_q11 f_y13.2) (mi_in_x g14) ?_
          obtain ⟨h15, e_h15, hm⟩ := bd_x hm
          rw [e_h15]
          have s_h15 : h15.1 = tb_SH := by rw [← e_h15]; exact s_q11
          refine pw_s (pc := 75) d179_75 rfl rfl ?_
          refine pw_t (pc := 76) d179_76 rfl rfl rfl rfl ?_
          obtain ⟨q16, e_q16, hm⟩ := ob_x hm
          refine wh_ind e_q16 (fun s : (Int32 × pm_H) => s.2.1 = tb_SH → ∀ w1 : Value, PW b L xs d 179 0 0 77 [(Value.ref l0), w1, (Value.int ((Int8.ofInt 10).toInt32 + ((Int8.ofInt 6).toInt32 * (q4.2.1 y5 (Int32.ofInt 1).toNatClampNeg)))), (Value.int s.1)] [] s.2 Q) (fun s s2 hf ih sx w1 => t_m_isManHere_77 b L xs d hd s.2 sx l0 ((Int8.ofInt 10).toInt32 + ((Int8.ofInt 6).toInt32 * (q4.2.1 y5 (Int32.ofInt 1).toNatClampNeg))) s.1 w1 f_l0 hf ih) (fun s hf sx w1 => t_m_isManHere_77 b L xs d hd s.2 sx l0 ((Int8.ofInt 10).toInt32 + ((Int8.ofInt 6).toInt32 * (q4.2.1 y5 (Int32.ofInt 1).toNatClampNeg))) s.1 w1 f_l0 hf ?_) s_h15  (Value.int l1)
          intro s_q16_0 w1 w2 w3
          refine pw_l (pc := 98) d179_98 rfl rfl rfl ?_
          obtain ⟨y17, e_y17, hm⟩ := ob_x hm
          have f_y17 := gA_x e_y17
          refine pw_gr (pc := 99) d179_99 (k179_26 b) (sho s_q16_0 f_l0) f10_7 f_y17.1 ?_
          refine pw_s (pc := 102) d179_102 rfl rfl ?_
          refine pw_s (pc := 103) d179_103 rfl rfl ?_
          obtain ⟨g18, hm⟩ := gd_x hm
          refine pw_ai (pc := 104) d179_104 (sha s_q16_0 f_y17.2) (mi_in_x g18) ?_
          refine pw_s (pc := 105) d179_105 rfl rfl ?_
          refine pw_s (pc := 106) d179_106 rfl rfl ?_
          obtain ⟨g19, hm⟩ := gd_x hm
          refine pw_si (pc := 107) d179_107 (sha s_q16_0 f_y17.2) (mi_in_x g19) ?_
          obtain ⟨h20, e_h20, hm⟩ := bd_x hm
          rw [e_h20]
          have s_h20 : h20.1 = tb_SH := by rw [← e_h20]; exact s_q16_0
          refine pw_s (pc := 108) d179_108 rfl rfl ?_
          obtain rfl := Option.some.inj hm
          refine pw_ri (pc := 109) d179_109 t179 rfl ?_
          exact hE s_h20
        · rw [if_neg c12] at hm
          refine pw_s (pc := 64) d179_64 rfl rfl ?_
          obtain rfl := Option.some.inj hm
          refine pw_ri (pc := 65) d179_65 t179 rfl ?_
          exact hE s_q11
    · rw [if_neg c3] at hm
      refine pw_l (pc := 11) d179_11 rfl rfl rfl ?_
      refine pw_s (pc := 12) d179_12 rfl rfl ?_
      refine pw_l (pc := 13) d179_13 rfl rfl rfl ?_
      obtain ⟨q21, e_q21, hm⟩ := ob_x hm
      refine pw_v (pc := 14) (k := l0) (by omega) d179_14 (k179_105 b) (by decide) m154 (by decide) rfl (sho s_h f_l0) (Nat.le_of_ble_eq_true rfl) (Nat.le_of_ble_eq_true rfl) rfl rfl (T_m_fails b L xs (d - 1) (by omega) h s_h l0 (Int32.ofInt 4) l1 f_l0 e_q21) (fun v0 h0 hq => ?_)
      obtain ⟨rfl, hh0, s_q21⟩ := hq
      rw [hh0] at s_q21 ⊢
      simp only [Option.toList_some, List.cons_append, List.nil_append]
      obtain ⟨g22, hm⟩ := gd_x hm
      obtain rfl := Option.some.inj hm
      refine pw_ri (pc := 17) d179_17 t179 (pm_nz (mi_bo_x g22)) ?_
      exact hE s_q21
  exact key _ (fun q => ⟨rfl, rfl, q⟩)
def E_m_isOrderHere_116 (b : Bool) (L : Nat) (xs : Nat → Int32) (d : Nat) (Q : Option Value → pm_H → Prop) (l0 : Nat) (l2 : Int32) (l3 : Int32) (l4 : Int32) : ((Int32 × pm_H) ⊕ (Int32 × pm_H) ⊕ pm_H) → Prop
  | .inl s => s.2.1 = tb_SH → ∀ w1 : Value, PW b L xs d 180 0 0 116 [(Value.ref l0), w1, (Value.int l2), (Value.int l3), (Value.int l4), (Value.int s.1)] [] s.2 Q
  | .inr (.inl e) => e.2.1 = tb_SH → ∀ w1 w2 w4 : Value, PW b L xs d 180 0 0 166 [(Value.ref l0), w1, w2, (Value.int l3), w4, (Value.int e.1)] [] e.2 Q
  | .inr (.inr e) => e.1 = tb_SH → ∀ w1 w2 w5 : Value, PW b L xs d 180 0 0 182 [(Value.ref l0), w1, w2, (Value.int l3), (Value.int l4), w5] [] e Q
def E_m_isOrderHere_61 (b : Bool) (L : Nat) (xs : Nat → Int32) (d : Nat) (Q : Option Value → pm_H → Prop) (l0 : Nat) (l2 : Int32) (l3 : Int32) : ((Int32 × pm_H) ⊕ (Int32 × pm_H)) → Prop
  | .inl s => s.2.1 = tb_SH → ∀ w1 w5 : Value, PW b L xs d 180 0 0 61 [(Value.ref l0), w1, (Value.int l2), (Value.int l3), (Value.int s.1), w5] [] s.2 Q
  | .inr e => e.2.1 = tb_SH → ∀ w1 w5 : Value, PW b L xs d 180 0 0 78 [(Value.ref l0), w1, (Value.int l2), (Value.int l3), (Value.int e.1), w5] [] e.2 Q
noncomputable def m_isOrderHere_116 (l0 : Nat) (l2 : Int32) (l3 : Int32) (l4 : Int32) (l5 : Int32) (h : pm_H) : Option ((Int32 × pm_H) ⊕ (Int32 × pm_H) ⊕ pm_H) := if l4 ≤ l5 then (some (.inr (.inr h))) else ((gA h l0 7 .int).bind fun y2 => (gA h l0 0 .byte).bind fun y3 => if mi_in (l3 + l5) (mi_n y3) = true then if mi_in ((l2 + (Int32.ofInt 2)) + l5) (mi_n y2) = true then bd (pm_setI h y2 ((l2 + (Int32.ofInt 2)) + l5).toNatClampNeg ((h.2.1 y3 (l3 + l5).toNatClampNeg) - (Int8.ofInt 48).toInt32)) fun h6 => (gA h6 l0 7 .int).bind fun y7 => if mi_in ((l2 + (Int32.ofInt 2)) + l5) (mi_n y7) = true then (gA h6 l0 7 .int).bind fun y9 => if mi_in (Int32.ofInt 0) (mi_n y9) = true then if (h6.2.1 y7 ((l2 + (Int32.ofInt 2)) + l5).toNatClampNeg) < (h6.2.1 y9 (Int32.ofInt 0).toNatClampNeg) then (some (.inl ((l5 + Int32.ofInt 1), h6))) else (some (.inr (.inl (l5, h6)))) else none else none else none else none)
theorem t_m_isOrderHere_116 (b : Bool) (L : Nat) (xs : Nat → Int32) (d : Nat) (hd : 3 ≤ d) {Q : Option Value → pm_H → Prop} (h : pm_H) (s_h : h.1 = tb_SH) (l0 : Nat) (l2 : Int32) (l3 : Int32) (l4 : Int32) (l5 : Int32) (w1 : Value) (f_l0 : mi_o l0 10 = true) {r : ((Int32 × pm_H) ⊕ (Int32 × pm_H) ⊕ pm_H)} (hm : m_isOrderHere_116 l0 l2 l3 l4 l5 h = some r) (hE : E_m_isOrderHere_116 b L xs d Q l0 l2 l3 l4 r) : PW b L xs d 180 0 0 116 [(Value.ref l0), w1, (Value.int l2), (Value.int l3), (Value.int l4), (Value.int l5)] [] h Q := by
  rw [m_isOrderHere_116] at hm
  refine pw_l (pc := 116) d180_116 rfl rfl rfl ?_
  refine pw_l (pc := 118) d180_118 rfl rfl rfl ?_
  refine pw_ige (pc := 120) (t := 182) d180_120 (by decide) (fun c1 => ?_) (fun c1 => ?_)
  · rw [if_pos c1] at hm
    obtain rfl := Option.some.inj hm
    exact hE s_h  w1 (Value.int l2) (Value.int l5)
  · rw [if_neg c1] at hm
    refine pw_l (pc := 123) d180_123 rfl rfl rfl ?_
    obtain ⟨y2, e_y2, hm⟩ := ob_x hm
    have f_y2 := gA_x e_y2
    refine pw_gr (pc := 124) d180_124 (k180_26 b) (sho s_h f_l0) f10_7 f_y2.1 ?_
    refine pw_l (pc := 127) d180_127 rfl rfl rfl ?_
    refine pw_s (pc := 128) d180_128 rfl rfl ?_
    refine pw_s (pc := 129) d180_129 rfl rfl ?_
    refine pw_l (pc := 130) d180_130 rfl rfl rfl ?_
    refine pw_s (pc := 132) d180_132 rfl rfl ?_
    refine pw_l (pc := 133) d180_133 rfl rfl rfl ?_
    obtain ⟨y3, e_y3, hm⟩ := ob_x hm
    have f_y3 := gA_x e_y3
    refine pw_gr (pc := 134) d180_134 (k180_7 b) (sho s_h f_l0) f10_0 f_y3.1 ?_
    refine pw_l (pc := 137) d180_137 rfl rfl rfl ?_
    refine pw_l (pc := 138) d180_138 rfl rfl rfl ?_
    refine pw_s (pc := 140) d180_140 rfl rfl ?_
    obtain ⟨g4, hm⟩ := gd_x hm
    refine pw_ab (pc := 141) d180_141 (sha s_h f_y3.2) (by decide) (mi_in_x g4) ?_
    refine pw_s (pc := 142) d180_142 rfl rfl ?_
    refine pw_s (pc := 144) d180_144 rfl rfl ?_
    obtain ⟨g5, hm⟩ := gd_x hm
    refine pw_si (pc := 145) d180_145 (sha s_h f_y2.2) (mi_in_x g5) ?_
    obtain ⟨h6, e_h6, hm⟩ := bd_x hm
    rw [e_h6]
    have s_h6 : h6.1 = tb_SH := by rw [← e_h6]; exact s_h
    refine pw_l (pc := 146) d180_146 rfl rfl rfl ?_
    obtain ⟨y7, e_y7, hm⟩ := ob_x hm
    have f_y7 := gA_x e_y7
    refine pw_gr (pc := 147) d180_147 (k180_26 b) (sho s_h6 f_l0) f10_7 f_y7.1 ?_
    refine pw_l (pc := 150) d180_150 rfl rfl rfl ?_
    refine pw_s (pc := 151) d180_151 rfl rfl ?_
    refine pw_s (pc := 152) d180_152 rfl rfl ?_
    refine pw_l (pc := 153) d180_153 rfl rfl rfl ?_
    refine pw_s (pc := 155) d180_155 rfl rfl ?_
    obtain ⟨g8, hm⟩ := gd_x hm
    refine pw_ai (pc := 156) d180_156 (sha s_h6 f_y7.2) (mi_in_x g8) ?_
    refine pw_l (pc := 157) d180_157 rfl rfl rfl ?_
    obtain ⟨y9, e_y9, hm⟩ := ob_x hm
    have f_y9 := gA_x e_y9
    refine pw_gr (pc := 158) d180_158 (k180_26 b) (sho s_h6 f_l0) f10_7 f_y9.1 ?_
    refine pw_s (pc := 161) d180_161 rfl rfl ?_
    obtain ⟨g10, hm⟩ := gd_x hm
    refine pw_ai (pc := 162) d180_162 (sha s_h6 f_y9.2) (mi_in_x g10) ?_
    refine pw_ilt (pc := 163) (t := 176) d180_163 (by decide) (fun c11 => ?_) (fun c11 => ?_)
    · rw [if_pos c11] at hm
      refine pw_t (pc := 176) d180_176 rfl rfl rfl rfl ?_
      refine pw_go (pc := 179) (t := 116) d180_179 (by decide) ?_
      obtain rfl := Option.some.inj hm
      exact hE s_h6  w1
    · rw [if_neg c11] at hm
      obtain rfl := Option.some.inj hm
      exact hE s_h6  w1 (Value.int l2) (Value.int l4)
noncomputable def m_isOrderHere_61 (l0 : Nat) (l2 : Int32) (l3 : Int32) (l4 : Int32) (h : pm_H) : Option ((Int32 × pm_H) ⊕ (Int32 × pm_H)) := (m_isDigit l0 (l3 + l4) h).bind fun q1 => if q1 = 0 then (some (.inr (l4, h))) else (some (.inl ((l4 + Int32.ofInt 1), h)))
theorem t_m_isOrderHere_61 (b : Bool) (L : Nat) (xs : Nat → Int32) (d : Nat) (hd : 3 ≤ d) {Q : Option Value → pm_H → Prop} (h : pm_H) (s_h : h.1 = tb_SH) (l0 : Nat) (l2 : Int32) (l3 : Int32) (l4 : Int32) (w1 : Value) (w5 : Value) (f_l0 : mi_o l0 10 = true) {r : ((Int32 × pm_H) ⊕ (Int32 × pm_H))} (hm : m_isOrderHere_61 l0 l2 l3 l4 h = some r) (hE : E_m_isOrderHere_61 b L xs d Q l0 l2 l3 r) : PW b L xs d 180 0 0 61 [(Value.ref l0), w1, (Value.int l2), (Value.int l3), (Value.int l4), w5] [] h Q := by
  rw [m_isOrderHere_61] at hm
  refine pw_l (pc := 61) d180_61 rfl rfl rfl ?_
  refine pw_l (pc := 62) d180_62 rfl rfl rfl ?_
  refine pw_l (pc := 63) d180_63 rfl rfl rfl ?_
  refine pw_s (pc := 65) d180_65 rfl rfl ?_
  obtain ⟨q1, e_q1, hm⟩ := ob_x hm
  refine pw_v (pc := 66) (k := l0) (by omega) d180_66 (k180_102 b) (by decide) m156 (by decide) rfl (sho s_h f_l0) (Nat.le_of_ble_eq_true rfl) (Nat.le_of_ble_eq_true rfl) rfl rfl (T_m_isDigit b L xs (d - 1) (by omega) h s_h l0 (l3 + l4) f_l0 e_q1) (fun v0 h0 hq => ?_)
  obtain ⟨rfl, hh0, s_q1⟩ := hq
  rw [hh0] at s_q1 ⊢
  simp only [Option.toList_some, List.cons_append, List.nil_append]
  refine pw_zeq (pc := 69) (t := 78) d180_69 (by decide) (fun c2 => ?_) (fun c2 => ?_)
  · rw [if_pos c2] at hm
    obtain rfl := Option.some.inj hm
    exact hE s_h  w1 w5
  · rw [if_neg c2] at hm
    refine pw_t (pc := 72) d180_72 rfl rfl rfl rfl ?_
    refine pw_go (pc := 75) (t := 61) d180_75 (by decide) ?_
    obtain rfl := Option.some.inj hm
    exact hE s_h  w1 w5
noncomputable def m_isOrderHere (l0 : Nat) (l1 : Int32) (h : pm_H) : Option (Int32 × pm_H) := (gA h l0 7 .int).bind fun y1 => if mi_in (Int32.ofInt 2) (mi_n y1) = true then if ¬ (h.2.1 y1 (Int32.ofInt 2).toNatClampNeg) = (Int8.ofInt 8).toInt32 then ((m_passWord l0 h).bind fun q4 => (gA q4 l0 7 .int).bind fun y5 => if mi_in (Int32.ofInt 2) (mi_n y5) = true then (m_cellHere l0 ((Int8.ofInt 58).toInt32 + ((Int8.ofInt 6).toInt32 * (q4.2.1 y5 (Int32.ofInt 2).toNatClampNeg))) (Int32.ofInt 0) ((Int8.ofInt 99).toInt32) q4).bind fun q7 => if ¬ q7.1 = 0 then ((m_see l0 q7.2).bind fun q9 => (wh (fun s : (Int32 × pm_H) => m_isOrderHere_61 l0 ((Int8.ofInt 58).toInt32 + ((Int8.ofInt 6).toInt32 * (q4.2.1 y5 (Int32.ofInt 2).toNatClampNeg))) (q9.2.2.1 l0 8) s.1 s.2) ((Int32.ofInt 0), q9.2)).bind fun q10 => if ¬ q10.1 = 0 then (if q10.1 ≤ (Int32.ofInt 4) then ((gA q10.2 l0 7 .int).bind fun y13 => if mi_in (((Int8.ofInt 58).toInt32 + ((Int8.ofInt 6).toInt32 * (q4.2.1 y5 (Int32.ofInt 2).toNatClampNeg))) + (Int32.ofInt 1)) (mi_n y13) = true then bd (pm_setI q10.2 y13 (((Int8.ofInt 58).toInt32 + ((Int8.ofInt 6).toInt32 * (q4.2.1 y5 (Int32.ofInt 2).toNatClampNeg))) + (Int32.ofInt 1)).toNatClampNeg q10.1) fun h15 => (wh (fun s : (Int32 × pm_H) => m_isOrderHere_116 l0 ((Int8.ofInt 58).toInt32 + ((Int8.ofInt 6).toInt32 * (q4.2.1 y5 (Int32.ofInt 2).toNatClampNeg))) (q9.2.2.1 l0 8) q10.1 s.1 s.2) ((Int32.ofInt 0), h15)).bind fun q16 => (match q16 with | (.inl eq16_0) => (m_fails l0 (Int32.ofInt 1) ((q9.2.2.1 l0 8) + eq16_0.1) eq16_0.2).bind fun q17 => if mi_bo q17.1 = true then some (q17.1, q17.2) else none | (.inr eq16_1) => bd (pm_setI eq16_1 l0 8 ((q9.2.2.1 l0 8) + q10.1)) fun h19 => (gA h19 l0 7 .int).bind fun y20 => if mi_in (Int32.ofInt 2) (mi_n y20) = true then if mi_in (Int32.ofInt 2) (mi_n y20) = true then bd (pm_setI h19 y20 (Int32.ofInt 2).toNatClampNeg ((h19.2.1 y20 (Int32.ofInt 2).toNatClampNeg) + (Int32.ofInt 1))) fun h23 => some ((Int32.ofInt 1), h23) else none else none) else none) else ((m_fails l0 (Int32.ofInt 1) (q9.2.2.1 l0 8) q10.2).bind fun q24 => if mi_bo q24.1 = true then some (q24.1, q24.2) else none)) else ((m_fails l0 (Int32.ofInt 0) (q9.2.2.1 l0 8) q10.2).bind fun q26 => if mi_bo q26.1 = true then some (q26.1, q26.2) else none)) else (some ((Int32.ofInt 0), q7.2)) else none) else ((m_fails l0 (Int32.ofInt 4) l1 h).bind fun q28 => if mi_bo q28.1 = true then some (q28.1, q28.2) else none) else none
theorem T_m_isOrderHere (b : Bool) (L : Nat) (xs : Nat → Int32) (d : Nat) (hd : 3 ≤ d) (h : pm_H) (s_h : h.1 = tb_SH) (l0 : Nat) (l1 : Int32) (f_l0 : mi_o l0 10 = true) {r : (Int32 × pm_H)} (hm : m_isOrderHere l0 l1 h = some r) : PC b L xs d 180 [(Value.ref l0), (Value.int l1)] h (fun (v0 : Option Value) (h2 : pm_H) => v0 = (some (Value.int r.1)) ∧ h2 = r.2 ∧ h2.1 = tb_SH) := by
  refine pc_in e180 (ls0 := [(Value.ref l0), (Value.int l1), Value.retAddr 0, Value.retAddr 0, Value.retAddr 0, Value.retAddr 0]) rfl ?_
  have key : ∀ (Q : Option Value → pm_H → Prop), (r.2.1 = tb_SH → Q (some (Value.int r.1)) r.2) → PW b L xs d 180 0 0 0 [(Value.ref l0), (Value.int l1), Value.retAddr 0, Value.retAddr 0, Value.retAddr 0, Value.retAddr 0] [] h Q := by
    intro Q hE
    rw [m_isOrderHere] at hm
    refine pw_l (pc := 0) d180_0 rfl rfl rfl ?_
    obtain ⟨y1, e_y1, hm⟩ := ob_x hm
    have f_y1 := gA_x e_y1
    refine pw_gr (pc := 1) d180_1 (k180_26 b) (sho s_h f_l0) f10_7 f_y1.1 ?_
    refine pw_s (pc := 4) d180_4 rfl rfl ?_
    obtain ⟨g2, hm⟩ := gd_x hm
    refine pw_ai (pc := 5) d180_5 (sha s_h f_y1.2) (mi_in_x g2) ?_
    refine pw_s (pc := 6) d180_6 rfl rfl ?_
    refine pw_ine (pc := 8) (t := 18) d180_8 (by decide) (fun c3 => ?_) (fun c3 => ?_)
    · rw [if_pos c3] at hm
      refine pw_l (pc := 18) d180_18 rfl rfl rfl ?_
      obtain ⟨q4, e_q4, hm⟩ := ob_x hm
      refine pw_v (pc := 19) (k := l0) (by omega) d180_19 (k180_99 b) (by decide) m159 (by decide) rfl (sho s_h f_l0) (Nat.le_of_ble_eq_true rfl) (Nat.le_of_ble_eq_true rfl) rfl rfl (T_m_passWord b L xs (d - 1) (by omega) h s_h l0 f_l0 e_q4) (fun v0 h0 hq => ?_)
      obtain ⟨rfl, hh0, s_q4⟩ := hq
      rw [hh0] at s_q4 ⊢
      simp only [Option.toList_none, List.nil_append]
      refine pw_s (pc := 22) d180_22 rfl rfl ?_
      refine pw_s (pc := 24) d180_24 rfl rfl ?_
      refine pw_l (pc := 26) d180_26 rfl rfl rfl ?_
      obtain ⟨y5, e_y5, hm⟩ := ob_x hm
      have f_y5 := gA_x e_y5
      refine pw_gr (pc := 27) d180_27 (k180_26 b) (sho s_q4 f_l0) f10_7 f_y5.1 ?_
      refine pw_s (pc := 30) d180_30 rfl rfl ?_
      obtain ⟨g6, hm⟩ := gd_x hm
      refine pw_ai (pc := 31) d180_31 (sha s_q4 f_y5.2) (mi_in_x g6) ?_
      refine pw_s (pc := 32) d180_32 rfl rfl ?_
      refine pw_s (pc := 33) d180_33 rfl rfl ?_
      refine pw_t (pc := 34) d180_34 rfl rfl rfl rfl ?_
      refine pw_l (pc := 35) d180_35 rfl rfl rfl ?_
      refine pw_l (pc := 36) d180_36 rfl rfl rfl ?_
      refine pw_s (pc := 37) d180_37 rfl rfl ?_
      refine pw_s (pc := 38) d180_38 rfl rfl ?_
      obtain ⟨q7, e_q7, hm⟩ := ob_x hm
      refine pw_v (pc := 40) (k := l0) (by omega) d180_40 (k180_210 b) (by decide) m177 (by decide) rfl (sho s_q4 f_l0) (Nat.le_of_ble_eq_true rfl) (Nat.le_of_ble_eq_true rfl) rfl rfl (T_m_cellHere b L xs (d - 1) (by omega) q4 s_q4 l0 ((Int8.ofInt 58).toInt32 + ((Int8.ofInt 6).toInt32 * (q4.2.1 y5 (Int32.ofInt 2).toNatClampNeg))) (Int32.ofInt 0) ((Int8.ofInt 99).toInt32) f_l0 e_q7) (fun v0 h0 hq => ?_)
      obtain ⟨rfl, hh0, s_q7⟩ := hq
      rw [hh0] at s_q7 ⊢
      simp only [Option.toList_some, List.cons_append, List.nil_append]
      refine pw_zne (pc := 43) (t := 48) d180_43 (by decide) (fun c8 => ?_) (fun c8 => ?_)
      · rw [if_pos c8] at hm
        refine pw_l (pc := 48) d180_48 rfl rfl rfl ?_
        obtain ⟨q9, e_q9, hm⟩ := ob_x hm
        refine pw_v (pc := 49) (k := l0) (by omega) d180_49 (k180_87 b) (by decide) m155 (by decide) rfl (sho s_q7 f_l0) (Nat.le_of_ble_eq_true rfl) (Nat.le_of_ble_eq_true rfl) rfl rfl (T_m_see b L xs (d - 1) (by omega) q7.2 s_q7 l0 f_l0 e_q9) (fun v0 h0 hq => ?_)
        obtain ⟨rfl, hh0, s_q9⟩ := hq
        rw [hh0] at s_q9 ⊢
        simp only [Option.toList_some, List.cons_append, List.nil_append]
        refine pw_s (pc := 52) d180_52 rfl rfl ?_
        refine pw_l (pc := 53) d180_53 rfl rfl rfl ?_
        refine pw_gi (pc := 54) d180_54 (k180_84 b) (sho s_q9 f_l0) f10_8 ?_
        refine pw_t (pc := 57) d180_57 rfl rfl rfl rfl ?_
        refine pw_s (pc := 58) d180_58 rfl rfl ?_
        refine pw_t (pc := 59) d180_59 rfl rfl rfl rfl ?_
        obtain ⟨q10, e_q10, hm⟩ := ob_x hm
        refine wh_ind e_q10 (fun s : (Int32 × pm_H) => s.2.1 = tb_SH → ∀ w1 w5 : Value, PW b L xs d 180 0 0 61 [(Value.ref l0), w1, (Value.int ((Int8.ofInt 58).toInt32 + ((Int8.ofInt 6).toInt32 * (q4.2.1 y5 (Int32.ofInt 2).toNatClampNeg)))), (Value.int (q9.2.2.1 l0 8)), (Value.int s.1), w5] [] s.2 Q) (fun s s2 hf ih sx w1 w5 => t_m_isOrderHere_61 b L xs d hd s.2 sx l0 ((Int8.ofInt 58).toInt32 + ((Int8.ofInt 6).toInt32 * (q4.2.1 y5 (Int32.ofInt 2).toNatClampNeg))) (q9.2.2.1 l0 8) s.1 w1 w5 f_l0 hf ih) (fun s hf sx w1 w5 => t_m_isOrderHere_61 b L xs d hd s.2 sx l0 ((Int8.ofInt 58).toInt32 + ((Int8.ofInt 6).toInt32 * (q4.2.1 y5 (Int32.ofInt 2).toNatClampNeg))) (q9.2.2.1 l0 8) s.1 w1 w5 f_l0 hf ?_) s_q9  (Value.int l1) (Value.retAddr 0)
        intro s_q10_0 w1 w5
        refine pw_l (pc := 78) d180_78 rfl rfl rfl ?_
        refine pw_zne (pc := 80) (t := 90) d180_80 (by decide) (fun c11 => ?_) (fun c11 => ?_)
        · rw [if_pos c11] at hm
          refine pw_l (pc := 90) d180_90 rfl rfl rfl ?_
          refine pw_s (pc := 92) d180_92 rfl rfl ?_
          refine pw_ile (pc := 93) (t := 103) d180_93 (by decide) (fun c12 => ?_) (fun c12 => ?_)
          · rw [if_pos c12] at hm
            refine pw_l (pc := 103) d180_103 rfl rfl rfl ?_
            obtain ⟨y13, e_y13, hm⟩ := ob_x hm
            have f_y13 := gA_x e_y13
            refine pw_gr (pc := 104) d180_104 (k180_26 b) (sho s_q10_0 f_l0) f10_7 f_y13.1 ?_
            refine pw_l (pc := 107) d180_107 rfl rfl rfl ?_
            refine pw_s (pc := 108) d180_108 rfl rfl ?_
            refine pw_s (pc := 109) d180_109 rfl rfl ?_
            refine pw_l (pc := 110) d180_110 rfl rfl rfl ?_
            obtain ⟨g14, hm⟩ := gd_x hm
            refine pw_si (pc := 112) d180_112 (sha s_q10_0 f_y13.2) (mi_in_x g14) ?_
            obtain ⟨h15, e_h15, hm⟩ := bd_x hm
            rw [e_h15]
            have s_h15 : h15.1 = tb_SH := by rw [← e_h15]; exact s_q10_0
            refine pw_s (pc := 113) d180_113 rfl rfl ?_
            refine pw_t (pc := 114) d180_114 rfl rfl rfl rfl ?_
            obtain ⟨q16, e_q16, hm⟩ := ob_x hm
            refine wh_ind e_q16 (fun s : (Int32 × pm_H) => s.2.1 = tb_SH → ∀ w1 : Value, PW b L xs d 180 0 0 116 [(Value.ref l0), w1, (Value.int ((Int8.ofInt 58).toInt32 + ((Int8.ofInt 6).toInt32 * (q4.2.1 y5 (Int32.ofInt 2).toNatClampNeg)))), (Value.int (q9.2.2.1 l0 8)), (Value.int q10.1), (Value.int s.1)] [] s.2 Q) (fun s s2 hf ih sx w1 => t_m_isOrderHere_116 b L xs d hd s.2 sx l0 ((Int8.ofInt 58).toInt32 + ((Int8.ofInt 6).toInt32 * (q4.2.1 y5 (Int32.ofInt 2).toNatClampNeg))) (q9.2.2.1 l0 8) q10.1 s.1 w1 f_l0 hf ih) (fun s hf sx w1 => t_m_isOrderHere_116 b L xs d hd s.2 sx l0 ((Int8.ofInt 58).toInt32 + ((Int8.ofInt 6).toInt32 * (q4.2.1 y5 (Int32.ofInt 2).toNatClampNeg))) (q9.2.2.1 l0 8) q10.1 s.1 w1 f_l0 hf ?_) s_h15  w1
            rcases q16 with eq16_0 | eq16_1
            · dsimp only at hm
              intro s_q16_0 w1 w2 w4
              refine pw_l (pc := 166) d180_166 rfl rfl rfl ?_
              refine pw_s (pc := 167) d180_167 rfl rfl ?_
              refine pw_l (pc := 168) d180_168 rfl rfl rfl ?_
              refine pw_l (pc := 169) d180_169 rfl rfl rfl ?_
              refine pw_s (pc := 171) d180_171 rfl rfl ?_
              obtain ⟨q17, e_q17, hm⟩ := ob_x hm
              refine pw_v (pc := 172) (k := l0) (by omega) d180_172 (k180_105 b) (by decide) m154 (by decide) rfl (sho s_q16_0 f_l0) (Nat.le_of_ble_eq_true rfl) (Nat.le_of_ble_eq_true rfl) rfl rfl (T_m_fails b L xs (d - 1) (by omega) eq16_0.2 s_q16_0 l0 (Int32.ofInt 1) ((q9.2.2.1 l0 8) + eq16_0.1) f_l0 e_q17) (fun v0 h0 hq => ?_)
              obtain ⟨rfl, hh0, s_q17⟩ := hq
              rw [hh0] at s_q17 ⊢
              simp only [Option.toList_some, List.cons_append, List.nil_append]
              obtain ⟨g18, hm⟩ := gd_x hm
              obtain rfl := Option.some.inj hm
              refine pw_ri (pc := 175) d180_175 t180 (pm_nz (mi_bo_x g18)) ?_
              exact hE s_q17
            · dsimp only at hm
              intro s_q16_1 w1 w2 w5
              refine pw_l (pc := 182) d180_182 rfl rfl rfl ?_
              refine pw_l (pc := 183) d180_183 rfl rfl rfl ?_
              refine pw_l (pc := 184) d180_184 rfl rfl rfl ?_
              refine pw_s (pc := 186) d180_186 rfl rfl ?_
              refine pw_pi (pc := 187) d180_187 (k180_84 b) (sho s_q16_1 f_l0) p180_10_8 ?_
              obtain ⟨h19, e_h19, hm⟩ := bd_x hm
              rw [e_h19]
              have s_h19 : h19.1 = tb_SH := by rw [← e_h19]; exact s_q16_1
              refine pw_l (pc := 190) d180_190 rfl rfl rfl ?_
              obtain ⟨y20, e_y20, hm⟩ := ob_x hm
              have f_y20 := gA_x e_y20
              refine pw_gr (pc := 191) d180_191 (k180_26 b) (sho s_h19 f_l0) f10_7 f_y20.1 ?_
              refine pw_s (pc := 194) d180_194 rfl rfl ?_
              refine pw_s (pc := 195) d180_195 rfl rfl ?_
              obtain ⟨g21, hm⟩ := gd_x hm
              refine pw_ai (pc := 196) d180_196 (sha s_h19 f_y20.2) (mi_in_x g21) ?_
              refine pw_s (pc := 197) d180_197 rfl rfl ?_
              refine pw_s (pc := 198) d180_198 rfl rfl ?_
              obtain ⟨g22, hm⟩ := gd_x hm
              refine pw_si (pc := 199) d180_199 (sha s_h19 f_y20.2) (mi_in_x g22) ?_
              obtain ⟨h23, e_h23, hm⟩ := bd_x hm
              rw [e_h23]
              have s_h23 : h23.1 = tb_SH := by rw [← e_h23]; exact s_h19
              refine pw_s (pc := 200) d180_200 rfl rfl ?_
              obtain rfl := Option.some.inj hm
              refine pw_ri (pc := 201) d180_201 t180 rfl ?_
              exact hE s_h23
          · rw [if_neg c12] at hm
            refine pw_l (pc := 96) d180_96 rfl rfl rfl ?_
            refine pw_s (pc := 97) d180_97 rfl rfl ?_
            refine pw_l (pc := 98) d180_98 rfl rfl rfl ?_
            obtain ⟨q24, e_q24, hm⟩ := ob_x hm
            refine pw_v (pc := 99) (k := l0) (by omega) d180_99 (k180_105 b) (by decide) m154 (by decide) rfl (sho s_q10_0 f_l0) (Nat.le_of_ble_eq_true rfl) (Nat.le_of_ble_eq_true rfl) rfl rfl (T_m_fails b L xs (d - 1) (by omega) q10.2 s_q10_0 l0 (Int32.ofInt 1) (q9.2.2.1 l0 8) f_l0 e_q24) (fun v0 h0 hq => ?_)
            obtain ⟨rfl, hh0, s_q24⟩ := hq
            rw [hh0] at s_q24 ⊢
            simp only [Option.toList_some, List.cons_append, List.nil_append]
            obtain ⟨g25, hm⟩ := gd_x hm
            obtain rfl := Option.some.inj hm
            refine pw_ri (pc := 102) d180_102 t180 (pm_nz (mi_bo_x g25)) ?_
            exact hE s_q24
        · rw [if_neg c11] at hm
          refine pw_l (pc := 83) d180_83 rfl rfl rfl ?_
          refine pw_s (pc := 84) d180_84 rfl rfl ?_
          refine pw_l (pc := 85) d180_85 rfl rfl rfl ?_
          obtain ⟨q26, e_q26, hm⟩ := ob_x hm
          refine pw_v (pc := 86) (k := l0) (by omega) d180_86 (k180_105 b) (by decide) m154 (by decide) rfl (sho s_q10_0 f_l0) (Nat.le_of_ble_eq_true rfl) (Nat.le_of_ble_eq_true rfl) rfl rfl (T_m_fails b L xs (d - 1) (by omega) q10.2 s_q10_0 l0 (Int32.ofInt 0) (q9.2.2.1 l0 8) f_l0 e_q26) (fun v0 h0 hq => ?_)
          obtain ⟨rfl, hh0, s_q26⟩ := hq
          rw [hh0] at s_q26 ⊢
          simp only [Option.toList_some, List.cons_append, List.nil_append]
          obtain ⟨g27, hm⟩ := gd_x hm
          obtain rfl := Option.some.inj hm
          refine pw_ri (pc := 89) d180_89 t180 (pm_nz (mi_bo_x g27)) ?_
          exact hE s_q26
      · rw [if_neg c8] at hm
        refine pw_s (pc := 46) d180_46 rfl rfl ?_
        obtain rfl := Option.some.inj hm
        refine pw_ri (pc := 47) d180_47 t180 rfl ?_
        exact hE s_q7
    · rw [if_neg c3] at hm
      refine pw_l (pc := 11) d180_11 rfl rfl rfl ?_
      refine pw_s (pc := 12) d180_12 rfl rfl ?_
      refine pw_l (pc := 13) d180_13 rfl rfl rfl ?_
      obtain ⟨q28, e_q28, hm⟩ := ob_x hm
      refine pw_v (pc := 14) (k := l0) (by omega) d180_14 (k180_105 b) (by decide) m154 (by decide) rfl (sho s_h f_l0) (Nat.le_of_ble_eq_true rfl) (Nat.le_of_ble_eq_true rfl) rfl rfl (T_m_fails b L xs (d - 1) (by omega) h s_h l0 (Int32.ofInt 4) l1 f_l0 e_q28) (fun v0 h0 hq => ?_)
      obtain ⟨rfl, hh0, s_q28⟩ := hq
      rw [hh0] at s_q28 ⊢
      simp only [Option.toList_some, List.cons_append, List.nil_append]
      obtain ⟨g29, hm⟩ := gd_x hm
      obtain rfl := Option.some.inj hm
      refine pw_ri (pc := 17) d180_17 t180 (pm_nz (mi_bo_x g29)) ?_
      exact hE s_q28
  exact key _ (fun q => ⟨rfl, rfl, q⟩)
noncomputable def m_isMeaningHere (l0 : Nat) (l1 : Int32) (h : pm_H) : Option (Int32 × pm_H) := (gA h l0 7 .int).bind fun y1 => if mi_in (Int32.ofInt 3) (mi_n y1) = true then if ¬ (h.2.1 y1 (Int32.ofInt 3).toNatClampNeg) = (Int8.ofInt 10).toInt32 then ((m_passWord l0 h).bind fun q4 => (gA q4 l0 7 .int).bind fun y5 => if mi_in (Int32.ofInt 0) (mi_n y5) = true then (m_numberHere l0 (Int32.ofInt 0) ((q4.2.1 y5 (Int32.ofInt 0).toNatClampNeg) - (Int32.ofInt 1)) q4).bind fun q7 => if ¬ q7.1 = 0 then ((m_see l0 q7.2).bind fun q9 => (gA q9.2 l0 7 .int).bind fun y10 => if mi_in (Int32.ofInt 0) (mi_n y10) = true then (m_numberHere l0 (Int32.ofInt 0) ((q9.2.2.1 y10 (Int32.ofInt 0).toNatClampNeg) - (Int32.ofInt 1)) q9.2).bind fun q12 => if ¬ q12.1 = 0 then ((gA q12.2 l0 7 .int).bind fun y14 => if mi_in (((Int8.ofInt 106).toInt32 + ((Int8.ofInt 10).toInt32 * (q7.2.2.1 l0 10))) + (q12.2.2.1 l0 10)) (mi_n y14) = true then if (q12.2.2.1 y14 (((Int8.ofInt 106).toInt32 + ((Int8.ofInt 10).toInt32 * (q7.2.2.1 l0 10))) + (q12.2.2.1 l0 10)).toNatClampNeg) < 0 then ((gA q12.2 l0 7 .int).bind fun y17 => if mi_in (Int32.ofInt 0) (mi_n y17) = true then (m_cellHere l0 (((Int8.ofInt 106).toInt32 + ((Int8.ofInt 10).toInt32 * (q7.2.2.1 l0 10))) + (q12.2.2.1 l0 10)) (Int32.ofInt 0) ((q12.2.2.1 y17 (Int32.ofInt 0).toNatClampNeg) - (Int32.ofInt 1)) q12.2).bind fun q19 => if ¬ q19.1 = 0 then ((gA q19.2 l0 7 .int).bind fun y21 => if mi_in (Int32.ofInt 3) (mi_n y21) = true then if mi_in (Int32.ofInt 3) (mi_n y21) = true then bd (pm_setI q19.2 y21 (Int32.ofInt 3).toNatClampNeg ((q19.2.2.1 y21 (Int32.ofInt 3).toNatClampNeg) + (Int32.ofInt 1))) fun h24 => some ((Int32.ofInt 1), h24) else none else none) else (some ((Int32.ofInt 0), q19.2)) else none) else ((m_fails l0 (Int32.ofInt 1) (q9.2.2.1 l0 8) q12.2).bind fun q25 => if mi_bo q25.1 = true then some (q25.1, q25.2) else none) else none) else (some ((Int32.ofInt 0), q12.2)) else none) else (some ((Int32.ofInt 0), q7.2)) else none) else ((m_fails l0 (Int32.ofInt 4) l1 h).bind fun q27 => if mi_bo q27.1 = true then some (q27.1, q27.2) else none) else none
theorem T_m_isMeaningHere (b : Bool) (L : Nat) (xs : Nat → Int32) (d : Nat) (hd : 3 ≤ d) (h : pm_H) (s_h : h.1 = tb_SH) (l0 : Nat) (l1 : Int32) (f_l0 : mi_o l0 10 = true) {r : (Int32 × pm_H)} (hm : m_isMeaningHere l0 l1 h = some r) : PC b L xs d 181 [(Value.ref l0), (Value.int l1)] h (fun (v0 : Option Value) (h2 : pm_H) => v0 = (some (Value.int r.1)) ∧ h2 = r.2 ∧ h2.1 = tb_SH) := by
  refine pc_in e181 (ls0 := [(Value.ref l0), (Value.int l1), Value.retAddr 0, Value.retAddr 0, Value.retAddr 0]) rfl ?_
  have key : ∀ (Q : Option Value → pm_H → Prop), (r.2.1 = tb_SH → Q (some (Value.int r.1)) r.2) → PW b L xs d 181 0 0 0 [(Value.ref l0), (Value.int l1), Value.retAddr 0, Value.retAddr 0, Value.retAddr 0] [] h Q := by
    intro Q hE
    rw [m_isMeaningHere] at hm
    refine pw_l (pc := 0) d181_0 rfl rfl rfl ?_
    obtain ⟨y1, e_y1, hm⟩ := ob_x hm
    have f_y1 := gA_x e_y1
    refine pw_gr (pc := 1) d181_1 (k181_26 b) (sho s_h f_l0) f10_7 f_y1.1 ?_
    refine pw_s (pc := 4) d181_4 rfl rfl ?_
    obtain ⟨g2, hm⟩ := gd_x hm
    refine pw_ai (pc := 5) d181_5 (sha s_h f_y1.2) (mi_in_x g2) ?_
    refine pw_s (pc := 6) d181_6 rfl rfl ?_
    refine pw_ine (pc := 8) (t := 18) d181_8 (by decide) (fun c3 => ?_) (fun c3 => ?_)
    · rw [if_pos c3] at hm
      refine pw_l (pc := 18) d181_18 rfl rfl rfl ?_
      obtain ⟨q4, e_q4, hm⟩ := ob_x hm
      refine pw_v (pc := 19) (k := l0) (by omega) d181_19 (k181_99 b) (by decide) m159 (by decide) rfl (sho s_h f_l0) (Nat.le_of_ble_eq_true rfl) (Nat.le_of_ble_eq_true rfl) rfl rfl (T_m_passWord b L xs (d - 1) (by omega) h s_h l0 f_l0 e_q4) (fun v0 h0 hq => ?_)
      obtain ⟨rfl, hh0, s_q4⟩ := hq
      rw [hh0] at s_q4 ⊢
      simp only [Option.toList_none, List.nil_append]
      refine pw_l (pc := 22) d181_22 rfl rfl rfl ?_
      refine pw_s (pc := 23) d181_23 rfl rfl ?_
      refine pw_l (pc := 24) d181_24 rfl rfl rfl ?_
      obtain ⟨y5, e_y5, hm⟩ := ob_x hm
      have f_y5 := gA_x e_y5
      refine pw_gr (pc := 25) d181_25 (k181_26 b) (sho s_q4 f_l0) f10_7 f_y5.1 ?_
      refine pw_s (pc := 28) d181_28 rfl rfl ?_
      obtain ⟨g6, hm⟩ := gd_x hm
      refine pw_ai (pc := 29) d181_29 (sha s_q4 f_y5.2) (mi_in_x g6) ?_
      refine pw_s (pc := 30) d181_30 rfl rfl ?_
      refine pw_s (pc := 31) d181_31 rfl rfl ?_
      obtain ⟨q7, e_q7, hm⟩ := ob_x hm
      refine pw_v (pc := 32) (k := l0) (by omega) d181_32 (k181_159 b) (by decide) m161 (by decide) rfl (sho s_q4 f_l0) (Nat.le_of_ble_eq_true rfl) (Nat.le_of_ble_eq_true rfl) rfl rfl (T_m_numberHere b L xs (d - 1) (by omega) q4 s_q4 l0 (Int32.ofInt 0) ((q4.2.1 y5 (Int32.ofInt 0).toNatClampNeg) - (Int32.ofInt 1)) f_l0 e_q7) (fun v0 h0 hq => ?_)
      obtain ⟨rfl, hh0, s_q7⟩ := hq
      rw [hh0] at s_q7 ⊢
      simp only [Option.toList_some, List.cons_append, List.nil_append]
      refine pw_zne (pc := 35) (t := 40) d181_35 (by decide) (fun c8 => ?_) (fun c8 => ?_)
      · rw [if_pos c8] at hm
        refine pw_l (pc := 40) d181_40 rfl rfl rfl ?_
        refine pw_gi (pc := 41) d181_41 (k181_109 b) (sho s_q7 f_l0) f10_10 ?_
        refine pw_t (pc := 44) d181_44 rfl rfl rfl rfl ?_
        refine pw_l (pc := 45) d181_45 rfl rfl rfl ?_
        obtain ⟨q9, e_q9, hm⟩ := ob_x hm
        refine pw_v (pc := 46) (k := l0) (by omega) d181_46 (k181_87 b) (by decide) m155 (by decide) rfl (sho s_q7 f_l0) (Nat.le_of_ble_eq_true rfl) (Nat.le_of_ble_eq_true rfl) rfl rfl (T_m_see b L xs (d - 1) (by omega) q7.2 s_q7 l0 f_l0 e_q9) (fun v0 h0 hq => ?_)
        obtain ⟨rfl, hh0, s_q9⟩ := hq
        rw [hh0] at s_q9 ⊢
        simp only [Option.toList_some, List.cons_append, List.nil_append]
        refine pw_s (pc := 49) d181_49 rfl rfl ?_
        refine pw_l (pc := 50) d181_50 rfl rfl rfl ?_
        refine pw_gi (pc := 51) d181_51 (k181_84 b) (sho s_q9 f_l0) f10_8 ?_
        refine pw_t (pc := 54) d181_54 rfl rfl rfl rfl ?_
        refine pw_l (pc := 55) d181_55 rfl rfl rfl ?_
        refine pw_s (pc := 56) d181_56 rfl rfl ?_
        refine pw_l (pc := 57) d181_57 rfl rfl rfl ?_
        obtain ⟨y10, e_y10, hm⟩ := ob_x hm
        have f_y10 := gA_x e_y10
        refine pw_gr (pc := 58) d181_58 (k181_26 b) (sho s_q9 f_l0) f10_7 f_y10.1 ?_
        refine pw_s (pc := 61) d181_61 rfl rfl ?_
        obtain ⟨g11, hm⟩ := gd_x hm
        refine pw_ai (pc := 62) d181_62 (sha s_q9 f_y10.2) (mi_in_x g11) ?_
        refine pw_s (pc := 63) d181_63 rfl rfl ?_
        refine pw_s (pc := 64) d181_64 rfl rfl ?_
        obtain ⟨q12, e_q12, hm⟩ := ob_x hm
        refine pw_v (pc := 65) (k := l0) (by omega) d181_65 (k181_159 b) (by decide) m161 (by decide) rfl (sho s_q9 f_l0) (Nat.le_of_ble_eq_true rfl) (Nat.le_of_ble_eq_true rfl) rfl rfl (T_m_numberHere b L xs (d - 1) (by omega) q9.2 s_q9 l0 (Int32.ofInt 0) ((q9.2.2.1 y10 (Int32.ofInt 0).toNatClampNeg) - (Int32.ofInt 1)) f_l0 e_q12) (fun v0 h0 hq => ?_)
        obtain ⟨rfl, hh0, s_q12⟩ := hq
        rw [hh0] at s_q12 ⊢
        simp only [Option.toList_some, List.cons_append, List.nil_append]
        refine pw_zne (pc := 68) (t := 73) d181_68 (by decide) (fun c13 => ?_) (fun c13 => ?_)
        · rw [if_pos c13] at hm
          refine pw_s (pc := 73) d181_73 rfl rfl ?_
          refine pw_s (pc := 75) d181_75 rfl rfl ?_
          refine pw_l (pc := 77) d181_77 rfl rfl rfl ?_
          refine pw_s (pc := 78) d181_78 rfl rfl ?_
          refine pw_s (pc := 79) d181_79 rfl rfl ?_
          refine pw_l (pc := 80) d181_80 rfl rfl rfl ?_
          refine pw_gi (pc := 81) d181_81 (k181_109 b) (sho s_q12 f_l0) f10_10 ?_
          refine pw_s (pc := 84) d181_84 rfl rfl ?_
          refine pw_t (pc := 85) d181_85 rfl rfl rfl rfl ?_
          refine pw_l (pc := 87) d181_87 rfl rfl rfl ?_
          obtain ⟨y14, e_y14, hm⟩ := ob_x hm
          have f_y14 := gA_x e_y14
          refine pw_gr (pc := 88) d181_88 (k181_26 b) (sho s_q12 f_l0) f10_7 f_y14.1 ?_
          refine pw_l (pc := 91) d181_91 rfl rfl rfl ?_
          obtain ⟨g15, hm⟩ := gd_x hm
          refine pw_ai (pc := 93) d181_93 (sha s_q12 f_y14.2) (mi_in_x g15) ?_
          refine pw_zlt (pc := 94) (t := 104) d181_94 (by decide) (fun c16 => ?_) (fun c16 => ?_)
          · rw [if_pos c16] at hm
            refine pw_l (pc := 104) d181_104 rfl rfl rfl ?_
            refine pw_l (pc := 105) d181_105 rfl rfl rfl ?_
            refine pw_s (pc := 107) d181_107 rfl rfl ?_
            refine pw_l (pc := 108) d181_108 rfl rfl rfl ?_
            obtain ⟨y17, e_y17, hm⟩ := ob_x hm
            have f_y17 := gA_x e_y17
            refine pw_gr (pc := 109) d181_109 (k181_26 b) (sho s_q12 f_l0) f10_7 f_y17.1 ?_
            refine pw_s (pc := 112) d181_112 rfl rfl ?_
            obtain ⟨g18, hm⟩ := gd_x hm
            refine pw_ai (pc := 113) d181_113 (sha s_q12 f_y17.2) (mi_in_x g18) ?_
            refine pw_s (pc := 114) d181_114 rfl rfl ?_
            refine pw_s (pc := 115) d181_115 rfl rfl ?_
            obtain ⟨q19, e_q19, hm⟩ := ob_x hm
            refine pw_v (pc := 116) (k := l0) (by omega) d181_116 (k181_210 b) (by decide) m177 (by decide) rfl (sho s_q12 f_l0) (Nat.le_of_ble_eq_true rfl) (Nat.le_of_ble_eq_true rfl) rfl rfl (T_m_cellHere b L xs (d - 1) (by omega) q12.2 s_q12 l0 (((Int8.ofInt 106).toInt32 + ((Int8.ofInt 10).toInt32 * (q7.2.2.1 l0 10))) + (q12.2.2.1 l0 10)) (Int32.ofInt 0) ((q12.2.2.1 y17 (Int32.ofInt 0).toNatClampNeg) - (Int32.ofInt 1)) f_l0 e_q19) (fun v0 h0 hq => ?_)
            obtain ⟨rfl, hh0, s_q19⟩ := hq
            rw [hh0] at s_q19 ⊢
            simp only [Option.toList_some, List.cons_append, List.nil_append]
            refine pw_zne (pc := 119) (t := 124) d181_119 (by decide) (fun c20 => ?_) (fun c20 => ?_)
            · rw [if_pos c20] at hm
              refine pw_l (pc := 124) d181_124 rfl rfl rfl ?_
              obtain ⟨y21, e_y21, hm⟩ := ob_x hm
              have f_y21 := gA_x e_y21
              refine pw_gr (pc := 125) d181_125 (k181_26 b) (sho s_q19 f_l0) f10_7 f_y21.1 ?_
              refine pw_s (pc := 128) d181_128 rfl rfl ?_
              refine pw_s (pc := 129) d181_129 rfl rfl ?_
              obtain ⟨g22, hm⟩ := gd_x hm
              refine pw_ai (pc := 130) d181_130 (sha s_q19 f_y21.2) (mi_in_x g22) ?_
              refine pw_s (pc := 131) d181_131 rfl rfl ?_
              refine pw_s (pc := 132) d181_132 rfl rfl ?_
              obtain ⟨g23, hm⟩ := gd_x hm
              refine pw_si (pc := 133) d181_133 (sha s_q19 f_y21.2) (mi_in_x g23) ?_
              obtain ⟨h24, e_h24, hm⟩ := bd_x hm
              rw [e_h24]
              have s_h24 : h24.1 = tb_SH := by rw [← e_h24]; exact s_q19
              refine pw_s (pc := 134) d181_134 rfl rfl ?_
              obtain rfl := Option.some.inj hm
              refine pw_ri (pc := 135) d181_135 t181 rfl ?_
              exact hE s_h24
            · rw [if_neg c20] at hm
              refine pw_s (pc := 122) d181_122 rfl rfl ?_
              obtain rfl := Option.some.inj hm
              refine pw_ri (pc := 123) d181_123 t181 rfl ?_
              exact hE s_q19
          · rw [if_neg c16] at hm
            refine pw_l (pc := 97) d181_97 rfl rfl rfl ?_
            refine pw_s (pc := 98) d181_98 rfl rfl ?_
            refine pw_l (pc := 99) d181_99 rfl rfl rfl ?_
            obtain ⟨q25, e_q25, hm⟩ := ob_x hm
            refine pw_v (pc := 100) (k := l0) (by omega) d181_100 (k181_105 b) (by decide) m154 (by decide) rfl (sho s_q12 f_l0) (Nat.le_of_ble_eq_true rfl) (Nat.le_of_ble_eq_true rfl) rfl rfl (T_m_fails b L xs (d - 1) (by omega) q12.2 s_q12 l0 (Int32.ofInt 1) (q9.2.2.1 l0 8) f_l0 e_q25) (fun v0 h0 hq => ?_)
            obtain ⟨rfl, hh0, s_q25⟩ := hq
            rw [hh0] at s_q25 ⊢
            simp only [Option.toList_some, List.cons_append, List.nil_append]
            obtain ⟨g26, hm⟩ := gd_x hm
            obtain rfl := Option.some.inj hm
            refine pw_ri (pc := 103) d181_103 t181 (pm_nz (mi_bo_x g26)) ?_
            exact hE s_q25
        · rw [if_neg c13] at hm
          refine pw_s (pc := 71) d181_71 rfl rfl ?_
          obtain rfl := Option.some.inj hm
          refine pw_ri (pc := 72) d181_72 t181 rfl ?_
          exact hE s_q12
      · rw [if_neg c8] at hm
        refine pw_s (pc := 38) d181_38 rfl rfl ?_
        obtain rfl := Option.some.inj hm
        refine pw_ri (pc := 39) d181_39 t181 rfl ?_
        exact hE s_q7
    · rw [if_neg c3] at hm
      refine pw_l (pc := 11) d181_11 rfl rfl rfl ?_
      refine pw_s (pc := 12) d181_12 rfl rfl ?_
      refine pw_l (pc := 13) d181_13 rfl rfl rfl ?_
      obtain ⟨q27, e_q27, hm⟩ := ob_x hm
      refine pw_v (pc := 14) (k := l0) (by omega) d181_14 (k181_105 b) (by decide) m154 (by decide) rfl (sho s_h f_l0) (Nat.le_of_ble_eq_true rfl) (Nat.le_of_ble_eq_true rfl) rfl rfl (T_m_fails b L xs (d - 1) (by omega) h s_h l0 (Int32.ofInt 4) l1 f_l0 e_q27) (fun v0 h0 hq => ?_)
      obtain ⟨rfl, hh0, s_q27⟩ := hq
      rw [hh0] at s_q27 ⊢
      simp only [Option.toList_some, List.cons_append, List.nil_append]
      obtain ⟨g28, hm⟩ := gd_x hm
      obtain rfl := Option.some.inj hm
      refine pw_ri (pc := 17) d181_17 t181 (pm_nz (mi_bo_x g28)) ?_
      exact hE s_q27
  exact key _ (fun q => ⟨rfl, rfl, q⟩)
noncomputable def m_shipLineHere (l0 : Nat) (l1 : Int32) (h : pm_H) : Option (Int32 × pm_H) := (m_isWord l0 (1936222576 : Int64) h).bind fun q1 => if q1.1 = 0 then ((gA q1.2 l0 7 .int).bind fun y3 => if mi_in (Int32.ofInt 0) (mi_n y3) = true then if ¬ (q1.2.2.1 y3 (Int32.ofInt 0).toNatClampNeg) = 0 then ((m_isWord l0 (7168366 : Int64) q1.2).bind fun q6 => if q6.1 = 0 then ((m_isWord l0 (478660552050 : Int64) q6.2).bind fun q8 => if q8.1 = 0 then ((m_isMeaningHere l0 l1 q8.2).bind fun q10 => if mi_bo q10.1 = true then some (q10.1, q10.2) else none) else ((m_isOrderHere l0 l1 q8.2).bind fun q12 => if mi_bo q12.1 = true then some (q12.1, q12.2) else none)) else ((m_isManHere l0 l1 q6.2).bind fun q14 => if mi_bo q14.1 = true then some (q14.1, q14.2) else none)) else ((m_fails l0 (Int32.ofInt 4) l1 q1.2).bind fun q16 => if mi_bo q16.1 = true then some (q16.1, q16.2) else none) else none) else ((m_isShipHere l0 l1 q1.2).bind fun q18 => if mi_bo q18.1 = true then some (q18.1, q18.2) else none)
theorem T_m_shipLineHere (b : Bool) (L : Nat) (xs : Nat → Int32) (d : Nat) (hd : 4 ≤ d) (h : pm_H) (s_h : h.1 = tb_SH) (l0 : Nat) (l1 : Int32) (f_l0 : mi_o l0 10 = true) {r : (Int32 × pm_H)} (hm : m_shipLineHere l0 l1 h = some r) : PC b L xs d 182 [(Value.ref l0), (Value.int l1)] h (fun (v0 : Option Value) (h2 : pm_H) => v0 = (some (Value.int r.1)) ∧ h2 = r.2 ∧ h2.1 = tb_SH) := by
  refine pc_in e182 (ls0 := [(Value.ref l0), (Value.int l1)]) rfl ?_
  have key : ∀ (Q : Option Value → pm_H → Prop), (r.2.1 = tb_SH → Q (some (Value.int r.1)) r.2) → PW b L xs d 182 0 0 0 [(Value.ref l0), (Value.int l1)] [] h Q := by
    intro Q hE
    rw [m_shipLineHere] at hm
    refine pw_l (pc := 0) d182_0 rfl rfl rfl ?_
    refine pw_cl (pc := 1) d182_1 (k182_214 b) ?_
    obtain ⟨q1, e_q1, hm⟩ := ob_x hm
    refine pw_v (pc := 4) (k := l0) (by omega) d182_4 (k182_95 b) (by decide) m158 (by decide) rfl (sho s_h f_l0) (Nat.le_of_ble_eq_true rfl) (Nat.le_of_ble_eq_true rfl) rfl rfl (T_m_isWord b L xs (d - 1) (by omega) h s_h l0 (1936222576 : Int64) f_l0 e_q1) (fun v0 h0 hq => ?_)
    obtain ⟨rfl, hh0, s_q1⟩ := hq
    rw [hh0] at s_q1 ⊢
    simp only [Option.toList_some, List.cons_append, List.nil_append]
    refine pw_zeq (pc := 7) (t := 16) d182_7 (by decide) (fun c2 => ?_) (fun c2 => ?_)
    · rw [if_pos c2] at hm
      refine pw_l (pc := 16) d182_16 rfl rfl rfl ?_
      obtain ⟨y3, e_y3, hm⟩ := ob_x hm
      have f_y3 := gA_x e_y3
      refine pw_gr (pc := 17) d182_17 (k182_26 b) (sho s_q1 f_l0) f10_7 f_y3.1 ?_
      refine pw_s (pc := 20) d182_20 rfl rfl ?_
      obtain ⟨g4, hm⟩ := gd_x hm
      refine pw_ai (pc := 21) d182_21 (sha s_q1 f_y3.2) (mi_in_x g4) ?_
      refine pw_zne (pc := 22) (t := 32) d182_22 (by decide) (fun c5 => ?_) (fun c5 => ?_)
      · rw [if_pos c5] at hm
        refine pw_l (pc := 32) d182_32 rfl rfl rfl ?_
        refine pw_cl (pc := 33) d182_33 (k182_116 b) ?_
        obtain ⟨q6, e_q6, hm⟩ := ob_x hm
        refine pw_v (pc := 36) (k := l0) (by omega) d182_36 (k182_95 b) (by decide) m158 (by decide) rfl (sho s_q1 f_l0) (Nat.le_of_ble_eq_true rfl) (Nat.le_of_ble_eq_true rfl) rfl rfl (T_m_isWord b L xs (d - 1) (by omega) q1.2 s_q1 l0 (7168366 : Int64) f_l0 e_q6) (fun v0 h0 hq => ?_)
        obtain ⟨rfl, hh0, s_q6⟩ := hq
        rw [hh0] at s_q6 ⊢
        simp only [Option.toList_some, List.cons_append, List.nil_append]
        refine pw_zeq (pc := 39) (t := 50) d182_39 (by decide) (fun c7 => ?_) (fun c7 => ?_)
        · rw [if_pos c7] at hm
          refine pw_l (pc := 50) d182_50 rfl rfl rfl ?_
          refine pw_cl (pc := 51) d182_51 (k182_222 b) ?_
          obtain ⟨q8, e_q8, hm⟩ := ob_x hm
          refine pw_v (pc := 54) (k := l0) (by omega) d182_54 (k182_95 b) (by decide) m158 (by decide) rfl (sho s_q6 f_l0) (Nat.le_of_ble_eq_true rfl) (Nat.le_of_ble_eq_true rfl) rfl rfl (T_m_isWord b L xs (d - 1) (by omega) q6.2 s_q6 l0 (478660552050 : Int64) f_l0 e_q8) (fun v0 h0 hq => ?_)
          obtain ⟨rfl, hh0, s_q8⟩ := hq
          rw [hh0] at s_q8 ⊢
          simp only [Option.toList_some, List.cons_append, List.nil_append]
          refine pw_zeq (pc := 57) (t := 68) d182_57 (by decide) (fun c9 => ?_) (fun c9 => ?_)
          · rw [if_pos c9] at hm
            refine pw_l (pc := 68) d182_68 rfl rfl rfl ?_
            refine pw_l (pc := 69) d182_69 rfl rfl rfl ?_
            obtain ⟨q10, e_q10, hm⟩ := ob_x hm
            refine pw_v (pc := 70) (k := l0) (by omega) d182_70 (k182_227 b) (by decide) m181 (by decide) rfl (sho s_q8 f_l0) (Nat.le_of_ble_eq_true rfl) (Nat.le_of_ble_eq_true rfl) rfl rfl (T_m_isMeaningHere b L xs (d - 1) (by omega) q8.2 s_q8 l0 l1 f_l0 e_q10) (fun v0 h0 hq => ?_)
            obtain ⟨rfl, hh0, s_q10⟩ := hq
            rw [hh0] at s_q10 ⊢
            simp only [Option.toList_some, List.cons_append, List.nil_append]
            obtain ⟨g11, hm⟩ := gd_x hm
            obtain rfl := Option.some.inj hm
            refine pw_ri (pc := 73) d182_73 t182 (pm_nz (mi_bo_x g11)) ?_
            exact hE s_q10
          · rw [if_neg c9] at hm
            refine pw_l (pc := 60) d182_60 rfl rfl rfl ?_
            refine pw_l (pc := 61) d182_61 rfl rfl rfl ?_
            obtain ⟨q12, e_q12, hm⟩ := ob_x hm
            refine pw_v (pc := 62) (k := l0) (by omega) d182_62 (k182_224 b) (by decide) m180 (by decide) rfl (sho s_q8 f_l0) (Nat.le_of_ble_eq_true rfl) (Nat.le_of_ble_eq_true rfl) rfl rfl (T_m_isOrderHere b L xs (d - 1) (by omega) q8.2 s_q8 l0 l1 f_l0 e_q12) (fun v0 h0 hq => ?_)
            obtain ⟨rfl, hh0, s_q12⟩ := hq
            rw [hh0] at s_q12 ⊢
            simp only [Option.toList_some, List.cons_append, List.nil_append]
            refine pw_go (pc := 65) (t := 73) d182_65 (by decide) ?_
            obtain ⟨g13, hm⟩ := gd_x hm
            obtain rfl := Option.some.inj hm
            refine pw_ri (pc := 73) d182_73 t182 (pm_nz (mi_bo_x g13)) ?_
            exact hE s_q12
        · rw [if_neg c7] at hm
          refine pw_l (pc := 42) d182_42 rfl rfl rfl ?_
          refine pw_l (pc := 43) d182_43 rfl rfl rfl ?_
          obtain ⟨q14, e_q14, hm⟩ := ob_x hm
          refine pw_v (pc := 44) (k := l0) (by omega) d182_44 (k182_219 b) (by decide) m179 (by decide) rfl (sho s_q6 f_l0) (Nat.le_of_ble_eq_true rfl) (Nat.le_of_ble_eq_true rfl) rfl rfl (T_m_isManHere b L xs (d - 1) (by omega) q6.2 s_q6 l0 l1 f_l0 e_q14) (fun v0 h0 hq => ?_)
          obtain ⟨rfl, hh0, s_q14⟩ := hq
          rw [hh0] at s_q14 ⊢
          simp only [Option.toList_some, List.cons_append, List.nil_append]
          refine pw_go (pc := 47) (t := 73) d182_47 (by decide) ?_
          obtain ⟨g15, hm⟩ := gd_x hm
          obtain rfl := Option.some.inj hm
          refine pw_ri (pc := 73) d182_73 t182 (pm_nz (mi_bo_x g15)) ?_
          exact hE s_q14
      · rw [if_neg c5] at hm
        refine pw_l (pc := 25) d182_25 rfl rfl rfl ?_
        refine pw_s (pc := 26) d182_26 rfl rfl ?_
        refine pw_l (pc := 27) d182_27 rfl rfl rfl ?_
        obtain ⟨q16, e_q16, hm⟩ := ob_x hm
        refine pw_v (pc := 28) (k := l0) (by omega) d182_28 (k182_105 b) (by decide) m154 (by decide) rfl (sho s_q1 f_l0) (Nat.le_of_ble_eq_true rfl) (Nat.le_of_ble_eq_true rfl) rfl rfl (T_m_fails b L xs (d - 1) (by omega) q1.2 s_q1 l0 (Int32.ofInt 4) l1 f_l0 e_q16) (fun v0 h0 hq => ?_)
        obtain ⟨rfl, hh0, s_q16⟩ := hq
        rw [hh0] at s_q16 ⊢
        simp only [Option.toList_some, List.cons_append, List.nil_append]
        obtain ⟨g17, hm⟩ := gd_x hm
        obtain rfl := Option.some.inj hm
        refine pw_ri (pc := 31) d182_31 t182 (pm_nz (mi_bo_x g17)) ?_
        exact hE s_q16
    · rw [if_neg c2] at hm
      refine pw_l (pc := 10) d182_10 rfl rfl rfl ?_
      refine pw_l (pc := 11) d182_11 rfl rfl rfl ?_
      obtain ⟨q18, e_q18, hm⟩ := ob_x hm
      refine pw_v (pc := 12) (k := l0) (by omega) d182_12 (k182_216 b) (by decide) m178 (by decide) rfl (sho s_q1 f_l0) (Nat.le_of_ble_eq_true rfl) (Nat.le_of_ble_eq_true rfl) rfl rfl (T_m_isShipHere b L xs (d - 1) (by omega) q1.2 s_q1 l0 l1 f_l0 e_q18) (fun v0 h0 hq => ?_)
      obtain ⟨rfl, hh0, s_q18⟩ := hq
      rw [hh0] at s_q18 ⊢
      simp only [Option.toList_some, List.cons_append, List.nil_append]
      obtain ⟨g19, hm⟩ := gd_x hm
      obtain rfl := Option.some.inj hm
      refine pw_ri (pc := 15) d182_15 t182 (pm_nz (mi_bo_x g19)) ?_
      exact hE s_q18
  exact key _ (fun q => ⟨rfl, rfl, q⟩)
noncomputable def m_clauseHere_114 (l0 : Nat) (l1 : Int32) (l2 : Int32) (z0 : Int32) (z1 : Int32) (h : pm_H) : Option (Int32 × pm_H) := if ¬ z1 = z0 then (bd (pm_setI h l0 14 ((h.2.1 l0 14) + (Int32.ofInt 1))) fun h2 => if l2 = 0 then ((m_isWakeHere l0 h2).bind fun q4 => if mi_bo q4.1 = true then some (q4.1, q4.2) else none) else ((m_shipLineHere l0 l1 h2).bind fun q6 => if mi_bo q6.1 = true then some (q6.1, q6.2) else none)) else ((m_fails l0 (Int32.ofInt 4) l1 h).bind fun q8 => if mi_bo q8.1 = true then some (q8.1, q8.2) else none)
theorem t_m_clauseHere_114 (b : Bool) (L : Nat) (xs : Nat → Int32) (d : Nat) (hd : 10 ≤ d) {Q : Option Value → pm_H → Prop} (h : pm_H) (s_h : h.1 = tb_SH) (l0 : Nat) (l1 : Int32) (l2 : Int32) (z0 : Int32) (z1 : Int32) (w3 : Value) (f_l0 : mi_o l0 10 = true) {r : (Int32 × pm_H)} (hm : m_clauseHere_114 l0 l1 l2 z0 z1 h = some r) (hE : r.2.1 = tb_SH → Q (some (Value.int r.1)) r.2) : PW b L xs d 183 0 0 114 [(Value.ref l0), (Value.int l1), (Value.int l2), w3] [(Value.int z0), (Value.int z1)] h Q := by
  rw [m_clauseHere_114] at hm
  refine pw_ine (pc := 114) (t := 124) d183_114 (by decide) (fun c1 => ?_) (fun c1 => ?_)
  · rw [if_pos c1] at hm
    refine pw_l (pc := 124) d183_124 rfl rfl rfl ?_
    refine pw_s (pc := 125) d183_125 rfl rfl ?_
    refine pw_gi (pc := 126) d183_126 (k183_234 b) (sho s_h f_l0) f10_14 ?_
    refine pw_s (pc := 129) d183_129 rfl rfl ?_
    refine pw_s (pc := 130) d183_130 rfl rfl ?_
    refine pw_pi (pc := 131) d183_131 (k183_234 b) (sho s_h f_l0) p183_10_14 ?_
    obtain ⟨h2, e_h2, hm⟩ := bd_x hm
    rw [e_h2]
    have s_h2 : h2.1 = tb_SH := by rw [← e_h2]; exact s_h
    refine pw_l (pc := 134) d183_134 rfl rfl rfl ?_
    refine pw_zeq (pc := 135) (t := 146) d183_135 (by decide) (fun c3 => ?_) (fun c3 => ?_)
    · rw [if_pos c3] at hm
      refine pw_l (pc := 146) d183_146 rfl rfl rfl ?_
      obtain ⟨q4, e_q4, hm⟩ := ob_x hm
      refine pw_v (pc := 147) (k := l0) (by omega) d183_147 (k183_240 b) (by decide) m176 (by decide) rfl (sho s_h2 f_l0) (Nat.le_of_ble_eq_true rfl) (Nat.le_of_ble_eq_true rfl) rfl rfl (T_m_isWakeHere b L xs (d - 1) (by omega) h2 s_h2 l0 f_l0 e_q4) (fun v0 h0 hq => ?_)
      obtain ⟨rfl, hh0, s_q4⟩ := hq
      rw [hh0] at s_q4 ⊢
      simp only [Option.toList_some, List.cons_append, List.nil_append]
      obtain ⟨g5, hm⟩ := gd_x hm
      obtain rfl := Option.some.inj hm
      refine pw_ri (pc := 150) d183_150 t183 (pm_nz (mi_bo_x g5)) ?_
      exact hE s_q4
    · rw [if_neg c3] at hm
      refine pw_l (pc := 138) d183_138 rfl rfl rfl ?_
      refine pw_l (pc := 139) d183_139 rfl rfl rfl ?_
      obtain ⟨q6, e_q6, hm⟩ := ob_x hm
      refine pw_v (pc := 140) (k := l0) (by omega) d183_140 (k183_237 b) (by decide) m182 (by decide) rfl (sho s_h2 f_l0) (Nat.le_of_ble_eq_true rfl) (Nat.le_of_ble_eq_true rfl) rfl rfl (T_m_shipLineHere b L xs (d - 1) (by omega) h2 s_h2 l0 l1 f_l0 e_q6) (fun v0 h0 hq => ?_)
      obtain ⟨rfl, hh0, s_q6⟩ := hq
      rw [hh0] at s_q6 ⊢
      simp only [Option.toList_some, List.cons_append, List.nil_append]
      refine pw_go (pc := 143) (t := 150) d183_143 (by decide) ?_
      obtain ⟨g7, hm⟩ := gd_x hm
      obtain rfl := Option.some.inj hm
      refine pw_ri (pc := 150) d183_150 t183 (pm_nz (mi_bo_x g7)) ?_
      exact hE s_q6
  · rw [if_neg c1] at hm
    refine pw_l (pc := 117) d183_117 rfl rfl rfl ?_
    refine pw_s (pc := 118) d183_118 rfl rfl ?_
    refine pw_l (pc := 119) d183_119 rfl rfl rfl ?_
    obtain ⟨q8, e_q8, hm⟩ := ob_x hm
    refine pw_v (pc := 120) (k := l0) (by omega) d183_120 (k183_105 b) (by decide) m154 (by decide) rfl (sho s_h f_l0) (Nat.le_of_ble_eq_true rfl) (Nat.le_of_ble_eq_true rfl) rfl rfl (T_m_fails b L xs (d - 1) (by omega) h s_h l0 (Int32.ofInt 4) l1 f_l0 e_q8) (fun v0 h0 hq => ?_)
    obtain ⟨rfl, hh0, s_q8⟩ := hq
    rw [hh0] at s_q8 ⊢
    simp only [Option.toList_some, List.cons_append, List.nil_append]
    obtain ⟨g9, hm⟩ := gd_x hm
    obtain rfl := Option.some.inj hm
    refine pw_ri (pc := 123) d183_123 t183 (pm_nz (mi_bo_x g9)) ?_
    exact hE s_q8
noncomputable def m_clauseHere_99 (l0 : Nat) (l1 : Int32) (l2 : Int32) (h : pm_H) : Option (Int32 × pm_H) := if l2 = 0 then (m_clauseHere_114 l0 l1 l2 ((Int8.ofInt 12).toInt32) (h.2.1 l0 14) h) else (m_clauseHere_114 l0 l1 l2 ((Int8.ofInt 40).toInt32) (h.2.1 l0 14) h)
theorem t_m_clauseHere_99 (b : Bool) (L : Nat) (xs : Nat → Int32) (d : Nat) (hd : 10 ≤ d) {Q : Option Value → pm_H → Prop} (h : pm_H) (s_h : h.1 = tb_SH) (l0 : Nat) (l1 : Int32) (l2 : Int32) (w3 : Value) (f_l0 : mi_o l0 10 = true) {r : (Int32 × pm_H)} (hm : m_clauseHere_99 l0 l1 l2 h = some r) (hE : r.2.1 = tb_SH → Q (some (Value.int r.1)) r.2) : PW b L xs d 183 0 0 99 [(Value.ref l0), (Value.int l1), (Value.int l2), w3] [] h Q := by
  rw [m_clauseHere_99] at hm
  refine pw_l (pc := 99) d183_99 rfl rfl rfl ?_
  refine pw_gi (pc := 100) d183_100 (k183_234 b) (sho s_h f_l0) f10_14 ?_
  refine pw_l (pc := 103) d183_103 rfl rfl rfl ?_
  refine pw_zeq (pc := 104) (t := 112) d183_104 (by decide) (fun c1 => ?_) (fun c1 => ?_)
  · rw [if_pos c1] at hm
    refine pw_s (pc := 112) d183_112 rfl rfl ?_
    exact t_m_clauseHere_114 b L xs d hd h s_h l0 l1 l2 ((Int8.ofInt 12).toInt32) (h.2.1 l0 14) w3 f_l0  hm hE
  · rw [if_neg c1] at hm
    refine pw_s (pc := 107) d183_107 rfl rfl ?_
    refine pw_go (pc := 109) (t := 114) d183_109 (by decide) ?_
    exact t_m_clauseHere_114 b L xs d hd h s_h l0 l1 l2 ((Int8.ofInt 40).toInt32) (h.2.1 l0 14) w3 f_l0  hm hE
noncomputable def m_clauseHere_92 (l0 : Nat) (l1 : Int32) (h : pm_H) : Option (Int32 × pm_H) := (m_fails l0 (Int32.ofInt 0) l1 h).bind fun q1 => if mi_bo q1.1 = true then some (q1.1, q1.2) else none
theorem t_m_clauseHere_92 (b : Bool) (L : Nat) (xs : Nat → Int32) (d : Nat) (hd : 10 ≤ d) {Q : Option Value → pm_H → Prop} (h : pm_H) (s_h : h.1 = tb_SH) (l0 : Nat) (l1 : Int32) (w2 : Value) (w3 : Value) (f_l0 : mi_o l0 10 = true) {r : (Int32 × pm_H)} (hm : m_clauseHere_92 l0 l1 h = some r) (hE : r.2.1 = tb_SH → Q (some (Value.int r.1)) r.2) : PW b L xs d 183 0 0 92 [(Value.ref l0), (Value.int l1), w2, w3] [] h Q := by
  rw [m_clauseHere_92] at hm
  refine pw_l (pc := 92) d183_92 rfl rfl rfl ?_
  refine pw_s (pc := 93) d183_93 rfl rfl ?_
  refine pw_l (pc := 94) d183_94 rfl rfl rfl ?_
  obtain ⟨q1, e_q1, hm⟩ := ob_x hm
  refine pw_v (pc := 95) (k := l0) (by omega) d183_95 (k183_105 b) (by decide) m154 (by decide) rfl (sho s_h f_l0) (Nat.le_of_ble_eq_true rfl) (Nat.le_of_ble_eq_true rfl) rfl rfl (T_m_fails b L xs (d - 1) (by omega) h s_h l0 (Int32.ofInt 0) l1 f_l0 e_q1) (fun v0 h0 hq => ?_)
  obtain ⟨rfl, hh0, s_q1⟩ := hq
  rw [hh0] at s_q1 ⊢
  simp only [Option.toList_some, List.cons_append, List.nil_append]
  obtain ⟨g2, hm⟩ := gd_x hm
  obtain rfl := Option.some.inj hm
  refine pw_ri (pc := 98) d183_98 t183 (pm_nz (mi_bo_x g2)) ?_
  exact hE s_q1
noncomputable def m_clauseHere_70 (l0 : Nat) (l1 : Int32) (l2 : Int32) (z0 : Int32) (h : pm_H) : Option (Int32 × pm_H) := if l2 = 0 then ((m_isWord l0 (2002873189 : Int64) h).bind fun q2 => if ¬ q2.1 = 0 then (m_clauseHere_99 l0 l1 l2 q2.2) else (m_clauseHere_92 l0 l1 q2.2)) else (if ¬ z0 = 0 then (m_clauseHere_99 l0 l1 l2 h) else (m_clauseHere_92 l0 l1 h))
theorem t_m_clauseHere_70 (b : Bool) (L : Nat) (xs : Nat → Int32) (d : Nat) (hd : 10 ≤ d) {Q : Option Value → pm_H → Prop} (h : pm_H) (s_h : h.1 = tb_SH) (l0 : Nat) (l1 : Int32) (l2 : Int32) (z0 : Int32) (w3 : Value) (f_l0 : mi_o l0 10 = true) {r : (Int32 × pm_H)} (hm : m_clauseHere_70 l0 l1 l2 z0 h = some r) (hE : r.2.1 = tb_SH → Q (some (Value.int r.1)) r.2) : PW b L xs d 183 0 0 70 [(Value.ref l0), (Value.int l1), (Value.int l2), w3] [(Value.int z0)] h Q := by
  rw [m_clauseHere_70] at hm
  refine pw_t (pc := 70) d183_70 rfl rfl rfl rfl ?_
  refine pw_l (pc := 71) d183_71 rfl rfl rfl ?_
  refine pw_zeq (pc := 72) (t := 82) d183_72 (by decide) (fun c1 => ?_) (fun c1 => ?_)
  · rw [if_pos c1] at hm
    refine pw_l (pc := 82) d183_82 rfl rfl rfl ?_
    refine pw_cl (pc := 83) d183_83 (k183_232 b) ?_
    obtain ⟨q2, e_q2, hm⟩ := ob_x hm
    refine pw_v (pc := 86) (k := l0) (by omega) d183_86 (k183_95 b) (by decide) m158 (by decide) rfl (sho s_h f_l0) (Nat.le_of_ble_eq_true rfl) (Nat.le_of_ble_eq_true rfl) rfl rfl (T_m_isWord b L xs (d - 1) (by omega) h s_h l0 (2002873189 : Int64) f_l0 e_q2) (fun v0 h0 hq => ?_)
    obtain ⟨rfl, hh0, s_q2⟩ := hq
    rw [hh0] at s_q2 ⊢
    simp only [Option.toList_some, List.cons_append, List.nil_append]
    refine pw_zne (pc := 89) (t := 99) d183_89 (by decide) (fun c3 => ?_) (fun c3 => ?_)
    · rw [if_pos c3] at hm
      exact t_m_clauseHere_99 b L xs d hd q2.2 s_q2 l0 l1 l2 (Value.int z0) f_l0  hm hE
    · rw [if_neg c3] at hm
      exact t_m_clauseHere_92 b L xs d hd q2.2 s_q2 l0 l1 (Value.int l2) (Value.int z0) f_l0  hm hE
  · rw [if_neg c1] at hm
    refine pw_l (pc := 75) d183_75 rfl rfl rfl ?_
    refine pw_zne (pc := 76) (t := 99) d183_76 (by decide) (fun c4 => ?_) (fun c4 => ?_)
    · rw [if_pos c4] at hm
      exact t_m_clauseHere_99 b L xs d hd h s_h l0 l1 l2 (Value.int z0) f_l0  hm hE
    · rw [if_neg c4] at hm
      refine pw_go (pc := 79) (t := 92) d183_79 (by decide) ?_
      exact t_m_clauseHere_92 b L xs d hd h s_h l0 l1 (Value.int l2) (Value.int z0) f_l0  hm hE
noncomputable def m_clauseHere_65 (l0 : Nat) (l1 : Int32) (l2 : Int32) (h : pm_H) : Option (Int32 × pm_H) := m_clauseHere_70 l0 l1 l2 (Int32.ofInt 1) h
theorem t_m_clauseHere_65 (b : Bool) (L : Nat) (xs : Nat → Int32) (d : Nat) (hd : 10 ≤ d) {Q : Option Value → pm_H → Prop} (h : pm_H) (s_h : h.1 = tb_SH) (l0 : Nat) (l1 : Int32) (l2 : Int32) (w3 : Value) (f_l0 : mi_o l0 10 = true) {r : (Int32 × pm_H)} (hm : m_clauseHere_65 l0 l1 l2 h = some r) (hE : r.2.1 = tb_SH → Q (some (Value.int r.1)) r.2) : PW b L xs d 183 0 0 65 [(Value.ref l0), (Value.int l1), (Value.int l2), w3] [] h Q := by
  rw [m_clauseHere_65] at hm
  refine pw_s (pc := 65) d183_65 rfl rfl ?_
  refine pw_go (pc := 66) (t := 70) d183_66 (by decide) ?_
  exact t_m_clauseHere_70 b L xs d hd h s_h l0 l1 l2 (Int32.ofInt 1) w3 f_l0  hm hE
noncomputable def m_clauseHere_24 (l0 : Nat) (l1 : Int32) (z0 : Int32) (h : pm_H) : Option (Int32 × pm_H) := (m_isWord l0 (1936222576 : Int64) h).bind fun q1 => if ¬ q1.1 = 0 then (m_clauseHere_65 l0 l1 z0 q1.2) else ((m_isWord l0 (7168366 : Int64) q1.2).bind fun q3 => if ¬ q3.1 = 0 then (m_clauseHere_65 l0 l1 z0 q3.2) else ((m_isWord l0 (478660552050 : Int64) q3.2).bind fun q5 => if ¬ q5.1 = 0 then (m_clauseHere_65 l0 l1 z0 q5.2) else ((m_isWord l0 (469852319347 : Int64) q5.2).bind fun q7 => if q7.1 = 0 then (m_clauseHere_70 l0 l1 z0 (Int32.ofInt 0) q7.2) else (m_clauseHere_65 l0 l1 z0 q7.2))))
theorem t_m_clauseHere_24 (b : Bool) (L : Nat) (xs : Nat → Int32) (d : Nat) (hd : 10 ≤ d) {Q : Option Value → pm_H → Prop} (h : pm_H) (s_h : h.1 = tb_SH) (l0 : Nat) (l1 : Int32) (z0 : Int32) (w2 : Value) (w3 : Value) (f_l0 : mi_o l0 10 = true) {r : (Int32 × pm_H)} (hm : m_clauseHere_24 l0 l1 z0 h = some r) (hE : r.2.1 = tb_SH → Q (some (Value.int r.1)) r.2) : PW b L xs d 183 0 0 24 [(Value.ref l0), (Value.int l1), w2, w3] [(Value.int z0)] h Q := by
  rw [m_clauseHere_24] at hm
  refine pw_t (pc := 24) d183_24 rfl rfl rfl rfl ?_
  refine pw_l (pc := 25) d183_25 rfl rfl rfl ?_
  refine pw_cl (pc := 26) d183_26 (k183_214 b) ?_
  obtain ⟨q1, e_q1, hm⟩ := ob_x hm
  refine pw_v (pc := 29) (k := l0) (by omega) d183_29 (k183_95 b) (by decide) m158 (by decide) rfl (sho s_h f_l0) (Nat.le_of_ble_eq_true rfl) (Nat.le_of_ble_eq_true rfl) rfl rfl (T_m_isWord b L xs (d - 1) (by omega) h s_h l0 (1936222576 : Int64) f_l0 e_q1) (fun v0 h0 hq => ?_)
  obtain ⟨rfl, hh0, s_q1⟩ := hq
  rw [hh0] at s_q1 ⊢
  simp only [Option.toList_some, List.cons_append, List.nil_append]
  refine pw_zne (pc := 32) (t := 65) d183_32 (by decide) (fun c2 => ?_) (fun c2 => ?_)
  · rw [if_pos c2] at hm
    exact t_m_clauseHere_65 b L xs d hd q1.2 s_q1 l0 l1 z0 w3 f_l0  hm hE
  · rw [if_neg c2] at hm
    refine pw_l (pc := 35) d183_35 rfl rfl rfl ?_
    refine pw_cl (pc := 36) d183_36 (k183_116 b) ?_
    obtain ⟨q3, e_q3, hm⟩ := ob_x hm
    refine pw_v (pc := 39) (k := l0) (by omega) d183_39 (k183_95 b) (by decide) m158 (by decide) rfl (sho s_q1 f_l0) (Nat.le_of_ble_eq_true rfl) (Nat.le_of_ble_eq_true rfl) rfl rfl (T_m_isWord b L xs (d - 1) (by omega) q1.2 s_q1 l0 (7168366 : Int64) f_l0 e_q3) (fun v0 h0 hq => ?_)
    obtain ⟨rfl, hh0, s_q3⟩ := hq
    rw [hh0] at s_q3 ⊢
    simp only [Option.toList_some, List.cons_append, List.nil_append]
    refine pw_zne (pc := 42) (t := 65) d183_42 (by decide) (fun c4 => ?_) (fun c4 => ?_)
    · rw [if_pos c4] at hm
      exact t_m_clauseHere_65 b L xs d hd q3.2 s_q3 l0 l1 z0 w3 f_l0  hm hE
    · rw [if_neg c4] at hm
      refine pw_l (pc := 45) d183_45 rfl rfl rfl ?_
      refine pw_cl (pc := 46) d183_46 (k183_222 b) ?_
      obtain ⟨q5, e_q5, hm⟩ := ob_x hm
      refine pw_v (pc := 49) (k := l0) (by omega) d183_49 (k183_95 b) (by decide) m158 (by decide) rfl (sho s_q3 f_l0) (Nat.le_of_ble_eq_true rfl) (Nat.le_of_ble_eq_true rfl) rfl rfl (T_m_isWord b L xs (d - 1) (by omega) q3.2 s_q3 l0 (478660552050 : Int64) f_l0 e_q5) (fun v0 h0 hq => ?_)
      obtain ⟨rfl, hh0, s_q5⟩ := hq
      rw [hh0] at s_q5 ⊢
      simp only [Option.toList_some, List.cons_append, List.nil_append]
      refine pw_zne (pc := 52) (t := 65) d183_52 (by decide) (fun c6 => ?_) (fun c6 => ?_)
      · rw [if_pos c6] at hm
        exact t_m_clauseHere_65 b L xs d hd q5.2 s_q5 l0 l1 z0 w3 f_l0  hm hE
      · rw [if_neg c6] at hm
        refine pw_l (pc := 55) d183_55 rfl rfl rfl ?_
        refine pw_cl (pc := 56) d183_56 (k183_230 b) ?_
        obtain ⟨q7, e_q7, hm⟩ := ob_x hm
        refine pw_v (pc := 59) (k := l0) (by omega) d183_59 (k183_95 b) (by decide) m158 (by decide) rfl (sho s_q5 f_l0) (Nat.le_of_ble_eq_true rfl) (Nat.le_of_ble_eq_true rfl) rfl rfl (T_m_isWord b L xs (d - 1) (by omega) q5.2 s_q5 l0 (469852319347 : Int64) f_l0 e_q7) (fun v0 h0 hq => ?_)
        obtain ⟨rfl, hh0, s_q7⟩ := hq
        rw [hh0] at s_q7 ⊢
        simp only [Option.toList_some, List.cons_append, List.nil_append]
        refine pw_zeq (pc := 62) (t := 69) d183_62 (by decide) (fun c8 => ?_) (fun c8 => ?_)
        · rw [if_pos c8] at hm
          refine pw_s (pc := 69) d183_69 rfl rfl ?_
          exact t_m_clauseHere_70 b L xs d hd q7.2 s_q7 l0 l1 z0 (Int32.ofInt 0) w3 f_l0  hm hE
        · rw [if_neg c8] at hm
          exact t_m_clauseHere_65 b L xs d hd q7.2 s_q7 l0 l1 z0 w3 f_l0  hm hE
noncomputable def m_clauseHere (l0 : Nat) (h : pm_H) : Option (Int32 × pm_H) := (m_see l0 h).bind fun q1 => if ¬ (q1.2.2.1 l0 11) = (Int8.ofInt 6).toInt32 then (m_clauseHere_24 l0 (q1.2.2.1 l0 8) (Int32.ofInt 0) q1.2) else (m_clauseHere_24 l0 (q1.2.2.1 l0 8) (Int32.ofInt 1) q1.2)
theorem T_m_clauseHere (b : Bool) (L : Nat) (xs : Nat → Int32) (d : Nat) (hd : 10 ≤ d) (h : pm_H) (s_h : h.1 = tb_SH) (l0 : Nat) (f_l0 : mi_o l0 10 = true) {r : (Int32 × pm_H)} (hm : m_clauseHere l0 h = some r) : PC b L xs d 183 [(Value.ref l0)] h (fun (v0 : Option Value) (h2 : pm_H) => v0 = (some (Value.int r.1)) ∧ h2 = r.2 ∧ h2.1 = tb_SH) := by
  refine pc_in e183 (ls0 := [(Value.ref l0), Value.retAddr 0, Value.retAddr 0, Value.retAddr 0]) rfl ?_
  have key : ∀ (Q : Option Value → pm_H → Prop), (r.2.1 = tb_SH → Q (some (Value.int r.1)) r.2) → PW b L xs d 183 0 0 0 [(Value.ref l0), Value.retAddr 0, Value.retAddr 0, Value.retAddr 0] [] h Q := by
    intro Q hE
    rw [m_clauseHere] at hm
    refine pw_l (pc := 0) d183_0 rfl rfl rfl ?_
    obtain ⟨q1, e_q1, hm⟩ := ob_x hm
    refine pw_v (pc := 1) (k := l0) (by omega) d183_1 (k183_87 b) (by decide) m155 (by decide) rfl (sho s_h f_l0) (Nat.le_of_ble_eq_true rfl) (Nat.le_of_ble_eq_true rfl) rfl rfl (T_m_see b L xs (d - 1) (by omega) h s_h l0 f_l0 e_q1) (fun v0 h0 hq => ?_)
    obtain ⟨rfl, hh0, s_q1⟩ := hq
    rw [hh0] at s_q1 ⊢
    simp only [Option.toList_some, List.cons_append, List.nil_append]
    refine pw_s (pc := 4) d183_4 rfl rfl ?_
    refine pw_l (pc := 5) d183_5 rfl rfl rfl ?_
    refine pw_gi (pc := 6) d183_6 (k183_84 b) (sho s_q1 f_l0) f10_8 ?_
    refine pw_t (pc := 9) d183_9 rfl rfl rfl rfl ?_
    refine pw_l (pc := 10) d183_10 rfl rfl rfl ?_
    refine pw_gi (pc := 11) d183_11 (k183_138 b) (sho s_q1 f_l0) f10_11 ?_
    refine pw_s (pc := 14) d183_14 rfl rfl ?_
    refine pw_ine (pc := 16) (t := 23) d183_16 (by decide) (fun c2 => ?_) (fun c2 => ?_)
    · rw [if_pos c2] at hm
      refine pw_s (pc := 23) d183_23 rfl rfl ?_
      exact t_m_clauseHere_24 b L xs d hd q1.2 s_q1 l0 (q1.2.2.1 l0 8) (Int32.ofInt 0) (Value.retAddr 0) (Value.retAddr 0) f_l0  hm hE
    · rw [if_neg c2] at hm
      refine pw_s (pc := 19) d183_19 rfl rfl ?_
      refine pw_go (pc := 20) (t := 24) d183_20 (by decide) ?_
      exact t_m_clauseHere_24 b L xs d hd q1.2 s_q1 l0 (q1.2.2.1 l0 8) (Int32.ofInt 1) (Value.retAddr 0) (Value.retAddr 0) f_l0  hm hE
  exact key _ (fun q => ⟨rfl, rfl, q⟩)
def E_m_readsAll_35 (b : Bool) (L : Nat) (xs : Nat → Int32) (d : Nat) (Q : Option Value → pm_H → Prop) (l0 : Nat) : ((Int32 × pm_H) ⊕ (Int32 × pm_H)) → Prop
  | .inl s => s.2.1 = tb_SH → PW b L xs d 184 0 0 35 [(Value.ref l0), (Value.int s.1)] [] s.2 Q
  | .inr e => e.2.1 = tb_SH → PW b L xs d 184 0 0 66 [(Value.ref l0), (Value.int e.1)] [] e.2 Q
noncomputable def m_readsAll_88 (l0 : Nat) (h : pm_H) : Option (Int32 × pm_H) := bd (pm_setI h l0 1 (Int32.ofInt 0)) fun h1 => if ¬ (h1.2.1 l0 9) = 0 then (some ((Int32.ofInt 0), h1)) else (some ((Int32.ofInt 1), h1))
theorem t_m_readsAll_88 (b : Bool) (L : Nat) (xs : Nat → Int32) (d : Nat) (hd : 11 ≤ d) {Q : Option Value → pm_H → Prop} (h : pm_H) (s_h : h.1 = tb_SH) (l0 : Nat) (w1 : Value) (f_l0 : mi_o l0 10 = true) {r : (Int32 × pm_H)} (hm : m_readsAll_88 l0 h = some r) (hE : r.2.1 = tb_SH → Q (some (Value.int r.1)) r.2) : PW b L xs d 184 0 0 88 [(Value.ref l0), w1] [] h Q := by
  rw [m_readsAll_88] at hm
  refine pw_l (pc := 88) d184_88 rfl rfl rfl ?_
  refine pw_s (pc := 89) d184_89 rfl rfl ?_
  refine pw_pi (pc := 90) d184_90 (k184_73 b) (sho s_h f_l0) p184_10_1 ?_
  obtain ⟨h1, e_h1, hm⟩ := bd_x hm
  rw [e_h1]
  have s_h1 : h1.1 = tb_SH := by rw [← e_h1]; exact s_h
  refine pw_l (pc := 93) d184_93 rfl rfl rfl ?_
  refine pw_gi (pc := 94) d184_94 (k184_81 b) (sho s_h1 f_l0) f10_9 ?_
  refine pw_zne (pc := 97) (t := 104) d184_97 (by decide) (fun c2 => ?_) (fun c2 => ?_)
  · rw [if_pos c2] at hm
    refine pw_s (pc := 104) d184_104 rfl rfl ?_
    obtain rfl := Option.some.inj hm
    refine pw_ri (pc := 105) d184_105 t184 rfl ?_
    exact hE s_h1
  · rw [if_neg c2] at hm
    refine pw_s (pc := 100) d184_100 rfl rfl ?_
    refine pw_go (pc := 101) (t := 105) d184_101 (by decide) ?_
    obtain rfl := Option.some.inj hm
    refine pw_ri (pc := 105) d184_105 t184 rfl ?_
    exact hE s_h1
noncomputable def m_readsAll_66 (l0 : Nat) (l1 : Int32) (h : pm_H) : Option (Int32 × pm_H) := if l1 = 0 then (m_readsAll_88 l0 h) else ((m_see l0 h).bind fun q2 => if q2.1 = (Int32.ofInt (-1)) then (m_readsAll_88 l0 q2.2) else ((m_fails l0 (Int32.ofInt 0) (q2.2.2.1 l0 8) q2.2).bind fun q4 => m_readsAll_88 l0 q4.2))
theorem t_m_readsAll_66 (b : Bool) (L : Nat) (xs : Nat → Int32) (d : Nat) (hd : 11 ≤ d) {Q : Option Value → pm_H → Prop} (h : pm_H) (s_h : h.1 = tb_SH) (l0 : Nat) (l1 : Int32) (f_l0 : mi_o l0 10 = true) {r : (Int32 × pm_H)} (hm : m_readsAll_66 l0 l1 h = some r) (hE : r.2.1 = tb_SH → Q (some (Value.int r.1)) r.2) : PW b L xs d 184 0 0 66 [(Value.ref l0), (Value.int l1)] [] h Q := by
  rw [m_readsAll_66] at hm
  refine pw_l (pc := 66) d184_66 rfl rfl rfl ?_
  refine pw_zeq (pc := 67) (t := 88) d184_67 (by decide) (fun c1 => ?_) (fun c1 => ?_)
  · rw [if_pos c1] at hm
    exact t_m_readsAll_88 b L xs d hd h s_h l0 (Value.int l1) f_l0  hm hE
  · rw [if_neg c1] at hm
    refine pw_l (pc := 70) d184_70 rfl rfl rfl ?_
    obtain ⟨q2, e_q2, hm⟩ := ob_x hm
    refine pw_v (pc := 71) (k := l0) (by omega) d184_71 (k184_87 b) (by decide) m155 (by decide) rfl (sho s_h f_l0) (Nat.le_of_ble_eq_true rfl) (Nat.le_of_ble_eq_true rfl) rfl rfl (T_m_see b L xs (d - 1) (by omega) h s_h l0 f_l0 e_q2) (fun v0 h0 hq => ?_)
    obtain ⟨rfl, hh0, s_q2⟩ := hq
    rw [hh0] at s_q2 ⊢
    simp only [Option.toList_some, List.cons_append, List.nil_append]
    refine pw_s (pc := 74) d184_74 rfl rfl ?_
    refine pw_ieq (pc := 75) (t := 88) d184_75 (by decide) (fun c3 => ?_) (fun c3 => ?_)
    · rw [if_pos c3] at hm
      exact t_m_readsAll_88 b L xs d hd q2.2 s_q2 l0 (Value.int l1) f_l0  hm hE
    · rw [if_neg c3] at hm
      refine pw_l (pc := 78) d184_78 rfl rfl rfl ?_
      refine pw_s (pc := 79) d184_79 rfl rfl ?_
      refine pw_l (pc := 80) d184_80 rfl rfl rfl ?_
      refine pw_gi (pc := 81) d184_81 (k184_84 b) (sho s_q2 f_l0) f10_8 ?_
      obtain ⟨q4, e_q4, hm⟩ := ob_x hm
      refine pw_v (pc := 84) (k := l0) (by omega) d184_84 (k184_105 b) (by decide) m154 (by decide) rfl (sho s_q2 f_l0) (Nat.le_of_ble_eq_true rfl) (Nat.le_of_ble_eq_true rfl) rfl rfl (T_m_fails b L xs (d - 1) (by omega) q2.2 s_q2 l0 (Int32.ofInt 0) (q2.2.2.1 l0 8) f_l0 e_q4) (fun v0 h0 hq => ?_)
      obtain ⟨rfl, hh0, s_q4⟩ := hq
      rw [hh0] at s_q4 ⊢
      simp only [Option.toList_some, List.cons_append, List.nil_append]
      refine pw_s (pc := 87) d184_87 rfl rfl ?_
      exact t_m_readsAll_88 b L xs d hd q4.2 s_q4 l0 (Value.int l1) f_l0  hm hE
noncomputable def m_readsAll_35 (l0 : Nat) (l1 : Int32) (h : pm_H) : Option ((Int32 × pm_H) ⊕ (Int32 × pm_H)) := if l1 = 0 then (some (.inr (l1, h))) else ((m_see l0 h).bind fun q2 => if ¬ q2.1 = (Int8.ofInt 59).toInt32 then (some (.inr (l1, q2.2))) else (bd (pm_setI q2.2 l0 8 ((q2.2.2.1 l0 8) + (Int32.ofInt 1))) fun h4 => (m_clauseHere l0 h4).bind fun q5 => some (.inl (q5.1, q5.2))))
theorem t_m_readsAll_35 (b : Bool) (L : Nat) (xs : Nat → Int32) (d : Nat) (hd : 11 ≤ d) {Q : Option Value → pm_H → Prop} (h : pm_H) (s_h : h.1 = tb_SH) (l0 : Nat) (l1 : Int32) (f_l0 : mi_o l0 10 = true) {r : ((Int32 × pm_H) ⊕ (Int32 × pm_H))} (hm : m_readsAll_35 l0 l1 h = some r) (hE : E_m_readsAll_35 b L xs d Q l0 r) : PW b L xs d 184 0 0 35 [(Value.ref l0), (Value.int l1)] [] h Q := by
  rw [m_readsAll_35] at hm
  refine pw_l (pc := 35) d184_35 rfl rfl rfl ?_
  refine pw_zeq (pc := 36) (t := 66) d184_36 (by decide) (fun c1 => ?_) (fun c1 => ?_)
  · rw [if_pos c1] at hm
    obtain rfl := Option.some.inj hm
    exact hE s_h  
  · rw [if_neg c1] at hm
    refine pw_l (pc := 39) d184_39 rfl rfl rfl ?_
    obtain ⟨q2, e_q2, hm⟩ := ob_x hm
    refine pw_v (pc := 40) (k := l0) (by omega) d184_40 (k184_87 b) (by decide) m155 (by decide) rfl (sho s_h f_l0) (Nat.le_of_ble_eq_true rfl) (Nat.le_of_ble_eq_true rfl) rfl rfl (T_m_see b L xs (d - 1) (by omega) h s_h l0 f_l0 e_q2) (fun v0 h0 hq => ?_)
    obtain ⟨rfl, hh0, s_q2⟩ := hq
    rw [hh0] at s_q2 ⊢
    simp only [Option.toList_some, List.cons_append, List.nil_append]
    refine pw_s (pc := 43) d184_43 rfl rfl ?_
    refine pw_ine (pc := 45) (t := 66) d184_45 (by decide) (fun c3 => ?_) (fun c3 => ?_)
    · rw [if_pos c3] at hm
      obtain rfl := Option.some.inj hm
      exact hE s_q2  
    · rw [if_neg c3] at hm
      refine pw_l (pc := 48) d184_48 rfl rfl rfl ?_
      refine pw_s (pc := 49) d184_49 rfl rfl ?_
      refine pw_gi (pc := 50) d184_50 (k184_84 b) (sho s_q2 f_l0) f10_8 ?_
      refine pw_s (pc := 53) d184_53 rfl rfl ?_
      refine pw_s (pc := 54) d184_54 rfl rfl ?_
      refine pw_pi (pc := 55) d184_55 (k184_84 b) (sho s_q2 f_l0) p184_10_8 ?_
      obtain ⟨h4, e_h4, hm⟩ := bd_x hm
      rw [e_h4]
      have s_h4 : h4.1 = tb_SH := by rw [← e_h4]; exact s_q2
      refine pw_l (pc := 58) d184_58 rfl rfl rfl ?_
      obtain ⟨q5, e_q5, hm⟩ := ob_x hm
      refine pw_v (pc := 59) (k := l0) (by omega) d184_59 (k184_243 b) (by decide) m183 (by decide) rfl (sho s_h4 f_l0) (Nat.le_of_ble_eq_true rfl) (Nat.le_of_ble_eq_true rfl) rfl rfl (T_m_clauseHere b L xs (d - 1) (by omega) h4 s_h4 l0 f_l0 e_q5) (fun v0 h0 hq => ?_)
      obtain ⟨rfl, hh0, s_q5⟩ := hq
      rw [hh0] at s_q5 ⊢
      simp only [Option.toList_some, List.cons_append, List.nil_append]
      refine pw_t (pc := 62) d184_62 rfl rfl rfl rfl ?_
      refine pw_go (pc := 63) (t := 35) d184_63 (by decide) ?_
      obtain rfl := Option.some.inj hm
      exact hE s_q5  
noncomputable def m_readsAll (l0 : Nat) (h : pm_H) : Option (Int32 × pm_H) := (gA h l0 4 .int).bind fun y1 => if mi_in (h.2.1 l0 11) (mi_n y1) = true then bd (pm_setI h y1 (h.2.1 l0 11).toNatClampNeg (Int32.ofInt 0)) fun h3 => bd (pm_setI h3 l0 14 (Int32.ofInt 0)) fun h4 => bd (pm_setI h4 l0 8 (Int32.ofInt 0)) fun h5 => bd (pm_setI h5 l0 9 (Int32.ofInt 0)) fun h6 => bd (pm_setI h6 l0 12 (Int32.ofInt 0)) fun h7 => (m_clauseHere l0 h7).bind fun q8 => (wh (fun s : (Int32 × pm_H) => m_readsAll_35 l0 s.1 s.2) (q8.1, q8.2)).bind fun q9 => m_readsAll_66 l0 q9.1 q9.2 else none
theorem T_m_readsAll (b : Bool) (L : Nat) (xs : Nat → Int32) (d : Nat) (hd : 11 ≤ d) (h : pm_H) (s_h : h.1 = tb_SH) (l0 : Nat) (f_l0 : mi_o l0 10 = true) {r : (Int32 × pm_H)} (hm : m_readsAll l0 h = some r) : PC b L xs d 184 [(Value.ref l0)] h (fun (v0 : Option Value) (h2 : pm_H) => v0 = (some (Value.int r.1)) ∧ h2 = r.2 ∧ h2.1 = tb_SH) := by
  refine pc_in e184 (ls0 := [(Value.ref l0), Value.retAddr 0]) rfl ?_
  have key : ∀ (Q : Option Value → pm_H → Prop), (r.2.1 = tb_SH → Q (some (Value.int r.1)) r.2) → PW b L xs d 184 0 0 0 [(Value.ref l0), Value.retAddr 0] [] h Q := by
    intro Q hE
    rw [m_readsAll] at hm
    refine pw_l (pc := 0) d184_0 rfl rfl rfl ?_
    obtain ⟨y1, e_y1, hm⟩ := ob_x hm
    have f_y1 := gA_x e_y1
    refine pw_gr (pc := 1) d184_1 (k184_17 b) (sho s_h f_l0) f10_4 f_y1.1 ?_
    refine pw_l (pc := 4) d184_4 rfl rfl rfl ?_
    refine pw_gi (pc := 5) d184_5 (k184_138 b) (sho s_h f_l0) f10_11 ?_
    refine pw_s (pc := 8) d184_8 rfl rfl ?_
    obtain ⟨g2, hm⟩ := gd_x hm
    refine pw_si (pc := 9) d184_9 (sha s_h f_y1.2) (mi_in_x g2) ?_
    obtain ⟨h3, e_h3, hm⟩ := bd_x hm
    rw [e_h3]
    have s_h3 : h3.1 = tb_SH := by rw [← e_h3]; exact s_h
    refine pw_l (pc := 10) d184_10 rfl rfl rfl ?_
    refine pw_s (pc := 11) d184_11 rfl rfl ?_
    refine pw_pi (pc := 12) d184_12 (k184_234 b) (sho s_h3 f_l0) p184_10_14 ?_
    obtain ⟨h4, e_h4, hm⟩ := bd_x hm
    rw [e_h4]
    have s_h4 : h4.1 = tb_SH := by rw [← e_h4]; exact s_h3
    refine pw_l (pc := 15) d184_15 rfl rfl rfl ?_
    refine pw_s (pc := 16) d184_16 rfl rfl ?_
    refine pw_pi (pc := 17) d184_17 (k184_84 b) (sho s_h4 f_l0) p184_10_8 ?_
    obtain ⟨h5, e_h5, hm⟩ := bd_x hm
    rw [e_h5]
    have s_h5 : h5.1 = tb_SH := by rw [← e_h5]; exact s_h4
    refine pw_l (pc := 20) d184_20 rfl rfl rfl ?_
    refine pw_s (pc := 21) d184_21 rfl rfl ?_
    refine pw_pi (pc := 22) d184_22 (k184_81 b) (sho s_h5 f_l0) p184_10_9 ?_
    obtain ⟨h6, e_h6, hm⟩ := bd_x hm
    rw [e_h6]
    have s_h6 : h6.1 = tb_SH := by rw [← e_h6]; exact s_h5
    refine pw_l (pc := 25) d184_25 rfl rfl rfl ?_
    refine pw_s (pc := 26) d184_26 rfl rfl ?_
    refine pw_pi (pc := 27) d184_27 (k184_141 b) (sho s_h6 f_l0) p184_10_12 ?_
    obtain ⟨h7, e_h7, hm⟩ := bd_x hm
    rw [e_h7]
    have s_h7 : h7.1 = tb_SH := by rw [← e_h7]; exact s_h6
    refine pw_l (pc := 30) d184_30 rfl rfl rfl ?_
    obtain ⟨q8, e_q8, hm⟩ := ob_x hm
    refine pw_v (pc := 31) (k := l0) (by omega) d184_31 (k184_243 b) (by decide) m183 (by decide) rfl (sho s_h7 f_l0) (Nat.le_of_ble_eq_true rfl) (Nat.le_of_ble_eq_true rfl) rfl rfl (T_m_clauseHere b L xs (d - 1) (by omega) h7 s_h7 l0 f_l0 e_q8) (fun v0 h0 hq => ?_)
    obtain ⟨rfl, hh0, s_q8⟩ := hq
    rw [hh0] at s_q8 ⊢
    simp only [Option.toList_some, List.cons_append, List.nil_append]
    refine pw_t (pc := 34) d184_34 rfl rfl rfl rfl ?_
    obtain ⟨q9, e_q9, hm⟩ := ob_x hm
    refine wh_ind e_q9 (fun s : (Int32 × pm_H) => s.2.1 = tb_SH → PW b L xs d 184 0 0 35 [(Value.ref l0), (Value.int s.1)] [] s.2 Q) (fun s s2 hf ih sx => t_m_readsAll_35 b L xs d hd s.2 sx l0 s.1  f_l0 hf ih) (fun s hf sx => t_m_readsAll_35 b L xs d hd s.2 sx l0 s.1  f_l0 hf ?_) s_q8  
    intro s_q9_0
    exact t_m_readsAll_66 b L xs d hd q9.2 s_q9_0 l0 q9.1  f_l0  hm hE
  exact key _ (fun q => ⟨rfl, rfl, q⟩)
