/-! Walked by wip/walk.py. -/
theorem d150_0 : decode (tb_me 150).1.2.1 0 = .ok (.iconst 0, 1) := by decide +kernel
theorem d150_1 : decode (tb_me 150).1.2.1 1 = .ok (.istore_n 1, 1) := by decide +kernel
theorem d150_2 : decode (tb_me 150).1.2.1 2 = .ok (.iload_n 0, 1) := by decide +kernel
theorem d150_3 : decode (tb_me 150).1.2.1 3 = .ok (.istore_n 2, 1) := by decide +kernel
theorem d150_4 : decode (tb_me 150).1.2.1 4 = .ok (.iload_n 2, 1) := by decide +kernel
theorem d150_5 : decode (tb_me 150).1.2.1 5 = .ok (.ifCond .eq 15, 3) := by decide +kernel
theorem d150_20 : decode (tb_me 150).1.2.1 20 = .ok (.iload_n 1, 1) := by decide +kernel
theorem d150_21 : decode (tb_me 150).1.2.1 21 = .ok (.ireturn, 1) := by decide +kernel
theorem t150 : (tb_me 150).1.2.2.2 = some .int := by decide +kernel
theorem d150_8 : decode (tb_me 150).1.2.1 8 = .ok (.iinc 1 1, 3) := by decide +kernel
theorem d150_11 : decode (tb_me 150).1.2.1 11 = .ok (.iload_n 2, 1) := by decide +kernel
theorem d150_12 : decode (tb_me 150).1.2.1 12 = .ok (.iload_n 2, 1) := by decide +kernel
theorem d150_13 : decode (tb_me 150).1.2.1 13 = .ok (.iconst 1, 1) := by decide +kernel
theorem d150_14 : decode (tb_me 150).1.2.1 14 = .ok (.isub, 1) := by decide +kernel
theorem d150_15 : decode (tb_me 150).1.2.1 15 = .ok (.iand, 1) := by decide +kernel
theorem d150_16 : decode (tb_me 150).1.2.1 16 = .ok (.istore_n 2, 1) := by decide +kernel
theorem d150_17 : decode (tb_me 150).1.2.1 17 = .ok (.goto (-13), 3) := by decide +kernel
theorem d151_0 : decode (tb_me 151).1.2.1 0 = .ok (.bipush 24, 2) := by decide +kernel
theorem d151_2 : decode (tb_me 151).1.2.1 2 = .ok (.istore_n 2, 1) := by decide +kernel
theorem d151_3 : decode (tb_me 151).1.2.1 3 = .ok (.iload_n 2, 1) := by decide +kernel
theorem d151_4 : decode (tb_me 151).1.2.1 4 = .ok (.ifCond .lt 32, 3) := by decide +kernel
theorem d151_36 : decode (tb_me 151).1.2.1 36 = .ok (.return_, 1) := by decide +kernel
theorem t151 : (tb_me 151).1.2.2.2 = none := by decide +kernel
theorem d151_7 : decode (tb_me 151).1.2.1 7 = .ok (.aload_n 0, 1) := by decide +kernel
theorem d151_8 : decode (tb_me 151).1.2.1 8 = .ok (.getfield 7, 3) := by decide +kernel
theorem k151_7 (b : Bool) : tb_lk b 151 7 = (1, 10, 0, 0, 0) := by cases b <;> decide +kernel
theorem d151_11 : decode (tb_me 151).1.2.1 11 = .ok (.aload_n 0, 1) := by decide +kernel
theorem d151_12 : decode (tb_me 151).1.2.1 12 = .ok (.getfield 73, 3) := by decide +kernel
theorem k151_73 (b : Bool) : tb_lk b 151 73 = (1, 10, 1, 0, 0) := by cases b <;> decide +kernel
theorem d151_15 : decode (tb_me 151).1.2.1 15 = .ok (.iload_n 1, 1) := by decide +kernel
theorem d151_16 : decode (tb_me 151).1.2.1 16 = .ok (.iload_n 2, 1) := by decide +kernel
theorem d151_17 : decode (tb_me 151).1.2.1 17 = .ok (.ishr, 1) := by decide +kernel
theorem d151_18 : decode (tb_me 151).1.2.1 18 = .ok (.i2b, 1) := by decide +kernel
theorem d151_19 : decode (tb_me 151).1.2.1 19 = .ok (.bastore, 1) := by decide +kernel
theorem d151_20 : decode (tb_me 151).1.2.1 20 = .ok (.aload_n 0, 1) := by decide +kernel
theorem d151_21 : decode (tb_me 151).1.2.1 21 = .ok (.dup, 1) := by decide +kernel
theorem d151_22 : decode (tb_me 151).1.2.1 22 = .ok (.getfield 73, 3) := by decide +kernel
theorem d151_25 : decode (tb_me 151).1.2.1 25 = .ok (.iconst 1, 1) := by decide +kernel
theorem d151_26 : decode (tb_me 151).1.2.1 26 = .ok (.iadd, 1) := by decide +kernel
theorem d151_27 : decode (tb_me 151).1.2.1 27 = .ok (.putfield 73, 3) := by decide +kernel
theorem p151_10_1 : (1 < pm_nf tb_cl 10) ∧ tb_ft 10 1 = .int ∧ pm_fin tb_cl (tb_me 151).1.1 10 1 = true := by decide +kernel
theorem d151_30 : decode (tb_me 151).1.2.1 30 = .ok (.iinc 2 (-8), 3) := by decide +kernel
theorem d151_33 : decode (tb_me 151).1.2.1 33 = .ok (.goto (-30), 3) := by decide +kernel
theorem d152_0 : decode (tb_me 152).1.2.1 0 = .ok (.aload_n 0, 1) := by decide +kernel
theorem d152_1 : decode (tb_me 152).1.2.1 1 = .ok (.getfield 73, 3) := by decide +kernel
theorem k152_73 (b : Bool) : tb_lk b 152 73 = (1, 10, 1, 0, 0) := by cases b <;> decide +kernel
theorem d152_4 : decode (tb_me 152).1.2.1 4 = .ok (.bipush 20, 2) := by decide +kernel
theorem d152_6 : decode (tb_me 152).1.2.1 6 = .ok (.iadd, 1) := by decide +kernel
theorem d152_7 : decode (tb_me 152).1.2.1 7 = .ok (.sipush 400, 3) := by decide +kernel
theorem d152_10 : decode (tb_me 152).1.2.1 10 = .ok (.if_icmp .le 5, 3) := by decide +kernel
theorem d152_15 : decode (tb_me 152).1.2.1 15 = .ok (.aload_n 0, 1) := by decide +kernel
theorem d152_16 : decode (tb_me 152).1.2.1 16 = .ok (.iload_n 1, 1) := by decide +kernel
theorem d152_17 : decode (tb_me 152).1.2.1 17 = .ok (.invokevirtual 77, 3) := by decide +kernel
theorem k152_77 (b : Bool) : tb_lk b 152 77 = (2, 151, 0, 0, 0) := by cases b <;> decide +kernel
theorem d155_0 : decode (tb_me 155).1.2.1 0 = .ok (.aload_n 0, 1) := by decide +kernel
theorem d155_1 : decode (tb_me 155).1.2.1 1 = .ok (.getfield 84, 3) := by decide +kernel
theorem k155_84 (b : Bool) : tb_lk b 155 84 = (1, 10, 8, 0, 0) := by cases b <;> decide +kernel
theorem f10_8 : (8 < pm_nf tb_cl 10) ∧ tb_ft 10 8 ≠ .long ∧ pm_isR (tb_ft 10 8) = false := by decide +kernel
theorem d155_4 : decode (tb_me 155).1.2.1 4 = .ok (.aload_n 0, 1) := by decide +kernel
theorem d155_5 : decode (tb_me 155).1.2.1 5 = .ok (.getfield 73, 3) := by decide +kernel
theorem k155_73 (b : Bool) : tb_lk b 155 73 = (1, 10, 1, 0, 0) := by cases b <;> decide +kernel
theorem d155_8 : decode (tb_me 155).1.2.1 8 = .ok (.if_icmp .ge 30, 3) := by decide +kernel
theorem d155_38 : decode (tb_me 155).1.2.1 38 = .ok (.aload_n 0, 1) := by decide +kernel
theorem d155_39 : decode (tb_me 155).1.2.1 39 = .ok (.getfield 84, 3) := by decide +kernel
theorem d155_42 : decode (tb_me 155).1.2.1 42 = .ok (.aload_n 0, 1) := by decide +kernel
theorem d155_43 : decode (tb_me 155).1.2.1 43 = .ok (.getfield 73, 3) := by decide +kernel
theorem d155_46 : decode (tb_me 155).1.2.1 46 = .ok (.if_icmp .ge 19, 3) := by decide +kernel
theorem d155_65 : decode (tb_me 155).1.2.1 65 = .ok (.iconst (-1), 1) := by decide +kernel
theorem d155_66 : decode (tb_me 155).1.2.1 66 = .ok (.ireturn, 1) := by decide +kernel
theorem t155 : (tb_me 155).1.2.2.2 = some .int := by decide +kernel
theorem d155_49 : decode (tb_me 155).1.2.1 49 = .ok (.aload_n 0, 1) := by decide +kernel
theorem d155_50 : decode (tb_me 155).1.2.1 50 = .ok (.getfield 7, 3) := by decide +kernel
theorem k155_7 (b : Bool) : tb_lk b 155 7 = (1, 10, 0, 0, 0) := by cases b <;> decide +kernel
theorem d155_53 : decode (tb_me 155).1.2.1 53 = .ok (.aload_n 0, 1) := by decide +kernel
theorem d155_54 : decode (tb_me 155).1.2.1 54 = .ok (.getfield 84, 3) := by decide +kernel
theorem d155_57 : decode (tb_me 155).1.2.1 57 = .ok (.baload, 1) := by decide +kernel
theorem d155_58 : decode (tb_me 155).1.2.1 58 = .ok (.sipush 255, 3) := by decide +kernel
theorem d155_61 : decode (tb_me 155).1.2.1 61 = .ok (.iand, 1) := by decide +kernel
theorem d155_62 : decode (tb_me 155).1.2.1 62 = .ok (.goto 4, 3) := by decide +kernel
theorem d155_11 : decode (tb_me 155).1.2.1 11 = .ok (.aload_n 0, 1) := by decide +kernel
theorem d155_12 : decode (tb_me 155).1.2.1 12 = .ok (.getfield 7, 3) := by decide +kernel
theorem d155_15 : decode (tb_me 155).1.2.1 15 = .ok (.aload_n 0, 1) := by decide +kernel
theorem d155_16 : decode (tb_me 155).1.2.1 16 = .ok (.getfield 84, 3) := by decide +kernel
theorem d155_19 : decode (tb_me 155).1.2.1 19 = .ok (.baload, 1) := by decide +kernel
theorem d155_20 : decode (tb_me 155).1.2.1 20 = .ok (.bipush 32, 2) := by decide +kernel
theorem d155_22 : decode (tb_me 155).1.2.1 22 = .ok (.if_icmp .ne 16, 3) := by decide +kernel
theorem d155_25 : decode (tb_me 155).1.2.1 25 = .ok (.aload_n 0, 1) := by decide +kernel
theorem d155_26 : decode (tb_me 155).1.2.1 26 = .ok (.dup, 1) := by decide +kernel
theorem d155_27 : decode (tb_me 155).1.2.1 27 = .ok (.getfield 84, 3) := by decide +kernel
theorem d155_30 : decode (tb_me 155).1.2.1 30 = .ok (.iconst 1, 1) := by decide +kernel
theorem d155_31 : decode (tb_me 155).1.2.1 31 = .ok (.iadd, 1) := by decide +kernel
theorem d155_32 : decode (tb_me 155).1.2.1 32 = .ok (.putfield 84, 3) := by decide +kernel
theorem p155_10_8 : (8 < pm_nf tb_cl 10) ∧ tb_ft 10 8 = .int ∧ pm_fin tb_cl (tb_me 155).1.1 10 8 = true := by decide +kernel
theorem d155_35 : decode (tb_me 155).1.2.1 35 = .ok (.goto (-35), 3) := by decide +kernel
theorem d158_0 : decode (tb_me 158).1.2.1 0 = .ok (.aload_n 0, 1) := by decide +kernel
theorem d158_1 : decode (tb_me 158).1.2.1 1 = .ok (.invokevirtual 87, 3) := by decide +kernel
theorem k158_87 (b : Bool) : tb_lk b 158 87 = (2, 155, 0, 0, 0) := by cases b <;> decide +kernel
theorem d159_0 : decode (tb_me 159).1.2.1 0 = .ok (.aload_n 0, 1) := by decide +kernel
theorem d159_1 : decode (tb_me 159).1.2.1 1 = .ok (.aload_n 0, 1) := by decide +kernel
theorem d159_2 : decode (tb_me 159).1.2.1 2 = .ok (.getfield 84, 3) := by decide +kernel
theorem k159_84 (b : Bool) : tb_lk b 159 84 = (1, 10, 8, 0, 0) := by cases b <;> decide +kernel
theorem d159_5 : decode (tb_me 159).1.2.1 5 = .ok (.invokevirtual 91, 3) := by decide +kernel
theorem k159_91 (b : Bool) : tb_lk b 159 91 = (2, 157, 0, 0, 0) := by cases b <;> decide +kernel
theorem m157 : (tb_me 157).2 = ((0, 0), (1, 10)) ∧ (tb_me 157).1.2.2.1 = 2 := by decide +kernel
theorem d159_8 : decode (tb_me 159).1.2.1 8 = .ok (.ifCond .eq 16, 3) := by decide +kernel
theorem d159_24 : decode (tb_me 159).1.2.1 24 = .ok (.return_, 1) := by decide +kernel
theorem t159 : (tb_me 159).1.2.2.2 = none := by decide +kernel
theorem d159_11 : decode (tb_me 159).1.2.1 11 = .ok (.aload_n 0, 1) := by decide +kernel
theorem d159_12 : decode (tb_me 159).1.2.1 12 = .ok (.dup, 1) := by decide +kernel
theorem d159_13 : decode (tb_me 159).1.2.1 13 = .ok (.getfield 84, 3) := by decide +kernel
theorem d159_16 : decode (tb_me 159).1.2.1 16 = .ok (.iconst 1, 1) := by decide +kernel
theorem d159_17 : decode (tb_me 159).1.2.1 17 = .ok (.iadd, 1) := by decide +kernel
theorem d159_18 : decode (tb_me 159).1.2.1 18 = .ok (.putfield 84, 3) := by decide +kernel
theorem p159_10_8 : (8 < pm_nf tb_cl 10) ∧ tb_ft 10 8 = .int ∧ pm_fin tb_cl (tb_me 159).1.1 10 8 = true := by decide +kernel
theorem d159_21 : decode (tb_me 159).1.2.1 21 = .ok (.goto (-21), 3) := by decide +kernel
theorem d160_0 : decode (tb_me 160).1.2.1 0 = .ok (.aload_n 0, 1) := by decide +kernel
theorem d160_1 : decode (tb_me 160).1.2.1 1 = .ok (.lload_n 1, 1) := by decide +kernel
theorem d160_2 : decode (tb_me 160).1.2.1 2 = .ok (.invokevirtual 95, 3) := by decide +kernel
theorem k160_95 (b : Bool) : tb_lk b 160 95 = (2, 158, 0, 0, 0) := by cases b <;> decide +kernel
theorem d161_0 : decode (tb_me 161).1.2.1 0 = .ok (.aload_n 0, 1) := by decide +kernel
theorem d161_1 : decode (tb_me 161).1.2.1 1 = .ok (.invokevirtual 87, 3) := by decide +kernel
theorem k161_87 (b : Bool) : tb_lk b 161 87 = (2, 155, 0, 0, 0) := by cases b <;> decide +kernel
theorem d162_0 : decode (tb_me 162).1.2.1 0 = .ok (.aload_n 0, 1) := by decide +kernel
theorem d162_1 : decode (tb_me 162).1.2.1 1 = .ok (.ldc2_w 116, 3) := by decide +kernel
theorem k162_116 (b : Bool) : tb_lk b 162 116 = (12, 0, 0, 0, 7168366) := by cases b <;> decide +kernel
theorem d162_4 : decode (tb_me 162).1.2.1 4 = .ok (.invokevirtual 95, 3) := by decide +kernel
theorem k162_95 (b : Bool) : tb_lk b 162 95 = (2, 158, 0, 0, 0) := by cases b <;> decide +kernel
theorem d163_0 : decode (tb_me 163).1.2.1 0 = .ok (.aload_n 0, 1) := by decide +kernel
theorem d163_1 : decode (tb_me 163).1.2.1 1 = .ok (.getfield 13, 3) := by decide +kernel
theorem k163_13 (b : Bool) : tb_lk b 163 13 = (1, 10, 3, 0, 0) := by cases b <;> decide +kernel
theorem f10_3 : (3 < pm_nf tb_cl 10) ∧ tb_ft 10 3 ≠ .long ∧ pm_isR (tb_ft 10 3) = true := by decide +kernel
theorem d163_4 : decode (tb_me 163).1.2.1 4 = .ok (.sipush 400, 3) := by decide +kernel
theorem d163_7 : decode (tb_me 163).1.2.1 7 = .ok (.aload_n 0, 1) := by decide +kernel
theorem d163_8 : decode (tb_me 163).1.2.1 8 = .ok (.getfield 138, 3) := by decide +kernel
theorem k163_138 (b : Bool) : tb_lk b 163 138 = (1, 10, 11, 0, 0) := by cases b <;> decide +kernel
theorem f10_11 : (11 < pm_nf tb_cl 10) ∧ tb_ft 10 11 ≠ .long ∧ pm_isR (tb_ft 10 11) = false := by decide +kernel
theorem d163_11 : decode (tb_me 163).1.2.1 11 = .ok (.imul, 1) := by decide +kernel
theorem d163_12 : decode (tb_me 163).1.2.1 12 = .ok (.aload_n 0, 1) := by decide +kernel
theorem d163_13 : decode (tb_me 163).1.2.1 13 = .ok (.getfield 17, 3) := by decide +kernel
theorem k163_17 (b : Bool) : tb_lk b 163 17 = (1, 10, 4, 0, 0) := by cases b <;> decide +kernel
theorem f10_4 : (4 < pm_nf tb_cl 10) ∧ tb_ft 10 4 ≠ .long ∧ pm_isR (tb_ft 10 4) = true := by decide +kernel
theorem d163_16 : decode (tb_me 163).1.2.1 16 = .ok (.aload_n 0, 1) := by decide +kernel
theorem d163_17 : decode (tb_me 163).1.2.1 17 = .ok (.getfield 138, 3) := by decide +kernel
theorem d163_20 : decode (tb_me 163).1.2.1 20 = .ok (.iaload, 1) := by decide +kernel
theorem d163_21 : decode (tb_me 163).1.2.1 21 = .ok (.iadd, 1) := by decide +kernel
theorem d163_22 : decode (tb_me 163).1.2.1 22 = .ok (.iload_n 1, 1) := by decide +kernel
theorem d163_23 : decode (tb_me 163).1.2.1 23 = .ok (.bipush 16, 2) := by decide +kernel
theorem d163_25 : decode (tb_me 163).1.2.1 25 = .ok (.iload_n 2, 1) := by decide +kernel
theorem d163_26 : decode (tb_me 163).1.2.1 26 = .ok (.imul, 1) := by decide +kernel
theorem d163_27 : decode (tb_me 163).1.2.1 27 = .ok (.iadd, 1) := by decide +kernel
theorem d163_28 : decode (tb_me 163).1.2.1 28 = .ok (.iastore, 1) := by decide +kernel
theorem d163_29 : decode (tb_me 163).1.2.1 29 = .ok (.aload_n 0, 1) := by decide +kernel
theorem d163_30 : decode (tb_me 163).1.2.1 30 = .ok (.getfield 17, 3) := by decide +kernel
theorem d163_33 : decode (tb_me 163).1.2.1 33 = .ok (.aload_n 0, 1) := by decide +kernel
theorem d163_34 : decode (tb_me 163).1.2.1 34 = .ok (.getfield 138, 3) := by decide +kernel
theorem d163_37 : decode (tb_me 163).1.2.1 37 = .ok (.dup2, 1) := by decide +kernel
theorem d163_38 : decode (tb_me 163).1.2.1 38 = .ok (.iaload, 1) := by decide +kernel
theorem d163_39 : decode (tb_me 163).1.2.1 39 = .ok (.iconst 1, 1) := by decide +kernel
theorem d163_40 : decode (tb_me 163).1.2.1 40 = .ok (.iadd, 1) := by decide +kernel
theorem d163_41 : decode (tb_me 163).1.2.1 41 = .ok (.iastore, 1) := by decide +kernel
theorem d163_42 : decode (tb_me 163).1.2.1 42 = .ok (.return_, 1) := by decide +kernel
theorem t163 : (tb_me 163).1.2.2.2 = none := by decide +kernel
theorem e163 : (tb_me 163).2.1 = (0, 0) ∧ (tb_me 163).1.2.2.1 = 3 := by decide +kernel
theorem d165_0 : decode (tb_me 165).1.2.1 0 = .ok (.aload_n 0, 1) := by decide +kernel
theorem d165_1 : decode (tb_me 165).1.2.1 1 = .ok (.getfield 144, 3) := by decide +kernel
theorem k165_144 (b : Bool) : tb_lk b 165 144 = (1, 10, 13, 0, 0) := by cases b <;> decide +kernel
theorem f10_13 : (13 < pm_nf tb_cl 10) ∧ tb_ft 10 13 ≠ .long ∧ pm_isR (tb_ft 10 13) = false := by decide +kernel
theorem d165_4 : decode (tb_me 165).1.2.1 4 = .ok (.bipush 10, 2) := by decide +kernel
theorem d165_6 : decode (tb_me 165).1.2.1 6 = .ok (.if_icmp .ne 13, 3) := by decide +kernel
theorem d165_19 : decode (tb_me 165).1.2.1 19 = .ok (.aload_n 0, 1) := by decide +kernel
theorem d165_20 : decode (tb_me 165).1.2.1 20 = .ok (.dup, 1) := by decide +kernel
theorem d165_21 : decode (tb_me 165).1.2.1 21 = .ok (.getfield 144, 3) := by decide +kernel
theorem d165_24 : decode (tb_me 165).1.2.1 24 = .ok (.iconst 1, 1) := by decide +kernel
theorem d165_25 : decode (tb_me 165).1.2.1 25 = .ok (.iadd, 1) := by decide +kernel
theorem d165_26 : decode (tb_me 165).1.2.1 26 = .ok (.putfield 144, 3) := by decide +kernel
theorem p165_10_13 : (13 < pm_nf tb_cl 10) ∧ tb_ft 10 13 = .int ∧ pm_fin tb_cl (tb_me 165).1.1 10 13 = true := by decide +kernel
theorem d165_29 : decode (tb_me 165).1.2.1 29 = .ok (.aload_n 0, 1) := by decide +kernel
theorem d165_30 : decode (tb_me 165).1.2.1 30 = .ok (.getfield 29, 3) := by decide +kernel
theorem k165_29 (b : Bool) : tb_lk b 165 29 = (1, 10, 15, 0, 0) := by cases b <;> decide +kernel
theorem f10_15 : (15 < pm_nf tb_cl 10) ∧ tb_ft 10 15 ≠ .long ∧ pm_isR (tb_ft 10 15) = true := by decide +kernel
theorem d165_33 : decode (tb_me 165).1.2.1 33 = .ok (.aload_n 0, 1) := by decide +kernel
theorem d165_34 : decode (tb_me 165).1.2.1 34 = .ok (.getfield 147, 3) := by decide +kernel
theorem k165_147 (b : Bool) : tb_lk b 165 147 = (1, 10, 16, 0, 0) := by cases b <;> decide +kernel
theorem f10_16 : (16 < pm_nf tb_cl 10) ∧ tb_ft 10 16 ≠ .long ∧ pm_isR (tb_ft 10 16) = false := by decide +kernel
theorem d165_37 : decode (tb_me 165).1.2.1 37 = .ok (.iload_n 1, 1) := by decide +kernel
theorem d165_38 : decode (tb_me 165).1.2.1 38 = .ok (.iastore, 1) := by decide +kernel
theorem d165_39 : decode (tb_me 165).1.2.1 39 = .ok (.aload_n 0, 1) := by decide +kernel
theorem d165_40 : decode (tb_me 165).1.2.1 40 = .ok (.dup, 1) := by decide +kernel
theorem d165_41 : decode (tb_me 165).1.2.1 41 = .ok (.getfield 147, 3) := by decide +kernel
theorem d165_44 : decode (tb_me 165).1.2.1 44 = .ok (.iconst 1, 1) := by decide +kernel
theorem d165_45 : decode (tb_me 165).1.2.1 45 = .ok (.iadd, 1) := by decide +kernel
theorem d165_46 : decode (tb_me 165).1.2.1 46 = .ok (.putfield 147, 3) := by decide +kernel
theorem p165_10_16 : (16 < pm_nf tb_cl 10) ∧ tb_ft 10 16 = .int ∧ pm_fin tb_cl (tb_me 165).1.1 10 16 = true := by decide +kernel
theorem d165_49 : decode (tb_me 165).1.2.1 49 = .ok (.iconst 1, 1) := by decide +kernel
theorem d165_50 : decode (tb_me 165).1.2.1 50 = .ok (.ireturn, 1) := by decide +kernel
theorem t165 : (tb_me 165).1.2.2.2 = some .boolean := by decide +kernel
theorem d165_9 : decode (tb_me 165).1.2.1 9 = .ok (.aload_n 0, 1) := by decide +kernel
theorem d165_10 : decode (tb_me 165).1.2.1 10 = .ok (.iconst 2, 1) := by decide +kernel
theorem d165_11 : decode (tb_me 165).1.2.1 11 = .ok (.aload_n 0, 1) := by decide +kernel
theorem d165_12 : decode (tb_me 165).1.2.1 12 = .ok (.getfield 84, 3) := by decide +kernel
theorem k165_84 (b : Bool) : tb_lk b 165 84 = (1, 10, 8, 0, 0) := by cases b <;> decide +kernel
theorem d165_15 : decode (tb_me 165).1.2.1 15 = .ok (.invokevirtual 105, 3) := by decide +kernel
theorem k165_105 (b : Bool) : tb_lk b 165 105 = (2, 154, 0, 0, 0) := by cases b <;> decide +kernel
theorem d165_18 : decode (tb_me 165).1.2.1 18 = .ok (.ireturn, 1) := by decide +kernel
theorem e165 : (tb_me 165).2.1 = (0, 0) ∧ (tb_me 165).1.2.2.1 = 2 := by decide +kernel
theorem d167_0 : decode (tb_me 167).1.2.1 0 = .ok (.aload_n 0, 1) := by decide +kernel
theorem d167_1 : decode (tb_me 167).1.2.1 1 = .ok (.getfield 147, 3) := by decide +kernel
theorem k167_147 (b : Bool) : tb_lk b 167 147 = (1, 10, 16, 0, 0) := by cases b <;> decide +kernel
theorem d167_4 : decode (tb_me 167).1.2.1 4 = .ok (.ifCond .le 72, 3) := by decide +kernel
theorem d167_76 : decode (tb_me 167).1.2.1 76 = .ok (.return_, 1) := by decide +kernel
theorem t167 : (tb_me 167).1.2.2.2 = none := by decide +kernel
theorem d167_7 : decode (tb_me 167).1.2.1 7 = .ok (.aload_n 0, 1) := by decide +kernel
theorem d167_8 : decode (tb_me 167).1.2.1 8 = .ok (.getfield 29, 3) := by decide +kernel
theorem k167_29 (b : Bool) : tb_lk b 167 29 = (1, 10, 15, 0, 0) := by cases b <;> decide +kernel
theorem d167_11 : decode (tb_me 167).1.2.1 11 = .ok (.aload_n 0, 1) := by decide +kernel
theorem d167_12 : decode (tb_me 167).1.2.1 12 = .ok (.getfield 147, 3) := by decide +kernel
theorem d167_15 : decode (tb_me 167).1.2.1 15 = .ok (.iconst 1, 1) := by decide +kernel
theorem d167_16 : decode (tb_me 167).1.2.1 16 = .ok (.isub, 1) := by decide +kernel
theorem d167_17 : decode (tb_me 167).1.2.1 17 = .ok (.iaload, 1) := by decide +kernel
theorem d167_18 : decode (tb_me 167).1.2.1 18 = .ok (.invokestatic 150, 3) := by decide +kernel
theorem k167_150 (b : Bool) : tb_lk b 167 150 = (4, 166, 0, 0, 0) := by cases b <;> decide +kernel
theorem m166 : (tb_me 166).2 = ((0, 0), (1, 999)) ∧ (tb_me 166).1.2.2.1 = 1 := by decide +kernel
theorem d167_21 : decode (tb_me 167).1.2.1 21 = .ok (.iload_n 1, 1) := by decide +kernel
theorem d167_22 : decode (tb_me 167).1.2.1 22 = .ok (.if_icmp .lt 54, 3) := by decide +kernel
theorem d167_25 : decode (tb_me 167).1.2.1 25 = .ok (.aload_n 0, 1) := by decide +kernel
theorem d167_26 : decode (tb_me 167).1.2.1 26 = .ok (.dup, 1) := by decide +kernel
theorem d167_27 : decode (tb_me 167).1.2.1 27 = .ok (.getfield 147, 3) := by decide +kernel
theorem d167_30 : decode (tb_me 167).1.2.1 30 = .ok (.iconst 1, 1) := by decide +kernel
theorem d167_31 : decode (tb_me 167).1.2.1 31 = .ok (.isub, 1) := by decide +kernel
theorem d167_32 : decode (tb_me 167).1.2.1 32 = .ok (.putfield 147, 3) := by decide +kernel
theorem p167_10_16 : (16 < pm_nf tb_cl 10) ∧ tb_ft 10 16 = .int ∧ pm_fin tb_cl (tb_me 167).1.1 10 16 = true := by decide +kernel
theorem d167_35 : decode (tb_me 167).1.2.1 35 = .ok (.aload_n 0, 1) := by decide +kernel
theorem d167_36 : decode (tb_me 167).1.2.1 36 = .ok (.aload_n 0, 1) := by decide +kernel
theorem d167_37 : decode (tb_me 167).1.2.1 37 = .ok (.getfield 29, 3) := by decide +kernel
theorem d167_40 : decode (tb_me 167).1.2.1 40 = .ok (.aload_n 0, 1) := by decide +kernel
theorem d167_41 : decode (tb_me 167).1.2.1 41 = .ok (.getfield 147, 3) := by decide +kernel
theorem d167_44 : decode (tb_me 167).1.2.1 44 = .ok (.iaload, 1) := by decide +kernel
theorem d167_45 : decode (tb_me 167).1.2.1 45 = .ok (.iconst 0, 1) := by decide +kernel
theorem d167_46 : decode (tb_me 167).1.2.1 46 = .ok (.invokevirtual 154, 3) := by decide +kernel
theorem k167_154 (b : Bool) : tb_lk b 167 154 = (2, 163, 0, 0, 0) := by cases b <;> decide +kernel
theorem m163 : (tb_me 163).2 = ((0, 0), (2, 10)) ∧ (tb_me 163).1.2.2.1 = 3 := by decide +kernel
theorem d167_49 : decode (tb_me 167).1.2.1 49 = .ok (.aload_n 0, 1) := by decide +kernel
theorem d167_50 : decode (tb_me 167).1.2.1 50 = .ok (.getfield 29, 3) := by decide +kernel
theorem d167_53 : decode (tb_me 167).1.2.1 53 = .ok (.aload_n 0, 1) := by decide +kernel
theorem d167_54 : decode (tb_me 167).1.2.1 54 = .ok (.getfield 147, 3) := by decide +kernel
theorem d167_57 : decode (tb_me 167).1.2.1 57 = .ok (.iaload, 1) := by decide +kernel
theorem d167_58 : decode (tb_me 167).1.2.1 58 = .ok (.bipush 11, 2) := by decide +kernel
theorem d167_60 : decode (tb_me 167).1.2.1 60 = .ok (.if_icmp .ne (-60), 3) := by decide +kernel
theorem d168_0 : decode (tb_me 168).1.2.1 0 = .ok (.aload_n 0, 1) := by decide +kernel
theorem d168_1 : decode (tb_me 168).1.2.1 1 = .ok (.invokevirtual 87, 3) := by decide +kernel
theorem k168_87 (b : Bool) : tb_lk b 168 87 = (2, 155, 0, 0, 0) := by cases b <;> decide +kernel
theorem d169_0 : decode (tb_me 169).1.2.1 0 = .ok (.aload_n 0, 1) := by decide +kernel
theorem d169_1 : decode (tb_me 169).1.2.1 1 = .ok (.invokevirtual 168, 3) := by decide +kernel
theorem k169_168 (b : Bool) : tb_lk b 169 168 = (2, 168, 0, 0, 0) := by cases b <;> decide +kernel
theorem d170_0 : decode (tb_me 170).1.2.1 0 = .ok (.aload_n 0, 1) := by decide +kernel
theorem d170_1 : decode (tb_me 170).1.2.1 1 = .ok (.invokevirtual 172, 3) := by decide +kernel
theorem k170_172 (b : Bool) : tb_lk b 170 172 = (2, 169, 0, 0, 0) := by cases b <;> decide +kernel
theorem d171_0 : decode (tb_me 171).1.2.1 0 = .ok (.aload_n 0, 1) := by decide +kernel
theorem d171_1 : decode (tb_me 171).1.2.1 1 = .ok (.invokevirtual 175, 3) := by decide +kernel
theorem k171_175 (b : Bool) : tb_lk b 171 175 = (2, 170, 0, 0, 0) := by cases b <;> decide +kernel
theorem d172_0 : decode (tb_me 172).1.2.1 0 = .ok (.iconst 1, 1) := by decide +kernel
theorem d172_1 : decode (tb_me 172).1.2.1 1 = .ok (.istore_n 1, 1) := by decide +kernel
theorem d172_2 : decode (tb_me 172).1.2.1 2 = .ok (.iload_n 1, 1) := by decide +kernel
theorem d172_3 : decode (tb_me 172).1.2.1 3 = .ok (.ifCond .eq 72, 3) := by decide +kernel
theorem d172_75 : decode (tb_me 172).1.2.1 75 = .ok (.aload_n 0, 1) := by decide +kernel
theorem d172_76 : decode (tb_me 172).1.2.1 76 = .ok (.invokevirtual 183, 3) := by decide +kernel
theorem k172_183 (b : Bool) : tb_lk b 172 183 = (2, 171, 0, 0, 0) := by cases b <;> decide +kernel
theorem d173_0 : decode (tb_me 173).1.2.1 0 = .ok (.iconst 0, 1) := by decide +kernel
theorem d173_1 : decode (tb_me 173).1.2.1 1 = .ok (.istore_n 1, 1) := by decide +kernel
theorem d173_2 : decode (tb_me 173).1.2.1 2 = .ok (.iload_n 1, 1) := by decide +kernel
theorem d173_3 : decode (tb_me 173).1.2.1 3 = .ok (.aload_n 0, 1) := by decide +kernel
theorem d173_4 : decode (tb_me 173).1.2.1 4 = .ok (.getfield 147, 3) := by decide +kernel
theorem k173_147 (b : Bool) : tb_lk b 173 147 = (1, 10, 16, 0, 0) := by cases b <;> decide +kernel
theorem d173_7 : decode (tb_me 173).1.2.1 7 = .ok (.if_icmp .ge 22, 3) := by decide +kernel
theorem d173_29 : decode (tb_me 173).1.2.1 29 = .ok (.iconst 0, 1) := by decide +kernel
theorem d173_30 : decode (tb_me 173).1.2.1 30 = .ok (.ireturn, 1) := by decide +kernel
theorem t173 : (tb_me 173).1.2.2.2 = some .boolean := by decide +kernel
theorem d173_10 : decode (tb_me 173).1.2.1 10 = .ok (.aload_n 0, 1) := by decide +kernel
theorem d173_11 : decode (tb_me 173).1.2.1 11 = .ok (.getfield 29, 3) := by decide +kernel
theorem k173_29 (b : Bool) : tb_lk b 173 29 = (1, 10, 15, 0, 0) := by cases b <;> decide +kernel
theorem d173_14 : decode (tb_me 173).1.2.1 14 = .ok (.iload_n 1, 1) := by decide +kernel
theorem d173_15 : decode (tb_me 173).1.2.1 15 = .ok (.iaload, 1) := by decide +kernel
theorem d173_16 : decode (tb_me 173).1.2.1 16 = .ok (.bipush 91, 2) := by decide +kernel
theorem d173_18 : decode (tb_me 173).1.2.1 18 = .ok (.if_icmp .ne 5, 3) := by decide +kernel
theorem d173_23 : decode (tb_me 173).1.2.1 23 = .ok (.iinc 1 1, 3) := by decide +kernel
theorem d173_26 : decode (tb_me 173).1.2.1 26 = .ok (.goto (-24), 3) := by decide +kernel
theorem d174_0 : decode (tb_me 174).1.2.1 0 = .ok (.aload_n 0, 1) := by decide +kernel
theorem d174_1 : decode (tb_me 174).1.2.1 1 = .ok (.iconst 3, 1) := by decide +kernel
theorem d174_2 : decode (tb_me 174).1.2.1 2 = .ok (.invokevirtual 186, 3) := by decide +kernel
theorem k174_186 (b : Bool) : tb_lk b 174 186 = (2, 167, 0, 0, 0) := by cases b <;> decide +kernel
theorem d175_0 : decode (tb_me 175).1.2.1 0 = .ok (.aload_n 0, 1) := by decide +kernel
theorem d175_1 : decode (tb_me 175).1.2.1 1 = .ok (.iconst 0, 1) := by decide +kernel
theorem d175_2 : decode (tb_me 175).1.2.1 2 = .ok (.putfield 147, 3) := by decide +kernel
theorem k175_147 (b : Bool) : tb_lk b 175 147 = (1, 10, 16, 0, 0) := by cases b <;> decide +kernel
theorem p175_10_16 : (16 < pm_nf tb_cl 10) ∧ tb_ft 10 16 = .int ∧ pm_fin tb_cl (tb_me 175).1.1 10 16 = true := by decide +kernel
theorem d175_5 : decode (tb_me 175).1.2.1 5 = .ok (.aload_n 0, 1) := by decide +kernel
theorem d175_6 : decode (tb_me 175).1.2.1 6 = .ok (.iconst 0, 1) := by decide +kernel
theorem d175_7 : decode (tb_me 175).1.2.1 7 = .ok (.putfield 144, 3) := by decide +kernel
theorem k175_144 (b : Bool) : tb_lk b 175 144 = (1, 10, 13, 0, 0) := by cases b <;> decide +kernel
theorem p175_10_13 : (13 < pm_nf tb_cl 10) ∧ tb_ft 10 13 = .int ∧ pm_fin tb_cl (tb_me 175).1.1 10 13 = true := by decide +kernel
theorem d175_10 : decode (tb_me 175).1.2.1 10 = .ok (.iconst 1, 1) := by decide +kernel
theorem d175_11 : decode (tb_me 175).1.2.1 11 = .ok (.istore_n 1, 1) := by decide +kernel
theorem d175_12 : decode (tb_me 175).1.2.1 12 = .ok (.iload_n 1, 1) := by decide +kernel
theorem d175_13 : decode (tb_me 175).1.2.1 13 = .ok (.ifCond .eq 99, 3) := by decide +kernel
theorem d175_112 : decode (tb_me 175).1.2.1 112 = .ok (.aload_n 0, 1) := by decide +kernel
theorem d175_113 : decode (tb_me 175).1.2.1 113 = .ok (.invokevirtual 189, 3) := by decide +kernel
theorem k175_189 (b : Bool) : tb_lk b 175 189 = (2, 173, 0, 0, 0) := by cases b <;> decide +kernel
theorem d176_0 : decode (tb_me 176).1.2.1 0 = .ok (.aload_n 0, 1) := by decide +kernel
theorem d176_1 : decode (tb_me 176).1.2.1 1 = .ok (.invokevirtual 99, 3) := by decide +kernel
theorem k176_99 (b : Bool) : tb_lk b 176 99 = (2, 159, 0, 0, 0) := by cases b <;> decide +kernel
theorem d177_0 : decode (tb_me 177).1.2.1 0 = .ok (.aload_n 0, 1) := by decide +kernel
theorem d177_1 : decode (tb_me 177).1.2.1 1 = .ok (.iload_n 2, 1) := by decide +kernel
theorem d177_2 : decode (tb_me 177).1.2.1 2 = .ok (.iload_n 3, 1) := by decide +kernel
theorem d177_3 : decode (tb_me 177).1.2.1 3 = .ok (.invokevirtual 159, 3) := by decide +kernel
theorem k177_159 (b : Bool) : tb_lk b 177 159 = (2, 161, 0, 0, 0) := by cases b <;> decide +kernel
theorem d178_0 : decode (tb_me 178).1.2.1 0 = .ok (.aload_n 0, 1) := by decide +kernel
theorem d178_1 : decode (tb_me 178).1.2.1 1 = .ok (.getfield 26, 3) := by decide +kernel
theorem k178_26 (b : Bool) : tb_lk b 178 26 = (1, 10, 7, 0, 0) := by cases b <;> decide +kernel
theorem f10_7 : (7 < pm_nf tb_cl 10) ∧ tb_ft 10 7 ≠ .long ∧ pm_isR (tb_ft 10 7) = true := by decide +kernel
theorem d178_4 : decode (tb_me 178).1.2.1 4 = .ok (.iconst 0, 1) := by decide +kernel
theorem d178_5 : decode (tb_me 178).1.2.1 5 = .ok (.iaload, 1) := by decide +kernel
theorem d178_6 : decode (tb_me 178).1.2.1 6 = .ok (.ifCond .le 10, 3) := by decide +kernel
theorem d178_16 : decode (tb_me 178).1.2.1 16 = .ok (.aload_n 0, 1) := by decide +kernel
theorem d178_17 : decode (tb_me 178).1.2.1 17 = .ok (.invokevirtual 99, 3) := by decide +kernel
theorem k178_99 (b : Bool) : tb_lk b 178 99 = (2, 159, 0, 0, 0) := by cases b <;> decide +kernel
theorem d179_0 : decode (tb_me 179).1.2.1 0 = .ok (.aload_n 0, 1) := by decide +kernel
theorem d179_1 : decode (tb_me 179).1.2.1 1 = .ok (.getfield 26, 3) := by decide +kernel
theorem k179_26 (b : Bool) : tb_lk b 179 26 = (1, 10, 7, 0, 0) := by cases b <;> decide +kernel
theorem d179_4 : decode (tb_me 179).1.2.1 4 = .ok (.iconst 1, 1) := by decide +kernel
theorem d179_5 : decode (tb_me 179).1.2.1 5 = .ok (.iaload, 1) := by decide +kernel
theorem d179_6 : decode (tb_me 179).1.2.1 6 = .ok (.bipush 8, 2) := by decide +kernel
theorem d179_8 : decode (tb_me 179).1.2.1 8 = .ok (.if_icmp .ne 10, 3) := by decide +kernel
theorem d179_18 : decode (tb_me 179).1.2.1 18 = .ok (.aload_n 0, 1) := by decide +kernel
theorem d179_19 : decode (tb_me 179).1.2.1 19 = .ok (.invokevirtual 99, 3) := by decide +kernel
theorem k179_99 (b : Bool) : tb_lk b 179 99 = (2, 159, 0, 0, 0) := by cases b <;> decide +kernel
theorem d180_0 : decode (tb_me 180).1.2.1 0 = .ok (.aload_n 0, 1) := by decide +kernel
theorem d180_1 : decode (tb_me 180).1.2.1 1 = .ok (.getfield 26, 3) := by decide +kernel
theorem k180_26 (b : Bool) : tb_lk b 180 26 = (1, 10, 7, 0, 0) := by cases b <;> decide +kernel
theorem d180_4 : decode (tb_me 180).1.2.1 4 = .ok (.iconst 2, 1) := by decide +kernel
theorem d180_5 : decode (tb_me 180).1.2.1 5 = .ok (.iaload, 1) := by decide +kernel
theorem d180_6 : decode (tb_me 180).1.2.1 6 = .ok (.bipush 8, 2) := by decide +kernel
theorem d180_8 : decode (tb_me 180).1.2.1 8 = .ok (.if_icmp .ne 10, 3) := by decide +kernel
theorem d180_18 : decode (tb_me 180).1.2.1 18 = .ok (.aload_n 0, 1) := by decide +kernel
theorem d180_19 : decode (tb_me 180).1.2.1 19 = .ok (.invokevirtual 99, 3) := by decide +kernel
theorem k180_99 (b : Bool) : tb_lk b 180 99 = (2, 159, 0, 0, 0) := by cases b <;> decide +kernel
theorem d181_0 : decode (tb_me 181).1.2.1 0 = .ok (.aload_n 0, 1) := by decide +kernel
theorem d181_1 : decode (tb_me 181).1.2.1 1 = .ok (.getfield 26, 3) := by decide +kernel
theorem k181_26 (b : Bool) : tb_lk b 181 26 = (1, 10, 7, 0, 0) := by cases b <;> decide +kernel
theorem d181_4 : decode (tb_me 181).1.2.1 4 = .ok (.iconst 3, 1) := by decide +kernel
theorem d181_5 : decode (tb_me 181).1.2.1 5 = .ok (.iaload, 1) := by decide +kernel
theorem d181_6 : decode (tb_me 181).1.2.1 6 = .ok (.bipush 10, 2) := by decide +kernel
theorem d181_8 : decode (tb_me 181).1.2.1 8 = .ok (.if_icmp .ne 10, 3) := by decide +kernel
theorem d181_18 : decode (tb_me 181).1.2.1 18 = .ok (.aload_n 0, 1) := by decide +kernel
theorem d181_19 : decode (tb_me 181).1.2.1 19 = .ok (.invokevirtual 99, 3) := by decide +kernel
theorem k181_99 (b : Bool) : tb_lk b 181 99 = (2, 159, 0, 0, 0) := by cases b <;> decide +kernel
theorem d182_0 : decode (tb_me 182).1.2.1 0 = .ok (.aload_n 0, 1) := by decide +kernel
theorem d182_1 : decode (tb_me 182).1.2.1 1 = .ok (.ldc2_w 214, 3) := by decide +kernel
theorem k182_214 (b : Bool) : tb_lk b 182 214 = (12, 0, 0, 0, 1936222576) := by cases b <;> decide +kernel
theorem d182_4 : decode (tb_me 182).1.2.1 4 = .ok (.invokevirtual 95, 3) := by decide +kernel
theorem k182_95 (b : Bool) : tb_lk b 182 95 = (2, 158, 0, 0, 0) := by cases b <;> decide +kernel
theorem d183_0 : decode (tb_me 183).1.2.1 0 = .ok (.aload_n 0, 1) := by decide +kernel
theorem d183_1 : decode (tb_me 183).1.2.1 1 = .ok (.invokevirtual 87, 3) := by decide +kernel
theorem k183_87 (b : Bool) : tb_lk b 183 87 = (2, 155, 0, 0, 0) := by cases b <;> decide +kernel
theorem d184_0 : decode (tb_me 184).1.2.1 0 = .ok (.aload_n 0, 1) := by decide +kernel
theorem d184_1 : decode (tb_me 184).1.2.1 1 = .ok (.getfield 17, 3) := by decide +kernel
theorem k184_17 (b : Bool) : tb_lk b 184 17 = (1, 10, 4, 0, 0) := by cases b <;> decide +kernel
theorem d184_4 : decode (tb_me 184).1.2.1 4 = .ok (.aload_n 0, 1) := by decide +kernel
theorem d184_5 : decode (tb_me 184).1.2.1 5 = .ok (.getfield 138, 3) := by decide +kernel
theorem k184_138 (b : Bool) : tb_lk b 184 138 = (1, 10, 11, 0, 0) := by cases b <;> decide +kernel
theorem d184_8 : decode (tb_me 184).1.2.1 8 = .ok (.iconst 0, 1) := by decide +kernel
theorem d184_9 : decode (tb_me 184).1.2.1 9 = .ok (.iastore, 1) := by decide +kernel
theorem d184_10 : decode (tb_me 184).1.2.1 10 = .ok (.aload_n 0, 1) := by decide +kernel
theorem d184_11 : decode (tb_me 184).1.2.1 11 = .ok (.iconst 0, 1) := by decide +kernel
theorem d184_12 : decode (tb_me 184).1.2.1 12 = .ok (.putfield 234, 3) := by decide +kernel
theorem k184_234 (b : Bool) : tb_lk b 184 234 = (1, 10, 14, 0, 0) := by cases b <;> decide +kernel
theorem p184_10_14 : (14 < pm_nf tb_cl 10) ∧ tb_ft 10 14 = .int ∧ pm_fin tb_cl (tb_me 184).1.1 10 14 = true := by decide +kernel
theorem d184_15 : decode (tb_me 184).1.2.1 15 = .ok (.aload_n 0, 1) := by decide +kernel
theorem d184_16 : decode (tb_me 184).1.2.1 16 = .ok (.iconst 0, 1) := by decide +kernel
theorem d184_17 : decode (tb_me 184).1.2.1 17 = .ok (.putfield 84, 3) := by decide +kernel
theorem k184_84 (b : Bool) : tb_lk b 184 84 = (1, 10, 8, 0, 0) := by cases b <;> decide +kernel
theorem p184_10_8 : (8 < pm_nf tb_cl 10) ∧ tb_ft 10 8 = .int ∧ pm_fin tb_cl (tb_me 184).1.1 10 8 = true := by decide +kernel
theorem d184_20 : decode (tb_me 184).1.2.1 20 = .ok (.aload_n 0, 1) := by decide +kernel
theorem d184_21 : decode (tb_me 184).1.2.1 21 = .ok (.iconst 0, 1) := by decide +kernel
theorem d184_22 : decode (tb_me 184).1.2.1 22 = .ok (.putfield 81, 3) := by decide +kernel
theorem k184_81 (b : Bool) : tb_lk b 184 81 = (1, 10, 9, 0, 0) := by cases b <;> decide +kernel
theorem p184_10_9 : (9 < pm_nf tb_cl 10) ∧ tb_ft 10 9 = .int ∧ pm_fin tb_cl (tb_me 184).1.1 10 9 = true := by decide +kernel
theorem d184_25 : decode (tb_me 184).1.2.1 25 = .ok (.aload_n 0, 1) := by decide +kernel
theorem d184_26 : decode (tb_me 184).1.2.1 26 = .ok (.iconst 0, 1) := by decide +kernel
theorem d184_27 : decode (tb_me 184).1.2.1 27 = .ok (.putfield 141, 3) := by decide +kernel
theorem k184_141 (b : Bool) : tb_lk b 184 141 = (1, 10, 12, 0, 0) := by cases b <;> decide +kernel
theorem p184_10_12 : (12 < pm_nf tb_cl 10) ∧ tb_ft 10 12 = .int ∧ pm_fin tb_cl (tb_me 184).1.1 10 12 = true := by decide +kernel
theorem d184_30 : decode (tb_me 184).1.2.1 30 = .ok (.aload_n 0, 1) := by decide +kernel
theorem d184_31 : decode (tb_me 184).1.2.1 31 = .ok (.invokevirtual 243, 3) := by decide +kernel
theorem k184_243 (b : Bool) : tb_lk b 184 243 = (2, 183, 0, 0, 0) := by cases b <;> decide +kernel
theorem d185_0 : decode (tb_me 185).1.2.1 0 = .ok (.aload_n 0, 1) := by decide +kernel
theorem d185_1 : decode (tb_me 185).1.2.1 1 = .ok (.getfield 246, 3) := by decide +kernel
theorem k185_246 (b : Bool) : tb_lk b 185 246 = (1, 10, 2, 0, 0) := by cases b <;> decide +kernel
theorem d185_4 : decode (tb_me 185).1.2.1 4 = .ok (.bipush 6, 2) := by decide +kernel
theorem d185_6 : decode (tb_me 185).1.2.1 6 = .ok (.if_icmp .ne 5, 3) := by decide +kernel
theorem d185_11 : decode (tb_me 185).1.2.1 11 = .ok (.aload_n 0, 1) := by decide +kernel
theorem d185_12 : decode (tb_me 185).1.2.1 12 = .ok (.aload_n 0, 1) := by decide +kernel
theorem d185_13 : decode (tb_me 185).1.2.1 13 = .ok (.getfield 246, 3) := by decide +kernel
theorem d185_16 : decode (tb_me 185).1.2.1 16 = .ok (.putfield 138, 3) := by decide +kernel
theorem k185_138 (b : Bool) : tb_lk b 185 138 = (1, 10, 11, 0, 0) := by cases b <;> decide +kernel
theorem p185_10_11 : (11 < pm_nf tb_cl 10) ∧ tb_ft 10 11 = .int ∧ pm_fin tb_cl (tb_me 185).1.1 10 11 = true := by decide +kernel
theorem d185_19 : decode (tb_me 185).1.2.1 19 = .ok (.aload_n 0, 1) := by decide +kernel
theorem d185_20 : decode (tb_me 185).1.2.1 20 = .ok (.getfield 23, 3) := by decide +kernel
theorem k185_23 (b : Bool) : tb_lk b 185 23 = (1, 10, 6, 0, 0) := by cases b <;> decide +kernel
theorem f10_6 : (6 < pm_nf tb_cl 10) ∧ tb_ft 10 6 ≠ .long ∧ pm_isR (tb_ft 10 6) = true := by decide +kernel
theorem d185_23 : decode (tb_me 185).1.2.1 23 = .ok (.aload_n 0, 1) := by decide +kernel
theorem d185_24 : decode (tb_me 185).1.2.1 24 = .ok (.getfield 138, 3) := by decide +kernel
theorem d185_27 : decode (tb_me 185).1.2.1 27 = .ok (.iconst 0, 1) := by decide +kernel
theorem d185_28 : decode (tb_me 185).1.2.1 28 = .ok (.iastore, 1) := by decide +kernel
theorem d185_29 : decode (tb_me 185).1.2.1 29 = .ok (.aload_n 0, 1) := by decide +kernel
theorem d185_30 : decode (tb_me 185).1.2.1 30 = .ok (.invokevirtual 249, 3) := by decide +kernel
theorem k185_249 (b : Bool) : tb_lk b 185 249 = (2, 184, 0, 0, 0) := by cases b <;> decide +kernel
theorem d186_0 : decode (tb_me 186).1.2.1 0 = .ok (.aload_n 0, 1) := by decide +kernel
theorem d186_1 : decode (tb_me 186).1.2.1 1 = .ok (.bipush 6, 2) := by decide +kernel
theorem d186_3 : decode (tb_me 186).1.2.1 3 = .ok (.putfield 138, 3) := by decide +kernel
theorem k186_138 (b : Bool) : tb_lk b 186 138 = (1, 10, 11, 0, 0) := by cases b <;> decide +kernel
theorem p186_10_11 : (11 < pm_nf tb_cl 10) ∧ tb_ft 10 11 = .int ∧ pm_fin tb_cl (tb_me 186).1.1 10 11 = true := by decide +kernel
theorem d186_6 : decode (tb_me 186).1.2.1 6 = .ok (.iconst 0, 1) := by decide +kernel
theorem d186_7 : decode (tb_me 186).1.2.1 7 = .ok (.istore_n 1, 1) := by decide +kernel
theorem d186_8 : decode (tb_me 186).1.2.1 8 = .ok (.iload_n 1, 1) := by decide +kernel
theorem d186_9 : decode (tb_me 186).1.2.1 9 = .ok (.bipush 10, 2) := by decide +kernel
theorem d186_11 : decode (tb_me 186).1.2.1 11 = .ok (.if_icmp .ge 16, 3) := by decide +kernel
theorem d186_27 : decode (tb_me 186).1.2.1 27 = .ok (.iconst 0, 1) := by decide +kernel
theorem d186_28 : decode (tb_me 186).1.2.1 28 = .ok (.istore_n 1, 1) := by decide +kernel
theorem d186_29 : decode (tb_me 186).1.2.1 29 = .ok (.iload_n 1, 1) := by decide +kernel
theorem d186_30 : decode (tb_me 186).1.2.1 30 = .ok (.bipush 100, 2) := by decide +kernel
theorem d186_32 : decode (tb_me 186).1.2.1 32 = .ok (.if_icmp .ge 19, 3) := by decide +kernel
theorem d186_51 : decode (tb_me 186).1.2.1 51 = .ok (.aload_n 0, 1) := by decide +kernel
theorem d186_52 : decode (tb_me 186).1.2.1 52 = .ok (.invokevirtual 249, 3) := by decide +kernel
theorem k186_249 (b : Bool) : tb_lk b 186 249 = (2, 184, 0, 0, 0) := by cases b <;> decide +kernel
theorem d190_0 : decode (tb_me 190).1.2.1 0 = .ok (.iload_n 0, 1) := by decide +kernel
theorem d190_1 : decode (tb_me 190).1.2.1 1 = .ok (.tableswitch 171 2 14 #[67, 71, 75, 79, 107, 119, 131, 143, 155, 171, 167, 171, 93], 67) := by decide +kernel
theorem d191_0 : decode (tb_me 191).1.2.1 0 = .ok (.aload_n 0, 1) := by decide +kernel
theorem d191_1 : decode (tb_me 191).1.2.1 1 = .ok (.iconst 0, 1) := by decide +kernel
theorem d191_2 : decode (tb_me 191).1.2.1 2 = .ok (.putfield 255, 3) := by decide +kernel
theorem k191_255 (b : Bool) : tb_lk b 191 255 = (1, 10, 18, 0, 0) := by cases b <;> decide +kernel
theorem p191_10_18 : (18 < pm_nf tb_cl 10) ∧ tb_ft 10 18 = .int ∧ pm_fin tb_cl (tb_me 191).1.1 10 18 = true := by decide +kernel
theorem d191_5 : decode (tb_me 191).1.2.1 5 = .ok (.iload_n 2, 1) := by decide +kernel
theorem d191_6 : decode (tb_me 191).1.2.1 6 = .ok (.istore 4, 2) := by decide +kernel
theorem d191_8 : decode (tb_me 191).1.2.1 8 = .ok (.iload 4, 2) := by decide +kernel
theorem d191_10 : decode (tb_me 191).1.2.1 10 = .ok (.iload_n 3, 1) := by decide +kernel
theorem d191_11 : decode (tb_me 191).1.2.1 11 = .ok (.if_icmp .ge 124, 3) := by decide +kernel
theorem d191_135 : decode (tb_me 191).1.2.1 135 = .ok (.aload_n 0, 1) := by decide +kernel
theorem d191_136 : decode (tb_me 191).1.2.1 136 = .ok (.invokevirtual 262, 3) := by decide +kernel
theorem k191_262 (b : Bool) : tb_lk b 191 262 = (2, 189, 0, 0, 0) := by cases b <;> decide +kernel
theorem m189 : (tb_me 189).2 = ((0, 0), (0, 10)) ∧ (tb_me 189).1.2.2.1 = 1 := by decide +kernel
theorem d191_139 : decode (tb_me 191).1.2.1 139 = .ok (.lreturn, 1) := by decide +kernel
theorem t191 : (tb_me 191).1.2.2.2 = some .long := by decide +kernel
theorem d191_14 : decode (tb_me 191).1.2.1 14 = .ok (.aload_n 0, 1) := by decide +kernel
theorem d191_15 : decode (tb_me 191).1.2.1 15 = .ok (.getfield 13, 3) := by decide +kernel
theorem k191_13 (b : Bool) : tb_lk b 191 13 = (1, 10, 3, 0, 0) := by cases b <;> decide +kernel
theorem d191_18 : decode (tb_me 191).1.2.1 18 = .ok (.sipush 400, 3) := by decide +kernel
theorem d191_21 : decode (tb_me 191).1.2.1 21 = .ok (.iload_n 1, 1) := by decide +kernel
theorem d191_22 : decode (tb_me 191).1.2.1 22 = .ok (.imul, 1) := by decide +kernel
theorem d191_23 : decode (tb_me 191).1.2.1 23 = .ok (.iload 4, 2) := by decide +kernel
theorem d191_25 : decode (tb_me 191).1.2.1 25 = .ok (.iadd, 1) := by decide +kernel
theorem d191_26 : decode (tb_me 191).1.2.1 26 = .ok (.iaload, 1) := by decide +kernel
theorem d191_27 : decode (tb_me 191).1.2.1 27 = .ok (.bipush 15, 2) := by decide +kernel
theorem d191_29 : decode (tb_me 191).1.2.1 29 = .ok (.iand, 1) := by decide +kernel
theorem d191_30 : decode (tb_me 191).1.2.1 30 = .ok (.istore 5, 2) := by decide +kernel
theorem d191_32 : decode (tb_me 191).1.2.1 32 = .ok (.aload_n 0, 1) := by decide +kernel
theorem d191_33 : decode (tb_me 191).1.2.1 33 = .ok (.getfield 13, 3) := by decide +kernel
theorem d191_36 : decode (tb_me 191).1.2.1 36 = .ok (.sipush 400, 3) := by decide +kernel
theorem d191_39 : decode (tb_me 191).1.2.1 39 = .ok (.iload_n 1, 1) := by decide +kernel
theorem d191_40 : decode (tb_me 191).1.2.1 40 = .ok (.imul, 1) := by decide +kernel
theorem d191_41 : decode (tb_me 191).1.2.1 41 = .ok (.iload 4, 2) := by decide +kernel
theorem d191_43 : decode (tb_me 191).1.2.1 43 = .ok (.iadd, 1) := by decide +kernel
theorem d191_44 : decode (tb_me 191).1.2.1 44 = .ok (.iaload, 1) := by decide +kernel
theorem d191_45 : decode (tb_me 191).1.2.1 45 = .ok (.iconst 4, 1) := by decide +kernel
theorem d191_46 : decode (tb_me 191).1.2.1 46 = .ok (.ishr, 1) := by decide +kernel
theorem d191_47 : decode (tb_me 191).1.2.1 47 = .ok (.istore 6, 2) := by decide +kernel
theorem d191_49 : decode (tb_me 191).1.2.1 49 = .ok (.iload 5, 2) := by decide +kernel
theorem d191_51 : decode (tb_me 191).1.2.1 51 = .ok (.ifCond .ne 13, 3) := by decide +kernel
theorem d191_64 : decode (tb_me 191).1.2.1 64 = .ok (.iload 5, 2) := by decide +kernel
theorem d191_66 : decode (tb_me 191).1.2.1 66 = .ok (.iconst 1, 1) := by decide +kernel
theorem d191_67 : decode (tb_me 191).1.2.1 67 = .ok (.if_icmp .ne 17, 3) := by decide +kernel
theorem d191_84 : decode (tb_me 191).1.2.1 84 = .ok (.iload 5, 2) := by decide +kernel
theorem d191_86 : decode (tb_me 191).1.2.1 86 = .ok (.bipush 11, 2) := by decide +kernel
theorem d191_88 : decode (tb_me 191).1.2.1 88 = .ok (.if_icmp .ne 16, 3) := by decide +kernel
theorem d191_104 : decode (tb_me 191).1.2.1 104 = .ok (.aload_n 0, 1) := by decide +kernel
theorem d191_105 : decode (tb_me 191).1.2.1 105 = .ok (.invokevirtual 262, 3) := by decide +kernel
theorem d191_108 : decode (tb_me 191).1.2.1 108 = .ok (.lstore 7, 2) := by decide +kernel
theorem d191_110 : decode (tb_me 191).1.2.1 110 = .ok (.aload_n 0, 1) := by decide +kernel
theorem d191_111 : decode (tb_me 191).1.2.1 111 = .ok (.invokevirtual 262, 3) := by decide +kernel
theorem d191_114 : decode (tb_me 191).1.2.1 114 = .ok (.lstore 9, 2) := by decide +kernel
theorem d191_116 : decode (tb_me 191).1.2.1 116 = .ok (.aload_n 0, 1) := by decide +kernel
theorem d191_117 : decode (tb_me 191).1.2.1 117 = .ok (.iload 5, 2) := by decide +kernel
theorem d191_119 : decode (tb_me 191).1.2.1 119 = .ok (.lload 9, 2) := by decide +kernel
theorem d191_121 : decode (tb_me 191).1.2.1 121 = .ok (.lload 7, 2) := by decide +kernel
theorem d191_123 : decode (tb_me 191).1.2.1 123 = .ok (.invokestatic 266, 3) := by decide +kernel
theorem k191_266 (b : Bool) : tb_lk b 191 266 = (4, 190, 0, 0, 0) := by cases b <;> decide +kernel
theorem d199_0 : decode (tb_me 199).1.2.1 0 = .ok (.iload_n 1, 1) := by decide +kernel
theorem d199_1 : decode (tb_me 199).1.2.1 1 = .ok (.bipush 8, 2) := by decide +kernel
theorem d199_3 : decode (tb_me 199).1.2.1 3 = .ok (.if_icmp .ne 19, 3) := by decide +kernel
theorem d199_22 : decode (tb_me 199).1.2.1 22 = .ok (.aload_n 0, 1) := by decide +kernel
theorem d199_23 : decode (tb_me 199).1.2.1 23 = .ok (.iload_n 1, 1) := by decide +kernel
theorem d199_24 : decode (tb_me 199).1.2.1 24 = .ok (.invokevirtual 277, 3) := by decide +kernel
theorem k199_277 (b : Bool) : tb_lk b 199 277 = (2, 197, 0, 0, 0) := by cases b <;> decide +kernel
theorem m197 : (tb_me 197).2 = ((0, 0), (1, 10)) ∧ (tb_me 197).1.2.2.1 = 2 := by decide +kernel
theorem d199_27 : decode (tb_me 199).1.2.1 27 = .ok (.ifCond .eq 34, 3) := by decide +kernel
theorem d199_61 : decode (tb_me 199).1.2.1 61 = .ok (.iconst 0, 1) := by decide +kernel
theorem d199_62 : decode (tb_me 199).1.2.1 62 = .ok (.ireturn, 1) := by decide +kernel
theorem t199 : (tb_me 199).1.2.2.2 = some .boolean := by decide +kernel
theorem d199_30 : decode (tb_me 199).1.2.1 30 = .ok (.aload_n 0, 1) := by decide +kernel
theorem d199_31 : decode (tb_me 199).1.2.1 31 = .ok (.iload_n 1, 1) := by decide +kernel
theorem d199_32 : decode (tb_me 199).1.2.1 32 = .ok (.iconst 2, 1) := by decide +kernel
theorem d199_33 : decode (tb_me 199).1.2.1 33 = .ok (.invokevirtual 273, 3) := by decide +kernel
theorem k199_273 (b : Bool) : tb_lk b 199 273 = (2, 196, 0, 0, 0) := by cases b <;> decide +kernel
theorem d199_36 : decode (tb_me 199).1.2.1 36 = .ok (.iconst 1, 1) := by decide +kernel
theorem d199_37 : decode (tb_me 199).1.2.1 37 = .ok (.if_icmp .ne 24, 3) := by decide +kernel
theorem d199_40 : decode (tb_me 199).1.2.1 40 = .ok (.aload_n 0, 1) := by decide +kernel
theorem d199_41 : decode (tb_me 199).1.2.1 41 = .ok (.iload_n 1, 1) := by decide +kernel
theorem d199_42 : decode (tb_me 199).1.2.1 42 = .ok (.iconst 3, 1) := by decide +kernel
theorem d199_43 : decode (tb_me 199).1.2.1 43 = .ok (.invokevirtual 273, 3) := by decide +kernel
theorem d199_46 : decode (tb_me 199).1.2.1 46 = .ok (.ifCond .ne 15, 3) := by decide +kernel
theorem d199_49 : decode (tb_me 199).1.2.1 49 = .ok (.aload_n 0, 1) := by decide +kernel
theorem d199_50 : decode (tb_me 199).1.2.1 50 = .ok (.iload_n 1, 1) := by decide +kernel
theorem d199_51 : decode (tb_me 199).1.2.1 51 = .ok (.invokevirtual 280, 3) := by decide +kernel
theorem k199_280 (b : Bool) : tb_lk b 199 280 = (2, 198, 0, 0, 0) := by cases b <;> decide +kernel
theorem m198 : (tb_me 198).2 = ((0, 0), (1, 10)) ∧ (tb_me 198).1.2.2.1 = 2 := by decide +kernel
theorem d199_54 : decode (tb_me 199).1.2.1 54 = .ok (.ifCond .ne 7, 3) := by decide +kernel
theorem d199_57 : decode (tb_me 199).1.2.1 57 = .ok (.iconst 1, 1) := by decide +kernel
theorem d199_58 : decode (tb_me 199).1.2.1 58 = .ok (.goto 4, 3) := by decide +kernel
theorem d199_6 : decode (tb_me 199).1.2.1 6 = .ok (.aload_n 0, 1) := by decide +kernel
theorem d199_7 : decode (tb_me 199).1.2.1 7 = .ok (.getfield 39, 3) := by decide +kernel
theorem k199_39 (b : Bool) : tb_lk b 199 39 = (1, 10, 20, 0, 0) := by cases b <;> decide +kernel
theorem d199_10 : decode (tb_me 199).1.2.1 10 = .ok (.bipush 6, 2) := by decide +kernel
theorem d199_12 : decode (tb_me 199).1.2.1 12 = .ok (.iaload, 1) := by decide +kernel
theorem d199_13 : decode (tb_me 199).1.2.1 13 = .ok (.ifCond .lt 7, 3) := by decide +kernel
theorem d199_20 : decode (tb_me 199).1.2.1 20 = .ok (.iconst 0, 1) := by decide +kernel
theorem d199_21 : decode (tb_me 199).1.2.1 21 = .ok (.ireturn, 1) := by decide +kernel
theorem d199_16 : decode (tb_me 199).1.2.1 16 = .ok (.iconst 1, 1) := by decide +kernel
theorem d199_17 : decode (tb_me 199).1.2.1 17 = .ok (.goto 4, 3) := by decide +kernel
theorem e199 : (tb_me 199).2.1 = (0, 0) ∧ (tb_me 199).1.2.2.1 = 2 := by decide +kernel
theorem d200_0 : decode (tb_me 200).1.2.1 0 = .ok (.iconst 0, 1) := by decide +kernel
theorem d200_1 : decode (tb_me 200).1.2.1 1 = .ok (.istore_n 1, 1) := by decide +kernel
theorem d200_2 : decode (tb_me 200).1.2.1 2 = .ok (.iconst 0, 1) := by decide +kernel
theorem d200_3 : decode (tb_me 200).1.2.1 3 = .ok (.istore_n 2, 1) := by decide +kernel
theorem d200_4 : decode (tb_me 200).1.2.1 4 = .ok (.iload_n 2, 1) := by decide +kernel
theorem d200_5 : decode (tb_me 200).1.2.1 5 = .ok (.bipush 8, 2) := by decide +kernel
theorem d200_7 : decode (tb_me 200).1.2.1 7 = .ok (.if_icmp .gt 27, 3) := by decide +kernel
theorem d200_34 : decode (tb_me 200).1.2.1 34 = .ok (.iload_n 1, 1) := by decide +kernel
theorem d200_35 : decode (tb_me 200).1.2.1 35 = .ok (.ireturn, 1) := by decide +kernel
theorem t200 : (tb_me 200).1.2.2.2 = some .int := by decide +kernel
theorem d200_10 : decode (tb_me 200).1.2.1 10 = .ok (.iload_n 1, 1) := by decide +kernel
theorem d200_11 : decode (tb_me 200).1.2.1 11 = .ok (.aload_n 0, 1) := by decide +kernel
theorem d200_12 : decode (tb_me 200).1.2.1 12 = .ok (.iload_n 2, 1) := by decide +kernel
theorem d200_13 : decode (tb_me 200).1.2.1 13 = .ok (.invokevirtual 283, 3) := by decide +kernel
theorem k200_283 (b : Bool) : tb_lk b 200 283 = (2, 199, 0, 0, 0) := by cases b <;> decide +kernel
theorem m199 : (tb_me 199).2 = ((0, 0), (1, 10)) ∧ (tb_me 199).1.2.2.1 = 2 := by decide +kernel
theorem d200_16 : decode (tb_me 200).1.2.1 16 = .ok (.ifCond .eq 9, 3) := by decide +kernel
theorem d200_25 : decode (tb_me 200).1.2.1 25 = .ok (.iconst 0, 1) := by decide +kernel
theorem d200_26 : decode (tb_me 200).1.2.1 26 = .ok (.ior, 1) := by decide +kernel
theorem d200_27 : decode (tb_me 200).1.2.1 27 = .ok (.istore_n 1, 1) := by decide +kernel
theorem d200_28 : decode (tb_me 200).1.2.1 28 = .ok (.iinc 2 1, 3) := by decide +kernel
theorem d200_31 : decode (tb_me 200).1.2.1 31 = .ok (.goto (-27), 3) := by decide +kernel
theorem d201_0 : decode (tb_me 201).1.2.1 0 = .ok (.iconst 0, 1) := by decide +kernel
theorem d201_1 : decode (tb_me 201).1.2.1 1 = .ok (.istore_n 1, 1) := by decide +kernel
theorem d201_2 : decode (tb_me 201).1.2.1 2 = .ok (.iconst 0, 1) := by decide +kernel
theorem d201_3 : decode (tb_me 201).1.2.1 3 = .ok (.istore_n 2, 1) := by decide +kernel
theorem d201_4 : decode (tb_me 201).1.2.1 4 = .ok (.iload_n 2, 1) := by decide +kernel
theorem d201_5 : decode (tb_me 201).1.2.1 5 = .ok (.aload_n 0, 1) := by decide +kernel
theorem d201_6 : decode (tb_me 201).1.2.1 6 = .ok (.getfield 39, 3) := by decide +kernel
theorem k201_39 (b : Bool) : tb_lk b 201 39 = (1, 10, 20, 0, 0) := by cases b <;> decide +kernel
theorem d201_9 : decode (tb_me 201).1.2.1 9 = .ok (.iconst 1, 1) := by decide +kernel
theorem d201_10 : decode (tb_me 201).1.2.1 10 = .ok (.iaload, 1) := by decide +kernel
theorem d201_11 : decode (tb_me 201).1.2.1 11 = .ok (.if_icmp .ge 27, 3) := by decide +kernel
theorem d201_38 : decode (tb_me 201).1.2.1 38 = .ok (.iload_n 1, 1) := by decide +kernel
theorem d201_39 : decode (tb_me 201).1.2.1 39 = .ok (.ireturn, 1) := by decide +kernel
theorem t201 : (tb_me 201).1.2.2.2 = some .int := by decide +kernel
theorem d201_14 : decode (tb_me 201).1.2.1 14 = .ok (.iload_n 1, 1) := by decide +kernel
theorem d201_15 : decode (tb_me 201).1.2.1 15 = .ok (.aload_n 0, 1) := by decide +kernel
theorem d201_16 : decode (tb_me 201).1.2.1 16 = .ok (.iload_n 2, 1) := by decide +kernel
theorem d201_17 : decode (tb_me 201).1.2.1 17 = .ok (.invokevirtual 277, 3) := by decide +kernel
theorem k201_277 (b : Bool) : tb_lk b 201 277 = (2, 197, 0, 0, 0) := by cases b <;> decide +kernel
theorem d201_20 : decode (tb_me 201).1.2.1 20 = .ok (.ifCond .eq 9, 3) := by decide +kernel
theorem d201_29 : decode (tb_me 201).1.2.1 29 = .ok (.iconst 0, 1) := by decide +kernel
theorem d201_30 : decode (tb_me 201).1.2.1 30 = .ok (.ior, 1) := by decide +kernel
theorem d201_31 : decode (tb_me 201).1.2.1 31 = .ok (.istore_n 1, 1) := by decide +kernel
theorem d201_32 : decode (tb_me 201).1.2.1 32 = .ok (.iinc 2 1, 3) := by decide +kernel
theorem d201_35 : decode (tb_me 201).1.2.1 35 = .ok (.goto (-31), 3) := by decide +kernel
theorem d202_0 : decode (tb_me 202).1.2.1 0 = .ok (.iconst 0, 1) := by decide +kernel
theorem d202_1 : decode (tb_me 202).1.2.1 1 = .ok (.istore_n 1, 1) := by decide +kernel
theorem d202_2 : decode (tb_me 202).1.2.1 2 = .ok (.iconst 0, 1) := by decide +kernel
theorem d202_3 : decode (tb_me 202).1.2.1 3 = .ok (.istore_n 2, 1) := by decide +kernel
theorem d202_4 : decode (tb_me 202).1.2.1 4 = .ok (.iload_n 2, 1) := by decide +kernel
theorem d202_5 : decode (tb_me 202).1.2.1 5 = .ok (.aload_n 0, 1) := by decide +kernel
theorem d202_6 : decode (tb_me 202).1.2.1 6 = .ok (.getfield 39, 3) := by decide +kernel
theorem k202_39 (b : Bool) : tb_lk b 202 39 = (1, 10, 20, 0, 0) := by cases b <;> decide +kernel
theorem d202_9 : decode (tb_me 202).1.2.1 9 = .ok (.iconst 1, 1) := by decide +kernel
theorem d202_10 : decode (tb_me 202).1.2.1 10 = .ok (.iaload, 1) := by decide +kernel
theorem d202_11 : decode (tb_me 202).1.2.1 11 = .ok (.if_icmp .ge 20, 3) := by decide +kernel
theorem d202_31 : decode (tb_me 202).1.2.1 31 = .ok (.iload_n 1, 1) := by decide +kernel
theorem d202_32 : decode (tb_me 202).1.2.1 32 = .ok (.ireturn, 1) := by decide +kernel
theorem t202 : (tb_me 202).1.2.2.2 = some .int := by decide +kernel
theorem d202_14 : decode (tb_me 202).1.2.1 14 = .ok (.iload_n 1, 1) := by decide +kernel
theorem d202_15 : decode (tb_me 202).1.2.1 15 = .ok (.aload_n 0, 1) := by decide +kernel
theorem d202_16 : decode (tb_me 202).1.2.1 16 = .ok (.iload_n 2, 1) := by decide +kernel
theorem d202_17 : decode (tb_me 202).1.2.1 17 = .ok (.iconst 2, 1) := by decide +kernel
theorem d202_18 : decode (tb_me 202).1.2.1 18 = .ok (.invokevirtual 273, 3) := by decide +kernel
theorem k202_273 (b : Bool) : tb_lk b 202 273 = (2, 196, 0, 0, 0) := by cases b <;> decide +kernel
theorem d202_21 : decode (tb_me 202).1.2.1 21 = .ok (.iload_n 2, 1) := by decide +kernel
theorem d202_22 : decode (tb_me 202).1.2.1 22 = .ok (.ishl, 1) := by decide +kernel
theorem d202_23 : decode (tb_me 202).1.2.1 23 = .ok (.ior, 1) := by decide +kernel
theorem d202_24 : decode (tb_me 202).1.2.1 24 = .ok (.istore_n 1, 1) := by decide +kernel
theorem d202_25 : decode (tb_me 202).1.2.1 25 = .ok (.iinc 2 1, 3) := by decide +kernel
theorem d202_28 : decode (tb_me 202).1.2.1 28 = .ok (.goto (-24), 3) := by decide +kernel
theorem d204_0 : decode (tb_me 204).1.2.1 0 = .ok (.aload_n 0, 1) := by decide +kernel
theorem d204_1 : decode (tb_me 204).1.2.1 1 = .ok (.iload_n 1, 1) := by decide +kernel
theorem d204_2 : decode (tb_me 204).1.2.1 2 = .ok (.invokevirtual 270, 3) := by decide +kernel
theorem k204_270 (b : Bool) : tb_lk b 204 270 = (2, 193, 0, 0, 0) := by cases b <;> decide +kernel
theorem d204_5 : decode (tb_me 204).1.2.1 5 = .ok (.ifCond .eq 15, 3) := by decide +kernel
theorem d204_20 : decode (tb_me 204).1.2.1 20 = .ok (.iconst (-1), 1) := by decide +kernel
theorem d204_21 : decode (tb_me 204).1.2.1 21 = .ok (.ireturn, 1) := by decide +kernel
theorem t204 : (tb_me 204).1.2.2.2 = some .int := by decide +kernel
theorem d204_8 : decode (tb_me 204).1.2.1 8 = .ok (.iload_n 2, 1) := by decide +kernel
theorem d204_9 : decode (tb_me 204).1.2.1 9 = .ok (.i2l, 1) := by decide +kernel
theorem d204_10 : decode (tb_me 204).1.2.1 10 = .ok (.lconst 0, 1) := by decide +kernel
theorem d204_11 : decode (tb_me 204).1.2.1 11 = .ok (.ldc2_w 286, 3) := by decide +kernel
theorem k204_286 (b : Bool) : tb_lk b 204 286 = (12, 0, 0, 0, 6) := by cases b <;> decide +kernel
theorem d204_14 : decode (tb_me 204).1.2.1 14 = .ok (.invokestatic 112, 3) := by decide +kernel
theorem k204_112 (b : Bool) : tb_lk b 204 112 = (4, 148, 0, 0, 0) := by cases b <;> decide +kernel
theorem m148 : (tb_me 148).2 = ((0, 0), (3, 999)) ∧ (tb_me 148).1.2.2.1 = 6 := by decide +kernel
theorem d204_17 : decode (tb_me 204).1.2.1 17 = .ok (.ifCond .ne 5, 3) := by decide +kernel
theorem d204_22 : decode (tb_me 204).1.2.1 22 = .ok (.iload_n 2, 1) := by decide +kernel
theorem d204_23 : decode (tb_me 204).1.2.1 23 = .ok (.bipush 6, 2) := by decide +kernel
theorem d204_25 : decode (tb_me 204).1.2.1 25 = .ok (.if_icmp .ge 12, 3) := by decide +kernel
theorem d204_37 : decode (tb_me 204).1.2.1 37 = .ok (.aload_n 0, 1) := by decide +kernel
theorem d204_38 : decode (tb_me 204).1.2.1 38 = .ok (.iload_n 1, 1) := by decide +kernel
theorem d204_39 : decode (tb_me 204).1.2.1 39 = .ok (.invokevirtual 283, 3) := by decide +kernel
theorem k204_283 (b : Bool) : tb_lk b 204 283 = (2, 199, 0, 0, 0) := by cases b <;> decide +kernel
theorem d204_42 : decode (tb_me 204).1.2.1 42 = .ok (.ifCond .eq 7, 3) := by decide +kernel
theorem d204_49 : decode (tb_me 204).1.2.1 49 = .ok (.iconst 0, 1) := by decide +kernel
theorem d204_50 : decode (tb_me 204).1.2.1 50 = .ok (.ireturn, 1) := by decide +kernel
theorem d204_45 : decode (tb_me 204).1.2.1 45 = .ok (.iconst 1, 1) := by decide +kernel
theorem d204_46 : decode (tb_me 204).1.2.1 46 = .ok (.goto 4, 3) := by decide +kernel
theorem d204_28 : decode (tb_me 204).1.2.1 28 = .ok (.aload_n 0, 1) := by decide +kernel
theorem d204_29 : decode (tb_me 204).1.2.1 29 = .ok (.iload_n 1, 1) := by decide +kernel
theorem d204_30 : decode (tb_me 204).1.2.1 30 = .ok (.iload_n 2, 1) := by decide +kernel
theorem d204_31 : decode (tb_me 204).1.2.1 31 = .ok (.invokevirtual 273, 3) := by decide +kernel
theorem k204_273 (b : Bool) : tb_lk b 204 273 = (2, 196, 0, 0, 0) := by cases b <;> decide +kernel
theorem d204_34 : decode (tb_me 204).1.2.1 34 = .ok (.goto 16, 3) := by decide +kernel
theorem e204 : (tb_me 204).2.1 = (0, 0) ∧ (tb_me 204).1.2.2.1 = 3 := by decide +kernel
theorem d205_0 : decode (tb_me 205).1.2.1 0 = .ok (.aload_n 0, 1) := by decide +kernel
theorem d205_1 : decode (tb_me 205).1.2.1 1 = .ok (.iload_n 1, 1) := by decide +kernel
theorem d205_2 : decode (tb_me 205).1.2.1 2 = .ok (.invokevirtual 288, 3) := by decide +kernel
theorem k205_288 (b : Bool) : tb_lk b 205 288 = (2, 194, 0, 0, 0) := by cases b <;> decide +kernel
theorem m194 : (tb_me 194).2 = ((0, 0), (1, 10)) ∧ (tb_me 194).1.2.2.1 = 2 := by decide +kernel
theorem d205_5 : decode (tb_me 205).1.2.1 5 = .ok (.ifCond .eq 15, 3) := by decide +kernel
theorem d205_20 : decode (tb_me 205).1.2.1 20 = .ok (.iconst (-1), 1) := by decide +kernel
theorem d205_21 : decode (tb_me 205).1.2.1 21 = .ok (.ireturn, 1) := by decide +kernel
theorem t205 : (tb_me 205).1.2.2.2 = some .int := by decide +kernel
theorem d205_8 : decode (tb_me 205).1.2.1 8 = .ok (.iload_n 2, 1) := by decide +kernel
theorem d205_9 : decode (tb_me 205).1.2.1 9 = .ok (.i2l, 1) := by decide +kernel
theorem d205_10 : decode (tb_me 205).1.2.1 10 = .ok (.lconst 0, 1) := by decide +kernel
theorem d205_11 : decode (tb_me 205).1.2.1 11 = .ok (.ldc2_w 291, 3) := by decide +kernel
theorem k205_291 (b : Bool) : tb_lk b 205 291 = (12, 0, 0, 0, 5) := by cases b <;> decide +kernel
theorem d205_14 : decode (tb_me 205).1.2.1 14 = .ok (.invokestatic 112, 3) := by decide +kernel
theorem k205_112 (b : Bool) : tb_lk b 205 112 = (4, 148, 0, 0, 0) := by cases b <;> decide +kernel
theorem d205_17 : decode (tb_me 205).1.2.1 17 = .ok (.ifCond .ne 5, 3) := by decide +kernel
theorem d205_22 : decode (tb_me 205).1.2.1 22 = .ok (.iload_n 2, 1) := by decide +kernel
theorem d205_23 : decode (tb_me 205).1.2.1 23 = .ok (.iconst 2, 1) := by decide +kernel
theorem d205_24 : decode (tb_me 205).1.2.1 24 = .ok (.if_icmp .lt 15, 3) := by decide +kernel
theorem d205_39 : decode (tb_me 205).1.2.1 39 = .ok (.aload_n 0, 1) := by decide +kernel
theorem d205_40 : decode (tb_me 205).1.2.1 40 = .ok (.iload_n 1, 1) := by decide +kernel
theorem d205_41 : decode (tb_me 205).1.2.1 41 = .ok (.iload_n 2, 1) := by decide +kernel
theorem d205_42 : decode (tb_me 205).1.2.1 42 = .ok (.invokevirtual 293, 3) := by decide +kernel
theorem k205_293 (b : Bool) : tb_lk b 205 293 = (2, 203, 0, 0, 0) := by cases b <;> decide +kernel
theorem m203 : (tb_me 203).2 = ((0, 0), (2, 10)) ∧ (tb_me 203).1.2.2.1 = 3 := by decide +kernel
theorem d205_45 : decode (tb_me 205).1.2.1 45 = .ok (.goto 5, 3) := by decide +kernel
theorem d205_50 : decode (tb_me 205).1.2.1 50 = .ok (.ireturn, 1) := by decide +kernel
theorem d205_27 : decode (tb_me 205).1.2.1 27 = .ok (.iload_n 2, 1) := by decide +kernel
theorem d205_28 : decode (tb_me 205).1.2.1 28 = .ok (.iconst 2, 1) := by decide +kernel
theorem d205_29 : decode (tb_me 205).1.2.1 29 = .ok (.isub, 1) := by decide +kernel
theorem d205_30 : decode (tb_me 205).1.2.1 30 = .ok (.aload_n 0, 1) := by decide +kernel
theorem d205_31 : decode (tb_me 205).1.2.1 31 = .ok (.iload_n 1, 1) := by decide +kernel
theorem d205_32 : decode (tb_me 205).1.2.1 32 = .ok (.iconst 1, 1) := by decide +kernel
theorem d205_33 : decode (tb_me 205).1.2.1 33 = .ok (.invokevirtual 293, 3) := by decide +kernel
theorem d205_36 : decode (tb_me 205).1.2.1 36 = .ok (.if_icmp .ge 12, 3) := by decide +kernel
theorem d205_48 : decode (tb_me 205).1.2.1 48 = .ok (.bipush (-2), 2) := by decide +kernel
theorem e205 : (tb_me 205).2.1 = (0, 0) ∧ (tb_me 205).1.2.2.1 = 3 := by decide +kernel
theorem d206_0 : decode (tb_me 206).1.2.1 0 = .ok (.aload_n 0, 1) := by decide +kernel
theorem d206_1 : decode (tb_me 206).1.2.1 1 = .ok (.iload_n 1, 1) := by decide +kernel
theorem d206_2 : decode (tb_me 206).1.2.1 2 = .ok (.invokevirtual 296, 3) := by decide +kernel
theorem k206_296 (b : Bool) : tb_lk b 206 296 = (2, 195, 0, 0, 0) := by cases b <;> decide +kernel
theorem m195 : (tb_me 195).2 = ((0, 0), (1, 10)) ∧ (tb_me 195).1.2.2.1 = 2 := by decide +kernel
theorem d206_5 : decode (tb_me 206).1.2.1 5 = .ok (.ifCond .eq 11, 3) := by decide +kernel
theorem d206_16 : decode (tb_me 206).1.2.1 16 = .ok (.iconst (-1), 1) := by decide +kernel
theorem d206_17 : decode (tb_me 206).1.2.1 17 = .ok (.ireturn, 1) := by decide +kernel
theorem t206 : (tb_me 206).1.2.2.2 = some .int := by decide +kernel
theorem d206_8 : decode (tb_me 206).1.2.1 8 = .ok (.aload_n 0, 1) := by decide +kernel
theorem d206_9 : decode (tb_me 206).1.2.1 9 = .ok (.iload_n 2, 1) := by decide +kernel
theorem d206_10 : decode (tb_me 206).1.2.1 10 = .ok (.invokevirtual 296, 3) := by decide +kernel
theorem d206_13 : decode (tb_me 206).1.2.1 13 = .ok (.ifCond .ne 5, 3) := by decide +kernel
theorem d206_18 : decode (tb_me 206).1.2.1 18 = .ok (.aload_n 0, 1) := by decide +kernel
theorem d206_19 : decode (tb_me 206).1.2.1 19 = .ok (.getfield 39, 3) := by decide +kernel
theorem k206_39 (b : Bool) : tb_lk b 206 39 = (1, 10, 20, 0, 0) := by cases b <;> decide +kernel
theorem d206_22 : decode (tb_me 206).1.2.1 22 = .ok (.bipush 106, 2) := by decide +kernel
theorem d206_24 : decode (tb_me 206).1.2.1 24 = .ok (.bipush 10, 2) := by decide +kernel
theorem d206_26 : decode (tb_me 206).1.2.1 26 = .ok (.iload_n 1, 1) := by decide +kernel
theorem d206_27 : decode (tb_me 206).1.2.1 27 = .ok (.imul, 1) := by decide +kernel
theorem d206_28 : decode (tb_me 206).1.2.1 28 = .ok (.iadd, 1) := by decide +kernel
theorem d206_29 : decode (tb_me 206).1.2.1 29 = .ok (.iload_n 2, 1) := by decide +kernel
theorem d206_30 : decode (tb_me 206).1.2.1 30 = .ok (.iadd, 1) := by decide +kernel
theorem d206_31 : decode (tb_me 206).1.2.1 31 = .ok (.iaload, 1) := by decide +kernel
theorem d206_32 : decode (tb_me 206).1.2.1 32 = .ok (.istore_n 3, 1) := by decide +kernel
theorem d206_33 : decode (tb_me 206).1.2.1 33 = .ok (.iload_n 3, 1) := by decide +kernel
theorem d206_34 : decode (tb_me 206).1.2.1 34 = .ok (.ifCond .ge 8, 3) := by decide +kernel
theorem d206_42 : decode (tb_me 206).1.2.1 42 = .ok (.iload_n 3, 1) := by decide +kernel
theorem d206_43 : decode (tb_me 206).1.2.1 43 = .ok (.ireturn, 1) := by decide +kernel
theorem d206_37 : decode (tb_me 206).1.2.1 37 = .ok (.bipush (-2), 2) := by decide +kernel
theorem d206_39 : decode (tb_me 206).1.2.1 39 = .ok (.goto 4, 3) := by decide +kernel
theorem e206 : (tb_me 206).2.1 = (0, 0) ∧ (tb_me 206).1.2.2.1 = 4 := by decide +kernel
theorem d207_0 : decode (tb_me 207).1.2.1 0 = .ok (.iconst 0, 1) := by decide +kernel
theorem d207_1 : decode (tb_me 207).1.2.1 1 = .ok (.istore_n 1, 1) := by decide +kernel
theorem d207_2 : decode (tb_me 207).1.2.1 2 = .ok (.iload_n 1, 1) := by decide +kernel
theorem d207_3 : decode (tb_me 207).1.2.1 3 = .ok (.iconst 1, 1) := by decide +kernel
theorem d207_4 : decode (tb_me 207).1.2.1 4 = .ok (.iadd, 1) := by decide +kernel
theorem d207_5 : decode (tb_me 207).1.2.1 5 = .ok (.aload_n 0, 1) := by decide +kernel
theorem d207_6 : decode (tb_me 207).1.2.1 6 = .ok (.getfield 299, 3) := by decide +kernel
theorem k207_299 (b : Bool) : tb_lk b 207 299 = (1, 10, 23, 0, 0) := by cases b <;> decide +kernel
theorem f10_23 : (23 < pm_nf tb_cl 10) ∧ tb_ft 10 23 ≠ .long ∧ pm_isR (tb_ft 10 23) = false := by decide +kernel
theorem d207_9 : decode (tb_me 207).1.2.1 9 = .ok (.if_icmp .ge 96, 3) := by decide +kernel
theorem d207_105 : decode (tb_me 207).1.2.1 105 = .ok (.return_, 1) := by decide +kernel
theorem t207 : (tb_me 207).1.2.2.2 = none := by decide +kernel
theorem d207_12 : decode (tb_me 207).1.2.1 12 = .ok (.aload_n 0, 1) := by decide +kernel
theorem d207_13 : decode (tb_me 207).1.2.1 13 = .ok (.getfield 39, 3) := by decide +kernel
theorem k207_39 (b : Bool) : tb_lk b 207 39 = (1, 10, 20, 0, 0) := by cases b <;> decide +kernel
theorem d207_16 : decode (tb_me 207).1.2.1 16 = .ok (.bipush 106, 2) := by decide +kernel
theorem d207_18 : decode (tb_me 207).1.2.1 18 = .ok (.bipush 10, 2) := by decide +kernel
theorem d207_20 : decode (tb_me 207).1.2.1 20 = .ok (.aload_n 0, 1) := by decide +kernel
theorem d207_21 : decode (tb_me 207).1.2.1 21 = .ok (.getfield 42, 3) := by decide +kernel
theorem k207_42 (b : Bool) : tb_lk b 207 42 = (1, 10, 22, 0, 0) := by cases b <;> decide +kernel
theorem f10_22 : (22 < pm_nf tb_cl 10) ∧ tb_ft 10 22 ≠ .long ∧ pm_isR (tb_ft 10 22) = true := by decide +kernel
theorem d207_24 : decode (tb_me 207).1.2.1 24 = .ok (.iload_n 1, 1) := by decide +kernel
theorem d207_25 : decode (tb_me 207).1.2.1 25 = .ok (.iaload, 1) := by decide +kernel
theorem d207_26 : decode (tb_me 207).1.2.1 26 = .ok (.imul, 1) := by decide +kernel
theorem d207_27 : decode (tb_me 207).1.2.1 27 = .ok (.iadd, 1) := by decide +kernel
theorem d207_28 : decode (tb_me 207).1.2.1 28 = .ok (.aload_n 0, 1) := by decide +kernel
theorem d207_29 : decode (tb_me 207).1.2.1 29 = .ok (.getfield 42, 3) := by decide +kernel
theorem d207_32 : decode (tb_me 207).1.2.1 32 = .ok (.iload_n 1, 1) := by decide +kernel
theorem d207_33 : decode (tb_me 207).1.2.1 33 = .ok (.iconst 1, 1) := by decide +kernel
theorem d207_34 : decode (tb_me 207).1.2.1 34 = .ok (.iadd, 1) := by decide +kernel
theorem d207_35 : decode (tb_me 207).1.2.1 35 = .ok (.iaload, 1) := by decide +kernel
theorem d207_36 : decode (tb_me 207).1.2.1 36 = .ok (.iadd, 1) := by decide +kernel
theorem d207_37 : decode (tb_me 207).1.2.1 37 = .ok (.iaload, 1) := by decide +kernel
theorem d207_38 : decode (tb_me 207).1.2.1 38 = .ok (.istore_n 2, 1) := by decide +kernel
theorem d207_39 : decode (tb_me 207).1.2.1 39 = .ok (.iload_n 2, 1) := by decide +kernel
theorem d207_40 : decode (tb_me 207).1.2.1 40 = .ok (.ifCond .ge 9, 3) := by decide +kernel
theorem d207_49 : decode (tb_me 207).1.2.1 49 = .ok (.aload_n 0, 1) := by decide +kernel
theorem d207_50 : decode (tb_me 207).1.2.1 50 = .ok (.getfield 42, 3) := by decide +kernel
theorem d207_53 : decode (tb_me 207).1.2.1 53 = .ok (.iload_n 1, 1) := by decide +kernel
theorem d207_54 : decode (tb_me 207).1.2.1 54 = .ok (.iload_n 2, 1) := by decide +kernel
theorem d207_55 : decode (tb_me 207).1.2.1 55 = .ok (.iastore, 1) := by decide +kernel
theorem d207_56 : decode (tb_me 207).1.2.1 56 = .ok (.iload_n 1, 1) := by decide +kernel
theorem d207_57 : decode (tb_me 207).1.2.1 57 = .ok (.iconst 1, 1) := by decide +kernel
theorem d207_58 : decode (tb_me 207).1.2.1 58 = .ok (.iadd, 1) := by decide +kernel
theorem d207_59 : decode (tb_me 207).1.2.1 59 = .ok (.istore_n 3, 1) := by decide +kernel
theorem d207_60 : decode (tb_me 207).1.2.1 60 = .ok (.iload_n 3, 1) := by decide +kernel
theorem d207_61 : decode (tb_me 207).1.2.1 61 = .ok (.iconst 1, 1) := by decide +kernel
theorem d207_62 : decode (tb_me 207).1.2.1 62 = .ok (.iadd, 1) := by decide +kernel
theorem d207_63 : decode (tb_me 207).1.2.1 63 = .ok (.aload_n 0, 1) := by decide +kernel
theorem d207_64 : decode (tb_me 207).1.2.1 64 = .ok (.getfield 299, 3) := by decide +kernel
theorem d207_67 : decode (tb_me 207).1.2.1 67 = .ok (.if_icmp .ge 23, 3) := by decide +kernel
theorem d207_90 : decode (tb_me 207).1.2.1 90 = .ok (.aload_n 0, 1) := by decide +kernel
theorem d207_91 : decode (tb_me 207).1.2.1 91 = .ok (.dup, 1) := by decide +kernel
theorem d207_92 : decode (tb_me 207).1.2.1 92 = .ok (.getfield 299, 3) := by decide +kernel
theorem d207_95 : decode (tb_me 207).1.2.1 95 = .ok (.iconst 1, 1) := by decide +kernel
theorem d207_96 : decode (tb_me 207).1.2.1 96 = .ok (.isub, 1) := by decide +kernel
theorem d207_97 : decode (tb_me 207).1.2.1 97 = .ok (.putfield 299, 3) := by decide +kernel
theorem p207_10_23 : (23 < pm_nf tb_cl 10) ∧ tb_ft 10 23 = .int ∧ pm_fin tb_cl (tb_me 207).1.1 10 23 = true := by decide +kernel
theorem d207_100 : decode (tb_me 207).1.2.1 100 = .ok (.iconst 0, 1) := by decide +kernel
theorem d207_101 : decode (tb_me 207).1.2.1 101 = .ok (.istore_n 1, 1) := by decide +kernel
theorem d207_102 : decode (tb_me 207).1.2.1 102 = .ok (.goto (-100), 3) := by decide +kernel
theorem d208_0 : decode (tb_me 208).1.2.1 0 = .ok (.iconst 0, 1) := by decide +kernel
theorem d208_1 : decode (tb_me 208).1.2.1 1 = .ok (.istore_n 1, 1) := by decide +kernel
theorem d208_2 : decode (tb_me 208).1.2.1 2 = .ok (.iload_n 1, 1) := by decide +kernel
theorem d208_3 : decode (tb_me 208).1.2.1 3 = .ok (.aload_n 0, 1) := by decide +kernel
theorem d208_4 : decode (tb_me 208).1.2.1 4 = .ok (.getfield 39, 3) := by decide +kernel
theorem k208_39 (b : Bool) : tb_lk b 208 39 = (1, 10, 20, 0, 0) := by cases b <;> decide +kernel
theorem d208_7 : decode (tb_me 208).1.2.1 7 = .ok (.iconst 2, 1) := by decide +kernel
theorem d208_8 : decode (tb_me 208).1.2.1 8 = .ok (.iaload, 1) := by decide +kernel
theorem d208_9 : decode (tb_me 208).1.2.1 9 = .ok (.if_icmp .ge 77, 3) := by decide +kernel
theorem d208_86 : decode (tb_me 208).1.2.1 86 = .ok (.iconst (-1), 1) := by decide +kernel
theorem d208_87 : decode (tb_me 208).1.2.1 87 = .ok (.ireturn, 1) := by decide +kernel
theorem t208 : (tb_me 208).1.2.2.2 = some .int := by decide +kernel
theorem d208_12 : decode (tb_me 208).1.2.1 12 = .ok (.aload_n 0, 1) := by decide +kernel
theorem d208_13 : decode (tb_me 208).1.2.1 13 = .ok (.iload_n 1, 1) := by decide +kernel
theorem d208_14 : decode (tb_me 208).1.2.1 14 = .ok (.iconst 1, 1) := by decide +kernel
theorem d208_15 : decode (tb_me 208).1.2.1 15 = .ok (.invokevirtual 293, 3) := by decide +kernel
theorem k208_293 (b : Bool) : tb_lk b 208 293 = (2, 203, 0, 0, 0) := by cases b <;> decide +kernel
theorem d208_18 : decode (tb_me 208).1.2.1 18 = .ok (.aload_n 0, 1) := by decide +kernel
theorem d208_19 : decode (tb_me 208).1.2.1 19 = .ok (.getfield 299, 3) := by decide +kernel
theorem k208_299 (b : Bool) : tb_lk b 208 299 = (1, 10, 23, 0, 0) := by cases b <;> decide +kernel
theorem d208_22 : decode (tb_me 208).1.2.1 22 = .ok (.if_icmp .ne 7, 3) := by decide +kernel
theorem d208_29 : decode (tb_me 208).1.2.1 29 = .ok (.iconst 0, 1) := by decide +kernel
theorem d208_30 : decode (tb_me 208).1.2.1 30 = .ok (.istore_n 2, 1) := by decide +kernel
theorem d208_31 : decode (tb_me 208).1.2.1 31 = .ok (.iconst 0, 1) := by decide +kernel
theorem d208_32 : decode (tb_me 208).1.2.1 32 = .ok (.istore_n 3, 1) := by decide +kernel
theorem d208_33 : decode (tb_me 208).1.2.1 33 = .ok (.iload_n 3, 1) := by decide +kernel
theorem d208_34 : decode (tb_me 208).1.2.1 34 = .ok (.aload_n 0, 1) := by decide +kernel
theorem d208_35 : decode (tb_me 208).1.2.1 35 = .ok (.getfield 299, 3) := by decide +kernel
theorem d208_38 : decode (tb_me 208).1.2.1 38 = .ok (.if_icmp .ge 36, 3) := by decide +kernel
theorem d208_74 : decode (tb_me 208).1.2.1 74 = .ok (.iload_n 2, 1) := by decide +kernel
theorem d208_75 : decode (tb_me 208).1.2.1 75 = .ok (.ifCond .eq 5, 3) := by decide +kernel
theorem d208_80 : decode (tb_me 208).1.2.1 80 = .ok (.iinc 1 1, 3) := by decide +kernel
theorem d208_83 : decode (tb_me 208).1.2.1 83 = .ok (.goto (-81), 3) := by decide +kernel
theorem d209_0 : decode (tb_me 209).1.2.1 0 = .ok (.iconst 1, 1) := by decide +kernel
theorem d209_1 : decode (tb_me 209).1.2.1 1 = .ok (.istore_n 1, 1) := by decide +kernel
theorem d209_2 : decode (tb_me 209).1.2.1 2 = .ok (.iconst 0, 1) := by decide +kernel
theorem d209_3 : decode (tb_me 209).1.2.1 3 = .ok (.istore_n 2, 1) := by decide +kernel
theorem d209_4 : decode (tb_me 209).1.2.1 4 = .ok (.iload_n 2, 1) := by decide +kernel
theorem d209_5 : decode (tb_me 209).1.2.1 5 = .ok (.iload_n 0, 1) := by decide +kernel
theorem d209_6 : decode (tb_me 209).1.2.1 6 = .ok (.if_icmp .ge 14, 3) := by decide +kernel
theorem d209_20 : decode (tb_me 209).1.2.1 20 = .ok (.iload_n 1, 1) := by decide +kernel
theorem d209_21 : decode (tb_me 209).1.2.1 21 = .ok (.ireturn, 1) := by decide +kernel
theorem t209 : (tb_me 209).1.2.2.2 = some .int := by decide +kernel
theorem d209_9 : decode (tb_me 209).1.2.1 9 = .ok (.iload_n 1, 1) := by decide +kernel
theorem d209_10 : decode (tb_me 209).1.2.1 10 = .ok (.bipush 10, 2) := by decide +kernel
theorem d209_12 : decode (tb_me 209).1.2.1 12 = .ok (.imul, 1) := by decide +kernel
theorem d209_13 : decode (tb_me 209).1.2.1 13 = .ok (.istore_n 1, 1) := by decide +kernel
theorem d209_14 : decode (tb_me 209).1.2.1 14 = .ok (.iinc 2 1, 3) := by decide +kernel
theorem d209_17 : decode (tb_me 209).1.2.1 17 = .ok (.goto (-13), 3) := by decide +kernel
theorem d210_0 : decode (tb_me 210).1.2.1 0 = .ok (.iload_n 1, 1) := by decide +kernel
theorem d210_1 : decode (tb_me 210).1.2.1 1 = .ok (.i2l, 1) := by decide +kernel
theorem d210_2 : decode (tb_me 210).1.2.1 2 = .ok (.lconst 1, 1) := by decide +kernel
theorem d210_3 : decode (tb_me 210).1.2.1 3 = .ok (.ldc2_w 291, 3) := by decide +kernel
theorem k210_291 (b : Bool) : tb_lk b 210 291 = (12, 0, 0, 0, 5) := by cases b <;> decide +kernel
theorem d210_6 : decode (tb_me 210).1.2.1 6 = .ok (.invokestatic 112, 3) := by decide +kernel
theorem k210_112 (b : Bool) : tb_lk b 210 112 = (4, 148, 0, 0, 0) := by cases b <;> decide +kernel
theorem d210_9 : decode (tb_me 210).1.2.1 9 = .ok (.ifCond .eq 19, 3) := by decide +kernel
theorem d210_28 : decode (tb_me 210).1.2.1 28 = .ok (.iconst 0, 1) := by decide +kernel
theorem d210_29 : decode (tb_me 210).1.2.1 29 = .ok (.ireturn, 1) := by decide +kernel
theorem t210 : (tb_me 210).1.2.2.2 = some .boolean := by decide +kernel
theorem d210_12 : decode (tb_me 210).1.2.1 12 = .ok (.iload_n 0, 1) := by decide +kernel
theorem d210_13 : decode (tb_me 210).1.2.1 13 = .ok (.ifCond .lt 15, 3) := by decide +kernel
theorem d210_16 : decode (tb_me 210).1.2.1 16 = .ok (.iload_n 0, 1) := by decide +kernel
theorem d210_17 : decode (tb_me 210).1.2.1 17 = .ok (.iload_n 1, 1) := by decide +kernel
theorem d210_18 : decode (tb_me 210).1.2.1 18 = .ok (.invokestatic 302, 3) := by decide +kernel
theorem k210_302 (b : Bool) : tb_lk b 210 302 = (4, 209, 0, 0, 0) := by cases b <;> decide +kernel
theorem d211_0 : decode (tb_me 211).1.2.1 0 = .ok (.iload_n 0, 1) := by decide +kernel
theorem d211_1 : decode (tb_me 211).1.2.1 1 = .ok (.iload_n 1, 1) := by decide +kernel
theorem d211_2 : decode (tb_me 211).1.2.1 2 = .ok (.iconst 1, 1) := by decide +kernel
theorem d211_3 : decode (tb_me 211).1.2.1 3 = .ok (.isub, 1) := by decide +kernel
theorem d211_4 : decode (tb_me 211).1.2.1 4 = .ok (.iload_n 2, 1) := by decide +kernel
theorem d211_5 : decode (tb_me 211).1.2.1 5 = .ok (.isub, 1) := by decide +kernel
theorem d211_6 : decode (tb_me 211).1.2.1 6 = .ok (.invokestatic 302, 3) := by decide +kernel
theorem k211_302 (b : Bool) : tb_lk b 211 302 = (4, 209, 0, 0, 0) := by cases b <;> decide +kernel
theorem d212_0 : decode (tb_me 212).1.2.1 0 = .ok (.aload_n 0, 1) := by decide +kernel
theorem d212_1 : decode (tb_me 212).1.2.1 1 = .ok (.invokevirtual 305, 3) := by decide +kernel
theorem k212_305 (b : Bool) : tb_lk b 212 305 = (2, 192, 0, 0, 0) := by cases b <;> decide +kernel
theorem m192 : (tb_me 192).2 = ((0, 0), (0, 10)) ∧ (tb_me 192).1.2.2.1 = 1 := by decide +kernel
theorem d212_4 : decode (tb_me 212).1.2.1 4 = .ok (.ifCond .eq 11, 3) := by decide +kernel
theorem d212_15 : decode (tb_me 212).1.2.1 15 = .ok (.iconst (-1), 1) := by decide +kernel
theorem d212_16 : decode (tb_me 212).1.2.1 16 = .ok (.ireturn, 1) := by decide +kernel
theorem t212 : (tb_me 212).1.2.2.2 = some .int := by decide +kernel
theorem d212_7 : decode (tb_me 212).1.2.1 7 = .ok (.iload_n 1, 1) := by decide +kernel
theorem d212_8 : decode (tb_me 212).1.2.1 8 = .ok (.iload_n 2, 1) := by decide +kernel
theorem d212_9 : decode (tb_me 212).1.2.1 9 = .ok (.invokestatic 308, 3) := by decide +kernel
theorem k212_308 (b : Bool) : tb_lk b 212 308 = (4, 210, 0, 0, 0) := by cases b <;> decide +kernel
theorem d213_0 : decode (tb_me 213).1.2.1 0 = .ok (.iload_n 1, 1) := by decide +kernel
theorem d213_1 : decode (tb_me 213).1.2.1 1 = .ok (.bipush 8, 2) := by decide +kernel
theorem d213_3 : decode (tb_me 213).1.2.1 3 = .ok (.if_icmp .ne 13, 3) := by decide +kernel
theorem d213_16 : decode (tb_me 213).1.2.1 16 = .ok (.aload_n 0, 1) := by decide +kernel
theorem d213_17 : decode (tb_me 213).1.2.1 17 = .ok (.iload_n 1, 1) := by decide +kernel
theorem d213_18 : decode (tb_me 213).1.2.1 18 = .ok (.iconst 0, 1) := by decide +kernel
theorem d213_19 : decode (tb_me 213).1.2.1 19 = .ok (.invokevirtual 273, 3) := by decide +kernel
theorem k213_273 (b : Bool) : tb_lk b 213 273 = (2, 196, 0, 0, 0) := by cases b <;> decide +kernel
theorem d213_22 : decode (tb_me 213).1.2.1 22 = .ok (.ireturn, 1) := by decide +kernel
theorem t213 : (tb_me 213).1.2.2.2 = some .int := by decide +kernel
theorem d213_6 : decode (tb_me 213).1.2.1 6 = .ok (.aload_n 0, 1) := by decide +kernel
theorem d213_7 : decode (tb_me 213).1.2.1 7 = .ok (.getfield 39, 3) := by decide +kernel
theorem k213_39 (b : Bool) : tb_lk b 213 39 = (1, 10, 20, 0, 0) := by cases b <;> decide +kernel
theorem d213_10 : decode (tb_me 213).1.2.1 10 = .ok (.bipush 6, 2) := by decide +kernel
theorem d213_12 : decode (tb_me 213).1.2.1 12 = .ok (.iaload, 1) := by decide +kernel
theorem d213_13 : decode (tb_me 213).1.2.1 13 = .ok (.goto 9, 3) := by decide +kernel
theorem e213 : (tb_me 213).2.1 = (0, 0) ∧ (tb_me 213).1.2.2.1 = 2 := by decide +kernel
theorem d214_0 : decode (tb_me 214).1.2.1 0 = .ok (.aload_n 0, 1) := by decide +kernel
theorem d214_1 : decode (tb_me 214).1.2.1 1 = .ok (.invokevirtual 305, 3) := by decide +kernel
theorem k214_305 (b : Bool) : tb_lk b 214 305 = (2, 192, 0, 0, 0) := by cases b <;> decide +kernel
theorem d214_4 : decode (tb_me 214).1.2.1 4 = .ok (.ifCond .eq 11, 3) := by decide +kernel
theorem d214_15 : decode (tb_me 214).1.2.1 15 = .ok (.iconst 0, 1) := by decide +kernel
theorem d214_16 : decode (tb_me 214).1.2.1 16 = .ok (.ireturn, 1) := by decide +kernel
theorem t214 : (tb_me 214).1.2.2.2 = some .boolean := by decide +kernel
theorem d214_7 : decode (tb_me 214).1.2.1 7 = .ok (.iload_n 1, 1) := by decide +kernel
theorem d214_8 : decode (tb_me 214).1.2.1 8 = .ok (.iload_n 2, 1) := by decide +kernel
theorem d214_9 : decode (tb_me 214).1.2.1 9 = .ok (.invokestatic 308, 3) := by decide +kernel
theorem k214_308 (b : Bool) : tb_lk b 214 308 = (4, 210, 0, 0, 0) := by cases b <;> decide +kernel
theorem d215_0 : decode (tb_me 215).1.2.1 0 = .ok (.iload_n 1, 1) := by decide +kernel
theorem d215_1 : decode (tb_me 215).1.2.1 1 = .ok (.bipush 9, 2) := by decide +kernel
theorem d215_3 : decode (tb_me 215).1.2.1 3 = .ok (.if_icmp .lt 15, 3) := by decide +kernel
theorem d215_18 : decode (tb_me 215).1.2.1 18 = .ok (.aload_n 0, 1) := by decide +kernel
theorem d215_19 : decode (tb_me 215).1.2.1 19 = .ok (.iload_n 1, 1) := by decide +kernel
theorem d215_20 : decode (tb_me 215).1.2.1 20 = .ok (.invokevirtual 321, 3) := by decide +kernel
theorem k215_321 (b : Bool) : tb_lk b 215 321 = (2, 213, 0, 0, 0) := by cases b <;> decide +kernel
theorem m213 : (tb_me 213).2 = ((0, 0), (1, 10)) ∧ (tb_me 213).1.2.2.1 = 2 := by decide +kernel
theorem d215_23 : decode (tb_me 215).1.2.1 23 = .ok (.ireturn, 1) := by decide +kernel
theorem t215 : (tb_me 215).1.2.2.2 = some .int := by decide +kernel
theorem d215_6 : decode (tb_me 215).1.2.1 6 = .ok (.aload_n 0, 1) := by decide +kernel
theorem d215_7 : decode (tb_me 215).1.2.1 7 = .ok (.getfield 48, 3) := by decide +kernel
theorem k215_48 (b : Bool) : tb_lk b 215 48 = (1, 10, 25, 0, 0) := by cases b <;> decide +kernel
theorem f10_25 : (25 < pm_nf tb_cl 10) ∧ tb_ft 10 25 ≠ .long ∧ pm_isR (tb_ft 10 25) = true := by decide +kernel
theorem d215_10 : decode (tb_me 215).1.2.1 10 = .ok (.iload_n 1, 1) := by decide +kernel
theorem d215_11 : decode (tb_me 215).1.2.1 11 = .ok (.bipush 9, 2) := by decide +kernel
theorem d215_13 : decode (tb_me 215).1.2.1 13 = .ok (.isub, 1) := by decide +kernel
theorem d215_14 : decode (tb_me 215).1.2.1 14 = .ok (.iaload, 1) := by decide +kernel
theorem d215_15 : decode (tb_me 215).1.2.1 15 = .ok (.goto 8, 3) := by decide +kernel
theorem e215 : (tb_me 215).2.1 = (0, 0) ∧ (tb_me 215).1.2.2.1 = 2 := by decide +kernel
theorem d216_0 : decode (tb_me 216).1.2.1 0 = .ok (.iconst 0, 1) := by decide +kernel
theorem d216_1 : decode (tb_me 216).1.2.1 1 = .ok (.istore_n 2, 1) := by decide +kernel
theorem d216_2 : decode (tb_me 216).1.2.1 2 = .ok (.iload_n 2, 1) := by decide +kernel
theorem d216_3 : decode (tb_me 216).1.2.1 3 = .ok (.iload_n 1, 1) := by decide +kernel
theorem d216_4 : decode (tb_me 216).1.2.1 4 = .ok (.if_icmp .ge 25, 3) := by decide +kernel
theorem d216_29 : decode (tb_me 216).1.2.1 29 = .ok (.aload_n 0, 1) := by decide +kernel
theorem d216_30 : decode (tb_me 216).1.2.1 30 = .ok (.iload_n 1, 1) := by decide +kernel
theorem d216_31 : decode (tb_me 216).1.2.1 31 = .ok (.putfield 299, 3) := by decide +kernel
theorem k216_299 (b : Bool) : tb_lk b 216 299 = (1, 10, 23, 0, 0) := by cases b <;> decide +kernel
theorem p216_10_23 : (23 < pm_nf tb_cl 10) ∧ tb_ft 10 23 = .int ∧ pm_fin tb_cl (tb_me 216).1.1 10 23 = true := by decide +kernel
theorem d216_34 : decode (tb_me 216).1.2.1 34 = .ok (.aload_n 0, 1) := by decide +kernel
theorem d216_35 : decode (tb_me 216).1.2.1 35 = .ok (.invokevirtual 315, 3) := by decide +kernel
theorem k216_315 (b : Bool) : tb_lk b 216 315 = (2, 207, 0, 0, 0) := by cases b <;> decide +kernel
theorem d217_0 : decode (tb_me 217).1.2.1 0 = .ok (.iload_n 2, 1) := by decide +kernel
theorem d217_1 : decode (tb_me 217).1.2.1 1 = .ok (.istore_n 3, 1) := by decide +kernel
theorem d217_2 : decode (tb_me 217).1.2.1 2 = .ok (.iload_n 3, 1) := by decide +kernel
theorem d217_3 : decode (tb_me 217).1.2.1 3 = .ok (.bipush 11, 2) := by decide +kernel
theorem d217_5 : decode (tb_me 217).1.2.1 5 = .ok (.if_icmp .ge 25, 3) := by decide +kernel
theorem d217_30 : decode (tb_me 217).1.2.1 30 = .ok (.iload_n 3, 1) := by decide +kernel
theorem d217_31 : decode (tb_me 217).1.2.1 31 = .ok (.ireturn, 1) := by decide +kernel
theorem t217 : (tb_me 217).1.2.2.2 = some .int := by decide +kernel
theorem d217_8 : decode (tb_me 217).1.2.1 8 = .ok (.iload_n 0, 1) := by decide +kernel
theorem d217_9 : decode (tb_me 217).1.2.1 9 = .ok (.iload_n 3, 1) := by decide +kernel
theorem d217_10 : decode (tb_me 217).1.2.1 10 = .ok (.invokestatic 318, 3) := by decide +kernel
theorem k217_318 (b : Bool) : tb_lk b 217 318 = (4, 149, 0, 0, 0) := by cases b <;> decide +kernel
theorem m149 : (tb_me 149).2 = ((0, 0), (2, 999)) ∧ (tb_me 149).1.2.2.1 = 2 := by decide +kernel
theorem d217_13 : decode (tb_me 217).1.2.1 13 = .ok (.ifCond .eq 11, 3) := by decide +kernel
theorem d217_24 : decode (tb_me 217).1.2.1 24 = .ok (.iinc 3 1, 3) := by decide +kernel
theorem d217_27 : decode (tb_me 217).1.2.1 27 = .ok (.goto (-25), 3) := by decide +kernel
theorem d218_0 : decode (tb_me 218).1.2.1 0 = .ok (.iconst 0, 1) := by decide +kernel
theorem d218_1 : decode (tb_me 218).1.2.1 1 = .ok (.istore 5, 2) := by decide +kernel
theorem d218_3 : decode (tb_me 218).1.2.1 3 = .ok (.iconst 0, 1) := by decide +kernel
theorem d218_4 : decode (tb_me 218).1.2.1 4 = .ok (.istore 6, 2) := by decide +kernel
theorem d218_6 : decode (tb_me 218).1.2.1 6 = .ok (.aload_n 0, 1) := by decide +kernel
theorem d218_7 : decode (tb_me 218).1.2.1 7 = .ok (.getfield 45, 3) := by decide +kernel
theorem k218_45 (b : Bool) : tb_lk b 218 45 = (1, 10, 24, 0, 0) := by cases b <;> decide +kernel
theorem f10_24 : (24 < pm_nf tb_cl 10) ∧ tb_ft 10 24 ≠ .long ∧ pm_isR (tb_ft 10 24) = true := by decide +kernel
theorem d218_10 : decode (tb_me 218).1.2.1 10 = .ok (.iconst 0, 1) := by decide +kernel
theorem d218_11 : decode (tb_me 218).1.2.1 11 = .ok (.iconst (-1), 1) := by decide +kernel
theorem d218_12 : decode (tb_me 218).1.2.1 12 = .ok (.iastore, 1) := by decide +kernel
theorem d218_13 : decode (tb_me 218).1.2.1 13 = .ok (.iload 6, 2) := by decide +kernel
theorem d218_15 : decode (tb_me 218).1.2.1 15 = .ok (.ifCond .lt 153, 3) := by decide +kernel
theorem d218_168 : decode (tb_me 218).1.2.1 168 = .ok (.iconst 0, 1) := by decide +kernel
theorem d218_169 : decode (tb_me 218).1.2.1 169 = .ok (.ireturn, 1) := by decide +kernel
theorem t218 : (tb_me 218).1.2.2.2 = some .boolean := by decide +kernel
theorem d218_18 : decode (tb_me 218).1.2.1 18 = .ok (.iload 6, 2) := by decide +kernel
theorem d218_20 : decode (tb_me 218).1.2.1 20 = .ok (.iload 4, 2) := by decide +kernel
theorem d218_22 : decode (tb_me 218).1.2.1 22 = .ok (.if_icmp .ne 8, 3) := by decide +kernel
theorem d218_30 : decode (tb_me 218).1.2.1 30 = .ok (.iload_n 1, 1) := by decide +kernel
theorem d218_31 : decode (tb_me 218).1.2.1 31 = .ok (.iload 5, 2) := by decide +kernel
theorem d218_33 : decode (tb_me 218).1.2.1 33 = .ok (.aload_n 0, 1) := by decide +kernel
theorem d218_34 : decode (tb_me 218).1.2.1 34 = .ok (.getfield 45, 3) := by decide +kernel
theorem d218_37 : decode (tb_me 218).1.2.1 37 = .ok (.iload 6, 2) := by decide +kernel
theorem d218_39 : decode (tb_me 218).1.2.1 39 = .ok (.iaload, 1) := by decide +kernel
theorem d218_40 : decode (tb_me 218).1.2.1 40 = .ok (.iconst 1, 1) := by decide +kernel
theorem d218_41 : decode (tb_me 218).1.2.1 41 = .ok (.iadd, 1) := by decide +kernel
theorem d218_42 : decode (tb_me 218).1.2.1 42 = .ok (.invokestatic 330, 3) := by decide +kernel
theorem k218_330 (b : Bool) : tb_lk b 218 330 = (4, 217, 0, 0, 0) := by cases b <;> decide +kernel
theorem d219_0 : decode (tb_me 219).1.2.1 0 = .ok (.iconst 0, 1) := by decide +kernel
theorem d219_1 : decode (tb_me 219).1.2.1 1 = .ok (.istore_n 3, 1) := by decide +kernel
theorem d219_2 : decode (tb_me 219).1.2.1 2 = .ok (.iconst 0, 1) := by decide +kernel
theorem d219_3 : decode (tb_me 219).1.2.1 3 = .ok (.istore 4, 2) := by decide +kernel
theorem d219_5 : decode (tb_me 219).1.2.1 5 = .ok (.aload_n 0, 1) := by decide +kernel
theorem d219_6 : decode (tb_me 219).1.2.1 6 = .ok (.getfield 45, 3) := by decide +kernel
theorem k219_45 (b : Bool) : tb_lk b 219 45 = (1, 10, 24, 0, 0) := by cases b <;> decide +kernel
theorem d219_9 : decode (tb_me 219).1.2.1 9 = .ok (.iconst 0, 1) := by decide +kernel
theorem d219_10 : decode (tb_me 219).1.2.1 10 = .ok (.iconst (-1), 1) := by decide +kernel
theorem d219_11 : decode (tb_me 219).1.2.1 11 = .ok (.iastore, 1) := by decide +kernel
theorem d219_12 : decode (tb_me 219).1.2.1 12 = .ok (.iload 4, 2) := by decide +kernel
theorem d219_14 : decode (tb_me 219).1.2.1 14 = .ok (.ifCond .lt 133, 3) := by decide +kernel
theorem d219_147 : decode (tb_me 219).1.2.1 147 = .ok (.return_, 1) := by decide +kernel
theorem t219 : (tb_me 219).1.2.2.2 = none := by decide +kernel
theorem d219_17 : decode (tb_me 219).1.2.1 17 = .ok (.iload 4, 2) := by decide +kernel
theorem d219_19 : decode (tb_me 219).1.2.1 19 = .ok (.iload_n 2, 1) := by decide +kernel
theorem d219_20 : decode (tb_me 219).1.2.1 20 = .ok (.if_icmp .ne 8, 3) := by decide +kernel
theorem d219_28 : decode (tb_me 219).1.2.1 28 = .ok (.iload_n 1, 1) := by decide +kernel
theorem d219_29 : decode (tb_me 219).1.2.1 29 = .ok (.iload_n 3, 1) := by decide +kernel
theorem d219_30 : decode (tb_me 219).1.2.1 30 = .ok (.aload_n 0, 1) := by decide +kernel
theorem d219_31 : decode (tb_me 219).1.2.1 31 = .ok (.getfield 45, 3) := by decide +kernel
theorem d219_34 : decode (tb_me 219).1.2.1 34 = .ok (.iload 4, 2) := by decide +kernel
theorem d219_36 : decode (tb_me 219).1.2.1 36 = .ok (.iaload, 1) := by decide +kernel
theorem d219_37 : decode (tb_me 219).1.2.1 37 = .ok (.iconst 1, 1) := by decide +kernel
theorem d219_38 : decode (tb_me 219).1.2.1 38 = .ok (.iadd, 1) := by decide +kernel
theorem d219_39 : decode (tb_me 219).1.2.1 39 = .ok (.invokestatic 330, 3) := by decide +kernel
theorem k219_330 (b : Bool) : tb_lk b 219 330 = (4, 217, 0, 0, 0) := by cases b <;> decide +kernel
theorem d220_0 : decode (tb_me 220).1.2.1 0 = .ok (.iconst 0, 1) := by decide +kernel
theorem d220_1 : decode (tb_me 220).1.2.1 1 = .ok (.istore_n 2, 1) := by decide +kernel
theorem d220_2 : decode (tb_me 220).1.2.1 2 = .ok (.iload_n 2, 1) := by decide +kernel
theorem d220_3 : decode (tb_me 220).1.2.1 3 = .ok (.sipush 512, 3) := by decide +kernel
theorem d220_6 : decode (tb_me 220).1.2.1 6 = .ok (.if_icmp .ge 16, 3) := by decide +kernel
theorem d220_22 : decode (tb_me 220).1.2.1 22 = .ok (.iconst 1, 1) := by decide +kernel
theorem d220_23 : decode (tb_me 220).1.2.1 23 = .ok (.istore_n 2, 1) := by decide +kernel
theorem d220_24 : decode (tb_me 220).1.2.1 24 = .ok (.iload_n 2, 1) := by decide +kernel
theorem d220_25 : decode (tb_me 220).1.2.1 25 = .ok (.iconst 5, 1) := by decide +kernel
theorem d220_26 : decode (tb_me 220).1.2.1 26 = .ok (.if_icmp .gt 15, 3) := by decide +kernel
theorem d220_41 : decode (tb_me 220).1.2.1 41 = .ok (.iconst 0, 1) := by decide +kernel
theorem d220_42 : decode (tb_me 220).1.2.1 42 = .ok (.istore_n 2, 1) := by decide +kernel
theorem d220_43 : decode (tb_me 220).1.2.1 43 = .ok (.iload_n 2, 1) := by decide +kernel
theorem d220_44 : decode (tb_me 220).1.2.1 44 = .ok (.sipush 512, 3) := by decide +kernel
theorem d220_47 : decode (tb_me 220).1.2.1 47 = .ok (.if_icmp .ge 52, 3) := by decide +kernel
theorem d220_99 : decode (tb_me 220).1.2.1 99 = .ok (.return_, 1) := by decide +kernel
theorem t220 : (tb_me 220).1.2.2.2 = none := by decide +kernel
theorem d220_50 : decode (tb_me 220).1.2.1 50 = .ok (.iconst 0, 1) := by decide +kernel
theorem d220_51 : decode (tb_me 220).1.2.1 51 = .ok (.istore_n 3, 1) := by decide +kernel
theorem d220_52 : decode (tb_me 220).1.2.1 52 = .ok (.iload_n 3, 1) := by decide +kernel
theorem d220_53 : decode (tb_me 220).1.2.1 53 = .ok (.bipush 8, 2) := by decide +kernel
theorem d220_55 : decode (tb_me 220).1.2.1 55 = .ok (.if_icmp .gt 38, 3) := by decide +kernel
theorem d220_93 : decode (tb_me 220).1.2.1 93 = .ok (.iinc 2 1, 3) := by decide +kernel
theorem d220_96 : decode (tb_me 220).1.2.1 96 = .ok (.goto (-53), 3) := by decide +kernel
theorem d221_0 : decode (tb_me 221).1.2.1 0 = .ok (.aload_n 0, 1) := by decide +kernel
theorem d221_1 : decode (tb_me 221).1.2.1 1 = .ok (.iload_n 1, 1) := by decide +kernel
theorem d221_2 : decode (tb_me 221).1.2.1 2 = .ok (.invokevirtual 342, 3) := by decide +kernel
theorem k221_342 (b : Bool) : tb_lk b 221 342 = (2, 220, 0, 0, 0) := by cases b <;> decide +kernel
theorem d222_0 : decode (tb_me 222).1.2.1 0 = .ok (.iconst 0, 1) := by decide +kernel
theorem d222_1 : decode (tb_me 222).1.2.1 1 = .ok (.istore_n 2, 1) := by decide +kernel
theorem d222_2 : decode (tb_me 222).1.2.1 2 = .ok (.iconst 0, 1) := by decide +kernel
theorem d222_3 : decode (tb_me 222).1.2.1 3 = .ok (.istore_n 3, 1) := by decide +kernel
theorem d222_4 : decode (tb_me 222).1.2.1 4 = .ok (.iload_n 3, 1) := by decide +kernel
theorem d222_5 : decode (tb_me 222).1.2.1 5 = .ok (.aload_n 0, 1) := by decide +kernel
theorem d222_6 : decode (tb_me 222).1.2.1 6 = .ok (.getfield 39, 3) := by decide +kernel
theorem k222_39 (b : Bool) : tb_lk b 222 39 = (1, 10, 20, 0, 0) := by cases b <;> decide +kernel
theorem d222_9 : decode (tb_me 222).1.2.1 9 = .ok (.iconst 2, 1) := by decide +kernel
theorem d222_10 : decode (tb_me 222).1.2.1 10 = .ok (.iaload, 1) := by decide +kernel
theorem d222_11 : decode (tb_me 222).1.2.1 11 = .ok (.if_icmp .ge 30, 3) := by decide +kernel
theorem d222_41 : decode (tb_me 222).1.2.1 41 = .ok (.iload_n 2, 1) := by decide +kernel
theorem d222_42 : decode (tb_me 222).1.2.1 42 = .ok (.ireturn, 1) := by decide +kernel
theorem t222 : (tb_me 222).1.2.2.2 = some .int := by decide +kernel
theorem d222_14 : decode (tb_me 222).1.2.1 14 = .ok (.iload_n 2, 1) := by decide +kernel
theorem d222_15 : decode (tb_me 222).1.2.1 15 = .ok (.iload_n 1, 1) := by decide +kernel
theorem d222_16 : decode (tb_me 222).1.2.1 16 = .ok (.iload_n 3, 1) := by decide +kernel
theorem d222_17 : decode (tb_me 222).1.2.1 17 = .ok (.invokestatic 318, 3) := by decide +kernel
theorem k222_318 (b : Bool) : tb_lk b 222 318 = (4, 149, 0, 0, 0) := by cases b <;> decide +kernel
theorem d222_20 : decode (tb_me 222).1.2.1 20 = .ok (.ifCond .eq 12, 3) := by decide +kernel
theorem d222_32 : decode (tb_me 222).1.2.1 32 = .ok (.iconst 0, 1) := by decide +kernel
theorem d222_33 : decode (tb_me 222).1.2.1 33 = .ok (.iadd, 1) := by decide +kernel
theorem d222_34 : decode (tb_me 222).1.2.1 34 = .ok (.istore_n 2, 1) := by decide +kernel
theorem d222_35 : decode (tb_me 222).1.2.1 35 = .ok (.iinc 3 1, 3) := by decide +kernel
theorem d222_38 : decode (tb_me 222).1.2.1 38 = .ok (.goto (-34), 3) := by decide +kernel
theorem d224_0 : decode (tb_me 224).1.2.1 0 = .ok (.aload_n 0, 1) := by decide +kernel
theorem d224_1 : decode (tb_me 224).1.2.1 1 = .ok (.getfield 252, 3) := by decide +kernel
theorem k224_252 (b : Bool) : tb_lk b 224 252 = (1, 10, 28, 0, 0) := by cases b <;> decide +kernel
theorem f10_28 : (28 < pm_nf tb_cl 10) ∧ tb_ft 10 28 ≠ .long ∧ pm_isR (tb_ft 10 28) = false := by decide +kernel
theorem d224_4 : decode (tb_me 224).1.2.1 4 = .ok (.bipush 20, 2) := by decide +kernel
theorem d224_6 : decode (tb_me 224).1.2.1 6 = .ok (.if_icmp .ne 44, 3) := by decide +kernel
theorem d224_50 : decode (tb_me 224).1.2.1 50 = .ok (.iconst 0, 1) := by decide +kernel
theorem d224_51 : decode (tb_me 224).1.2.1 51 = .ok (.istore_n 1, 1) := by decide +kernel
theorem d224_52 : decode (tb_me 224).1.2.1 52 = .ok (.iload_n 1, 1) := by decide +kernel
theorem d224_53 : decode (tb_me 224).1.2.1 53 = .ok (.bipush 58, 2) := by decide +kernel
theorem d224_55 : decode (tb_me 224).1.2.1 55 = .ok (.if_icmp .ge 29, 3) := by decide +kernel
theorem d224_84 : decode (tb_me 224).1.2.1 84 = .ok (.aload_n 0, 1) := by decide +kernel
theorem d224_85 : decode (tb_me 224).1.2.1 85 = .ok (.dup, 1) := by decide +kernel
theorem d224_86 : decode (tb_me 224).1.2.1 86 = .ok (.getfield 252, 3) := by decide +kernel
theorem d224_89 : decode (tb_me 224).1.2.1 89 = .ok (.iconst 1, 1) := by decide +kernel
theorem d224_90 : decode (tb_me 224).1.2.1 90 = .ok (.iadd, 1) := by decide +kernel
theorem d224_91 : decode (tb_me 224).1.2.1 91 = .ok (.putfield 252, 3) := by decide +kernel
theorem p224_10_28 : (28 < pm_nf tb_cl 10) ∧ tb_ft 10 28 = .int ∧ pm_fin tb_cl (tb_me 224).1.1 10 28 = true := by decide +kernel
theorem d224_94 : decode (tb_me 224).1.2.1 94 = .ok (.return_, 1) := by decide +kernel
theorem t224 : (tb_me 224).1.2.2.2 = none := by decide +kernel
theorem d224_58 : decode (tb_me 224).1.2.1 58 = .ok (.aload_n 0, 1) := by decide +kernel
theorem d224_59 : decode (tb_me 224).1.2.1 59 = .ok (.getfield 54, 3) := by decide +kernel
theorem k224_54 (b : Bool) : tb_lk b 224 54 = (1, 10, 27, 0, 0) := by cases b <;> decide +kernel
theorem f10_27 : (27 < pm_nf tb_cl 10) ∧ tb_ft 10 27 ≠ .long ∧ pm_isR (tb_ft 10 27) = true := by decide +kernel
theorem d224_62 : decode (tb_me 224).1.2.1 62 = .ok (.bipush 58, 2) := by decide +kernel
theorem d224_64 : decode (tb_me 224).1.2.1 64 = .ok (.aload_n 0, 1) := by decide +kernel
theorem d224_65 : decode (tb_me 224).1.2.1 65 = .ok (.getfield 252, 3) := by decide +kernel
theorem d224_68 : decode (tb_me 224).1.2.1 68 = .ok (.imul, 1) := by decide +kernel
theorem d224_69 : decode (tb_me 224).1.2.1 69 = .ok (.iload_n 1, 1) := by decide +kernel
theorem d224_70 : decode (tb_me 224).1.2.1 70 = .ok (.iadd, 1) := by decide +kernel
theorem d224_71 : decode (tb_me 224).1.2.1 71 = .ok (.aload_n 0, 1) := by decide +kernel
theorem d224_72 : decode (tb_me 224).1.2.1 72 = .ok (.getfield 39, 3) := by decide +kernel
theorem k224_39 (b : Bool) : tb_lk b 224 39 = (1, 10, 20, 0, 0) := by cases b <;> decide +kernel
theorem d224_75 : decode (tb_me 224).1.2.1 75 = .ok (.iload_n 1, 1) := by decide +kernel
theorem d224_76 : decode (tb_me 224).1.2.1 76 = .ok (.iaload, 1) := by decide +kernel
theorem d224_77 : decode (tb_me 224).1.2.1 77 = .ok (.iastore, 1) := by decide +kernel
theorem d224_78 : decode (tb_me 224).1.2.1 78 = .ok (.iinc 1 1, 3) := by decide +kernel
theorem d224_81 : decode (tb_me 224).1.2.1 81 = .ok (.goto (-29), 3) := by decide +kernel
theorem d225_0 : decode (tb_me 225).1.2.1 0 = .ok (.aload_n 0, 1) := by decide +kernel
theorem d225_1 : decode (tb_me 225).1.2.1 1 = .ok (.getfield 252, 3) := by decide +kernel
theorem k225_252 (b : Bool) : tb_lk b 225 252 = (1, 10, 28, 0, 0) := by cases b <;> decide +kernel
theorem d225_4 : decode (tb_me 225).1.2.1 4 = .ok (.ifCond .ne 5, 3) := by decide +kernel
theorem d225_9 : decode (tb_me 225).1.2.1 9 = .ok (.aload_n 0, 1) := by decide +kernel
theorem d225_10 : decode (tb_me 225).1.2.1 10 = .ok (.dup, 1) := by decide +kernel
theorem d225_11 : decode (tb_me 225).1.2.1 11 = .ok (.getfield 252, 3) := by decide +kernel
theorem d225_14 : decode (tb_me 225).1.2.1 14 = .ok (.iconst 1, 1) := by decide +kernel
theorem d225_15 : decode (tb_me 225).1.2.1 15 = .ok (.isub, 1) := by decide +kernel
theorem d225_16 : decode (tb_me 225).1.2.1 16 = .ok (.putfield 252, 3) := by decide +kernel
theorem p225_10_28 : (28 < pm_nf tb_cl 10) ∧ tb_ft 10 28 = .int ∧ pm_fin tb_cl (tb_me 225).1.1 10 28 = true := by decide +kernel
theorem d225_19 : decode (tb_me 225).1.2.1 19 = .ok (.iconst 0, 1) := by decide +kernel
theorem d225_20 : decode (tb_me 225).1.2.1 20 = .ok (.istore_n 1, 1) := by decide +kernel
theorem d225_21 : decode (tb_me 225).1.2.1 21 = .ok (.iload_n 1, 1) := by decide +kernel
theorem d225_22 : decode (tb_me 225).1.2.1 22 = .ok (.bipush 58, 2) := by decide +kernel
theorem d225_24 : decode (tb_me 225).1.2.1 24 = .ok (.if_icmp .ge 29, 3) := by decide +kernel
theorem d225_53 : decode (tb_me 225).1.2.1 53 = .ok (.aload_n 0, 1) := by decide +kernel
theorem d225_54 : decode (tb_me 225).1.2.1 54 = .ok (.getfield 252, 3) := by decide +kernel
theorem d225_57 : decode (tb_me 225).1.2.1 57 = .ok (.ireturn, 1) := by decide +kernel
theorem t225 : (tb_me 225).1.2.2.2 = some .int := by decide +kernel
theorem d225_27 : decode (tb_me 225).1.2.1 27 = .ok (.aload_n 0, 1) := by decide +kernel
theorem d225_28 : decode (tb_me 225).1.2.1 28 = .ok (.getfield 39, 3) := by decide +kernel
theorem k225_39 (b : Bool) : tb_lk b 225 39 = (1, 10, 20, 0, 0) := by cases b <;> decide +kernel
theorem d225_31 : decode (tb_me 225).1.2.1 31 = .ok (.iload_n 1, 1) := by decide +kernel
theorem d225_32 : decode (tb_me 225).1.2.1 32 = .ok (.aload_n 0, 1) := by decide +kernel
theorem d225_33 : decode (tb_me 225).1.2.1 33 = .ok (.getfield 54, 3) := by decide +kernel
theorem k225_54 (b : Bool) : tb_lk b 225 54 = (1, 10, 27, 0, 0) := by cases b <;> decide +kernel
theorem d225_36 : decode (tb_me 225).1.2.1 36 = .ok (.bipush 58, 2) := by decide +kernel
theorem d225_38 : decode (tb_me 225).1.2.1 38 = .ok (.aload_n 0, 1) := by decide +kernel
theorem d225_39 : decode (tb_me 225).1.2.1 39 = .ok (.getfield 252, 3) := by decide +kernel
theorem d225_42 : decode (tb_me 225).1.2.1 42 = .ok (.imul, 1) := by decide +kernel
theorem d225_43 : decode (tb_me 225).1.2.1 43 = .ok (.iload_n 1, 1) := by decide +kernel
theorem d225_44 : decode (tb_me 225).1.2.1 44 = .ok (.iadd, 1) := by decide +kernel
theorem d225_45 : decode (tb_me 225).1.2.1 45 = .ok (.iaload, 1) := by decide +kernel
theorem d225_46 : decode (tb_me 225).1.2.1 46 = .ok (.iastore, 1) := by decide +kernel
theorem d225_47 : decode (tb_me 225).1.2.1 47 = .ok (.iinc 1 1, 3) := by decide +kernel
theorem d225_50 : decode (tb_me 225).1.2.1 50 = .ok (.goto (-29), 3) := by decide +kernel
theorem d226_0 : decode (tb_me 226).1.2.1 0 = .ok (.aload_n 0, 1) := by decide +kernel
theorem d226_1 : decode (tb_me 226).1.2.1 1 = .ok (.iload_n 1, 1) := by decide +kernel
theorem d226_2 : decode (tb_me 226).1.2.1 2 = .ok (.iload_n 2, 1) := by decide +kernel
theorem d226_3 : decode (tb_me 226).1.2.1 3 = .ok (.invokevirtual 345, 3) := by decide +kernel
theorem k226_345 (b : Bool) : tb_lk b 226 345 = (2, 214, 0, 0, 0) := by cases b <;> decide +kernel
theorem d227_0 : decode (tb_me 227).1.2.1 0 = .ok (.iconst 0, 1) := by decide +kernel
theorem d227_1 : decode (tb_me 227).1.2.1 1 = .ok (.istore_n 1, 1) := by decide +kernel
theorem d227_2 : decode (tb_me 227).1.2.1 2 = .ok (.iload_n 1, 1) := by decide +kernel
theorem d227_3 : decode (tb_me 227).1.2.1 3 = .ok (.aload_n 0, 1) := by decide +kernel
theorem d227_4 : decode (tb_me 227).1.2.1 4 = .ok (.getfield 39, 3) := by decide +kernel
theorem k227_39 (b : Bool) : tb_lk b 227 39 = (1, 10, 20, 0, 0) := by cases b <;> decide +kernel
theorem d227_7 : decode (tb_me 227).1.2.1 7 = .ok (.iconst 1, 1) := by decide +kernel
theorem d227_8 : decode (tb_me 227).1.2.1 8 = .ok (.iaload, 1) := by decide +kernel
theorem d227_9 : decode (tb_me 227).1.2.1 9 = .ok (.if_icmp .ge 74, 3) := by decide +kernel
theorem d227_83 : decode (tb_me 227).1.2.1 83 = .ok (.aload_n 0, 1) := by decide +kernel
theorem d227_84 : decode (tb_me 227).1.2.1 84 = .ok (.getfield 39, 3) := by decide +kernel
theorem d227_87 : decode (tb_me 227).1.2.1 87 = .ok (.iconst 4, 1) := by decide +kernel
theorem d227_88 : decode (tb_me 227).1.2.1 88 = .ok (.dup2, 1) := by decide +kernel
theorem d227_89 : decode (tb_me 227).1.2.1 89 = .ok (.iaload, 1) := by decide +kernel
theorem d227_90 : decode (tb_me 227).1.2.1 90 = .ok (.iconst 1, 1) := by decide +kernel
theorem d227_91 : decode (tb_me 227).1.2.1 91 = .ok (.iadd, 1) := by decide +kernel
theorem d227_92 : decode (tb_me 227).1.2.1 92 = .ok (.iastore, 1) := by decide +kernel
theorem d227_93 : decode (tb_me 227).1.2.1 93 = .ok (.return_, 1) := by decide +kernel
theorem t227 : (tb_me 227).1.2.2.2 = none := by decide +kernel
theorem d227_12 : decode (tb_me 227).1.2.1 12 = .ok (.bipush 10, 2) := by decide +kernel
theorem d227_14 : decode (tb_me 227).1.2.1 14 = .ok (.bipush 6, 2) := by decide +kernel
theorem d227_16 : decode (tb_me 227).1.2.1 16 = .ok (.iload_n 1, 1) := by decide +kernel
theorem d227_17 : decode (tb_me 227).1.2.1 17 = .ok (.imul, 1) := by decide +kernel
theorem d227_18 : decode (tb_me 227).1.2.1 18 = .ok (.iadd, 1) := by decide +kernel
theorem d227_19 : decode (tb_me 227).1.2.1 19 = .ok (.istore_n 2, 1) := by decide +kernel
theorem d227_20 : decode (tb_me 227).1.2.1 20 = .ok (.aload_n 0, 1) := by decide +kernel
theorem d227_21 : decode (tb_me 227).1.2.1 21 = .ok (.getfield 39, 3) := by decide +kernel
theorem d227_24 : decode (tb_me 227).1.2.1 24 = .ok (.iload_n 2, 1) := by decide +kernel
theorem d227_25 : decode (tb_me 227).1.2.1 25 = .ok (.iconst 3, 1) := by decide +kernel
theorem d227_26 : decode (tb_me 227).1.2.1 26 = .ok (.iadd, 1) := by decide +kernel
theorem d227_27 : decode (tb_me 227).1.2.1 27 = .ok (.iaload, 1) := by decide +kernel
theorem d227_28 : decode (tb_me 227).1.2.1 28 = .ok (.ifCond .le 15, 3) := by decide +kernel
theorem d227_43 : decode (tb_me 227).1.2.1 43 = .ok (.aload_n 0, 1) := by decide +kernel
theorem d227_44 : decode (tb_me 227).1.2.1 44 = .ok (.getfield 39, 3) := by decide +kernel
theorem d227_47 : decode (tb_me 227).1.2.1 47 = .ok (.iload_n 2, 1) := by decide +kernel
theorem d227_48 : decode (tb_me 227).1.2.1 48 = .ok (.iconst 5, 1) := by decide +kernel
theorem d227_49 : decode (tb_me 227).1.2.1 49 = .ok (.iadd, 1) := by decide +kernel
theorem d227_50 : decode (tb_me 227).1.2.1 50 = .ok (.aload_n 0, 1) := by decide +kernel
theorem d227_51 : decode (tb_me 227).1.2.1 51 = .ok (.getfield 39, 3) := by decide +kernel
theorem d227_54 : decode (tb_me 227).1.2.1 54 = .ok (.iload_n 2, 1) := by decide +kernel
theorem d227_55 : decode (tb_me 227).1.2.1 55 = .ok (.iconst 2, 1) := by decide +kernel
theorem d227_56 : decode (tb_me 227).1.2.1 56 = .ok (.iadd, 1) := by decide +kernel
theorem d227_57 : decode (tb_me 227).1.2.1 57 = .ok (.iaload, 1) := by decide +kernel
theorem d227_58 : decode (tb_me 227).1.2.1 58 = .ok (.iconst 1, 1) := by decide +kernel
theorem d227_59 : decode (tb_me 227).1.2.1 59 = .ok (.if_icmp .ne 16, 3) := by decide +kernel
theorem d227_75 : decode (tb_me 227).1.2.1 75 = .ok (.iconst 0, 1) := by decide +kernel
theorem d227_76 : decode (tb_me 227).1.2.1 76 = .ok (.iastore, 1) := by decide +kernel
theorem d227_77 : decode (tb_me 227).1.2.1 77 = .ok (.iinc 1 1, 3) := by decide +kernel
theorem d227_80 : decode (tb_me 227).1.2.1 80 = .ok (.goto (-78), 3) := by decide +kernel
theorem d228_0 : decode (tb_me 228).1.2.1 0 = .ok (.aload_n 0, 1) := by decide +kernel
theorem d228_1 : decode (tb_me 228).1.2.1 1 = .ok (.invokevirtual 305, 3) := by decide +kernel
theorem k228_305 (b : Bool) : tb_lk b 228 305 = (2, 192, 0, 0, 0) := by cases b <;> decide +kernel
theorem d228_4 : decode (tb_me 228).1.2.1 4 = .ok (.ifCond .eq 15, 3) := by decide +kernel
theorem d228_19 : decode (tb_me 228).1.2.1 19 = .ok (.iconst (-1), 1) := by decide +kernel
theorem d228_20 : decode (tb_me 228).1.2.1 20 = .ok (.ireturn, 1) := by decide +kernel
theorem t228 : (tb_me 228).1.2.2.2 = some .int := by decide +kernel
theorem d228_7 : decode (tb_me 228).1.2.1 7 = .ok (.aload_n 0, 1) := by decide +kernel
theorem d228_8 : decode (tb_me 228).1.2.1 8 = .ok (.getfield 39, 3) := by decide +kernel
theorem k228_39 (b : Bool) : tb_lk b 228 39 = (1, 10, 20, 0, 0) := by cases b <;> decide +kernel
theorem d228_11 : decode (tb_me 228).1.2.1 11 = .ok (.iconst 4, 1) := by decide +kernel
theorem d228_12 : decode (tb_me 228).1.2.1 12 = .ok (.iaload, 1) := by decide +kernel
theorem d228_13 : decode (tb_me 228).1.2.1 13 = .ok (.sipush 999, 3) := by decide +kernel
theorem d228_16 : decode (tb_me 228).1.2.1 16 = .ok (.if_icmp .ne 5, 3) := by decide +kernel
theorem d228_21 : decode (tb_me 228).1.2.1 21 = .ok (.aload_n 0, 1) := by decide +kernel
theorem d228_22 : decode (tb_me 228).1.2.1 22 = .ok (.invokevirtual 348, 3) := by decide +kernel
theorem k228_348 (b : Bool) : tb_lk b 228 348 = (2, 224, 0, 0, 0) := by cases b <;> decide +kernel
theorem d229_0 : decode (tb_me 229).1.2.1 0 = .ok (.aload_n 0, 1) := by decide +kernel
theorem d229_1 : decode (tb_me 229).1.2.1 1 = .ok (.iload_n 1, 1) := by decide +kernel
theorem d229_2 : decode (tb_me 229).1.2.1 2 = .ok (.invokevirtual 277, 3) := by decide +kernel
theorem k229_277 (b : Bool) : tb_lk b 229 277 = (2, 197, 0, 0, 0) := by cases b <;> decide +kernel
theorem d229_5 : decode (tb_me 229).1.2.1 5 = .ok (.ifCond .eq 22, 3) := by decide +kernel
theorem d229_27 : decode (tb_me 229).1.2.1 27 = .ok (.iconst 0, 1) := by decide +kernel
theorem d229_28 : decode (tb_me 229).1.2.1 28 = .ok (.ireturn, 1) := by decide +kernel
theorem t229 : (tb_me 229).1.2.2.2 = some .boolean := by decide +kernel
theorem d229_8 : decode (tb_me 229).1.2.1 8 = .ok (.aload_n 0, 1) := by decide +kernel
theorem d229_9 : decode (tb_me 229).1.2.1 9 = .ok (.iload_n 1, 1) := by decide +kernel
theorem d229_10 : decode (tb_me 229).1.2.1 10 = .ok (.iconst 2, 1) := by decide +kernel
theorem d229_11 : decode (tb_me 229).1.2.1 11 = .ok (.invokevirtual 273, 3) := by decide +kernel
theorem k229_273 (b : Bool) : tb_lk b 229 273 = (2, 196, 0, 0, 0) := by cases b <;> decide +kernel
theorem d229_14 : decode (tb_me 229).1.2.1 14 = .ok (.iconst 1, 1) := by decide +kernel
theorem d229_15 : decode (tb_me 229).1.2.1 15 = .ok (.if_icmp .ne 7, 3) := by decide +kernel
theorem d229_22 : decode (tb_me 229).1.2.1 22 = .ok (.iconst 0, 1) := by decide +kernel
theorem d229_23 : decode (tb_me 229).1.2.1 23 = .ok (.iload_n 2, 1) := by decide +kernel
theorem d229_24 : decode (tb_me 229).1.2.1 24 = .ok (.if_icmp .ne 5, 3) := by decide +kernel
theorem d229_29 : decode (tb_me 229).1.2.1 29 = .ok (.aload_n 0, 1) := by decide +kernel
theorem d229_30 : decode (tb_me 229).1.2.1 30 = .ok (.invokevirtual 348, 3) := by decide +kernel
theorem k229_348 (b : Bool) : tb_lk b 229 348 = (2, 224, 0, 0, 0) := by cases b <;> decide +kernel
theorem d230_0 : decode (tb_me 230).1.2.1 0 = .ok (.aload_n 0, 1) := by decide +kernel
theorem d230_1 : decode (tb_me 230).1.2.1 1 = .ok (.iload_n 1, 1) := by decide +kernel
theorem d230_2 : decode (tb_me 230).1.2.1 2 = .ok (.invokevirtual 277, 3) := by decide +kernel
theorem k230_277 (b : Bool) : tb_lk b 230 277 = (2, 197, 0, 0, 0) := by cases b <;> decide +kernel
theorem d230_5 : decode (tb_me 230).1.2.1 5 = .ok (.ifCond .eq 15, 3) := by decide +kernel
theorem d230_20 : decode (tb_me 230).1.2.1 20 = .ok (.iconst (-1), 1) := by decide +kernel
theorem d230_21 : decode (tb_me 230).1.2.1 21 = .ok (.ireturn, 1) := by decide +kernel
theorem t230 : (tb_me 230).1.2.2.2 = some .int := by decide +kernel
theorem d230_8 : decode (tb_me 230).1.2.1 8 = .ok (.iload_n 2, 1) := by decide +kernel
theorem d230_9 : decode (tb_me 230).1.2.1 9 = .ok (.i2l, 1) := by decide +kernel
theorem d230_10 : decode (tb_me 230).1.2.1 10 = .ok (.lconst 0, 1) := by decide +kernel
theorem d230_11 : decode (tb_me 230).1.2.1 11 = .ok (.ldc2_w 354, 3) := by decide +kernel
theorem k230_354 (b : Bool) : tb_lk b 230 354 = (12, 0, 0, 0, 9) := by cases b <;> decide +kernel
theorem d230_14 : decode (tb_me 230).1.2.1 14 = .ok (.invokestatic 112, 3) := by decide +kernel
theorem k230_112 (b : Bool) : tb_lk b 230 112 = (4, 148, 0, 0, 0) := by cases b <;> decide +kernel
theorem d230_17 : decode (tb_me 230).1.2.1 17 = .ok (.ifCond .ne 5, 3) := by decide +kernel
theorem d230_22 : decode (tb_me 230).1.2.1 22 = .ok (.aload_n 0, 1) := by decide +kernel
theorem d230_23 : decode (tb_me 230).1.2.1 23 = .ok (.invokevirtual 348, 3) := by decide +kernel
theorem k230_348 (b : Bool) : tb_lk b 230 348 = (2, 224, 0, 0, 0) := by cases b <;> decide +kernel
theorem d231_0 : decode (tb_me 231).1.2.1 0 = .ok (.aload_n 0, 1) := by decide +kernel
theorem d231_1 : decode (tb_me 231).1.2.1 1 = .ok (.iload_n 1, 1) := by decide +kernel
theorem d231_2 : decode (tb_me 231).1.2.1 2 = .ok (.invokevirtual 277, 3) := by decide +kernel
theorem k231_277 (b : Bool) : tb_lk b 231 277 = (2, 197, 0, 0, 0) := by cases b <;> decide +kernel
theorem d231_5 : decode (tb_me 231).1.2.1 5 = .ok (.ifCond .ne 5, 3) := by decide +kernel
theorem d231_10 : decode (tb_me 231).1.2.1 10 = .ok (.aload_n 0, 1) := by decide +kernel
theorem d231_11 : decode (tb_me 231).1.2.1 11 = .ok (.invokevirtual 348, 3) := by decide +kernel
theorem k231_348 (b : Bool) : tb_lk b 231 348 = (2, 224, 0, 0, 0) := by cases b <;> decide +kernel
theorem d232_0 : decode (tb_me 232).1.2.1 0 = .ok (.aload_n 0, 1) := by decide +kernel
theorem d232_1 : decode (tb_me 232).1.2.1 1 = .ok (.iload_n 1, 1) := by decide +kernel
theorem d232_2 : decode (tb_me 232).1.2.1 2 = .ok (.invokevirtual 296, 3) := by decide +kernel
theorem k232_296 (b : Bool) : tb_lk b 232 296 = (2, 195, 0, 0, 0) := by cases b <;> decide +kernel
theorem d232_5 : decode (tb_me 232).1.2.1 5 = .ok (.ifCond .eq 14, 3) := by decide +kernel
theorem d232_19 : decode (tb_me 232).1.2.1 19 = .ok (.bipush (-2), 2) := by decide +kernel
theorem d232_21 : decode (tb_me 232).1.2.1 21 = .ok (.ireturn, 1) := by decide +kernel
theorem t232 : (tb_me 232).1.2.2.2 = some .int := by decide +kernel
theorem d232_8 : decode (tb_me 232).1.2.1 8 = .ok (.aload_n 0, 1) := by decide +kernel
theorem d232_9 : decode (tb_me 232).1.2.1 9 = .ok (.getfield 39, 3) := by decide +kernel
theorem k232_39 (b : Bool) : tb_lk b 232 39 = (1, 10, 20, 0, 0) := by cases b <;> decide +kernel
theorem d232_12 : decode (tb_me 232).1.2.1 12 = .ok (.bipush 6, 2) := by decide +kernel
theorem d232_14 : decode (tb_me 232).1.2.1 14 = .ok (.iaload, 1) := by decide +kernel
theorem d232_15 : decode (tb_me 232).1.2.1 15 = .ok (.iload_n 1, 1) := by decide +kernel
theorem d232_16 : decode (tb_me 232).1.2.1 16 = .ok (.if_icmp .ne 6, 3) := by decide +kernel
theorem d232_22 : decode (tb_me 232).1.2.1 22 = .ok (.aload_n 0, 1) := by decide +kernel
theorem d232_23 : decode (tb_me 232).1.2.1 23 = .ok (.invokevirtual 348, 3) := by decide +kernel
theorem k232_348 (b : Bool) : tb_lk b 232 348 = (2, 224, 0, 0, 0) := by cases b <;> decide +kernel
theorem d233_0 : decode (tb_me 233).1.2.1 0 = .ok (.aload_n 0, 1) := by decide +kernel
theorem d233_1 : decode (tb_me 233).1.2.1 1 = .ok (.invokevirtual 305, 3) := by decide +kernel
theorem k233_305 (b : Bool) : tb_lk b 233 305 = (2, 192, 0, 0, 0) := by cases b <;> decide +kernel
theorem d233_4 : decode (tb_me 233).1.2.1 4 = .ok (.ifCond .eq 25, 3) := by decide +kernel
theorem d233_29 : decode (tb_me 233).1.2.1 29 = .ok (.iconst (-1), 1) := by decide +kernel
theorem d233_30 : decode (tb_me 233).1.2.1 30 = .ok (.ireturn, 1) := by decide +kernel
theorem t233 : (tb_me 233).1.2.2.2 = some .int := by decide +kernel
theorem d233_7 : decode (tb_me 233).1.2.1 7 = .ok (.iload_n 1, 1) := by decide +kernel
theorem d233_8 : decode (tb_me 233).1.2.1 8 = .ok (.i2l, 1) := by decide +kernel
theorem d233_9 : decode (tb_me 233).1.2.1 9 = .ok (.lconst 0, 1) := by decide +kernel
theorem d233_10 : decode (tb_me 233).1.2.1 10 = .ok (.ldc2_w 359, 3) := by decide +kernel
theorem k233_359 (b : Bool) : tb_lk b 233 359 = (12, 0, 0, 0, 2) := by cases b <;> decide +kernel
theorem d233_13 : decode (tb_me 233).1.2.1 13 = .ok (.invokestatic 112, 3) := by decide +kernel
theorem k233_112 (b : Bool) : tb_lk b 233 112 = (4, 148, 0, 0, 0) := by cases b <;> decide +kernel
theorem d233_16 : decode (tb_me 233).1.2.1 16 = .ok (.ifCond .eq 13, 3) := by decide +kernel
theorem d233_19 : decode (tb_me 233).1.2.1 19 = .ok (.aload_n 0, 1) := by decide +kernel
theorem d233_20 : decode (tb_me 233).1.2.1 20 = .ok (.getfield 39, 3) := by decide +kernel
theorem k233_39 (b : Bool) : tb_lk b 233 39 = (1, 10, 20, 0, 0) := by cases b <;> decide +kernel
theorem d233_23 : decode (tb_me 233).1.2.1 23 = .ok (.iconst 5, 1) := by decide +kernel
theorem d233_24 : decode (tb_me 233).1.2.1 24 = .ok (.iaload, 1) := by decide +kernel
theorem d233_25 : decode (tb_me 233).1.2.1 25 = .ok (.iload_n 1, 1) := by decide +kernel
theorem d233_26 : decode (tb_me 233).1.2.1 26 = .ok (.if_icmp .ne 5, 3) := by decide +kernel
theorem d233_31 : decode (tb_me 233).1.2.1 31 = .ok (.aload_n 0, 1) := by decide +kernel
theorem d233_32 : decode (tb_me 233).1.2.1 32 = .ok (.invokevirtual 348, 3) := by decide +kernel
theorem k233_348 (b : Bool) : tb_lk b 233 348 = (2, 224, 0, 0, 0) := by cases b <;> decide +kernel
theorem d234_0 : decode (tb_me 234).1.2.1 0 = .ok (.iconst 0, 1) := by decide +kernel
theorem d234_1 : decode (tb_me 234).1.2.1 1 = .ok (.istore_n 2, 1) := by decide +kernel
theorem d234_2 : decode (tb_me 234).1.2.1 2 = .ok (.iconst 0, 1) := by decide +kernel
theorem d234_3 : decode (tb_me 234).1.2.1 3 = .ok (.istore_n 3, 1) := by decide +kernel
theorem d234_4 : decode (tb_me 234).1.2.1 4 = .ok (.iload_n 3, 1) := by decide +kernel
theorem d234_5 : decode (tb_me 234).1.2.1 5 = .ok (.aload_n 0, 1) := by decide +kernel
theorem d234_6 : decode (tb_me 234).1.2.1 6 = .ok (.getfield 39, 3) := by decide +kernel
theorem k234_39 (b : Bool) : tb_lk b 234 39 = (1, 10, 20, 0, 0) := by cases b <;> decide +kernel
theorem d234_9 : decode (tb_me 234).1.2.1 9 = .ok (.iconst 2, 1) := by decide +kernel
theorem d234_10 : decode (tb_me 234).1.2.1 10 = .ok (.iaload, 1) := by decide +kernel
theorem d234_11 : decode (tb_me 234).1.2.1 11 = .ok (.if_icmp .ge 83, 3) := by decide +kernel
theorem d234_94 : decode (tb_me 234).1.2.1 94 = .ok (.iload_n 2, 1) := by decide +kernel
theorem d234_95 : decode (tb_me 234).1.2.1 95 = .ok (.ireturn, 1) := by decide +kernel
theorem t234 : (tb_me 234).1.2.2.2 = some .int := by decide +kernel
theorem d234_14 : decode (tb_me 234).1.2.1 14 = .ok (.iconst 0, 1) := by decide +kernel
theorem d234_15 : decode (tb_me 234).1.2.1 15 = .ok (.istore 4, 2) := by decide +kernel
theorem d234_17 : decode (tb_me 234).1.2.1 17 = .ok (.iconst 0, 1) := by decide +kernel
theorem d234_18 : decode (tb_me 234).1.2.1 18 = .ok (.istore 5, 2) := by decide +kernel
theorem d234_20 : decode (tb_me 234).1.2.1 20 = .ok (.iload 5, 2) := by decide +kernel
theorem d234_22 : decode (tb_me 234).1.2.1 22 = .ok (.aload_n 0, 1) := by decide +kernel
theorem d234_23 : decode (tb_me 234).1.2.1 23 = .ok (.iload_n 3, 1) := by decide +kernel
theorem d234_24 : decode (tb_me 234).1.2.1 24 = .ok (.iconst 1, 1) := by decide +kernel
theorem d234_25 : decode (tb_me 234).1.2.1 25 = .ok (.invokevirtual 293, 3) := by decide +kernel
theorem k234_293 (b : Bool) : tb_lk b 234 293 = (2, 203, 0, 0, 0) := by cases b <;> decide +kernel
theorem d234_28 : decode (tb_me 234).1.2.1 28 = .ok (.if_icmp .ge 34, 3) := by decide +kernel
theorem d234_62 : decode (tb_me 234).1.2.1 62 = .ok (.iload 4, 2) := by decide +kernel
theorem d234_64 : decode (tb_me 234).1.2.1 64 = .ok (.ifCond .eq 22, 3) := by decide +kernel
theorem d234_86 : decode (tb_me 234).1.2.1 86 = .ok (.iload_n 2, 1) := by decide +kernel
theorem d234_87 : decode (tb_me 234).1.2.1 87 = .ok (.istore_n 2, 1) := by decide +kernel
theorem d234_88 : decode (tb_me 234).1.2.1 88 = .ok (.iinc 3 1, 3) := by decide +kernel
theorem d234_91 : decode (tb_me 234).1.2.1 91 = .ok (.goto (-87), 3) := by decide +kernel
theorem d235_0 : decode (tb_me 235).1.2.1 0 = .ok (.iconst 0, 1) := by decide +kernel
theorem d235_1 : decode (tb_me 235).1.2.1 1 = .ok (.istore_n 2, 1) := by decide +kernel
theorem d235_2 : decode (tb_me 235).1.2.1 2 = .ok (.iconst 0, 1) := by decide +kernel
theorem d235_3 : decode (tb_me 235).1.2.1 3 = .ok (.istore_n 3, 1) := by decide +kernel
theorem d235_4 : decode (tb_me 235).1.2.1 4 = .ok (.iload_n 3, 1) := by decide +kernel
theorem d235_5 : decode (tb_me 235).1.2.1 5 = .ok (.aload_n 0, 1) := by decide +kernel
theorem d235_6 : decode (tb_me 235).1.2.1 6 = .ok (.getfield 39, 3) := by decide +kernel
theorem k235_39 (b : Bool) : tb_lk b 235 39 = (1, 10, 20, 0, 0) := by cases b <;> decide +kernel
theorem d235_9 : decode (tb_me 235).1.2.1 9 = .ok (.iconst 1, 1) := by decide +kernel
theorem d235_10 : decode (tb_me 235).1.2.1 10 = .ok (.iaload, 1) := by decide +kernel
theorem d235_11 : decode (tb_me 235).1.2.1 11 = .ok (.if_icmp .ge 45, 3) := by decide +kernel
theorem d235_56 : decode (tb_me 235).1.2.1 56 = .ok (.aload_n 0, 1) := by decide +kernel
theorem d235_57 : decode (tb_me 235).1.2.1 57 = .ok (.getfield 36, 3) := by decide +kernel
theorem k235_36 (b : Bool) : tb_lk b 235 36 = (1, 10, 19, 0, 0) := by cases b <;> decide +kernel
theorem f10_19 : (19 < pm_nf tb_cl 10) ∧ tb_ft 10 19 ≠ .long ∧ pm_isR (tb_ft 10 19) = true := by decide +kernel
theorem d235_60 : decode (tb_me 235).1.2.1 60 = .ok (.iconst 0, 1) := by decide +kernel
theorem d235_61 : decode (tb_me 235).1.2.1 61 = .ok (.iload_n 1, 1) := by decide +kernel
theorem d235_62 : decode (tb_me 235).1.2.1 62 = .ok (.i2l, 1) := by decide +kernel
theorem d235_63 : decode (tb_me 235).1.2.1 63 = .ok (.lastore, 1) := by decide +kernel
theorem d235_64 : decode (tb_me 235).1.2.1 64 = .ok (.aload_n 0, 1) := by decide +kernel
theorem d235_65 : decode (tb_me 235).1.2.1 65 = .ok (.getfield 36, 3) := by decide +kernel
theorem d235_68 : decode (tb_me 235).1.2.1 68 = .ok (.iconst 1, 1) := by decide +kernel
theorem d235_69 : decode (tb_me 235).1.2.1 69 = .ok (.aload_n 0, 1) := by decide +kernel
theorem d235_70 : decode (tb_me 235).1.2.1 70 = .ok (.iload_n 1, 1) := by decide +kernel
theorem d235_71 : decode (tb_me 235).1.2.1 71 = .ok (.iconst 0, 1) := by decide +kernel
theorem d235_72 : decode (tb_me 235).1.2.1 72 = .ok (.invokevirtual 273, 3) := by decide +kernel
theorem k235_273 (b : Bool) : tb_lk b 235 273 = (2, 196, 0, 0, 0) := by cases b <;> decide +kernel
theorem d235_75 : decode (tb_me 235).1.2.1 75 = .ok (.i2l, 1) := by decide +kernel
theorem d235_76 : decode (tb_me 235).1.2.1 76 = .ok (.lastore, 1) := by decide +kernel
theorem d235_77 : decode (tb_me 235).1.2.1 77 = .ok (.aload_n 0, 1) := by decide +kernel
theorem d235_78 : decode (tb_me 235).1.2.1 78 = .ok (.getfield 36, 3) := by decide +kernel
theorem d235_81 : decode (tb_me 235).1.2.1 81 = .ok (.iconst 2, 1) := by decide +kernel
theorem d235_82 : decode (tb_me 235).1.2.1 82 = .ok (.aload_n 0, 1) := by decide +kernel
theorem d235_83 : decode (tb_me 235).1.2.1 83 = .ok (.iload_n 1, 1) := by decide +kernel
theorem d235_84 : decode (tb_me 235).1.2.1 84 = .ok (.iconst 1, 1) := by decide +kernel
theorem d235_85 : decode (tb_me 235).1.2.1 85 = .ok (.invokevirtual 273, 3) := by decide +kernel
theorem d235_88 : decode (tb_me 235).1.2.1 88 = .ok (.i2l, 1) := by decide +kernel
theorem d235_89 : decode (tb_me 235).1.2.1 89 = .ok (.lastore, 1) := by decide +kernel
theorem d235_90 : decode (tb_me 235).1.2.1 90 = .ok (.aload_n 0, 1) := by decide +kernel
theorem d235_91 : decode (tb_me 235).1.2.1 91 = .ok (.getfield 36, 3) := by decide +kernel
theorem d235_94 : decode (tb_me 235).1.2.1 94 = .ok (.iconst 3, 1) := by decide +kernel
theorem d235_95 : decode (tb_me 235).1.2.1 95 = .ok (.aload_n 0, 1) := by decide +kernel
theorem d235_96 : decode (tb_me 235).1.2.1 96 = .ok (.getfield 39, 3) := by decide +kernel
theorem d235_99 : decode (tb_me 235).1.2.1 99 = .ok (.iconst 4, 1) := by decide +kernel
theorem d235_100 : decode (tb_me 235).1.2.1 100 = .ok (.iaload, 1) := by decide +kernel
theorem d235_101 : decode (tb_me 235).1.2.1 101 = .ok (.i2l, 1) := by decide +kernel
theorem d235_102 : decode (tb_me 235).1.2.1 102 = .ok (.lastore, 1) := by decide +kernel
theorem d235_103 : decode (tb_me 235).1.2.1 103 = .ok (.aload_n 0, 1) := by decide +kernel
theorem d235_104 : decode (tb_me 235).1.2.1 104 = .ok (.getfield 36, 3) := by decide +kernel
theorem d235_107 : decode (tb_me 235).1.2.1 107 = .ok (.iconst 4, 1) := by decide +kernel
theorem d235_108 : decode (tb_me 235).1.2.1 108 = .ok (.aload_n 0, 1) := by decide +kernel
theorem d235_109 : decode (tb_me 235).1.2.1 109 = .ok (.getfield 39, 3) := by decide +kernel
theorem d235_112 : decode (tb_me 235).1.2.1 112 = .ok (.iconst 5, 1) := by decide +kernel
theorem d235_113 : decode (tb_me 235).1.2.1 113 = .ok (.iaload, 1) := by decide +kernel
theorem d235_114 : decode (tb_me 235).1.2.1 114 = .ok (.i2l, 1) := by decide +kernel
theorem d235_115 : decode (tb_me 235).1.2.1 115 = .ok (.lastore, 1) := by decide +kernel
theorem d235_116 : decode (tb_me 235).1.2.1 116 = .ok (.aload_n 0, 1) := by decide +kernel
theorem d235_117 : decode (tb_me 235).1.2.1 117 = .ok (.getfield 36, 3) := by decide +kernel
theorem d235_120 : decode (tb_me 235).1.2.1 120 = .ok (.iconst 5, 1) := by decide +kernel
theorem d235_121 : decode (tb_me 235).1.2.1 121 = .ok (.aload_n 0, 1) := by decide +kernel
theorem d235_122 : decode (tb_me 235).1.2.1 122 = .ok (.invokevirtual 361, 3) := by decide +kernel
theorem k235_361 (b : Bool) : tb_lk b 235 361 = (2, 202, 0, 0, 0) := by cases b <;> decide +kernel
theorem d236_0 : decode (tb_me 236).1.2.1 0 = .ok (.iconst 0, 1) := by decide +kernel
theorem d236_1 : decode (tb_me 236).1.2.1 1 = .ok (.istore_n 2, 1) := by decide +kernel
theorem d236_2 : decode (tb_me 236).1.2.1 2 = .ok (.iload_n 2, 1) := by decide +kernel
theorem d236_3 : decode (tb_me 236).1.2.1 3 = .ok (.aload_n 0, 1) := by decide +kernel
theorem d236_4 : decode (tb_me 236).1.2.1 4 = .ok (.getfield 23, 3) := by decide +kernel
theorem k236_23 (b : Bool) : tb_lk b 236 23 = (1, 10, 6, 0, 0) := by cases b <;> decide +kernel
theorem d236_7 : decode (tb_me 236).1.2.1 7 = .ok (.iload_n 1, 1) := by decide +kernel
theorem d236_8 : decode (tb_me 236).1.2.1 8 = .ok (.iaload, 1) := by decide +kernel
theorem d236_9 : decode (tb_me 236).1.2.1 9 = .ok (.if_icmp .ge 75, 3) := by decide +kernel
theorem d236_84 : decode (tb_me 236).1.2.1 84 = .ok (.lconst 0, 1) := by decide +kernel
theorem d236_85 : decode (tb_me 236).1.2.1 85 = .ok (.lreturn, 1) := by decide +kernel
theorem t236 : (tb_me 236).1.2.2.2 = some .long := by decide +kernel
theorem d236_12 : decode (tb_me 236).1.2.1 12 = .ok (.bipush 48, 2) := by decide +kernel
theorem d236_14 : decode (tb_me 236).1.2.1 14 = .ok (.iload_n 1, 1) := by decide +kernel
theorem d236_15 : decode (tb_me 236).1.2.1 15 = .ok (.imul, 1) := by decide +kernel
theorem d236_16 : decode (tb_me 236).1.2.1 16 = .ok (.iconst 4, 1) := by decide +kernel
theorem d236_17 : decode (tb_me 236).1.2.1 17 = .ok (.iload_n 2, 1) := by decide +kernel
theorem d236_18 : decode (tb_me 236).1.2.1 18 = .ok (.imul, 1) := by decide +kernel
theorem d236_19 : decode (tb_me 236).1.2.1 19 = .ok (.iadd, 1) := by decide +kernel
theorem d236_20 : decode (tb_me 236).1.2.1 20 = .ok (.istore_n 3, 1) := by decide +kernel
theorem d236_21 : decode (tb_me 236).1.2.1 21 = .ok (.aload_n 0, 1) := by decide +kernel
theorem d236_22 : decode (tb_me 236).1.2.1 22 = .ok (.getfield 20, 3) := by decide +kernel
theorem k236_20 (b : Bool) : tb_lk b 236 20 = (1, 10, 5, 0, 0) := by cases b <;> decide +kernel
theorem f10_5 : (5 < pm_nf tb_cl 10) ∧ tb_ft 10 5 ≠ .long ∧ pm_isR (tb_ft 10 5) = true := by decide +kernel
theorem d236_25 : decode (tb_me 236).1.2.1 25 = .ok (.iload_n 3, 1) := by decide +kernel
theorem d236_26 : decode (tb_me 236).1.2.1 26 = .ok (.iconst 2, 1) := by decide +kernel
theorem d236_27 : decode (tb_me 236).1.2.1 27 = .ok (.iadd, 1) := by decide +kernel
theorem d236_28 : decode (tb_me 236).1.2.1 28 = .ok (.iaload, 1) := by decide +kernel
theorem d236_29 : decode (tb_me 236).1.2.1 29 = .ok (.ifCond .lt 29, 3) := by decide +kernel
theorem d236_58 : decode (tb_me 236).1.2.1 58 = .ok (.aload_n 0, 1) := by decide +kernel
theorem d236_59 : decode (tb_me 236).1.2.1 59 = .ok (.iload_n 1, 1) := by decide +kernel
theorem d236_60 : decode (tb_me 236).1.2.1 60 = .ok (.aload_n 0, 1) := by decide +kernel
theorem d236_61 : decode (tb_me 236).1.2.1 61 = .ok (.getfield 20, 3) := by decide +kernel
theorem d236_64 : decode (tb_me 236).1.2.1 64 = .ok (.iload_n 3, 1) := by decide +kernel
theorem d236_65 : decode (tb_me 236).1.2.1 65 = .ok (.iaload, 1) := by decide +kernel
theorem d236_66 : decode (tb_me 236).1.2.1 66 = .ok (.aload_n 0, 1) := by decide +kernel
theorem d236_67 : decode (tb_me 236).1.2.1 67 = .ok (.getfield 20, 3) := by decide +kernel
theorem d236_70 : decode (tb_me 236).1.2.1 70 = .ok (.iload_n 3, 1) := by decide +kernel
theorem d236_71 : decode (tb_me 236).1.2.1 71 = .ok (.iconst 1, 1) := by decide +kernel
theorem d236_72 : decode (tb_me 236).1.2.1 72 = .ok (.iadd, 1) := by decide +kernel
theorem d236_73 : decode (tb_me 236).1.2.1 73 = .ok (.iaload, 1) := by decide +kernel
theorem d236_74 : decode (tb_me 236).1.2.1 74 = .ok (.invokevirtual 367, 3) := by decide +kernel
theorem k236_367 (b : Bool) : tb_lk b 236 367 = (2, 191, 0, 0, 0) := by cases b <;> decide +kernel
theorem d237_0 : decode (tb_me 237).1.2.1 0 = .ok (.aload_n 0, 1) := by decide +kernel
theorem d237_1 : decode (tb_me 237).1.2.1 1 = .ok (.invokevirtual 305, 3) := by decide +kernel
theorem k237_305 (b : Bool) : tb_lk b 237 305 = (2, 192, 0, 0, 0) := by cases b <;> decide +kernel
theorem d237_4 : decode (tb_me 237).1.2.1 4 = .ok (.ifCond .eq 37, 3) := by decide +kernel
theorem d237_41 : decode (tb_me 237).1.2.1 41 = .ok (.iconst (-1), 1) := by decide +kernel
theorem d237_42 : decode (tb_me 237).1.2.1 42 = .ok (.ireturn, 1) := by decide +kernel
theorem t237 : (tb_me 237).1.2.2.2 = some .int := by decide +kernel
theorem d237_7 : decode (tb_me 237).1.2.1 7 = .ok (.aload_n 0, 1) := by decide +kernel
theorem d237_8 : decode (tb_me 237).1.2.1 8 = .ok (.iload_n 1, 1) := by decide +kernel
theorem d237_9 : decode (tb_me 237).1.2.1 9 = .ok (.invokevirtual 371, 3) := by decide +kernel
theorem k237_371 (b : Bool) : tb_lk b 237 371 = (2, 187, 0, 0, 0) := by cases b <;> decide +kernel
theorem m187 : (tb_me 187).2 = ((0, 0), (1, 10)) ∧ (tb_me 187).1.2.2.1 = 2 := by decide +kernel
theorem d237_12 : decode (tb_me 237).1.2.1 12 = .ok (.ifCond .eq 29, 3) := by decide +kernel
theorem d237_15 : decode (tb_me 237).1.2.1 15 = .ok (.iload_n 2, 1) := by decide +kernel
theorem d237_16 : decode (tb_me 237).1.2.1 16 = .ok (.i2l, 1) := by decide +kernel
theorem d237_17 : decode (tb_me 237).1.2.1 17 = .ok (.lconst 1, 1) := by decide +kernel
theorem d237_18 : decode (tb_me 237).1.2.1 18 = .ok (.ldc2_w 374, 3) := by decide +kernel
theorem k237_374 (b : Bool) : tb_lk b 237 374 = (12, 0, 0, 0, 60) := by cases b <;> decide +kernel
theorem d237_21 : decode (tb_me 237).1.2.1 21 = .ok (.invokestatic 112, 3) := by decide +kernel
theorem k237_112 (b : Bool) : tb_lk b 237 112 = (4, 148, 0, 0, 0) := by cases b <;> decide +kernel
theorem d237_24 : decode (tb_me 237).1.2.1 24 = .ok (.ifCond .eq 17, 3) := by decide +kernel
theorem d237_27 : decode (tb_me 237).1.2.1 27 = .ok (.aload_n 0, 1) := by decide +kernel
theorem d237_28 : decode (tb_me 237).1.2.1 28 = .ok (.getfield 39, 3) := by decide +kernel
theorem k237_39 (b : Bool) : tb_lk b 237 39 = (1, 10, 20, 0, 0) := by cases b <;> decide +kernel
theorem d237_31 : decode (tb_me 237).1.2.1 31 = .ok (.iconst 4, 1) := by decide +kernel
theorem d237_32 : decode (tb_me 237).1.2.1 32 = .ok (.iaload, 1) := by decide +kernel
theorem d237_33 : decode (tb_me 237).1.2.1 33 = .ok (.iload_n 2, 1) := by decide +kernel
theorem d237_34 : decode (tb_me 237).1.2.1 34 = .ok (.iadd, 1) := by decide +kernel
theorem d237_35 : decode (tb_me 237).1.2.1 35 = .ok (.sipush 999, 3) := by decide +kernel
theorem d237_38 : decode (tb_me 237).1.2.1 38 = .ok (.if_icmp .le 5, 3) := by decide +kernel
theorem d237_43 : decode (tb_me 237).1.2.1 43 = .ok (.aload_n 0, 1) := by decide +kernel
theorem d237_44 : decode (tb_me 237).1.2.1 44 = .ok (.iconst 0, 1) := by decide +kernel
theorem d237_45 : decode (tb_me 237).1.2.1 45 = .ok (.putfield 252, 3) := by decide +kernel
theorem k237_252 (b : Bool) : tb_lk b 237 252 = (1, 10, 28, 0, 0) := by cases b <;> decide +kernel
theorem p237_10_28 : (28 < pm_nf tb_cl 10) ∧ tb_ft 10 28 = .int ∧ pm_fin tb_cl (tb_me 237).1.1 10 28 = true := by decide +kernel
theorem d237_48 : decode (tb_me 237).1.2.1 48 = .ok (.iconst 0, 1) := by decide +kernel
theorem d237_49 : decode (tb_me 237).1.2.1 49 = .ok (.istore_n 3, 1) := by decide +kernel
theorem d237_50 : decode (tb_me 237).1.2.1 50 = .ok (.iload_n 3, 1) := by decide +kernel
theorem d237_51 : decode (tb_me 237).1.2.1 51 = .ok (.iload_n 2, 1) := by decide +kernel
theorem d237_52 : decode (tb_me 237).1.2.1 52 = .ok (.if_icmp .ge 81, 3) := by decide +kernel
theorem d237_133 : decode (tb_me 237).1.2.1 133 = .ok (.aload_n 0, 1) := by decide +kernel
theorem d237_134 : decode (tb_me 237).1.2.1 134 = .ok (.getfield 39, 3) := by decide +kernel
theorem d237_137 : decode (tb_me 237).1.2.1 137 = .ok (.iconst 4, 1) := by decide +kernel
theorem d237_138 : decode (tb_me 237).1.2.1 138 = .ok (.iaload, 1) := by decide +kernel
theorem d237_139 : decode (tb_me 237).1.2.1 139 = .ok (.ireturn, 1) := by decide +kernel
theorem d237_55 : decode (tb_me 237).1.2.1 55 = .ok (.iconst 0, 1) := by decide +kernel
theorem d237_56 : decode (tb_me 237).1.2.1 56 = .ok (.istore 4, 2) := by decide +kernel
theorem d237_58 : decode (tb_me 237).1.2.1 58 = .ok (.iload 4, 2) := by decide +kernel
theorem d237_60 : decode (tb_me 237).1.2.1 60 = .ok (.aload_n 0, 1) := by decide +kernel
theorem d237_61 : decode (tb_me 237).1.2.1 61 = .ok (.getfield 39, 3) := by decide +kernel
theorem d237_64 : decode (tb_me 237).1.2.1 64 = .ok (.iconst 1, 1) := by decide +kernel
theorem d237_65 : decode (tb_me 237).1.2.1 65 = .ok (.iaload, 1) := by decide +kernel
theorem d237_66 : decode (tb_me 237).1.2.1 66 = .ok (.if_icmp .ge 57, 3) := by decide +kernel
theorem d237_123 : decode (tb_me 237).1.2.1 123 = .ok (.aload_n 0, 1) := by decide +kernel
theorem d237_124 : decode (tb_me 237).1.2.1 124 = .ok (.invokevirtual 351, 3) := by decide +kernel
theorem k237_351 (b : Bool) : tb_lk b 237 351 = (2, 227, 0, 0, 0) := by cases b <;> decide +kernel
theorem d238_0 : decode (tb_me 238).1.2.1 0 = .ok (.aload_n 0, 1) := by decide +kernel
theorem d238_1 : decode (tb_me 238).1.2.1 1 = .ok (.invokevirtual 305, 3) := by decide +kernel
theorem k238_305 (b : Bool) : tb_lk b 238 305 = (2, 192, 0, 0, 0) := by cases b <;> decide +kernel
theorem d238_4 : decode (tb_me 238).1.2.1 4 = .ok (.ifCond .eq 14, 3) := by decide +kernel
theorem d238_18 : decode (tb_me 238).1.2.1 18 = .ok (.iconst (-1), 1) := by decide +kernel
theorem d238_19 : decode (tb_me 238).1.2.1 19 = .ok (.ireturn, 1) := by decide +kernel
theorem t238 : (tb_me 238).1.2.2.2 = some .int := by decide +kernel
theorem d238_7 : decode (tb_me 238).1.2.1 7 = .ok (.aload_n 0, 1) := by decide +kernel
theorem d238_8 : decode (tb_me 238).1.2.1 8 = .ok (.aload_n 0, 1) := by decide +kernel
theorem d238_9 : decode (tb_me 238).1.2.1 9 = .ok (.invokevirtual 383, 3) := by decide +kernel
theorem k238_383 (b : Bool) : tb_lk b 238 383 = (2, 200, 0, 0, 0) := by cases b <;> decide +kernel
theorem d239_0 : decode (tb_me 239).1.2.1 0 = .ok (.aload_n 0, 1) := by decide +kernel
theorem d239_1 : decode (tb_me 239).1.2.1 1 = .ok (.iload_n 1, 1) := by decide +kernel
theorem d239_2 : decode (tb_me 239).1.2.1 2 = .ok (.invokevirtual 288, 3) := by decide +kernel
theorem k239_288 (b : Bool) : tb_lk b 239 288 = (2, 194, 0, 0, 0) := by cases b <;> decide +kernel
theorem d239_5 : decode (tb_me 239).1.2.1 5 = .ok (.ifCond .eq 15, 3) := by decide +kernel
theorem d239_20 : decode (tb_me 239).1.2.1 20 = .ok (.iconst (-1), 1) := by decide +kernel
theorem d239_21 : decode (tb_me 239).1.2.1 21 = .ok (.ireturn, 1) := by decide +kernel
theorem t239 : (tb_me 239).1.2.2.2 = some .int := by decide +kernel
theorem d239_8 : decode (tb_me 239).1.2.1 8 = .ok (.iload_n 2, 1) := by decide +kernel
theorem d239_9 : decode (tb_me 239).1.2.1 9 = .ok (.i2l, 1) := by decide +kernel
theorem d239_10 : decode (tb_me 239).1.2.1 10 = .ok (.lconst 0, 1) := by decide +kernel
theorem d239_11 : decode (tb_me 239).1.2.1 11 = .ok (.ldc2_w 291, 3) := by decide +kernel
theorem k239_291 (b : Bool) : tb_lk b 239 291 = (12, 0, 0, 0, 5) := by cases b <;> decide +kernel
theorem d239_14 : decode (tb_me 239).1.2.1 14 = .ok (.invokestatic 112, 3) := by decide +kernel
theorem k239_112 (b : Bool) : tb_lk b 239 112 = (4, 148, 0, 0, 0) := by cases b <;> decide +kernel
theorem d239_17 : decode (tb_me 239).1.2.1 17 = .ok (.ifCond .ne 5, 3) := by decide +kernel
theorem d239_22 : decode (tb_me 239).1.2.1 22 = .ok (.iconst 1, 1) := by decide +kernel
theorem d239_23 : decode (tb_me 239).1.2.1 23 = .ok (.istore_n 3, 1) := by decide +kernel
theorem d239_24 : decode (tb_me 239).1.2.1 24 = .ok (.iload_n 3, 1) := by decide +kernel
theorem d239_25 : decode (tb_me 239).1.2.1 25 = .ok (.iconst 5, 1) := by decide +kernel
theorem d239_26 : decode (tb_me 239).1.2.1 26 = .ok (.if_icmp .gt 23, 3) := by decide +kernel
theorem d239_49 : decode (tb_me 239).1.2.1 49 = .ok (.iload_n 3, 1) := by decide +kernel
theorem d239_50 : decode (tb_me 239).1.2.1 50 = .ok (.iconst 5, 1) := by decide +kernel
theorem d239_51 : decode (tb_me 239).1.2.1 51 = .ok (.if_icmp .gt 8, 3) := by decide +kernel
theorem d239_59 : decode (tb_me 239).1.2.1 59 = .ok (.bipush (-2), 2) := by decide +kernel
theorem d239_61 : decode (tb_me 239).1.2.1 61 = .ok (.ireturn, 1) := by decide +kernel
theorem d239_54 : decode (tb_me 239).1.2.1 54 = .ok (.iload_n 2, 1) := by decide +kernel
theorem d239_55 : decode (tb_me 239).1.2.1 55 = .ok (.iload_n 3, 1) := by decide +kernel
theorem d239_56 : decode (tb_me 239).1.2.1 56 = .ok (.if_icmp .le 6, 3) := by decide +kernel
theorem d239_62 : decode (tb_me 239).1.2.1 62 = .ok (.iload_n 2, 1) := by decide +kernel
theorem d239_63 : decode (tb_me 239).1.2.1 63 = .ok (.ifCond .ne 7, 3) := by decide +kernel
theorem d239_70 : decode (tb_me 239).1.2.1 70 = .ok (.aload_n 0, 1) := by decide +kernel
theorem d239_71 : decode (tb_me 239).1.2.1 71 = .ok (.getfield 45, 3) := by decide +kernel
theorem k239_45 (b : Bool) : tb_lk b 239 45 = (1, 10, 24, 0, 0) := by cases b <;> decide +kernel
theorem d239_74 : decode (tb_me 239).1.2.1 74 = .ok (.iload_n 2, 1) := by decide +kernel
theorem d239_75 : decode (tb_me 239).1.2.1 75 = .ok (.iconst 1, 1) := by decide +kernel
theorem d239_76 : decode (tb_me 239).1.2.1 76 = .ok (.isub, 1) := by decide +kernel
theorem d239_77 : decode (tb_me 239).1.2.1 77 = .ok (.iaload, 1) := by decide +kernel
theorem d239_78 : decode (tb_me 239).1.2.1 78 = .ok (.ireturn, 1) := by decide +kernel
theorem d239_66 : decode (tb_me 239).1.2.1 66 = .ok (.iload_n 3, 1) := by decide +kernel
theorem d239_67 : decode (tb_me 239).1.2.1 67 = .ok (.goto 11, 3) := by decide +kernel
theorem d239_29 : decode (tb_me 239).1.2.1 29 = .ok (.aload_n 0, 1) := by decide +kernel
theorem d239_30 : decode (tb_me 239).1.2.1 30 = .ok (.aload_n 0, 1) := by decide +kernel
theorem d239_31 : decode (tb_me 239).1.2.1 31 = .ok (.invokevirtual 383, 3) := by decide +kernel
theorem k239_383 (b : Bool) : tb_lk b 239 383 = (2, 200, 0, 0, 0) := by cases b <;> decide +kernel
theorem d240_0 : decode (tb_me 240).1.2.1 0 = .ok (.aload_n 0, 1) := by decide +kernel
theorem d240_1 : decode (tb_me 240).1.2.1 1 = .ok (.invokevirtual 305, 3) := by decide +kernel
theorem k240_305 (b : Bool) : tb_lk b 240 305 = (2, 192, 0, 0, 0) := by cases b <;> decide +kernel
theorem d240_4 : decode (tb_me 240).1.2.1 4 = .ok (.ifCond .eq 25, 3) := by decide +kernel
theorem d240_29 : decode (tb_me 240).1.2.1 29 = .ok (.iconst (-1), 1) := by decide +kernel
theorem d240_30 : decode (tb_me 240).1.2.1 30 = .ok (.ireturn, 1) := by decide +kernel
theorem t240 : (tb_me 240).1.2.2.2 = some .int := by decide +kernel
theorem d240_7 : decode (tb_me 240).1.2.1 7 = .ok (.iload_n 1, 1) := by decide +kernel
theorem d240_8 : decode (tb_me 240).1.2.1 8 = .ok (.ifCond .lt 21, 3) := by decide +kernel
theorem d240_11 : decode (tb_me 240).1.2.1 11 = .ok (.iload_n 1, 1) := by decide +kernel
theorem d240_12 : decode (tb_me 240).1.2.1 12 = .ok (.aload_n 0, 1) := by decide +kernel
theorem d240_13 : decode (tb_me 240).1.2.1 13 = .ok (.invokevirtual 393, 3) := by decide +kernel
theorem k240_393 (b : Bool) : tb_lk b 240 393 = (2, 223, 0, 0, 0) := by cases b <;> decide +kernel
theorem m223 : (tb_me 223).2 = ((0, 0), (0, 10)) ∧ (tb_me 223).1.2.2.1 = 1 := by decide +kernel
theorem d240_16 : decode (tb_me 240).1.2.1 16 = .ok (.if_icmp .gt 13, 3) := by decide +kernel
theorem d240_19 : decode (tb_me 240).1.2.1 19 = .ok (.iload_n 2, 1) := by decide +kernel
theorem d240_20 : decode (tb_me 240).1.2.1 20 = .ok (.i2l, 1) := by decide +kernel
theorem d240_21 : decode (tb_me 240).1.2.1 21 = .ok (.lconst 0, 1) := by decide +kernel
theorem d240_22 : decode (tb_me 240).1.2.1 22 = .ok (.lconst 1, 1) := by decide +kernel
theorem d240_23 : decode (tb_me 240).1.2.1 23 = .ok (.invokestatic 112, 3) := by decide +kernel
theorem k240_112 (b : Bool) : tb_lk b 240 112 = (4, 148, 0, 0, 0) := by cases b <;> decide +kernel
theorem d240_26 : decode (tb_me 240).1.2.1 26 = .ok (.ifCond .ne 5, 3) := by decide +kernel
theorem d240_31 : decode (tb_me 240).1.2.1 31 = .ok (.iconst 0, 1) := by decide +kernel
theorem d240_32 : decode (tb_me 240).1.2.1 32 = .ok (.istore_n 3, 1) := by decide +kernel
theorem d240_33 : decode (tb_me 240).1.2.1 33 = .ok (.iconst 0, 1) := by decide +kernel
theorem d240_34 : decode (tb_me 240).1.2.1 34 = .ok (.istore 4, 2) := by decide +kernel
theorem d240_36 : decode (tb_me 240).1.2.1 36 = .ok (.iload 4, 2) := by decide +kernel
theorem d240_38 : decode (tb_me 240).1.2.1 38 = .ok (.aload_n 0, 1) := by decide +kernel
theorem d240_39 : decode (tb_me 240).1.2.1 39 = .ok (.getfield 39, 3) := by decide +kernel
theorem k240_39 (b : Bool) : tb_lk b 240 39 = (1, 10, 20, 0, 0) := by cases b <;> decide +kernel
theorem d240_42 : decode (tb_me 240).1.2.1 42 = .ok (.iconst 1, 1) := by decide +kernel
theorem d240_43 : decode (tb_me 240).1.2.1 43 = .ok (.iaload, 1) := by decide +kernel
theorem d240_44 : decode (tb_me 240).1.2.1 44 = .ok (.if_icmp .ge 48, 3) := by decide +kernel
theorem d240_92 : decode (tb_me 240).1.2.1 92 = .ok (.aload_n 0, 1) := by decide +kernel
theorem d240_93 : decode (tb_me 240).1.2.1 93 = .ok (.getfield 39, 3) := by decide +kernel
theorem d240_96 : decode (tb_me 240).1.2.1 96 = .ok (.bipush 6, 2) := by decide +kernel
theorem d240_98 : decode (tb_me 240).1.2.1 98 = .ok (.iaload, 1) := by decide +kernel
theorem d240_99 : decode (tb_me 240).1.2.1 99 = .ok (.ifCond .lt 9, 3) := by decide +kernel
theorem d240_108 : decode (tb_me 240).1.2.1 108 = .ok (.iconst 0, 1) := by decide +kernel
theorem d240_109 : decode (tb_me 240).1.2.1 109 = .ok (.istore 4, 2) := by decide +kernel
theorem d240_111 : decode (tb_me 240).1.2.1 111 = .ok (.aload_n 0, 1) := by decide +kernel
theorem d240_112 : decode (tb_me 240).1.2.1 112 = .ok (.iload_n 3, 1) := by decide +kernel
theorem d240_113 : decode (tb_me 240).1.2.1 113 = .ok (.iload 4, 2) := by decide +kernel
theorem d240_115 : decode (tb_me 240).1.2.1 115 = .ok (.ior, 1) := by decide +kernel
theorem d240_116 : decode (tb_me 240).1.2.1 116 = .ok (.invokevirtual 342, 3) := by decide +kernel
theorem k240_342 (b : Bool) : tb_lk b 240 342 = (2, 220, 0, 0, 0) := by cases b <;> decide +kernel
theorem d241_0 : decode (tb_me 241).1.2.1 0 = .ok (.aload_n 0, 1) := by decide +kernel
theorem d241_1 : decode (tb_me 241).1.2.1 1 = .ok (.invokevirtual 305, 3) := by decide +kernel
theorem k241_305 (b : Bool) : tb_lk b 241 305 = (2, 192, 0, 0, 0) := by cases b <;> decide +kernel
theorem d241_4 : decode (tb_me 241).1.2.1 4 = .ok (.ifCond .eq 25, 3) := by decide +kernel
theorem d241_29 : decode (tb_me 241).1.2.1 29 = .ok (.iconst (-1), 1) := by decide +kernel
theorem d241_30 : decode (tb_me 241).1.2.1 30 = .ok (.ireturn, 1) := by decide +kernel
theorem t241 : (tb_me 241).1.2.2.2 = some .int := by decide +kernel
theorem d241_7 : decode (tb_me 241).1.2.1 7 = .ok (.iload_n 1, 1) := by decide +kernel
theorem d241_8 : decode (tb_me 241).1.2.1 8 = .ok (.i2l, 1) := by decide +kernel
theorem d241_9 : decode (tb_me 241).1.2.1 9 = .ok (.lconst 0, 1) := by decide +kernel
theorem d241_10 : decode (tb_me 241).1.2.1 10 = .ok (.ldc2_w 396, 3) := by decide +kernel
theorem k241_396 (b : Bool) : tb_lk b 241 396 = (12, 0, 0, 0, 99) := by cases b <;> decide +kernel
theorem d241_13 : decode (tb_me 241).1.2.1 13 = .ok (.invokestatic 112, 3) := by decide +kernel
theorem k241_112 (b : Bool) : tb_lk b 241 112 = (4, 148, 0, 0, 0) := by cases b <;> decide +kernel
theorem d241_16 : decode (tb_me 241).1.2.1 16 = .ok (.ifCond .eq 13, 3) := by decide +kernel
theorem d241_19 : decode (tb_me 241).1.2.1 19 = .ok (.iload_n 2, 1) := by decide +kernel
theorem d241_20 : decode (tb_me 241).1.2.1 20 = .ok (.i2l, 1) := by decide +kernel
theorem d241_21 : decode (tb_me 241).1.2.1 21 = .ok (.lconst 0, 1) := by decide +kernel
theorem d241_22 : decode (tb_me 241).1.2.1 22 = .ok (.lconst 1, 1) := by decide +kernel
theorem d241_23 : decode (tb_me 241).1.2.1 23 = .ok (.invokestatic 112, 3) := by decide +kernel
theorem d241_26 : decode (tb_me 241).1.2.1 26 = .ok (.ifCond .ne 5, 3) := by decide +kernel
theorem d241_31 : decode (tb_me 241).1.2.1 31 = .ok (.aload_n 0, 1) := by decide +kernel
theorem d241_32 : decode (tb_me 241).1.2.1 32 = .ok (.invokevirtual 356, 3) := by decide +kernel
theorem k241_356 (b : Bool) : tb_lk b 241 356 = (2, 201, 0, 0, 0) := by cases b <;> decide +kernel
theorem d242_0 : decode (tb_me 242).1.2.1 0 = .ok (.aload_n 0, 1) := by decide +kernel
theorem d242_1 : decode (tb_me 242).1.2.1 1 = .ok (.invokevirtual 305, 3) := by decide +kernel
theorem k242_305 (b : Bool) : tb_lk b 242 305 = (2, 192, 0, 0, 0) := by cases b <;> decide +kernel
theorem d242_4 : decode (tb_me 242).1.2.1 4 = .ok (.ifCond .eq 13, 3) := by decide +kernel
theorem d242_17 : decode (tb_me 242).1.2.1 17 = .ok (.iconst (-1), 1) := by decide +kernel
theorem d242_18 : decode (tb_me 242).1.2.1 18 = .ok (.ireturn, 1) := by decide +kernel
theorem t242 : (tb_me 242).1.2.2.2 = some .int := by decide +kernel
theorem d242_7 : decode (tb_me 242).1.2.1 7 = .ok (.iload_n 1, 1) := by decide +kernel
theorem d242_8 : decode (tb_me 242).1.2.1 8 = .ok (.i2l, 1) := by decide +kernel
theorem d242_9 : decode (tb_me 242).1.2.1 9 = .ok (.lconst 0, 1) := by decide +kernel
theorem d242_10 : decode (tb_me 242).1.2.1 10 = .ok (.lconst 1, 1) := by decide +kernel
theorem d242_11 : decode (tb_me 242).1.2.1 11 = .ok (.invokestatic 112, 3) := by decide +kernel
theorem k242_112 (b : Bool) : tb_lk b 242 112 = (4, 148, 0, 0, 0) := by cases b <;> decide +kernel
theorem d242_14 : decode (tb_me 242).1.2.1 14 = .ok (.ifCond .ne 5, 3) := by decide +kernel
theorem d242_19 : decode (tb_me 242).1.2.1 19 = .ok (.aload_n 0, 1) := by decide +kernel
theorem d242_20 : decode (tb_me 242).1.2.1 20 = .ok (.getfield 39, 3) := by decide +kernel
theorem k242_39 (b : Bool) : tb_lk b 242 39 = (1, 10, 20, 0, 0) := by cases b <;> decide +kernel
theorem d242_23 : decode (tb_me 242).1.2.1 23 = .ok (.bipush 6, 2) := by decide +kernel
theorem d242_25 : decode (tb_me 242).1.2.1 25 = .ok (.iaload, 1) := by decide +kernel
theorem d242_26 : decode (tb_me 242).1.2.1 26 = .ok (.istore_n 2, 1) := by decide +kernel
theorem d242_27 : decode (tb_me 242).1.2.1 27 = .ok (.iconst (-1), 1) := by decide +kernel
theorem d242_28 : decode (tb_me 242).1.2.1 28 = .ok (.istore_n 3, 1) := by decide +kernel
theorem d242_29 : decode (tb_me 242).1.2.1 29 = .ok (.iconst 0, 1) := by decide +kernel
theorem d242_30 : decode (tb_me 242).1.2.1 30 = .ok (.istore 4, 2) := by decide +kernel
theorem d242_32 : decode (tb_me 242).1.2.1 32 = .ok (.iconst 0, 1) := by decide +kernel
theorem d242_33 : decode (tb_me 242).1.2.1 33 = .ok (.istore 5, 2) := by decide +kernel
theorem d242_35 : decode (tb_me 242).1.2.1 35 = .ok (.iload 5, 2) := by decide +kernel
theorem d242_37 : decode (tb_me 242).1.2.1 37 = .ok (.aload_n 0, 1) := by decide +kernel
theorem d242_38 : decode (tb_me 242).1.2.1 38 = .ok (.getfield 39, 3) := by decide +kernel
theorem d242_41 : decode (tb_me 242).1.2.1 41 = .ok (.iconst 0, 1) := by decide +kernel
theorem d242_42 : decode (tb_me 242).1.2.1 42 = .ok (.iaload, 1) := by decide +kernel
theorem d242_43 : decode (tb_me 242).1.2.1 43 = .ok (.if_icmp .ge 53, 3) := by decide +kernel
theorem d242_96 : decode (tb_me 242).1.2.1 96 = .ok (.aload_n 0, 1) := by decide +kernel
theorem d242_97 : decode (tb_me 242).1.2.1 97 = .ok (.getfield 39, 3) := by decide +kernel
theorem d242_100 : decode (tb_me 242).1.2.1 100 = .ok (.bipush 6, 2) := by decide +kernel
theorem d242_102 : decode (tb_me 242).1.2.1 102 = .ok (.iload_n 2, 1) := by decide +kernel
theorem d242_103 : decode (tb_me 242).1.2.1 103 = .ok (.iastore, 1) := by decide +kernel
theorem d242_104 : decode (tb_me 242).1.2.1 104 = .ok (.iload_n 1, 1) := by decide +kernel
theorem d242_105 : decode (tb_me 242).1.2.1 105 = .ok (.ifCond .ne 7, 3) := by decide +kernel
theorem d242_112 : decode (tb_me 242).1.2.1 112 = .ok (.iload 4, 2) := by decide +kernel
theorem d242_114 : decode (tb_me 242).1.2.1 114 = .ok (.ireturn, 1) := by decide +kernel
theorem d242_108 : decode (tb_me 242).1.2.1 108 = .ok (.iload_n 3, 1) := by decide +kernel
theorem d242_109 : decode (tb_me 242).1.2.1 109 = .ok (.goto 5, 3) := by decide +kernel
theorem d242_46 : decode (tb_me 242).1.2.1 46 = .ok (.aload_n 0, 1) := by decide +kernel
theorem d242_47 : decode (tb_me 242).1.2.1 47 = .ok (.getfield 39, 3) := by decide +kernel
theorem d242_50 : decode (tb_me 242).1.2.1 50 = .ok (.bipush 6, 2) := by decide +kernel
theorem d242_52 : decode (tb_me 242).1.2.1 52 = .ok (.iload 5, 2) := by decide +kernel
theorem d242_54 : decode (tb_me 242).1.2.1 54 = .ok (.iastore, 1) := by decide +kernel
theorem d242_55 : decode (tb_me 242).1.2.1 55 = .ok (.aload_n 0, 1) := by decide +kernel
theorem d242_56 : decode (tb_me 242).1.2.1 56 = .ok (.aload_n 0, 1) := by decide +kernel
theorem d242_57 : decode (tb_me 242).1.2.1 57 = .ok (.aload_n 0, 1) := by decide +kernel
theorem d242_58 : decode (tb_me 242).1.2.1 58 = .ok (.invokevirtual 383, 3) := by decide +kernel
theorem k242_383 (b : Bool) : tb_lk b 242 383 = (2, 200, 0, 0, 0) := by cases b <;> decide +kernel
theorem d243_0 : decode (tb_me 243).1.2.1 0 = .ok (.iload_n 1, 1) := by decide +kernel
theorem d243_1 : decode (tb_me 243).1.2.1 1 = .ok (.ifCond .ne 7, 3) := by decide +kernel
theorem d243_8 : decode (tb_me 243).1.2.1 8 = .ok (.iload_n 1, 1) := by decide +kernel
theorem d243_9 : decode (tb_me 243).1.2.1 9 = .ok (.iconst 1, 1) := by decide +kernel
theorem d243_10 : decode (tb_me 243).1.2.1 10 = .ok (.if_icmp .ne 9, 3) := by decide +kernel
theorem d243_19 : decode (tb_me 243).1.2.1 19 = .ok (.sipush 1536, 3) := by decide +kernel
theorem d243_22 : decode (tb_me 243).1.2.1 22 = .ok (.istore_n 3, 1) := by decide +kernel
theorem d243_23 : decode (tb_me 243).1.2.1 23 = .ok (.iconst 1, 1) := by decide +kernel
theorem d243_24 : decode (tb_me 243).1.2.1 24 = .ok (.istore 4, 2) := by decide +kernel
theorem d243_26 : decode (tb_me 243).1.2.1 26 = .ok (.iload 4, 2) := by decide +kernel
theorem d243_28 : decode (tb_me 243).1.2.1 28 = .ok (.iconst 5, 1) := by decide +kernel
theorem d243_29 : decode (tb_me 243).1.2.1 29 = .ok (.if_icmp .gt 28, 3) := by decide +kernel
theorem d243_57 : decode (tb_me 243).1.2.1 57 = .ok (.iconst 0, 1) := by decide +kernel
theorem d243_58 : decode (tb_me 243).1.2.1 58 = .ok (.ireturn, 1) := by decide +kernel
theorem t243 : (tb_me 243).1.2.2.2 = some .boolean := by decide +kernel
theorem d243_32 : decode (tb_me 243).1.2.1 32 = .ok (.aload_n 0, 1) := by decide +kernel
theorem d243_33 : decode (tb_me 243).1.2.1 33 = .ok (.aload_n 0, 1) := by decide +kernel
theorem d243_34 : decode (tb_me 243).1.2.1 34 = .ok (.invokevirtual 383, 3) := by decide +kernel
theorem k243_383 (b : Bool) : tb_lk b 243 383 = (2, 200, 0, 0, 0) := by cases b <;> decide +kernel
theorem d244_0 : decode (tb_me 244).1.2.1 0 = .ok (.aload_n 0, 1) := by decide +kernel
theorem d244_1 : decode (tb_me 244).1.2.1 1 = .ok (.iconst 0, 1) := by decide +kernel
theorem d244_2 : decode (tb_me 244).1.2.1 2 = .ok (.iload_n 1, 1) := by decide +kernel
theorem d244_3 : decode (tb_me 244).1.2.1 3 = .ok (.invokevirtual 401, 3) := by decide +kernel
theorem k244_401 (b : Bool) : tb_lk b 244 401 = (2, 243, 0, 0, 0) := by cases b <;> decide +kernel
theorem d245_0 : decode (tb_me 245).1.2.1 0 = .ok (.aload_n 0, 1) := by decide +kernel
theorem d245_1 : decode (tb_me 245).1.2.1 1 = .ok (.iload_n 1, 1) := by decide +kernel
theorem d245_2 : decode (tb_me 245).1.2.1 2 = .ok (.invokevirtual 288, 3) := by decide +kernel
theorem k245_288 (b : Bool) : tb_lk b 245 288 = (2, 194, 0, 0, 0) := by cases b <;> decide +kernel
theorem d245_5 : decode (tb_me 245).1.2.1 5 = .ok (.ifCond .eq 15, 3) := by decide +kernel
theorem d245_20 : decode (tb_me 245).1.2.1 20 = .ok (.iconst (-1), 1) := by decide +kernel
theorem d245_21 : decode (tb_me 245).1.2.1 21 = .ok (.ireturn, 1) := by decide +kernel
theorem t245 : (tb_me 245).1.2.2.2 = some .int := by decide +kernel
theorem d245_8 : decode (tb_me 245).1.2.1 8 = .ok (.iload_n 2, 1) := by decide +kernel
theorem d245_9 : decode (tb_me 245).1.2.1 9 = .ok (.i2l, 1) := by decide +kernel
theorem d245_10 : decode (tb_me 245).1.2.1 10 = .ok (.lconst 0, 1) := by decide +kernel
theorem d245_11 : decode (tb_me 245).1.2.1 11 = .ok (.ldc2_w 359, 3) := by decide +kernel
theorem k245_359 (b : Bool) : tb_lk b 245 359 = (12, 0, 0, 0, 2) := by cases b <;> decide +kernel
theorem d245_14 : decode (tb_me 245).1.2.1 14 = .ok (.invokestatic 112, 3) := by decide +kernel
theorem k245_112 (b : Bool) : tb_lk b 245 112 = (4, 148, 0, 0, 0) := by cases b <;> decide +kernel
theorem d245_17 : decode (tb_me 245).1.2.1 17 = .ok (.ifCond .ne 5, 3) := by decide +kernel
theorem d245_22 : decode (tb_me 245).1.2.1 22 = .ok (.aload_n 0, 1) := by decide +kernel
theorem d245_23 : decode (tb_me 245).1.2.1 23 = .ok (.iload_n 1, 1) := by decide +kernel
theorem d245_24 : decode (tb_me 245).1.2.1 24 = .ok (.invokevirtual 404, 3) := by decide +kernel
theorem k245_404 (b : Bool) : tb_lk b 245 404 = (2, 244, 0, 0, 0) := by cases b <;> decide +kernel
theorem d247_0 : decode (tb_me 247).1.2.1 0 = .ok (.aload_n 0, 1) := by decide +kernel
theorem d247_1 : decode (tb_me 247).1.2.1 1 = .ok (.iload_n 1, 1) := by decide +kernel
theorem d247_2 : decode (tb_me 247).1.2.1 2 = .ok (.iconst 1, 1) := by decide +kernel
theorem d247_3 : decode (tb_me 247).1.2.1 3 = .ok (.invokevirtual 293, 3) := by decide +kernel
theorem k247_293 (b : Bool) : tb_lk b 247 293 = (2, 203, 0, 0, 0) := by cases b <;> decide +kernel
theorem d247_6 : decode (tb_me 247).1.2.1 6 = .ok (.istore_n 2, 1) := by decide +kernel
theorem d247_7 : decode (tb_me 247).1.2.1 7 = .ok (.iconst 0, 1) := by decide +kernel
theorem d247_8 : decode (tb_me 247).1.2.1 8 = .ok (.istore_n 3, 1) := by decide +kernel
theorem d247_9 : decode (tb_me 247).1.2.1 9 = .ok (.iload_n 3, 1) := by decide +kernel
theorem d247_10 : decode (tb_me 247).1.2.1 10 = .ok (.aload_n 0, 1) := by decide +kernel
theorem d247_11 : decode (tb_me 247).1.2.1 11 = .ok (.getfield 299, 3) := by decide +kernel
theorem k247_299 (b : Bool) : tb_lk b 247 299 = (1, 10, 23, 0, 0) := by cases b <;> decide +kernel
theorem d247_14 : decode (tb_me 247).1.2.1 14 = .ok (.if_icmp .gt 128, 3) := by decide +kernel
theorem d247_142 : decode (tb_me 247).1.2.1 142 = .ok (.aload_n 0, 1) := by decide +kernel
theorem d247_143 : decode (tb_me 247).1.2.1 143 = .ok (.getfield 57, 3) := by decide +kernel
theorem k247_57 (b : Bool) : tb_lk b 247 57 = (1, 10, 29, 0, 0) := by cases b <;> decide +kernel
theorem f10_29 : (29 < pm_nf tb_cl 10) ∧ tb_ft 10 29 ≠ .long ∧ pm_isR (tb_ft 10 29) = true := by decide +kernel
theorem d247_146 : decode (tb_me 247).1.2.1 146 = .ok (.iconst 5, 1) := by decide +kernel
theorem d247_147 : decode (tb_me 247).1.2.1 147 = .ok (.aload_n 0, 1) := by decide +kernel
theorem d247_148 : decode (tb_me 247).1.2.1 148 = .ok (.getfield 299, 3) := by decide +kernel
theorem d247_151 : decode (tb_me 247).1.2.1 151 = .ok (.imul, 1) := by decide +kernel
theorem d247_152 : decode (tb_me 247).1.2.1 152 = .ok (.iload_n 2, 1) := by decide +kernel
theorem d247_153 : decode (tb_me 247).1.2.1 153 = .ok (.iadd, 1) := by decide +kernel
theorem d247_154 : decode (tb_me 247).1.2.1 154 = .ok (.iaload, 1) := by decide +kernel
theorem d247_155 : decode (tb_me 247).1.2.1 155 = .ok (.ireturn, 1) := by decide +kernel
theorem t247 : (tb_me 247).1.2.2.2 = some .int := by decide +kernel
theorem d247_17 : decode (tb_me 247).1.2.1 17 = .ok (.iconst 0, 1) := by decide +kernel
theorem d247_18 : decode (tb_me 247).1.2.1 18 = .ok (.istore 4, 2) := by decide +kernel
theorem d247_20 : decode (tb_me 247).1.2.1 20 = .ok (.iload 4, 2) := by decide +kernel
theorem d247_22 : decode (tb_me 247).1.2.1 22 = .ok (.iload_n 2, 1) := by decide +kernel
theorem d247_23 : decode (tb_me 247).1.2.1 23 = .ok (.if_icmp .gt 113, 3) := by decide +kernel
theorem d247_136 : decode (tb_me 247).1.2.1 136 = .ok (.iinc 3 1, 3) := by decide +kernel
theorem d247_139 : decode (tb_me 247).1.2.1 139 = .ok (.goto (-130), 3) := by decide +kernel
theorem d248_0 : decode (tb_me 248).1.2.1 0 = .ok (.aload_n 0, 1) := by decide +kernel
theorem d248_1 : decode (tb_me 248).1.2.1 1 = .ok (.iload_n 1, 1) := by decide +kernel
theorem d248_2 : decode (tb_me 248).1.2.1 2 = .ok (.iload_n 2, 1) := by decide +kernel
theorem d248_3 : decode (tb_me 248).1.2.1 3 = .ok (.invokevirtual 345, 3) := by decide +kernel
theorem k248_345 (b : Bool) : tb_lk b 248 345 = (2, 214, 0, 0, 0) := by cases b <;> decide +kernel
theorem d249_0 : decode (tb_me 249).1.2.1 0 = .ok (.iload_n 1, 1) := by decide +kernel
theorem d249_1 : decode (tb_me 249).1.2.1 1 = .ok (.iconst (-1), 1) := by decide +kernel
theorem d249_2 : decode (tb_me 249).1.2.1 2 = .ok (.if_icmp .ne 14, 3) := by decide +kernel
theorem d249_16 : decode (tb_me 249).1.2.1 16 = .ok (.aload_n 0, 1) := by decide +kernel
theorem d249_17 : decode (tb_me 249).1.2.1 17 = .ok (.iload_n 1, 1) := by decide +kernel
theorem d249_18 : decode (tb_me 249).1.2.1 18 = .ok (.invokevirtual 288, 3) := by decide +kernel
theorem k249_288 (b : Bool) : tb_lk b 249 288 = (2, 194, 0, 0, 0) := by cases b <;> decide +kernel
theorem d249_21 : decode (tb_me 249).1.2.1 21 = .ok (.ifCond .eq 16, 3) := by decide +kernel
theorem d249_37 : decode (tb_me 249).1.2.1 37 = .ok (.bipush (-2), 2) := by decide +kernel
theorem d249_39 : decode (tb_me 249).1.2.1 39 = .ok (.ireturn, 1) := by decide +kernel
theorem t249 : (tb_me 249).1.2.2.2 = some .int := by decide +kernel
theorem d249_24 : decode (tb_me 249).1.2.1 24 = .ok (.aload_n 0, 1) := by decide +kernel
theorem d249_25 : decode (tb_me 249).1.2.1 25 = .ok (.getfield 39, 3) := by decide +kernel
theorem k249_39 (b : Bool) : tb_lk b 249 39 = (1, 10, 20, 0, 0) := by cases b <;> decide +kernel
theorem d249_28 : decode (tb_me 249).1.2.1 28 = .ok (.sipush 226, 3) := by decide +kernel
theorem d249_31 : decode (tb_me 249).1.2.1 31 = .ok (.iaload, 1) := by decide +kernel
theorem d249_32 : decode (tb_me 249).1.2.1 32 = .ok (.bipush 10, 2) := by decide +kernel
theorem d249_34 : decode (tb_me 249).1.2.1 34 = .ok (.if_icmp .ne 6, 3) := by decide +kernel
theorem d249_40 : decode (tb_me 249).1.2.1 40 = .ok (.aload_n 0, 1) := by decide +kernel
theorem d249_41 : decode (tb_me 249).1.2.1 41 = .ok (.getfield 39, 3) := by decide +kernel
theorem d249_44 : decode (tb_me 249).1.2.1 44 = .ok (.sipush 206, 3) := by decide +kernel
theorem d249_47 : decode (tb_me 249).1.2.1 47 = .ok (.iconst 2, 1) := by decide +kernel
theorem d249_48 : decode (tb_me 249).1.2.1 48 = .ok (.aload_n 0, 1) := by decide +kernel
theorem d249_49 : decode (tb_me 249).1.2.1 49 = .ok (.getfield 39, 3) := by decide +kernel
theorem d249_52 : decode (tb_me 249).1.2.1 52 = .ok (.sipush 226, 3) := by decide +kernel
theorem d249_55 : decode (tb_me 249).1.2.1 55 = .ok (.iaload, 1) := by decide +kernel
theorem d249_56 : decode (tb_me 249).1.2.1 56 = .ok (.imul, 1) := by decide +kernel
theorem d249_57 : decode (tb_me 249).1.2.1 57 = .ok (.iadd, 1) := by decide +kernel
theorem d249_58 : decode (tb_me 249).1.2.1 58 = .ok (.iload_n 1, 1) := by decide +kernel
theorem d249_59 : decode (tb_me 249).1.2.1 59 = .ok (.iastore, 1) := by decide +kernel
theorem d249_60 : decode (tb_me 249).1.2.1 60 = .ok (.aload_n 0, 1) := by decide +kernel
theorem d249_61 : decode (tb_me 249).1.2.1 61 = .ok (.getfield 39, 3) := by decide +kernel
theorem d249_64 : decode (tb_me 249).1.2.1 64 = .ok (.sipush 206, 3) := by decide +kernel
theorem d249_67 : decode (tb_me 249).1.2.1 67 = .ok (.iconst 2, 1) := by decide +kernel
theorem d249_68 : decode (tb_me 249).1.2.1 68 = .ok (.aload_n 0, 1) := by decide +kernel
theorem d249_69 : decode (tb_me 249).1.2.1 69 = .ok (.getfield 39, 3) := by decide +kernel
theorem d249_72 : decode (tb_me 249).1.2.1 72 = .ok (.sipush 226, 3) := by decide +kernel
theorem d249_75 : decode (tb_me 249).1.2.1 75 = .ok (.iaload, 1) := by decide +kernel
theorem d249_76 : decode (tb_me 249).1.2.1 76 = .ok (.imul, 1) := by decide +kernel
theorem d249_77 : decode (tb_me 249).1.2.1 77 = .ok (.iadd, 1) := by decide +kernel
theorem d249_78 : decode (tb_me 249).1.2.1 78 = .ok (.iconst 1, 1) := by decide +kernel
theorem d249_79 : decode (tb_me 249).1.2.1 79 = .ok (.iadd, 1) := by decide +kernel
theorem d249_80 : decode (tb_me 249).1.2.1 80 = .ok (.iload_n 2, 1) := by decide +kernel
theorem d249_81 : decode (tb_me 249).1.2.1 81 = .ok (.ifCond .eq 7, 3) := by decide +kernel
theorem d249_88 : decode (tb_me 249).1.2.1 88 = .ok (.iconst 0, 1) := by decide +kernel
theorem d249_89 : decode (tb_me 249).1.2.1 89 = .ok (.iastore, 1) := by decide +kernel
theorem d249_90 : decode (tb_me 249).1.2.1 90 = .ok (.aload_n 0, 1) := by decide +kernel
theorem d249_91 : decode (tb_me 249).1.2.1 91 = .ok (.getfield 39, 3) := by decide +kernel
theorem d249_94 : decode (tb_me 249).1.2.1 94 = .ok (.sipush 226, 3) := by decide +kernel
theorem d249_97 : decode (tb_me 249).1.2.1 97 = .ok (.dup2, 1) := by decide +kernel
theorem d249_98 : decode (tb_me 249).1.2.1 98 = .ok (.iaload, 1) := by decide +kernel
theorem d249_99 : decode (tb_me 249).1.2.1 99 = .ok (.iconst 1, 1) := by decide +kernel
theorem d249_100 : decode (tb_me 249).1.2.1 100 = .ok (.iadd, 1) := by decide +kernel
theorem d249_101 : decode (tb_me 249).1.2.1 101 = .ok (.iastore, 1) := by decide +kernel
theorem d249_102 : decode (tb_me 249).1.2.1 102 = .ok (.aload_n 0, 1) := by decide +kernel
theorem d249_103 : decode (tb_me 249).1.2.1 103 = .ok (.getfield 39, 3) := by decide +kernel
theorem d249_106 : decode (tb_me 249).1.2.1 106 = .ok (.sipush 226, 3) := by decide +kernel
theorem d249_109 : decode (tb_me 249).1.2.1 109 = .ok (.iaload, 1) := by decide +kernel
theorem d249_110 : decode (tb_me 249).1.2.1 110 = .ok (.ireturn, 1) := by decide +kernel
theorem d249_84 : decode (tb_me 249).1.2.1 84 = .ok (.iconst 1, 1) := by decide +kernel
theorem d249_85 : decode (tb_me 249).1.2.1 85 = .ok (.goto 4, 3) := by decide +kernel
theorem d249_5 : decode (tb_me 249).1.2.1 5 = .ok (.aload_n 0, 1) := by decide +kernel
theorem d249_6 : decode (tb_me 249).1.2.1 6 = .ok (.getfield 39, 3) := by decide +kernel
theorem d249_9 : decode (tb_me 249).1.2.1 9 = .ok (.sipush 226, 3) := by decide +kernel
theorem d249_12 : decode (tb_me 249).1.2.1 12 = .ok (.iconst 0, 1) := by decide +kernel
theorem d249_13 : decode (tb_me 249).1.2.1 13 = .ok (.iastore, 1) := by decide +kernel
theorem d249_14 : decode (tb_me 249).1.2.1 14 = .ok (.iconst 0, 1) := by decide +kernel
theorem d249_15 : decode (tb_me 249).1.2.1 15 = .ok (.ireturn, 1) := by decide +kernel
theorem e249 : (tb_me 249).2.1 = (0, 0) ∧ (tb_me 249).1.2.2.1 = 3 := by decide +kernel
theorem d250_0 : decode (tb_me 250).1.2.1 0 = .ok (.iconst 0, 1) := by decide +kernel
theorem d250_1 : decode (tb_me 250).1.2.1 1 = .ok (.istore_n 2, 1) := by decide +kernel
theorem d250_2 : decode (tb_me 250).1.2.1 2 = .ok (.iload_n 2, 1) := by decide +kernel
theorem d250_3 : decode (tb_me 250).1.2.1 3 = .ok (.aload_n 0, 1) := by decide +kernel
theorem d250_4 : decode (tb_me 250).1.2.1 4 = .ok (.getfield 39, 3) := by decide +kernel
theorem k250_39 (b : Bool) : tb_lk b 250 39 = (1, 10, 20, 0, 0) := by cases b <;> decide +kernel
theorem d250_7 : decode (tb_me 250).1.2.1 7 = .ok (.sipush 226, 3) := by decide +kernel
theorem d250_10 : decode (tb_me 250).1.2.1 10 = .ok (.iaload, 1) := by decide +kernel
theorem d250_11 : decode (tb_me 250).1.2.1 11 = .ok (.if_icmp .ge 49, 3) := by decide +kernel
theorem d250_60 : decode (tb_me 250).1.2.1 60 = .ok (.iconst 1, 1) := by decide +kernel
theorem d250_61 : decode (tb_me 250).1.2.1 61 = .ok (.ireturn, 1) := by decide +kernel
theorem t250 : (tb_me 250).1.2.2.2 = some .boolean := by decide +kernel
theorem d250_14 : decode (tb_me 250).1.2.1 14 = .ok (.aload_n 0, 1) := by decide +kernel
theorem d250_15 : decode (tb_me 250).1.2.1 15 = .ok (.getfield 51, 3) := by decide +kernel
theorem k250_51 (b : Bool) : tb_lk b 250 51 = (1, 10, 26, 0, 0) := by cases b <;> decide +kernel
theorem f10_26 : (26 < pm_nf tb_cl 10) ∧ tb_ft 10 26 ≠ .long ∧ pm_isR (tb_ft 10 26) = true := by decide +kernel
theorem d250_18 : decode (tb_me 250).1.2.1 18 = .ok (.iload_n 1, 1) := by decide +kernel
theorem d250_19 : decode (tb_me 250).1.2.1 19 = .ok (.iaload, 1) := by decide +kernel
theorem d250_20 : decode (tb_me 250).1.2.1 20 = .ok (.aload_n 0, 1) := by decide +kernel
theorem d250_21 : decode (tb_me 250).1.2.1 21 = .ok (.getfield 39, 3) := by decide +kernel
theorem d250_24 : decode (tb_me 250).1.2.1 24 = .ok (.sipush 206, 3) := by decide +kernel
theorem d250_27 : decode (tb_me 250).1.2.1 27 = .ok (.iconst 2, 1) := by decide +kernel
theorem d250_28 : decode (tb_me 250).1.2.1 28 = .ok (.iload_n 2, 1) := by decide +kernel
theorem d250_29 : decode (tb_me 250).1.2.1 29 = .ok (.imul, 1) := by decide +kernel
theorem d250_30 : decode (tb_me 250).1.2.1 30 = .ok (.iadd, 1) := by decide +kernel
theorem d250_31 : decode (tb_me 250).1.2.1 31 = .ok (.iaload, 1) := by decide +kernel
theorem d250_32 : decode (tb_me 250).1.2.1 32 = .ok (.ishr, 1) := by decide +kernel
theorem d250_33 : decode (tb_me 250).1.2.1 33 = .ok (.iconst 1, 1) := by decide +kernel
theorem d250_34 : decode (tb_me 250).1.2.1 34 = .ok (.iand, 1) := by decide +kernel
theorem d250_35 : decode (tb_me 250).1.2.1 35 = .ok (.aload_n 0, 1) := by decide +kernel
theorem d250_36 : decode (tb_me 250).1.2.1 36 = .ok (.getfield 39, 3) := by decide +kernel
theorem d250_39 : decode (tb_me 250).1.2.1 39 = .ok (.sipush 206, 3) := by decide +kernel
theorem d250_42 : decode (tb_me 250).1.2.1 42 = .ok (.iconst 2, 1) := by decide +kernel
theorem d250_43 : decode (tb_me 250).1.2.1 43 = .ok (.iload_n 2, 1) := by decide +kernel
theorem d250_44 : decode (tb_me 250).1.2.1 44 = .ok (.imul, 1) := by decide +kernel
theorem d250_45 : decode (tb_me 250).1.2.1 45 = .ok (.iadd, 1) := by decide +kernel
theorem d250_46 : decode (tb_me 250).1.2.1 46 = .ok (.iconst 1, 1) := by decide +kernel
theorem d250_47 : decode (tb_me 250).1.2.1 47 = .ok (.iadd, 1) := by decide +kernel
theorem d250_48 : decode (tb_me 250).1.2.1 48 = .ok (.iaload, 1) := by decide +kernel
theorem d250_49 : decode (tb_me 250).1.2.1 49 = .ok (.if_icmp .eq 5, 3) := by decide +kernel
theorem d250_54 : decode (tb_me 250).1.2.1 54 = .ok (.iinc 2 1, 3) := by decide +kernel
theorem d250_57 : decode (tb_me 250).1.2.1 57 = .ok (.goto (-55), 3) := by decide +kernel
theorem d251_0 : decode (tb_me 251).1.2.1 0 = .ok (.aload_n 0, 1) := by decide +kernel
theorem d251_1 : decode (tb_me 251).1.2.1 1 = .ok (.invokevirtual 305, 3) := by decide +kernel
theorem k251_305 (b : Bool) : tb_lk b 251 305 = (2, 192, 0, 0, 0) := by cases b <;> decide +kernel
theorem d251_4 : decode (tb_me 251).1.2.1 4 = .ok (.ifCond .eq 15, 3) := by decide +kernel
theorem d251_19 : decode (tb_me 251).1.2.1 19 = .ok (.iconst (-1), 1) := by decide +kernel
theorem d251_20 : decode (tb_me 251).1.2.1 20 = .ok (.ireturn, 1) := by decide +kernel
theorem t251 : (tb_me 251).1.2.2.2 = some .int := by decide +kernel
theorem d251_7 : decode (tb_me 251).1.2.1 7 = .ok (.iload_n 1, 1) := by decide +kernel
theorem d251_8 : decode (tb_me 251).1.2.1 8 = .ok (.i2l, 1) := by decide +kernel
theorem d251_9 : decode (tb_me 251).1.2.1 9 = .ok (.lconst 0, 1) := by decide +kernel
theorem d251_10 : decode (tb_me 251).1.2.1 10 = .ok (.ldc2_w 359, 3) := by decide +kernel
theorem k251_359 (b : Bool) : tb_lk b 251 359 = (12, 0, 0, 0, 2) := by cases b <;> decide +kernel
theorem d251_13 : decode (tb_me 251).1.2.1 13 = .ok (.invokestatic 112, 3) := by decide +kernel
theorem k251_112 (b : Bool) : tb_lk b 251 112 = (4, 148, 0, 0, 0) := by cases b <;> decide +kernel
theorem d251_16 : decode (tb_me 251).1.2.1 16 = .ok (.ifCond .ne 5, 3) := by decide +kernel
theorem d251_21 : decode (tb_me 251).1.2.1 21 = .ok (.aload_n 0, 1) := by decide +kernel
theorem d251_22 : decode (tb_me 251).1.2.1 22 = .ok (.invokevirtual 356, 3) := by decide +kernel
theorem k251_356 (b : Bool) : tb_lk b 251 356 = (2, 201, 0, 0, 0) := by cases b <;> decide +kernel
theorem d252_0 : decode (tb_me 252).1.2.1 0 = .ok (.aload_n 0, 1) := by decide +kernel
theorem d252_1 : decode (tb_me 252).1.2.1 1 = .ok (.invokevirtual 305, 3) := by decide +kernel
theorem k252_305 (b : Bool) : tb_lk b 252 305 = (2, 192, 0, 0, 0) := by cases b <;> decide +kernel
theorem d252_4 : decode (tb_me 252).1.2.1 4 = .ok (.ifCond .eq 13, 3) := by decide +kernel
theorem d252_17 : decode (tb_me 252).1.2.1 17 = .ok (.iconst (-1), 1) := by decide +kernel
theorem d252_18 : decode (tb_me 252).1.2.1 18 = .ok (.ireturn, 1) := by decide +kernel
theorem t252 : (tb_me 252).1.2.2.2 = some .int := by decide +kernel
theorem d252_7 : decode (tb_me 252).1.2.1 7 = .ok (.iload_n 1, 1) := by decide +kernel
theorem d252_8 : decode (tb_me 252).1.2.1 8 = .ok (.i2l, 1) := by decide +kernel
theorem d252_9 : decode (tb_me 252).1.2.1 9 = .ok (.lconst 0, 1) := by decide +kernel
theorem d252_10 : decode (tb_me 252).1.2.1 10 = .ok (.lconst 1, 1) := by decide +kernel
theorem d252_11 : decode (tb_me 252).1.2.1 11 = .ok (.invokestatic 112, 3) := by decide +kernel
theorem k252_112 (b : Bool) : tb_lk b 252 112 = (4, 148, 0, 0, 0) := by cases b <;> decide +kernel
theorem d252_14 : decode (tb_me 252).1.2.1 14 = .ok (.ifCond .ne 5, 3) := by decide +kernel
theorem d252_19 : decode (tb_me 252).1.2.1 19 = .ok (.aload_n 0, 1) := by decide +kernel
theorem d252_20 : decode (tb_me 252).1.2.1 20 = .ok (.invokevirtual 356, 3) := by decide +kernel
theorem k252_356 (b : Bool) : tb_lk b 252 356 = (2, 201, 0, 0, 0) := by cases b <;> decide +kernel
theorem d255_0 : decode (tb_me 255).1.2.1 0 = .ok (.aload_n 0, 1) := by decide +kernel
theorem d255_1 : decode (tb_me 255).1.2.1 1 = .ok (.invokevirtual 305, 3) := by decide +kernel
theorem k255_305 (b : Bool) : tb_lk b 255 305 = (2, 192, 0, 0, 0) := by cases b <;> decide +kernel
theorem d255_4 : decode (tb_me 255).1.2.1 4 = .ok (.ifCond .eq 50, 3) := by decide +kernel
theorem d255_54 : decode (tb_me 255).1.2.1 54 = .ok (.iconst (-1), 1) := by decide +kernel
theorem d255_55 : decode (tb_me 255).1.2.1 55 = .ok (.ireturn, 1) := by decide +kernel
theorem t255 : (tb_me 255).1.2.2.2 = some .int := by decide +kernel
theorem d255_7 : decode (tb_me 255).1.2.1 7 = .ok (.iload_n 1, 1) := by decide +kernel
theorem d255_8 : decode (tb_me 255).1.2.1 8 = .ok (.i2l, 1) := by decide +kernel
theorem d255_9 : decode (tb_me 255).1.2.1 9 = .ok (.lconst 1, 1) := by decide +kernel
theorem d255_10 : decode (tb_me 255).1.2.1 10 = .ok (.ldc2_w 431, 3) := by decide +kernel
theorem k255_431 (b : Bool) : tb_lk b 255 431 = (12, 0, 0, 0, 10) := by cases b <;> decide +kernel
theorem d255_13 : decode (tb_me 255).1.2.1 13 = .ok (.invokestatic 112, 3) := by decide +kernel
theorem k255_112 (b : Bool) : tb_lk b 255 112 = (4, 148, 0, 0, 0) := by cases b <;> decide +kernel
theorem d255_16 : decode (tb_me 255).1.2.1 16 = .ok (.ifCond .eq 38, 3) := by decide +kernel
theorem d255_19 : decode (tb_me 255).1.2.1 19 = .ok (.iload_n 2, 1) := by decide +kernel
theorem d255_20 : decode (tb_me 255).1.2.1 20 = .ok (.i2l, 1) := by decide +kernel
theorem d255_21 : decode (tb_me 255).1.2.1 21 = .ok (.lconst 1, 1) := by decide +kernel
theorem d255_22 : decode (tb_me 255).1.2.1 22 = .ok (.ldc2_w 433, 3) := by decide +kernel
theorem k255_433 (b : Bool) : tb_lk b 255 433 = (12, 0, 0, 0, 20) := by cases b <;> decide +kernel
theorem d255_25 : decode (tb_me 255).1.2.1 25 = .ok (.invokestatic 112, 3) := by decide +kernel
theorem d255_28 : decode (tb_me 255).1.2.1 28 = .ok (.ifCond .eq 26, 3) := by decide +kernel
theorem d255_31 : decode (tb_me 255).1.2.1 31 = .ok (.iload_n 3, 1) := by decide +kernel
theorem d255_32 : decode (tb_me 255).1.2.1 32 = .ok (.i2l, 1) := by decide +kernel
theorem d255_33 : decode (tb_me 255).1.2.1 33 = .ok (.lconst 0, 1) := by decide +kernel
theorem d255_34 : decode (tb_me 255).1.2.1 34 = .ok (.ldc2_w 435, 3) := by decide +kernel
theorem k255_435 (b : Bool) : tb_lk b 255 435 = (12, 0, 0, 0, 100) := by cases b <;> decide +kernel
theorem d255_37 : decode (tb_me 255).1.2.1 37 = .ok (.invokestatic 112, 3) := by decide +kernel
theorem d255_40 : decode (tb_me 255).1.2.1 40 = .ok (.ifCond .eq 14, 3) := by decide +kernel
theorem d255_43 : decode (tb_me 255).1.2.1 43 = .ok (.iload 4, 2) := by decide +kernel
theorem d255_45 : decode (tb_me 255).1.2.1 45 = .ok (.i2l, 1) := by decide +kernel
theorem d255_46 : decode (tb_me 255).1.2.1 46 = .ok (.lconst 0, 1) := by decide +kernel
theorem d255_47 : decode (tb_me 255).1.2.1 47 = .ok (.lconst 1, 1) := by decide +kernel
theorem d255_48 : decode (tb_me 255).1.2.1 48 = .ok (.invokestatic 112, 3) := by decide +kernel
theorem d255_51 : decode (tb_me 255).1.2.1 51 = .ok (.ifCond .ne 5, 3) := by decide +kernel
theorem d255_56 : decode (tb_me 255).1.2.1 56 = .ok (.aload_n 0, 1) := by decide +kernel
theorem d255_57 : decode (tb_me 255).1.2.1 57 = .ok (.aload_n 0, 1) := by decide +kernel
theorem d255_58 : decode (tb_me 255).1.2.1 58 = .ok (.getfield 416, 3) := by decide +kernel
theorem k255_416 (b : Bool) : tb_lk b 255 416 = (1, 10, 21, 0, 0) := by cases b <;> decide +kernel
theorem d255_61 : decode (tb_me 255).1.2.1 61 = .ok (.i2l, 1) := by decide +kernel
theorem d255_62 : decode (tb_me 255).1.2.1 62 = .ok (.putfield 419, 3) := by decide +kernel
theorem k255_419 (b : Bool) : tb_lk b 255 419 = (1, 10, 31, 0, 0) := by cases b <;> decide +kernel
theorem p255_10_31 : (31 < pm_nf tb_cl 10) ∧ tb_ft 10 31 = .long ∧ pm_fin tb_cl (tb_me 255).1.1 10 31 = true := by decide +kernel
theorem d255_65 : decode (tb_me 255).1.2.1 65 = .ok (.iconst 0, 1) := by decide +kernel
theorem d255_66 : decode (tb_me 255).1.2.1 66 = .ok (.istore 5, 2) := by decide +kernel
theorem d255_68 : decode (tb_me 255).1.2.1 68 = .ok (.iconst 0, 1) := by decide +kernel
theorem d255_69 : decode (tb_me 255).1.2.1 69 = .ok (.istore 6, 2) := by decide +kernel
theorem d255_71 : decode (tb_me 255).1.2.1 71 = .ok (.aload_n 0, 1) := by decide +kernel
theorem d255_72 : decode (tb_me 255).1.2.1 72 = .ok (.getfield 39, 3) := by decide +kernel
theorem k255_39 (b : Bool) : tb_lk b 255 39 = (1, 10, 20, 0, 0) := by cases b <;> decide +kernel
theorem d255_75 : decode (tb_me 255).1.2.1 75 = .ok (.bipush 6, 2) := by decide +kernel
theorem d255_77 : decode (tb_me 255).1.2.1 77 = .ok (.iaload, 1) := by decide +kernel
theorem d255_78 : decode (tb_me 255).1.2.1 78 = .ok (.ifCond .lt 9, 3) := by decide +kernel
theorem d255_87 : decode (tb_me 255).1.2.1 87 = .ok (.iconst 0, 1) := by decide +kernel
theorem d255_88 : decode (tb_me 255).1.2.1 88 = .ok (.istore 7, 2) := by decide +kernel
theorem d255_90 : decode (tb_me 255).1.2.1 90 = .ok (.aload_n 0, 1) := by decide +kernel
theorem d255_91 : decode (tb_me 255).1.2.1 91 = .ok (.aload_n 0, 1) := by decide +kernel
theorem d255_92 : decode (tb_me 255).1.2.1 92 = .ok (.invokevirtual 356, 3) := by decide +kernel
theorem k255_356 (b : Bool) : tb_lk b 255 356 = (2, 201, 0, 0, 0) := by cases b <;> decide +kernel
theorem d256_0 : decode (tb_me 256).1.2.1 0 = .ok (.iload_n 1, 1) := by decide +kernel
theorem d256_1 : decode (tb_me 256).1.2.1 1 = .ok (.tableswitch 161 0 14 #[75, 75, 75, 75, 82, 87, 94, 101, 106, 111, 129, 137, 146, 151, 156], 75) := by decide +kernel
theorem d257_0 : decode (tb_me 257).1.2.1 0 = .ok (.iload_n 1, 1) := by decide +kernel
theorem d257_1 : decode (tb_me 257).1.2.1 1 = .ok (.i2l, 1) := by decide +kernel
theorem d257_2 : decode (tb_me 257).1.2.1 2 = .ok (.lconst 0, 1) := by decide +kernel
theorem d257_3 : decode (tb_me 257).1.2.1 3 = .ok (.ldc2_w 440, 3) := by decide +kernel
theorem k257_440 (b : Bool) : tb_lk b 257 440 = (12, 0, 0, 0, 3) := by cases b <;> decide +kernel
theorem d257_6 : decode (tb_me 257).1.2.1 6 = .ok (.invokestatic 112, 3) := by decide +kernel
theorem k257_112 (b : Bool) : tb_lk b 257 112 = (4, 148, 0, 0, 0) := by cases b <;> decide +kernel
theorem d257_9 : decode (tb_me 257).1.2.1 9 = .ok (.ifCond .ne 5, 3) := by decide +kernel
theorem d257_14 : decode (tb_me 257).1.2.1 14 = .ok (.aload_n 0, 1) := by decide +kernel
theorem d257_15 : decode (tb_me 257).1.2.1 15 = .ok (.getfield 69, 3) := by decide +kernel
theorem k257_69 (b : Bool) : tb_lk b 257 69 = (1, 10, 34, 0, 0) := by cases b <;> decide +kernel
theorem f10_34 : (34 < pm_nf tb_cl 10) ∧ tb_ft 10 34 ≠ .long ∧ pm_isR (tb_ft 10 34) = true := by decide +kernel
theorem d257_18 : decode (tb_me 257).1.2.1 18 = .ok (.iload_n 1, 1) := by decide +kernel
theorem d257_19 : decode (tb_me 257).1.2.1 19 = .ok (.iconst 1, 1) := by decide +kernel
theorem d257_20 : decode (tb_me 257).1.2.1 20 = .ok (.bastore, 1) := by decide +kernel
theorem d257_21 : decode (tb_me 257).1.2.1 21 = .ok (.aload_n 0, 1) := by decide +kernel
theorem d257_22 : decode (tb_me 257).1.2.1 22 = .ok (.getfield 66, 3) := by decide +kernel
theorem k257_66 (b : Bool) : tb_lk b 257 66 = (1, 10, 33, 0, 0) := by cases b <;> decide +kernel
theorem f10_33 : (33 < pm_nf tb_cl 10) ∧ tb_ft 10 33 ≠ .long ∧ pm_isR (tb_ft 10 33) = true := by decide +kernel
theorem d257_25 : decode (tb_me 257).1.2.1 25 = .ok (.iload_n 1, 1) := by decide +kernel
theorem d257_26 : decode (tb_me 257).1.2.1 26 = .ok (.aload_n 0, 1) := by decide +kernel
theorem d257_27 : decode (tb_me 257).1.2.1 27 = .ok (.getfield 416, 3) := by decide +kernel
theorem k257_416 (b : Bool) : tb_lk b 257 416 = (1, 10, 21, 0, 0) := by cases b <;> decide +kernel
theorem d257_30 : decode (tb_me 257).1.2.1 30 = .ok (.iastore, 1) := by decide +kernel
theorem d257_31 : decode (tb_me 257).1.2.1 31 = .ok (.iconst 0, 1) := by decide +kernel
theorem d257_32 : decode (tb_me 257).1.2.1 32 = .ok (.istore_n 2, 1) := by decide +kernel
theorem d257_33 : decode (tb_me 257).1.2.1 33 = .ok (.iload_n 2, 1) := by decide +kernel
theorem d257_34 : decode (tb_me 257).1.2.1 34 = .ok (.sipush 227, 3) := by decide +kernel
theorem d257_37 : decode (tb_me 257).1.2.1 37 = .ok (.if_icmp .ge 27, 3) := by decide +kernel
theorem d257_64 : decode (tb_me 257).1.2.1 64 = .ok (.aload_n 0, 1) := by decide +kernel
theorem d257_65 : decode (tb_me 257).1.2.1 65 = .ok (.getfield 39, 3) := by decide +kernel
theorem k257_39 (b : Bool) : tb_lk b 257 39 = (1, 10, 20, 0, 0) := by cases b <;> decide +kernel
theorem d257_68 : decode (tb_me 257).1.2.1 68 = .ok (.iconst 4, 1) := by decide +kernel
theorem d257_69 : decode (tb_me 257).1.2.1 69 = .ok (.iaload, 1) := by decide +kernel
theorem d257_70 : decode (tb_me 257).1.2.1 70 = .ok (.ireturn, 1) := by decide +kernel
theorem t257 : (tb_me 257).1.2.2.2 = some .int := by decide +kernel
theorem d257_40 : decode (tb_me 257).1.2.1 40 = .ok (.aload_n 0, 1) := by decide +kernel
theorem d257_41 : decode (tb_me 257).1.2.1 41 = .ok (.getfield 63, 3) := by decide +kernel
theorem k257_63 (b : Bool) : tb_lk b 257 63 = (1, 10, 32, 0, 0) := by cases b <;> decide +kernel
theorem f10_32 : (32 < pm_nf tb_cl 10) ∧ tb_ft 10 32 ≠ .long ∧ pm_isR (tb_ft 10 32) = true := by decide +kernel
theorem d257_44 : decode (tb_me 257).1.2.1 44 = .ok (.sipush 227, 3) := by decide +kernel
theorem d257_47 : decode (tb_me 257).1.2.1 47 = .ok (.iload_n 1, 1) := by decide +kernel
theorem d257_48 : decode (tb_me 257).1.2.1 48 = .ok (.imul, 1) := by decide +kernel
theorem d257_49 : decode (tb_me 257).1.2.1 49 = .ok (.iload_n 2, 1) := by decide +kernel
theorem d257_50 : decode (tb_me 257).1.2.1 50 = .ok (.iadd, 1) := by decide +kernel
theorem d257_51 : decode (tb_me 257).1.2.1 51 = .ok (.aload_n 0, 1) := by decide +kernel
theorem d257_52 : decode (tb_me 257).1.2.1 52 = .ok (.getfield 39, 3) := by decide +kernel
theorem d257_55 : decode (tb_me 257).1.2.1 55 = .ok (.iload_n 2, 1) := by decide +kernel
theorem d257_56 : decode (tb_me 257).1.2.1 56 = .ok (.iaload, 1) := by decide +kernel
theorem d257_57 : decode (tb_me 257).1.2.1 57 = .ok (.iastore, 1) := by decide +kernel
theorem d257_58 : decode (tb_me 257).1.2.1 58 = .ok (.iinc 2 1, 3) := by decide +kernel
theorem d257_61 : decode (tb_me 257).1.2.1 61 = .ok (.goto (-28), 3) := by decide +kernel
theorem d258_0 : decode (tb_me 258).1.2.1 0 = .ok (.iload_n 1, 1) := by decide +kernel
theorem d258_1 : decode (tb_me 258).1.2.1 1 = .ok (.i2l, 1) := by decide +kernel
theorem d258_2 : decode (tb_me 258).1.2.1 2 = .ok (.lconst 0, 1) := by decide +kernel
theorem d258_3 : decode (tb_me 258).1.2.1 3 = .ok (.ldc2_w 440, 3) := by decide +kernel
theorem k258_440 (b : Bool) : tb_lk b 258 440 = (12, 0, 0, 0, 3) := by cases b <;> decide +kernel
theorem d258_6 : decode (tb_me 258).1.2.1 6 = .ok (.invokestatic 112, 3) := by decide +kernel
theorem k258_112 (b : Bool) : tb_lk b 258 112 = (4, 148, 0, 0, 0) := by cases b <;> decide +kernel
theorem d258_9 : decode (tb_me 258).1.2.1 9 = .ok (.ifCond .eq 12, 3) := by decide +kernel
theorem d258_21 : decode (tb_me 258).1.2.1 21 = .ok (.iconst (-1), 1) := by decide +kernel
theorem d258_22 : decode (tb_me 258).1.2.1 22 = .ok (.ireturn, 1) := by decide +kernel
theorem t258 : (tb_me 258).1.2.2.2 = some .int := by decide +kernel
theorem d258_12 : decode (tb_me 258).1.2.1 12 = .ok (.aload_n 0, 1) := by decide +kernel
theorem d258_13 : decode (tb_me 258).1.2.1 13 = .ok (.getfield 69, 3) := by decide +kernel
theorem k258_69 (b : Bool) : tb_lk b 258 69 = (1, 10, 34, 0, 0) := by cases b <;> decide +kernel
theorem d258_16 : decode (tb_me 258).1.2.1 16 = .ok (.iload_n 1, 1) := by decide +kernel
theorem d258_17 : decode (tb_me 258).1.2.1 17 = .ok (.baload, 1) := by decide +kernel
theorem d258_18 : decode (tb_me 258).1.2.1 18 = .ok (.ifCond .ne 5, 3) := by decide +kernel
theorem d258_23 : decode (tb_me 258).1.2.1 23 = .ok (.aload_n 0, 1) := by decide +kernel
theorem d258_24 : decode (tb_me 258).1.2.1 24 = .ok (.aload_n 0, 1) := by decide +kernel
theorem d258_25 : decode (tb_me 258).1.2.1 25 = .ok (.getfield 66, 3) := by decide +kernel
theorem k258_66 (b : Bool) : tb_lk b 258 66 = (1, 10, 33, 0, 0) := by cases b <;> decide +kernel
theorem d258_28 : decode (tb_me 258).1.2.1 28 = .ok (.iload_n 1, 1) := by decide +kernel
theorem d258_29 : decode (tb_me 258).1.2.1 29 = .ok (.iaload, 1) := by decide +kernel
theorem d258_30 : decode (tb_me 258).1.2.1 30 = .ok (.putfield 416, 3) := by decide +kernel
theorem k258_416 (b : Bool) : tb_lk b 258 416 = (1, 10, 21, 0, 0) := by cases b <;> decide +kernel
theorem p258_10_21 : (21 < pm_nf tb_cl 10) ∧ tb_ft 10 21 = .int ∧ pm_fin tb_cl (tb_me 258).1.1 10 21 = true := by decide +kernel
theorem d258_33 : decode (tb_me 258).1.2.1 33 = .ok (.aload_n 0, 1) := by decide +kernel
theorem d258_34 : decode (tb_me 258).1.2.1 34 = .ok (.iconst 0, 1) := by decide +kernel
theorem d258_35 : decode (tb_me 258).1.2.1 35 = .ok (.putfield 252, 3) := by decide +kernel
theorem k258_252 (b : Bool) : tb_lk b 258 252 = (1, 10, 28, 0, 0) := by cases b <;> decide +kernel
theorem p258_10_28 : (28 < pm_nf tb_cl 10) ∧ tb_ft 10 28 = .int ∧ pm_fin tb_cl (tb_me 258).1.1 10 28 = true := by decide +kernel
theorem d258_38 : decode (tb_me 258).1.2.1 38 = .ok (.iconst 0, 1) := by decide +kernel
theorem d258_39 : decode (tb_me 258).1.2.1 39 = .ok (.istore_n 2, 1) := by decide +kernel
theorem d258_40 : decode (tb_me 258).1.2.1 40 = .ok (.iload_n 2, 1) := by decide +kernel
theorem d258_41 : decode (tb_me 258).1.2.1 41 = .ok (.sipush 227, 3) := by decide +kernel
theorem d258_44 : decode (tb_me 258).1.2.1 44 = .ok (.if_icmp .ge 27, 3) := by decide +kernel
theorem d258_71 : decode (tb_me 258).1.2.1 71 = .ok (.aload_n 0, 1) := by decide +kernel
theorem d258_72 : decode (tb_me 258).1.2.1 72 = .ok (.getfield 39, 3) := by decide +kernel
theorem k258_39 (b : Bool) : tb_lk b 258 39 = (1, 10, 20, 0, 0) := by cases b <;> decide +kernel
theorem d258_75 : decode (tb_me 258).1.2.1 75 = .ok (.iconst 4, 1) := by decide +kernel
theorem d258_76 : decode (tb_me 258).1.2.1 76 = .ok (.iaload, 1) := by decide +kernel
theorem d258_77 : decode (tb_me 258).1.2.1 77 = .ok (.ireturn, 1) := by decide +kernel
theorem d258_47 : decode (tb_me 258).1.2.1 47 = .ok (.aload_n 0, 1) := by decide +kernel
theorem d258_48 : decode (tb_me 258).1.2.1 48 = .ok (.getfield 39, 3) := by decide +kernel
theorem d258_51 : decode (tb_me 258).1.2.1 51 = .ok (.iload_n 2, 1) := by decide +kernel
theorem d258_52 : decode (tb_me 258).1.2.1 52 = .ok (.aload_n 0, 1) := by decide +kernel
theorem d258_53 : decode (tb_me 258).1.2.1 53 = .ok (.getfield 63, 3) := by decide +kernel
theorem k258_63 (b : Bool) : tb_lk b 258 63 = (1, 10, 32, 0, 0) := by cases b <;> decide +kernel
theorem d258_56 : decode (tb_me 258).1.2.1 56 = .ok (.sipush 227, 3) := by decide +kernel
theorem d258_59 : decode (tb_me 258).1.2.1 59 = .ok (.iload_n 1, 1) := by decide +kernel
theorem d258_60 : decode (tb_me 258).1.2.1 60 = .ok (.imul, 1) := by decide +kernel
theorem d258_61 : decode (tb_me 258).1.2.1 61 = .ok (.iload_n 2, 1) := by decide +kernel
theorem d258_62 : decode (tb_me 258).1.2.1 62 = .ok (.iadd, 1) := by decide +kernel
theorem d258_63 : decode (tb_me 258).1.2.1 63 = .ok (.iaload, 1) := by decide +kernel
theorem d258_64 : decode (tb_me 258).1.2.1 64 = .ok (.iastore, 1) := by decide +kernel
theorem d258_65 : decode (tb_me 258).1.2.1 65 = .ok (.iinc 2 1, 3) := by decide +kernel
theorem d258_68 : decode (tb_me 258).1.2.1 68 = .ok (.goto (-28), 3) := by decide +kernel
def e_puts (a0 : Int32) (a1 : Int32) (h : pm_H) : pm_H := (pm_setI (pm_setI h 195 (((Int16.ofInt 400).toInt32 * (h.2.1 193 11)) + (h.2.1 196 (h.2.1 193 11).toNatClampNeg)).toNatClampNeg (a0 + ((Int8.ofInt 16).toInt32 * a1))) 196 ((pm_setI h 195 (((Int16.ofInt 400).toInt32 * (h.2.1 193 11)) + (h.2.1 196 (h.2.1 193 11).toNatClampNeg)).toNatClampNeg (a0 + ((Int8.ofInt 16).toInt32 * a1))).2.1 193 11).toNatClampNeg (((pm_setI h 195 (((Int16.ofInt 400).toInt32 * (h.2.1 193 11)) + (h.2.1 196 (h.2.1 193 11).toNatClampNeg)).toNatClampNeg (a0 + ((Int8.ofInt 16).toInt32 * a1))).2.1 196 ((pm_setI h 195 (((Int16.ofInt 400).toInt32 * (h.2.1 193 11)) + (h.2.1 196 (h.2.1 193 11).toNatClampNeg)).toNatClampNeg (a0 + ((Int8.ofInt 16).toInt32 * a1))).2.1 193 11).toNatClampNeg) + (Int32.ofInt 1)))
theorem e_puts_I {a0 : Int32} {a1 : Int32} {h : pm_H} (hI : IM h) : IM (e_puts a0 a1 h) := by
  unfold e_puts
  repeat' split
  all_goals first | exact hI | exact e_fails_I hI | exact e_seed_I hI | exact e_end_I hI | exact e_makes_I hI | exact e_push_I hI | exact e_pop_I hI
theorem c_puts (b : Bool) (L : Nat) (xs : Nat → Int32) (d : Nat) (hd : 0 ≤ d) (h : pm_H) (hI : IM h) (a0 : Int32) (a1 : Int32) (b0 : vp_in (h.2.1 193 11) 7) (b1 : vp_in (((Int16.ofInt 400).toInt32 * (h.2.1 193 11)) + (h.2.1 196 (h.2.1 193 11).toNatClampNeg)) 2400) (b2 : vp_in ((pm_setI h 195 (((Int16.ofInt 400).toInt32 * (h.2.1 193 11)) + (h.2.1 196 (h.2.1 193 11).toNatClampNeg)).toNatClampNeg (a0 + ((Int8.ofInt 16).toInt32 * a1))).2.1 193 11) 7) : PC b L xs d 163 [.ref 193, .int a0, .int a1] h (fun r0 h2 => r0 = none ∧ h2 = e_puts a0 a1 h) := by
  refine pc_in e163 (ls0 := [.ref 193, .int a0, .int a1]) rfl ?_
  refine pw_l (pc := 0) d163_0 rfl rfl rfl ?_
  refine pw_gr (pc := 1) d163_1 (k163_13 b) (sh_at hI.1 s193) f10_3 hI.r3 ?_
  refine pw_s (pc := 4) d163_4 rfl rfl ?_
  refine pw_l (pc := 7) d163_7 rfl rfl rfl ?_
  refine pw_gi (pc := 8) d163_8 (k163_138 b) (sh_at hI.1 s193) f10_11 ?_
  refine pw_s (pc := 11) d163_11 rfl rfl ?_
  refine pw_l (pc := 12) d163_12 rfl rfl rfl ?_
  refine pw_gr (pc := 13) d163_13 (k163_17 b) (sh_at hI.1 s193) f10_4 hI.r4 ?_
  refine pw_l (pc := 16) d163_16 rfl rfl rfl ?_
  refine pw_gi (pc := 17) d163_17 (k163_138 b) (sh_at hI.1 s193) f10_11 ?_
  refine pw_ai (pc := 20) d163_20 (sh_at hI.1 s196) (b0 ) ?_
  refine pw_s (pc := 21) d163_21 rfl rfl ?_
  refine pw_l (pc := 22) d163_22 rfl rfl rfl ?_
  refine pw_s (pc := 23) d163_23 rfl rfl ?_
  refine pw_l (pc := 25) d163_25 rfl rfl rfl ?_
  refine pw_s (pc := 26) d163_26 rfl rfl ?_
  refine pw_s (pc := 27) d163_27 rfl rfl ?_
  refine pw_si (pc := 28) d163_28 (sh_at hI.1 s195) (b1 ) ?_
  refine pw_l (pc := 29) d163_29 rfl rfl rfl ?_
  refine pw_gr (pc := 30) d163_30 (k163_17 b) (sh_at hI.1 s193) f10_4 hI.r4 ?_
  refine pw_l (pc := 33) d163_33 rfl rfl rfl ?_
  refine pw_gi (pc := 34) d163_34 (k163_138 b) (sh_at hI.1 s193) f10_11 ?_
  refine pw_s (pc := 37) d163_37 rfl rfl ?_
  refine pw_ai (pc := 38) d163_38 (sh_at hI.1 s196) (b2 ) ?_
  refine pw_s (pc := 39) d163_39 rfl rfl ?_
  refine pw_s (pc := 40) d163_40 rfl rfl ?_
  refine pw_si (pc := 41) d163_41 (sh_at hI.1 s196) (b2 ) ?_
  refine pw_rv (pc := 42) d163_42 t163 ?_
  exact ⟨rfl, (by rw [e_puts])⟩
def v_opens (a0 : Int32) (h : pm_H) : Int32 := (if ¬ (h.2.1 193 13) = (Int8.ofInt 10).toInt32 then (Int32.ofInt 1) else (v_fails (Int32.ofInt 2) (h.2.1 193 8) h))
def e_opens (a0 : Int32) (h : pm_H) : pm_H := (if ¬ (h.2.1 193 13) = (Int8.ofInt 10).toInt32 then (pm_setI (pm_setI (pm_setI h 193 13 ((h.2.1 193 13) + (Int32.ofInt 1))) 200 ((pm_setI h 193 13 ((h.2.1 193 13) + (Int32.ofInt 1))).2.1 193 16).toNatClampNeg a0) 193 16 (((pm_setI (pm_setI h 193 13 ((h.2.1 193 13) + (Int32.ofInt 1))) 200 ((pm_setI h 193 13 ((h.2.1 193 13) + (Int32.ofInt 1))).2.1 193 16).toNatClampNeg a0).2.1 193 16) + (Int32.ofInt 1))) else (e_fails (Int32.ofInt 2) (h.2.1 193 8) h))
theorem e_opens_I {a0 : Int32} {h : pm_H} (hI : IM h) : IM (e_opens a0 h) := by
  unfold e_opens
  repeat' split
  all_goals first | exact hI | exact e_fails_I hI | exact e_seed_I hI | exact e_end_I hI | exact e_makes_I hI | exact e_push_I hI | exact e_pop_I hI | exact e_puts_I hI
theorem v_opens_b {a0 : Int32} {h : pm_H} : v_opens a0 h = 0 ∨ v_opens a0 h = 1 := by
  unfold v_opens
  repeat' split
  all_goals first | exact Or.inl rfl | exact Or.inr rfl | exact v_fails_b | exact v_in_b | exact v_isAlive_b | exact v_isDigit_b | exact v_isLee_b | exact v_isLetter_b | exact v_isMan_b | exact v_isOf_b | exact v_isOrder_b | exact v_isRule_b | exact v_isShip_b | exact v_isWordOf_b | exact v_makes_b
theorem c_opens (b : Bool) (L : Nat) (xs : Nat → Int32) (d : Nat) (hd : 1 ≤ d) (h : pm_H) (hI : IM h) (a0 : Int32) (b0 : (¬ (h.2.1 193 13) = (Int8.ofInt 10).toInt32) → vp_in ((pm_setI h 193 13 ((h.2.1 193 13) + (Int32.ofInt 1))).2.1 193 16) 400) : PC b L xs d 165 [.ref 193, .int a0] h (fun r0 h2 => r0 = some (.int (v_opens a0 h)) ∧ h2 = e_opens a0 h) := by
  refine pc_in e165 (ls0 := [.ref 193, .int a0]) rfl ?_
  refine pw_l (pc := 0) d165_0 rfl rfl rfl ?_
  refine pw_gi (pc := 1) d165_1 (k165_144 b) (sh_at hI.1 s193) f10_13 ?_
  refine pw_s (pc := 4) d165_4 rfl rfl ?_
  refine pw_ine (pc := 6) (t := 19) d165_6 (by decide) (fun c1 => ?_) (fun c1 => ?_)
  · refine pw_l (pc := 19) d165_19 rfl rfl rfl ?_
    refine pw_s (pc := 20) d165_20 rfl rfl ?_
    refine pw_gi (pc := 21) d165_21 (k165_144 b) (sh_at hI.1 s193) f10_13 ?_
    refine pw_s (pc := 24) d165_24 rfl rfl ?_
    refine pw_s (pc := 25) d165_25 rfl rfl ?_
    refine pw_pi (pc := 26) d165_26 (k165_144 b) (sh_at hI.1 s193) p165_10_13 ?_
    refine pw_l (pc := 29) d165_29 rfl rfl rfl ?_
    refine pw_gr (pc := 30) d165_30 (k165_29 b) (sh_at hI.1 s193) f10_15 hI.r15 ?_
    refine pw_l (pc := 33) d165_33 rfl rfl rfl ?_
    refine pw_gi (pc := 34) d165_34 (k165_147 b) (sh_at hI.1 s193) f10_16 ?_
    refine pw_l (pc := 37) d165_37 rfl rfl rfl ?_
    refine pw_si (pc := 38) d165_38 (sh_at hI.1 s200) (b0 c1) ?_
    refine pw_l (pc := 39) d165_39 rfl rfl rfl ?_
    refine pw_s (pc := 40) d165_40 rfl rfl ?_
    refine pw_gi (pc := 41) d165_41 (k165_147 b) (sh_at hI.1 s193) f10_16 ?_
    refine pw_s (pc := 44) d165_44 rfl rfl ?_
    refine pw_s (pc := 45) d165_45 rfl rfl ?_
    refine pw_pi (pc := 46) d165_46 (k165_147 b) (sh_at hI.1 s193) p165_10_16 ?_
    refine pw_s (pc := 49) d165_49 rfl rfl ?_
    refine pw_ri (pc := 50) d165_50 t165 rfl ?_
    exact ⟨(by rw [v_opens, if_pos c1]), (by rw [e_opens, if_pos c1])⟩
  · refine pw_l (pc := 9) d165_9 rfl rfl rfl ?_
    refine pw_s (pc := 10) d165_10 rfl rfl ?_
    refine pw_l (pc := 11) d165_11 rfl rfl rfl ?_
    refine pw_gi (pc := 12) d165_12 (k165_84 b) (sh_at hI.1 s193) f10_8 ?_
    refine pw_v (pc := 15) (k := 193) (by omega) d165_15 (k165_105 b) (by decide) m154 (by decide) rfl (sh_at hI.1 s193) (Nat.le_of_ble_eq_true rfl) (Nat.le_of_ble_eq_true rfl) rfl rfl (c_fails b L xs (d - 1) (by omega) h hI (Int32.ofInt 2) (h.2.1 193 8) ) (fun v h2 hq => ?_)
    obtain ⟨rfl, hq2⟩ := hq
    rw [hq2]
    simp only [Option.toList_some, List.cons_append, List.nil_append]
    have hI : IM (e_fails (Int32.ofInt 2) (h.2.1 193 8) h) := e_fails_I hI
    refine pw_ri (pc := 18) d165_18 t165 (pm_nz v_fails_b) ?_
    exact ⟨(by rw [v_opens, if_neg c1]), (by rw [e_opens, if_neg c1])⟩
def v_isHeard (a0 : Int32) (h : pm_H) : Int32 := (if ¬ a0 = (Int8.ofInt 8).toInt32 then (if (v_isAlive a0 h) = 0 then (Int32.ofInt 0) else (if ¬ (v_manOf a0 (Int32.ofInt 2) h) = (Int32.ofInt 1) then (Int32.ofInt 0) else (if ¬ (v_manOf a0 (Int32.ofInt 3) h) = 0 then (Int32.ofInt 0) else (if ¬ (v_isLee a0 h) = 0 then (Int32.ofInt 0) else (Int32.ofInt 1))))) else (if (h.2.1 203 (Int8.ofInt 6).toInt32.toNatClampNeg) < 0 then (Int32.ofInt 0) else (Int32.ofInt 1)))
theorem v_isHeard_b {a0 : Int32} {h : pm_H} : v_isHeard a0 h = 0 ∨ v_isHeard a0 h = 1 := by
  unfold v_isHeard
  repeat' split
  all_goals first | exact Or.inl rfl | exact Or.inr rfl | exact v_fails_b | exact v_in_b | exact v_isAlive_b | exact v_isDigit_b | exact v_isLee_b | exact v_isLetter_b | exact v_isMan_b | exact v_isOf_b | exact v_isOrder_b | exact v_isRule_b | exact v_isShip_b | exact v_isWordOf_b | exact v_makes_b | exact v_opens_b
theorem c_isHeard (b : Bool) (L : Nat) (xs : Nat → Int32) (d : Nat) (hd : 2 ≤ d) (h : pm_H) (hI : IM h) (a0 : Int32) (b0 : (¬ a0 = (Int8.ofInt 8).toInt32) → ((¬ ((v_isMan a0 h) = 0)) → (vp_in (((Int8.ofInt 10).toInt32 + ((Int8.ofInt 6).toInt32 * a0)) + ((Int32.ofInt 4))) 227))) (b1 : (¬ a0 = (Int8.ofInt 8).toInt32) → (¬ ((v_isAlive a0 h) = 0)) → (vp_in (((Int8.ofInt 10).toInt32 + ((Int8.ofInt 6).toInt32 * a0)) + ((Int32.ofInt 2))) 227)) (b2 : (¬ a0 = (Int8.ofInt 8).toInt32) → (¬ ((v_isAlive a0 h) = 0)) → (¬ (¬ (v_manOf a0 (Int32.ofInt 2) h) = (Int32.ofInt 1))) → (vp_in (((Int8.ofInt 10).toInt32 + ((Int8.ofInt 6).toInt32 * a0)) + ((Int32.ofInt 3))) 227)) (b3 : (¬ a0 = (Int8.ofInt 8).toInt32) → (¬ ((v_isAlive a0 h) = 0)) → (¬ (¬ (v_manOf a0 (Int32.ofInt 2) h) = (Int32.ofInt 1))) → (¬ (¬ (v_manOf a0 (Int32.ofInt 3) h) = 0)) → ((¬ ((h.2.1 203 (Int32.ofInt 5).toNatClampNeg) ≤ 0)) → (vp_in (((Int8.ofInt 10).toInt32 + ((Int8.ofInt 6).toInt32 * a0)) + ((Int32.ofInt 1))) 227))) : PC b L xs d 199 [.ref 193, .int a0] h (fun r0 h2 => r0 = some (.int (v_isHeard a0 h)) ∧ h2 = h) := by
  refine pc_in e199 (ls0 := [.ref 193, .int a0]) rfl ?_
  refine pw_l (pc := 0) d199_0 rfl rfl rfl ?_
  refine pw_s (pc := 1) d199_1 rfl rfl ?_
  refine pw_ine (pc := 3) (t := 22) d199_3 (by decide) (fun c1 => ?_) (fun c1 => ?_)
  · refine pw_l (pc := 22) d199_22 rfl rfl rfl ?_
    refine pw_l (pc := 23) d199_23 rfl rfl rfl ?_
    refine pw_v (pc := 24) (k := 193) (by omega) d199_24 (k199_277 b) (by decide) m197 (by decide) rfl (sh_at hI.1 s193) (Nat.le_of_ble_eq_true rfl) (Nat.le_of_ble_eq_true rfl) rfl rfl (c_isAlive b L xs (d - 1) (by omega) h hI a0 (b0 c1)) (fun v h2 hq => ?_)
    obtain ⟨rfl, hq2⟩ := hq
    rw [hq2]
    simp only [Option.toList_some, List.cons_append, List.nil_append]
    refine pw_zeq (pc := 27) (t := 61) d199_27 (by decide) (fun c2 => ?_) (fun c2 => ?_)
    · refine pw_s (pc := 61) d199_61 rfl rfl ?_
      refine pw_ri (pc := 62) d199_62 t199 rfl ?_
      exact ⟨(by rw [v_isHeard, if_pos c1, if_pos c2]), rfl⟩
    · refine pw_l (pc := 30) d199_30 rfl rfl rfl ?_
      refine pw_l (pc := 31) d199_31 rfl rfl rfl ?_
      refine pw_s (pc := 32) d199_32 rfl rfl ?_
      refine pw_v (pc := 33) (k := 193) (by omega) d199_33 (k199_273 b) (by decide) m196 (by decide) rfl (sh_at hI.1 s193) (Nat.le_of_ble_eq_true rfl) (Nat.le_of_ble_eq_true rfl) rfl rfl (c_manOf b L xs (d - 1) (by omega) h hI a0 (Int32.ofInt 2) (b1 c1 c2)) (fun v h2 hq => ?_)
      obtain ⟨rfl, hq2⟩ := hq
      rw [hq2]
      simp only [Option.toList_some, List.cons_append, List.nil_append]
      refine pw_s (pc := 36) d199_36 rfl rfl ?_
      refine pw_ine (pc := 37) (t := 61) d199_37 (by decide) (fun c3 => ?_) (fun c3 => ?_)
      · refine pw_s (pc := 61) d199_61 rfl rfl ?_
        refine pw_ri (pc := 62) d199_62 t199 rfl ?_
        exact ⟨(by rw [v_isHeard, if_pos c1, if_neg c2, if_pos c3]), rfl⟩
      · refine pw_l (pc := 40) d199_40 rfl rfl rfl ?_
        refine pw_l (pc := 41) d199_41 rfl rfl rfl ?_
        refine pw_s (pc := 42) d199_42 rfl rfl ?_
        refine pw_v (pc := 43) (k := 193) (by omega) d199_43 (k199_273 b) (by decide) m196 (by decide) rfl (sh_at hI.1 s193) (Nat.le_of_ble_eq_true rfl) (Nat.le_of_ble_eq_true rfl) rfl rfl (c_manOf b L xs (d - 1) (by omega) h hI a0 (Int32.ofInt 3) (b2 c1 c2 c3)) (fun v h2 hq => ?_)
        obtain ⟨rfl, hq2⟩ := hq
        rw [hq2]
        simp only [Option.toList_some, List.cons_append, List.nil_append]
        refine pw_zne (pc := 46) (t := 61) d199_46 (by decide) (fun c4 => ?_) (fun c4 => ?_)
        · refine pw_s (pc := 61) d199_61 rfl rfl ?_
          refine pw_ri (pc := 62) d199_62 t199 rfl ?_
          exact ⟨(by rw [v_isHeard, if_pos c1, if_neg c2, if_neg c3, if_pos c4]), rfl⟩
        · refine pw_l (pc := 49) d199_49 rfl rfl rfl ?_
          refine pw_l (pc := 50) d199_50 rfl rfl rfl ?_
          refine pw_v (pc := 51) (k := 193) (by omega) d199_51 (k199_280 b) (by decide) m198 (by decide) rfl (sh_at hI.1 s193) (Nat.le_of_ble_eq_true rfl) (Nat.le_of_ble_eq_true rfl) rfl rfl (c_isLee b L xs (d - 1) (by omega) h hI a0 (b3 c1 c2 c3 c4)) (fun v h2 hq => ?_)
          obtain ⟨rfl, hq2⟩ := hq
          rw [hq2]
          simp only [Option.toList_some, List.cons_append, List.nil_append]
          refine pw_zne (pc := 54) (t := 61) d199_54 (by decide) (fun c5 => ?_) (fun c5 => ?_)
          · refine pw_s (pc := 61) d199_61 rfl rfl ?_
            refine pw_ri (pc := 62) d199_62 t199 rfl ?_
            exact ⟨(by rw [v_isHeard, if_pos c1, if_neg c2, if_neg c3, if_neg c4, if_pos c5]), rfl⟩
          · refine pw_s (pc := 57) d199_57 rfl rfl ?_
            refine pw_go (pc := 58) (t := 62) d199_58 (by decide) ?_
            refine pw_ri (pc := 62) d199_62 t199 rfl ?_
            exact ⟨(by rw [v_isHeard, if_pos c1, if_neg c2, if_neg c3, if_neg c4, if_neg c5]), rfl⟩
  · refine pw_l (pc := 6) d199_6 rfl rfl rfl ?_
    refine pw_gr (pc := 7) d199_7 (k199_39 b) (sh_at hI.1 s193) f10_20 hI.r20 ?_
    refine pw_s (pc := 10) d199_10 rfl rfl ?_
    refine pw_ai (pc := 12) d199_12 (sh_at hI.1 s203) (by unfold vp_in; decide) ?_
    refine pw_zlt (pc := 13) (t := 20) d199_13 (by decide) (fun c6 => ?_) (fun c6 => ?_)
    · refine pw_s (pc := 20) d199_20 rfl rfl ?_
      refine pw_ri (pc := 21) d199_21 t199 rfl ?_
      exact ⟨(by rw [v_isHeard, if_neg c1, if_pos c6]), rfl⟩
    · refine pw_s (pc := 16) d199_16 rfl rfl ?_
      refine pw_go (pc := 17) (t := 21) d199_17 (by decide) ?_
      refine pw_ri (pc := 21) d199_21 t199 rfl ?_
      exact ⟨(by rw [v_isHeard, if_neg c1, if_neg c6]), rfl⟩
def v_man (a0 : Int32) (a1 : Int32) (h : pm_H) : Int32 := (if (v_isMan a0 h) = 0 then (Int32.ofInt (-1)) else (if ¬ (v_in a1.toInt64 (Int64.ofNat 0) (6 : Int64) h) = 0 then (if (Int8.ofInt 6).toInt32 ≤ a1 then (if (v_isHeard a0 h) = 0 then (Int32.ofInt 0) else (Int32.ofInt 1)) else (v_manOf a0 a1 h)) else (Int32.ofInt (-1))))
theorem c_man (b : Bool) (L : Nat) (xs : Nat → Int32) (d : Nat) (hd : 3 ≤ d) (h : pm_H) (hI : IM h) (a0 : Int32) (a1 : Int32) (b0 : (¬ ((v_isMan a0 h) = 0)) → (¬ (v_in a1.toInt64 (Int64.ofNat 0) (6 : Int64) h) = 0) → ((Int8.ofInt 6).toInt32 ≤ a1) → ((¬ a0 = (Int8.ofInt 8).toInt32) → ((¬ ((v_isMan a0 h) = 0)) → (vp_in (((Int8.ofInt 10).toInt32 + ((Int8.ofInt 6).toInt32 * a0)) + ((Int32.ofInt 4))) 227)))) (b1 : (¬ ((v_isMan a0 h) = 0)) → (¬ (v_in a1.toInt64 (Int64.ofNat 0) (6 : Int64) h) = 0) → ((Int8.ofInt 6).toInt32 ≤ a1) → ((¬ a0 = (Int8.ofInt 8).toInt32) → (¬ ((v_isAlive a0 h) = 0)) → (vp_in (((Int8.ofInt 10).toInt32 + ((Int8.ofInt 6).toInt32 * a0)) + ((Int32.ofInt 2))) 227))) (b2 : (¬ ((v_isMan a0 h) = 0)) → (¬ (v_in a1.toInt64 (Int64.ofNat 0) (6 : Int64) h) = 0) → ((Int8.ofInt 6).toInt32 ≤ a1) → ((¬ a0 = (Int8.ofInt 8).toInt32) → (¬ ((v_isAlive a0 h) = 0)) → (¬ (¬ (v_manOf a0 (Int32.ofInt 2) h) = (Int32.ofInt 1))) → (vp_in (((Int8.ofInt 10).toInt32 + ((Int8.ofInt 6).toInt32 * a0)) + ((Int32.ofInt 3))) 227))) (b3 : (¬ ((v_isMan a0 h) = 0)) → (¬ (v_in a1.toInt64 (Int64.ofNat 0) (6 : Int64) h) = 0) → ((Int8.ofInt 6).toInt32 ≤ a1) → ((¬ a0 = (Int8.ofInt 8).toInt32) → (¬ ((v_isAlive a0 h) = 0)) → (¬ (¬ (v_manOf a0 (Int32.ofInt 2) h) = (Int32.ofInt 1))) → (¬ (¬ (v_manOf a0 (Int32.ofInt 3) h) = 0)) → ((¬ ((h.2.1 203 (Int32.ofInt 5).toNatClampNeg) ≤ 0)) → (vp_in (((Int8.ofInt 10).toInt32 + ((Int8.ofInt 6).toInt32 * a0)) + ((Int32.ofInt 1))) 227)))) (b4 : (¬ ((v_isMan a0 h) = 0)) → (¬ (v_in a1.toInt64 (Int64.ofNat 0) (6 : Int64) h) = 0) → (¬ ((Int8.ofInt 6).toInt32 ≤ a1)) → (vp_in (((Int8.ofInt 10).toInt32 + ((Int8.ofInt 6).toInt32 * a0)) + a1) 227)) : PC b L xs d 204 [.ref 193, .int a0, .int a1] h (fun r0 h2 => r0 = some (.int (v_man a0 a1 h)) ∧ h2 = h) := by
  refine pc_in e204 (ls0 := [.ref 193, .int a0, .int a1]) rfl ?_
  refine pw_l (pc := 0) d204_0 rfl rfl rfl ?_
  refine pw_l (pc := 1) d204_1 rfl rfl rfl ?_
  refine pw_v (pc := 2) (k := 193) (by omega) d204_2 (k204_270 b) (by decide) m193 (by decide) rfl (sh_at hI.1 s193) (Nat.le_of_ble_eq_true rfl) (Nat.le_of_ble_eq_true rfl) rfl rfl (c_isMan b L xs (d - 1) (by omega) h hI a0 ) (fun v h2 hq => ?_)
  obtain ⟨rfl, hq2⟩ := hq
  rw [hq2]
  simp only [Option.toList_some, List.cons_append, List.nil_append]
  refine pw_zeq (pc := 5) (t := 20) d204_5 (by decide) (fun c1 => ?_) (fun c1 => ?_)
  · refine pw_s (pc := 20) d204_20 rfl rfl ?_
    refine pw_ri (pc := 21) d204_21 t204 rfl ?_
    exact ⟨(by rw [v_man, if_pos c1]), rfl⟩
  · refine pw_l (pc := 8) d204_8 rfl rfl rfl ?_
    refine pw_s (pc := 9) d204_9 rfl rfl ?_
    refine pw_s (pc := 10) d204_10 rfl rfl ?_
    refine pw_cl (pc := 11) d204_11 (k204_286 b) ?_
    refine pw_u (pc := 14) (by omega) d204_14 (k204_112 b) (by decide) m148 (Nat.le_of_ble_eq_true rfl) (Nat.le_of_ble_eq_true rfl) (Nat.le_of_ble_eq_true rfl) rfl rfl (c_in b L xs (d - 1) (by omega) h hI a1.toInt64 (Int64.ofNat 0) (6 : Int64) ) (fun v h2 hq => ?_)
    obtain ⟨rfl, hq2⟩ := hq
    rw [hq2]
    simp only [Option.toList_some, List.cons_append, List.nil_append]
    refine pw_zne (pc := 17) (t := 22) d204_17 (by decide) (fun c2 => ?_) (fun c2 => ?_)
    · refine pw_l (pc := 22) d204_22 rfl rfl rfl ?_
      refine pw_s (pc := 23) d204_23 rfl rfl ?_
      refine pw_ige (pc := 25) (t := 37) d204_25 (by decide) (fun c3 => ?_) (fun c3 => ?_)
      · refine pw_l (pc := 37) d204_37 rfl rfl rfl ?_
        refine pw_l (pc := 38) d204_38 rfl rfl rfl ?_
        refine pw_v (pc := 39) (k := 193) (by omega) d204_39 (k204_283 b) (by decide) m199 (by decide) rfl (sh_at hI.1 s193) (Nat.le_of_ble_eq_true rfl) (Nat.le_of_ble_eq_true rfl) rfl rfl (c_isHeard b L xs (d - 1) (by omega) h hI a0 (b0 c1 c2 c3) (b1 c1 c2 c3) (b2 c1 c2 c3) (b3 c1 c2 c3)) (fun v h2 hq => ?_)
        obtain ⟨rfl, hq2⟩ := hq
        rw [hq2]
        simp only [Option.toList_some, List.cons_append, List.nil_append]
        refine pw_zeq (pc := 42) (t := 49) d204_42 (by decide) (fun c4 => ?_) (fun c4 => ?_)
        · refine pw_s (pc := 49) d204_49 rfl rfl ?_
          refine pw_ri (pc := 50) d204_50 t204 rfl ?_
          exact ⟨(by rw [v_man, if_neg c1, if_pos c2, if_pos c3, if_pos c4]), rfl⟩
        · refine pw_s (pc := 45) d204_45 rfl rfl ?_
          refine pw_go (pc := 46) (t := 50) d204_46 (by decide) ?_
          refine pw_ri (pc := 50) d204_50 t204 rfl ?_
          exact ⟨(by rw [v_man, if_neg c1, if_pos c2, if_pos c3, if_neg c4]), rfl⟩
      · refine pw_l (pc := 28) d204_28 rfl rfl rfl ?_
        refine pw_l (pc := 29) d204_29 rfl rfl rfl ?_
        refine pw_l (pc := 30) d204_30 rfl rfl rfl ?_
        refine pw_v (pc := 31) (k := 193) (by omega) d204_31 (k204_273 b) (by decide) m196 (by decide) rfl (sh_at hI.1 s193) (Nat.le_of_ble_eq_true rfl) (Nat.le_of_ble_eq_true rfl) rfl rfl (c_manOf b L xs (d - 1) (by omega) h hI a0 a1 (b4 c1 c2 c3)) (fun v h2 hq => ?_)
        obtain ⟨rfl, hq2⟩ := hq
        rw [hq2]
        simp only [Option.toList_some, List.cons_append, List.nil_append]
        refine pw_go (pc := 34) (t := 50) d204_34 (by decide) ?_
        refine pw_ri (pc := 50) d204_50 t204 rfl ?_
        exact ⟨(by rw [v_man, if_neg c1, if_pos c2, if_neg c3]), rfl⟩
    · refine pw_s (pc := 20) d204_20 rfl rfl ?_
      refine pw_ri (pc := 21) d204_21 t204 rfl ?_
      exact ⟨(by rw [v_man, if_neg c1, if_neg c2]), rfl⟩
def v_order (a0 : Int32) (a1 : Int32) (h : pm_H) : Int32 := (if (v_isOrder a0 h) = 0 then (Int32.ofInt (-1)) else (if ¬ (v_in a1.toInt64 (Int64.ofNat 0) (5 : Int64) h) = 0 then (if a1 < (Int32.ofInt 2) then (v_orderOf a0 a1 h) else (if (v_orderOf a0 (Int32.ofInt 1) h) ≤ (a1 - (Int32.ofInt 2)) then (Int8.ofInt (-2)).toInt32 else (v_orderOf a0 a1 h))) else (Int32.ofInt (-1))))
theorem c_order (b : Bool) (L : Nat) (xs : Nat → Int32) (d : Nat) (hd : 1 ≤ d) (h : pm_H) (hI : IM h) (a0 : Int32) (a1 : Int32) (b0 : (¬ ((v_isOrder a0 h) = 0)) → (¬ (v_in a1.toInt64 (Int64.ofNat 0) (5 : Int64) h) = 0) → (a1 < (Int32.ofInt 2)) → (vp_in (((Int8.ofInt 58).toInt32 + ((Int8.ofInt 6).toInt32 * a0)) + a1) 227)) (b1 : (¬ ((v_isOrder a0 h) = 0)) → (¬ (v_in a1.toInt64 (Int64.ofNat 0) (5 : Int64) h) = 0) → (¬ (a1 < (Int32.ofInt 2))) → (vp_in (((Int8.ofInt 58).toInt32 + ((Int8.ofInt 6).toInt32 * a0)) + ((Int32.ofInt 1))) 227)) (b2 : (¬ ((v_isOrder a0 h) = 0)) → (¬ (v_in a1.toInt64 (Int64.ofNat 0) (5 : Int64) h) = 0) → (¬ (a1 < (Int32.ofInt 2))) → (¬ ((v_orderOf a0 (Int32.ofInt 1) h) ≤ (a1 - (Int32.ofInt 2)))) → (vp_in (((Int8.ofInt 58).toInt32 + ((Int8.ofInt 6).toInt32 * a0)) + a1) 227)) : PC b L xs d 205 [.ref 193, .int a0, .int a1] h (fun r0 h2 => r0 = some (.int (v_order a0 a1 h)) ∧ h2 = h) := by
  refine pc_in e205 (ls0 := [.ref 193, .int a0, .int a1]) rfl ?_
  refine pw_l (pc := 0) d205_0 rfl rfl rfl ?_
  refine pw_l (pc := 1) d205_1 rfl rfl rfl ?_
  refine pw_v (pc := 2) (k := 193) (by omega) d205_2 (k205_288 b) (by decide) m194 (by decide) rfl (sh_at hI.1 s193) (Nat.le_of_ble_eq_true rfl) (Nat.le_of_ble_eq_true rfl) rfl rfl (c_isOrder b L xs (d - 1) (by omega) h hI a0 ) (fun v h2 hq => ?_)
  obtain ⟨rfl, hq2⟩ := hq
  rw [hq2]
  simp only [Option.toList_some, List.cons_append, List.nil_append]
  refine pw_zeq (pc := 5) (t := 20) d205_5 (by decide) (fun c1 => ?_) (fun c1 => ?_)
  · refine pw_s (pc := 20) d205_20 rfl rfl ?_
    refine pw_ri (pc := 21) d205_21 t205 rfl ?_
    exact ⟨(by rw [v_order, if_pos c1]), rfl⟩
  · refine pw_l (pc := 8) d205_8 rfl rfl rfl ?_
    refine pw_s (pc := 9) d205_9 rfl rfl ?_
    refine pw_s (pc := 10) d205_10 rfl rfl ?_
    refine pw_cl (pc := 11) d205_11 (k205_291 b) ?_
    refine pw_u (pc := 14) (by omega) d205_14 (k205_112 b) (by decide) m148 (Nat.le_of_ble_eq_true rfl) (Nat.le_of_ble_eq_true rfl) (Nat.le_of_ble_eq_true rfl) rfl rfl (c_in b L xs (d - 1) (by omega) h hI a1.toInt64 (Int64.ofNat 0) (5 : Int64) ) (fun v h2 hq => ?_)
    obtain ⟨rfl, hq2⟩ := hq
    rw [hq2]
    simp only [Option.toList_some, List.cons_append, List.nil_append]
    refine pw_zne (pc := 17) (t := 22) d205_17 (by decide) (fun c2 => ?_) (fun c2 => ?_)
    · refine pw_l (pc := 22) d205_22 rfl rfl rfl ?_
      refine pw_s (pc := 23) d205_23 rfl rfl ?_
      refine pw_ilt (pc := 24) (t := 39) d205_24 (by decide) (fun c3 => ?_) (fun c3 => ?_)
      · refine pw_l (pc := 39) d205_39 rfl rfl rfl ?_
        refine pw_l (pc := 40) d205_40 rfl rfl rfl ?_
        refine pw_l (pc := 41) d205_41 rfl rfl rfl ?_
        refine pw_v (pc := 42) (k := 193) (by omega) d205_42 (k205_293 b) (by decide) m203 (by decide) rfl (sh_at hI.1 s193) (Nat.le_of_ble_eq_true rfl) (Nat.le_of_ble_eq_true rfl) rfl rfl (c_orderOf b L xs (d - 1) (by omega) h hI a0 a1 (b0 c1 c2 c3)) (fun v h2 hq => ?_)
        obtain ⟨rfl, hq2⟩ := hq
        rw [hq2]
        simp only [Option.toList_some, List.cons_append, List.nil_append]
        refine pw_go (pc := 45) (t := 50) d205_45 (by decide) ?_
        refine pw_ri (pc := 50) d205_50 t205 rfl ?_
        exact ⟨(by rw [v_order, if_neg c1, if_pos c2, if_pos c3]), rfl⟩
      · refine pw_l (pc := 27) d205_27 rfl rfl rfl ?_
        refine pw_s (pc := 28) d205_28 rfl rfl ?_
        refine pw_s (pc := 29) d205_29 rfl rfl ?_
        refine pw_l (pc := 30) d205_30 rfl rfl rfl ?_
        refine pw_l (pc := 31) d205_31 rfl rfl rfl ?_
        refine pw_s (pc := 32) d205_32 rfl rfl ?_
        refine pw_v (pc := 33) (k := 193) (by omega) d205_33 (k205_293 b) (by decide) m203 (by decide) rfl (sh_at hI.1 s193) (Nat.le_of_ble_eq_true rfl) (Nat.le_of_ble_eq_true rfl) rfl rfl (c_orderOf b L xs (d - 1) (by omega) h hI a0 (Int32.ofInt 1) (b1 c1 c2 c3)) (fun v h2 hq => ?_)
        obtain ⟨rfl, hq2⟩ := hq
        rw [hq2]
        simp only [Option.toList_some, List.cons_append, List.nil_append]
        refine pw_ige (pc := 36) (t := 48) d205_36 (by decide) (fun c4 => ?_) (fun c4 => ?_)
        · refine pw_s (pc := 48) d205_48 rfl rfl ?_
          refine pw_ri (pc := 50) d205_50 t205 rfl ?_
          exact ⟨(by rw [v_order, if_neg c1, if_pos c2, if_neg c3, if_pos c4]), rfl⟩
        · refine pw_l (pc := 39) d205_39 rfl rfl rfl ?_
          refine pw_l (pc := 40) d205_40 rfl rfl rfl ?_
          refine pw_l (pc := 41) d205_41 rfl rfl rfl ?_
          refine pw_v (pc := 42) (k := 193) (by omega) d205_42 (k205_293 b) (by decide) m203 (by decide) rfl (sh_at hI.1 s193) (Nat.le_of_ble_eq_true rfl) (Nat.le_of_ble_eq_true rfl) rfl rfl (c_orderOf b L xs (d - 1) (by omega) h hI a0 a1 (b2 c1 c2 c3 c4)) (fun v h2 hq => ?_)
          obtain ⟨rfl, hq2⟩ := hq
          rw [hq2]
          simp only [Option.toList_some, List.cons_append, List.nil_append]
          refine pw_go (pc := 45) (t := 50) d205_45 (by decide) ?_
          refine pw_ri (pc := 50) d205_50 t205 rfl ?_
          exact ⟨(by rw [v_order, if_neg c1, if_pos c2, if_neg c3, if_neg c4]), rfl⟩
    · refine pw_s (pc := 20) d205_20 rfl rfl ?_
      refine pw_ri (pc := 21) d205_21 t205 rfl ?_
      exact ⟨(by rw [v_order, if_neg c1, if_neg c2]), rfl⟩
def v_means (a0 : Int32) (a1 : Int32) (h : pm_H) : Int32 := (if (v_isWordOf a0 h) = 0 then (Int32.ofInt (-1)) else (if ¬ (v_isWordOf a1 h) = 0 then (if 0 ≤ (h.2.1 203 (((Int8.ofInt 106).toInt32 + ((Int8.ofInt 10).toInt32 * a0)) + a1).toNatClampNeg) then (h.2.1 203 (((Int8.ofInt 106).toInt32 + ((Int8.ofInt 10).toInt32 * a0)) + a1).toNatClampNeg) else (Int8.ofInt (-2)).toInt32) else (Int32.ofInt (-1))))
theorem c_means (b : Bool) (L : Nat) (xs : Nat → Int32) (d : Nat) (hd : 1 ≤ d) (h : pm_H) (hI : IM h) (a0 : Int32) (a1 : Int32) (b0 : (¬ ((v_isWordOf a0 h) = 0)) → (¬ (v_isWordOf a1 h) = 0) → vp_in (((Int8.ofInt 106).toInt32 + ((Int8.ofInt 10).toInt32 * a0)) + a1) 227) : PC b L xs d 206 [.ref 193, .int a0, .int a1] h (fun r0 h2 => r0 = some (.int (v_means a0 a1 h)) ∧ h2 = h) := by
  refine pc_in e206 (ls0 := [.ref 193, .int a0, .int a1, .retAddr 0]) rfl ?_
  refine pw_l (pc := 0) d206_0 rfl rfl rfl ?_
  refine pw_l (pc := 1) d206_1 rfl rfl rfl ?_
  refine pw_v (pc := 2) (k := 193) (by omega) d206_2 (k206_296 b) (by decide) m195 (by decide) rfl (sh_at hI.1 s193) (Nat.le_of_ble_eq_true rfl) (Nat.le_of_ble_eq_true rfl) rfl rfl (c_isWordOf b L xs (d - 1) (by omega) h hI a0 ) (fun v h2 hq => ?_)
  obtain ⟨rfl, hq2⟩ := hq
  rw [hq2]
  simp only [Option.toList_some, List.cons_append, List.nil_append]
  refine pw_zeq (pc := 5) (t := 16) d206_5 (by decide) (fun c1 => ?_) (fun c1 => ?_)
  · refine pw_s (pc := 16) d206_16 rfl rfl ?_
    refine pw_ri (pc := 17) d206_17 t206 rfl ?_
    exact ⟨(by rw [v_means, if_pos c1]), rfl⟩
  · refine pw_l (pc := 8) d206_8 rfl rfl rfl ?_
    refine pw_l (pc := 9) d206_9 rfl rfl rfl ?_
    refine pw_v (pc := 10) (k := 193) (by omega) d206_10 (k206_296 b) (by decide) m195 (by decide) rfl (sh_at hI.1 s193) (Nat.le_of_ble_eq_true rfl) (Nat.le_of_ble_eq_true rfl) rfl rfl (c_isWordOf b L xs (d - 1) (by omega) h hI a1 ) (fun v h2 hq => ?_)
    obtain ⟨rfl, hq2⟩ := hq
    rw [hq2]
    simp only [Option.toList_some, List.cons_append, List.nil_append]
    refine pw_zne (pc := 13) (t := 18) d206_13 (by decide) (fun c2 => ?_) (fun c2 => ?_)
    · refine pw_l (pc := 18) d206_18 rfl rfl rfl ?_
      refine pw_gr (pc := 19) d206_19 (k206_39 b) (sh_at hI.1 s193) f10_20 hI.r20 ?_
      refine pw_s (pc := 22) d206_22 rfl rfl ?_
      refine pw_s (pc := 24) d206_24 rfl rfl ?_
      refine pw_l (pc := 26) d206_26 rfl rfl rfl ?_
      refine pw_s (pc := 27) d206_27 rfl rfl ?_
      refine pw_s (pc := 28) d206_28 rfl rfl ?_
      refine pw_l (pc := 29) d206_29 rfl rfl rfl ?_
      refine pw_s (pc := 30) d206_30 rfl rfl ?_
      refine pw_ai (pc := 31) d206_31 (sh_at hI.1 s203) (b0 c1 c2) ?_
      refine pw_t (pc := 32) d206_32 rfl rfl rfl rfl ?_
      refine pw_l (pc := 33) d206_33 rfl rfl rfl ?_
      refine pw_zge (pc := 34) (t := 42) d206_34 (by decide) (fun c3 => ?_) (fun c3 => ?_)
      · refine pw_l (pc := 42) d206_42 rfl rfl rfl ?_
        refine pw_ri (pc := 43) d206_43 t206 rfl ?_
        exact ⟨(by rw [v_means, if_neg c1, if_pos c2, if_pos c3]), rfl⟩
      · refine pw_s (pc := 37) d206_37 rfl rfl ?_
        refine pw_go (pc := 39) (t := 43) d206_39 (by decide) ?_
        refine pw_ri (pc := 43) d206_43 t206 rfl ?_
        exact ⟨(by rw [v_means, if_neg c1, if_pos c2, if_neg c3]), rfl⟩
    · refine pw_s (pc := 16) d206_16 rfl rfl ?_
      refine pw_ri (pc := 17) d206_17 t206 rfl ?_
      exact ⟨(by rw [v_means, if_neg c1, if_neg c2]), rfl⟩
def v_wordOfMan (a0 : Int32) (h : pm_H) : Int32 := (if ¬ a0 = (Int8.ofInt 8).toInt32 then (v_manOf a0 (Int32.ofInt 0) h) else (h.2.1 203 (Int8.ofInt 6).toInt32.toNatClampNeg))
theorem c_wordOfMan (b : Bool) (L : Nat) (xs : Nat → Int32) (d : Nat) (hd : 1 ≤ d) (h : pm_H) (hI : IM h) (a0 : Int32) (b0 : (¬ a0 = (Int8.ofInt 8).toInt32) → (vp_in (((Int8.ofInt 10).toInt32 + ((Int8.ofInt 6).toInt32 * a0)) + ((Int32.ofInt 0))) 227)) : PC b L xs d 213 [.ref 193, .int a0] h (fun r0 h2 => r0 = some (.int (v_wordOfMan a0 h)) ∧ h2 = h) := by
  refine pc_in e213 (ls0 := [.ref 193, .int a0]) rfl ?_
  refine pw_l (pc := 0) d213_0 rfl rfl rfl ?_
  refine pw_s (pc := 1) d213_1 rfl rfl ?_
  refine pw_ine (pc := 3) (t := 16) d213_3 (by decide) (fun c1 => ?_) (fun c1 => ?_)
  · refine pw_l (pc := 16) d213_16 rfl rfl rfl ?_
    refine pw_l (pc := 17) d213_17 rfl rfl rfl ?_
    refine pw_s (pc := 18) d213_18 rfl rfl ?_
    refine pw_v (pc := 19) (k := 193) (by omega) d213_19 (k213_273 b) (by decide) m196 (by decide) rfl (sh_at hI.1 s193) (Nat.le_of_ble_eq_true rfl) (Nat.le_of_ble_eq_true rfl) rfl rfl (c_manOf b L xs (d - 1) (by omega) h hI a0 (Int32.ofInt 0) (b0 c1)) (fun v h2 hq => ?_)
    obtain ⟨rfl, hq2⟩ := hq
    rw [hq2]
    simp only [Option.toList_some, List.cons_append, List.nil_append]
    refine pw_ri (pc := 22) d213_22 t213 rfl ?_
    exact ⟨(by rw [v_wordOfMan, if_pos c1]), rfl⟩
  · refine pw_l (pc := 6) d213_6 rfl rfl rfl ?_
    refine pw_gr (pc := 7) d213_7 (k213_39 b) (sh_at hI.1 s193) f10_20 hI.r20 ?_
    refine pw_s (pc := 10) d213_10 rfl rfl ?_
    refine pw_ai (pc := 12) d213_12 (sh_at hI.1 s203) (by unfold vp_in; decide) ?_
    refine pw_go (pc := 13) (t := 22) d213_13 (by decide) ?_
    refine pw_ri (pc := 22) d213_22 t213 rfl ?_
    exact ⟨(by rw [v_wordOfMan, if_neg c1]), rfl⟩
def v_wordIn (a0 : Int32) (h : pm_H) : Int32 := (if a0 < (Int8.ofInt 9).toInt32 then (v_wordOfMan a0 h) else (h.2.1 206 (a0 - (Int8.ofInt 9).toInt32).toNatClampNeg))
theorem c_wordIn (b : Bool) (L : Nat) (xs : Nat → Int32) (d : Nat) (hd : 2 ≤ d) (h : pm_H) (hI : IM h) (a0 : Int32) (b0 : (a0 < (Int8.ofInt 9).toInt32) → ((¬ a0 = (Int8.ofInt 8).toInt32) → (vp_in (((Int8.ofInt 10).toInt32 + ((Int8.ofInt 6).toInt32 * a0)) + ((Int32.ofInt 0))) 227))) (b1 : (¬ (a0 < (Int8.ofInt 9).toInt32)) → vp_in (a0 - (Int8.ofInt 9).toInt32) 2) : PC b L xs d 215 [.ref 193, .int a0] h (fun r0 h2 => r0 = some (.int (v_wordIn a0 h)) ∧ h2 = h) := by
  refine pc_in e215 (ls0 := [.ref 193, .int a0]) rfl ?_
  refine pw_l (pc := 0) d215_0 rfl rfl rfl ?_
  refine pw_s (pc := 1) d215_1 rfl rfl ?_
  refine pw_ilt (pc := 3) (t := 18) d215_3 (by decide) (fun c1 => ?_) (fun c1 => ?_)
  · refine pw_l (pc := 18) d215_18 rfl rfl rfl ?_
    refine pw_l (pc := 19) d215_19 rfl rfl rfl ?_
    refine pw_v (pc := 20) (k := 193) (by omega) d215_20 (k215_321 b) (by decide) m213 (by decide) rfl (sh_at hI.1 s193) (Nat.le_of_ble_eq_true rfl) (Nat.le_of_ble_eq_true rfl) rfl rfl (c_wordOfMan b L xs (d - 1) (by omega) h hI a0 (b0 c1)) (fun v h2 hq => ?_)
    obtain ⟨rfl, hq2⟩ := hq
    rw [hq2]
    simp only [Option.toList_some, List.cons_append, List.nil_append]
    refine pw_ri (pc := 23) d215_23 t215 rfl ?_
    exact ⟨(by rw [v_wordIn, if_pos c1]), rfl⟩
  · refine pw_l (pc := 6) d215_6 rfl rfl rfl ?_
    refine pw_gr (pc := 7) d215_7 (k215_48 b) (sh_at hI.1 s193) f10_25 hI.r25 ?_
    refine pw_l (pc := 10) d215_10 rfl rfl rfl ?_
    refine pw_s (pc := 11) d215_11 rfl rfl ?_
    refine pw_s (pc := 13) d215_13 rfl rfl ?_
    refine pw_ai (pc := 14) d215_14 (sh_at hI.1 s206) (b1 c1) ?_
    refine pw_go (pc := 15) (t := 23) d215_15 (by decide) ?_
    refine pw_ri (pc := 23) d215_23 t215 rfl ?_
    exact ⟨(by rw [v_wordIn, if_neg c1]), rfl⟩
def v_done (a0 : Int32) (a1 : Int32) (h : pm_H) : Int32 := (if ¬ a0 = (Int32.ofInt (-1)) then (if (v_isOrder a0 h) = 0 then (Int8.ofInt (-2)).toInt32 else (if ¬ (h.2.1 203 (Int16.ofInt 226).toInt32.toNatClampNeg) = (Int8.ofInt 10).toInt32 then (if a1 = 0 then ((pm_setI (pm_setI (pm_setI h 203 ((Int16.ofInt 206).toInt32 + ((Int32.ofInt 2) * (h.2.1 203 (Int16.ofInt 226).toInt32.toNatClampNeg))).toNatClampNeg a0) 203 (((Int16.ofInt 206).toInt32 + ((Int32.ofInt 2) * ((pm_setI h 203 ((Int16.ofInt 206).toInt32 + ((Int32.ofInt 2) * (h.2.1 203 (Int16.ofInt 226).toInt32.toNatClampNeg))).toNatClampNeg a0).2.1 203 (Int16.ofInt 226).toInt32.toNatClampNeg))) + (Int32.ofInt 1)).toNatClampNeg (Int32.ofInt 0)) 203 (Int16.ofInt 226).toInt32.toNatClampNeg (((pm_setI (pm_setI h 203 ((Int16.ofInt 206).toInt32 + ((Int32.ofInt 2) * (h.2.1 203 (Int16.ofInt 226).toInt32.toNatClampNeg))).toNatClampNeg a0) 203 (((Int16.ofInt 206).toInt32 + ((Int32.ofInt 2) * ((pm_setI h 203 ((Int16.ofInt 206).toInt32 + ((Int32.ofInt 2) * (h.2.1 203 (Int16.ofInt 226).toInt32.toNatClampNeg))).toNatClampNeg a0).2.1 203 (Int16.ofInt 226).toInt32.toNatClampNeg))) + (Int32.ofInt 1)).toNatClampNeg (Int32.ofInt 0)).2.1 203 (Int16.ofInt 226).toInt32.toNatClampNeg) + (Int32.ofInt 1))).2.1 203 (Int16.ofInt 226).toInt32.toNatClampNeg) else ((pm_setI (pm_setI (pm_setI h 203 ((Int16.ofInt 206).toInt32 + ((Int32.ofInt 2) * (h.2.1 203 (Int16.ofInt 226).toInt32.toNatClampNeg))).toNatClampNeg a0) 203 (((Int16.ofInt 206).toInt32 + ((Int32.ofInt 2) * ((pm_setI h 203 ((Int16.ofInt 206).toInt32 + ((Int32.ofInt 2) * (h.2.1 203 (Int16.ofInt 226).toInt32.toNatClampNeg))).toNatClampNeg a0).2.1 203 (Int16.ofInt 226).toInt32.toNatClampNeg))) + (Int32.ofInt 1)).toNatClampNeg (Int32.ofInt 1)) 203 (Int16.ofInt 226).toInt32.toNatClampNeg (((pm_setI (pm_setI h 203 ((Int16.ofInt 206).toInt32 + ((Int32.ofInt 2) * (h.2.1 203 (Int16.ofInt 226).toInt32.toNatClampNeg))).toNatClampNeg a0) 203 (((Int16.ofInt 206).toInt32 + ((Int32.ofInt 2) * ((pm_setI h 203 ((Int16.ofInt 206).toInt32 + ((Int32.ofInt 2) * (h.2.1 203 (Int16.ofInt 226).toInt32.toNatClampNeg))).toNatClampNeg a0).2.1 203 (Int16.ofInt 226).toInt32.toNatClampNeg))) + (Int32.ofInt 1)).toNatClampNeg (Int32.ofInt 1)).2.1 203 (Int16.ofInt 226).toInt32.toNatClampNeg) + (Int32.ofInt 1))).2.1 203 (Int16.ofInt 226).toInt32.toNatClampNeg)) else (Int8.ofInt (-2)).toInt32)) else (Int32.ofInt 0))
def e_done (a0 : Int32) (a1 : Int32) (h : pm_H) : pm_H := (if ¬ a0 = (Int32.ofInt (-1)) then (if (v_isOrder a0 h) = 0 then h else (if ¬ (h.2.1 203 (Int16.ofInt 226).toInt32.toNatClampNeg) = (Int8.ofInt 10).toInt32 then (if a1 = 0 then (pm_setI (pm_setI (pm_setI h 203 ((Int16.ofInt 206).toInt32 + ((Int32.ofInt 2) * (h.2.1 203 (Int16.ofInt 226).toInt32.toNatClampNeg))).toNatClampNeg a0) 203 (((Int16.ofInt 206).toInt32 + ((Int32.ofInt 2) * ((pm_setI h 203 ((Int16.ofInt 206).toInt32 + ((Int32.ofInt 2) * (h.2.1 203 (Int16.ofInt 226).toInt32.toNatClampNeg))).toNatClampNeg a0).2.1 203 (Int16.ofInt 226).toInt32.toNatClampNeg))) + (Int32.ofInt 1)).toNatClampNeg (Int32.ofInt 0)) 203 (Int16.ofInt 226).toInt32.toNatClampNeg (((pm_setI (pm_setI h 203 ((Int16.ofInt 206).toInt32 + ((Int32.ofInt 2) * (h.2.1 203 (Int16.ofInt 226).toInt32.toNatClampNeg))).toNatClampNeg a0) 203 (((Int16.ofInt 206).toInt32 + ((Int32.ofInt 2) * ((pm_setI h 203 ((Int16.ofInt 206).toInt32 + ((Int32.ofInt 2) * (h.2.1 203 (Int16.ofInt 226).toInt32.toNatClampNeg))).toNatClampNeg a0).2.1 203 (Int16.ofInt 226).toInt32.toNatClampNeg))) + (Int32.ofInt 1)).toNatClampNeg (Int32.ofInt 0)).2.1 203 (Int16.ofInt 226).toInt32.toNatClampNeg) + (Int32.ofInt 1))) else (pm_setI (pm_setI (pm_setI h 203 ((Int16.ofInt 206).toInt32 + ((Int32.ofInt 2) * (h.2.1 203 (Int16.ofInt 226).toInt32.toNatClampNeg))).toNatClampNeg a0) 203 (((Int16.ofInt 206).toInt32 + ((Int32.ofInt 2) * ((pm_setI h 203 ((Int16.ofInt 206).toInt32 + ((Int32.ofInt 2) * (h.2.1 203 (Int16.ofInt 226).toInt32.toNatClampNeg))).toNatClampNeg a0).2.1 203 (Int16.ofInt 226).toInt32.toNatClampNeg))) + (Int32.ofInt 1)).toNatClampNeg (Int32.ofInt 1)) 203 (Int16.ofInt 226).toInt32.toNatClampNeg (((pm_setI (pm_setI h 203 ((Int16.ofInt 206).toInt32 + ((Int32.ofInt 2) * (h.2.1 203 (Int16.ofInt 226).toInt32.toNatClampNeg))).toNatClampNeg a0) 203 (((Int16.ofInt 206).toInt32 + ((Int32.ofInt 2) * ((pm_setI h 203 ((Int16.ofInt 206).toInt32 + ((Int32.ofInt 2) * (h.2.1 203 (Int16.ofInt 226).toInt32.toNatClampNeg))).toNatClampNeg a0).2.1 203 (Int16.ofInt 226).toInt32.toNatClampNeg))) + (Int32.ofInt 1)).toNatClampNeg (Int32.ofInt 1)).2.1 203 (Int16.ofInt 226).toInt32.toNatClampNeg) + (Int32.ofInt 1)))) else h)) else (pm_setI h 203 (Int16.ofInt 226).toInt32.toNatClampNeg (Int32.ofInt 0)))
theorem e_done_I {a0 : Int32} {a1 : Int32} {h : pm_H} (hI : IM h) : IM (e_done a0 a1 h) := by
  unfold e_done
  repeat' split
  all_goals first | exact hI | exact e_fails_I hI | exact e_seed_I hI | exact e_end_I hI | exact e_makes_I hI | exact e_push_I hI | exact e_pop_I hI | exact e_puts_I hI | exact e_opens_I hI
theorem c_done (b : Bool) (L : Nat) (xs : Nat → Int32) (d : Nat) (hd : 1 ≤ d) (h : pm_H) (hI : IM h) (a0 : Int32) (a1 : Int32) (b0 : (¬ a0 = (Int32.ofInt (-1))) → (¬ ((v_isOrder a0 h) = 0)) → (¬ (h.2.1 203 (Int16.ofInt 226).toInt32.toNatClampNeg) = (Int8.ofInt 10).toInt32) → vp_in ((Int16.ofInt 206).toInt32 + ((Int32.ofInt 2) * (h.2.1 203 (Int16.ofInt 226).toInt32.toNatClampNeg))) 227) (b1 : (¬ a0 = (Int32.ofInt (-1))) → (¬ ((v_isOrder a0 h) = 0)) → (¬ (h.2.1 203 (Int16.ofInt 226).toInt32.toNatClampNeg) = (Int8.ofInt 10).toInt32) → (a1 = 0) → vp_in (((Int16.ofInt 206).toInt32 + ((Int32.ofInt 2) * ((pm_setI h 203 ((Int16.ofInt 206).toInt32 + ((Int32.ofInt 2) * (h.2.1 203 (Int16.ofInt 226).toInt32.toNatClampNeg))).toNatClampNeg a0).2.1 203 (Int16.ofInt 226).toInt32.toNatClampNeg))) + (Int32.ofInt 1)) 227) (b2 : (¬ a0 = (Int32.ofInt (-1))) → (¬ ((v_isOrder a0 h) = 0)) → (¬ (h.2.1 203 (Int16.ofInt 226).toInt32.toNatClampNeg) = (Int8.ofInt 10).toInt32) → (¬ (a1 = 0)) → vp_in (((Int16.ofInt 206).toInt32 + ((Int32.ofInt 2) * ((pm_setI h 203 ((Int16.ofInt 206).toInt32 + ((Int32.ofInt 2) * (h.2.1 203 (Int16.ofInt 226).toInt32.toNatClampNeg))).toNatClampNeg a0).2.1 203 (Int16.ofInt 226).toInt32.toNatClampNeg))) + (Int32.ofInt 1)) 227) : PC b L xs d 249 [.ref 193, .int a0, .int a1] h (fun r0 h2 => r0 = some (.int (v_done a0 a1 h)) ∧ h2 = e_done a0 a1 h) := by
  refine pc_in e249 (ls0 := [.ref 193, .int a0, .int a1]) rfl ?_
  refine pw_l (pc := 0) d249_0 rfl rfl rfl ?_
  refine pw_s (pc := 1) d249_1 rfl rfl ?_
  refine pw_ine (pc := 2) (t := 16) d249_2 (by decide) (fun c1 => ?_) (fun c1 => ?_)
  · refine pw_l (pc := 16) d249_16 rfl rfl rfl ?_
    refine pw_l (pc := 17) d249_17 rfl rfl rfl ?_
    refine pw_v (pc := 18) (k := 193) (by omega) d249_18 (k249_288 b) (by decide) m194 (by decide) rfl (sh_at hI.1 s193) (Nat.le_of_ble_eq_true rfl) (Nat.le_of_ble_eq_true rfl) rfl rfl (c_isOrder b L xs (d - 1) (by omega) h hI a0 ) (fun v h2 hq => ?_)
    obtain ⟨rfl, hq2⟩ := hq
    rw [hq2]
    simp only [Option.toList_some, List.cons_append, List.nil_append]
    refine pw_zeq (pc := 21) (t := 37) d249_21 (by decide) (fun c2 => ?_) (fun c2 => ?_)
    · refine pw_s (pc := 37) d249_37 rfl rfl ?_
      refine pw_ri (pc := 39) d249_39 t249 rfl ?_
      exact ⟨(by rw [v_done, if_pos c1, if_pos c2]), (by rw [e_done, if_pos c1, if_pos c2])⟩
    · refine pw_l (pc := 24) d249_24 rfl rfl rfl ?_
      refine pw_gr (pc := 25) d249_25 (k249_39 b) (sh_at hI.1 s193) f10_20 hI.r20 ?_
      refine pw_s (pc := 28) d249_28 rfl rfl ?_
      refine pw_ai (pc := 31) d249_31 (sh_at hI.1 s203) (by unfold vp_in; decide) ?_
      refine pw_s (pc := 32) d249_32 rfl rfl ?_
      refine pw_ine (pc := 34) (t := 40) d249_34 (by decide) (fun c3 => ?_) (fun c3 => ?_)
      · refine pw_l (pc := 40) d249_40 rfl rfl rfl ?_
        refine pw_gr (pc := 41) d249_41 (k249_39 b) (sh_at hI.1 s193) f10_20 hI.r20 ?_
        refine pw_s (pc := 44) d249_44 rfl rfl ?_
        refine pw_s (pc := 47) d249_47 rfl rfl ?_
        refine pw_l (pc := 48) d249_48 rfl rfl rfl ?_
        refine pw_gr (pc := 49) d249_49 (k249_39 b) (sh_at hI.1 s193) f10_20 hI.r20 ?_
        refine pw_s (pc := 52) d249_52 rfl rfl ?_
        refine pw_ai (pc := 55) d249_55 (sh_at hI.1 s203) (by unfold vp_in; decide) ?_
        refine pw_s (pc := 56) d249_56 rfl rfl ?_
        refine pw_s (pc := 57) d249_57 rfl rfl ?_
        refine pw_l (pc := 58) d249_58 rfl rfl rfl ?_
        refine pw_si (pc := 59) d249_59 (sh_at hI.1 s203) (b0 c1 c2 c3) ?_
        refine pw_l (pc := 60) d249_60 rfl rfl rfl ?_
        refine pw_gr (pc := 61) d249_61 (k249_39 b) (sh_at hI.1 s193) f10_20 hI.r20 ?_
        refine pw_s (pc := 64) d249_64 rfl rfl ?_
        refine pw_s (pc := 67) d249_67 rfl rfl ?_
        refine pw_l (pc := 68) d249_68 rfl rfl rfl ?_
        refine pw_gr (pc := 69) d249_69 (k249_39 b) (sh_at hI.1 s193) f10_20 hI.r20 ?_
        refine pw_s (pc := 72) d249_72 rfl rfl ?_
        refine pw_ai (pc := 75) d249_75 (sh_at hI.1 s203) (by unfold vp_in; decide) ?_
        refine pw_s (pc := 76) d249_76 rfl rfl ?_
        refine pw_s (pc := 77) d249_77 rfl rfl ?_
        refine pw_s (pc := 78) d249_78 rfl rfl ?_
        refine pw_s (pc := 79) d249_79 rfl rfl ?_
        refine pw_l (pc := 80) d249_80 rfl rfl rfl ?_
        refine pw_zeq (pc := 81) (t := 88) d249_81 (by decide) (fun c4 => ?_) (fun c4 => ?_)
        · refine pw_s (pc := 88) d249_88 rfl rfl ?_
          refine pw_si (pc := 89) d249_89 (sh_at hI.1 s203) (b1 c1 c2 c3 c4) ?_
          refine pw_l (pc := 90) d249_90 rfl rfl rfl ?_
          refine pw_gr (pc := 91) d249_91 (k249_39 b) (sh_at hI.1 s193) f10_20 hI.r20 ?_
          refine pw_s (pc := 94) d249_94 rfl rfl ?_
          refine pw_s (pc := 97) d249_97 rfl rfl ?_
          refine pw_ai (pc := 98) d249_98 (sh_at hI.1 s203) (by unfold vp_in; decide) ?_
          refine pw_s (pc := 99) d249_99 rfl rfl ?_
          refine pw_s (pc := 100) d249_100 rfl rfl ?_
          refine pw_si (pc := 101) d249_101 (sh_at hI.1 s203) (by unfold vp_in; decide) ?_
          refine pw_l (pc := 102) d249_102 rfl rfl rfl ?_
          refine pw_gr (pc := 103) d249_103 (k249_39 b) (sh_at hI.1 s193) f10_20 hI.r20 ?_
          refine pw_s (pc := 106) d249_106 rfl rfl ?_
          refine pw_ai (pc := 109) d249_109 (sh_at hI.1 s203) (by unfold vp_in; decide) ?_
          refine pw_ri (pc := 110) d249_110 t249 rfl ?_
          exact ⟨(by rw [v_done, if_pos c1, if_neg c2, if_pos c3, if_pos c4]), (by rw [e_done, if_pos c1, if_neg c2, if_pos c3, if_pos c4])⟩
        · refine pw_s (pc := 84) d249_84 rfl rfl ?_
          refine pw_go (pc := 85) (t := 89) d249_85 (by decide) ?_
          refine pw_si (pc := 89) d249_89 (sh_at hI.1 s203) (b2 c1 c2 c3 c4) ?_
          refine pw_l (pc := 90) d249_90 rfl rfl rfl ?_
          refine pw_gr (pc := 91) d249_91 (k249_39 b) (sh_at hI.1 s193) f10_20 hI.r20 ?_
          refine pw_s (pc := 94) d249_94 rfl rfl ?_
          refine pw_s (pc := 97) d249_97 rfl rfl ?_
          refine pw_ai (pc := 98) d249_98 (sh_at hI.1 s203) (by unfold vp_in; decide) ?_
          refine pw_s (pc := 99) d249_99 rfl rfl ?_
          refine pw_s (pc := 100) d249_100 rfl rfl ?_
          refine pw_si (pc := 101) d249_101 (sh_at hI.1 s203) (by unfold vp_in; decide) ?_
          refine pw_l (pc := 102) d249_102 rfl rfl rfl ?_
          refine pw_gr (pc := 103) d249_103 (k249_39 b) (sh_at hI.1 s193) f10_20 hI.r20 ?_
          refine pw_s (pc := 106) d249_106 rfl rfl ?_
          refine pw_ai (pc := 109) d249_109 (sh_at hI.1 s203) (by unfold vp_in; decide) ?_
          refine pw_ri (pc := 110) d249_110 t249 rfl ?_
          exact ⟨(by rw [v_done, if_pos c1, if_neg c2, if_pos c3, if_neg c4]), (by rw [e_done, if_pos c1, if_neg c2, if_pos c3, if_neg c4])⟩
      · refine pw_s (pc := 37) d249_37 rfl rfl ?_
        refine pw_ri (pc := 39) d249_39 t249 rfl ?_
        exact ⟨(by rw [v_done, if_pos c1, if_neg c2, if_neg c3]), (by rw [e_done, if_pos c1, if_neg c2, if_neg c3])⟩
  · refine pw_l (pc := 5) d249_5 rfl rfl rfl ?_
    refine pw_gr (pc := 6) d249_6 (k249_39 b) (sh_at hI.1 s193) f10_20 hI.r20 ?_
    refine pw_s (pc := 9) d249_9 rfl rfl ?_
    refine pw_s (pc := 12) d249_12 rfl rfl ?_
    refine pw_si (pc := 13) d249_13 (sh_at hI.1 s203) (by unfold vp_in; decide) ?_
    refine pw_s (pc := 14) d249_14 rfl rfl ?_
    refine pw_ri (pc := 15) d249_15 t249 rfl ?_
    exact ⟨(by rw [v_done, if_neg c1]), (by rw [e_done, if_neg c1])⟩
