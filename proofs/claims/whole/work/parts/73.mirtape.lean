/-! Mirrors, written by wip/mir.py. -/
theorem d134_3 : decode (tb_me 134).1.2.1 3 = .ok (.iload_n 2, 1) := by decide +kernel
theorem d134_4 : decode (tb_me 134).1.2.1 4 = .ok (.ifCond .lt 54, 3) := by decide +kernel
theorem d134_7 : decode (tb_me 134).1.2.1 7 = .ok (.aload_n 0, 1) := by decide +kernel
theorem d134_8 : decode (tb_me 134).1.2.1 8 = .ok (.getfield 15, 3) := by decide +kernel
theorem k134_15 (b : Bool) : tb_lk b 134 15 = (1, 8, 1, 0, 0) := by cases b <;> decide +kernel
theorem f8_1 : (1 < pm_nf tb_cl 8) ∧ tb_ft 8 1 ≠ .long ∧ pm_isR (tb_ft 8 1) = false := by decide +kernel
theorem d134_11 : decode (tb_me 134).1.2.1 11 = .ok (.ifCond .lt 41, 3) := by decide +kernel
theorem d134_52 : decode (tb_me 134).1.2.1 52 = .ok (.iinc 2 (-8), 3) := by decide +kernel
theorem d134_55 : decode (tb_me 134).1.2.1 55 = .ok (.goto (-52), 3) := by decide +kernel
theorem d134_14 : decode (tb_me 134).1.2.1 14 = .ok (.aload_n 0, 1) := by decide +kernel
theorem d134_15 : decode (tb_me 134).1.2.1 15 = .ok (.getfield 15, 3) := by decide +kernel
theorem d134_18 : decode (tb_me 134).1.2.1 18 = .ok (.aload_n 0, 1) := by decide +kernel
theorem d134_19 : decode (tb_me 134).1.2.1 19 = .ok (.getfield 9, 3) := by decide +kernel
theorem k134_9 (b : Bool) : tb_lk b 134 9 = (1, 8, 0, 0, 0) := by cases b <;> decide +kernel
theorem f8_0 : (0 < pm_nf tb_cl 8) ∧ tb_ft 8 0 ≠ .long ∧ pm_isR (tb_ft 8 0) = true := by decide +kernel
theorem d134_22 : decode (tb_me 134).1.2.1 22 = .ok (.arraylength, 1) := by decide +kernel
theorem d134_23 : decode (tb_me 134).1.2.1 23 = .ok (.if_icmp .ge 29, 3) := by decide +kernel
theorem d134_26 : decode (tb_me 134).1.2.1 26 = .ok (.aload_n 0, 1) := by decide +kernel
theorem d134_27 : decode (tb_me 134).1.2.1 27 = .ok (.getfield 9, 3) := by decide +kernel
theorem d134_30 : decode (tb_me 134).1.2.1 30 = .ok (.aload_n 0, 1) := by decide +kernel
theorem d134_31 : decode (tb_me 134).1.2.1 31 = .ok (.getfield 15, 3) := by decide +kernel
theorem d134_34 : decode (tb_me 134).1.2.1 34 = .ok (.iload_n 1, 1) := by decide +kernel
theorem d134_35 : decode (tb_me 134).1.2.1 35 = .ok (.iload_n 2, 1) := by decide +kernel
theorem d134_36 : decode (tb_me 134).1.2.1 36 = .ok (.ishr, 1) := by decide +kernel
theorem d134_37 : decode (tb_me 134).1.2.1 37 = .ok (.sipush 255, 3) := by decide +kernel
theorem d134_40 : decode (tb_me 134).1.2.1 40 = .ok (.iand, 1) := by decide +kernel
theorem d134_41 : decode (tb_me 134).1.2.1 41 = .ok (.iastore, 1) := by decide +kernel
theorem d134_42 : decode (tb_me 134).1.2.1 42 = .ok (.aload_n 0, 1) := by decide +kernel
theorem d134_43 : decode (tb_me 134).1.2.1 43 = .ok (.dup, 1) := by decide +kernel
theorem d134_44 : decode (tb_me 134).1.2.1 44 = .ok (.getfield 15, 3) := by decide +kernel
theorem d134_47 : decode (tb_me 134).1.2.1 47 = .ok (.iconst 1, 1) := by decide +kernel
theorem d134_48 : decode (tb_me 134).1.2.1 48 = .ok (.iadd, 1) := by decide +kernel
theorem d134_49 : decode (tb_me 134).1.2.1 49 = .ok (.putfield 15, 3) := by decide +kernel
theorem p134_8_1 : (1 < pm_nf tb_cl 8) ∧ tb_ft 8 1 = .int ∧ pm_fin tb_cl (tb_me 134).1.1 8 1 = true := by decide +kernel
theorem d134_0 : decode (tb_me 134).1.2.1 0 = .ok (.bipush 24, 2) := by decide +kernel
theorem d134_2 : decode (tb_me 134).1.2.1 2 = .ok (.istore_n 2, 1) := by decide +kernel
theorem d134_58 : decode (tb_me 134).1.2.1 58 = .ok (.return_, 1) := by decide +kernel
theorem t134 : (tb_me 134).1.2.2.2 = none := by decide +kernel
theorem e134 : (tb_me 134).2.1 = (0, 0) ∧ (tb_me 134).1.2.2.1 = 3 := by decide +kernel
theorem d137_0 : decode (tb_me 137).1.2.1 0 = .ok (.iload_n 1, 1) := by decide +kernel
theorem d137_1 : decode (tb_me 137).1.2.1 1 = .ok (.ifCond .lt 29, 3) := by decide +kernel
theorem d137_30 : decode (tb_me 137).1.2.1 30 = .ok (.iconst (-1), 1) := by decide +kernel
theorem d137_31 : decode (tb_me 137).1.2.1 31 = .ok (.ireturn, 1) := by decide +kernel
theorem t137 : (tb_me 137).1.2.2.2 = some .int := by decide +kernel
theorem d137_4 : decode (tb_me 137).1.2.1 4 = .ok (.iload_n 1, 1) := by decide +kernel
theorem d137_5 : decode (tb_me 137).1.2.1 5 = .ok (.aload_n 0, 1) := by decide +kernel
theorem d137_6 : decode (tb_me 137).1.2.1 6 = .ok (.getfield 15, 3) := by decide +kernel
theorem k137_15 (b : Bool) : tb_lk b 137 15 = (1, 8, 1, 0, 0) := by cases b <;> decide +kernel
theorem d137_9 : decode (tb_me 137).1.2.1 9 = .ok (.if_icmp .ge 21, 3) := by decide +kernel
theorem d137_12 : decode (tb_me 137).1.2.1 12 = .ok (.iload_n 1, 1) := by decide +kernel
theorem d137_13 : decode (tb_me 137).1.2.1 13 = .ok (.aload_n 0, 1) := by decide +kernel
theorem d137_14 : decode (tb_me 137).1.2.1 14 = .ok (.getfield 9, 3) := by decide +kernel
theorem k137_9 (b : Bool) : tb_lk b 137 9 = (1, 8, 0, 0, 0) := by cases b <;> decide +kernel
theorem d137_17 : decode (tb_me 137).1.2.1 17 = .ok (.arraylength, 1) := by decide +kernel
theorem d137_18 : decode (tb_me 137).1.2.1 18 = .ok (.if_icmp .ge 12, 3) := by decide +kernel
theorem d137_21 : decode (tb_me 137).1.2.1 21 = .ok (.aload_n 0, 1) := by decide +kernel
theorem d137_22 : decode (tb_me 137).1.2.1 22 = .ok (.getfield 9, 3) := by decide +kernel
theorem d137_25 : decode (tb_me 137).1.2.1 25 = .ok (.iload_n 1, 1) := by decide +kernel
theorem d137_26 : decode (tb_me 137).1.2.1 26 = .ok (.iaload, 1) := by decide +kernel
theorem d137_27 : decode (tb_me 137).1.2.1 27 = .ok (.goto 4, 3) := by decide +kernel
theorem e137 : (tb_me 137).2.1 = (0, 0) ∧ (tb_me 137).1.2.2.1 = 2 := by decide +kernel
theorem d138_23 : decode (tb_me 138).1.2.1 23 = .ok (.iload_n 2, 1) := by decide +kernel
theorem d138_24 : decode (tb_me 138).1.2.1 24 = .ok (.aload_n 0, 1) := by decide +kernel
theorem d138_25 : decode (tb_me 138).1.2.1 25 = .ok (.getfield 28, 3) := by decide +kernel
theorem k138_28 (b : Bool) : tb_lk b 138 28 = (1, 8, 5, 0, 0) := by cases b <;> decide +kernel
theorem f8_5 : (5 < pm_nf tb_cl 8) ∧ tb_ft 8 5 ≠ .long ∧ pm_isR (tb_ft 8 5) = false := by decide +kernel
theorem d138_28 : decode (tb_me 138).1.2.1 28 = .ok (.if_icmp .ge 29, 3) := by decide +kernel
theorem d138_31 : decode (tb_me 138).1.2.1 31 = .ok (.aload_n 0, 1) := by decide +kernel
theorem d138_32 : decode (tb_me 138).1.2.1 32 = .ok (.aload_n 0, 1) := by decide +kernel
theorem d138_33 : decode (tb_me 138).1.2.1 33 = .ok (.getfield 22, 3) := by decide +kernel
theorem k138_22 (b : Bool) : tb_lk b 138 22 = (1, 8, 3, 0, 0) := by cases b <;> decide +kernel
theorem f8_3 : (3 < pm_nf tb_cl 8) ∧ tb_ft 8 3 ≠ .long ∧ pm_isR (tb_ft 8 3) = false := by decide +kernel
theorem d138_36 : decode (tb_me 138).1.2.1 36 = .ok (.iload_n 2, 1) := by decide +kernel
theorem d138_37 : decode (tb_me 138).1.2.1 37 = .ok (.iadd, 1) := by decide +kernel
theorem d138_38 : decode (tb_me 138).1.2.1 38 = .ok (.invokevirtual 40, 3) := by decide +kernel
theorem k138_40 (b : Bool) : tb_lk b 138 40 = (2, 137, 0, 0, 0) := by cases b <;> decide +kernel
theorem m137 : (tb_me 137).2 = ((0, 0), (1, 8)) ∧ (tb_me 137).1.2.2.1 = 2 := by decide +kernel
theorem d138_41 : decode (tb_me 138).1.2.1 41 = .ok (.aload_n 1, 1) := by decide +kernel
theorem d138_42 : decode (tb_me 138).1.2.1 42 = .ok (.iload_n 2, 1) := by decide +kernel
theorem d138_43 : decode (tb_me 138).1.2.1 43 = .ok (.invokevirtual 52, 3) := by decide +kernel
theorem k138_52 (b : Bool) : tb_lk b 138 52 = (2, 261, 0, 0, 0) := by cases b <;> decide +kernel
theorem d138_46 : decode (tb_me 138).1.2.1 46 = .ok (.if_icmp .eq 5, 3) := by decide +kernel
theorem d138_51 : decode (tb_me 138).1.2.1 51 = .ok (.iinc 2 1, 3) := by decide +kernel
theorem d138_54 : decode (tb_me 138).1.2.1 54 = .ok (.goto (-31), 3) := by decide +kernel
theorem d138_0 : decode (tb_me 138).1.2.1 0 = .ok (.aload_n 0, 1) := by decide +kernel
theorem d138_1 : decode (tb_me 138).1.2.1 1 = .ok (.getfield 19, 3) := by decide +kernel
theorem k138_19 (b : Bool) : tb_lk b 138 19 = (1, 8, 2, 0, 0) := by cases b <;> decide +kernel
theorem f8_2 : (2 < pm_nf tb_cl 8) ∧ tb_ft 8 2 ≠ .long ∧ pm_isR (tb_ft 8 2) = false := by decide +kernel
theorem d138_4 : decode (tb_me 138).1.2.1 4 = .ok (.iconst 2, 1) := by decide +kernel
theorem d138_5 : decode (tb_me 138).1.2.1 5 = .ok (.if_icmp .ne 14, 3) := by decide +kernel
theorem d138_19 : decode (tb_me 138).1.2.1 19 = .ok (.iconst 0, 1) := by decide +kernel
theorem d138_20 : decode (tb_me 138).1.2.1 20 = .ok (.ireturn, 1) := by decide +kernel
theorem t138 : (tb_me 138).1.2.2.2 = some .boolean := by decide +kernel
theorem d138_8 : decode (tb_me 138).1.2.1 8 = .ok (.aload_n 0, 1) := by decide +kernel
theorem d138_9 : decode (tb_me 138).1.2.1 9 = .ok (.getfield 28, 3) := by decide +kernel
theorem d138_12 : decode (tb_me 138).1.2.1 12 = .ok (.aload_n 1, 1) := by decide +kernel
theorem d138_13 : decode (tb_me 138).1.2.1 13 = .ok (.invokevirtual 47, 3) := by decide +kernel
theorem k138_47 (b : Bool) : tb_lk b 138 47 = (2, 260, 0, 0, 0) := by cases b <;> decide +kernel
theorem d138_16 : decode (tb_me 138).1.2.1 16 = .ok (.if_icmp .eq 5, 3) := by decide +kernel
theorem d138_21 : decode (tb_me 138).1.2.1 21 = .ok (.iconst 0, 1) := by decide +kernel
theorem d138_22 : decode (tb_me 138).1.2.1 22 = .ok (.istore_n 2, 1) := by decide +kernel
theorem d138_49 : decode (tb_me 138).1.2.1 49 = .ok (.iconst 0, 1) := by decide +kernel
theorem d138_50 : decode (tb_me 138).1.2.1 50 = .ok (.ireturn, 1) := by decide +kernel
theorem d138_57 : decode (tb_me 138).1.2.1 57 = .ok (.iconst 1, 1) := by decide +kernel
theorem d138_58 : decode (tb_me 138).1.2.1 58 = .ok (.ireturn, 1) := by decide +kernel
theorem e138 : (tb_me 138).2.1 = (0, 0) ∧ (tb_me 138).1.2.2.1 = 3 := by decide +kernel
theorem d139_85 : decode (tb_me 139).1.2.1 85 = .ok (.istore_n 3, 1) := by decide +kernel
theorem d139_86 : decode (tb_me 139).1.2.1 86 = .ok (.goto 18, 3) := by decide +kernel
theorem d139_104 : decode (tb_me 139).1.2.1 104 = .ok (.iinc 4 1, 3) := by decide +kernel
theorem d139_107 : decode (tb_me 139).1.2.1 107 = .ok (.goto (-100), 3) := by decide +kernel
theorem d139_71 : decode (tb_me 139).1.2.1 71 = .ok (.istore 6, 2) := by decide +kernel
theorem d139_73 : decode (tb_me 139).1.2.1 73 = .ok (.iload 6, 2) := by decide +kernel
theorem d139_75 : decode (tb_me 139).1.2.1 75 = .ok (.ifCond .eq 9, 3) := by decide +kernel
theorem d139_84 : decode (tb_me 139).1.2.1 84 = .ok (.iconst (-1), 1) := by decide +kernel
theorem d139_78 : decode (tb_me 139).1.2.1 78 = .ok (.iload_n 3, 1) := by decide +kernel
theorem d139_79 : decode (tb_me 139).1.2.1 79 = .ok (.iconst 1, 1) := by decide +kernel
theorem d139_80 : decode (tb_me 139).1.2.1 80 = .ok (.iadd, 1) := by decide +kernel
theorem d139_81 : decode (tb_me 139).1.2.1 81 = .ok (.goto 4, 3) := by decide +kernel
theorem d139_7 : decode (tb_me 139).1.2.1 7 = .ok (.aload_n 0, 1) := by decide +kernel
theorem d139_8 : decode (tb_me 139).1.2.1 8 = .ok (.getfield 19, 3) := by decide +kernel
theorem k139_19 (b : Bool) : tb_lk b 139 19 = (1, 8, 2, 0, 0) := by cases b <;> decide +kernel
theorem d139_11 : decode (tb_me 139).1.2.1 11 = .ok (.iconst 2, 1) := by decide +kernel
theorem d139_12 : decode (tb_me 139).1.2.1 12 = .ok (.if_icmp .ne 98, 3) := by decide +kernel
theorem d139_15 : decode (tb_me 139).1.2.1 15 = .ok (.iload 4, 2) := by decide +kernel
theorem d139_17 : decode (tb_me 139).1.2.1 17 = .ok (.aload_n 1, 1) := by decide +kernel
theorem d139_18 : decode (tb_me 139).1.2.1 18 = .ok (.invokevirtual 47, 3) := by decide +kernel
theorem k139_47 (b : Bool) : tb_lk b 139 47 = (2, 260, 0, 0, 0) := by cases b <;> decide +kernel
theorem d139_21 : decode (tb_me 139).1.2.1 21 = .ok (.if_icmp .ge 89, 3) := by decide +kernel
theorem d139_24 : decode (tb_me 139).1.2.1 24 = .ok (.aload_n 1, 1) := by decide +kernel
theorem d139_25 : decode (tb_me 139).1.2.1 25 = .ok (.iload 4, 2) := by decide +kernel
theorem d139_27 : decode (tb_me 139).1.2.1 27 = .ok (.invokevirtual 52, 3) := by decide +kernel
theorem k139_52 (b : Bool) : tb_lk b 139 52 = (2, 261, 0, 0, 0) := by cases b <;> decide +kernel
theorem d139_30 : decode (tb_me 139).1.2.1 30 = .ok (.istore 5, 2) := by decide +kernel
theorem d139_32 : decode (tb_me 139).1.2.1 32 = .ok (.iload 5, 2) := by decide +kernel
theorem d139_34 : decode (tb_me 139).1.2.1 34 = .ok (.bipush 32, 2) := by decide +kernel
theorem d139_36 : decode (tb_me 139).1.2.1 36 = .ok (.if_icmp .eq 53, 3) := by decide +kernel
theorem d139_89 : decode (tb_me 139).1.2.1 89 = .ok (.iload_n 3, 1) := by decide +kernel
theorem d139_90 : decode (tb_me 139).1.2.1 90 = .ok (.aload_n 0, 1) := by decide +kernel
theorem d139_91 : decode (tb_me 139).1.2.1 91 = .ok (.getfield 28, 3) := by decide +kernel
theorem k139_28 (b : Bool) : tb_lk b 139 28 = (1, 8, 5, 0, 0) := by cases b <;> decide +kernel
theorem d139_94 : decode (tb_me 139).1.2.1 94 = .ok (.if_icmp .ne 5, 3) := by decide +kernel
theorem d139_99 : decode (tb_me 139).1.2.1 99 = .ok (.iinc 2 1, 3) := by decide +kernel
theorem d139_102 : decode (tb_me 139).1.2.1 102 = .ok (.iconst 0, 1) := by decide +kernel
theorem d139_103 : decode (tb_me 139).1.2.1 103 = .ok (.istore_n 3, 1) := by decide +kernel
theorem d139_39 : decode (tb_me 139).1.2.1 39 = .ok (.iload_n 3, 1) := by decide +kernel
theorem d139_40 : decode (tb_me 139).1.2.1 40 = .ok (.ifCond .lt 30, 3) := by decide +kernel
theorem d139_70 : decode (tb_me 139).1.2.1 70 = .ok (.iconst 0, 1) := by decide +kernel
theorem d139_43 : decode (tb_me 139).1.2.1 43 = .ok (.iload_n 3, 1) := by decide +kernel
theorem d139_44 : decode (tb_me 139).1.2.1 44 = .ok (.aload_n 0, 1) := by decide +kernel
theorem d139_45 : decode (tb_me 139).1.2.1 45 = .ok (.getfield 28, 3) := by decide +kernel
theorem d139_48 : decode (tb_me 139).1.2.1 48 = .ok (.if_icmp .ge 22, 3) := by decide +kernel
theorem d139_51 : decode (tb_me 139).1.2.1 51 = .ok (.aload_n 0, 1) := by decide +kernel
theorem d139_52 : decode (tb_me 139).1.2.1 52 = .ok (.aload_n 0, 1) := by decide +kernel
theorem d139_53 : decode (tb_me 139).1.2.1 53 = .ok (.getfield 22, 3) := by decide +kernel
theorem k139_22 (b : Bool) : tb_lk b 139 22 = (1, 8, 3, 0, 0) := by cases b <;> decide +kernel
theorem d139_56 : decode (tb_me 139).1.2.1 56 = .ok (.iload_n 3, 1) := by decide +kernel
theorem d139_57 : decode (tb_me 139).1.2.1 57 = .ok (.iadd, 1) := by decide +kernel
theorem d139_58 : decode (tb_me 139).1.2.1 58 = .ok (.invokevirtual 40, 3) := by decide +kernel
theorem k139_40 (b : Bool) : tb_lk b 139 40 = (2, 137, 0, 0, 0) := by cases b <;> decide +kernel
theorem d139_61 : decode (tb_me 139).1.2.1 61 = .ok (.iload 5, 2) := by decide +kernel
theorem d139_63 : decode (tb_me 139).1.2.1 63 = .ok (.if_icmp .ne 7, 3) := by decide +kernel
theorem d139_66 : decode (tb_me 139).1.2.1 66 = .ok (.iconst 1, 1) := by decide +kernel
theorem d139_67 : decode (tb_me 139).1.2.1 67 = .ok (.goto 4, 3) := by decide +kernel
theorem d139_0 : decode (tb_me 139).1.2.1 0 = .ok (.iconst 0, 1) := by decide +kernel
theorem d139_1 : decode (tb_me 139).1.2.1 1 = .ok (.istore_n 2, 1) := by decide +kernel
theorem d139_2 : decode (tb_me 139).1.2.1 2 = .ok (.iconst 0, 1) := by decide +kernel
theorem d139_3 : decode (tb_me 139).1.2.1 3 = .ok (.istore_n 3, 1) := by decide +kernel
theorem d139_4 : decode (tb_me 139).1.2.1 4 = .ok (.iconst 0, 1) := by decide +kernel
theorem d139_5 : decode (tb_me 139).1.2.1 5 = .ok (.istore 4, 2) := by decide +kernel
theorem d139_97 : decode (tb_me 139).1.2.1 97 = .ok (.iload_n 2, 1) := by decide +kernel
theorem d139_98 : decode (tb_me 139).1.2.1 98 = .ok (.ireturn, 1) := by decide +kernel
theorem t139 : (tb_me 139).1.2.2.2 = some .int := by decide +kernel
theorem d139_110 : decode (tb_me 139).1.2.1 110 = .ok (.iconst (-1), 1) := by decide +kernel
theorem d139_111 : decode (tb_me 139).1.2.1 111 = .ok (.ireturn, 1) := by decide +kernel
theorem e139 : (tb_me 139).2.1 = (0, 0) ∧ (tb_me 139).1.2.2.1 = 7 := by decide +kernel
theorem d140_0 : decode (tb_me 140).1.2.1 0 = .ok (.aload_n 0, 1) := by decide +kernel
theorem d140_1 : decode (tb_me 140).1.2.1 1 = .ok (.getfield 19, 3) := by decide +kernel
theorem k140_19 (b : Bool) : tb_lk b 140 19 = (1, 8, 2, 0, 0) := by cases b <;> decide +kernel
theorem d140_4 : decode (tb_me 140).1.2.1 4 = .ok (.iconst 3, 1) := by decide +kernel
theorem d140_5 : decode (tb_me 140).1.2.1 5 = .ok (.if_icmp .ne 15, 3) := by decide +kernel
theorem d140_20 : decode (tb_me 140).1.2.1 20 = .ok (.iconst 0, 1) := by decide +kernel
theorem d140_21 : decode (tb_me 140).1.2.1 21 = .ok (.ireturn, 1) := by decide +kernel
theorem t140 : (tb_me 140).1.2.2.2 = some .boolean := by decide +kernel
theorem d140_8 : decode (tb_me 140).1.2.1 8 = .ok (.aload_n 0, 1) := by decide +kernel
theorem d140_9 : decode (tb_me 140).1.2.1 9 = .ok (.getfield 31, 3) := by decide +kernel
theorem k140_31 (b : Bool) : tb_lk b 140 31 = (1, 8, 6, 0, 0) := by cases b <;> decide +kernel
theorem f8_6 : (6 < pm_nf tb_cl 8) ∧ tb_ft 8 6 ≠ .long ∧ pm_isR (tb_ft 8 6) = false := by decide +kernel
theorem d140_12 : decode (tb_me 140).1.2.1 12 = .ok (.iload_n 1, 1) := by decide +kernel
theorem d140_13 : decode (tb_me 140).1.2.1 13 = .ok (.if_icmp .ne 7, 3) := by decide +kernel
theorem d140_16 : decode (tb_me 140).1.2.1 16 = .ok (.iconst 1, 1) := by decide +kernel
theorem d140_17 : decode (tb_me 140).1.2.1 17 = .ok (.goto 4, 3) := by decide +kernel
theorem e140 : (tb_me 140).2.1 = (0, 0) ∧ (tb_me 140).1.2.2.1 = 2 := by decide +kernel
theorem d141_0 : decode (tb_me 141).1.2.1 0 = .ok (.aload_n 0, 1) := by decide +kernel
theorem d141_1 : decode (tb_me 141).1.2.1 1 = .ok (.iconst 1, 1) := by decide +kernel
theorem d141_2 : decode (tb_me 141).1.2.1 2 = .ok (.bipush 8, 2) := by decide +kernel
theorem d141_4 : decode (tb_me 141).1.2.1 4 = .ok (.iload_n 1, 1) := by decide +kernel
theorem d141_5 : decode (tb_me 141).1.2.1 5 = .ok (.imul, 1) := by decide +kernel
theorem d141_6 : decode (tb_me 141).1.2.1 6 = .ok (.iadd, 1) := by decide +kernel
theorem d141_7 : decode (tb_me 141).1.2.1 7 = .ok (.iload_n 2, 1) := by decide +kernel
theorem d141_8 : decode (tb_me 141).1.2.1 8 = .ok (.iadd, 1) := by decide +kernel
theorem d141_9 : decode (tb_me 141).1.2.1 9 = .ok (.putfield 34, 3) := by decide +kernel
theorem k141_34 (b : Bool) : tb_lk b 141 34 = (1, 8, 7, 0, 0) := by cases b <;> decide +kernel
theorem p141_8_7 : (7 < pm_nf tb_cl 8) ∧ tb_ft 8 7 = .int ∧ pm_fin tb_cl (tb_me 141).1.1 8 7 = true := by decide +kernel
theorem d141_12 : decode (tb_me 141).1.2.1 12 = .ok (.iconst 0, 1) := by decide +kernel
theorem d141_13 : decode (tb_me 141).1.2.1 13 = .ok (.ireturn, 1) := by decide +kernel
theorem t141 : (tb_me 141).1.2.2.2 = some .boolean := by decide +kernel
theorem e141 : (tb_me 141).2.1 = (0, 0) ∧ (tb_me 141).1.2.2.1 = 3 := by decide +kernel
theorem d142_20 : decode (tb_me 142).1.2.1 20 = .ok (.iload_n 0, 1) := by decide +kernel
theorem d142_21 : decode (tb_me 142).1.2.1 21 = .ok (.bipush 97, 2) := by decide +kernel
theorem d142_23 : decode (tb_me 142).1.2.1 23 = .ok (.if_icmp .lt 13, 3) := by decide +kernel
theorem d142_36 : decode (tb_me 142).1.2.1 36 = .ok (.iconst 3, 1) := by decide +kernel
theorem d142_37 : decode (tb_me 142).1.2.1 37 = .ok (.ireturn, 1) := by decide +kernel
theorem t142 : (tb_me 142).1.2.2.2 = some .int := by decide +kernel
theorem d142_26 : decode (tb_me 142).1.2.1 26 = .ok (.iload_n 0, 1) := by decide +kernel
theorem d142_27 : decode (tb_me 142).1.2.1 27 = .ok (.bipush 122, 2) := by decide +kernel
theorem d142_29 : decode (tb_me 142).1.2.1 29 = .ok (.if_icmp .gt 7, 3) := by decide +kernel
theorem d142_32 : decode (tb_me 142).1.2.1 32 = .ok (.iconst 2, 1) := by decide +kernel
theorem d142_33 : decode (tb_me 142).1.2.1 33 = .ok (.goto 4, 3) := by decide +kernel
theorem d142_0 : decode (tb_me 142).1.2.1 0 = .ok (.iload_n 0, 1) := by decide +kernel
theorem d142_1 : decode (tb_me 142).1.2.1 1 = .ok (.ifCond .ge 5, 3) := by decide +kernel
theorem d142_6 : decode (tb_me 142).1.2.1 6 = .ok (.iload_n 0, 1) := by decide +kernel
theorem d142_7 : decode (tb_me 142).1.2.1 7 = .ok (.bipush 48, 2) := by decide +kernel
theorem d142_9 : decode (tb_me 142).1.2.1 9 = .ok (.if_icmp .lt 11, 3) := by decide +kernel
theorem d142_12 : decode (tb_me 142).1.2.1 12 = .ok (.iload_n 0, 1) := by decide +kernel
theorem d142_13 : decode (tb_me 142).1.2.1 13 = .ok (.bipush 57, 2) := by decide +kernel
theorem d142_15 : decode (tb_me 142).1.2.1 15 = .ok (.if_icmp .gt 5, 3) := by decide +kernel
theorem d142_18 : decode (tb_me 142).1.2.1 18 = .ok (.iconst 1, 1) := by decide +kernel
theorem d142_19 : decode (tb_me 142).1.2.1 19 = .ok (.ireturn, 1) := by decide +kernel
theorem d142_4 : decode (tb_me 142).1.2.1 4 = .ok (.iconst 0, 1) := by decide +kernel
theorem d142_5 : decode (tb_me 142).1.2.1 5 = .ok (.ireturn, 1) := by decide +kernel
theorem e142 : (tb_me 142).2.1 = (0, 0) ∧ (tb_me 142).1.2.2.1 = 1 := by decide +kernel
theorem d127_0 : decode (tb_me 127).1.2.1 0 = .ok (.iload_n 1, 1) := by decide +kernel
theorem d127_1 : decode (tb_me 127).1.2.1 1 = .ok (.tableswitch 72 1 3 #[27, 42, 57], 27) := by decide +kernel
theorem d127_28 : decode (tb_me 127).1.2.1 28 = .ok (.aload_n 0, 1) := by decide +kernel
theorem d127_29 : decode (tb_me 127).1.2.1 29 = .ok (.getfield 15, 3) := by decide +kernel
theorem k127_15 (b : Bool) : tb_lk b 127 15 = (1, 7, 1, 0, 0) := by cases b <;> decide +kernel
theorem d127_32 : decode (tb_me 127).1.2.1 32 = .ok (.bipush 8, 2) := by decide +kernel
theorem d127_34 : decode (tb_me 127).1.2.1 34 = .ok (.if_icmp .lt 7, 3) := by decide +kernel
theorem d127_41 : decode (tb_me 127).1.2.1 41 = .ok (.iconst 0, 1) := by decide +kernel
theorem d127_42 : decode (tb_me 127).1.2.1 42 = .ok (.ireturn, 1) := by decide +kernel
theorem t127 : (tb_me 127).1.2.2.2 = some .boolean := by decide +kernel
theorem d127_37 : decode (tb_me 127).1.2.1 37 = .ok (.iconst 1, 1) := by decide +kernel
theorem d127_38 : decode (tb_me 127).1.2.1 38 = .ok (.goto 4, 3) := by decide +kernel
theorem d127_43 : decode (tb_me 127).1.2.1 43 = .ok (.aload_n 0, 1) := by decide +kernel
theorem d127_44 : decode (tb_me 127).1.2.1 44 = .ok (.getfield 18, 3) := by decide +kernel
theorem k127_18 (b : Bool) : tb_lk b 127 18 = (1, 7, 2, 0, 0) := by cases b <;> decide +kernel
theorem d127_47 : decode (tb_me 127).1.2.1 47 = .ok (.bipush 8, 2) := by decide +kernel
theorem d127_49 : decode (tb_me 127).1.2.1 49 = .ok (.if_icmp .lt 7, 3) := by decide +kernel
theorem d127_56 : decode (tb_me 127).1.2.1 56 = .ok (.iconst 0, 1) := by decide +kernel
theorem d127_57 : decode (tb_me 127).1.2.1 57 = .ok (.ireturn, 1) := by decide +kernel
theorem d127_52 : decode (tb_me 127).1.2.1 52 = .ok (.iconst 1, 1) := by decide +kernel
theorem d127_53 : decode (tb_me 127).1.2.1 53 = .ok (.goto 4, 3) := by decide +kernel
theorem d127_58 : decode (tb_me 127).1.2.1 58 = .ok (.aload_n 0, 1) := by decide +kernel
theorem d127_59 : decode (tb_me 127).1.2.1 59 = .ok (.getfield 21, 3) := by decide +kernel
theorem k127_21 (b : Bool) : tb_lk b 127 21 = (1, 7, 3, 0, 0) := by cases b <;> decide +kernel
theorem d127_62 : decode (tb_me 127).1.2.1 62 = .ok (.bipush 10, 2) := by decide +kernel
theorem d127_64 : decode (tb_me 127).1.2.1 64 = .ok (.if_icmp .lt 7, 3) := by decide +kernel
theorem d127_71 : decode (tb_me 127).1.2.1 71 = .ok (.iconst 0, 1) := by decide +kernel
theorem d127_72 : decode (tb_me 127).1.2.1 72 = .ok (.ireturn, 1) := by decide +kernel
theorem d127_67 : decode (tb_me 127).1.2.1 67 = .ok (.iconst 1, 1) := by decide +kernel
theorem d127_68 : decode (tb_me 127).1.2.1 68 = .ok (.goto 4, 3) := by decide +kernel
theorem d127_73 : decode (tb_me 127).1.2.1 73 = .ok (.iconst 0, 1) := by decide +kernel
theorem d127_74 : decode (tb_me 127).1.2.1 74 = .ok (.ireturn, 1) := by decide +kernel
theorem e127 : (tb_me 127).2.1 = (0, 0) ∧ (tb_me 127).1.2.2.1 = 2 := by decide +kernel
theorem d136_184 : decode (tb_me 136).1.2.1 184 = .ok (.aload_n 0, 1) := by decide +kernel
theorem d136_185 : decode (tb_me 136).1.2.1 185 = .ok (.iload_n 1, 1) := by decide +kernel
theorem d136_186 : decode (tb_me 136).1.2.1 186 = .ok (.putfield 25, 3) := by decide +kernel
theorem k136_25 (b : Bool) : tb_lk b 136 25 = (1, 8, 4, 0, 0) := by cases b <;> decide +kernel
theorem p136_8_4 : (4 < pm_nf tb_cl 8) ∧ tb_ft 8 4 = .int ∧ pm_fin tb_cl (tb_me 136).1.1 8 4 = true := by decide +kernel
theorem d136_189 : decode (tb_me 136).1.2.1 189 = .ok (.aload_n 0, 1) := by decide +kernel
theorem d136_190 : decode (tb_me 136).1.2.1 190 = .ok (.iload_n 1, 1) := by decide +kernel
theorem d136_191 : decode (tb_me 136).1.2.1 191 = .ok (.aload_n 0, 1) := by decide +kernel
theorem d136_192 : decode (tb_me 136).1.2.1 192 = .ok (.getfield 22, 3) := by decide +kernel
theorem k136_22 (b : Bool) : tb_lk b 136 22 = (1, 8, 3, 0, 0) := by cases b <;> decide +kernel
theorem d136_195 : decode (tb_me 136).1.2.1 195 = .ok (.isub, 1) := by decide +kernel
theorem d136_196 : decode (tb_me 136).1.2.1 196 = .ok (.putfield 28, 3) := by decide +kernel
theorem k136_28 (b : Bool) : tb_lk b 136 28 = (1, 8, 5, 0, 0) := by cases b <;> decide +kernel
theorem p136_8_5 : (5 < pm_nf tb_cl 8) ∧ tb_ft 8 5 = .int ∧ pm_fin tb_cl (tb_me 136).1.1 8 5 = true := by decide +kernel
theorem d136_199 : decode (tb_me 136).1.2.1 199 = .ok (.return_, 1) := by decide +kernel
theorem t136 : (tb_me 136).1.2.2.2 = none := by decide +kernel
theorem d136_117 : decode (tb_me 136).1.2.1 117 = .ok (.iload_n 1, 1) := by decide +kernel
theorem d136_118 : decode (tb_me 136).1.2.1 118 = .ok (.aload_n 0, 1) := by decide +kernel
theorem d136_119 : decode (tb_me 136).1.2.1 119 = .ok (.getfield 15, 3) := by decide +kernel
theorem k136_15 (b : Bool) : tb_lk b 136 15 = (1, 8, 1, 0, 0) := by cases b <;> decide +kernel
theorem d136_122 : decode (tb_me 136).1.2.1 122 = .ok (.if_icmp .ge 62, 3) := by decide +kernel
theorem d136_125 : decode (tb_me 136).1.2.1 125 = .ok (.aload_n 0, 1) := by decide +kernel
theorem d136_126 : decode (tb_me 136).1.2.1 126 = .ok (.iload_n 1, 1) := by decide +kernel
theorem d136_127 : decode (tb_me 136).1.2.1 127 = .ok (.invokevirtual 40, 3) := by decide +kernel
theorem k136_40 (b : Bool) : tb_lk b 136 40 = (2, 137, 0, 0, 0) := by cases b <;> decide +kernel
theorem d136_130 : decode (tb_me 136).1.2.1 130 = .ok (.invokestatic 44, 3) := by decide +kernel
theorem k136_44 (b : Bool) : tb_lk b 136 44 = (4, 142, 0, 0, 0) := by cases b <;> decide +kernel
theorem m142 : (tb_me 142).2 = ((0, 0), (1, 999)) ∧ (tb_me 142).1.2.2.1 = 1 := by decide +kernel
theorem d136_133 : decode (tb_me 136).1.2.1 133 = .ok (.aload_n 0, 1) := by decide +kernel
theorem d136_134 : decode (tb_me 136).1.2.1 134 = .ok (.getfield 19, 3) := by decide +kernel
theorem k136_19 (b : Bool) : tb_lk b 136 19 = (1, 8, 2, 0, 0) := by cases b <;> decide +kernel
theorem d136_137 : decode (tb_me 136).1.2.1 137 = .ok (.if_icmp .ne 47, 3) := by decide +kernel
theorem d136_140 : decode (tb_me 136).1.2.1 140 = .ok (.aload_n 0, 1) := by decide +kernel
theorem d136_141 : decode (tb_me 136).1.2.1 141 = .ok (.getfield 19, 3) := by decide +kernel
theorem d136_144 : decode (tb_me 136).1.2.1 144 = .ok (.iconst 1, 1) := by decide +kernel
theorem d136_145 : decode (tb_me 136).1.2.1 145 = .ok (.if_icmp .ne 33, 3) := by decide +kernel
theorem d136_178 : decode (tb_me 136).1.2.1 178 = .ok (.iinc 1 1, 3) := by decide +kernel
theorem d136_181 : decode (tb_me 136).1.2.1 181 = .ok (.goto (-64), 3) := by decide +kernel
theorem d136_148 : decode (tb_me 136).1.2.1 148 = .ok (.iload_n 1, 1) := by decide +kernel
theorem d136_149 : decode (tb_me 136).1.2.1 149 = .ok (.aload_n 0, 1) := by decide +kernel
theorem d136_150 : decode (tb_me 136).1.2.1 150 = .ok (.getfield 22, 3) := by decide +kernel
theorem d136_153 : decode (tb_me 136).1.2.1 153 = .ok (.isub, 1) := by decide +kernel
theorem d136_154 : decode (tb_me 136).1.2.1 154 = .ok (.iconst 5, 1) := by decide +kernel
theorem d136_155 : decode (tb_me 136).1.2.1 155 = .ok (.if_icmp .ge 23, 3) := by decide +kernel
theorem d136_158 : decode (tb_me 136).1.2.1 158 = .ok (.aload_n 0, 1) := by decide +kernel
theorem d136_159 : decode (tb_me 136).1.2.1 159 = .ok (.aload_n 0, 1) := by decide +kernel
theorem d136_160 : decode (tb_me 136).1.2.1 160 = .ok (.getfield 31, 3) := by decide +kernel
theorem k136_31 (b : Bool) : tb_lk b 136 31 = (1, 8, 6, 0, 0) := by cases b <;> decide +kernel
theorem d136_163 : decode (tb_me 136).1.2.1 163 = .ok (.bipush 10, 2) := by decide +kernel
theorem d136_165 : decode (tb_me 136).1.2.1 165 = .ok (.imul, 1) := by decide +kernel
theorem d136_166 : decode (tb_me 136).1.2.1 166 = .ok (.aload_n 0, 1) := by decide +kernel
theorem d136_167 : decode (tb_me 136).1.2.1 167 = .ok (.iload_n 1, 1) := by decide +kernel
theorem d136_168 : decode (tb_me 136).1.2.1 168 = .ok (.invokevirtual 40, 3) := by decide +kernel
theorem d136_171 : decode (tb_me 136).1.2.1 171 = .ok (.iadd, 1) := by decide +kernel
theorem d136_172 : decode (tb_me 136).1.2.1 172 = .ok (.bipush 48, 2) := by decide +kernel
theorem d136_174 : decode (tb_me 136).1.2.1 174 = .ok (.isub, 1) := by decide +kernel
theorem d136_175 : decode (tb_me 136).1.2.1 175 = .ok (.putfield 31, 3) := by decide +kernel
theorem p136_8_6 : (6 < pm_nf tb_cl 8) ∧ tb_ft 8 6 = .int ∧ pm_fin tb_cl (tb_me 136).1.1 8 6 = true := by decide +kernel
theorem d136_89 : decode (tb_me 136).1.2.1 89 = .ok (.aload_n 0, 1) := by decide +kernel
theorem d136_90 : decode (tb_me 136).1.2.1 90 = .ok (.iload_n 1, 1) := by decide +kernel
theorem d136_91 : decode (tb_me 136).1.2.1 91 = .ok (.invokevirtual 40, 3) := by decide +kernel
theorem d136_94 : decode (tb_me 136).1.2.1 94 = .ok (.bipush 61, 2) := by decide +kernel
theorem d136_96 : decode (tb_me 136).1.2.1 96 = .ok (.if_icmp .ne 88, 3) := by decide +kernel
theorem d136_99 : decode (tb_me 136).1.2.1 99 = .ok (.aload_n 0, 1) := by decide +kernel
theorem d136_100 : decode (tb_me 136).1.2.1 100 = .ok (.dup, 1) := by decide +kernel
theorem d136_101 : decode (tb_me 136).1.2.1 101 = .ok (.getfield 31, 3) := by decide +kernel
theorem d136_104 : decode (tb_me 136).1.2.1 104 = .ok (.sipush 256, 3) := by decide +kernel
theorem d136_107 : decode (tb_me 136).1.2.1 107 = .ok (.iadd, 1) := by decide +kernel
theorem d136_108 : decode (tb_me 136).1.2.1 108 = .ok (.putfield 31, 3) := by decide +kernel
theorem d136_111 : decode (tb_me 136).1.2.1 111 = .ok (.iinc 1 1, 3) := by decide +kernel
theorem d136_114 : decode (tb_me 136).1.2.1 114 = .ok (.goto 70, 3) := by decide +kernel
theorem d136_29 : decode (tb_me 136).1.2.1 29 = .ok (.aload_n 0, 1) := by decide +kernel
theorem d136_30 : decode (tb_me 136).1.2.1 30 = .ok (.iload_n 1, 1) := by decide +kernel
theorem d136_31 : decode (tb_me 136).1.2.1 31 = .ok (.putfield 22, 3) := by decide +kernel
theorem p136_8_3 : (3 < pm_nf tb_cl 8) ∧ tb_ft 8 3 = .int ∧ pm_fin tb_cl (tb_me 136).1.1 8 3 = true := by decide +kernel
theorem d136_34 : decode (tb_me 136).1.2.1 34 = .ok (.aload_n 0, 1) := by decide +kernel
theorem d136_35 : decode (tb_me 136).1.2.1 35 = .ok (.iconst 0, 1) := by decide +kernel
theorem d136_36 : decode (tb_me 136).1.2.1 36 = .ok (.putfield 31, 3) := by decide +kernel
theorem d136_39 : decode (tb_me 136).1.2.1 39 = .ok (.aload_n 0, 1) := by decide +kernel
theorem d136_40 : decode (tb_me 136).1.2.1 40 = .ok (.aload_n 0, 1) := by decide +kernel
theorem d136_41 : decode (tb_me 136).1.2.1 41 = .ok (.iload_n 1, 1) := by decide +kernel
theorem d136_42 : decode (tb_me 136).1.2.1 42 = .ok (.invokevirtual 40, 3) := by decide +kernel
theorem d136_45 : decode (tb_me 136).1.2.1 45 = .ok (.invokestatic 44, 3) := by decide +kernel
theorem d136_48 : decode (tb_me 136).1.2.1 48 = .ok (.putfield 19, 3) := by decide +kernel
theorem p136_8_2 : (2 < pm_nf tb_cl 8) ∧ tb_ft 8 2 = .int ∧ pm_fin tb_cl (tb_me 136).1.1 8 2 = true := by decide +kernel
theorem d136_51 : decode (tb_me 136).1.2.1 51 = .ok (.aload_n 0, 1) := by decide +kernel
theorem d136_52 : decode (tb_me 136).1.2.1 52 = .ok (.getfield 19, 3) := by decide +kernel
theorem d136_55 : decode (tb_me 136).1.2.1 55 = .ok (.iconst 3, 1) := by decide +kernel
theorem d136_56 : decode (tb_me 136).1.2.1 56 = .ok (.if_icmp .ne 61, 3) := by decide +kernel
theorem d136_59 : decode (tb_me 136).1.2.1 59 = .ok (.aload_n 0, 1) := by decide +kernel
theorem d136_60 : decode (tb_me 136).1.2.1 60 = .ok (.aload_n 0, 1) := by decide +kernel
theorem d136_61 : decode (tb_me 136).1.2.1 61 = .ok (.iload_n 1, 1) := by decide +kernel
theorem d136_62 : decode (tb_me 136).1.2.1 62 = .ok (.invokevirtual 40, 3) := by decide +kernel
theorem d136_65 : decode (tb_me 136).1.2.1 65 = .ok (.putfield 31, 3) := by decide +kernel
theorem d136_68 : decode (tb_me 136).1.2.1 68 = .ok (.iinc 1 1, 3) := by decide +kernel
theorem d136_71 : decode (tb_me 136).1.2.1 71 = .ok (.aload_n 0, 1) := by decide +kernel
theorem d136_72 : decode (tb_me 136).1.2.1 72 = .ok (.getfield 31, 3) := by decide +kernel
theorem d136_75 : decode (tb_me 136).1.2.1 75 = .ok (.bipush 60, 2) := by decide +kernel
theorem d136_77 : decode (tb_me 136).1.2.1 77 = .ok (.if_icmp .eq 12, 3) := by decide +kernel
theorem d136_80 : decode (tb_me 136).1.2.1 80 = .ok (.aload_n 0, 1) := by decide +kernel
theorem d136_81 : decode (tb_me 136).1.2.1 81 = .ok (.getfield 31, 3) := by decide +kernel
theorem d136_84 : decode (tb_me 136).1.2.1 84 = .ok (.bipush 62, 2) := by decide +kernel
theorem d136_86 : decode (tb_me 136).1.2.1 86 = .ok (.if_icmp .ne 98, 3) := by decide +kernel
theorem d136_5 : decode (tb_me 136).1.2.1 5 = .ok (.iload_n 1, 1) := by decide +kernel
theorem d136_6 : decode (tb_me 136).1.2.1 6 = .ok (.aload_n 0, 1) := by decide +kernel
theorem d136_7 : decode (tb_me 136).1.2.1 7 = .ok (.getfield 15, 3) := by decide +kernel
theorem d136_10 : decode (tb_me 136).1.2.1 10 = .ok (.if_icmp .ge 19, 3) := by decide +kernel
theorem d136_13 : decode (tb_me 136).1.2.1 13 = .ok (.aload_n 0, 1) := by decide +kernel
theorem d136_14 : decode (tb_me 136).1.2.1 14 = .ok (.iload_n 1, 1) := by decide +kernel
theorem d136_15 : decode (tb_me 136).1.2.1 15 = .ok (.invokevirtual 40, 3) := by decide +kernel
theorem d136_18 : decode (tb_me 136).1.2.1 18 = .ok (.bipush 32, 2) := by decide +kernel
theorem d136_20 : decode (tb_me 136).1.2.1 20 = .ok (.if_icmp .ne 9, 3) := by decide +kernel
theorem d136_23 : decode (tb_me 136).1.2.1 23 = .ok (.iinc 1 1, 3) := by decide +kernel
theorem d136_26 : decode (tb_me 136).1.2.1 26 = .ok (.goto (-21), 3) := by decide +kernel
theorem d136_0 : decode (tb_me 136).1.2.1 0 = .ok (.aload_n 0, 1) := by decide +kernel
theorem d136_1 : decode (tb_me 136).1.2.1 1 = .ok (.getfield 25, 3) := by decide +kernel
theorem f8_4 : (4 < pm_nf tb_cl 8) ∧ tb_ft 8 4 ≠ .long ∧ pm_isR (tb_ft 8 4) = false := by decide +kernel
theorem d136_4 : decode (tb_me 136).1.2.1 4 = .ok (.istore_n 1, 1) := by decide +kernel
theorem e136 : (tb_me 136).2.1 = (0, 0) ∧ (tb_me 136).1.2.2.1 = 2 := by decide +kernel
theorem d132_43 : decode (tb_me 132).1.2.1 43 = .ok (.aload_n 0, 1) := by decide +kernel
theorem d132_44 : decode (tb_me 132).1.2.1 44 = .ok (.aload_n 0, 1) := by decide +kernel
theorem d132_45 : decode (tb_me 132).1.2.1 45 = .ok (.getfield 105, 3) := by decide +kernel
theorem k132_105 (b : Bool) : tb_lk b 132 105 = (1, 8, 3, 0, 0) := by cases b <;> decide +kernel
theorem d132_48 : decode (tb_me 132).1.2.1 48 = .ok (.iconst 1, 1) := by decide +kernel
theorem d132_49 : decode (tb_me 132).1.2.1 49 = .ok (.invokevirtual 108, 3) := by decide +kernel
theorem k132_108 (b : Bool) : tb_lk b 132 108 = (2, 141, 0, 0, 0) := by cases b <;> decide +kernel
theorem m141 : (tb_me 141).2 = ((0, 0), (2, 8)) ∧ (tb_me 141).1.2.2.1 = 3 := by decide +kernel
theorem d132_52 : decode (tb_me 132).1.2.1 52 = .ok (.pop, 1) := by decide +kernel
theorem d132_53 : decode (tb_me 132).1.2.1 53 = .ok (.iconst (-1), 1) := by decide +kernel
theorem d132_54 : decode (tb_me 132).1.2.1 54 = .ok (.ireturn, 1) := by decide +kernel
theorem t132 : (tb_me 132).1.2.2.2 = some .int := by decide +kernel
theorem d132_0 : decode (tb_me 132).1.2.1 0 = .ok (.aload_n 0, 1) := by decide +kernel
theorem d132_1 : decode (tb_me 132).1.2.1 1 = .ok (.getfield 99, 3) := by decide +kernel
theorem k132_99 (b : Bool) : tb_lk b 132 99 = (1, 8, 2, 0, 0) := by cases b <;> decide +kernel
theorem d132_4 : decode (tb_me 132).1.2.1 4 = .ok (.iconst 1, 1) := by decide +kernel
theorem d132_5 : decode (tb_me 132).1.2.1 5 = .ok (.if_icmp .eq 15, 3) := by decide +kernel
theorem d132_20 : decode (tb_me 132).1.2.1 20 = .ok (.aload_n 0, 1) := by decide +kernel
theorem d132_21 : decode (tb_me 132).1.2.1 21 = .ok (.getfield 150, 3) := by decide +kernel
theorem k132_150 (b : Bool) : tb_lk b 132 150 = (1, 8, 6, 0, 0) := by cases b <;> decide +kernel
theorem d132_24 : decode (tb_me 132).1.2.1 24 = .ok (.istore_n 3, 1) := by decide +kernel
theorem d132_25 : decode (tb_me 132).1.2.1 25 = .ok (.aload_n 0, 1) := by decide +kernel
theorem d132_26 : decode (tb_me 132).1.2.1 26 = .ok (.getfield 140, 3) := by decide +kernel
theorem k132_140 (b : Bool) : tb_lk b 132 140 = (1, 8, 5, 0, 0) := by cases b <;> decide +kernel
theorem d132_29 : decode (tb_me 132).1.2.1 29 = .ok (.iconst 5, 1) := by decide +kernel
theorem d132_30 : decode (tb_me 132).1.2.1 30 = .ok (.if_icmp .gt 13, 3) := by decide +kernel
theorem d132_33 : decode (tb_me 132).1.2.1 33 = .ok (.iload_n 3, 1) := by decide +kernel
theorem d132_34 : decode (tb_me 132).1.2.1 34 = .ok (.iload_n 1, 1) := by decide +kernel
theorem d132_35 : decode (tb_me 132).1.2.1 35 = .ok (.if_icmp .lt 8, 3) := by decide +kernel
theorem d132_38 : decode (tb_me 132).1.2.1 38 = .ok (.iload_n 3, 1) := by decide +kernel
theorem d132_39 : decode (tb_me 132).1.2.1 39 = .ok (.iload_n 2, 1) := by decide +kernel
theorem d132_40 : decode (tb_me 132).1.2.1 40 = .ok (.if_icmp .le 15, 3) := by decide +kernel
theorem d132_55 : decode (tb_me 132).1.2.1 55 = .ok (.aload_n 0, 1) := by decide +kernel
theorem d132_56 : decode (tb_me 132).1.2.1 56 = .ok (.invokevirtual 111, 3) := by decide +kernel
theorem k132_111 (b : Bool) : tb_lk b 132 111 = (2, 136, 0, 0, 0) := by cases b <;> decide +kernel
theorem m136 : (tb_me 136).2 = ((0, 0), (0, 8)) ∧ (tb_me 136).1.2.2.1 = 2 := by decide +kernel
theorem d132_59 : decode (tb_me 132).1.2.1 59 = .ok (.iload_n 3, 1) := by decide +kernel
theorem d132_60 : decode (tb_me 132).1.2.1 60 = .ok (.ireturn, 1) := by decide +kernel
theorem d132_8 : decode (tb_me 132).1.2.1 8 = .ok (.aload_n 0, 1) := by decide +kernel
theorem d132_9 : decode (tb_me 132).1.2.1 9 = .ok (.aload_n 0, 1) := by decide +kernel
theorem d132_10 : decode (tb_me 132).1.2.1 10 = .ok (.getfield 105, 3) := by decide +kernel
theorem d132_13 : decode (tb_me 132).1.2.1 13 = .ok (.iconst 0, 1) := by decide +kernel
theorem d132_14 : decode (tb_me 132).1.2.1 14 = .ok (.invokevirtual 108, 3) := by decide +kernel
theorem d132_17 : decode (tb_me 132).1.2.1 17 = .ok (.pop, 1) := by decide +kernel
theorem d132_18 : decode (tb_me 132).1.2.1 18 = .ok (.iconst (-1), 1) := by decide +kernel
theorem d132_19 : decode (tb_me 132).1.2.1 19 = .ok (.ireturn, 1) := by decide +kernel
theorem e132 : (tb_me 132).2.1 = (0, 0) ∧ (tb_me 132).1.2.2.1 = 4 := by decide +kernel
theorem d135_0 : decode (tb_me 135).1.2.1 0 = .ok (.aload_n 0, 1) := by decide +kernel
theorem d135_1 : decode (tb_me 135).1.2.1 1 = .ok (.iconst 0, 1) := by decide +kernel
theorem d135_2 : decode (tb_me 135).1.2.1 2 = .ok (.putfield 34, 3) := by decide +kernel
theorem k135_34 (b : Bool) : tb_lk b 135 34 = (1, 8, 7, 0, 0) := by cases b <;> decide +kernel
theorem p135_8_7 : (7 < pm_nf tb_cl 8) ∧ tb_ft 8 7 = .int ∧ pm_fin tb_cl (tb_me 135).1.1 8 7 = true := by decide +kernel
theorem d135_5 : decode (tb_me 135).1.2.1 5 = .ok (.aload_n 0, 1) := by decide +kernel
theorem d135_6 : decode (tb_me 135).1.2.1 6 = .ok (.iconst 0, 1) := by decide +kernel
theorem d135_7 : decode (tb_me 135).1.2.1 7 = .ok (.putfield 25, 3) := by decide +kernel
theorem k135_25 (b : Bool) : tb_lk b 135 25 = (1, 8, 4, 0, 0) := by cases b <;> decide +kernel
theorem p135_8_4 : (4 < pm_nf tb_cl 8) ∧ tb_ft 8 4 = .int ∧ pm_fin tb_cl (tb_me 135).1.1 8 4 = true := by decide +kernel
theorem d135_10 : decode (tb_me 135).1.2.1 10 = .ok (.aload_n 0, 1) := by decide +kernel
theorem d135_11 : decode (tb_me 135).1.2.1 11 = .ok (.invokevirtual 37, 3) := by decide +kernel
theorem k135_37 (b : Bool) : tb_lk b 135 37 = (2, 136, 0, 0, 0) := by cases b <;> decide +kernel
theorem d135_14 : decode (tb_me 135).1.2.1 14 = .ok (.return_, 1) := by decide +kernel
theorem t135 : (tb_me 135).1.2.2.2 = none := by decide +kernel
theorem e135 : (tb_me 135).2.1 = (0, 0) ∧ (tb_me 135).1.2.2.1 = 1 := by decide +kernel
theorem d128_0 : decode (tb_me 128).1.2.1 0 = .ok (.aload_n 1, 1) := by decide +kernel
theorem d128_1 : decode (tb_me 128).1.2.1 1 = .ok (.iconst 1, 1) := by decide +kernel
theorem d128_2 : decode (tb_me 128).1.2.1 2 = .ok (.bipush 10, 2) := by decide +kernel
theorem d128_4 : decode (tb_me 128).1.2.1 4 = .ok (.invokestatic 136, 3) := by decide +kernel
theorem k128_136 (b : Bool) : tb_lk b 128 136 = (4, 132, 0, 0, 0) := by cases b <;> decide +kernel
theorem m132 : (tb_me 132).2 = ((0, 0), (3, 999)) ∧ (tb_me 132).1.2.2.1 = 4 := by decide +kernel
theorem d128_7 : decode (tb_me 128).1.2.1 7 = .ok (.istore_n 2, 1) := by decide +kernel
theorem d128_8 : decode (tb_me 128).1.2.1 8 = .ok (.iload_n 2, 1) := by decide +kernel
theorem d128_9 : decode (tb_me 128).1.2.1 9 = .ok (.ifCond .ge 5, 3) := by decide +kernel
theorem d128_14 : decode (tb_me 128).1.2.1 14 = .ok (.aload_n 0, 1) := by decide +kernel
theorem d128_15 : decode (tb_me 128).1.2.1 15 = .ok (.iload_n 2, 1) := by decide +kernel
theorem d128_16 : decode (tb_me 128).1.2.1 16 = .ok (.putfield 9, 3) := by decide +kernel
theorem k128_9 (b : Bool) : tb_lk b 128 9 = (1, 7, 0, 0, 0) := by cases b <;> decide +kernel
theorem p128_7_0 : (0 < pm_nf tb_cl 7) ∧ tb_ft 7 0 = .int ∧ pm_fin tb_cl (tb_me 128).1.1 7 0 = true := by decide +kernel
theorem d128_19 : decode (tb_me 128).1.2.1 19 = .ok (.iconst 1, 1) := by decide +kernel
theorem d128_20 : decode (tb_me 128).1.2.1 20 = .ok (.ireturn, 1) := by decide +kernel
theorem t128 : (tb_me 128).1.2.2.2 = some .boolean := by decide +kernel
theorem d128_12 : decode (tb_me 128).1.2.1 12 = .ok (.iconst 0, 1) := by decide +kernel
theorem d128_13 : decode (tb_me 128).1.2.1 13 = .ok (.ireturn, 1) := by decide +kernel
theorem e128 : (tb_me 128).2.1 = (0, 0) ∧ (tb_me 128).1.2.2.1 = 3 := by decide +kernel
theorem d129_26 : decode (tb_me 129).1.2.1 26 = .ok (.istore_n 3, 1) := by decide +kernel
theorem d129_27 : decode (tb_me 129).1.2.1 27 = .ok (.iload_n 3, 1) := by decide +kernel
theorem d129_28 : decode (tb_me 129).1.2.1 28 = .ok (.ifCond .lt 12, 3) := by decide +kernel
theorem d129_40 : decode (tb_me 129).1.2.1 40 = .ok (.iconst 0, 1) := by decide +kernel
theorem d129_41 : decode (tb_me 129).1.2.1 41 = .ok (.ireturn, 1) := by decide +kernel
theorem t129 : (tb_me 129).1.2.2.2 = some .boolean := by decide +kernel
theorem d129_31 : decode (tb_me 129).1.2.1 31 = .ok (.aload_n 0, 1) := by decide +kernel
theorem d129_32 : decode (tb_me 129).1.2.1 32 = .ok (.getfield 15, 3) := by decide +kernel
theorem k129_15 (b : Bool) : tb_lk b 129 15 = (1, 7, 1, 0, 0) := by cases b <;> decide +kernel
theorem d129_35 : decode (tb_me 129).1.2.1 35 = .ok (.bipush 8, 2) := by decide +kernel
theorem d129_37 : decode (tb_me 129).1.2.1 37 = .ok (.if_icmp .lt 5, 3) := by decide +kernel
theorem d129_42 : decode (tb_me 129).1.2.1 42 = .ok (.aload_n 0, 1) := by decide +kernel
theorem d129_43 : decode (tb_me 129).1.2.1 43 = .ok (.getfield 24, 3) := by decide +kernel
theorem k129_24 (b : Bool) : tb_lk b 129 24 = (1, 7, 4, 0, 0) := by cases b <;> decide +kernel
theorem d129_46 : decode (tb_me 129).1.2.1 46 = .ok (.aload_n 0, 1) := by decide +kernel
theorem d129_47 : decode (tb_me 129).1.2.1 47 = .ok (.getfield 15, 3) := by decide +kernel
theorem d129_50 : decode (tb_me 129).1.2.1 50 = .ok (.iload_n 2, 1) := by decide +kernel
theorem d129_51 : decode (tb_me 129).1.2.1 51 = .ok (.iastore, 1) := by decide +kernel
theorem d129_52 : decode (tb_me 129).1.2.1 52 = .ok (.aload_n 0, 1) := by decide +kernel
theorem d129_53 : decode (tb_me 129).1.2.1 53 = .ok (.getfield 28, 3) := by decide +kernel
theorem k129_28 (b : Bool) : tb_lk b 129 28 = (1, 7, 5, 0, 0) := by cases b <;> decide +kernel
theorem d129_56 : decode (tb_me 129).1.2.1 56 = .ok (.aload_n 0, 1) := by decide +kernel
theorem d129_57 : decode (tb_me 129).1.2.1 57 = .ok (.getfield 15, 3) := by decide +kernel
theorem d129_60 : decode (tb_me 129).1.2.1 60 = .ok (.iload_n 3, 1) := by decide +kernel
theorem d129_61 : decode (tb_me 129).1.2.1 61 = .ok (.iastore, 1) := by decide +kernel
theorem d129_62 : decode (tb_me 129).1.2.1 62 = .ok (.aload_n 0, 1) := by decide +kernel
theorem d129_63 : decode (tb_me 129).1.2.1 63 = .ok (.dup, 1) := by decide +kernel
theorem d129_64 : decode (tb_me 129).1.2.1 64 = .ok (.getfield 15, 3) := by decide +kernel
theorem d129_67 : decode (tb_me 129).1.2.1 67 = .ok (.iconst 1, 1) := by decide +kernel
theorem d129_68 : decode (tb_me 129).1.2.1 68 = .ok (.iadd, 1) := by decide +kernel
theorem d129_69 : decode (tb_me 129).1.2.1 69 = .ok (.putfield 15, 3) := by decide +kernel
theorem p129_7_1 : (1 < pm_nf tb_cl 7) ∧ tb_ft 7 1 = .int ∧ pm_fin tb_cl (tb_me 129).1.1 7 1 = true := by decide +kernel
theorem d129_72 : decode (tb_me 129).1.2.1 72 = .ok (.iconst 1, 1) := by decide +kernel
theorem d129_73 : decode (tb_me 129).1.2.1 73 = .ok (.ireturn, 1) := by decide +kernel
theorem d129_0 : decode (tb_me 129).1.2.1 0 = .ok (.aload_n 1, 1) := by decide +kernel
theorem d129_1 : decode (tb_me 129).1.2.1 1 = .ok (.iconst 0, 1) := by decide +kernel
theorem d129_2 : decode (tb_me 129).1.2.1 2 = .ok (.aload_n 0, 1) := by decide +kernel
theorem d129_3 : decode (tb_me 129).1.2.1 3 = .ok (.getfield 9, 3) := by decide +kernel
theorem k129_9 (b : Bool) : tb_lk b 129 9 = (1, 7, 0, 0, 0) := by cases b <;> decide +kernel
theorem d129_6 : decode (tb_me 129).1.2.1 6 = .ok (.iconst 1, 1) := by decide +kernel
theorem d129_7 : decode (tb_me 129).1.2.1 7 = .ok (.isub, 1) := by decide +kernel
theorem d129_8 : decode (tb_me 129).1.2.1 8 = .ok (.invokestatic 136, 3) := by decide +kernel
theorem k129_136 (b : Bool) : tb_lk b 129 136 = (4, 132, 0, 0, 0) := by cases b <;> decide +kernel
theorem d129_11 : decode (tb_me 129).1.2.1 11 = .ok (.istore_n 2, 1) := by decide +kernel
theorem d129_12 : decode (tb_me 129).1.2.1 12 = .ok (.iload_n 2, 1) := by decide +kernel
theorem d129_13 : decode (tb_me 129).1.2.1 13 = .ok (.ifCond .ge 7, 3) := by decide +kernel
theorem d129_20 : decode (tb_me 129).1.2.1 20 = .ok (.aload_n 1, 1) := by decide +kernel
theorem d129_21 : decode (tb_me 129).1.2.1 21 = .ok (.iconst 0, 1) := by decide +kernel
theorem d129_22 : decode (tb_me 129).1.2.1 22 = .ok (.iconst 2, 1) := by decide +kernel
theorem d129_23 : decode (tb_me 129).1.2.1 23 = .ok (.invokestatic 136, 3) := by decide +kernel
theorem d129_16 : decode (tb_me 129).1.2.1 16 = .ok (.iconst (-1), 1) := by decide +kernel
theorem d129_17 : decode (tb_me 129).1.2.1 17 = .ok (.goto 9, 3) := by decide +kernel
theorem e129 : (tb_me 129).2.1 = (0, 0) ∧ (tb_me 129).1.2.2.1 = 4 := by decide +kernel
theorem d130_64 : decode (tb_me 130).1.2.1 64 = .ok (.iload 4, 2) := by decide +kernel
theorem d130_66 : decode (tb_me 130).1.2.1 66 = .ok (.iload_n 3, 1) := by decide +kernel
theorem d130_67 : decode (tb_me 130).1.2.1 67 = .ok (.if_icmp .ge 63, 3) := by decide +kernel
theorem d130_70 : decode (tb_me 130).1.2.1 70 = .ok (.aload_n 1, 1) := by decide +kernel
theorem d130_71 : decode (tb_me 130).1.2.1 71 = .ok (.aload_n 1, 1) := by decide +kernel
theorem d130_72 : decode (tb_me 130).1.2.1 72 = .ok (.getfield 105, 3) := by decide +kernel
theorem k130_105 (b : Bool) : tb_lk b 130 105 = (1, 8, 3, 0, 0) := by cases b <;> decide +kernel
theorem d130_75 : decode (tb_me 130).1.2.1 75 = .ok (.iload 4, 2) := by decide +kernel
theorem d130_77 : decode (tb_me 130).1.2.1 77 = .ok (.iadd, 1) := by decide +kernel
theorem d130_78 : decode (tb_me 130).1.2.1 78 = .ok (.invokevirtual 143, 3) := by decide +kernel
theorem k130_143 (b : Bool) : tb_lk b 130 143 = (2, 137, 0, 0, 0) := by cases b <;> decide +kernel
theorem d130_81 : decode (tb_me 130).1.2.1 81 = .ok (.bipush 48, 2) := by decide +kernel
theorem d130_83 : decode (tb_me 130).1.2.1 83 = .ok (.isub, 1) := by decide +kernel
theorem d130_84 : decode (tb_me 130).1.2.1 84 = .ok (.istore 5, 2) := by decide +kernel
theorem d130_86 : decode (tb_me 130).1.2.1 86 = .ok (.aload_n 0, 1) := by decide +kernel
theorem d130_87 : decode (tb_me 130).1.2.1 87 = .ok (.iload 5, 2) := by decide +kernel
theorem d130_89 : decode (tb_me 130).1.2.1 89 = .ok (.invokevirtual 147, 3) := by decide +kernel
theorem k130_147 (b : Bool) : tb_lk b 130 147 = (2, 111, 0, 0, 0) := by cases b <;> decide +kernel
theorem m111 : (tb_me 111).2 = ((0, 0), (1, 7)) ∧ (tb_me 111).1.2.2.1 = 2 := by decide +kernel
theorem d130_92 : decode (tb_me 130).1.2.1 92 = .ok (.ifCond .ne 16, 3) := by decide +kernel
theorem d130_108 : decode (tb_me 130).1.2.1 108 = .ok (.aload_n 0, 1) := by decide +kernel
theorem d130_109 : decode (tb_me 130).1.2.1 109 = .ok (.getfield 37, 3) := by decide +kernel
theorem k130_37 (b : Bool) : tb_lk b 130 37 = (1, 7, 8, 0, 0) := by cases b <;> decide +kernel
theorem d130_112 : decode (tb_me 130).1.2.1 112 = .ok (.aload_n 0, 1) := by decide +kernel
theorem d130_113 : decode (tb_me 130).1.2.1 113 = .ok (.getfield 18, 3) := by decide +kernel
theorem k130_18 (b : Bool) : tb_lk b 130 18 = (1, 7, 2, 0, 0) := by cases b <;> decide +kernel
theorem d130_116 : decode (tb_me 130).1.2.1 116 = .ok (.iconst 4, 1) := by decide +kernel
theorem d130_117 : decode (tb_me 130).1.2.1 117 = .ok (.imul, 1) := by decide +kernel
theorem d130_118 : decode (tb_me 130).1.2.1 118 = .ok (.iload 4, 2) := by decide +kernel
theorem d130_120 : decode (tb_me 130).1.2.1 120 = .ok (.iadd, 1) := by decide +kernel
theorem d130_121 : decode (tb_me 130).1.2.1 121 = .ok (.iload 5, 2) := by decide +kernel
theorem d130_123 : decode (tb_me 130).1.2.1 123 = .ok (.iastore, 1) := by decide +kernel
theorem d130_124 : decode (tb_me 130).1.2.1 124 = .ok (.iinc 4 1, 3) := by decide +kernel
theorem d130_127 : decode (tb_me 130).1.2.1 127 = .ok (.goto (-63), 3) := by decide +kernel
theorem d130_0 : decode (tb_me 130).1.2.1 0 = .ok (.aload_n 1, 1) := by decide +kernel
theorem d130_1 : decode (tb_me 130).1.2.1 1 = .ok (.iconst 0, 1) := by decide +kernel
theorem d130_2 : decode (tb_me 130).1.2.1 2 = .ok (.bipush 99, 2) := by decide +kernel
theorem d130_4 : decode (tb_me 130).1.2.1 4 = .ok (.invokestatic 136, 3) := by decide +kernel
theorem k130_136 (b : Bool) : tb_lk b 130 136 = (4, 132, 0, 0, 0) := by cases b <;> decide +kernel
theorem d130_7 : decode (tb_me 130).1.2.1 7 = .ok (.istore_n 2, 1) := by decide +kernel
theorem d130_8 : decode (tb_me 130).1.2.1 8 = .ok (.iload_n 2, 1) := by decide +kernel
theorem d130_9 : decode (tb_me 130).1.2.1 9 = .ok (.ifCond .lt 12, 3) := by decide +kernel
theorem d130_21 : decode (tb_me 130).1.2.1 21 = .ok (.iconst 0, 1) := by decide +kernel
theorem d130_22 : decode (tb_me 130).1.2.1 22 = .ok (.ireturn, 1) := by decide +kernel
theorem t130 : (tb_me 130).1.2.2.2 = some .boolean := by decide +kernel
theorem d130_12 : decode (tb_me 130).1.2.1 12 = .ok (.aload_n 0, 1) := by decide +kernel
theorem d130_13 : decode (tb_me 130).1.2.1 13 = .ok (.getfield 18, 3) := by decide +kernel
theorem d130_16 : decode (tb_me 130).1.2.1 16 = .ok (.bipush 8, 2) := by decide +kernel
theorem d130_18 : decode (tb_me 130).1.2.1 18 = .ok (.if_icmp .lt 5, 3) := by decide +kernel
theorem d130_23 : decode (tb_me 130).1.2.1 23 = .ok (.aload_n 1, 1) := by decide +kernel
theorem d130_24 : decode (tb_me 130).1.2.1 24 = .ok (.getfield 99, 3) := by decide +kernel
theorem k130_99 (b : Bool) : tb_lk b 130 99 = (1, 8, 2, 0, 0) := by cases b <;> decide +kernel
theorem d130_27 : decode (tb_me 130).1.2.1 27 = .ok (.iconst 1, 1) := by decide +kernel
theorem d130_28 : decode (tb_me 130).1.2.1 28 = .ok (.if_icmp .eq 13, 3) := by decide +kernel
theorem d130_41 : decode (tb_me 130).1.2.1 41 = .ok (.aload_n 1, 1) := by decide +kernel
theorem d130_42 : decode (tb_me 130).1.2.1 42 = .ok (.getfield 140, 3) := by decide +kernel
theorem k130_140 (b : Bool) : tb_lk b 130 140 = (1, 8, 5, 0, 0) := by cases b <;> decide +kernel
theorem d130_45 : decode (tb_me 130).1.2.1 45 = .ok (.istore_n 3, 1) := by decide +kernel
theorem d130_46 : decode (tb_me 130).1.2.1 46 = .ok (.iload_n 3, 1) := by decide +kernel
theorem d130_47 : decode (tb_me 130).1.2.1 47 = .ok (.iconst 4, 1) := by decide +kernel
theorem d130_48 : decode (tb_me 130).1.2.1 48 = .ok (.if_icmp .le 13, 3) := by decide +kernel
theorem d130_61 : decode (tb_me 130).1.2.1 61 = .ok (.iconst 0, 1) := by decide +kernel
theorem d130_62 : decode (tb_me 130).1.2.1 62 = .ok (.istore 4, 2) := by decide +kernel
theorem d130_95 : decode (tb_me 130).1.2.1 95 = .ok (.aload_n 1, 1) := by decide +kernel
theorem d130_96 : decode (tb_me 130).1.2.1 96 = .ok (.aload_n 1, 1) := by decide +kernel
theorem d130_97 : decode (tb_me 130).1.2.1 97 = .ok (.getfield 105, 3) := by decide +kernel
theorem d130_100 : decode (tb_me 130).1.2.1 100 = .ok (.iload 4, 2) := by decide +kernel
theorem d130_102 : decode (tb_me 130).1.2.1 102 = .ok (.iadd, 1) := by decide +kernel
theorem d130_103 : decode (tb_me 130).1.2.1 103 = .ok (.iconst 1, 1) := by decide +kernel
theorem d130_104 : decode (tb_me 130).1.2.1 104 = .ok (.invokevirtual 108, 3) := by decide +kernel
theorem k130_108 (b : Bool) : tb_lk b 130 108 = (2, 141, 0, 0, 0) := by cases b <;> decide +kernel
theorem d130_107 : decode (tb_me 130).1.2.1 107 = .ok (.ireturn, 1) := by decide +kernel
theorem d130_130 : decode (tb_me 130).1.2.1 130 = .ok (.aload_n 0, 1) := by decide +kernel
theorem d130_131 : decode (tb_me 130).1.2.1 131 = .ok (.getfield 31, 3) := by decide +kernel
theorem k130_31 (b : Bool) : tb_lk b 130 31 = (1, 7, 6, 0, 0) := by cases b <;> decide +kernel
theorem f7_6 : (6 < pm_nf tb_cl 7) ∧ tb_ft 7 6 ≠ .long ∧ pm_isR (tb_ft 7 6) = true := by decide +kernel
theorem d130_134 : decode (tb_me 130).1.2.1 134 = .ok (.aload_n 0, 1) := by decide +kernel
theorem d130_135 : decode (tb_me 130).1.2.1 135 = .ok (.getfield 18, 3) := by decide +kernel
theorem d130_138 : decode (tb_me 130).1.2.1 138 = .ok (.iload_n 2, 1) := by decide +kernel
theorem d130_139 : decode (tb_me 130).1.2.1 139 = .ok (.iastore, 1) := by decide +kernel
theorem d130_140 : decode (tb_me 130).1.2.1 140 = .ok (.aload_n 0, 1) := by decide +kernel
theorem d130_141 : decode (tb_me 130).1.2.1 141 = .ok (.getfield 34, 3) := by decide +kernel
theorem k130_34 (b : Bool) : tb_lk b 130 34 = (1, 7, 7, 0, 0) := by cases b <;> decide +kernel
theorem d130_144 : decode (tb_me 130).1.2.1 144 = .ok (.aload_n 0, 1) := by decide +kernel
theorem d130_145 : decode (tb_me 130).1.2.1 145 = .ok (.getfield 18, 3) := by decide +kernel
theorem d130_148 : decode (tb_me 130).1.2.1 148 = .ok (.iload_n 3, 1) := by decide +kernel
theorem d130_149 : decode (tb_me 130).1.2.1 149 = .ok (.iastore, 1) := by decide +kernel
theorem d130_150 : decode (tb_me 130).1.2.1 150 = .ok (.aload_n 0, 1) := by decide +kernel
theorem d130_151 : decode (tb_me 130).1.2.1 151 = .ok (.dup, 1) := by decide +kernel
theorem d130_152 : decode (tb_me 130).1.2.1 152 = .ok (.getfield 18, 3) := by decide +kernel
theorem d130_155 : decode (tb_me 130).1.2.1 155 = .ok (.iconst 1, 1) := by decide +kernel
theorem d130_156 : decode (tb_me 130).1.2.1 156 = .ok (.iadd, 1) := by decide +kernel
theorem d130_157 : decode (tb_me 130).1.2.1 157 = .ok (.putfield 18, 3) := by decide +kernel
theorem p130_7_2 : (2 < pm_nf tb_cl 7) ∧ tb_ft 7 2 = .int ∧ pm_fin tb_cl (tb_me 130).1.1 7 2 = true := by decide +kernel
theorem d130_160 : decode (tb_me 130).1.2.1 160 = .ok (.aload_n 1, 1) := by decide +kernel
theorem d130_161 : decode (tb_me 130).1.2.1 161 = .ok (.invokevirtual 111, 3) := by decide +kernel
theorem k130_111 (b : Bool) : tb_lk b 130 111 = (2, 136, 0, 0, 0) := by cases b <;> decide +kernel
theorem d130_164 : decode (tb_me 130).1.2.1 164 = .ok (.iconst 1, 1) := by decide +kernel
theorem d130_165 : decode (tb_me 130).1.2.1 165 = .ok (.ireturn, 1) := by decide +kernel
theorem d130_51 : decode (tb_me 130).1.2.1 51 = .ok (.aload_n 1, 1) := by decide +kernel
theorem d130_52 : decode (tb_me 130).1.2.1 52 = .ok (.aload_n 1, 1) := by decide +kernel
theorem d130_53 : decode (tb_me 130).1.2.1 53 = .ok (.getfield 105, 3) := by decide +kernel
theorem d130_56 : decode (tb_me 130).1.2.1 56 = .ok (.iconst 1, 1) := by decide +kernel
theorem d130_57 : decode (tb_me 130).1.2.1 57 = .ok (.invokevirtual 108, 3) := by decide +kernel
theorem d130_60 : decode (tb_me 130).1.2.1 60 = .ok (.ireturn, 1) := by decide +kernel
theorem d130_31 : decode (tb_me 130).1.2.1 31 = .ok (.aload_n 1, 1) := by decide +kernel
theorem d130_32 : decode (tb_me 130).1.2.1 32 = .ok (.aload_n 1, 1) := by decide +kernel
theorem d130_33 : decode (tb_me 130).1.2.1 33 = .ok (.getfield 105, 3) := by decide +kernel
theorem d130_36 : decode (tb_me 130).1.2.1 36 = .ok (.iconst 0, 1) := by decide +kernel
theorem d130_37 : decode (tb_me 130).1.2.1 37 = .ok (.invokevirtual 108, 3) := by decide +kernel
theorem d130_40 : decode (tb_me 130).1.2.1 40 = .ok (.ireturn, 1) := by decide +kernel
theorem e130 : (tb_me 130).2.1 = (0, 0) ∧ (tb_me 130).1.2.2.1 = 6 := by decide +kernel
theorem d131_0 : decode (tb_me 131).1.2.1 0 = .ok (.aload_n 1, 1) := by decide +kernel
theorem d131_1 : decode (tb_me 131).1.2.1 1 = .ok (.iconst 0, 1) := by decide +kernel
theorem d131_2 : decode (tb_me 131).1.2.1 2 = .ok (.aload_n 0, 1) := by decide +kernel
theorem d131_3 : decode (tb_me 131).1.2.1 3 = .ok (.getfield 9, 3) := by decide +kernel
theorem k131_9 (b : Bool) : tb_lk b 131 9 = (1, 7, 0, 0, 0) := by cases b <;> decide +kernel
theorem d131_6 : decode (tb_me 131).1.2.1 6 = .ok (.iconst 1, 1) := by decide +kernel
theorem d131_7 : decode (tb_me 131).1.2.1 7 = .ok (.isub, 1) := by decide +kernel
theorem d131_8 : decode (tb_me 131).1.2.1 8 = .ok (.invokestatic 136, 3) := by decide +kernel
theorem k131_136 (b : Bool) : tb_lk b 131 136 = (4, 132, 0, 0, 0) := by cases b <;> decide +kernel
theorem d131_11 : decode (tb_me 131).1.2.1 11 = .ok (.istore_n 2, 1) := by decide +kernel
theorem d131_12 : decode (tb_me 131).1.2.1 12 = .ok (.iload_n 2, 1) := by decide +kernel
theorem d131_13 : decode (tb_me 131).1.2.1 13 = .ok (.ifCond .ge 5, 3) := by decide +kernel
theorem d131_18 : decode (tb_me 131).1.2.1 18 = .ok (.aload_n 1, 1) := by decide +kernel
theorem d131_19 : decode (tb_me 131).1.2.1 19 = .ok (.getfield 105, 3) := by decide +kernel
theorem k131_105 (b : Bool) : tb_lk b 131 105 = (1, 8, 3, 0, 0) := by cases b <;> decide +kernel
theorem d131_22 : decode (tb_me 131).1.2.1 22 = .ok (.istore_n 3, 1) := by decide +kernel
theorem d131_23 : decode (tb_me 131).1.2.1 23 = .ok (.aload_n 1, 1) := by decide +kernel
theorem d131_24 : decode (tb_me 131).1.2.1 24 = .ok (.iconst 0, 1) := by decide +kernel
theorem d131_25 : decode (tb_me 131).1.2.1 25 = .ok (.aload_n 0, 1) := by decide +kernel
theorem d131_26 : decode (tb_me 131).1.2.1 26 = .ok (.getfield 9, 3) := by decide +kernel
theorem d131_29 : decode (tb_me 131).1.2.1 29 = .ok (.iconst 1, 1) := by decide +kernel
theorem d131_30 : decode (tb_me 131).1.2.1 30 = .ok (.isub, 1) := by decide +kernel
theorem d131_31 : decode (tb_me 131).1.2.1 31 = .ok (.invokestatic 136, 3) := by decide +kernel
theorem d131_34 : decode (tb_me 131).1.2.1 34 = .ok (.istore 4, 2) := by decide +kernel
theorem d131_36 : decode (tb_me 131).1.2.1 36 = .ok (.iload 4, 2) := by decide +kernel
theorem d131_38 : decode (tb_me 131).1.2.1 38 = .ok (.ifCond .ge 5, 3) := by decide +kernel
theorem d131_43 : decode (tb_me 131).1.2.1 43 = .ok (.aload_n 0, 1) := by decide +kernel
theorem d131_44 : decode (tb_me 131).1.2.1 44 = .ok (.iload_n 2, 1) := by decide +kernel
theorem d131_45 : decode (tb_me 131).1.2.1 45 = .ok (.iload 4, 2) := by decide +kernel
theorem d131_47 : decode (tb_me 131).1.2.1 47 = .ok (.invokevirtual 70, 3) := by decide +kernel
theorem k131_70 (b : Bool) : tb_lk b 131 70 = (2, 117, 0, 0, 0) := by cases b <;> decide +kernel
theorem d131_50 : decode (tb_me 131).1.2.1 50 = .ok (.ifCond .lt 10, 3) := by decide +kernel
theorem d131_60 : decode (tb_me 131).1.2.1 60 = .ok (.aload_n 1, 1) := by decide +kernel
theorem d131_61 : decode (tb_me 131).1.2.1 61 = .ok (.iconst 0, 1) := by decide +kernel
theorem d131_62 : decode (tb_me 131).1.2.1 62 = .ok (.aload_n 0, 1) := by decide +kernel
theorem d131_63 : decode (tb_me 131).1.2.1 63 = .ok (.getfield 9, 3) := by decide +kernel
theorem d131_66 : decode (tb_me 131).1.2.1 66 = .ok (.iconst 1, 1) := by decide +kernel
theorem d131_67 : decode (tb_me 131).1.2.1 67 = .ok (.isub, 1) := by decide +kernel
theorem d131_68 : decode (tb_me 131).1.2.1 68 = .ok (.invokestatic 136, 3) := by decide +kernel
theorem d131_71 : decode (tb_me 131).1.2.1 71 = .ok (.istore 5, 2) := by decide +kernel
theorem d131_73 : decode (tb_me 131).1.2.1 73 = .ok (.iload 5, 2) := by decide +kernel
theorem d131_75 : decode (tb_me 131).1.2.1 75 = .ok (.ifCond .lt 12, 3) := by decide +kernel
theorem d131_87 : decode (tb_me 131).1.2.1 87 = .ok (.iconst 0, 1) := by decide +kernel
theorem d131_88 : decode (tb_me 131).1.2.1 88 = .ok (.ireturn, 1) := by decide +kernel
theorem t131 : (tb_me 131).1.2.2.2 = some .boolean := by decide +kernel
theorem d131_78 : decode (tb_me 131).1.2.1 78 = .ok (.aload_n 0, 1) := by decide +kernel
theorem d131_79 : decode (tb_me 131).1.2.1 79 = .ok (.getfield 21, 3) := by decide +kernel
theorem k131_21 (b : Bool) : tb_lk b 131 21 = (1, 7, 3, 0, 0) := by cases b <;> decide +kernel
theorem d131_82 : decode (tb_me 131).1.2.1 82 = .ok (.bipush 10, 2) := by decide +kernel
theorem d131_84 : decode (tb_me 131).1.2.1 84 = .ok (.if_icmp .lt 5, 3) := by decide +kernel
theorem d131_89 : decode (tb_me 131).1.2.1 89 = .ok (.aload_n 0, 1) := by decide +kernel
theorem d131_90 : decode (tb_me 131).1.2.1 90 = .ok (.getfield 40, 3) := by decide +kernel
theorem k131_40 (b : Bool) : tb_lk b 131 40 = (1, 7, 9, 0, 0) := by cases b <;> decide +kernel
theorem d131_93 : decode (tb_me 131).1.2.1 93 = .ok (.aload_n 0, 1) := by decide +kernel
theorem d131_94 : decode (tb_me 131).1.2.1 94 = .ok (.getfield 21, 3) := by decide +kernel
theorem d131_97 : decode (tb_me 131).1.2.1 97 = .ok (.iload_n 2, 1) := by decide +kernel
theorem d131_98 : decode (tb_me 131).1.2.1 98 = .ok (.iastore, 1) := by decide +kernel
theorem d131_99 : decode (tb_me 131).1.2.1 99 = .ok (.aload_n 0, 1) := by decide +kernel
theorem d131_100 : decode (tb_me 131).1.2.1 100 = .ok (.getfield 43, 3) := by decide +kernel
theorem k131_43 (b : Bool) : tb_lk b 131 43 = (1, 7, 10, 0, 0) := by cases b <;> decide +kernel
theorem f7_10 : (10 < pm_nf tb_cl 7) ∧ tb_ft 7 10 ≠ .long ∧ pm_isR (tb_ft 7 10) = true := by decide +kernel
theorem d131_103 : decode (tb_me 131).1.2.1 103 = .ok (.aload_n 0, 1) := by decide +kernel
theorem d131_104 : decode (tb_me 131).1.2.1 104 = .ok (.getfield 21, 3) := by decide +kernel
theorem d131_107 : decode (tb_me 131).1.2.1 107 = .ok (.iload 4, 2) := by decide +kernel
theorem d131_109 : decode (tb_me 131).1.2.1 109 = .ok (.iastore, 1) := by decide +kernel
theorem d131_110 : decode (tb_me 131).1.2.1 110 = .ok (.aload_n 0, 1) := by decide +kernel
theorem d131_111 : decode (tb_me 131).1.2.1 111 = .ok (.getfield 46, 3) := by decide +kernel
theorem k131_46 (b : Bool) : tb_lk b 131 46 = (1, 7, 11, 0, 0) := by cases b <;> decide +kernel
theorem d131_114 : decode (tb_me 131).1.2.1 114 = .ok (.aload_n 0, 1) := by decide +kernel
theorem d131_115 : decode (tb_me 131).1.2.1 115 = .ok (.getfield 21, 3) := by decide +kernel
theorem d131_118 : decode (tb_me 131).1.2.1 118 = .ok (.iload 5, 2) := by decide +kernel
theorem d131_120 : decode (tb_me 131).1.2.1 120 = .ok (.iastore, 1) := by decide +kernel
theorem d131_121 : decode (tb_me 131).1.2.1 121 = .ok (.aload_n 0, 1) := by decide +kernel
theorem d131_122 : decode (tb_me 131).1.2.1 122 = .ok (.getfield 49, 3) := by decide +kernel
theorem k131_49 (b : Bool) : tb_lk b 131 49 = (1, 7, 12, 0, 0) := by cases b <;> decide +kernel
theorem d131_125 : decode (tb_me 131).1.2.1 125 = .ok (.iload_n 2, 1) := by decide +kernel
theorem d131_126 : decode (tb_me 131).1.2.1 126 = .ok (.bipush 10, 2) := by decide +kernel
theorem d131_128 : decode (tb_me 131).1.2.1 128 = .ok (.imul, 1) := by decide +kernel
theorem d131_129 : decode (tb_me 131).1.2.1 129 = .ok (.iload 4, 2) := by decide +kernel
theorem d131_131 : decode (tb_me 131).1.2.1 131 = .ok (.iadd, 1) := by decide +kernel
theorem d131_132 : decode (tb_me 131).1.2.1 132 = .ok (.iload 5, 2) := by decide +kernel
theorem d131_134 : decode (tb_me 131).1.2.1 134 = .ok (.iastore, 1) := by decide +kernel
theorem d131_135 : decode (tb_me 131).1.2.1 135 = .ok (.aload_n 0, 1) := by decide +kernel
theorem d131_136 : decode (tb_me 131).1.2.1 136 = .ok (.dup, 1) := by decide +kernel
theorem d131_137 : decode (tb_me 131).1.2.1 137 = .ok (.getfield 21, 3) := by decide +kernel
theorem d131_140 : decode (tb_me 131).1.2.1 140 = .ok (.iconst 1, 1) := by decide +kernel
theorem d131_141 : decode (tb_me 131).1.2.1 141 = .ok (.iadd, 1) := by decide +kernel
theorem d131_142 : decode (tb_me 131).1.2.1 142 = .ok (.putfield 21, 3) := by decide +kernel
theorem p131_7_3 : (3 < pm_nf tb_cl 7) ∧ tb_ft 7 3 = .int ∧ pm_fin tb_cl (tb_me 131).1.1 7 3 = true := by decide +kernel
theorem d131_145 : decode (tb_me 131).1.2.1 145 = .ok (.iconst 1, 1) := by decide +kernel
theorem d131_146 : decode (tb_me 131).1.2.1 146 = .ok (.ireturn, 1) := by decide +kernel
theorem d131_53 : decode (tb_me 131).1.2.1 53 = .ok (.aload_n 1, 1) := by decide +kernel
theorem d131_54 : decode (tb_me 131).1.2.1 54 = .ok (.iload_n 3, 1) := by decide +kernel
theorem d131_55 : decode (tb_me 131).1.2.1 55 = .ok (.iconst 1, 1) := by decide +kernel
theorem d131_56 : decode (tb_me 131).1.2.1 56 = .ok (.invokevirtual 108, 3) := by decide +kernel
theorem k131_108 (b : Bool) : tb_lk b 131 108 = (2, 141, 0, 0, 0) := by cases b <;> decide +kernel
theorem d131_59 : decode (tb_me 131).1.2.1 59 = .ok (.ireturn, 1) := by decide +kernel
theorem d131_41 : decode (tb_me 131).1.2.1 41 = .ok (.iconst 0, 1) := by decide +kernel
theorem d131_42 : decode (tb_me 131).1.2.1 42 = .ok (.ireturn, 1) := by decide +kernel
theorem d131_16 : decode (tb_me 131).1.2.1 16 = .ok (.iconst 0, 1) := by decide +kernel
theorem d131_17 : decode (tb_me 131).1.2.1 17 = .ok (.ireturn, 1) := by decide +kernel
theorem e131 : (tb_me 131).2.1 = (0, 0) ∧ (tb_me 131).1.2.2.1 = 6 := by decide +kernel
theorem d126_68 : decode (tb_me 126).1.2.1 68 = .ok (.aload_n 1, 1) := by decide +kernel
theorem d126_69 : decode (tb_me 126).1.2.1 69 = .ok (.aload_n 1, 1) := by decide +kernel
theorem d126_70 : decode (tb_me 126).1.2.1 70 = .ok (.getfield 105, 3) := by decide +kernel
theorem k126_105 (b : Bool) : tb_lk b 126 105 = (1, 8, 3, 0, 0) := by cases b <;> decide +kernel
theorem d126_73 : decode (tb_me 126).1.2.1 73 = .ok (.iconst 4, 1) := by decide +kernel
theorem d126_74 : decode (tb_me 126).1.2.1 74 = .ok (.invokevirtual 108, 3) := by decide +kernel
theorem k126_108 (b : Bool) : tb_lk b 126 108 = (2, 141, 0, 0, 0) := by cases b <;> decide +kernel
theorem d126_77 : decode (tb_me 126).1.2.1 77 = .ok (.ireturn, 1) := by decide +kernel
theorem t126 : (tb_me 126).1.2.2.2 = some .boolean := by decide +kernel
theorem d126_47 : decode (tb_me 126).1.2.1 47 = .ok (.istore 4, 2) := by decide +kernel
theorem d126_49 : decode (tb_me 126).1.2.1 49 = .ok (.iload 4, 2) := by decide +kernel
theorem d126_51 : decode (tb_me 126).1.2.1 51 = .ok (.ifCond .ne 17, 3) := by decide +kernel
theorem d126_54 : decode (tb_me 126).1.2.1 54 = .ok (.iload_n 2, 1) := by decide +kernel
theorem d126_55 : decode (tb_me 126).1.2.1 55 = .ok (.bipush 40, 2) := by decide +kernel
theorem d126_57 : decode (tb_me 126).1.2.1 57 = .ok (.if_icmp .ge 11, 3) := by decide +kernel
theorem d126_60 : decode (tb_me 126).1.2.1 60 = .ok (.aload_n 0, 1) := by decide +kernel
theorem d126_61 : decode (tb_me 126).1.2.1 61 = .ok (.iload_n 3, 1) := by decide +kernel
theorem d126_62 : decode (tb_me 126).1.2.1 62 = .ok (.invokevirtual 120, 3) := by decide +kernel
theorem k126_120 (b : Bool) : tb_lk b 126 120 = (2, 127, 0, 0, 0) := by cases b <;> decide +kernel
theorem m127 : (tb_me 127).2 = ((0, 0), (1, 7)) ∧ (tb_me 127).1.2.2.1 = 2 := by decide +kernel
theorem d126_65 : decode (tb_me 126).1.2.1 65 = .ok (.ifCond .eq 13, 3) := by decide +kernel
theorem d126_78 : decode (tb_me 126).1.2.1 78 = .ok (.aload_n 1, 1) := by decide +kernel
theorem d126_79 : decode (tb_me 126).1.2.1 79 = .ok (.invokevirtual 111, 3) := by decide +kernel
theorem k126_111 (b : Bool) : tb_lk b 126 111 = (2, 136, 0, 0, 0) := by cases b <;> decide +kernel
theorem d126_82 : decode (tb_me 126).1.2.1 82 = .ok (.iload_n 3, 1) := by decide +kernel
theorem d126_83 : decode (tb_me 126).1.2.1 83 = .ok (.tableswitch 43 0 2 #[25, 31, 37], 25) := by decide +kernel
theorem d126_108 : decode (tb_me 126).1.2.1 108 = .ok (.aload_n 0, 1) := by decide +kernel
theorem d126_109 : decode (tb_me 126).1.2.1 109 = .ok (.aload_n 1, 1) := by decide +kernel
theorem d126_110 : decode (tb_me 126).1.2.1 110 = .ok (.invokevirtual 123, 3) := by decide +kernel
theorem k126_123 (b : Bool) : tb_lk b 126 123 = (2, 128, 0, 0, 0) := by cases b <;> decide +kernel
theorem m128 : (tb_me 128).2 = ((0, 0), (1, 7)) ∧ (tb_me 128).1.2.2.1 = 3 := by decide +kernel
theorem d126_113 : decode (tb_me 126).1.2.1 113 = .ok (.ireturn, 1) := by decide +kernel
theorem d126_114 : decode (tb_me 126).1.2.1 114 = .ok (.aload_n 0, 1) := by decide +kernel
theorem d126_115 : decode (tb_me 126).1.2.1 115 = .ok (.aload_n 1, 1) := by decide +kernel
theorem d126_116 : decode (tb_me 126).1.2.1 116 = .ok (.invokevirtual 127, 3) := by decide +kernel
theorem k126_127 (b : Bool) : tb_lk b 126 127 = (2, 129, 0, 0, 0) := by cases b <;> decide +kernel
theorem m129 : (tb_me 129).2 = ((0, 0), (1, 7)) ∧ (tb_me 129).1.2.2.1 = 4 := by decide +kernel
theorem d126_119 : decode (tb_me 126).1.2.1 119 = .ok (.ireturn, 1) := by decide +kernel
theorem d126_120 : decode (tb_me 126).1.2.1 120 = .ok (.aload_n 0, 1) := by decide +kernel
theorem d126_121 : decode (tb_me 126).1.2.1 121 = .ok (.aload_n 1, 1) := by decide +kernel
theorem d126_122 : decode (tb_me 126).1.2.1 122 = .ok (.invokevirtual 130, 3) := by decide +kernel
theorem k126_130 (b : Bool) : tb_lk b 126 130 = (2, 130, 0, 0, 0) := by cases b <;> decide +kernel
theorem m130 : (tb_me 130).2 = ((0, 0), (1, 7)) ∧ (tb_me 130).1.2.2.1 = 6 := by decide +kernel
theorem d126_125 : decode (tb_me 126).1.2.1 125 = .ok (.ireturn, 1) := by decide +kernel
theorem d126_126 : decode (tb_me 126).1.2.1 126 = .ok (.aload_n 0, 1) := by decide +kernel
theorem d126_127 : decode (tb_me 126).1.2.1 127 = .ok (.aload_n 1, 1) := by decide +kernel
theorem d126_128 : decode (tb_me 126).1.2.1 128 = .ok (.invokevirtual 133, 3) := by decide +kernel
theorem k126_133 (b : Bool) : tb_lk b 126 133 = (2, 131, 0, 0, 0) := by cases b <;> decide +kernel
theorem m131 : (tb_me 131).2 = ((0, 0), (1, 7)) ∧ (tb_me 131).1.2.2.1 = 6 := by decide +kernel
theorem d126_131 : decode (tb_me 126).1.2.1 131 = .ok (.ireturn, 1) := by decide +kernel
theorem d126_39 : decode (tb_me 126).1.2.1 39 = .ok (.if_icmp .eq 7, 3) := by decide +kernel
theorem d126_46 : decode (tb_me 126).1.2.1 46 = .ok (.iconst 0, 1) := by decide +kernel
theorem d126_42 : decode (tb_me 126).1.2.1 42 = .ok (.iconst 1, 1) := by decide +kernel
theorem d126_43 : decode (tb_me 126).1.2.1 43 = .ok (.goto 4, 3) := by decide +kernel
theorem d126_30 : decode (tb_me 126).1.2.1 30 = .ok (.iload_n 2, 1) := by decide +kernel
theorem d126_31 : decode (tb_me 126).1.2.1 31 = .ok (.ifCond .ne 7, 3) := by decide +kernel
theorem d126_38 : decode (tb_me 126).1.2.1 38 = .ok (.iconst 0, 1) := by decide +kernel
theorem d126_34 : decode (tb_me 126).1.2.1 34 = .ok (.iconst 1, 1) := by decide +kernel
theorem d126_35 : decode (tb_me 126).1.2.1 35 = .ok (.goto 4, 3) := by decide +kernel
theorem d126_0 : decode (tb_me 126).1.2.1 0 = .ok (.aload_n 1, 1) := by decide +kernel
theorem d126_1 : decode (tb_me 126).1.2.1 1 = .ok (.ldc 114, 2) := by decide +kernel
theorem k126_114 (b : Bool) : tb_lk b 126 114 = (13, 3, 0, 0, 0) := by cases b <;> decide +kernel
theorem d126_3 : decode (tb_me 126).1.2.1 3 = .ok (.invokevirtual 116, 3) := by decide +kernel
theorem k126_116 (b : Bool) : tb_lk b 126 116 = (2, 139, 0, 0, 0) := by cases b <;> decide +kernel
theorem m139 : (tb_me 139).2 = ((0, 0), (1, 8)) ∧ (tb_me 139).1.2.2.1 = 7 := by decide +kernel
theorem d126_6 : decode (tb_me 126).1.2.1 6 = .ok (.istore_n 3, 1) := by decide +kernel
theorem d126_7 : decode (tb_me 126).1.2.1 7 = .ok (.iload_n 3, 1) := by decide +kernel
theorem d126_8 : decode (tb_me 126).1.2.1 8 = .ok (.ifCond .ge 13, 3) := by decide +kernel
theorem d126_21 : decode (tb_me 126).1.2.1 21 = .ok (.iload_n 3, 1) := by decide +kernel
theorem d126_22 : decode (tb_me 126).1.2.1 22 = .ok (.ifCond .ne 7, 3) := by decide +kernel
theorem d126_29 : decode (tb_me 126).1.2.1 29 = .ok (.iconst 0, 1) := by decide +kernel
theorem d126_25 : decode (tb_me 126).1.2.1 25 = .ok (.iconst 1, 1) := by decide +kernel
theorem d126_26 : decode (tb_me 126).1.2.1 26 = .ok (.goto 4, 3) := by decide +kernel
theorem d126_11 : decode (tb_me 126).1.2.1 11 = .ok (.aload_n 1, 1) := by decide +kernel
theorem d126_12 : decode (tb_me 126).1.2.1 12 = .ok (.aload_n 1, 1) := by decide +kernel
theorem d126_13 : decode (tb_me 126).1.2.1 13 = .ok (.getfield 105, 3) := by decide +kernel
theorem d126_16 : decode (tb_me 126).1.2.1 16 = .ok (.iconst 0, 1) := by decide +kernel
theorem d126_17 : decode (tb_me 126).1.2.1 17 = .ok (.invokevirtual 108, 3) := by decide +kernel
theorem d126_20 : decode (tb_me 126).1.2.1 20 = .ok (.ireturn, 1) := by decide +kernel
theorem e126 : (tb_me 126).2.1 = (0, 0) ∧ (tb_me 126).1.2.2.1 = 5 := by decide +kernel
theorem d125_35 : decode (tb_me 125).1.2.1 35 = .ok (.iload_n 2, 1) := by decide +kernel
theorem d125_36 : decode (tb_me 125).1.2.1 36 = .ok (.bipush 40, 2) := by decide +kernel
theorem d125_38 : decode (tb_me 125).1.2.1 38 = .ok (.if_icmp .gt 52, 3) := by decide +kernel
theorem d125_41 : decode (tb_me 125).1.2.1 41 = .ok (.aload_n 0, 1) := by decide +kernel
theorem d125_42 : decode (tb_me 125).1.2.1 42 = .ok (.aload_n 1, 1) := by decide +kernel
theorem d125_43 : decode (tb_me 125).1.2.1 43 = .ok (.iload_n 2, 1) := by decide +kernel
theorem d125_44 : decode (tb_me 125).1.2.1 44 = .ok (.invokevirtual 95, 3) := by decide +kernel
theorem k125_95 (b : Bool) : tb_lk b 125 95 = (2, 126, 0, 0, 0) := by cases b <;> decide +kernel
theorem m126 : (tb_me 126).2 = ((0, 0), (2, 7)) ∧ (tb_me 126).1.2.2.1 = 5 := by decide +kernel
theorem d125_47 : decode (tb_me 125).1.2.1 47 = .ok (.ifCond .ne 5, 3) := by decide +kernel
theorem d125_52 : decode (tb_me 125).1.2.1 52 = .ok (.aload_n 1, 1) := by decide +kernel
theorem d125_53 : decode (tb_me 125).1.2.1 53 = .ok (.getfield 99, 3) := by decide +kernel
theorem k125_99 (b : Bool) : tb_lk b 125 99 = (1, 8, 2, 0, 0) := by cases b <;> decide +kernel
theorem d125_56 : decode (tb_me 125).1.2.1 56 = .ok (.ifCond .ne 5, 3) := by decide +kernel
theorem d125_61 : decode (tb_me 125).1.2.1 61 = .ok (.aload_n 1, 1) := by decide +kernel
theorem d125_62 : decode (tb_me 125).1.2.1 62 = .ok (.bipush 59, 2) := by decide +kernel
theorem d125_64 : decode (tb_me 125).1.2.1 64 = .ok (.invokevirtual 102, 3) := by decide +kernel
theorem k125_102 (b : Bool) : tb_lk b 125 102 = (2, 140, 0, 0, 0) := by cases b <;> decide +kernel
theorem m140 : (tb_me 140).2 = ((0, 0), (1, 8)) ∧ (tb_me 140).1.2.2.1 = 2 := by decide +kernel
theorem d125_67 : decode (tb_me 125).1.2.1 67 = .ok (.ifCond .ne 13, 3) := by decide +kernel
theorem d125_80 : decode (tb_me 125).1.2.1 80 = .ok (.aload_n 1, 1) := by decide +kernel
theorem d125_81 : decode (tb_me 125).1.2.1 81 = .ok (.invokevirtual 111, 3) := by decide +kernel
theorem k125_111 (b : Bool) : tb_lk b 125 111 = (2, 136, 0, 0, 0) := by cases b <;> decide +kernel
theorem d125_84 : decode (tb_me 125).1.2.1 84 = .ok (.iinc 2 1, 3) := by decide +kernel
theorem d125_87 : decode (tb_me 125).1.2.1 87 = .ok (.goto (-52), 3) := by decide +kernel
theorem d125_0 : decode (tb_me 125).1.2.1 0 = .ok (.aload_n 0, 1) := by decide +kernel
theorem d125_1 : decode (tb_me 125).1.2.1 1 = .ok (.iconst 0, 1) := by decide +kernel
theorem d125_2 : decode (tb_me 125).1.2.1 2 = .ok (.putfield 9, 3) := by decide +kernel
theorem k125_9 (b : Bool) : tb_lk b 125 9 = (1, 7, 0, 0, 0) := by cases b <;> decide +kernel
theorem p125_7_0 : (0 < pm_nf tb_cl 7) ∧ tb_ft 7 0 = .int ∧ pm_fin tb_cl (tb_me 125).1.1 7 0 = true := by decide +kernel
theorem d125_5 : decode (tb_me 125).1.2.1 5 = .ok (.aload_n 0, 1) := by decide +kernel
theorem d125_6 : decode (tb_me 125).1.2.1 6 = .ok (.iconst 0, 1) := by decide +kernel
theorem d125_7 : decode (tb_me 125).1.2.1 7 = .ok (.putfield 15, 3) := by decide +kernel
theorem k125_15 (b : Bool) : tb_lk b 125 15 = (1, 7, 1, 0, 0) := by cases b <;> decide +kernel
theorem p125_7_1 : (1 < pm_nf tb_cl 7) ∧ tb_ft 7 1 = .int ∧ pm_fin tb_cl (tb_me 125).1.1 7 1 = true := by decide +kernel
theorem d125_10 : decode (tb_me 125).1.2.1 10 = .ok (.aload_n 0, 1) := by decide +kernel
theorem d125_11 : decode (tb_me 125).1.2.1 11 = .ok (.iconst 0, 1) := by decide +kernel
theorem d125_12 : decode (tb_me 125).1.2.1 12 = .ok (.putfield 18, 3) := by decide +kernel
theorem k125_18 (b : Bool) : tb_lk b 125 18 = (1, 7, 2, 0, 0) := by cases b <;> decide +kernel
theorem p125_7_2 : (2 < pm_nf tb_cl 7) ∧ tb_ft 7 2 = .int ∧ pm_fin tb_cl (tb_me 125).1.1 7 2 = true := by decide +kernel
theorem d125_15 : decode (tb_me 125).1.2.1 15 = .ok (.aload_n 0, 1) := by decide +kernel
theorem d125_16 : decode (tb_me 125).1.2.1 16 = .ok (.iconst 0, 1) := by decide +kernel
theorem d125_17 : decode (tb_me 125).1.2.1 17 = .ok (.putfield 21, 3) := by decide +kernel
theorem k125_21 (b : Bool) : tb_lk b 125 21 = (1, 7, 3, 0, 0) := by cases b <;> decide +kernel
theorem p125_7_3 : (3 < pm_nf tb_cl 7) ∧ tb_ft 7 3 = .int ∧ pm_fin tb_cl (tb_me 125).1.1 7 3 = true := by decide +kernel
theorem d125_20 : decode (tb_me 125).1.2.1 20 = .ok (.aload_n 0, 1) := by decide +kernel
theorem d125_21 : decode (tb_me 125).1.2.1 21 = .ok (.getfield 49, 3) := by decide +kernel
theorem k125_49 (b : Bool) : tb_lk b 125 49 = (1, 7, 12, 0, 0) := by cases b <;> decide +kernel
theorem d125_24 : decode (tb_me 125).1.2.1 24 = .ok (.bipush (-2), 2) := by decide +kernel
theorem d125_26 : decode (tb_me 125).1.2.1 26 = .ok (.invokestatic 84, 3) := by decide +kernel
theorem k125_84 (b : Bool) : tb_lk b 125 84 = (4, 270, 0, 0, 0) := by cases b <;> decide +kernel
theorem d125_29 : decode (tb_me 125).1.2.1 29 = .ok (.aload_n 1, 1) := by decide +kernel
theorem d125_30 : decode (tb_me 125).1.2.1 30 = .ok (.invokevirtual 90, 3) := by decide +kernel
theorem k125_90 (b : Bool) : tb_lk b 125 90 = (2, 135, 0, 0, 0) := by cases b <;> decide +kernel
theorem m135 : (tb_me 135).2 = ((0, 0), (0, 8)) ∧ (tb_me 135).1.2.2.1 = 1 := by decide +kernel
theorem d125_33 : decode (tb_me 125).1.2.1 33 = .ok (.iconst 0, 1) := by decide +kernel
theorem d125_34 : decode (tb_me 125).1.2.1 34 = .ok (.istore_n 2, 1) := by decide +kernel
theorem d125_50 : decode (tb_me 125).1.2.1 50 = .ok (.iconst 0, 1) := by decide +kernel
theorem d125_51 : decode (tb_me 125).1.2.1 51 = .ok (.ireturn, 1) := by decide +kernel
theorem t125 : (tb_me 125).1.2.2.2 = some .boolean := by decide +kernel
theorem d125_59 : decode (tb_me 125).1.2.1 59 = .ok (.iconst 1, 1) := by decide +kernel
theorem d125_60 : decode (tb_me 125).1.2.1 60 = .ok (.ireturn, 1) := by decide +kernel
theorem d125_70 : decode (tb_me 125).1.2.1 70 = .ok (.aload_n 1, 1) := by decide +kernel
theorem d125_71 : decode (tb_me 125).1.2.1 71 = .ok (.aload_n 1, 1) := by decide +kernel
theorem d125_72 : decode (tb_me 125).1.2.1 72 = .ok (.getfield 105, 3) := by decide +kernel
theorem k125_105 (b : Bool) : tb_lk b 125 105 = (1, 8, 3, 0, 0) := by cases b <;> decide +kernel
theorem d125_75 : decode (tb_me 125).1.2.1 75 = .ok (.iconst 0, 1) := by decide +kernel
theorem d125_76 : decode (tb_me 125).1.2.1 76 = .ok (.invokevirtual 108, 3) := by decide +kernel
theorem k125_108 (b : Bool) : tb_lk b 125 108 = (2, 141, 0, 0, 0) := by cases b <;> decide +kernel
theorem d125_79 : decode (tb_me 125).1.2.1 79 = .ok (.ireturn, 1) := by decide +kernel
theorem d125_90 : decode (tb_me 125).1.2.1 90 = .ok (.iconst 0, 1) := by decide +kernel
theorem d125_91 : decode (tb_me 125).1.2.1 91 = .ok (.ireturn, 1) := by decide +kernel
theorem e125 : (tb_me 125).2.1 = (0, 0) ∧ (tb_me 125).1.2.2.1 = 3 := by decide +kernel
def E_t_put_3 (b : Bool) (L : Nat) (xs : Nat → Int32) (d : Nat) (Q : Option Value → pm_H → Prop) (l0 : Nat) (l1 : Int32) : ((Int32 × pm_H) ⊕ pm_H) → Prop
  | .inl s => s.2.1 = tb_SH → PW b L xs d 134 0 0 3 [(Value.ref l0), (Value.int l1), (Value.int s.1)] [] s.2 Q
  | .inr e => e.1 = tb_SH → ∀ w0 w1 w2 : Value, PW b L xs d 134 0 0 58 [w0, w1, w2] [] e Q
noncomputable def t_put_3 (l0 : Nat) (l1 : Int32) (l2 : Int32) (h : pm_H) : Option ((Int32 × pm_H) ⊕ pm_H) := if l2 < 0 then (some (.inr h)) else (if (h.2.1 l0 1) < 0 then (some (.inl ((l2 + Int32.ofInt (-8)), h))) else ((gA h l0 0 .int).bind fun y3 => if (Int32.ofNat (mi_n y3)) ≤ (h.2.1 l0 1) then (some (.inl ((l2 + Int32.ofInt (-8)), h))) else ((gA h l0 0 .int).bind fun y5 => if mi_in (h.2.1 l0 1) (mi_n y5) = true then bd (pm_setI h y5 (h.2.1 l0 1).toNatClampNeg ((l1 >>> (l2 &&& 31)) &&& (Int16.ofInt 255).toInt32)) fun h7 => bd (pm_setI h7 l0 1 ((h7.2.1 l0 1) + (Int32.ofInt 1))) fun h8 => some (.inl ((l2 + Int32.ofInt (-8)), h8)) else none)))
theorem t_t_put_3 (b : Bool) (L : Nat) (xs : Nat → Int32) (d : Nat) (hd : 0 ≤ d) {Q : Option Value → pm_H → Prop} (h : pm_H) (s_h : h.1 = tb_SH) (l0 : Nat) (l1 : Int32) (l2 : Int32) (f_l0 : mi_o l0 8 = true) {r : ((Int32 × pm_H) ⊕ pm_H)} (hm : t_put_3 l0 l1 l2 h = some r) (hE : E_t_put_3 b L xs d Q l0 l1 r) : PW b L xs d 134 0 0 3 [(Value.ref l0), (Value.int l1), (Value.int l2)] [] h Q := by
  rw [t_put_3] at hm
  refine pw_l (pc := 3) d134_3 rfl rfl rfl ?_
  refine pw_zlt (pc := 4) (t := 58) d134_4 (by decide) (fun c1 => ?_) (fun c1 => ?_)
  · rw [if_pos c1] at hm
    obtain rfl := Option.some.inj hm
    exact hE s_h  (Value.ref l0) (Value.int l1) (Value.int l2)
  · rw [if_neg c1] at hm
    refine pw_l (pc := 7) d134_7 rfl rfl rfl ?_
    refine pw_gi (pc := 8) d134_8 (k134_15 b) (sho s_h f_l0) f8_1 ?_
    refine pw_zlt (pc := 11) (t := 52) d134_11 (by decide) (fun c2 => ?_) (fun c2 => ?_)
    · rw [if_pos c2] at hm
      refine pw_t (pc := 52) d134_52 rfl rfl rfl rfl ?_
      refine pw_go (pc := 55) (t := 3) d134_55 (by decide) ?_
      obtain rfl := Option.some.inj hm
      exact hE s_h  
    · rw [if_neg c2] at hm
      refine pw_l (pc := 14) d134_14 rfl rfl rfl ?_
      refine pw_gi (pc := 15) d134_15 (k134_15 b) (sho s_h f_l0) f8_1 ?_
      refine pw_l (pc := 18) d134_18 rfl rfl rfl ?_
      obtain ⟨y3, e_y3, hm⟩ := ob_x hm
      have f_y3 := gA_x e_y3
      refine pw_gr (pc := 19) d134_19 (k134_9 b) (sho s_h f_l0) f8_0 f_y3.1 ?_
      refine pw_an (pc := 22) d134_22 (sha s_h f_y3.2) ?_
      refine pw_ige (pc := 23) (t := 52) d134_23 (by decide) (fun c4 => ?_) (fun c4 => ?_)
      · rw [if_pos c4] at hm
        refine pw_t (pc := 52) d134_52 rfl rfl rfl rfl ?_
        refine pw_go (pc := 55) (t := 3) d134_55 (by decide) ?_
        obtain rfl := Option.some.inj hm
        exact hE s_h  
      · rw [if_neg c4] at hm
        refine pw_l (pc := 26) d134_26 rfl rfl rfl ?_
        obtain ⟨y5, e_y5, hm⟩ := ob_x hm
        have f_y5 := gA_x e_y5
        refine pw_gr (pc := 27) d134_27 (k134_9 b) (sho s_h f_l0) f8_0 f_y5.1 ?_
        refine pw_l (pc := 30) d134_30 rfl rfl rfl ?_
        refine pw_gi (pc := 31) d134_31 (k134_15 b) (sho s_h f_l0) f8_1 ?_
        refine pw_l (pc := 34) d134_34 rfl rfl rfl ?_
        refine pw_l (pc := 35) d134_35 rfl rfl rfl ?_
        refine pw_s (pc := 36) d134_36 rfl rfl ?_
        refine pw_s (pc := 37) d134_37 rfl rfl ?_
        refine pw_s (pc := 40) d134_40 rfl rfl ?_
        obtain ⟨g6, hm⟩ := gd_x hm
        refine pw_si (pc := 41) d134_41 (sha s_h f_y5.2) (mi_in_x g6) ?_
        obtain ⟨h7, e_h7, hm⟩ := bd_x hm
        rw [e_h7]
        have s_h7 : h7.1 = tb_SH := by rw [← e_h7]; exact s_h
        refine pw_l (pc := 42) d134_42 rfl rfl rfl ?_
        refine pw_s (pc := 43) d134_43 rfl rfl ?_
        refine pw_gi (pc := 44) d134_44 (k134_15 b) (sho s_h7 f_l0) f8_1 ?_
        refine pw_s (pc := 47) d134_47 rfl rfl ?_
        refine pw_s (pc := 48) d134_48 rfl rfl ?_
        refine pw_pi (pc := 49) d134_49 (k134_15 b) (sho s_h7 f_l0) p134_8_1 ?_
        obtain ⟨h8, e_h8, hm⟩ := bd_x hm
        rw [e_h8]
        have s_h8 : h8.1 = tb_SH := by rw [← e_h8]; exact s_h7
        refine pw_t (pc := 52) d134_52 rfl rfl rfl rfl ?_
        refine pw_go (pc := 55) (t := 3) d134_55 (by decide) ?_
        obtain rfl := Option.some.inj hm
        exact hE s_h8  
noncomputable def t_put (l0 : Nat) (l1 : Int32) (h : pm_H) : Option pm_H := (wh (fun s : (Int32 × pm_H) => t_put_3 l0 l1 s.1 s.2) ((Int8.ofInt 24).toInt32, h)).bind fun q1 => some q1
theorem T_t_put (b : Bool) (L : Nat) (xs : Nat → Int32) (d : Nat) (hd : 0 ≤ d) (h : pm_H) (s_h : h.1 = tb_SH) (l0 : Nat) (l1 : Int32) (f_l0 : mi_o l0 8 = true) {r : pm_H} (hm : t_put l0 l1 h = some r) : PC b L xs d 134 [(Value.ref l0), (Value.int l1)] h (fun (v0 : Option Value) (h2 : pm_H) => v0 = none ∧ h2 = r ∧ h2.1 = tb_SH) := by
  refine pc_in e134 (ls0 := [(Value.ref l0), (Value.int l1), Value.retAddr 0]) rfl ?_
  have key : ∀ (Q : Option Value → pm_H → Prop), (r.1 = tb_SH → Q none r) → PW b L xs d 134 0 0 0 [(Value.ref l0), (Value.int l1), Value.retAddr 0] [] h Q := by
    intro Q hE
    rw [t_put] at hm
    refine pw_s (pc := 0) d134_0 rfl rfl ?_
    refine pw_t (pc := 2) d134_2 rfl rfl rfl rfl ?_
    obtain ⟨q1, e_q1, hm⟩ := ob_x hm
    refine wh_ind e_q1 (fun s : (Int32 × pm_H) => s.2.1 = tb_SH → PW b L xs d 134 0 0 3 [(Value.ref l0), (Value.int l1), (Value.int s.1)] [] s.2 Q) (fun s s2 hf ih sx => t_t_put_3 b L xs d hd s.2 sx l0 l1 s.1  f_l0 hf ih) (fun s hf sx => t_t_put_3 b L xs d hd s.2 sx l0 l1 s.1  f_l0 hf ?_) s_h  
    intro s_q1_0 w0 w1 w2
    obtain rfl := Option.some.inj hm
    refine pw_rv (pc := 58) d134_58 t134 ?_
    exact hE s_q1_0
  exact key _ (fun q => ⟨rfl, rfl, q⟩)
noncomputable def t_byteAt (l0 : Nat) (l1 : Int32) (h : pm_H) : Option Int32 := if l1 < 0 then (some (Int32.ofInt (-1))) else (if (h.2.1 l0 1) ≤ l1 then (some (Int32.ofInt (-1))) else ((gA h l0 0 .int).bind fun y3 => if (Int32.ofNat (mi_n y3)) ≤ l1 then (some (Int32.ofInt (-1))) else ((gA h l0 0 .int).bind fun y5 => if mi_in l1 (mi_n y5) = true then some (h.2.1 y5 l1.toNatClampNeg) else none)))
theorem T_t_byteAt (b : Bool) (L : Nat) (xs : Nat → Int32) (d : Nat) (hd : 0 ≤ d) (h : pm_H) (s_h : h.1 = tb_SH) (l0 : Nat) (l1 : Int32) (f_l0 : mi_o l0 8 = true) {r : Int32} (hm : t_byteAt l0 l1 h = some r) : PC b L xs d 137 [(Value.ref l0), (Value.int l1)] h (fun (v0 : Option Value) (h2 : pm_H) => v0 = (some (Value.int r)) ∧ h2 = h ∧ h2.1 = tb_SH) := by
  refine pc_in e137 (ls0 := [(Value.ref l0), (Value.int l1)]) rfl ?_
  have key : ∀ (Q : Option Value → pm_H → Prop), (Q (some (Value.int r)) h) → PW b L xs d 137 0 0 0 [(Value.ref l0), (Value.int l1)] [] h Q := by
    intro Q hE
    rw [t_byteAt] at hm
    refine pw_l (pc := 0) d137_0 rfl rfl rfl ?_
    refine pw_zlt (pc := 1) (t := 30) d137_1 (by decide) (fun c1 => ?_) (fun c1 => ?_)
    · rw [if_pos c1] at hm
      refine pw_s (pc := 30) d137_30 rfl rfl ?_
      obtain rfl := Option.some.inj hm
      refine pw_ri (pc := 31) d137_31 t137 rfl ?_
      exact hE
    · rw [if_neg c1] at hm
      refine pw_l (pc := 4) d137_4 rfl rfl rfl ?_
      refine pw_l (pc := 5) d137_5 rfl rfl rfl ?_
      refine pw_gi (pc := 6) d137_6 (k137_15 b) (sho s_h f_l0) f8_1 ?_
      refine pw_ige (pc := 9) (t := 30) d137_9 (by decide) (fun c2 => ?_) (fun c2 => ?_)
      · rw [if_pos c2] at hm
        refine pw_s (pc := 30) d137_30 rfl rfl ?_
        obtain rfl := Option.some.inj hm
        refine pw_ri (pc := 31) d137_31 t137 rfl ?_
        exact hE
      · rw [if_neg c2] at hm
        refine pw_l (pc := 12) d137_12 rfl rfl rfl ?_
        refine pw_l (pc := 13) d137_13 rfl rfl rfl ?_
        obtain ⟨y3, e_y3, hm⟩ := ob_x hm
        have f_y3 := gA_x e_y3
        refine pw_gr (pc := 14) d137_14 (k137_9 b) (sho s_h f_l0) f8_0 f_y3.1 ?_
        refine pw_an (pc := 17) d137_17 (sha s_h f_y3.2) ?_
        refine pw_ige (pc := 18) (t := 30) d137_18 (by decide) (fun c4 => ?_) (fun c4 => ?_)
        · rw [if_pos c4] at hm
          refine pw_s (pc := 30) d137_30 rfl rfl ?_
          obtain rfl := Option.some.inj hm
          refine pw_ri (pc := 31) d137_31 t137 rfl ?_
          exact hE
        · rw [if_neg c4] at hm
          refine pw_l (pc := 21) d137_21 rfl rfl rfl ?_
          obtain ⟨y5, e_y5, hm⟩ := ob_x hm
          have f_y5 := gA_x e_y5
          refine pw_gr (pc := 22) d137_22 (k137_9 b) (sho s_h f_l0) f8_0 f_y5.1 ?_
          refine pw_l (pc := 25) d137_25 rfl rfl rfl ?_
          obtain ⟨g6, hm⟩ := gd_x hm
          refine pw_ai (pc := 26) d137_26 (sha s_h f_y5.2) (mi_in_x g6) ?_
          refine pw_go (pc := 27) (t := 31) d137_27 (by decide) ?_
          obtain rfl := Option.some.inj hm
          refine pw_ri (pc := 31) d137_31 t137 rfl ?_
          exact hE
  exact key _ ⟨rfl, rfl, s_h⟩
def E_t_isWord_23 (b : Bool) (L : Nat) (xs : Nat → Int32) (d : Nat) (Q : Option Value → pm_H → Prop) (h : pm_H) (l0 : Nat) (l1 : Nat) : (Int32 ⊕ Unit ⊕ Unit) → Prop
  | .inl s => PW b L xs d 138 0 0 23 [(Value.ref l0), (Value.ref (pm_B + l1)), (Value.int s)] [] h Q
  | .inr (.inl e) => ∀ w0 w1 w2 : Value, PW b L xs d 138 0 0 49 [w0, w1, w2] [] h Q
  | .inr (.inr e) => ∀ w0 w1 w2 : Value, PW b L xs d 138 0 0 57 [w0, w1, w2] [] h Q
noncomputable def t_isWord_23 (l0 : Nat) (l1 : Nat) (l2 : Int32) (h : pm_H) : Option (Int32 ⊕ Unit ⊕ Unit) := if (h.2.1 l0 5) ≤ l2 then (some (.inr (.inr ()))) else ((t_byteAt l0 ((h.2.1 l0 3) + l2) h).bind fun q2 => (tx_c l1 l2).bind fun q3 => if q2 = q3 then (some (.inl (l2 + Int32.ofInt 1))) else (some (.inr (.inl ()))))
theorem t_t_isWord_23 (b : Bool) (L : Nat) (xs : Nat → Int32) (d : Nat) (hd : 8 ≤ d) {Q : Option Value → pm_H → Prop} (h : pm_H) (s_h : h.1 = tb_SH) (l0 : Nat) (l1 : Nat) (l2 : Int32) (f_l0 : mi_o l0 8 = true) {r : (Int32 ⊕ Unit ⊕ Unit)} (hm : t_isWord_23 l0 l1 l2 h = some r) (hE : E_t_isWord_23 b L xs d Q h l0 l1 r) : PW b L xs d 138 0 0 23 [(Value.ref l0), (Value.ref (pm_B + l1)), (Value.int l2)] [] h Q := by
  rw [t_isWord_23] at hm
  refine pw_l (pc := 23) d138_23 rfl rfl rfl ?_
  refine pw_l (pc := 24) d138_24 rfl rfl rfl ?_
  refine pw_gi (pc := 25) d138_25 (k138_28 b) (sho s_h f_l0) f8_5 ?_
  refine pw_ige (pc := 28) (t := 57) d138_28 (by decide) (fun c1 => ?_) (fun c1 => ?_)
  · rw [if_pos c1] at hm
    obtain rfl := Option.some.inj hm
    exact hE   (Value.ref l0) (Value.ref (pm_B + l1)) (Value.int l2)
  · rw [if_neg c1] at hm
    refine pw_l (pc := 31) d138_31 rfl rfl rfl ?_
    refine pw_l (pc := 32) d138_32 rfl rfl rfl ?_
    refine pw_gi (pc := 33) d138_33 (k138_22 b) (sho s_h f_l0) f8_3 ?_
    refine pw_l (pc := 36) d138_36 rfl rfl rfl ?_
    refine pw_s (pc := 37) d138_37 rfl rfl ?_
    obtain ⟨q2, e_q2, hm⟩ := ob_x hm
    refine pw_v (pc := 38) (k := l0) (by omega) d138_38 (k138_40 b) (by decide) m137 (by decide) rfl (sho s_h f_l0) (Nat.le_of_ble_eq_true rfl) (Nat.le_of_ble_eq_true rfl) rfl rfl (T_t_byteAt b L xs (d - 1) (by omega) h s_h l0 ((h.2.1 l0 3) + l2) f_l0 e_q2) (fun v0 h0 hq => ?_)
    obtain ⟨rfl, hh0, s_q2⟩ := hq
    rw [hh0] at s_q2 ⊢
    simp only [Option.toList_some, List.cons_append, List.nil_append]
    refine pw_l (pc := 41) d138_41 rfl rfl rfl ?_
    refine pw_l (pc := 42) d138_42 rfl rfl rfl ?_
    obtain ⟨q3, e_q3, hm⟩ := ob_x hm
    refine pw_txc (pc := 43) (by omega) d138_43 (k138_52 b) s_h (Nat.le_of_ble_eq_true rfl) e_q3 ?_
    refine pw_ieq (pc := 46) (t := 51) d138_46 (by decide) (fun c4 => ?_) (fun c4 => ?_)
    · rw [if_pos c4] at hm
      refine pw_t (pc := 51) d138_51 rfl rfl rfl rfl ?_
      refine pw_go (pc := 54) (t := 23) d138_54 (by decide) ?_
      obtain rfl := Option.some.inj hm
      exact hE   
    · rw [if_neg c4] at hm
      obtain rfl := Option.some.inj hm
      exact hE   (Value.ref l0) (Value.ref (pm_B + l1)) (Value.int l2)
noncomputable def t_isWord (l0 : Nat) (l1 : Nat) (h : pm_H) : Option Int32 := if ¬ (h.2.1 l0 2) = (Int32.ofInt 2) then (some (Int32.ofInt 0)) else ((tx_n l1).bind fun q2 => if (h.2.1 l0 5) = q2 then ((wh (fun s : Int32 => t_isWord_23 l0 l1 s h) (Int32.ofInt 0)).bind fun q4 => (match q4 with | (.inl eq4_0) => some (Int32.ofInt 0) | (.inr eq4_1) => some (Int32.ofInt 1))) else (some (Int32.ofInt 0)))
theorem T_t_isWord (b : Bool) (L : Nat) (xs : Nat → Int32) (d : Nat) (hd : 8 ≤ d) (h : pm_H) (s_h : h.1 = tb_SH) (l0 : Nat) (l1 : Nat) (f_l0 : mi_o l0 8 = true) {r : Int32} (hm : t_isWord l0 l1 h = some r) : PC b L xs d 138 [(Value.ref l0), (Value.ref (pm_B + l1))] h (fun (v0 : Option Value) (h2 : pm_H) => v0 = (some (Value.int r)) ∧ h2 = h ∧ h2.1 = tb_SH) := by
  refine pc_in e138 (ls0 := [(Value.ref l0), (Value.ref (pm_B + l1)), Value.retAddr 0]) rfl ?_
  have key : ∀ (Q : Option Value → pm_H → Prop), (Q (some (Value.int r)) h) → PW b L xs d 138 0 0 0 [(Value.ref l0), (Value.ref (pm_B + l1)), Value.retAddr 0] [] h Q := by
    intro Q hE
    rw [t_isWord] at hm
    refine pw_l (pc := 0) d138_0 rfl rfl rfl ?_
    refine pw_gi (pc := 1) d138_1 (k138_19 b) (sho s_h f_l0) f8_2 ?_
    refine pw_s (pc := 4) d138_4 rfl rfl ?_
    refine pw_ine (pc := 5) (t := 19) d138_5 (by decide) (fun c1 => ?_) (fun c1 => ?_)
    · rw [if_pos c1] at hm
      refine pw_s (pc := 19) d138_19 rfl rfl ?_
      obtain rfl := Option.some.inj hm
      refine pw_ri (pc := 20) d138_20 t138 rfl ?_
      exact hE
    · rw [if_neg c1] at hm
      refine pw_l (pc := 8) d138_8 rfl rfl rfl ?_
      refine pw_gi (pc := 9) d138_9 (k138_28 b) (sho s_h f_l0) f8_5 ?_
      refine pw_l (pc := 12) d138_12 rfl rfl rfl ?_
      obtain ⟨q2, e_q2, hm⟩ := ob_x hm
      refine pw_txn (pc := 13) (by omega) d138_13 (k138_47 b) s_h (Nat.le_of_ble_eq_true rfl) e_q2 ?_
      refine pw_ieq (pc := 16) (t := 21) d138_16 (by decide) (fun c3 => ?_) (fun c3 => ?_)
      · rw [if_pos c3] at hm
        refine pw_s (pc := 21) d138_21 rfl rfl ?_
        refine pw_t (pc := 22) d138_22 rfl rfl rfl rfl ?_
        obtain ⟨q4, e_q4, hm⟩ := ob_x hm
        refine wh_ind e_q4 (fun s : Int32 => PW b L xs d 138 0 0 23 [(Value.ref l0), (Value.ref (pm_B + l1)), (Value.int s)] [] h Q) (fun s s2 hf ih  => t_t_isWord_23 b L xs d hd h s_h l0 l1 s  f_l0 hf ih) (fun s hf  => t_t_isWord_23 b L xs d hd h s_h l0 l1 s  f_l0 hf ?_)   
        rcases q4 with eq4_0 | eq4_1
        · dsimp only at hm
          intro w0 w1 w2
          refine pw_s (pc := 49) d138_49 rfl rfl ?_
          obtain rfl := Option.some.inj hm
          refine pw_ri (pc := 50) d138_50 t138 rfl ?_
          exact hE
        · dsimp only at hm
          intro w0 w1 w2
          refine pw_s (pc := 57) d138_57 rfl rfl ?_
          obtain rfl := Option.some.inj hm
          refine pw_ri (pc := 58) d138_58 t138 rfl ?_
          exact hE
      · rw [if_neg c3] at hm
        refine pw_s (pc := 19) d138_19 rfl rfl ?_
        obtain rfl := Option.some.inj hm
        refine pw_ri (pc := 20) d138_20 t138 rfl ?_
        exact hE
  exact key _ ⟨rfl, rfl, s_h⟩
def E_t_wordOf_7 (b : Bool) (L : Nat) (xs : Nat → Int32) (d : Nat) (Q : Option Value → pm_H → Prop) (h : pm_H) (l0 : Nat) (l1 : Nat) : ((Int32 × Int32 × Int32) ⊕ Int32 ⊕ Unit) → Prop
  | .inl s => ∀ w5 w6 : Value, PW b L xs d 139 0 0 7 [(Value.ref l0), (Value.ref (pm_B + l1)), (Value.int s.1), (Value.int s.2.1), (Value.int s.2.2), w5, w6] [] h Q
  | .inr (.inl e) => ∀ w0 w1 w3 w4 w5 w6 : Value, PW b L xs d 139 0 0 97 [w0, w1, (Value.int e), w3, w4, w5, w6] [] h Q
  | .inr (.inr e) => ∀ w0 w1 w2 w3 w4 w5 w6 : Value, PW b L xs d 139 0 0 110 [w0, w1, w2, w3, w4, w5, w6] [] h Q
noncomputable def t_wordOf_85 (l0 : Nat) (l1 : Nat) (l2 : Int32) (l4 : Int32) (z0 : Int32) (h : pm_H) : Option ((Int32 × Int32 × Int32) ⊕ Int32 ⊕ Unit) := some (.inl (l2, z0, (l4 + Int32.ofInt 1)))
theorem t_t_wordOf_85 (b : Bool) (L : Nat) (xs : Nat → Int32) (d : Nat) (hd : 8 ≤ d) {Q : Option Value → pm_H → Prop} (h : pm_H) (s_h : h.1 = tb_SH) (l0 : Nat) (l1 : Nat) (l2 : Int32) (l4 : Int32) (z0 : Int32) (w3 : Value) (w5 : Value) (w6 : Value) (f_l0 : mi_o l0 8 = true) {r : ((Int32 × Int32 × Int32) ⊕ Int32 ⊕ Unit)} (hm : t_wordOf_85 l0 l1 l2 l4 z0 h = some r) (hE : E_t_wordOf_7 b L xs d Q h l0 l1 r) : PW b L xs d 139 0 0 85 [(Value.ref l0), (Value.ref (pm_B + l1)), (Value.int l2), w3, (Value.int l4), w5, w6] [(Value.int z0)] h Q := by
  rw [t_wordOf_85] at hm
  refine pw_t (pc := 85) d139_85 rfl rfl rfl rfl ?_
  refine pw_go (pc := 86) (t := 104) d139_86 (by decide) ?_
  refine pw_t (pc := 104) d139_104 rfl rfl rfl rfl ?_
  refine pw_go (pc := 107) (t := 7) d139_107 (by decide) ?_
  obtain rfl := Option.some.inj hm
  exact hE   w5 w6
noncomputable def t_wordOf_71 (l0 : Nat) (l1 : Nat) (l2 : Int32) (l3 : Int32) (l4 : Int32) (z0 : Int32) (h : pm_H) : Option ((Int32 × Int32 × Int32) ⊕ Int32 ⊕ Unit) := if z0 = 0 then (t_wordOf_85 l0 l1 l2 l4 (Int32.ofInt (-1)) h) else (t_wordOf_85 l0 l1 l2 l4 (l3 + (Int32.ofInt 1)) h)
theorem t_t_wordOf_71 (b : Bool) (L : Nat) (xs : Nat → Int32) (d : Nat) (hd : 8 ≤ d) {Q : Option Value → pm_H → Prop} (h : pm_H) (s_h : h.1 = tb_SH) (l0 : Nat) (l1 : Nat) (l2 : Int32) (l3 : Int32) (l4 : Int32) (z0 : Int32) (w5 : Value) (w6 : Value) (f_l0 : mi_o l0 8 = true) {r : ((Int32 × Int32 × Int32) ⊕ Int32 ⊕ Unit)} (hm : t_wordOf_71 l0 l1 l2 l3 l4 z0 h = some r) (hE : E_t_wordOf_7 b L xs d Q h l0 l1 r) : PW b L xs d 139 0 0 71 [(Value.ref l0), (Value.ref (pm_B + l1)), (Value.int l2), (Value.int l3), (Value.int l4), w5, w6] [(Value.int z0)] h Q := by
  rw [t_wordOf_71] at hm
  refine pw_t (pc := 71) d139_71 rfl rfl rfl (n := 2) (ls' := [(Value.ref l0), (Value.ref (pm_B + l1)), (Value.int l2), (Value.int l3), (Value.int l4), (mi_w w5), (Value.int z0)]) (st' := []) (by by_cases hw : Value.category w5 = 2 <;> simp [pm_sto, pm_sI, pm_sL, pm_sA, pm_inc, pm_st1, pm_st2, pm_pre, mi_w, hw] <;> first | done | exact ⟨by decide, rfl⟩ | rfl) ?_
  refine pw_l (pc := 73) d139_73 rfl rfl rfl ?_
  refine pw_zeq (pc := 75) (t := 84) d139_75 (by decide) (fun c1 => ?_) (fun c1 => ?_)
  · rw [if_pos c1] at hm
    refine pw_s (pc := 84) d139_84 rfl rfl ?_
    exact t_t_wordOf_85 b L xs d hd h s_h l0 l1 l2 l4 (Int32.ofInt (-1)) (Value.int l3) (mi_w w5) (Value.int z0) f_l0  hm hE
  · rw [if_neg c1] at hm
    refine pw_l (pc := 78) d139_78 rfl rfl rfl ?_
    refine pw_s (pc := 79) d139_79 rfl rfl ?_
    refine pw_s (pc := 80) d139_80 rfl rfl ?_
    refine pw_go (pc := 81) (t := 85) d139_81 (by decide) ?_
    exact t_t_wordOf_85 b L xs d hd h s_h l0 l1 l2 l4 (l3 + (Int32.ofInt 1)) (Value.int l3) (mi_w w5) (Value.int z0) f_l0  hm hE
noncomputable def t_wordOf_7 (l0 : Nat) (l1 : Nat) (l2 : Int32) (l3 : Int32) (l4 : Int32) (h : pm_H) : Option ((Int32 × Int32 × Int32) ⊕ Int32 ⊕ Unit) := if ¬ (h.2.1 l0 2) = (Int32.ofInt 2) then (some (.inr (.inr ()))) else ((tx_n l1).bind fun q2 => if q2 ≤ l4 then (some (.inr (.inr ()))) else ((tx_c l1 l4).bind fun q4 => if q4 = (Int8.ofInt 32).toInt32 then (if ¬ l3 = (h.2.1 l0 5) then (some (.inl ((l2 + Int32.ofInt 1), (Int32.ofInt 0), (l4 + Int32.ofInt 1)))) else (some (.inr (.inl l2)))) else (if l3 < 0 then (t_wordOf_71 l0 l1 l2 l3 l4 (Int32.ofInt 0) h) else (if (h.2.1 l0 5) ≤ l3 then (t_wordOf_71 l0 l1 l2 l3 l4 (Int32.ofInt 0) h) else ((t_byteAt l0 ((h.2.1 l0 3) + l3) h).bind fun q9 => if ¬ q9 = q4 then (t_wordOf_71 l0 l1 l2 l3 l4 (Int32.ofInt 0) h) else (t_wordOf_71 l0 l1 l2 l3 l4 (Int32.ofInt 1) h))))))
theorem t_t_wordOf_7 (b : Bool) (L : Nat) (xs : Nat → Int32) (d : Nat) (hd : 8 ≤ d) {Q : Option Value → pm_H → Prop} (h : pm_H) (s_h : h.1 = tb_SH) (l0 : Nat) (l1 : Nat) (l2 : Int32) (l3 : Int32) (l4 : Int32) (w5 : Value) (w6 : Value) (f_l0 : mi_o l0 8 = true) {r : ((Int32 × Int32 × Int32) ⊕ Int32 ⊕ Unit)} (hm : t_wordOf_7 l0 l1 l2 l3 l4 h = some r) (hE : E_t_wordOf_7 b L xs d Q h l0 l1 r) : PW b L xs d 139 0 0 7 [(Value.ref l0), (Value.ref (pm_B + l1)), (Value.int l2), (Value.int l3), (Value.int l4), w5, w6] [] h Q := by
  rw [t_wordOf_7] at hm
  refine pw_l (pc := 7) d139_7 rfl rfl rfl ?_
  refine pw_gi (pc := 8) d139_8 (k139_19 b) (sho s_h f_l0) f8_2 ?_
  refine pw_s (pc := 11) d139_11 rfl rfl ?_
  refine pw_ine (pc := 12) (t := 110) d139_12 (by decide) (fun c1 => ?_) (fun c1 => ?_)
  · rw [if_pos c1] at hm
    obtain rfl := Option.some.inj hm
    exact hE   (Value.ref l0) (Value.ref (pm_B + l1)) (Value.int l2) (Value.int l3) (Value.int l4) w5 w6
  · rw [if_neg c1] at hm
    refine pw_l (pc := 15) d139_15 rfl rfl rfl ?_
    refine pw_l (pc := 17) d139_17 rfl rfl rfl ?_
    obtain ⟨q2, e_q2, hm⟩ := ob_x hm
    refine pw_txn (pc := 18) (by omega) d139_18 (k139_47 b) s_h (Nat.le_of_ble_eq_true rfl) e_q2 ?_
    refine pw_ige (pc := 21) (t := 110) d139_21 (by decide) (fun c3 => ?_) (fun c3 => ?_)
    · rw [if_pos c3] at hm
      obtain rfl := Option.some.inj hm
      exact hE   (Value.ref l0) (Value.ref (pm_B + l1)) (Value.int l2) (Value.int l3) (Value.int l4) w5 w6
    · rw [if_neg c3] at hm
      refine pw_l (pc := 24) d139_24 rfl rfl rfl ?_
      refine pw_l (pc := 25) d139_25 rfl rfl rfl ?_
      obtain ⟨q4, e_q4, hm⟩ := ob_x hm
      refine pw_txc (pc := 27) (by omega) d139_27 (k139_52 b) s_h (Nat.le_of_ble_eq_true rfl) e_q4 ?_
      refine pw_t (pc := 30) d139_30 rfl rfl rfl rfl ?_
      refine pw_l (pc := 32) d139_32 rfl rfl rfl ?_
      refine pw_s (pc := 34) d139_34 rfl rfl ?_
      refine pw_ieq (pc := 36) (t := 89) d139_36 (by decide) (fun c5 => ?_) (fun c5 => ?_)
      · rw [if_pos c5] at hm
        refine pw_l (pc := 89) d139_89 rfl rfl rfl ?_
        refine pw_l (pc := 90) d139_90 rfl rfl rfl ?_
        refine pw_gi (pc := 91) d139_91 (k139_28 b) (sho s_h f_l0) f8_5 ?_
        refine pw_ine (pc := 94) (t := 99) d139_94 (by decide) (fun c6 => ?_) (fun c6 => ?_)
        · rw [if_pos c6] at hm
          refine pw_t (pc := 99) d139_99 rfl rfl rfl rfl ?_
          refine pw_s (pc := 102) d139_102 rfl rfl ?_
          refine pw_t (pc := 103) d139_103 rfl rfl rfl rfl ?_
          refine pw_t (pc := 104) d139_104 rfl rfl rfl rfl ?_
          refine pw_go (pc := 107) (t := 7) d139_107 (by decide) ?_
          obtain rfl := Option.some.inj hm
          exact hE   (Value.int q4) w6
        · rw [if_neg c6] at hm
          obtain rfl := Option.some.inj hm
          exact hE   (Value.ref l0) (Value.ref (pm_B + l1)) (Value.int l3) (Value.int l4) (Value.int q4) w6
      · rw [if_neg c5] at hm
        refine pw_l (pc := 39) d139_39 rfl rfl rfl ?_
        refine pw_zlt (pc := 40) (t := 70) d139_40 (by decide) (fun c7 => ?_) (fun c7 => ?_)
        · rw [if_pos c7] at hm
          refine pw_s (pc := 70) d139_70 rfl rfl ?_
          exact t_t_wordOf_71 b L xs d hd h s_h l0 l1 l2 l3 l4 (Int32.ofInt 0) (Value.int q4) w6 f_l0  hm hE
        · rw [if_neg c7] at hm
          refine pw_l (pc := 43) d139_43 rfl rfl rfl ?_
          refine pw_l (pc := 44) d139_44 rfl rfl rfl ?_
          refine pw_gi (pc := 45) d139_45 (k139_28 b) (sho s_h f_l0) f8_5 ?_
          refine pw_ige (pc := 48) (t := 70) d139_48 (by decide) (fun c8 => ?_) (fun c8 => ?_)
          · rw [if_pos c8] at hm
            refine pw_s (pc := 70) d139_70 rfl rfl ?_
            exact t_t_wordOf_71 b L xs d hd h s_h l0 l1 l2 l3 l4 (Int32.ofInt 0) (Value.int q4) w6 f_l0  hm hE
          · rw [if_neg c8] at hm
            refine pw_l (pc := 51) d139_51 rfl rfl rfl ?_
            refine pw_l (pc := 52) d139_52 rfl rfl rfl ?_
            refine pw_gi (pc := 53) d139_53 (k139_22 b) (sho s_h f_l0) f8_3 ?_
            refine pw_l (pc := 56) d139_56 rfl rfl rfl ?_
            refine pw_s (pc := 57) d139_57 rfl rfl ?_
            obtain ⟨q9, e_q9, hm⟩ := ob_x hm
            refine pw_v (pc := 58) (k := l0) (by omega) d139_58 (k139_40 b) (by decide) m137 (by decide) rfl (sho s_h f_l0) (Nat.le_of_ble_eq_true rfl) (Nat.le_of_ble_eq_true rfl) rfl rfl (T_t_byteAt b L xs (d - 1) (by omega) h s_h l0 ((h.2.1 l0 3) + l3) f_l0 e_q9) (fun v0 h0 hq => ?_)
            obtain ⟨rfl, hh0, s_q9⟩ := hq
            rw [hh0] at s_q9 ⊢
            simp only [Option.toList_some, List.cons_append, List.nil_append]
            refine pw_l (pc := 61) d139_61 rfl rfl rfl ?_
            refine pw_ine (pc := 63) (t := 70) d139_63 (by decide) (fun c10 => ?_) (fun c10 => ?_)
            · rw [if_pos c10] at hm
              refine pw_s (pc := 70) d139_70 rfl rfl ?_
              exact t_t_wordOf_71 b L xs d hd h s_h l0 l1 l2 l3 l4 (Int32.ofInt 0) (Value.int q4) w6 f_l0  hm hE
            · rw [if_neg c10] at hm
              refine pw_s (pc := 66) d139_66 rfl rfl ?_
              refine pw_go (pc := 67) (t := 71) d139_67 (by decide) ?_
              exact t_t_wordOf_71 b L xs d hd h s_h l0 l1 l2 l3 l4 (Int32.ofInt 1) (Value.int q4) w6 f_l0  hm hE
noncomputable def t_wordOf (l0 : Nat) (l1 : Nat) (h : pm_H) : Option Int32 := (wh (fun s : (Int32 × Int32 × Int32) => t_wordOf_7 l0 l1 s.1 s.2.1 s.2.2 h) ((Int32.ofInt 0), (Int32.ofInt 0), (Int32.ofInt 0))).bind fun q1 => (match q1 with | (.inl eq1_0) => some eq1_0 | (.inr eq1_1) => some (Int32.ofInt (-1)))
theorem T_t_wordOf (b : Bool) (L : Nat) (xs : Nat → Int32) (d : Nat) (hd : 8 ≤ d) (h : pm_H) (s_h : h.1 = tb_SH) (l0 : Nat) (l1 : Nat) (f_l0 : mi_o l0 8 = true) {r : Int32} (hm : t_wordOf l0 l1 h = some r) : PC b L xs d 139 [(Value.ref l0), (Value.ref (pm_B + l1))] h (fun (v0 : Option Value) (h2 : pm_H) => v0 = (some (Value.int r)) ∧ h2 = h ∧ h2.1 = tb_SH) := by
  refine pc_in e139 (ls0 := [(Value.ref l0), (Value.ref (pm_B + l1)), Value.retAddr 0, Value.retAddr 0, Value.retAddr 0, Value.retAddr 0, Value.retAddr 0]) rfl ?_
  have key : ∀ (Q : Option Value → pm_H → Prop), (Q (some (Value.int r)) h) → PW b L xs d 139 0 0 0 [(Value.ref l0), (Value.ref (pm_B + l1)), Value.retAddr 0, Value.retAddr 0, Value.retAddr 0, Value.retAddr 0, Value.retAddr 0] [] h Q := by
    intro Q hE
    rw [t_wordOf] at hm
    refine pw_s (pc := 0) d139_0 rfl rfl ?_
    refine pw_t (pc := 1) d139_1 rfl rfl rfl rfl ?_
    refine pw_s (pc := 2) d139_2 rfl rfl ?_
    refine pw_t (pc := 3) d139_3 rfl rfl rfl rfl ?_
    refine pw_s (pc := 4) d139_4 rfl rfl ?_
    refine pw_t (pc := 5) d139_5 rfl rfl rfl rfl ?_
    obtain ⟨q1, e_q1, hm⟩ := ob_x hm
    refine wh_ind e_q1 (fun s : (Int32 × Int32 × Int32) => ∀ w5 w6 : Value, PW b L xs d 139 0 0 7 [(Value.ref l0), (Value.ref (pm_B + l1)), (Value.int s.1), (Value.int s.2.1), (Value.int s.2.2), w5, w6] [] h Q) (fun s s2 hf ih w5 w6 => t_t_wordOf_7 b L xs d hd h s_h l0 l1 s.1 s.2.1 s.2.2 w5 w6 f_l0 hf ih) (fun s hf w5 w6 => t_t_wordOf_7 b L xs d hd h s_h l0 l1 s.1 s.2.1 s.2.2 w5 w6 f_l0 hf ?_)   (Value.retAddr 0) (Value.retAddr 0)
    rcases q1 with eq1_0 | eq1_1
    · dsimp only at hm
      intro w0 w1 w3 w4 w5 w6
      refine pw_l (pc := 97) d139_97 rfl rfl rfl ?_
      obtain rfl := Option.some.inj hm
      refine pw_ri (pc := 98) d139_98 t139 rfl ?_
      exact hE
    · dsimp only at hm
      intro w0 w1 w2 w3 w4 w5 w6
      refine pw_s (pc := 110) d139_110 rfl rfl ?_
      obtain rfl := Option.some.inj hm
      refine pw_ri (pc := 111) d139_111 t139 rfl ?_
      exact hE
  exact key _ ⟨rfl, rfl, s_h⟩
noncomputable def t_isSign (l0 : Nat) (l1 : Int32) (h : pm_H) : Option Int32 := if ¬ (h.2.1 l0 2) = (Int32.ofInt 3) then (some (Int32.ofInt 0)) else (if ¬ (h.2.1 l0 6) = l1 then (some (Int32.ofInt 0)) else (some (Int32.ofInt 1)))
theorem T_t_isSign (b : Bool) (L : Nat) (xs : Nat → Int32) (d : Nat) (hd : 0 ≤ d) (h : pm_H) (s_h : h.1 = tb_SH) (l0 : Nat) (l1 : Int32) (f_l0 : mi_o l0 8 = true) {r : Int32} (hm : t_isSign l0 l1 h = some r) : PC b L xs d 140 [(Value.ref l0), (Value.int l1)] h (fun (v0 : Option Value) (h2 : pm_H) => v0 = (some (Value.int r)) ∧ h2 = h ∧ h2.1 = tb_SH) := by
  refine pc_in e140 (ls0 := [(Value.ref l0), (Value.int l1)]) rfl ?_
  have key : ∀ (Q : Option Value → pm_H → Prop), (Q (some (Value.int r)) h) → PW b L xs d 140 0 0 0 [(Value.ref l0), (Value.int l1)] [] h Q := by
    intro Q hE
    rw [t_isSign] at hm
    refine pw_l (pc := 0) d140_0 rfl rfl rfl ?_
    refine pw_gi (pc := 1) d140_1 (k140_19 b) (sho s_h f_l0) f8_2 ?_
    refine pw_s (pc := 4) d140_4 rfl rfl ?_
    refine pw_ine (pc := 5) (t := 20) d140_5 (by decide) (fun c1 => ?_) (fun c1 => ?_)
    · rw [if_pos c1] at hm
      refine pw_s (pc := 20) d140_20 rfl rfl ?_
      obtain rfl := Option.some.inj hm
      refine pw_ri (pc := 21) d140_21 t140 rfl ?_
      exact hE
    · rw [if_neg c1] at hm
      refine pw_l (pc := 8) d140_8 rfl rfl rfl ?_
      refine pw_gi (pc := 9) d140_9 (k140_31 b) (sho s_h f_l0) f8_6 ?_
      refine pw_l (pc := 12) d140_12 rfl rfl rfl ?_
      refine pw_ine (pc := 13) (t := 20) d140_13 (by decide) (fun c2 => ?_) (fun c2 => ?_)
      · rw [if_pos c2] at hm
        refine pw_s (pc := 20) d140_20 rfl rfl ?_
        obtain rfl := Option.some.inj hm
        refine pw_ri (pc := 21) d140_21 t140 rfl ?_
        exact hE
      · rw [if_neg c2] at hm
        refine pw_s (pc := 16) d140_16 rfl rfl ?_
        refine pw_go (pc := 17) (t := 21) d140_17 (by decide) ?_
        obtain rfl := Option.some.inj hm
        refine pw_ri (pc := 21) d140_21 t140 rfl ?_
        exact hE
  exact key _ ⟨rfl, rfl, s_h⟩
noncomputable def t_blame (l0 : Nat) (l1 : Int32) (l2 : Int32) (h : pm_H) : Option (Int32 × pm_H) := bd (pm_setI h l0 7 (((Int32.ofInt 1) + ((Int8.ofInt 8).toInt32 * l1)) + l2)) fun h1 => some ((Int32.ofInt 0), h1)
theorem T_t_blame (b : Bool) (L : Nat) (xs : Nat → Int32) (d : Nat) (hd : 0 ≤ d) (h : pm_H) (s_h : h.1 = tb_SH) (l0 : Nat) (l1 : Int32) (l2 : Int32) (f_l0 : mi_o l0 8 = true) {r : (Int32 × pm_H)} (hm : t_blame l0 l1 l2 h = some r) : PC b L xs d 141 [(Value.ref l0), (Value.int l1), (Value.int l2)] h (fun (v0 : Option Value) (h2 : pm_H) => v0 = (some (Value.int r.1)) ∧ h2 = r.2 ∧ h2.1 = tb_SH) := by
  refine pc_in e141 (ls0 := [(Value.ref l0), (Value.int l1), (Value.int l2)]) rfl ?_
  have key : ∀ (Q : Option Value → pm_H → Prop), (r.2.1 = tb_SH → Q (some (Value.int r.1)) r.2) → PW b L xs d 141 0 0 0 [(Value.ref l0), (Value.int l1), (Value.int l2)] [] h Q := by
    intro Q hE
    rw [t_blame] at hm
    refine pw_l (pc := 0) d141_0 rfl rfl rfl ?_
    refine pw_s (pc := 1) d141_1 rfl rfl ?_
    refine pw_s (pc := 2) d141_2 rfl rfl ?_
    refine pw_l (pc := 4) d141_4 rfl rfl rfl ?_
    refine pw_s (pc := 5) d141_5 rfl rfl ?_
    refine pw_s (pc := 6) d141_6 rfl rfl ?_
    refine pw_l (pc := 7) d141_7 rfl rfl rfl ?_
    refine pw_s (pc := 8) d141_8 rfl rfl ?_
    refine pw_pi (pc := 9) d141_9 (k141_34 b) (sho s_h f_l0) p141_8_7 ?_
    obtain ⟨h1, e_h1, hm⟩ := bd_x hm
    rw [e_h1]
    have s_h1 : h1.1 = tb_SH := by rw [← e_h1]; exact s_h
    refine pw_s (pc := 12) d141_12 rfl rfl ?_
    obtain rfl := Option.some.inj hm
    refine pw_ri (pc := 13) d141_13 t141 rfl ?_
    exact hE s_h1
  exact key _ (fun q => ⟨rfl, rfl, q⟩)
noncomputable def t_kindOf_20 (l0 : Int32) (h : pm_H) : Option Int32 := if l0 < (Int8.ofInt 97).toInt32 then (some (Int32.ofInt 3)) else (if (Int8.ofInt 122).toInt32 < l0 then (some (Int32.ofInt 3)) else (some (Int32.ofInt 2)))
theorem t_t_kindOf_20 (b : Bool) (L : Nat) (xs : Nat → Int32) (d : Nat) (hd : 0 ≤ d) {Q : Option Value → pm_H → Prop} (h : pm_H) (s_h : h.1 = tb_SH) (l0 : Int32) {r : Int32} (hm : t_kindOf_20 l0 h = some r) (hE : Q (some (Value.int r)) h) : PW b L xs d 142 0 0 20 [(Value.int l0)] [] h Q := by
  rw [t_kindOf_20] at hm
  refine pw_l (pc := 20) d142_20 rfl rfl rfl ?_
  refine pw_s (pc := 21) d142_21 rfl rfl ?_
  refine pw_ilt (pc := 23) (t := 36) d142_23 (by decide) (fun c1 => ?_) (fun c1 => ?_)
  · rw [if_pos c1] at hm
    refine pw_s (pc := 36) d142_36 rfl rfl ?_
    obtain rfl := Option.some.inj hm
    refine pw_ri (pc := 37) d142_37 t142 rfl ?_
    exact hE
  · rw [if_neg c1] at hm
    refine pw_l (pc := 26) d142_26 rfl rfl rfl ?_
    refine pw_s (pc := 27) d142_27 rfl rfl ?_
    refine pw_igt (pc := 29) (t := 36) d142_29 (by decide) (fun c2 => ?_) (fun c2 => ?_)
    · rw [if_pos c2] at hm
      refine pw_s (pc := 36) d142_36 rfl rfl ?_
      obtain rfl := Option.some.inj hm
      refine pw_ri (pc := 37) d142_37 t142 rfl ?_
      exact hE
    · rw [if_neg c2] at hm
      refine pw_s (pc := 32) d142_32 rfl rfl ?_
      refine pw_go (pc := 33) (t := 37) d142_33 (by decide) ?_
      obtain rfl := Option.some.inj hm
      refine pw_ri (pc := 37) d142_37 t142 rfl ?_
      exact hE
noncomputable def t_kindOf (l0 : Int32) (h : pm_H) : Option Int32 := if 0 ≤ l0 then (if l0 < (Int8.ofInt 48).toInt32 then (t_kindOf_20 l0 h) else (if (Int8.ofInt 57).toInt32 < l0 then (t_kindOf_20 l0 h) else (some (Int32.ofInt 1)))) else (some (Int32.ofInt 0))
theorem T_t_kindOf (b : Bool) (L : Nat) (xs : Nat → Int32) (d : Nat) (hd : 0 ≤ d) (h : pm_H) (s_h : h.1 = tb_SH) (l0 : Int32) {r : Int32} (hm : t_kindOf l0 h = some r) : PC b L xs d 142 [(Value.int l0)] h (fun (v0 : Option Value) (h2 : pm_H) => v0 = (some (Value.int r)) ∧ h2 = h ∧ h2.1 = tb_SH) := by
  refine pc_in e142 (ls0 := [(Value.int l0)]) rfl ?_
  have key : ∀ (Q : Option Value → pm_H → Prop), (Q (some (Value.int r)) h) → PW b L xs d 142 0 0 0 [(Value.int l0)] [] h Q := by
    intro Q hE
    rw [t_kindOf] at hm
    refine pw_l (pc := 0) d142_0 rfl rfl rfl ?_
    refine pw_zge (pc := 1) (t := 6) d142_1 (by decide) (fun c1 => ?_) (fun c1 => ?_)
    · rw [if_pos c1] at hm
      refine pw_l (pc := 6) d142_6 rfl rfl rfl ?_
      refine pw_s (pc := 7) d142_7 rfl rfl ?_
      refine pw_ilt (pc := 9) (t := 20) d142_9 (by decide) (fun c2 => ?_) (fun c2 => ?_)
      · rw [if_pos c2] at hm
        exact t_t_kindOf_20 b L xs d hd h s_h l0    hm hE
      · rw [if_neg c2] at hm
        refine pw_l (pc := 12) d142_12 rfl rfl rfl ?_
        refine pw_s (pc := 13) d142_13 rfl rfl ?_
        refine pw_igt (pc := 15) (t := 20) d142_15 (by decide) (fun c3 => ?_) (fun c3 => ?_)
        · rw [if_pos c3] at hm
          exact t_t_kindOf_20 b L xs d hd h s_h l0    hm hE
        · rw [if_neg c3] at hm
          refine pw_s (pc := 18) d142_18 rfl rfl ?_
          obtain rfl := Option.some.inj hm
          refine pw_ri (pc := 19) d142_19 t142 rfl ?_
          exact hE
    · rw [if_neg c1] at hm
      refine pw_s (pc := 4) d142_4 rfl rfl ?_
      obtain rfl := Option.some.inj hm
      refine pw_ri (pc := 5) d142_5 t142 rfl ?_
      exact hE
  exact key _ ⟨rfl, rfl, s_h⟩
noncomputable def s_isFull (l0 : Nat) (l1 : Int32) (h : pm_H) : Option Int32 := if l1 = (1 : Int32) then (if (h.2.1 l0 1) < (Int8.ofInt 8).toInt32 then (some (Int32.ofInt 0)) else (some (Int32.ofInt 1))) else (if l1 = (2 : Int32) then (if (h.2.1 l0 2) < (Int8.ofInt 8).toInt32 then (some (Int32.ofInt 0)) else (some (Int32.ofInt 1))) else (if l1 = (3 : Int32) then (if (h.2.1 l0 3) < (Int8.ofInt 10).toInt32 then (some (Int32.ofInt 0)) else (some (Int32.ofInt 1))) else (some (Int32.ofInt 0))))
theorem T_s_isFull (b : Bool) (L : Nat) (xs : Nat → Int32) (d : Nat) (hd : 0 ≤ d) (h : pm_H) (s_h : h.1 = tb_SH) (l0 : Nat) (l1 : Int32) (f_l0 : mi_o l0 7 = true) {r : Int32} (hm : s_isFull l0 l1 h = some r) : PC b L xs d 127 [(Value.ref l0), (Value.int l1)] h (fun (v0 : Option Value) (h2 : pm_H) => v0 = (some (Value.int r)) ∧ h2 = h ∧ h2.1 = tb_SH) := by
  refine pc_in e127 (ls0 := [(Value.ref l0), (Value.int l1)]) rfl ?_
  have key : ∀ (Q : Option Value → pm_H → Prop), (Q (some (Value.int r)) h) → PW b L xs d 127 0 0 0 [(Value.ref l0), (Value.int l1)] [] h Q := by
    intro Q hE
    rw [s_isFull] at hm
    refine pw_l (pc := 0) d127_0 rfl rfl rfl ?_
    by_cases c1 : l1 = (1 : Int32)
    · rw [if_pos c1] at hm
      refine pw_tin (pc := 1) (t := 28) (off := 27) d127_1 (by rw [c1]; decide) (by rw [c1]; decide +kernel) (by decide) ?_
      refine pw_l (pc := 28) d127_28 rfl rfl rfl ?_
      refine pw_gi (pc := 29) d127_29 (k127_15 b) (sho s_h f_l0) f7_1 ?_
      refine pw_s (pc := 32) d127_32 rfl rfl ?_
      refine pw_ilt (pc := 34) (t := 41) d127_34 (by decide) (fun c2 => ?_) (fun c2 => ?_)
      · rw [if_pos c2] at hm
        refine pw_s (pc := 41) d127_41 rfl rfl ?_
        obtain rfl := Option.some.inj hm
        refine pw_ri (pc := 42) d127_42 t127 rfl ?_
        exact hE
      · rw [if_neg c2] at hm
        refine pw_s (pc := 37) d127_37 rfl rfl ?_
        refine pw_go (pc := 38) (t := 42) d127_38 (by decide) ?_
        obtain rfl := Option.some.inj hm
        refine pw_ri (pc := 42) d127_42 t127 rfl ?_
        exact hE
    rw [if_neg c1] at hm
    by_cases c3 : l1 = (2 : Int32)
    · rw [if_pos c3] at hm
      refine pw_tin (pc := 1) (t := 43) (off := 42) d127_1 (by rw [c3]; decide) (by rw [c3]; decide +kernel) (by decide) ?_
      refine pw_l (pc := 43) d127_43 rfl rfl rfl ?_
      refine pw_gi (pc := 44) d127_44 (k127_18 b) (sho s_h f_l0) f7_2 ?_
      refine pw_s (pc := 47) d127_47 rfl rfl ?_
      refine pw_ilt (pc := 49) (t := 56) d127_49 (by decide) (fun c4 => ?_) (fun c4 => ?_)
      · rw [if_pos c4] at hm
        refine pw_s (pc := 56) d127_56 rfl rfl ?_
        obtain rfl := Option.some.inj hm
        refine pw_ri (pc := 57) d127_57 t127 rfl ?_
        exact hE
      · rw [if_neg c4] at hm
        refine pw_s (pc := 52) d127_52 rfl rfl ?_
        refine pw_go (pc := 53) (t := 57) d127_53 (by decide) ?_
        obtain rfl := Option.some.inj hm
        refine pw_ri (pc := 57) d127_57 t127 rfl ?_
        exact hE
    rw [if_neg c3] at hm
    by_cases c5 : l1 = (3 : Int32)
    · rw [if_pos c5] at hm
      refine pw_tin (pc := 1) (t := 58) (off := 57) d127_1 (by rw [c5]; decide) (by rw [c5]; decide +kernel) (by decide) ?_
      refine pw_l (pc := 58) d127_58 rfl rfl rfl ?_
      refine pw_gi (pc := 59) d127_59 (k127_21 b) (sho s_h f_l0) f7_3 ?_
      refine pw_s (pc := 62) d127_62 rfl rfl ?_
      refine pw_ilt (pc := 64) (t := 71) d127_64 (by decide) (fun c6 => ?_) (fun c6 => ?_)
      · rw [if_pos c6] at hm
        refine pw_s (pc := 71) d127_71 rfl rfl ?_
        obtain rfl := Option.some.inj hm
        refine pw_ri (pc := 72) d127_72 t127 rfl ?_
        exact hE
      · rw [if_neg c6] at hm
        refine pw_s (pc := 67) d127_67 rfl rfl ?_
        refine pw_go (pc := 68) (t := 72) d127_68 (by decide) ?_
        obtain rfl := Option.some.inj hm
        refine pw_ri (pc := 72) d127_72 t127 rfl ?_
        exact hE
    rw [if_neg c5] at hm
    refine pw_tout (pc := 1) (t := 73) d127_1 (mi_sw (x := l1) (lo := 1) (n := 3) (by decide) (by decide) (fun j hj => match j, hj with | 0, _ => c1 | 1, _ => c3 | 2, _ => c5 | j + 3, h => absurd h (by omega))) (by decide) ?_
    refine pw_s (pc := 73) d127_73 rfl rfl ?_
    obtain rfl := Option.some.inj hm
    refine pw_ri (pc := 74) d127_74 t127 rfl ?_
    exact hE
  exact key _ ⟨rfl, rfl, s_h⟩
def E_t_advance_117 (b : Bool) (L : Nat) (xs : Nat → Int32) (d : Nat) (Q : Option Value → pm_H → Prop) (l0 : Nat) : ((Int32 × pm_H) ⊕ (Int32 × pm_H)) → Prop
  | .inl s => s.2.1 = tb_SH → PW b L xs d 136 0 0 117 [(Value.ref l0), (Value.int s.1)] [] s.2 Q
  | .inr e => e.2.1 = tb_SH → PW b L xs d 136 0 0 184 [(Value.ref l0), (Value.int e.1)] [] e.2 Q
def E_t_advance_5 (b : Bool) (L : Nat) (xs : Nat → Int32) (d : Nat) (Q : Option Value → pm_H → Prop) (l0 : Nat) : ((Int32 × pm_H) ⊕ (Int32 × pm_H)) → Prop
  | .inl s => s.2.1 = tb_SH → PW b L xs d 136 0 0 5 [(Value.ref l0), (Value.int s.1)] [] s.2 Q
  | .inr e => e.2.1 = tb_SH → PW b L xs d 136 0 0 29 [(Value.ref l0), (Value.int e.1)] [] e.2 Q
noncomputable def t_advance_184 (l0 : Nat) (l1 : Int32) (h : pm_H) : Option pm_H := bd (pm_setI h l0 4 l1) fun h1 => bd (pm_setI h1 l0 5 (l1 - (h1.2.1 l0 3))) fun h2 => some h2
theorem t_t_advance_184 (b : Bool) (L : Nat) (xs : Nat → Int32) (d : Nat) (hd : 1 ≤ d) {Q : Option Value → pm_H → Prop} (h : pm_H) (s_h : h.1 = tb_SH) (l0 : Nat) (l1 : Int32) (f_l0 : mi_o l0 8 = true) {r : pm_H} (hm : t_advance_184 l0 l1 h = some r) (hE : r.1 = tb_SH → Q none r) : PW b L xs d 136 0 0 184 [(Value.ref l0), (Value.int l1)] [] h Q := by
  rw [t_advance_184] at hm
  refine pw_l (pc := 184) d136_184 rfl rfl rfl ?_
  refine pw_l (pc := 185) d136_185 rfl rfl rfl ?_
  refine pw_pi (pc := 186) d136_186 (k136_25 b) (sho s_h f_l0) p136_8_4 ?_
  obtain ⟨h1, e_h1, hm⟩ := bd_x hm
  rw [e_h1]
  have s_h1 : h1.1 = tb_SH := by rw [← e_h1]; exact s_h
  refine pw_l (pc := 189) d136_189 rfl rfl rfl ?_
  refine pw_l (pc := 190) d136_190 rfl rfl rfl ?_
  refine pw_l (pc := 191) d136_191 rfl rfl rfl ?_
  refine pw_gi (pc := 192) d136_192 (k136_22 b) (sho s_h1 f_l0) f8_3 ?_
  refine pw_s (pc := 195) d136_195 rfl rfl ?_
  refine pw_pi (pc := 196) d136_196 (k136_28 b) (sho s_h1 f_l0) p136_8_5 ?_
  obtain ⟨h2, e_h2, hm⟩ := bd_x hm
  rw [e_h2]
  have s_h2 : h2.1 = tb_SH := by rw [← e_h2]; exact s_h1
  obtain rfl := Option.some.inj hm
  refine pw_rv (pc := 199) d136_199 t136 ?_
  exact hE s_h2
noncomputable def t_advance_117 (l0 : Nat) (l1 : Int32) (h : pm_H) : Option ((Int32 × pm_H) ⊕ (Int32 × pm_H)) := if (h.2.1 l0 1) ≤ l1 then (some (.inr (l1, h))) else ((t_byteAt l0 l1 h).bind fun q2 => (t_kindOf q2 h).bind fun q3 => if ¬ q3 = (h.2.1 l0 2) then (some (.inr (l1, h))) else (if ¬ (h.2.1 l0 2) = (Int32.ofInt 1) then (some (.inl ((l1 + Int32.ofInt 1), h))) else (if (Int32.ofInt 5) ≤ (l1 - (h.2.1 l0 3)) then (some (.inl ((l1 + Int32.ofInt 1), h))) else ((t_byteAt l0 l1 h).bind fun q7 => bd (pm_setI h l0 6 ((((h.2.1 l0 6) * (Int8.ofInt 10).toInt32) + q7) - (Int8.ofInt 48).toInt32)) fun h8 => some (.inl ((l1 + Int32.ofInt 1), h8))))))
theorem t_t_advance_117 (b : Bool) (L : Nat) (xs : Nat → Int32) (d : Nat) (hd : 1 ≤ d) {Q : Option Value → pm_H → Prop} (h : pm_H) (s_h : h.1 = tb_SH) (l0 : Nat) (l1 : Int32) (f_l0 : mi_o l0 8 = true) {r : ((Int32 × pm_H) ⊕ (Int32 × pm_H))} (hm : t_advance_117 l0 l1 h = some r) (hE : E_t_advance_117 b L xs d Q l0 r) : PW b L xs d 136 0 0 117 [(Value.ref l0), (Value.int l1)] [] h Q := by
  rw [t_advance_117] at hm
  refine pw_l (pc := 117) d136_117 rfl rfl rfl ?_
  refine pw_l (pc := 118) d136_118 rfl rfl rfl ?_
  refine pw_gi (pc := 119) d136_119 (k136_15 b) (sho s_h f_l0) f8_1 ?_
  refine pw_ige (pc := 122) (t := 184) d136_122 (by decide) (fun c1 => ?_) (fun c1 => ?_)
  · rw [if_pos c1] at hm
    obtain rfl := Option.some.inj hm
    exact hE s_h  
  · rw [if_neg c1] at hm
    refine pw_l (pc := 125) d136_125 rfl rfl rfl ?_
    refine pw_l (pc := 126) d136_126 rfl rfl rfl ?_
    obtain ⟨q2, e_q2, hm⟩ := ob_x hm
    refine pw_v (pc := 127) (k := l0) (by omega) d136_127 (k136_40 b) (by decide) m137 (by decide) rfl (sho s_h f_l0) (Nat.le_of_ble_eq_true rfl) (Nat.le_of_ble_eq_true rfl) rfl rfl (T_t_byteAt b L xs (d - 1) (by omega) h s_h l0 l1 f_l0 e_q2) (fun v0 h0 hq => ?_)
    obtain ⟨rfl, hh0, s_q2⟩ := hq
    rw [hh0] at s_q2 ⊢
    simp only [Option.toList_some, List.cons_append, List.nil_append]
    obtain ⟨q3, e_q3, hm⟩ := ob_x hm
    refine pw_u (pc := 130) (by omega) d136_130 (k136_44 b) (by decide) m142 (Nat.le_of_ble_eq_true rfl) (Nat.le_of_ble_eq_true rfl) (Nat.le_of_ble_eq_true rfl) rfl rfl (T_t_kindOf b L xs (d - 1) (by omega) h s_h q2  e_q3) (fun v0 h0 hq => ?_)
    obtain ⟨rfl, hh0, s_q3⟩ := hq
    rw [hh0] at s_q3 ⊢
    simp only [Option.toList_some, List.cons_append, List.nil_append]
    refine pw_l (pc := 133) d136_133 rfl rfl rfl ?_
    refine pw_gi (pc := 134) d136_134 (k136_19 b) (sho s_h f_l0) f8_2 ?_
    refine pw_ine (pc := 137) (t := 184) d136_137 (by decide) (fun c4 => ?_) (fun c4 => ?_)
    · rw [if_pos c4] at hm
      obtain rfl := Option.some.inj hm
      exact hE s_h  
    · rw [if_neg c4] at hm
      refine pw_l (pc := 140) d136_140 rfl rfl rfl ?_
      refine pw_gi (pc := 141) d136_141 (k136_19 b) (sho s_h f_l0) f8_2 ?_
      refine pw_s (pc := 144) d136_144 rfl rfl ?_
      refine pw_ine (pc := 145) (t := 178) d136_145 (by decide) (fun c5 => ?_) (fun c5 => ?_)
      · rw [if_pos c5] at hm
        refine pw_t (pc := 178) d136_178 rfl rfl rfl rfl ?_
        refine pw_go (pc := 181) (t := 117) d136_181 (by decide) ?_
        obtain rfl := Option.some.inj hm
        exact hE s_h  
      · rw [if_neg c5] at hm
        refine pw_l (pc := 148) d136_148 rfl rfl rfl ?_
        refine pw_l (pc := 149) d136_149 rfl rfl rfl ?_
        refine pw_gi (pc := 150) d136_150 (k136_22 b) (sho s_h f_l0) f8_3 ?_
        refine pw_s (pc := 153) d136_153 rfl rfl ?_
        refine pw_s (pc := 154) d136_154 rfl rfl ?_
        refine pw_ige (pc := 155) (t := 178) d136_155 (by decide) (fun c6 => ?_) (fun c6 => ?_)
        · rw [if_pos c6] at hm
          refine pw_t (pc := 178) d136_178 rfl rfl rfl rfl ?_
          refine pw_go (pc := 181) (t := 117) d136_181 (by decide) ?_
          obtain rfl := Option.some.inj hm
          exact hE s_h  
        · rw [if_neg c6] at hm
          refine pw_l (pc := 158) d136_158 rfl rfl rfl ?_
          refine pw_l (pc := 159) d136_159 rfl rfl rfl ?_
          refine pw_gi (pc := 160) d136_160 (k136_31 b) (sho s_h f_l0) f8_6 ?_
          refine pw_s (pc := 163) d136_163 rfl rfl ?_
          refine pw_s (pc := 165) d136_165 rfl rfl ?_
          refine pw_l (pc := 166) d136_166 rfl rfl rfl ?_
          refine pw_l (pc := 167) d136_167 rfl rfl rfl ?_
          obtain ⟨q7, e_q7, hm⟩ := ob_x hm
          refine pw_v (pc := 168) (k := l0) (by omega) d136_168 (k136_40 b) (by decide) m137 (by decide) rfl (sho s_h f_l0) (Nat.le_of_ble_eq_true rfl) (Nat.le_of_ble_eq_true rfl) rfl rfl (T_t_byteAt b L xs (d - 1) (by omega) h s_h l0 l1 f_l0 e_q7) (fun v0 h0 hq => ?_)
          obtain ⟨rfl, hh0, s_q7⟩ := hq
          rw [hh0] at s_q7 ⊢
          simp only [Option.toList_some, List.cons_append, List.nil_append]
          refine pw_s (pc := 171) d136_171 rfl rfl ?_
          refine pw_s (pc := 172) d136_172 rfl rfl ?_
          refine pw_s (pc := 174) d136_174 rfl rfl ?_
          refine pw_pi (pc := 175) d136_175 (k136_31 b) (sho s_h f_l0) p136_8_6 ?_
          obtain ⟨h8, e_h8, hm⟩ := bd_x hm
          rw [e_h8]
          have s_h8 : h8.1 = tb_SH := by rw [← e_h8]; exact s_h
          refine pw_t (pc := 178) d136_178 rfl rfl rfl rfl ?_
          refine pw_go (pc := 181) (t := 117) d136_181 (by decide) ?_
          obtain rfl := Option.some.inj hm
          exact hE s_h8  
noncomputable def t_advance_89 (l0 : Nat) (l1 : Int32) (h : pm_H) : Option pm_H := (t_byteAt l0 l1 h).bind fun q1 => if ¬ q1 = (Int8.ofInt 61).toInt32 then (t_advance_184 l0 l1 h) else (bd (pm_setI h l0 6 ((h.2.1 l0 6) + (Int16.ofInt 256).toInt32)) fun h3 => t_advance_184 l0 (l1 + Int32.ofInt 1) h3)
theorem t_t_advance_89 (b : Bool) (L : Nat) (xs : Nat → Int32) (d : Nat) (hd : 1 ≤ d) {Q : Option Value → pm_H → Prop} (h : pm_H) (s_h : h.1 = tb_SH) (l0 : Nat) (l1 : Int32) (f_l0 : mi_o l0 8 = true) {r : pm_H} (hm : t_advance_89 l0 l1 h = some r) (hE : r.1 = tb_SH → Q none r) : PW b L xs d 136 0 0 89 [(Value.ref l0), (Value.int l1)] [] h Q := by
  rw [t_advance_89] at hm
  refine pw_l (pc := 89) d136_89 rfl rfl rfl ?_
  refine pw_l (pc := 90) d136_90 rfl rfl rfl ?_
  obtain ⟨q1, e_q1, hm⟩ := ob_x hm
  refine pw_v (pc := 91) (k := l0) (by omega) d136_91 (k136_40 b) (by decide) m137 (by decide) rfl (sho s_h f_l0) (Nat.le_of_ble_eq_true rfl) (Nat.le_of_ble_eq_true rfl) rfl rfl (T_t_byteAt b L xs (d - 1) (by omega) h s_h l0 l1 f_l0 e_q1) (fun v0 h0 hq => ?_)
  obtain ⟨rfl, hh0, s_q1⟩ := hq
  rw [hh0] at s_q1 ⊢
  simp only [Option.toList_some, List.cons_append, List.nil_append]
  refine pw_s (pc := 94) d136_94 rfl rfl ?_
  refine pw_ine (pc := 96) (t := 184) d136_96 (by decide) (fun c2 => ?_) (fun c2 => ?_)
  · rw [if_pos c2] at hm
    exact t_t_advance_184 b L xs d hd h s_h l0 l1  f_l0  hm hE
  · rw [if_neg c2] at hm
    refine pw_l (pc := 99) d136_99 rfl rfl rfl ?_
    refine pw_s (pc := 100) d136_100 rfl rfl ?_
    refine pw_gi (pc := 101) d136_101 (k136_31 b) (sho s_h f_l0) f8_6 ?_
    refine pw_s (pc := 104) d136_104 rfl rfl ?_
    refine pw_s (pc := 107) d136_107 rfl rfl ?_
    refine pw_pi (pc := 108) d136_108 (k136_31 b) (sho s_h f_l0) p136_8_6 ?_
    obtain ⟨h3, e_h3, hm⟩ := bd_x hm
    rw [e_h3]
    have s_h3 : h3.1 = tb_SH := by rw [← e_h3]; exact s_h
    refine pw_t (pc := 111) d136_111 rfl rfl rfl rfl ?_
    refine pw_go (pc := 114) (t := 184) d136_114 (by decide) ?_
    exact t_t_advance_184 b L xs d hd h3 s_h3 l0 (l1 + Int32.ofInt 1)  f_l0  hm hE
noncomputable def t_advance_29 (l0 : Nat) (l1 : Int32) (h : pm_H) : Option pm_H := bd (pm_setI h l0 3 l1) fun h1 => bd (pm_setI h1 l0 6 (Int32.ofInt 0)) fun h2 => (t_byteAt l0 l1 h2).bind fun q3 => (t_kindOf q3 h2).bind fun q4 => bd (pm_setI h2 l0 2 q4) fun h5 => if ¬ (h5.2.1 l0 2) = (Int32.ofInt 3) then ((wh (fun s : (Int32 × pm_H) => t_advance_117 l0 s.1 s.2) (l1, h5)).bind fun q7 => t_advance_184 l0 q7.1 q7.2) else ((t_byteAt l0 l1 h5).bind fun q8 => bd (pm_setI h5 l0 6 q8) fun h9 => if (h9.2.1 l0 6) = (Int8.ofInt 60).toInt32 then (t_advance_89 l0 (l1 + Int32.ofInt 1) h9) else (if ¬ (h9.2.1 l0 6) = (Int8.ofInt 62).toInt32 then (t_advance_184 l0 (l1 + Int32.ofInt 1) h9) else (t_advance_89 l0 (l1 + Int32.ofInt 1) h9)))
theorem t_t_advance_29 (b : Bool) (L : Nat) (xs : Nat → Int32) (d : Nat) (hd : 1 ≤ d) {Q : Option Value → pm_H → Prop} (h : pm_H) (s_h : h.1 = tb_SH) (l0 : Nat) (l1 : Int32) (f_l0 : mi_o l0 8 = true) {r : pm_H} (hm : t_advance_29 l0 l1 h = some r) (hE : r.1 = tb_SH → Q none r) : PW b L xs d 136 0 0 29 [(Value.ref l0), (Value.int l1)] [] h Q := by
  rw [t_advance_29] at hm
  refine pw_l (pc := 29) d136_29 rfl rfl rfl ?_
  refine pw_l (pc := 30) d136_30 rfl rfl rfl ?_
  refine pw_pi (pc := 31) d136_31 (k136_22 b) (sho s_h f_l0) p136_8_3 ?_
  obtain ⟨h1, e_h1, hm⟩ := bd_x hm
  rw [e_h1]
  have s_h1 : h1.1 = tb_SH := by rw [← e_h1]; exact s_h
  refine pw_l (pc := 34) d136_34 rfl rfl rfl ?_
  refine pw_s (pc := 35) d136_35 rfl rfl ?_
  refine pw_pi (pc := 36) d136_36 (k136_31 b) (sho s_h1 f_l0) p136_8_6 ?_
  obtain ⟨h2, e_h2, hm⟩ := bd_x hm
  rw [e_h2]
  have s_h2 : h2.1 = tb_SH := by rw [← e_h2]; exact s_h1
  refine pw_l (pc := 39) d136_39 rfl rfl rfl ?_
  refine pw_l (pc := 40) d136_40 rfl rfl rfl ?_
  refine pw_l (pc := 41) d136_41 rfl rfl rfl ?_
  obtain ⟨q3, e_q3, hm⟩ := ob_x hm
  refine pw_v (pc := 42) (k := l0) (by omega) d136_42 (k136_40 b) (by decide) m137 (by decide) rfl (sho s_h2 f_l0) (Nat.le_of_ble_eq_true rfl) (Nat.le_of_ble_eq_true rfl) rfl rfl (T_t_byteAt b L xs (d - 1) (by omega) h2 s_h2 l0 l1 f_l0 e_q3) (fun v0 h0 hq => ?_)
  obtain ⟨rfl, hh0, s_q3⟩ := hq
  rw [hh0] at s_q3 ⊢
  simp only [Option.toList_some, List.cons_append, List.nil_append]
  obtain ⟨q4, e_q4, hm⟩ := ob_x hm
  refine pw_u (pc := 45) (by omega) d136_45 (k136_44 b) (by decide) m142 (Nat.le_of_ble_eq_true rfl) (Nat.le_of_ble_eq_true rfl) (Nat.le_of_ble_eq_true rfl) rfl rfl (T_t_kindOf b L xs (d - 1) (by omega) h2 s_h2 q3  e_q4) (fun v0 h0 hq => ?_)
  obtain ⟨rfl, hh0, s_q4⟩ := hq
  rw [hh0] at s_q4 ⊢
  simp only [Option.toList_some, List.cons_append, List.nil_append]
  refine pw_pi (pc := 48) d136_48 (k136_19 b) (sho s_h2 f_l0) p136_8_2 ?_
  obtain ⟨h5, e_h5, hm⟩ := bd_x hm
  rw [e_h5]
  have s_h5 : h5.1 = tb_SH := by rw [← e_h5]; exact s_h2
  refine pw_l (pc := 51) d136_51 rfl rfl rfl ?_
  refine pw_gi (pc := 52) d136_52 (k136_19 b) (sho s_h5 f_l0) f8_2 ?_
  refine pw_s (pc := 55) d136_55 rfl rfl ?_
  refine pw_ine (pc := 56) (t := 117) d136_56 (by decide) (fun c6 => ?_) (fun c6 => ?_)
  · rw [if_pos c6] at hm
    obtain ⟨q7, e_q7, hm⟩ := ob_x hm
    refine wh_ind e_q7 (fun s : (Int32 × pm_H) => s.2.1 = tb_SH → PW b L xs d 136 0 0 117 [(Value.ref l0), (Value.int s.1)] [] s.2 Q) (fun s s2 hf ih sx => t_t_advance_117 b L xs d hd s.2 sx l0 s.1  f_l0 hf ih) (fun s hf sx => t_t_advance_117 b L xs d hd s.2 sx l0 s.1  f_l0 hf ?_) s_h5  
    intro s_q7_0
    exact t_t_advance_184 b L xs d hd q7.2 s_q7_0 l0 q7.1  f_l0  hm hE
  · rw [if_neg c6] at hm
    refine pw_l (pc := 59) d136_59 rfl rfl rfl ?_
    refine pw_l (pc := 60) d136_60 rfl rfl rfl ?_
    refine pw_l (pc := 61) d136_61 rfl rfl rfl ?_
    obtain ⟨q8, e_q8, hm⟩ := ob_x hm
    refine pw_v (pc := 62) (k := l0) (by omega) d136_62 (k136_40 b) (by decide) m137 (by decide) rfl (sho s_h5 f_l0) (Nat.le_of_ble_eq_true rfl) (Nat.le_of_ble_eq_true rfl) rfl rfl (T_t_byteAt b L xs (d - 1) (by omega) h5 s_h5 l0 l1 f_l0 e_q8) (fun v0 h0 hq => ?_)
    obtain ⟨rfl, hh0, s_q8⟩ := hq
    rw [hh0] at s_q8 ⊢
    simp only [Option.toList_some, List.cons_append, List.nil_append]
    refine pw_pi (pc := 65) d136_65 (k136_31 b) (sho s_h5 f_l0) p136_8_6 ?_
    obtain ⟨h9, e_h9, hm⟩ := bd_x hm
    rw [e_h9]
    have s_h9 : h9.1 = tb_SH := by rw [← e_h9]; exact s_h5
    refine pw_t (pc := 68) d136_68 rfl rfl rfl rfl ?_
    refine pw_l (pc := 71) d136_71 rfl rfl rfl ?_
    refine pw_gi (pc := 72) d136_72 (k136_31 b) (sho s_h9 f_l0) f8_6 ?_
    refine pw_s (pc := 75) d136_75 rfl rfl ?_
    refine pw_ieq (pc := 77) (t := 89) d136_77 (by decide) (fun c10 => ?_) (fun c10 => ?_)
    · rw [if_pos c10] at hm
      exact t_t_advance_89 b L xs d hd h9 s_h9 l0 (l1 + Int32.ofInt 1)  f_l0  hm hE
    · rw [if_neg c10] at hm
      refine pw_l (pc := 80) d136_80 rfl rfl rfl ?_
      refine pw_gi (pc := 81) d136_81 (k136_31 b) (sho s_h9 f_l0) f8_6 ?_
      refine pw_s (pc := 84) d136_84 rfl rfl ?_
      refine pw_ine (pc := 86) (t := 184) d136_86 (by decide) (fun c11 => ?_) (fun c11 => ?_)
      · rw [if_pos c11] at hm
        exact t_t_advance_184 b L xs d hd h9 s_h9 l0 (l1 + Int32.ofInt 1)  f_l0  hm hE
      · rw [if_neg c11] at hm
        exact t_t_advance_89 b L xs d hd h9 s_h9 l0 (l1 + Int32.ofInt 1)  f_l0  hm hE
noncomputable def t_advance_5 (l0 : Nat) (l1 : Int32) (h : pm_H) : Option ((Int32 × pm_H) ⊕ (Int32 × pm_H)) := if (h.2.1 l0 1) ≤ l1 then (some (.inr (l1, h))) else ((t_byteAt l0 l1 h).bind fun q2 => if ¬ q2 = (Int8.ofInt 32).toInt32 then (some (.inr (l1, h))) else (some (.inl ((l1 + Int32.ofInt 1), h))))
theorem t_t_advance_5 (b : Bool) (L : Nat) (xs : Nat → Int32) (d : Nat) (hd : 1 ≤ d) {Q : Option Value → pm_H → Prop} (h : pm_H) (s_h : h.1 = tb_SH) (l0 : Nat) (l1 : Int32) (f_l0 : mi_o l0 8 = true) {r : ((Int32 × pm_H) ⊕ (Int32 × pm_H))} (hm : t_advance_5 l0 l1 h = some r) (hE : E_t_advance_5 b L xs d Q l0 r) : PW b L xs d 136 0 0 5 [(Value.ref l0), (Value.int l1)] [] h Q := by
  rw [t_advance_5] at hm
  refine pw_l (pc := 5) d136_5 rfl rfl rfl ?_
  refine pw_l (pc := 6) d136_6 rfl rfl rfl ?_
  refine pw_gi (pc := 7) d136_7 (k136_15 b) (sho s_h f_l0) f8_1 ?_
  refine pw_ige (pc := 10) (t := 29) d136_10 (by decide) (fun c1 => ?_) (fun c1 => ?_)
  · rw [if_pos c1] at hm
    obtain rfl := Option.some.inj hm
    exact hE s_h  
  · rw [if_neg c1] at hm
    refine pw_l (pc := 13) d136_13 rfl rfl rfl ?_
    refine pw_l (pc := 14) d136_14 rfl rfl rfl ?_
    obtain ⟨q2, e_q2, hm⟩ := ob_x hm
    refine pw_v (pc := 15) (k := l0) (by omega) d136_15 (k136_40 b) (by decide) m137 (by decide) rfl (sho s_h f_l0) (Nat.le_of_ble_eq_true rfl) (Nat.le_of_ble_eq_true rfl) rfl rfl (T_t_byteAt b L xs (d - 1) (by omega) h s_h l0 l1 f_l0 e_q2) (fun v0 h0 hq => ?_)
    obtain ⟨rfl, hh0, s_q2⟩ := hq
    rw [hh0] at s_q2 ⊢
    simp only [Option.toList_some, List.cons_append, List.nil_append]
    refine pw_s (pc := 18) d136_18 rfl rfl ?_
    refine pw_ine (pc := 20) (t := 29) d136_20 (by decide) (fun c3 => ?_) (fun c3 => ?_)
    · rw [if_pos c3] at hm
      obtain rfl := Option.some.inj hm
      exact hE s_h  
    · rw [if_neg c3] at hm
      refine pw_t (pc := 23) d136_23 rfl rfl rfl rfl ?_
      refine pw_go (pc := 26) (t := 5) d136_26 (by decide) ?_
      obtain rfl := Option.some.inj hm
      exact hE s_h  
noncomputable def t_advance (l0 : Nat) (h : pm_H) : Option pm_H := (wh (fun s : (Int32 × pm_H) => t_advance_5 l0 s.1 s.2) ((h.2.1 l0 4), h)).bind fun q1 => t_advance_29 l0 q1.1 q1.2
theorem T_t_advance (b : Bool) (L : Nat) (xs : Nat → Int32) (d : Nat) (hd : 1 ≤ d) (h : pm_H) (s_h : h.1 = tb_SH) (l0 : Nat) (f_l0 : mi_o l0 8 = true) {r : pm_H} (hm : t_advance l0 h = some r) : PC b L xs d 136 [(Value.ref l0)] h (fun (v0 : Option Value) (h2 : pm_H) => v0 = none ∧ h2 = r ∧ h2.1 = tb_SH) := by
  refine pc_in e136 (ls0 := [(Value.ref l0), Value.retAddr 0]) rfl ?_
  have key : ∀ (Q : Option Value → pm_H → Prop), (r.1 = tb_SH → Q none r) → PW b L xs d 136 0 0 0 [(Value.ref l0), Value.retAddr 0] [] h Q := by
    intro Q hE
    rw [t_advance] at hm
    refine pw_l (pc := 0) d136_0 rfl rfl rfl ?_
    refine pw_gi (pc := 1) d136_1 (k136_25 b) (sho s_h f_l0) f8_4 ?_
    refine pw_t (pc := 4) d136_4 rfl rfl rfl rfl ?_
    obtain ⟨q1, e_q1, hm⟩ := ob_x hm
    refine wh_ind e_q1 (fun s : (Int32 × pm_H) => s.2.1 = tb_SH → PW b L xs d 136 0 0 5 [(Value.ref l0), (Value.int s.1)] [] s.2 Q) (fun s s2 hf ih sx => t_t_advance_5 b L xs d hd s.2 sx l0 s.1  f_l0 hf ih) (fun s hf sx => t_t_advance_5 b L xs d hd s.2 sx l0 s.1  f_l0 hf ?_) s_h  
    intro s_q1_0
    exact t_t_advance_29 b L xs d hd q1.2 s_q1_0 l0 q1.1  f_l0  hm hE
  exact key _ (fun q => ⟨rfl, rfl, q⟩)
noncomputable def s_readNumber_43 (l0 : Nat) (h : pm_H) : Option (Int32 × pm_H) := (t_blame l0 (h.2.1 l0 3) (Int32.ofInt 1) h).bind fun q1 => some ((Int32.ofInt (-1)), q1.2)
theorem t_s_readNumber_43 (b : Bool) (L : Nat) (xs : Nat → Int32) (d : Nat) (hd : 2 ≤ d) {Q : Option Value → pm_H → Prop} (h : pm_H) (s_h : h.1 = tb_SH) (l0 : Nat) (w1 : Value) (w2 : Value) (w3 : Value) (f_l0 : mi_o l0 8 = true) {r : (Int32 × pm_H)} (hm : s_readNumber_43 l0 h = some r) (hE : r.2.1 = tb_SH → Q (some (Value.int r.1)) r.2) : PW b L xs d 132 0 0 43 [(Value.ref l0), w1, w2, w3] [] h Q := by
  rw [s_readNumber_43] at hm
  refine pw_l (pc := 43) d132_43 rfl rfl rfl ?_
  refine pw_l (pc := 44) d132_44 rfl rfl rfl ?_
  refine pw_gi (pc := 45) d132_45 (k132_105 b) (sho s_h f_l0) f8_3 ?_
  refine pw_s (pc := 48) d132_48 rfl rfl ?_
  obtain ⟨q1, e_q1, hm⟩ := ob_x hm
  refine pw_v (pc := 49) (k := l0) (by omega) d132_49 (k132_108 b) (by decide) m141 (by decide) rfl (sho s_h f_l0) (Nat.le_of_ble_eq_true rfl) (Nat.le_of_ble_eq_true rfl) rfl rfl (T_t_blame b L xs (d - 1) (by omega) h s_h l0 (h.2.1 l0 3) (Int32.ofInt 1) f_l0 e_q1) (fun v0 h0 hq => ?_)
  obtain ⟨rfl, hh0, s_q1⟩ := hq
  rw [hh0] at s_q1 ⊢
  simp only [Option.toList_some, List.cons_append, List.nil_append]
  refine pw_s (pc := 52) d132_52 rfl rfl ?_
  refine pw_s (pc := 53) d132_53 rfl rfl ?_
  obtain rfl := Option.some.inj hm
  refine pw_ri (pc := 54) d132_54 t132 rfl ?_
  exact hE s_q1
noncomputable def s_readNumber (l0 : Nat) (l1 : Int32) (l2 : Int32) (h : pm_H) : Option (Int32 × pm_H) := if (h.2.1 l0 2) = (Int32.ofInt 1) then (if (Int32.ofInt 5) < (h.2.1 l0 5) then (s_readNumber_43 l0 h) else (if (h.2.1 l0 6) < l1 then (s_readNumber_43 l0 h) else (if (h.2.1 l0 6) ≤ l2 then ((t_advance l0 h).bind fun q5 => some ((h.2.1 l0 6), q5)) else (s_readNumber_43 l0 h)))) else ((t_blame l0 (h.2.1 l0 3) (Int32.ofInt 0) h).bind fun q6 => some ((Int32.ofInt (-1)), q6.2))
theorem T_s_readNumber (b : Bool) (L : Nat) (xs : Nat → Int32) (d : Nat) (hd : 2 ≤ d) (h : pm_H) (s_h : h.1 = tb_SH) (l0 : Nat) (l1 : Int32) (l2 : Int32) (f_l0 : mi_o l0 8 = true) {r : (Int32 × pm_H)} (hm : s_readNumber l0 l1 l2 h = some r) : PC b L xs d 132 [(Value.ref l0), (Value.int l1), (Value.int l2)] h (fun (v0 : Option Value) (h2 : pm_H) => v0 = (some (Value.int r.1)) ∧ h2 = r.2 ∧ h2.1 = tb_SH) := by
  refine pc_in e132 (ls0 := [(Value.ref l0), (Value.int l1), (Value.int l2), Value.retAddr 0]) rfl ?_
  have key : ∀ (Q : Option Value → pm_H → Prop), (r.2.1 = tb_SH → Q (some (Value.int r.1)) r.2) → PW b L xs d 132 0 0 0 [(Value.ref l0), (Value.int l1), (Value.int l2), Value.retAddr 0] [] h Q := by
    intro Q hE
    rw [s_readNumber] at hm
    refine pw_l (pc := 0) d132_0 rfl rfl rfl ?_
    refine pw_gi (pc := 1) d132_1 (k132_99 b) (sho s_h f_l0) f8_2 ?_
    refine pw_s (pc := 4) d132_4 rfl rfl ?_
    refine pw_ieq (pc := 5) (t := 20) d132_5 (by decide) (fun c1 => ?_) (fun c1 => ?_)
    · rw [if_pos c1] at hm
      refine pw_l (pc := 20) d132_20 rfl rfl rfl ?_
      refine pw_gi (pc := 21) d132_21 (k132_150 b) (sho s_h f_l0) f8_6 ?_
      refine pw_t (pc := 24) d132_24 rfl rfl rfl rfl ?_
      refine pw_l (pc := 25) d132_25 rfl rfl rfl ?_
      refine pw_gi (pc := 26) d132_26 (k132_140 b) (sho s_h f_l0) f8_5 ?_
      refine pw_s (pc := 29) d132_29 rfl rfl ?_
      refine pw_igt (pc := 30) (t := 43) d132_30 (by decide) (fun c2 => ?_) (fun c2 => ?_)
      · rw [if_pos c2] at hm
        exact t_s_readNumber_43 b L xs d hd h s_h l0 (Value.int l1) (Value.int l2) (Value.int (h.2.1 l0 6)) f_l0  hm hE
      · rw [if_neg c2] at hm
        refine pw_l (pc := 33) d132_33 rfl rfl rfl ?_
        refine pw_l (pc := 34) d132_34 rfl rfl rfl ?_
        refine pw_ilt (pc := 35) (t := 43) d132_35 (by decide) (fun c3 => ?_) (fun c3 => ?_)
        · rw [if_pos c3] at hm
          exact t_s_readNumber_43 b L xs d hd h s_h l0 (Value.int l1) (Value.int l2) (Value.int (h.2.1 l0 6)) f_l0  hm hE
        · rw [if_neg c3] at hm
          refine pw_l (pc := 38) d132_38 rfl rfl rfl ?_
          refine pw_l (pc := 39) d132_39 rfl rfl rfl ?_
          refine pw_ile (pc := 40) (t := 55) d132_40 (by decide) (fun c4 => ?_) (fun c4 => ?_)
          · rw [if_pos c4] at hm
            refine pw_l (pc := 55) d132_55 rfl rfl rfl ?_
            obtain ⟨q5, e_q5, hm⟩ := ob_x hm
            refine pw_v (pc := 56) (k := l0) (by omega) d132_56 (k132_111 b) (by decide) m136 (by decide) rfl (sho s_h f_l0) (Nat.le_of_ble_eq_true rfl) (Nat.le_of_ble_eq_true rfl) rfl rfl (T_t_advance b L xs (d - 1) (by omega) h s_h l0 f_l0 e_q5) (fun v0 h0 hq => ?_)
            obtain ⟨rfl, hh0, s_q5⟩ := hq
            rw [hh0] at s_q5 ⊢
            simp only [Option.toList_none, List.nil_append]
            refine pw_l (pc := 59) d132_59 rfl rfl rfl ?_
            obtain rfl := Option.some.inj hm
            refine pw_ri (pc := 60) d132_60 t132 rfl ?_
            exact hE s_q5
          · rw [if_neg c4] at hm
            exact t_s_readNumber_43 b L xs d hd h s_h l0 (Value.int l1) (Value.int l2) (Value.int (h.2.1 l0 6)) f_l0  hm hE
    · rw [if_neg c1] at hm
      refine pw_l (pc := 8) d132_8 rfl rfl rfl ?_
      refine pw_l (pc := 9) d132_9 rfl rfl rfl ?_
      refine pw_gi (pc := 10) d132_10 (k132_105 b) (sho s_h f_l0) f8_3 ?_
      refine pw_s (pc := 13) d132_13 rfl rfl ?_
      obtain ⟨q6, e_q6, hm⟩ := ob_x hm
      refine pw_v (pc := 14) (k := l0) (by omega) d132_14 (k132_108 b) (by decide) m141 (by decide) rfl (sho s_h f_l0) (Nat.le_of_ble_eq_true rfl) (Nat.le_of_ble_eq_true rfl) rfl rfl (T_t_blame b L xs (d - 1) (by omega) h s_h l0 (h.2.1 l0 3) (Int32.ofInt 0) f_l0 e_q6) (fun v0 h0 hq => ?_)
      obtain ⟨rfl, hh0, s_q6⟩ := hq
      rw [hh0] at s_q6 ⊢
      simp only [Option.toList_some, List.cons_append, List.nil_append]
      refine pw_s (pc := 17) d132_17 rfl rfl ?_
      refine pw_s (pc := 18) d132_18 rfl rfl ?_
      obtain rfl := Option.some.inj hm
      refine pw_ri (pc := 19) d132_19 t132 rfl ?_
      exact hE s_q6
  exact key _ (fun q => ⟨rfl, rfl, q⟩)
noncomputable def t_start (l0 : Nat) (h : pm_H) : Option pm_H := bd (pm_setI h l0 7 (Int32.ofInt 0)) fun h1 => bd (pm_setI h1 l0 4 (Int32.ofInt 0)) fun h2 => (t_advance l0 h2).bind fun q3 => some q3
theorem T_t_start (b : Bool) (L : Nat) (xs : Nat → Int32) (d : Nat) (hd : 2 ≤ d) (h : pm_H) (s_h : h.1 = tb_SH) (l0 : Nat) (f_l0 : mi_o l0 8 = true) {r : pm_H} (hm : t_start l0 h = some r) : PC b L xs d 135 [(Value.ref l0)] h (fun (v0 : Option Value) (h2 : pm_H) => v0 = none ∧ h2 = r ∧ h2.1 = tb_SH) := by
  refine pc_in e135 (ls0 := [(Value.ref l0)]) rfl ?_
  have key : ∀ (Q : Option Value → pm_H → Prop), (r.1 = tb_SH → Q none r) → PW b L xs d 135 0 0 0 [(Value.ref l0)] [] h Q := by
    intro Q hE
    rw [t_start] at hm
    refine pw_l (pc := 0) d135_0 rfl rfl rfl ?_
    refine pw_s (pc := 1) d135_1 rfl rfl ?_
    refine pw_pi (pc := 2) d135_2 (k135_34 b) (sho s_h f_l0) p135_8_7 ?_
    obtain ⟨h1, e_h1, hm⟩ := bd_x hm
    rw [e_h1]
    have s_h1 : h1.1 = tb_SH := by rw [← e_h1]; exact s_h
    refine pw_l (pc := 5) d135_5 rfl rfl rfl ?_
    refine pw_s (pc := 6) d135_6 rfl rfl ?_
    refine pw_pi (pc := 7) d135_7 (k135_25 b) (sho s_h1 f_l0) p135_8_4 ?_
    obtain ⟨h2, e_h2, hm⟩ := bd_x hm
    rw [e_h2]
    have s_h2 : h2.1 = tb_SH := by rw [← e_h2]; exact s_h1
    refine pw_l (pc := 10) d135_10 rfl rfl rfl ?_
    obtain ⟨q3, e_q3, hm⟩ := ob_x hm
    refine pw_v (pc := 11) (k := l0) (by omega) d135_11 (k135_37 b) (by decide) m136 (by decide) rfl (sho s_h2 f_l0) (Nat.le_of_ble_eq_true rfl) (Nat.le_of_ble_eq_true rfl) rfl rfl (T_t_advance b L xs (d - 1) (by omega) h2 s_h2 l0 f_l0 e_q3) (fun v0 h0 hq => ?_)
    obtain ⟨rfl, hh0, s_q3⟩ := hq
    rw [hh0] at s_q3 ⊢
    simp only [Option.toList_none, List.nil_append]
    obtain rfl := Option.some.inj hm
    refine pw_rv (pc := 14) d135_14 t135 ?_
    exact hE s_q3
  exact key _ (fun q => ⟨rfl, rfl, q⟩)
noncomputable def s_readWords (l0 : Nat) (l1 : Nat) (h : pm_H) : Option (Int32 × pm_H) := (s_readNumber l1 (Int32.ofInt 1) ((Int8.ofInt 10).toInt32) h).bind fun q1 => if 0 ≤ q1.1 then (bd (pm_setI q1.2 l0 0 q1.1) fun h3 => some ((Int32.ofInt 1), h3)) else (some ((Int32.ofInt 0), q1.2))
theorem T_s_readWords (b : Bool) (L : Nat) (xs : Nat → Int32) (d : Nat) (hd : 3 ≤ d) (h : pm_H) (s_h : h.1 = tb_SH) (l0 : Nat) (l1 : Nat) (f_l0 : mi_o l0 7 = true) (f_l1 : mi_o l1 8 = true) {r : (Int32 × pm_H)} (hm : s_readWords l0 l1 h = some r) : PC b L xs d 128 [(Value.ref l0), (Value.ref l1)] h (fun (v0 : Option Value) (h2 : pm_H) => v0 = (some (Value.int r.1)) ∧ h2 = r.2 ∧ h2.1 = tb_SH) := by
  refine pc_in e128 (ls0 := [(Value.ref l0), (Value.ref l1), Value.retAddr 0]) rfl ?_
  have key : ∀ (Q : Option Value → pm_H → Prop), (r.2.1 = tb_SH → Q (some (Value.int r.1)) r.2) → PW b L xs d 128 0 0 0 [(Value.ref l0), (Value.ref l1), Value.retAddr 0] [] h Q := by
    intro Q hE
    rw [s_readWords] at hm
    refine pw_l (pc := 0) d128_0 rfl rfl rfl ?_
    refine pw_s (pc := 1) d128_1 rfl rfl ?_
    refine pw_s (pc := 2) d128_2 rfl rfl ?_
    obtain ⟨q1, e_q1, hm⟩ := ob_x hm
    refine pw_u (pc := 4) (by omega) d128_4 (k128_136 b) (by decide) m132 (Nat.le_of_ble_eq_true rfl) (Nat.le_of_ble_eq_true rfl) (Nat.le_of_ble_eq_true rfl) rfl rfl (T_s_readNumber b L xs (d - 1) (by omega) h s_h l1 (Int32.ofInt 1) ((Int8.ofInt 10).toInt32) f_l1 e_q1) (fun v0 h0 hq => ?_)
    obtain ⟨rfl, hh0, s_q1⟩ := hq
    rw [hh0] at s_q1 ⊢
    simp only [Option.toList_some, List.cons_append, List.nil_append]
    refine pw_t (pc := 7) d128_7 rfl rfl rfl rfl ?_
    refine pw_l (pc := 8) d128_8 rfl rfl rfl ?_
    refine pw_zge (pc := 9) (t := 14) d128_9 (by decide) (fun c2 => ?_) (fun c2 => ?_)
    · rw [if_pos c2] at hm
      refine pw_l (pc := 14) d128_14 rfl rfl rfl ?_
      refine pw_l (pc := 15) d128_15 rfl rfl rfl ?_
      refine pw_pi (pc := 16) d128_16 (k128_9 b) (sho s_q1 f_l0) p128_7_0 ?_
      obtain ⟨h3, e_h3, hm⟩ := bd_x hm
      rw [e_h3]
      have s_h3 : h3.1 = tb_SH := by rw [← e_h3]; exact s_q1
      refine pw_s (pc := 19) d128_19 rfl rfl ?_
      obtain rfl := Option.some.inj hm
      refine pw_ri (pc := 20) d128_20 t128 rfl ?_
      exact hE s_h3
    · rw [if_neg c2] at hm
      refine pw_s (pc := 12) d128_12 rfl rfl ?_
      obtain rfl := Option.some.inj hm
      refine pw_ri (pc := 13) d128_13 t128 rfl ?_
      exact hE s_q1
  exact key _ (fun q => ⟨rfl, rfl, q⟩)
noncomputable def s_readMan_26 (l0 : Nat) (l2 : Int32) (z0 : Int32) (h : pm_H) : Option (Int32 × pm_H) := if z0 < 0 then (some ((Int32.ofInt 0), h)) else (if (h.2.1 l0 1) < (Int8.ofInt 8).toInt32 then ((gA h l0 4 .int).bind fun y3 => if mi_in (h.2.1 l0 1) (mi_n y3) = true then bd (pm_setI h y3 (h.2.1 l0 1).toNatClampNeg l2) fun h5 => (gA h5 l0 5 .int).bind fun y6 => if mi_in (h5.2.1 l0 1) (mi_n y6) = true then bd (pm_setI h5 y6 (h5.2.1 l0 1).toNatClampNeg z0) fun h8 => bd (pm_setI h8 l0 1 ((h8.2.1 l0 1) + (Int32.ofInt 1))) fun h9 => some ((Int32.ofInt 1), h9) else none else none) else (some ((Int32.ofInt 0), h)))
theorem t_s_readMan_26 (b : Bool) (L : Nat) (xs : Nat → Int32) (d : Nat) (hd : 3 ≤ d) {Q : Option Value → pm_H → Prop} (h : pm_H) (s_h : h.1 = tb_SH) (l0 : Nat) (l2 : Int32) (z0 : Int32) (w1 : Value) (w3 : Value) (f_l0 : mi_o l0 7 = true) {r : (Int32 × pm_H)} (hm : s_readMan_26 l0 l2 z0 h = some r) (hE : r.2.1 = tb_SH → Q (some (Value.int r.1)) r.2) : PW b L xs d 129 0 0 26 [(Value.ref l0), w1, (Value.int l2), w3] [(Value.int z0)] h Q := by
  rw [s_readMan_26] at hm
  refine pw_t (pc := 26) d129_26 rfl rfl rfl rfl ?_
  refine pw_l (pc := 27) d129_27 rfl rfl rfl ?_
  refine pw_zlt (pc := 28) (t := 40) d129_28 (by decide) (fun c1 => ?_) (fun c1 => ?_)
  · rw [if_pos c1] at hm
    refine pw_s (pc := 40) d129_40 rfl rfl ?_
    obtain rfl := Option.some.inj hm
    refine pw_ri (pc := 41) d129_41 t129 rfl ?_
    exact hE s_h
  · rw [if_neg c1] at hm
    refine pw_l (pc := 31) d129_31 rfl rfl rfl ?_
    refine pw_gi (pc := 32) d129_32 (k129_15 b) (sho s_h f_l0) f7_1 ?_
    refine pw_s (pc := 35) d129_35 rfl rfl ?_
    refine pw_ilt (pc := 37) (t := 42) d129_37 (by decide) (fun c2 => ?_) (fun c2 => ?_)
    · rw [if_pos c2] at hm
      refine pw_l (pc := 42) d129_42 rfl rfl rfl ?_
      obtain ⟨y3, e_y3, hm⟩ := ob_x hm
      have f_y3 := gA_x e_y3
      refine pw_gr (pc := 43) d129_43 (k129_24 b) (sho s_h f_l0) f7_4 f_y3.1 ?_
      refine pw_l (pc := 46) d129_46 rfl rfl rfl ?_
      refine pw_gi (pc := 47) d129_47 (k129_15 b) (sho s_h f_l0) f7_1 ?_
      refine pw_l (pc := 50) d129_50 rfl rfl rfl ?_
      obtain ⟨g4, hm⟩ := gd_x hm
      refine pw_si (pc := 51) d129_51 (sha s_h f_y3.2) (mi_in_x g4) ?_
      obtain ⟨h5, e_h5, hm⟩ := bd_x hm
      rw [e_h5]
      have s_h5 : h5.1 = tb_SH := by rw [← e_h5]; exact s_h
      refine pw_l (pc := 52) d129_52 rfl rfl rfl ?_
      obtain ⟨y6, e_y6, hm⟩ := ob_x hm
      have f_y6 := gA_x e_y6
      refine pw_gr (pc := 53) d129_53 (k129_28 b) (sho s_h5 f_l0) f7_5 f_y6.1 ?_
      refine pw_l (pc := 56) d129_56 rfl rfl rfl ?_
      refine pw_gi (pc := 57) d129_57 (k129_15 b) (sho s_h5 f_l0) f7_1 ?_
      refine pw_l (pc := 60) d129_60 rfl rfl rfl ?_
      obtain ⟨g7, hm⟩ := gd_x hm
      refine pw_si (pc := 61) d129_61 (sha s_h5 f_y6.2) (mi_in_x g7) ?_
      obtain ⟨h8, e_h8, hm⟩ := bd_x hm
      rw [e_h8]
      have s_h8 : h8.1 = tb_SH := by rw [← e_h8]; exact s_h5
      refine pw_l (pc := 62) d129_62 rfl rfl rfl ?_
      refine pw_s (pc := 63) d129_63 rfl rfl ?_
      refine pw_gi (pc := 64) d129_64 (k129_15 b) (sho s_h8 f_l0) f7_1 ?_
      refine pw_s (pc := 67) d129_67 rfl rfl ?_
      refine pw_s (pc := 68) d129_68 rfl rfl ?_
      refine pw_pi (pc := 69) d129_69 (k129_15 b) (sho s_h8 f_l0) p129_7_1 ?_
      obtain ⟨h9, e_h9, hm⟩ := bd_x hm
      rw [e_h9]
      have s_h9 : h9.1 = tb_SH := by rw [← e_h9]; exact s_h8
      refine pw_s (pc := 72) d129_72 rfl rfl ?_
      obtain rfl := Option.some.inj hm
      refine pw_ri (pc := 73) d129_73 t129 rfl ?_
      exact hE s_h9
    · rw [if_neg c2] at hm
      refine pw_s (pc := 40) d129_40 rfl rfl ?_
      obtain rfl := Option.some.inj hm
      refine pw_ri (pc := 41) d129_41 t129 rfl ?_
      exact hE s_h
noncomputable def s_readMan (l0 : Nat) (l1 : Nat) (h : pm_H) : Option (Int32 × pm_H) := (s_readNumber l1 (Int32.ofInt 0) ((h.2.1 l0 0) - (Int32.ofInt 1)) h).bind fun q1 => if 0 ≤ q1.1 then ((s_readNumber l1 (Int32.ofInt 0) (Int32.ofInt 2) q1.2).bind fun q3 => s_readMan_26 l0 q1.1 q3.1 q3.2) else (s_readMan_26 l0 q1.1 (Int32.ofInt (-1)) q1.2)
theorem T_s_readMan (b : Bool) (L : Nat) (xs : Nat → Int32) (d : Nat) (hd : 3 ≤ d) (h : pm_H) (s_h : h.1 = tb_SH) (l0 : Nat) (l1 : Nat) (f_l0 : mi_o l0 7 = true) (f_l1 : mi_o l1 8 = true) {r : (Int32 × pm_H)} (hm : s_readMan l0 l1 h = some r) : PC b L xs d 129 [(Value.ref l0), (Value.ref l1)] h (fun (v0 : Option Value) (h2 : pm_H) => v0 = (some (Value.int r.1)) ∧ h2 = r.2 ∧ h2.1 = tb_SH) := by
  refine pc_in e129 (ls0 := [(Value.ref l0), (Value.ref l1), Value.retAddr 0, Value.retAddr 0]) rfl ?_
  have key : ∀ (Q : Option Value → pm_H → Prop), (r.2.1 = tb_SH → Q (some (Value.int r.1)) r.2) → PW b L xs d 129 0 0 0 [(Value.ref l0), (Value.ref l1), Value.retAddr 0, Value.retAddr 0] [] h Q := by
    intro Q hE
    rw [s_readMan] at hm
    refine pw_l (pc := 0) d129_0 rfl rfl rfl ?_
    refine pw_s (pc := 1) d129_1 rfl rfl ?_
    refine pw_l (pc := 2) d129_2 rfl rfl rfl ?_
    refine pw_gi (pc := 3) d129_3 (k129_9 b) (sho s_h f_l0) f7_0 ?_
    refine pw_s (pc := 6) d129_6 rfl rfl ?_
    refine pw_s (pc := 7) d129_7 rfl rfl ?_
    obtain ⟨q1, e_q1, hm⟩ := ob_x hm
    refine pw_u (pc := 8) (by omega) d129_8 (k129_136 b) (by decide) m132 (Nat.le_of_ble_eq_true rfl) (Nat.le_of_ble_eq_true rfl) (Nat.le_of_ble_eq_true rfl) rfl rfl (T_s_readNumber b L xs (d - 1) (by omega) h s_h l1 (Int32.ofInt 0) ((h.2.1 l0 0) - (Int32.ofInt 1)) f_l1 e_q1) (fun v0 h0 hq => ?_)
    obtain ⟨rfl, hh0, s_q1⟩ := hq
    rw [hh0] at s_q1 ⊢
    simp only [Option.toList_some, List.cons_append, List.nil_append]
    refine pw_t (pc := 11) d129_11 rfl rfl rfl rfl ?_
    refine pw_l (pc := 12) d129_12 rfl rfl rfl ?_
    refine pw_zge (pc := 13) (t := 20) d129_13 (by decide) (fun c2 => ?_) (fun c2 => ?_)
    · rw [if_pos c2] at hm
      refine pw_l (pc := 20) d129_20 rfl rfl rfl ?_
      refine pw_s (pc := 21) d129_21 rfl rfl ?_
      refine pw_s (pc := 22) d129_22 rfl rfl ?_
      obtain ⟨q3, e_q3, hm⟩ := ob_x hm
      refine pw_u (pc := 23) (by omega) d129_23 (k129_136 b) (by decide) m132 (Nat.le_of_ble_eq_true rfl) (Nat.le_of_ble_eq_true rfl) (Nat.le_of_ble_eq_true rfl) rfl rfl (T_s_readNumber b L xs (d - 1) (by omega) q1.2 s_q1 l1 (Int32.ofInt 0) (Int32.ofInt 2) f_l1 e_q3) (fun v0 h0 hq => ?_)
      obtain ⟨rfl, hh0, s_q3⟩ := hq
      rw [hh0] at s_q3 ⊢
      simp only [Option.toList_some, List.cons_append, List.nil_append]
      exact t_s_readMan_26 b L xs d hd q3.2 s_q3 l0 q1.1 q3.1 (Value.ref l1) (Value.retAddr 0) f_l0  hm hE
    · rw [if_neg c2] at hm
      refine pw_s (pc := 16) d129_16 rfl rfl ?_
      refine pw_go (pc := 17) (t := 26) d129_17 (by decide) ?_
      exact t_s_readMan_26 b L xs d hd q1.2 s_q1 l0 q1.1 (Int32.ofInt (-1)) (Value.ref l1) (Value.retAddr 0) f_l0  hm hE
  exact key _ (fun q => ⟨rfl, rfl, q⟩)
def E_s_readOrder_64 (b : Bool) (L : Nat) (xs : Nat → Int32) (d : Nat) (Q : Option Value → pm_H → Prop) (l0 : Nat) (l1 : Nat) (l2 : Int32) (l3 : Int32) : ((Int32 × pm_H) ⊕ (Int32 × pm_H) ⊕ pm_H) → Prop
  | .inl s => s.2.1 = tb_SH → ∀ w5 : Value, PW b L xs d 130 0 0 64 [(Value.ref l0), (Value.ref l1), (Value.int l2), (Value.int l3), (Value.int s.1), w5] [] s.2 Q
  | .inr (.inl e) => e.2.1 = tb_SH → ∀ w0 w2 w3 w5 : Value, PW b L xs d 130 0 0 95 [w0, (Value.ref l1), w2, w3, (Value.int e.1), w5] [] e.2 Q
  | .inr (.inr e) => e.1 = tb_SH → ∀ w4 w5 : Value, PW b L xs d 130 0 0 130 [(Value.ref l0), (Value.ref l1), (Value.int l2), (Value.int l3), w4, w5] [] e Q
noncomputable def s_readOrder_64 (l0 : Nat) (l1 : Nat) (l2 : Int32) (l3 : Int32) (l4 : Int32) (h : pm_H) : Option ((Int32 × pm_H) ⊕ (Int32 × pm_H) ⊕ pm_H) := if l3 ≤ l4 then (some (.inr (.inr h))) else ((t_byteAt l1 ((h.2.1 l1 3) + l4) h).bind fun q2 => (s_hasWord l0 (q2 - (Int8.ofInt 48).toInt32) h).bind fun q3 => if ¬ q3 = 0 then ((gA h l0 8 .int).bind fun y5 => if mi_in (((h.2.1 l0 2) * (Int32.ofInt 4)) + l4) (mi_n y5) = true then bd (pm_setI h y5 (((h.2.1 l0 2) * (Int32.ofInt 4)) + l4).toNatClampNeg (q2 - (Int8.ofInt 48).toInt32)) fun h7 => some (.inl ((l4 + Int32.ofInt 1), h7)) else none) else (some (.inr (.inl (l4, h)))))
theorem t_s_readOrder_64 (b : Bool) (L : Nat) (xs : Nat → Int32) (d : Nat) (hd : 3 ≤ d) {Q : Option Value → pm_H → Prop} (h : pm_H) (s_h : h.1 = tb_SH) (l0 : Nat) (l1 : Nat) (l2 : Int32) (l3 : Int32) (l4 : Int32) (w5 : Value) (f_l0 : mi_o l0 7 = true) (f_l1 : mi_o l1 8 = true) {r : ((Int32 × pm_H) ⊕ (Int32 × pm_H) ⊕ pm_H)} (hm : s_readOrder_64 l0 l1 l2 l3 l4 h = some r) (hE : E_s_readOrder_64 b L xs d Q l0 l1 l2 l3 r) : PW b L xs d 130 0 0 64 [(Value.ref l0), (Value.ref l1), (Value.int l2), (Value.int l3), (Value.int l4), w5] [] h Q := by
  rw [s_readOrder_64] at hm
  refine pw_l (pc := 64) d130_64 rfl rfl rfl ?_
  refine pw_l (pc := 66) d130_66 rfl rfl rfl ?_
  refine pw_ige (pc := 67) (t := 130) d130_67 (by decide) (fun c1 => ?_) (fun c1 => ?_)
  · rw [if_pos c1] at hm
    obtain rfl := Option.some.inj hm
    exact hE s_h  (Value.int l4) w5
  · rw [if_neg c1] at hm
    refine pw_l (pc := 70) d130_70 rfl rfl rfl ?_
    refine pw_l (pc := 71) d130_71 rfl rfl rfl ?_
    refine pw_gi (pc := 72) d130_72 (k130_105 b) (sho s_h f_l1) f8_3 ?_
    refine pw_l (pc := 75) d130_75 rfl rfl rfl ?_
    refine pw_s (pc := 77) d130_77 rfl rfl ?_
    obtain ⟨q2, e_q2, hm⟩ := ob_x hm
    refine pw_v (pc := 78) (k := l1) (by omega) d130_78 (k130_143 b) (by decide) m137 (by decide) rfl (sho s_h f_l1) (Nat.le_of_ble_eq_true rfl) (Nat.le_of_ble_eq_true rfl) rfl rfl (T_t_byteAt b L xs (d - 1) (by omega) h s_h l1 ((h.2.1 l1 3) + l4) f_l1 e_q2) (fun v0 h0 hq => ?_)
    obtain ⟨rfl, hh0, s_q2⟩ := hq
    rw [hh0] at s_q2 ⊢
    simp only [Option.toList_some, List.cons_append, List.nil_append]
    refine pw_s (pc := 81) d130_81 rfl rfl ?_
    refine pw_s (pc := 83) d130_83 rfl rfl ?_
    refine pw_t (pc := 84) d130_84 rfl rfl rfl rfl ?_
    refine pw_l (pc := 86) d130_86 rfl rfl rfl ?_
    refine pw_l (pc := 87) d130_87 rfl rfl rfl ?_
    obtain ⟨q3, e_q3, hm⟩ := ob_x hm
    refine pw_v (pc := 89) (k := l0) (by omega) d130_89 (k130_147 b) (by decide) m111 (by decide) rfl (sho s_h f_l0) (Nat.le_of_ble_eq_true rfl) (Nat.le_of_ble_eq_true rfl) rfl rfl (T_s_hasWord b L xs (d - 1) (by omega) h s_h l0 (q2 - (Int8.ofInt 48).toInt32) f_l0 e_q3) (fun v0 h0 hq => ?_)
    obtain ⟨rfl, hh0, s_q3⟩ := hq
    rw [hh0] at s_q3 ⊢
    simp only [Option.toList_some, List.cons_append, List.nil_append]
    refine pw_zne (pc := 92) (t := 108) d130_92 (by decide) (fun c4 => ?_) (fun c4 => ?_)
    · rw [if_pos c4] at hm
      refine pw_l (pc := 108) d130_108 rfl rfl rfl ?_
      obtain ⟨y5, e_y5, hm⟩ := ob_x hm
      have f_y5 := gA_x e_y5
      refine pw_gr (pc := 109) d130_109 (k130_37 b) (sho s_h f_l0) f7_8 f_y5.1 ?_
      refine pw_l (pc := 112) d130_112 rfl rfl rfl ?_
      refine pw_gi (pc := 113) d130_113 (k130_18 b) (sho s_h f_l0) f7_2 ?_
      refine pw_s (pc := 116) d130_116 rfl rfl ?_
      refine pw_s (pc := 117) d130_117 rfl rfl ?_
      refine pw_l (pc := 118) d130_118 rfl rfl rfl ?_
      refine pw_s (pc := 120) d130_120 rfl rfl ?_
      refine pw_l (pc := 121) d130_121 rfl rfl rfl ?_
      obtain ⟨g6, hm⟩ := gd_x hm
      refine pw_si (pc := 123) d130_123 (sha s_h f_y5.2) (mi_in_x g6) ?_
      obtain ⟨h7, e_h7, hm⟩ := bd_x hm
      rw [e_h7]
      have s_h7 : h7.1 = tb_SH := by rw [← e_h7]; exact s_h
      refine pw_t (pc := 124) d130_124 rfl rfl rfl rfl ?_
      refine pw_go (pc := 127) (t := 64) d130_127 (by decide) ?_
      obtain rfl := Option.some.inj hm
      exact hE s_h7  (Value.int (q2 - (Int8.ofInt 48).toInt32))
    · rw [if_neg c4] at hm
      obtain rfl := Option.some.inj hm
      exact hE s_h  (Value.ref l0) (Value.int l2) (Value.int l3) (Value.int (q2 - (Int8.ofInt 48).toInt32))
noncomputable def s_readOrder (l0 : Nat) (l1 : Nat) (h : pm_H) : Option (Int32 × pm_H) := (s_readNumber l1 (Int32.ofInt 0) ((Int8.ofInt 99).toInt32) h).bind fun q1 => if q1.1 < 0 then (some ((Int32.ofInt 0), q1.2)) else (if (q1.2.2.1 l0 2) < (Int8.ofInt 8).toInt32 then (if (q1.2.2.1 l1 2) = (Int32.ofInt 1) then (if (q1.2.2.1 l1 5) ≤ (Int32.ofInt 4) then ((wh (fun s : (Int32 × pm_H) => s_readOrder_64 l0 l1 q1.1 (q1.2.2.1 l1 5) s.1 s.2) ((Int32.ofInt 0), q1.2)).bind fun q6 => (match q6 with | (.inl eq6_0) => (t_blame l1 ((eq6_0.2.2.1 l1 3) + eq6_0.1) (Int32.ofInt 1) eq6_0.2).bind fun q7 => if mi_bo q7.1 = true then some (q7.1, q7.2) else none | (.inr eq6_1) => (gA eq6_1 l0 6 .int).bind fun y9 => if mi_in (eq6_1.2.1 l0 2) (mi_n y9) = true then bd (pm_setI eq6_1 y9 (eq6_1.2.1 l0 2).toNatClampNeg q1.1) fun h11 => (gA h11 l0 7 .int).bind fun y12 => if mi_in (h11.2.1 l0 2) (mi_n y12) = true then bd (pm_setI h11 y12 (h11.2.1 l0 2).toNatClampNeg (q1.2.2.1 l1 5)) fun h14 => bd (pm_setI h14 l0 2 ((h14.2.1 l0 2) + (Int32.ofInt 1))) fun h15 => (t_advance l1 h15).bind fun q16 => some ((Int32.ofInt 1), q16) else none else none)) else ((t_blame l1 (q1.2.2.1 l1 3) (Int32.ofInt 1) q1.2).bind fun q17 => if mi_bo q17.1 = true then some (q17.1, q17.2) else none)) else ((t_blame l1 (q1.2.2.1 l1 3) (Int32.ofInt 0) q1.2).bind fun q19 => if mi_bo q19.1 = true then some (q19.1, q19.2) else none)) else (some ((Int32.ofInt 0), q1.2)))
theorem T_s_readOrder (b : Bool) (L : Nat) (xs : Nat → Int32) (d : Nat) (hd : 3 ≤ d) (h : pm_H) (s_h : h.1 = tb_SH) (l0 : Nat) (l1 : Nat) (f_l0 : mi_o l0 7 = true) (f_l1 : mi_o l1 8 = true) {r : (Int32 × pm_H)} (hm : s_readOrder l0 l1 h = some r) : PC b L xs d 130 [(Value.ref l0), (Value.ref l1)] h (fun (v0 : Option Value) (h2 : pm_H) => v0 = (some (Value.int r.1)) ∧ h2 = r.2 ∧ h2.1 = tb_SH) := by
  refine pc_in e130 (ls0 := [(Value.ref l0), (Value.ref l1), Value.retAddr 0, Value.retAddr 0, Value.retAddr 0, Value.retAddr 0]) rfl ?_
  have key : ∀ (Q : Option Value → pm_H → Prop), (r.2.1 = tb_SH → Q (some (Value.int r.1)) r.2) → PW b L xs d 130 0 0 0 [(Value.ref l0), (Value.ref l1), Value.retAddr 0, Value.retAddr 0, Value.retAddr 0, Value.retAddr 0] [] h Q := by
    intro Q hE
    rw [s_readOrder] at hm
    refine pw_l (pc := 0) d130_0 rfl rfl rfl ?_
    refine pw_s (pc := 1) d130_1 rfl rfl ?_
    refine pw_s (pc := 2) d130_2 rfl rfl ?_
    obtain ⟨q1, e_q1, hm⟩ := ob_x hm
    refine pw_u (pc := 4) (by omega) d130_4 (k130_136 b) (by decide) m132 (Nat.le_of_ble_eq_true rfl) (Nat.le_of_ble_eq_true rfl) (Nat.le_of_ble_eq_true rfl) rfl rfl (T_s_readNumber b L xs (d - 1) (by omega) h s_h l1 (Int32.ofInt 0) ((Int8.ofInt 99).toInt32) f_l1 e_q1) (fun v0 h0 hq => ?_)
    obtain ⟨rfl, hh0, s_q1⟩ := hq
    rw [hh0] at s_q1 ⊢
    simp only [Option.toList_some, List.cons_append, List.nil_append]
    refine pw_t (pc := 7) d130_7 rfl rfl rfl rfl ?_
    refine pw_l (pc := 8) d130_8 rfl rfl rfl ?_
    refine pw_zlt (pc := 9) (t := 21) d130_9 (by decide) (fun c2 => ?_) (fun c2 => ?_)
    · rw [if_pos c2] at hm
      refine pw_s (pc := 21) d130_21 rfl rfl ?_
      obtain rfl := Option.some.inj hm
      refine pw_ri (pc := 22) d130_22 t130 rfl ?_
      exact hE s_q1
    · rw [if_neg c2] at hm
      refine pw_l (pc := 12) d130_12 rfl rfl rfl ?_
      refine pw_gi (pc := 13) d130_13 (k130_18 b) (sho s_q1 f_l0) f7_2 ?_
      refine pw_s (pc := 16) d130_16 rfl rfl ?_
      refine pw_ilt (pc := 18) (t := 23) d130_18 (by decide) (fun c3 => ?_) (fun c3 => ?_)
      · rw [if_pos c3] at hm
        refine pw_l (pc := 23) d130_23 rfl rfl rfl ?_
        refine pw_gi (pc := 24) d130_24 (k130_99 b) (sho s_q1 f_l1) f8_2 ?_
        refine pw_s (pc := 27) d130_27 rfl rfl ?_
        refine pw_ieq (pc := 28) (t := 41) d130_28 (by decide) (fun c4 => ?_) (fun c4 => ?_)
        · rw [if_pos c4] at hm
          refine pw_l (pc := 41) d130_41 rfl rfl rfl ?_
          refine pw_gi (pc := 42) d130_42 (k130_140 b) (sho s_q1 f_l1) f8_5 ?_
          refine pw_t (pc := 45) d130_45 rfl rfl rfl rfl ?_
          refine pw_l (pc := 46) d130_46 rfl rfl rfl ?_
          refine pw_s (pc := 47) d130_47 rfl rfl ?_
          refine pw_ile (pc := 48) (t := 61) d130_48 (by decide) (fun c5 => ?_) (fun c5 => ?_)
          · rw [if_pos c5] at hm
            refine pw_s (pc := 61) d130_61 rfl rfl ?_
            refine pw_t (pc := 62) d130_62 rfl rfl rfl rfl ?_
            obtain ⟨q6, e_q6, hm⟩ := ob_x hm
            refine wh_ind e_q6 (fun s : (Int32 × pm_H) => s.2.1 = tb_SH → ∀ w5 : Value, PW b L xs d 130 0 0 64 [(Value.ref l0), (Value.ref l1), (Value.int q1.1), (Value.int (q1.2.2.1 l1 5)), (Value.int s.1), w5] [] s.2 Q) (fun s s2 hf ih sx w5 => t_s_readOrder_64 b L xs d hd s.2 sx l0 l1 q1.1 (q1.2.2.1 l1 5) s.1 w5 f_l0 f_l1 hf ih) (fun s hf sx w5 => t_s_readOrder_64 b L xs d hd s.2 sx l0 l1 q1.1 (q1.2.2.1 l1 5) s.1 w5 f_l0 f_l1 hf ?_) s_q1  (Value.retAddr 0)
            rcases q6 with eq6_0 | eq6_1
            · dsimp only at hm
              intro s_q6_0 w0 w2 w3 w5
              refine pw_l (pc := 95) d130_95 rfl rfl rfl ?_
              refine pw_l (pc := 96) d130_96 rfl rfl rfl ?_
              refine pw_gi (pc := 97) d130_97 (k130_105 b) (sho s_q6_0 f_l1) f8_3 ?_
              refine pw_l (pc := 100) d130_100 rfl rfl rfl ?_
              refine pw_s (pc := 102) d130_102 rfl rfl ?_
              refine pw_s (pc := 103) d130_103 rfl rfl ?_
              obtain ⟨q7, e_q7, hm⟩ := ob_x hm
              refine pw_v (pc := 104) (k := l1) (by omega) d130_104 (k130_108 b) (by decide) m141 (by decide) rfl (sho s_q6_0 f_l1) (Nat.le_of_ble_eq_true rfl) (Nat.le_of_ble_eq_true rfl) rfl rfl (T_t_blame b L xs (d - 1) (by omega) eq6_0.2 s_q6_0 l1 ((eq6_0.2.2.1 l1 3) + eq6_0.1) (Int32.ofInt 1) f_l1 e_q7) (fun v0 h0 hq => ?_)
              obtain ⟨rfl, hh0, s_q7⟩ := hq
              rw [hh0] at s_q7 ⊢
              simp only [Option.toList_some, List.cons_append, List.nil_append]
              obtain ⟨g8, hm⟩ := gd_x hm
              obtain rfl := Option.some.inj hm
              refine pw_ri (pc := 107) d130_107 t130 (pm_nz (mi_bo_x g8)) ?_
              exact hE s_q7
            · dsimp only at hm
              intro s_q6_1 w4 w5
              refine pw_l (pc := 130) d130_130 rfl rfl rfl ?_
              obtain ⟨y9, e_y9, hm⟩ := ob_x hm
              have f_y9 := gA_x e_y9
              refine pw_gr (pc := 131) d130_131 (k130_31 b) (sho s_q6_1 f_l0) f7_6 f_y9.1 ?_
              refine pw_l (pc := 134) d130_134 rfl rfl rfl ?_
              refine pw_gi (pc := 135) d130_135 (k130_18 b) (sho s_q6_1 f_l0) f7_2 ?_
              refine pw_l (pc := 138) d130_138 rfl rfl rfl ?_
              obtain ⟨g10, hm⟩ := gd_x hm
              refine pw_si (pc := 139) d130_139 (sha s_q6_1 f_y9.2) (mi_in_x g10) ?_
              obtain ⟨h11, e_h11, hm⟩ := bd_x hm
              rw [e_h11]
              have s_h11 : h11.1 = tb_SH := by rw [← e_h11]; exact s_q6_1
              refine pw_l (pc := 140) d130_140 rfl rfl rfl ?_
              obtain ⟨y12, e_y12, hm⟩ := ob_x hm
              have f_y12 := gA_x e_y12
              refine pw_gr (pc := 141) d130_141 (k130_34 b) (sho s_h11 f_l0) f7_7 f_y12.1 ?_
              refine pw_l (pc := 144) d130_144 rfl rfl rfl ?_
              refine pw_gi (pc := 145) d130_145 (k130_18 b) (sho s_h11 f_l0) f7_2 ?_
              refine pw_l (pc := 148) d130_148 rfl rfl rfl ?_
              obtain ⟨g13, hm⟩ := gd_x hm
              refine pw_si (pc := 149) d130_149 (sha s_h11 f_y12.2) (mi_in_x g13) ?_
              obtain ⟨h14, e_h14, hm⟩ := bd_x hm
              rw [e_h14]
              have s_h14 : h14.1 = tb_SH := by rw [← e_h14]; exact s_h11
              refine pw_l (pc := 150) d130_150 rfl rfl rfl ?_
              refine pw_s (pc := 151) d130_151 rfl rfl ?_
              refine pw_gi (pc := 152) d130_152 (k130_18 b) (sho s_h14 f_l0) f7_2 ?_
              refine pw_s (pc := 155) d130_155 rfl rfl ?_
              refine pw_s (pc := 156) d130_156 rfl rfl ?_
              refine pw_pi (pc := 157) d130_157 (k130_18 b) (sho s_h14 f_l0) p130_7_2 ?_
              obtain ⟨h15, e_h15, hm⟩ := bd_x hm
              rw [e_h15]
              have s_h15 : h15.1 = tb_SH := by rw [← e_h15]; exact s_h14
              refine pw_l (pc := 160) d130_160 rfl rfl rfl ?_
              obtain ⟨q16, e_q16, hm⟩ := ob_x hm
              refine pw_v (pc := 161) (k := l1) (by omega) d130_161 (k130_111 b) (by decide) m136 (by decide) rfl (sho s_h15 f_l1) (Nat.le_of_ble_eq_true rfl) (Nat.le_of_ble_eq_true rfl) rfl rfl (T_t_advance b L xs (d - 1) (by omega) h15 s_h15 l1 f_l1 e_q16) (fun v0 h0 hq => ?_)
              obtain ⟨rfl, hh0, s_q16⟩ := hq
              rw [hh0] at s_q16 ⊢
              simp only [Option.toList_none, List.nil_append]
              refine pw_s (pc := 164) d130_164 rfl rfl ?_
              obtain rfl := Option.some.inj hm
              refine pw_ri (pc := 165) d130_165 t130 rfl ?_
              exact hE s_q16
          · rw [if_neg c5] at hm
            refine pw_l (pc := 51) d130_51 rfl rfl rfl ?_
            refine pw_l (pc := 52) d130_52 rfl rfl rfl ?_
            refine pw_gi (pc := 53) d130_53 (k130_105 b) (sho s_q1 f_l1) f8_3 ?_
            refine pw_s (pc := 56) d130_56 rfl rfl ?_
            obtain ⟨q17, e_q17, hm⟩ := ob_x hm
            refine pw_v (pc := 57) (k := l1) (by omega) d130_57 (k130_108 b) (by decide) m141 (by decide) rfl (sho s_q1 f_l1) (Nat.le_of_ble_eq_true rfl) (Nat.le_of_ble_eq_true rfl) rfl rfl (T_t_blame b L xs (d - 1) (by omega) q1.2 s_q1 l1 (q1.2.2.1 l1 3) (Int32.ofInt 1) f_l1 e_q17) (fun v0 h0 hq => ?_)
            obtain ⟨rfl, hh0, s_q17⟩ := hq
            rw [hh0] at s_q17 ⊢
            simp only [Option.toList_some, List.cons_append, List.nil_append]
            obtain ⟨g18, hm⟩ := gd_x hm
            obtain rfl := Option.some.inj hm
            refine pw_ri (pc := 60) d130_60 t130 (pm_nz (mi_bo_x g18)) ?_
            exact hE s_q17
        · rw [if_neg c4] at hm
          refine pw_l (pc := 31) d130_31 rfl rfl rfl ?_
          refine pw_l (pc := 32) d130_32 rfl rfl rfl ?_
          refine pw_gi (pc := 33) d130_33 (k130_105 b) (sho s_q1 f_l1) f8_3 ?_
          refine pw_s (pc := 36) d130_36 rfl rfl ?_
          obtain ⟨q19, e_q19, hm⟩ := ob_x hm
          refine pw_v (pc := 37) (k := l1) (by omega) d130_37 (k130_108 b) (by decide) m141 (by decide) rfl (sho s_q1 f_l1) (Nat.le_of_ble_eq_true rfl) (Nat.le_of_ble_eq_true rfl) rfl rfl (T_t_blame b L xs (d - 1) (by omega) q1.2 s_q1 l1 (q1.2.2.1 l1 3) (Int32.ofInt 0) f_l1 e_q19) (fun v0 h0 hq => ?_)
          obtain ⟨rfl, hh0, s_q19⟩ := hq
          rw [hh0] at s_q19 ⊢
          simp only [Option.toList_some, List.cons_append, List.nil_append]
          obtain ⟨g20, hm⟩ := gd_x hm
          obtain rfl := Option.some.inj hm
          refine pw_ri (pc := 40) d130_40 t130 (pm_nz (mi_bo_x g20)) ?_
          exact hE s_q19
      · rw [if_neg c3] at hm
        refine pw_s (pc := 21) d130_21 rfl rfl ?_
        obtain rfl := Option.some.inj hm
        refine pw_ri (pc := 22) d130_22 t130 rfl ?_
        exact hE s_q1
  exact key _ (fun q => ⟨rfl, rfl, q⟩)
noncomputable def s_readMeans (l0 : Nat) (l1 : Nat) (h : pm_H) : Option (Int32 × pm_H) := (s_readNumber l1 (Int32.ofInt 0) ((h.2.1 l0 0) - (Int32.ofInt 1)) h).bind fun q1 => if 0 ≤ q1.1 then ((s_readNumber l1 (Int32.ofInt 0) ((q1.2.2.1 l0 0) - (Int32.ofInt 1)) q1.2).bind fun q3 => if 0 ≤ q3.1 then ((s_pair l0 q1.1 q3.1 q3.2).bind fun q5 => if q5 < 0 then ((s_readNumber l1 (Int32.ofInt 0) ((q3.2.2.1 l0 0) - (Int32.ofInt 1)) q3.2).bind fun q7 => if q7.1 < 0 then (some ((Int32.ofInt 0), q7.2)) else (if (q7.2.2.1 l0 3) < (Int8.ofInt 10).toInt32 then ((gA q7.2 l0 9 .int).bind fun y10 => if mi_in (q7.2.2.1 l0 3) (mi_n y10) = true then bd (pm_setI q7.2 y10 (q7.2.2.1 l0 3).toNatClampNeg q1.1) fun h12 => (gA h12 l0 10 .int).bind fun y13 => if mi_in (h12.2.1 l0 3) (mi_n y13) = true then bd (pm_setI h12 y13 (h12.2.1 l0 3).toNatClampNeg q3.1) fun h15 => (gA h15 l0 11 .int).bind fun y16 => if mi_in (h15.2.1 l0 3) (mi_n y16) = true then bd (pm_setI h15 y16 (h15.2.1 l0 3).toNatClampNeg q7.1) fun h18 => (gA h18 l0 12 .int).bind fun y19 => if mi_in ((q1.1 * (Int8.ofInt 10).toInt32) + q3.1) (mi_n y19) = true then bd (pm_setI h18 y19 ((q1.1 * (Int8.ofInt 10).toInt32) + q3.1).toNatClampNeg q7.1) fun h21 => bd (pm_setI h21 l0 3 ((h21.2.1 l0 3) + (Int32.ofInt 1))) fun h22 => some ((Int32.ofInt 1), h22) else none else none else none else none) else (some ((Int32.ofInt 0), q7.2)))) else ((t_blame l1 (q1.2.2.1 l1 3) (Int32.ofInt 1) q3.2).bind fun q23 => if mi_bo q23.1 = true then some (q23.1, q23.2) else none)) else (some ((Int32.ofInt 0), q3.2))) else (some ((Int32.ofInt 0), q1.2))
theorem T_s_readMeans (b : Bool) (L : Nat) (xs : Nat → Int32) (d : Nat) (hd : 3 ≤ d) (h : pm_H) (s_h : h.1 = tb_SH) (l0 : Nat) (l1 : Nat) (f_l0 : mi_o l0 7 = true) (f_l1 : mi_o l1 8 = true) {r : (Int32 × pm_H)} (hm : s_readMeans l0 l1 h = some r) : PC b L xs d 131 [(Value.ref l0), (Value.ref l1)] h (fun (v0 : Option Value) (h2 : pm_H) => v0 = (some (Value.int r.1)) ∧ h2 = r.2 ∧ h2.1 = tb_SH) := by
  refine pc_in e131 (ls0 := [(Value.ref l0), (Value.ref l1), Value.retAddr 0, Value.retAddr 0, Value.retAddr 0, Value.retAddr 0]) rfl ?_
  have key : ∀ (Q : Option Value → pm_H → Prop), (r.2.1 = tb_SH → Q (some (Value.int r.1)) r.2) → PW b L xs d 131 0 0 0 [(Value.ref l0), (Value.ref l1), Value.retAddr 0, Value.retAddr 0, Value.retAddr 0, Value.retAddr 0] [] h Q := by
    intro Q hE
    rw [s_readMeans] at hm
    refine pw_l (pc := 0) d131_0 rfl rfl rfl ?_
    refine pw_s (pc := 1) d131_1 rfl rfl ?_
    refine pw_l (pc := 2) d131_2 rfl rfl rfl ?_
    refine pw_gi (pc := 3) d131_3 (k131_9 b) (sho s_h f_l0) f7_0 ?_
    refine pw_s (pc := 6) d131_6 rfl rfl ?_
    refine pw_s (pc := 7) d131_7 rfl rfl ?_
    obtain ⟨q1, e_q1, hm⟩ := ob_x hm
    refine pw_u (pc := 8) (by omega) d131_8 (k131_136 b) (by decide) m132 (Nat.le_of_ble_eq_true rfl) (Nat.le_of_ble_eq_true rfl) (Nat.le_of_ble_eq_true rfl) rfl rfl (T_s_readNumber b L xs (d - 1) (by omega) h s_h l1 (Int32.ofInt 0) ((h.2.1 l0 0) - (Int32.ofInt 1)) f_l1 e_q1) (fun v0 h0 hq => ?_)
    obtain ⟨rfl, hh0, s_q1⟩ := hq
    rw [hh0] at s_q1 ⊢
    simp only [Option.toList_some, List.cons_append, List.nil_append]
    refine pw_t (pc := 11) d131_11 rfl rfl rfl rfl ?_
    refine pw_l (pc := 12) d131_12 rfl rfl rfl ?_
    refine pw_zge (pc := 13) (t := 18) d131_13 (by decide) (fun c2 => ?_) (fun c2 => ?_)
    · rw [if_pos c2] at hm
      refine pw_l (pc := 18) d131_18 rfl rfl rfl ?_
      refine pw_gi (pc := 19) d131_19 (k131_105 b) (sho s_q1 f_l1) f8_3 ?_
      refine pw_t (pc := 22) d131_22 rfl rfl rfl rfl ?_
      refine pw_l (pc := 23) d131_23 rfl rfl rfl ?_
      refine pw_s (pc := 24) d131_24 rfl rfl ?_
      refine pw_l (pc := 25) d131_25 rfl rfl rfl ?_
      refine pw_gi (pc := 26) d131_26 (k131_9 b) (sho s_q1 f_l0) f7_0 ?_
      refine pw_s (pc := 29) d131_29 rfl rfl ?_
      refine pw_s (pc := 30) d131_30 rfl rfl ?_
      obtain ⟨q3, e_q3, hm⟩ := ob_x hm
      refine pw_u (pc := 31) (by omega) d131_31 (k131_136 b) (by decide) m132 (Nat.le_of_ble_eq_true rfl) (Nat.le_of_ble_eq_true rfl) (Nat.le_of_ble_eq_true rfl) rfl rfl (T_s_readNumber b L xs (d - 1) (by omega) q1.2 s_q1 l1 (Int32.ofInt 0) ((q1.2.2.1 l0 0) - (Int32.ofInt 1)) f_l1 e_q3) (fun v0 h0 hq => ?_)
      obtain ⟨rfl, hh0, s_q3⟩ := hq
      rw [hh0] at s_q3 ⊢
      simp only [Option.toList_some, List.cons_append, List.nil_append]
      refine pw_t (pc := 34) d131_34 rfl rfl rfl rfl ?_
      refine pw_l (pc := 36) d131_36 rfl rfl rfl ?_
      refine pw_zge (pc := 38) (t := 43) d131_38 (by decide) (fun c4 => ?_) (fun c4 => ?_)
      · rw [if_pos c4] at hm
        refine pw_l (pc := 43) d131_43 rfl rfl rfl ?_
        refine pw_l (pc := 44) d131_44 rfl rfl rfl ?_
        refine pw_l (pc := 45) d131_45 rfl rfl rfl ?_
        obtain ⟨q5, e_q5, hm⟩ := ob_x hm
        refine pw_v (pc := 47) (k := l0) (by omega) d131_47 (k131_70 b) (by decide) m117 (by decide) rfl (sho s_q3 f_l0) (Nat.le_of_ble_eq_true rfl) (Nat.le_of_ble_eq_true rfl) rfl rfl (T_s_pair b L xs (d - 1) (by omega) q3.2 s_q3 l0 q1.1 q3.1 f_l0 e_q5) (fun v0 h0 hq => ?_)
        obtain ⟨rfl, hh0, s_q5⟩ := hq
        rw [hh0] at s_q5 ⊢
        simp only [Option.toList_some, List.cons_append, List.nil_append]
        refine pw_zlt (pc := 50) (t := 60) d131_50 (by decide) (fun c6 => ?_) (fun c6 => ?_)
        · rw [if_pos c6] at hm
          refine pw_l (pc := 60) d131_60 rfl rfl rfl ?_
          refine pw_s (pc := 61) d131_61 rfl rfl ?_
          refine pw_l (pc := 62) d131_62 rfl rfl rfl ?_
          refine pw_gi (pc := 63) d131_63 (k131_9 b) (sho s_q3 f_l0) f7_0 ?_
          refine pw_s (pc := 66) d131_66 rfl rfl ?_
          refine pw_s (pc := 67) d131_67 rfl rfl ?_
          obtain ⟨q7, e_q7, hm⟩ := ob_x hm
          refine pw_u (pc := 68) (by omega) d131_68 (k131_136 b) (by decide) m132 (Nat.le_of_ble_eq_true rfl) (Nat.le_of_ble_eq_true rfl) (Nat.le_of_ble_eq_true rfl) rfl rfl (T_s_readNumber b L xs (d - 1) (by omega) q3.2 s_q3 l1 (Int32.ofInt 0) ((q3.2.2.1 l0 0) - (Int32.ofInt 1)) f_l1 e_q7) (fun v0 h0 hq => ?_)
          obtain ⟨rfl, hh0, s_q7⟩ := hq
          rw [hh0] at s_q7 ⊢
          simp only [Option.toList_some, List.cons_append, List.nil_append]
          refine pw_t (pc := 71) d131_71 rfl rfl rfl rfl ?_
          refine pw_l (pc := 73) d131_73 rfl rfl rfl ?_
          refine pw_zlt (pc := 75) (t := 87) d131_75 (by decide) (fun c8 => ?_) (fun c8 => ?_)
          · rw [if_pos c8] at hm
            refine pw_s (pc := 87) d131_87 rfl rfl ?_
            obtain rfl := Option.some.inj hm
            refine pw_ri (pc := 88) d131_88 t131 rfl ?_
            exact hE s_q7
          · rw [if_neg c8] at hm
            refine pw_l (pc := 78) d131_78 rfl rfl rfl ?_
            refine pw_gi (pc := 79) d131_79 (k131_21 b) (sho s_q7 f_l0) f7_3 ?_
            refine pw_s (pc := 82) d131_82 rfl rfl ?_
            refine pw_ilt (pc := 84) (t := 89) d131_84 (by decide) (fun c9 => ?_) (fun c9 => ?_)
            · rw [if_pos c9] at hm
              refine pw_l (pc := 89) d131_89 rfl rfl rfl ?_
              obtain ⟨y10, e_y10, hm⟩ := ob_x hm
              have f_y10 := gA_x e_y10
              refine pw_gr (pc := 90) d131_90 (k131_40 b) (sho s_q7 f_l0) f7_9 f_y10.1 ?_
              refine pw_l (pc := 93) d131_93 rfl rfl rfl ?_
              refine pw_gi (pc := 94) d131_94 (k131_21 b) (sho s_q7 f_l0) f7_3 ?_
              refine pw_l (pc := 97) d131_97 rfl rfl rfl ?_
              obtain ⟨g11, hm⟩ := gd_x hm
              refine pw_si (pc := 98) d131_98 (sha s_q7 f_y10.2) (mi_in_x g11) ?_
              obtain ⟨h12, e_h12, hm⟩ := bd_x hm
              rw [e_h12]
              have s_h12 : h12.1 = tb_SH := by rw [← e_h12]; exact s_q7
              refine pw_l (pc := 99) d131_99 rfl rfl rfl ?_
              obtain ⟨y13, e_y13, hm⟩ := ob_x hm
              have f_y13 := gA_x e_y13
              refine pw_gr (pc := 100) d131_100 (k131_43 b) (sho s_h12 f_l0) f7_10 f_y13.1 ?_
              refine pw_l (pc := 103) d131_103 rfl rfl rfl ?_
              refine pw_gi (pc := 104) d131_104 (k131_21 b) (sho s_h12 f_l0) f7_3 ?_
              refine pw_l (pc := 107) d131_107 rfl rfl rfl ?_
              obtain ⟨g14, hm⟩ := gd_x hm
              refine pw_si (pc := 109) d131_109 (sha s_h12 f_y13.2) (mi_in_x g14) ?_
              obtain ⟨h15, e_h15, hm⟩ := bd_x hm
              rw [e_h15]
              have s_h15 : h15.1 = tb_SH := by rw [← e_h15]; exact s_h12
              refine pw_l (pc := 110) d131_110 rfl rfl rfl ?_
              obtain ⟨y16, e_y16, hm⟩ := ob_x hm
              have f_y16 := gA_x e_y16
              refine pw_gr (pc := 111) d131_111 (k131_46 b) (sho s_h15 f_l0) f7_11 f_y16.1 ?_
              refine pw_l (pc := 114) d131_114 rfl rfl rfl ?_
              refine pw_gi (pc := 115) d131_115 (k131_21 b) (sho s_h15 f_l0) f7_3 ?_
              refine pw_l (pc := 118) d131_118 rfl rfl rfl ?_
              obtain ⟨g17, hm⟩ := gd_x hm
              refine pw_si (pc := 120) d131_120 (sha s_h15 f_y16.2) (mi_in_x g17) ?_
              obtain ⟨h18, e_h18, hm⟩ := bd_x hm
              rw [e_h18]
              have s_h18 : h18.1 = tb_SH := by rw [← e_h18]; exact s_h15
              refine pw_l (pc := 121) d131_121 rfl rfl rfl ?_
              obtain ⟨y19, e_y19, hm⟩ := ob_x hm
              have f_y19 := gA_x e_y19
              refine pw_gr (pc := 122) d131_122 (k131_49 b) (sho s_h18 f_l0) f7_12 f_y19.1 ?_
              refine pw_l (pc := 125) d131_125 rfl rfl rfl ?_
              refine pw_s (pc := 126) d131_126 rfl rfl ?_
              refine pw_s (pc := 128) d131_128 rfl rfl ?_
              refine pw_l (pc := 129) d131_129 rfl rfl rfl ?_
              refine pw_s (pc := 131) d131_131 rfl rfl ?_
              refine pw_l (pc := 132) d131_132 rfl rfl rfl ?_
              obtain ⟨g20, hm⟩ := gd_x hm
              refine pw_si (pc := 134) d131_134 (sha s_h18 f_y19.2) (mi_in_x g20) ?_
              obtain ⟨h21, e_h21, hm⟩ := bd_x hm
              rw [e_h21]
              have s_h21 : h21.1 = tb_SH := by rw [← e_h21]; exact s_h18
              refine pw_l (pc := 135) d131_135 rfl rfl rfl ?_
              refine pw_s (pc := 136) d131_136 rfl rfl ?_
              refine pw_gi (pc := 137) d131_137 (k131_21 b) (sho s_h21 f_l0) f7_3 ?_
              refine pw_s (pc := 140) d131_140 rfl rfl ?_
              refine pw_s (pc := 141) d131_141 rfl rfl ?_
              refine pw_pi (pc := 142) d131_142 (k131_21 b) (sho s_h21 f_l0) p131_7_3 ?_
              obtain ⟨h22, e_h22, hm⟩ := bd_x hm
              rw [e_h22]
              have s_h22 : h22.1 = tb_SH := by rw [← e_h22]; exact s_h21
              refine pw_s (pc := 145) d131_145 rfl rfl ?_
              obtain rfl := Option.some.inj hm
              refine pw_ri (pc := 146) d131_146 t131 rfl ?_
              exact hE s_h22
            · rw [if_neg c9] at hm
              refine pw_s (pc := 87) d131_87 rfl rfl ?_
              obtain rfl := Option.some.inj hm
              refine pw_ri (pc := 88) d131_88 t131 rfl ?_
              exact hE s_q7
        · rw [if_neg c6] at hm
          refine pw_l (pc := 53) d131_53 rfl rfl rfl ?_
          refine pw_l (pc := 54) d131_54 rfl rfl rfl ?_
          refine pw_s (pc := 55) d131_55 rfl rfl ?_
          obtain ⟨q23, e_q23, hm⟩ := ob_x hm
          refine pw_v (pc := 56) (k := l1) (by omega) d131_56 (k131_108 b) (by decide) m141 (by decide) rfl (sho s_q3 f_l1) (Nat.le_of_ble_eq_true rfl) (Nat.le_of_ble_eq_true rfl) rfl rfl (T_t_blame b L xs (d - 1) (by omega) q3.2 s_q3 l1 (q1.2.2.1 l1 3) (Int32.ofInt 1) f_l1 e_q23) (fun v0 h0 hq => ?_)
          obtain ⟨rfl, hh0, s_q23⟩ := hq
          rw [hh0] at s_q23 ⊢
          simp only [Option.toList_some, List.cons_append, List.nil_append]
          obtain ⟨g24, hm⟩ := gd_x hm
          obtain rfl := Option.some.inj hm
          refine pw_ri (pc := 59) d131_59 t131 (pm_nz (mi_bo_x g24)) ?_
          exact hE s_q23
      · rw [if_neg c4] at hm
        refine pw_s (pc := 41) d131_41 rfl rfl ?_
        obtain rfl := Option.some.inj hm
        refine pw_ri (pc := 42) d131_42 t131 rfl ?_
        exact hE s_q3
    · rw [if_neg c2] at hm
      refine pw_s (pc := 16) d131_16 rfl rfl ?_
      obtain rfl := Option.some.inj hm
      refine pw_ri (pc := 17) d131_17 t131 rfl ?_
      exact hE s_q1
  exact key _ (fun q => ⟨rfl, rfl, q⟩)
noncomputable def s_readClause_68 (l1 : Nat) (h : pm_H) : Option (Int32 × pm_H) := (t_blame l1 (h.2.1 l1 3) (Int32.ofInt 4) h).bind fun q1 => if mi_bo q1.1 = true then some (q1.1, q1.2) else none
theorem t_s_readClause_68 (b : Bool) (L : Nat) (xs : Nat → Int32) (d : Nat) (hd : 9 ≤ d) {Q : Option Value → pm_H → Prop} (h : pm_H) (s_h : h.1 = tb_SH) (l1 : Nat) (w0 : Value) (w2 : Value) (w3 : Value) (w4 : Value) (f_l1 : mi_o l1 8 = true) {r : (Int32 × pm_H)} (hm : s_readClause_68 l1 h = some r) (hE : r.2.1 = tb_SH → Q (some (Value.int r.1)) r.2) : PW b L xs d 126 0 0 68 [w0, (Value.ref l1), w2, w3, w4] [] h Q := by
  rw [s_readClause_68] at hm
  refine pw_l (pc := 68) d126_68 rfl rfl rfl ?_
  refine pw_l (pc := 69) d126_69 rfl rfl rfl ?_
  refine pw_gi (pc := 70) d126_70 (k126_105 b) (sho s_h f_l1) f8_3 ?_
  refine pw_s (pc := 73) d126_73 rfl rfl ?_
  obtain ⟨q1, e_q1, hm⟩ := ob_x hm
  refine pw_v (pc := 74) (k := l1) (by omega) d126_74 (k126_108 b) (by decide) m141 (by decide) rfl (sho s_h f_l1) (Nat.le_of_ble_eq_true rfl) (Nat.le_of_ble_eq_true rfl) rfl rfl (T_t_blame b L xs (d - 1) (by omega) h s_h l1 (h.2.1 l1 3) (Int32.ofInt 4) f_l1 e_q1) (fun v0 h0 hq => ?_)
  obtain ⟨rfl, hh0, s_q1⟩ := hq
  rw [hh0] at s_q1 ⊢
  simp only [Option.toList_some, List.cons_append, List.nil_append]
  obtain ⟨g2, hm⟩ := gd_x hm
  obtain rfl := Option.some.inj hm
  refine pw_ri (pc := 77) d126_77 t126 (pm_nz (mi_bo_x g2)) ?_
  exact hE s_q1
noncomputable def s_readClause_47 (l0 : Nat) (l1 : Nat) (l2 : Int32) (l3 : Int32) (z0 : Int32) (h : pm_H) : Option (Int32 × pm_H) := if ¬ z0 = 0 then (s_readClause_68 l1 h) else (if (Int8.ofInt 40).toInt32 ≤ l2 then (s_readClause_68 l1 h) else ((s_isFull l0 l3 h).bind fun q3 => if q3 = 0 then ((t_advance l1 h).bind fun q5 => if l3 = (0 : Int32) then ((s_readWords l0 l1 q5).bind fun q7 => if mi_bo q7.1 = true then some (q7.1, q7.2) else none) else (if l3 = (1 : Int32) then ((s_readMan l0 l1 q5).bind fun q10 => if mi_bo q10.1 = true then some (q10.1, q10.2) else none) else (if l3 = (2 : Int32) then ((s_readOrder l0 l1 q5).bind fun q13 => if mi_bo q13.1 = true then some (q13.1, q13.2) else none) else ((s_readMeans l0 l1 q5).bind fun q15 => if mi_bo q15.1 = true then some (q15.1, q15.2) else none)))) else (s_readClause_68 l1 h)))
theorem t_s_readClause_47 (b : Bool) (L : Nat) (xs : Nat → Int32) (d : Nat) (hd : 9 ≤ d) {Q : Option Value → pm_H → Prop} (h : pm_H) (s_h : h.1 = tb_SH) (l0 : Nat) (l1 : Nat) (l2 : Int32) (l3 : Int32) (z0 : Int32) (w4 : Value) (f_l0 : mi_o l0 7 = true) (f_l1 : mi_o l1 8 = true) {r : (Int32 × pm_H)} (hm : s_readClause_47 l0 l1 l2 l3 z0 h = some r) (hE : r.2.1 = tb_SH → Q (some (Value.int r.1)) r.2) : PW b L xs d 126 0 0 47 [(Value.ref l0), (Value.ref l1), (Value.int l2), (Value.int l3), w4] [(Value.int z0)] h Q := by
  rw [s_readClause_47] at hm
  refine pw_t (pc := 47) d126_47 rfl rfl rfl rfl ?_
  refine pw_l (pc := 49) d126_49 rfl rfl rfl ?_
  refine pw_zne (pc := 51) (t := 68) d126_51 (by decide) (fun c1 => ?_) (fun c1 => ?_)
  · rw [if_pos c1] at hm
    exact t_s_readClause_68 b L xs d hd h s_h l1 (Value.ref l0) (Value.int l2) (Value.int l3) (Value.int z0) f_l1  hm hE
  · rw [if_neg c1] at hm
    refine pw_l (pc := 54) d126_54 rfl rfl rfl ?_
    refine pw_s (pc := 55) d126_55 rfl rfl ?_
    refine pw_ige (pc := 57) (t := 68) d126_57 (by decide) (fun c2 => ?_) (fun c2 => ?_)
    · rw [if_pos c2] at hm
      exact t_s_readClause_68 b L xs d hd h s_h l1 (Value.ref l0) (Value.int l2) (Value.int l3) (Value.int z0) f_l1  hm hE
    · rw [if_neg c2] at hm
      refine pw_l (pc := 60) d126_60 rfl rfl rfl ?_
      refine pw_l (pc := 61) d126_61 rfl rfl rfl ?_
      obtain ⟨q3, e_q3, hm⟩ := ob_x hm
      refine pw_v (pc := 62) (k := l0) (by omega) d126_62 (k126_120 b) (by decide) m127 (by decide) rfl (sho s_h f_l0) (Nat.le_of_ble_eq_true rfl) (Nat.le_of_ble_eq_true rfl) rfl rfl (T_s_isFull b L xs (d - 1) (by omega) h s_h l0 l3 f_l0 e_q3) (fun v0 h0 hq => ?_)
      obtain ⟨rfl, hh0, s_q3⟩ := hq
      rw [hh0] at s_q3 ⊢
      simp only [Option.toList_some, List.cons_append, List.nil_append]
      refine pw_zeq (pc := 65) (t := 78) d126_65 (by decide) (fun c4 => ?_) (fun c4 => ?_)
      · rw [if_pos c4] at hm
        refine pw_l (pc := 78) d126_78 rfl rfl rfl ?_
        obtain ⟨q5, e_q5, hm⟩ := ob_x hm
        refine pw_v (pc := 79) (k := l1) (by omega) d126_79 (k126_111 b) (by decide) m136 (by decide) rfl (sho s_h f_l1) (Nat.le_of_ble_eq_true rfl) (Nat.le_of_ble_eq_true rfl) rfl rfl (T_t_advance b L xs (d - 1) (by omega) h s_h l1 f_l1 e_q5) (fun v0 h0 hq => ?_)
        obtain ⟨rfl, hh0, s_q5⟩ := hq
        rw [hh0] at s_q5 ⊢
        simp only [Option.toList_none, List.nil_append]
        refine pw_l (pc := 82) d126_82 rfl rfl rfl ?_
        by_cases c6 : l3 = (0 : Int32)
        · rw [if_pos c6] at hm
          refine pw_tin (pc := 83) (t := 108) (off := 25) d126_83 (by rw [c6]; decide) (by rw [c6]; decide +kernel) (by decide) ?_
          refine pw_l (pc := 108) d126_108 rfl rfl rfl ?_
          refine pw_l (pc := 109) d126_109 rfl rfl rfl ?_
          obtain ⟨q7, e_q7, hm⟩ := ob_x hm
          refine pw_v (pc := 110) (k := l0) (by omega) d126_110 (k126_123 b) (by decide) m128 (by decide) rfl (sho s_q5 f_l0) (Nat.le_of_ble_eq_true rfl) (Nat.le_of_ble_eq_true rfl) rfl rfl (T_s_readWords b L xs (d - 1) (by omega) q5 s_q5 l0 l1 f_l0 f_l1 e_q7) (fun v0 h0 hq => ?_)
          obtain ⟨rfl, hh0, s_q7⟩ := hq
          rw [hh0] at s_q7 ⊢
          simp only [Option.toList_some, List.cons_append, List.nil_append]
          obtain ⟨g8, hm⟩ := gd_x hm
          obtain rfl := Option.some.inj hm
          refine pw_ri (pc := 113) d126_113 t126 (pm_nz (mi_bo_x g8)) ?_
          exact hE s_q7
        rw [if_neg c6] at hm
        by_cases c9 : l3 = (1 : Int32)
        · rw [if_pos c9] at hm
          refine pw_tin (pc := 83) (t := 114) (off := 31) d126_83 (by rw [c9]; decide) (by rw [c9]; decide +kernel) (by decide) ?_
          refine pw_l (pc := 114) d126_114 rfl rfl rfl ?_
          refine pw_l (pc := 115) d126_115 rfl rfl rfl ?_
          obtain ⟨q10, e_q10, hm⟩ := ob_x hm
          refine pw_v (pc := 116) (k := l0) (by omega) d126_116 (k126_127 b) (by decide) m129 (by decide) rfl (sho s_q5 f_l0) (Nat.le_of_ble_eq_true rfl) (Nat.le_of_ble_eq_true rfl) rfl rfl (T_s_readMan b L xs (d - 1) (by omega) q5 s_q5 l0 l1 f_l0 f_l1 e_q10) (fun v0 h0 hq => ?_)
          obtain ⟨rfl, hh0, s_q10⟩ := hq
          rw [hh0] at s_q10 ⊢
          simp only [Option.toList_some, List.cons_append, List.nil_append]
          obtain ⟨g11, hm⟩ := gd_x hm
          obtain rfl := Option.some.inj hm
          refine pw_ri (pc := 119) d126_119 t126 (pm_nz (mi_bo_x g11)) ?_
          exact hE s_q10
        rw [if_neg c9] at hm
        by_cases c12 : l3 = (2 : Int32)
        · rw [if_pos c12] at hm
          refine pw_tin (pc := 83) (t := 120) (off := 37) d126_83 (by rw [c12]; decide) (by rw [c12]; decide +kernel) (by decide) ?_
          refine pw_l (pc := 120) d126_120 rfl rfl rfl ?_
          refine pw_l (pc := 121) d126_121 rfl rfl rfl ?_
          obtain ⟨q13, e_q13, hm⟩ := ob_x hm
          refine pw_v (pc := 122) (k := l0) (by omega) d126_122 (k126_130 b) (by decide) m130 (by decide) rfl (sho s_q5 f_l0) (Nat.le_of_ble_eq_true rfl) (Nat.le_of_ble_eq_true rfl) rfl rfl (T_s_readOrder b L xs (d - 1) (by omega) q5 s_q5 l0 l1 f_l0 f_l1 e_q13) (fun v0 h0 hq => ?_)
          obtain ⟨rfl, hh0, s_q13⟩ := hq
          rw [hh0] at s_q13 ⊢
          simp only [Option.toList_some, List.cons_append, List.nil_append]
          obtain ⟨g14, hm⟩ := gd_x hm
          obtain rfl := Option.some.inj hm
          refine pw_ri (pc := 125) d126_125 t126 (pm_nz (mi_bo_x g14)) ?_
          exact hE s_q13
        rw [if_neg c12] at hm
        refine pw_tout (pc := 83) (t := 126) d126_83 (mi_sw (x := l3) (lo := 0) (n := 3) (by decide) (by decide) (fun j hj => match j, hj with | 0, _ => c6 | 1, _ => c9 | 2, _ => c12 | j + 3, h => absurd h (by omega))) (by decide) ?_
        refine pw_l (pc := 126) d126_126 rfl rfl rfl ?_
        refine pw_l (pc := 127) d126_127 rfl rfl rfl ?_
        obtain ⟨q15, e_q15, hm⟩ := ob_x hm
        refine pw_v (pc := 128) (k := l0) (by omega) d126_128 (k126_133 b) (by decide) m131 (by decide) rfl (sho s_q5 f_l0) (Nat.le_of_ble_eq_true rfl) (Nat.le_of_ble_eq_true rfl) rfl rfl (T_s_readMeans b L xs (d - 1) (by omega) q5 s_q5 l0 l1 f_l0 f_l1 e_q15) (fun v0 h0 hq => ?_)
        obtain ⟨rfl, hh0, s_q15⟩ := hq
        rw [hh0] at s_q15 ⊢
        simp only [Option.toList_some, List.cons_append, List.nil_append]
        obtain ⟨g16, hm⟩ := gd_x hm
        obtain rfl := Option.some.inj hm
        refine pw_ri (pc := 131) d126_131 t126 (pm_nz (mi_bo_x g16)) ?_
        exact hE s_q15
      · rw [if_neg c4] at hm
        exact t_s_readClause_68 b L xs d hd h s_h l1 (Value.ref l0) (Value.int l2) (Value.int l3) (Value.int z0) f_l1  hm hE
noncomputable def s_readClause_39 (l0 : Nat) (l1 : Nat) (l2 : Int32) (l3 : Int32) (z0 : Int32) (z1 : Int32) (h : pm_H) : Option (Int32 × pm_H) := if z1 = z0 then (s_readClause_47 l0 l1 l2 l3 (Int32.ofInt 0) h) else (s_readClause_47 l0 l1 l2 l3 (Int32.ofInt 1) h)
theorem t_s_readClause_39 (b : Bool) (L : Nat) (xs : Nat → Int32) (d : Nat) (hd : 9 ≤ d) {Q : Option Value → pm_H → Prop} (h : pm_H) (s_h : h.1 = tb_SH) (l0 : Nat) (l1 : Nat) (l2 : Int32) (l3 : Int32) (z0 : Int32) (z1 : Int32) (w4 : Value) (f_l0 : mi_o l0 7 = true) (f_l1 : mi_o l1 8 = true) {r : (Int32 × pm_H)} (hm : s_readClause_39 l0 l1 l2 l3 z0 z1 h = some r) (hE : r.2.1 = tb_SH → Q (some (Value.int r.1)) r.2) : PW b L xs d 126 0 0 39 [(Value.ref l0), (Value.ref l1), (Value.int l2), (Value.int l3), w4] [(Value.int z0), (Value.int z1)] h Q := by
  rw [s_readClause_39] at hm
  refine pw_ieq (pc := 39) (t := 46) d126_39 (by decide) (fun c1 => ?_) (fun c1 => ?_)
  · rw [if_pos c1] at hm
    refine pw_s (pc := 46) d126_46 rfl rfl ?_
    exact t_s_readClause_47 b L xs d hd h s_h l0 l1 l2 l3 (Int32.ofInt 0) w4 f_l0 f_l1  hm hE
  · rw [if_neg c1] at hm
    refine pw_s (pc := 42) d126_42 rfl rfl ?_
    refine pw_go (pc := 43) (t := 47) d126_43 (by decide) ?_
    exact t_s_readClause_47 b L xs d hd h s_h l0 l1 l2 l3 (Int32.ofInt 1) w4 f_l0 f_l1  hm hE
noncomputable def s_readClause_30 (l0 : Nat) (l1 : Nat) (l2 : Int32) (l3 : Int32) (z0 : Int32) (h : pm_H) : Option (Int32 × pm_H) := if ¬ l2 = 0 then (s_readClause_39 l0 l1 l2 l3 (Int32.ofInt 0) z0 h) else (s_readClause_39 l0 l1 l2 l3 (Int32.ofInt 1) z0 h)
theorem t_s_readClause_30 (b : Bool) (L : Nat) (xs : Nat → Int32) (d : Nat) (hd : 9 ≤ d) {Q : Option Value → pm_H → Prop} (h : pm_H) (s_h : h.1 = tb_SH) (l0 : Nat) (l1 : Nat) (l2 : Int32) (l3 : Int32) (z0 : Int32) (w4 : Value) (f_l0 : mi_o l0 7 = true) (f_l1 : mi_o l1 8 = true) {r : (Int32 × pm_H)} (hm : s_readClause_30 l0 l1 l2 l3 z0 h = some r) (hE : r.2.1 = tb_SH → Q (some (Value.int r.1)) r.2) : PW b L xs d 126 0 0 30 [(Value.ref l0), (Value.ref l1), (Value.int l2), (Value.int l3), w4] [(Value.int z0)] h Q := by
  rw [s_readClause_30] at hm
  refine pw_l (pc := 30) d126_30 rfl rfl rfl ?_
  refine pw_zne (pc := 31) (t := 38) d126_31 (by decide) (fun c1 => ?_) (fun c1 => ?_)
  · rw [if_pos c1] at hm
    refine pw_s (pc := 38) d126_38 rfl rfl ?_
    exact t_s_readClause_39 b L xs d hd h s_h l0 l1 l2 l3 (Int32.ofInt 0) z0 w4 f_l0 f_l1  hm hE
  · rw [if_neg c1] at hm
    refine pw_s (pc := 34) d126_34 rfl rfl ?_
    refine pw_go (pc := 35) (t := 39) d126_35 (by decide) ?_
    exact t_s_readClause_39 b L xs d hd h s_h l0 l1 l2 l3 (Int32.ofInt 1) z0 w4 f_l0 f_l1  hm hE
noncomputable def s_readClause (l0 : Nat) (l1 : Nat) (l2 : Int32) (h : pm_H) : Option (Int32 × pm_H) := (t_wordOf l1 3 h).bind fun q1 => if 0 ≤ q1 then (if ¬ q1 = 0 then (s_readClause_30 l0 l1 l2 q1 (Int32.ofInt 0) h) else (s_readClause_30 l0 l1 l2 q1 (Int32.ofInt 1) h)) else ((t_blame l1 (h.2.1 l1 3) (Int32.ofInt 0) h).bind fun q4 => if mi_bo q4.1 = true then some (q4.1, q4.2) else none)
theorem T_s_readClause (b : Bool) (L : Nat) (xs : Nat → Int32) (d : Nat) (hd : 9 ≤ d) (h : pm_H) (s_h : h.1 = tb_SH) (l0 : Nat) (l1 : Nat) (l2 : Int32) (f_l0 : mi_o l0 7 = true) (f_l1 : mi_o l1 8 = true) {r : (Int32 × pm_H)} (hm : s_readClause l0 l1 l2 h = some r) : PC b L xs d 126 [(Value.ref l0), (Value.ref l1), (Value.int l2)] h (fun (v0 : Option Value) (h2 : pm_H) => v0 = (some (Value.int r.1)) ∧ h2 = r.2 ∧ h2.1 = tb_SH) := by
  refine pc_in e126 (ls0 := [(Value.ref l0), (Value.ref l1), (Value.int l2), Value.retAddr 0, Value.retAddr 0]) rfl ?_
  have key : ∀ (Q : Option Value → pm_H → Prop), (r.2.1 = tb_SH → Q (some (Value.int r.1)) r.2) → PW b L xs d 126 0 0 0 [(Value.ref l0), (Value.ref l1), (Value.int l2), Value.retAddr 0, Value.retAddr 0] [] h Q := by
    intro Q hE
    rw [s_readClause] at hm
    refine pw_l (pc := 0) d126_0 rfl rfl rfl ?_
    refine pw_tx (pc := 1) d126_1 (k126_114 b) ?_
    obtain ⟨q1, e_q1, hm⟩ := ob_x hm
    refine pw_v (pc := 3) (k := l1) (by omega) d126_3 (k126_116 b) (by decide) m139 (by decide) rfl (sho s_h f_l1) (Nat.le_of_ble_eq_true rfl) (Nat.le_of_ble_eq_true rfl) rfl rfl (T_t_wordOf b L xs (d - 1) (by omega) h s_h l1 3 f_l1 e_q1) (fun v0 h0 hq => ?_)
    obtain ⟨rfl, hh0, s_q1⟩ := hq
    rw [hh0] at s_q1 ⊢
    simp only [Option.toList_some, List.cons_append, List.nil_append]
    refine pw_t (pc := 6) d126_6 rfl rfl rfl rfl ?_
    refine pw_l (pc := 7) d126_7 rfl rfl rfl ?_
    refine pw_zge (pc := 8) (t := 21) d126_8 (by decide) (fun c2 => ?_) (fun c2 => ?_)
    · rw [if_pos c2] at hm
      refine pw_l (pc := 21) d126_21 rfl rfl rfl ?_
      refine pw_zne (pc := 22) (t := 29) d126_22 (by decide) (fun c3 => ?_) (fun c3 => ?_)
      · rw [if_pos c3] at hm
        refine pw_s (pc := 29) d126_29 rfl rfl ?_
        exact t_s_readClause_30 b L xs d hd h s_h l0 l1 l2 q1 (Int32.ofInt 0) (Value.retAddr 0) f_l0 f_l1  hm hE
      · rw [if_neg c3] at hm
        refine pw_s (pc := 25) d126_25 rfl rfl ?_
        refine pw_go (pc := 26) (t := 30) d126_26 (by decide) ?_
        exact t_s_readClause_30 b L xs d hd h s_h l0 l1 l2 q1 (Int32.ofInt 1) (Value.retAddr 0) f_l0 f_l1  hm hE
    · rw [if_neg c2] at hm
      refine pw_l (pc := 11) d126_11 rfl rfl rfl ?_
      refine pw_l (pc := 12) d126_12 rfl rfl rfl ?_
      refine pw_gi (pc := 13) d126_13 (k126_105 b) (sho s_h f_l1) f8_3 ?_
      refine pw_s (pc := 16) d126_16 rfl rfl ?_
      obtain ⟨q4, e_q4, hm⟩ := ob_x hm
      refine pw_v (pc := 17) (k := l1) (by omega) d126_17 (k126_108 b) (by decide) m141 (by decide) rfl (sho s_h f_l1) (Nat.le_of_ble_eq_true rfl) (Nat.le_of_ble_eq_true rfl) rfl rfl (T_t_blame b L xs (d - 1) (by omega) h s_h l1 (h.2.1 l1 3) (Int32.ofInt 0) f_l1 e_q4) (fun v0 h0 hq => ?_)
      obtain ⟨rfl, hh0, s_q4⟩ := hq
      rw [hh0] at s_q4 ⊢
      simp only [Option.toList_some, List.cons_append, List.nil_append]
      obtain ⟨g5, hm⟩ := gd_x hm
      obtain rfl := Option.some.inj hm
      refine pw_ri (pc := 20) d126_20 t126 (pm_nz (mi_bo_x g5)) ?_
      exact hE s_q4
  exact key _ (fun q => ⟨rfl, rfl, q⟩)
def E_s_read_35 (b : Bool) (L : Nat) (xs : Nat → Int32) (d : Nat) (Q : Option Value → pm_H → Prop) (l0 : Nat) (l1 : Nat) : ((Int32 × pm_H) ⊕ pm_H ⊕ pm_H ⊕ pm_H ⊕ pm_H) → Prop
  | .inl s => s.2.1 = tb_SH → PW b L xs d 125 0 0 35 [(Value.ref l0), (Value.ref l1), (Value.int s.1)] [] s.2 Q
  | .inr (.inl e) => e.1 = tb_SH → ∀ w0 w1 w2 : Value, PW b L xs d 125 0 0 50 [w0, w1, w2] [] e Q
  | .inr (.inr (.inl e)) => e.1 = tb_SH → ∀ w0 w1 w2 : Value, PW b L xs d 125 0 0 59 [w0, w1, w2] [] e Q
  | .inr (.inr (.inr (.inl e))) => e.1 = tb_SH → ∀ w0 w2 : Value, PW b L xs d 125 0 0 70 [w0, (Value.ref l1), w2] [] e Q
  | .inr (.inr (.inr (.inr e))) => e.1 = tb_SH → ∀ w0 w1 w2 : Value, PW b L xs d 125 0 0 90 [w0, w1, w2] [] e Q
noncomputable def s_read_35 (l0 : Nat) (l1 : Nat) (l2 : Int32) (h : pm_H) : Option ((Int32 × pm_H) ⊕ pm_H ⊕ pm_H ⊕ pm_H ⊕ pm_H) := if (Int8.ofInt 40).toInt32 < l2 then (some (.inr (.inr (.inr (.inr h))))) else ((s_readClause l0 l1 l2 h).bind fun q2 => if ¬ q2.1 = 0 then (if ¬ (q2.2.2.1 l1 2) = 0 then ((t_isSign l1 ((Int8.ofInt 59).toInt32) q2.2).bind fun q5 => if ¬ q5 = 0 then ((t_advance l1 q2.2).bind fun q7 => some (.inl ((l2 + Int32.ofInt 1), q7))) else (some (.inr (.inr (.inr (.inl q2.2)))))) else (some (.inr (.inr (.inl q2.2))))) else (some (.inr (.inl q2.2))))
theorem t_s_read_35 (b : Bool) (L : Nat) (xs : Nat → Int32) (d : Nat) (hd : 10 ≤ d) {Q : Option Value → pm_H → Prop} (h : pm_H) (s_h : h.1 = tb_SH) (l0 : Nat) (l1 : Nat) (l2 : Int32) (f_l0 : mi_o l0 7 = true) (f_l1 : mi_o l1 8 = true) {r : ((Int32 × pm_H) ⊕ pm_H ⊕ pm_H ⊕ pm_H ⊕ pm_H)} (hm : s_read_35 l0 l1 l2 h = some r) (hE : E_s_read_35 b L xs d Q l0 l1 r) : PW b L xs d 125 0 0 35 [(Value.ref l0), (Value.ref l1), (Value.int l2)] [] h Q := by
  rw [s_read_35] at hm
  refine pw_l (pc := 35) d125_35 rfl rfl rfl ?_
  refine pw_s (pc := 36) d125_36 rfl rfl ?_
  refine pw_igt (pc := 38) (t := 90) d125_38 (by decide) (fun c1 => ?_) (fun c1 => ?_)
  · rw [if_pos c1] at hm
    obtain rfl := Option.some.inj hm
    exact hE s_h  (Value.ref l0) (Value.ref l1) (Value.int l2)
  · rw [if_neg c1] at hm
    refine pw_l (pc := 41) d125_41 rfl rfl rfl ?_
    refine pw_l (pc := 42) d125_42 rfl rfl rfl ?_
    refine pw_l (pc := 43) d125_43 rfl rfl rfl ?_
    obtain ⟨q2, e_q2, hm⟩ := ob_x hm
    refine pw_v (pc := 44) (k := l0) (by omega) d125_44 (k125_95 b) (by decide) m126 (by decide) rfl (sho s_h f_l0) (Nat.le_of_ble_eq_true rfl) (Nat.le_of_ble_eq_true rfl) rfl rfl (T_s_readClause b L xs (d - 1) (by omega) h s_h l0 l1 l2 f_l0 f_l1 e_q2) (fun v0 h0 hq => ?_)
    obtain ⟨rfl, hh0, s_q2⟩ := hq
    rw [hh0] at s_q2 ⊢
    simp only [Option.toList_some, List.cons_append, List.nil_append]
    refine pw_zne (pc := 47) (t := 52) d125_47 (by decide) (fun c3 => ?_) (fun c3 => ?_)
    · rw [if_pos c3] at hm
      refine pw_l (pc := 52) d125_52 rfl rfl rfl ?_
      refine pw_gi (pc := 53) d125_53 (k125_99 b) (sho s_q2 f_l1) f8_2 ?_
      refine pw_zne (pc := 56) (t := 61) d125_56 (by decide) (fun c4 => ?_) (fun c4 => ?_)
      · rw [if_pos c4] at hm
        refine pw_l (pc := 61) d125_61 rfl rfl rfl ?_
        refine pw_s (pc := 62) d125_62 rfl rfl ?_
        obtain ⟨q5, e_q5, hm⟩ := ob_x hm
        refine pw_v (pc := 64) (k := l1) (by omega) d125_64 (k125_102 b) (by decide) m140 (by decide) rfl (sho s_q2 f_l1) (Nat.le_of_ble_eq_true rfl) (Nat.le_of_ble_eq_true rfl) rfl rfl (T_t_isSign b L xs (d - 1) (by omega) q2.2 s_q2 l1 ((Int8.ofInt 59).toInt32) f_l1 e_q5) (fun v0 h0 hq => ?_)
        obtain ⟨rfl, hh0, s_q5⟩ := hq
        rw [hh0] at s_q5 ⊢
        simp only [Option.toList_some, List.cons_append, List.nil_append]
        refine pw_zne (pc := 67) (t := 80) d125_67 (by decide) (fun c6 => ?_) (fun c6 => ?_)
        · rw [if_pos c6] at hm
          refine pw_l (pc := 80) d125_80 rfl rfl rfl ?_
          obtain ⟨q7, e_q7, hm⟩ := ob_x hm
          refine pw_v (pc := 81) (k := l1) (by omega) d125_81 (k125_111 b) (by decide) m136 (by decide) rfl (sho s_q2 f_l1) (Nat.le_of_ble_eq_true rfl) (Nat.le_of_ble_eq_true rfl) rfl rfl (T_t_advance b L xs (d - 1) (by omega) q2.2 s_q2 l1 f_l1 e_q7) (fun v0 h0 hq => ?_)
          obtain ⟨rfl, hh0, s_q7⟩ := hq
          rw [hh0] at s_q7 ⊢
          simp only [Option.toList_none, List.nil_append]
          refine pw_t (pc := 84) d125_84 rfl rfl rfl rfl ?_
          refine pw_go (pc := 87) (t := 35) d125_87 (by decide) ?_
          obtain rfl := Option.some.inj hm
          exact hE s_q7  
        · rw [if_neg c6] at hm
          obtain rfl := Option.some.inj hm
          exact hE s_q2  (Value.ref l0) (Value.int l2)
      · rw [if_neg c4] at hm
        obtain rfl := Option.some.inj hm
        exact hE s_q2  (Value.ref l0) (Value.ref l1) (Value.int l2)
    · rw [if_neg c3] at hm
      obtain rfl := Option.some.inj hm
      exact hE s_q2  (Value.ref l0) (Value.ref l1) (Value.int l2)
noncomputable def s_read (l0 : Nat) (l1 : Nat) (h : pm_H) : Option (Int32 × pm_H) := bd (pm_setI h l0 0 (Int32.ofInt 0)) fun h1 => bd (pm_setI h1 l0 1 (Int32.ofInt 0)) fun h2 => bd (pm_setI h2 l0 2 (Int32.ofInt 0)) fun h3 => bd (pm_setI h3 l0 3 (Int32.ofInt 0)) fun h4 => (gA h4 l0 12 .int).bind fun y5 => (y_fill y5 ((Int8.ofInt (-2)).toInt32) h4).bind fun q6 => (t_start l1 q6).bind fun q7 => (wh (fun s : (Int32 × pm_H) => s_read_35 l0 l1 s.1 s.2) ((Int32.ofInt 0), q7)).bind fun q8 => (match q8 with | (.inl eq8_0) => some ((Int32.ofInt 0), eq8_0) | (.inr (.inl eq8_1)) => some ((Int32.ofInt 1), eq8_1) | (.inr (.inr (.inl eq8_2))) => (t_blame l1 (eq8_2.2.1 l1 3) (Int32.ofInt 0) eq8_2).bind fun q9 => if mi_bo q9.1 = true then some (q9.1, q9.2) else none | (.inr (.inr (.inr eq8_3))) => some ((Int32.ofInt 0), eq8_3))
theorem T_s_read (b : Bool) (L : Nat) (xs : Nat → Int32) (d : Nat) (hd : 10 ≤ d) (h : pm_H) (s_h : h.1 = tb_SH) (l0 : Nat) (l1 : Nat) (f_l0 : mi_o l0 7 = true) (f_l1 : mi_o l1 8 = true) {r : (Int32 × pm_H)} (hm : s_read l0 l1 h = some r) : PC b L xs d 125 [(Value.ref l0), (Value.ref l1)] h (fun (v0 : Option Value) (h2 : pm_H) => v0 = (some (Value.int r.1)) ∧ h2 = r.2 ∧ h2.1 = tb_SH) := by
  refine pc_in e125 (ls0 := [(Value.ref l0), (Value.ref l1), Value.retAddr 0]) rfl ?_
  have key : ∀ (Q : Option Value → pm_H → Prop), (r.2.1 = tb_SH → Q (some (Value.int r.1)) r.2) → PW b L xs d 125 0 0 0 [(Value.ref l0), (Value.ref l1), Value.retAddr 0] [] h Q := by
    intro Q hE
    rw [s_read] at hm
    refine pw_l (pc := 0) d125_0 rfl rfl rfl ?_
    refine pw_s (pc := 1) d125_1 rfl rfl ?_
    refine pw_pi (pc := 2) d125_2 (k125_9 b) (sho s_h f_l0) p125_7_0 ?_
    obtain ⟨h1, e_h1, hm⟩ := bd_x hm
    rw [e_h1]
    have s_h1 : h1.1 = tb_SH := by rw [← e_h1]; exact s_h
    refine pw_l (pc := 5) d125_5 rfl rfl rfl ?_
    refine pw_s (pc := 6) d125_6 rfl rfl ?_
    refine pw_pi (pc := 7) d125_7 (k125_15 b) (sho s_h1 f_l0) p125_7_1 ?_
    obtain ⟨h2, e_h2, hm⟩ := bd_x hm
    rw [e_h2]
    have s_h2 : h2.1 = tb_SH := by rw [← e_h2]; exact s_h1
    refine pw_l (pc := 10) d125_10 rfl rfl rfl ?_
    refine pw_s (pc := 11) d125_11 rfl rfl ?_
    refine pw_pi (pc := 12) d125_12 (k125_18 b) (sho s_h2 f_l0) p125_7_2 ?_
    obtain ⟨h3, e_h3, hm⟩ := bd_x hm
    rw [e_h3]
    have s_h3 : h3.1 = tb_SH := by rw [← e_h3]; exact s_h2
    refine pw_l (pc := 15) d125_15 rfl rfl rfl ?_
    refine pw_s (pc := 16) d125_16 rfl rfl ?_
    refine pw_pi (pc := 17) d125_17 (k125_21 b) (sho s_h3 f_l0) p125_7_3 ?_
    obtain ⟨h4, e_h4, hm⟩ := bd_x hm
    rw [e_h4]
    have s_h4 : h4.1 = tb_SH := by rw [← e_h4]; exact s_h3
    refine pw_l (pc := 20) d125_20 rfl rfl rfl ?_
    obtain ⟨y5, e_y5, hm⟩ := ob_x hm
    have f_y5 := gA_x e_y5
    refine pw_gr (pc := 21) d125_21 (k125_49 b) (sho s_h4 f_l0) f7_12 f_y5.1 ?_
    refine pw_s (pc := 24) d125_24 rfl rfl ?_
    obtain ⟨q6, e_q6, hm⟩ := ob_x hm
    refine pw_u (pc := 26) (by omega) d125_26 (k125_84 b) (by decide) m270 (Nat.le_of_ble_eq_true rfl) (Nat.le_of_ble_eq_true rfl) (Nat.le_of_ble_eq_true rfl) rfl rfl (T_y_fill b L xs (d - 1) (by omega) h4 s_h4 y5 ((Int8.ofInt (-2)).toInt32) f_y5.2 e_q6) (fun v0 h0 hq => ?_)
    obtain ⟨rfl, hh0, s_q6⟩ := hq
    rw [hh0] at s_q6 ⊢
    simp only [Option.toList_none, List.nil_append]
    refine pw_l (pc := 29) d125_29 rfl rfl rfl ?_
    obtain ⟨q7, e_q7, hm⟩ := ob_x hm
    refine pw_v (pc := 30) (k := l1) (by omega) d125_30 (k125_90 b) (by decide) m135 (by decide) rfl (sho s_q6 f_l1) (Nat.le_of_ble_eq_true rfl) (Nat.le_of_ble_eq_true rfl) rfl rfl (T_t_start b L xs (d - 1) (by omega) q6 s_q6 l1 f_l1 e_q7) (fun v0 h0 hq => ?_)
    obtain ⟨rfl, hh0, s_q7⟩ := hq
    rw [hh0] at s_q7 ⊢
    simp only [Option.toList_none, List.nil_append]
    refine pw_s (pc := 33) d125_33 rfl rfl ?_
    refine pw_t (pc := 34) d125_34 rfl rfl rfl rfl ?_
    obtain ⟨q8, e_q8, hm⟩ := ob_x hm
    refine wh_ind e_q8 (fun s : (Int32 × pm_H) => s.2.1 = tb_SH → PW b L xs d 125 0 0 35 [(Value.ref l0), (Value.ref l1), (Value.int s.1)] [] s.2 Q) (fun s s2 hf ih sx => t_s_read_35 b L xs d hd s.2 sx l0 l1 s.1  f_l0 f_l1 hf ih) (fun s hf sx => t_s_read_35 b L xs d hd s.2 sx l0 l1 s.1  f_l0 f_l1 hf ?_) s_q7  
    rcases q8 with eq8_0 | eq8_1 | eq8_2 | eq8_3
    · dsimp only at hm
      intro s_q8_0 w0 w1 w2
      refine pw_s (pc := 50) d125_50 rfl rfl ?_
      obtain rfl := Option.some.inj hm
      refine pw_ri (pc := 51) d125_51 t125 rfl ?_
      exact hE s_q8_0
    · dsimp only at hm
      intro s_q8_1 w0 w1 w2
      refine pw_s (pc := 59) d125_59 rfl rfl ?_
      obtain rfl := Option.some.inj hm
      refine pw_ri (pc := 60) d125_60 t125 rfl ?_
      exact hE s_q8_1
    · dsimp only at hm
      intro s_q8_2 w0 w2
      refine pw_l (pc := 70) d125_70 rfl rfl rfl ?_
      refine pw_l (pc := 71) d125_71 rfl rfl rfl ?_
      refine pw_gi (pc := 72) d125_72 (k125_105 b) (sho s_q8_2 f_l1) f8_3 ?_
      refine pw_s (pc := 75) d125_75 rfl rfl ?_
      obtain ⟨q9, e_q9, hm⟩ := ob_x hm
      refine pw_v (pc := 76) (k := l1) (by omega) d125_76 (k125_108 b) (by decide) m141 (by decide) rfl (sho s_q8_2 f_l1) (Nat.le_of_ble_eq_true rfl) (Nat.le_of_ble_eq_true rfl) rfl rfl (T_t_blame b L xs (d - 1) (by omega) eq8_2 s_q8_2 l1 (eq8_2.2.1 l1 3) (Int32.ofInt 0) f_l1 e_q9) (fun v0 h0 hq => ?_)
      obtain ⟨rfl, hh0, s_q9⟩ := hq
      rw [hh0] at s_q9 ⊢
      simp only [Option.toList_some, List.cons_append, List.nil_append]
      obtain ⟨g10, hm⟩ := gd_x hm
      obtain rfl := Option.some.inj hm
      refine pw_ri (pc := 79) d125_79 t125 (pm_nz (mi_bo_x g10)) ?_
      exact hE s_q9
    · dsimp only at hm
      intro s_q8_3 w0 w1 w2
      refine pw_s (pc := 90) d125_90 rfl rfl ?_
      obtain rfl := Option.some.inj hm
      refine pw_ri (pc := 91) d125_91 t125 rfl ?_
      exact hE s_q8_3
  exact key _ (fun q => ⟨rfl, rfl, q⟩)
