/-! Mirrors, written by wip/mir.py. -/
theorem d94_109 : decode (tb_me 94).1.2.1 109 = .ok (.invokevirtual 60, 3) := by decide +kernel
theorem k94_60 (b : Bool) : tb_lk b 94 60 = (2, 101, 0, 0, 0) := by cases b <;> decide +kernel
theorem d94_112 : decode (tb_me 94).1.2.1 112 = .ok (.aload_n 1, 1) := by decide +kernel
theorem d94_113 : decode (tb_me 94).1.2.1 113 = .ok (.getfield 64, 3) := by decide +kernel
theorem k94_64 (b : Bool) : tb_lk b 94 64 = (1, 8, 2, 0, 0) := by cases b <;> decide +kernel
theorem d94_116 : decode (tb_me 94).1.2.1 116 = .ok (.ifCond .ne 5, 3) := by decide +kernel
theorem d94_121 : decode (tb_me 94).1.2.1 121 = .ok (.aload_n 1, 1) := by decide +kernel
theorem d94_122 : decode (tb_me 94).1.2.1 122 = .ok (.bipush 59, 2) := by decide +kernel
theorem d94_124 : decode (tb_me 94).1.2.1 124 = .ok (.invokevirtual 67, 3) := by decide +kernel
theorem k94_67 (b : Bool) : tb_lk b 94 67 = (2, 140, 0, 0, 0) := by cases b <;> decide +kernel
theorem d94_127 : decode (tb_me 94).1.2.1 127 = .ok (.ifCond .ne 13, 3) := by decide +kernel
theorem d94_140 : decode (tb_me 94).1.2.1 140 = .ok (.aload_n 1, 1) := by decide +kernel
theorem d94_141 : decode (tb_me 94).1.2.1 141 = .ok (.invokevirtual 47, 3) := by decide +kernel
theorem k94_47 (b : Bool) : tb_lk b 94 47 = (2, 136, 0, 0, 0) := by cases b <;> decide +kernel
theorem d94_144 : decode (tb_me 94).1.2.1 144 = .ok (.iinc 2 1, 3) := by decide +kernel
theorem d94_147 : decode (tb_me 94).1.2.1 147 = .ok (.goto (-131), 3) := by decide +kernel
theorem d94_97 : decode (tb_me 94).1.2.1 97 = .ok (.aload_n 0, 1) := by decide +kernel
theorem d94_98 : decode (tb_me 94).1.2.1 98 = .ok (.iload_n 3, 1) := by decide +kernel
theorem d94_99 : decode (tb_me 94).1.2.1 99 = .ok (.ifCond .eq 8, 3) := by decide +kernel
theorem d94_107 : decode (tb_me 94).1.2.1 107 = .ok (.bipush (-15), 2) := by decide +kernel
theorem d94_102 : decode (tb_me 94).1.2.1 102 = .ok (.bipush (-16), 2) := by decide +kernel
theorem d94_104 : decode (tb_me 94).1.2.1 104 = .ok (.goto 5, 3) := by decide +kernel
theorem d94_16 : decode (tb_me 94).1.2.1 16 = .ok (.iload_n 2, 1) := by decide +kernel
theorem d94_17 : decode (tb_me 94).1.2.1 17 = .ok (.bipush 12, 2) := by decide +kernel
theorem d94_19 : decode (tb_me 94).1.2.1 19 = .ok (.if_icmp .gt 131, 3) := by decide +kernel
theorem d94_22 : decode (tb_me 94).1.2.1 22 = .ok (.aload_n 1, 1) := by decide +kernel
theorem d94_23 : decode (tb_me 94).1.2.1 23 = .ok (.ldc 34, 2) := by decide +kernel
theorem k94_34 (b : Bool) : tb_lk b 94 34 = (13, 5, 0, 0, 0) := by cases b <;> decide +kernel
theorem d94_25 : decode (tb_me 94).1.2.1 25 = .ok (.invokevirtual 36, 3) := by decide +kernel
theorem k94_36 (b : Bool) : tb_lk b 94 36 = (2, 138, 0, 0, 0) := by cases b <;> decide +kernel
theorem d94_28 : decode (tb_me 94).1.2.1 28 = .ok (.ifCond .ne 13, 3) := by decide +kernel
theorem d94_41 : decode (tb_me 94).1.2.1 41 = .ok (.iload_n 2, 1) := by decide +kernel
theorem d94_42 : decode (tb_me 94).1.2.1 42 = .ok (.bipush 12, 2) := by decide +kernel
theorem d94_44 : decode (tb_me 94).1.2.1 44 = .ok (.if_icmp .lt 13, 3) := by decide +kernel
theorem d94_57 : decode (tb_me 94).1.2.1 57 = .ok (.aload_n 1, 1) := by decide +kernel
theorem d94_58 : decode (tb_me 94).1.2.1 58 = .ok (.invokevirtual 47, 3) := by decide +kernel
theorem d94_61 : decode (tb_me 94).1.2.1 61 = .ok (.aload_n 0, 1) := by decide +kernel
theorem d94_62 : decode (tb_me 94).1.2.1 62 = .ok (.aload_n 1, 1) := by decide +kernel
theorem d94_63 : decode (tb_me 94).1.2.1 63 = .ok (.invokevirtual 50, 3) := by decide +kernel
theorem k94_50 (b : Bool) : tb_lk b 94 50 = (2, 98, 0, 0, 0) := by cases b <;> decide +kernel
theorem d94_66 : decode (tb_me 94).1.2.1 66 = .ok (.ifCond .ne 5, 3) := by decide +kernel
theorem d94_71 : decode (tb_me 94).1.2.1 71 = .ok (.aload_n 1, 1) := by decide +kernel
theorem d94_72 : decode (tb_me 94).1.2.1 72 = .ok (.ldc 54, 2) := by decide +kernel
theorem k94_54 (b : Bool) : tb_lk b 94 54 = (13, 9, 0, 0, 0) := by cases b <;> decide +kernel
theorem d94_74 : decode (tb_me 94).1.2.1 74 = .ok (.invokevirtual 36, 3) := by decide +kernel
theorem d94_77 : decode (tb_me 94).1.2.1 77 = .ok (.istore_n 3, 1) := by decide +kernel
theorem d94_78 : decode (tb_me 94).1.2.1 78 = .ok (.iload_n 3, 1) := by decide +kernel
theorem d94_79 : decode (tb_me 94).1.2.1 79 = .ok (.ifCond .eq 18, 3) := by decide +kernel
theorem d94_82 : decode (tb_me 94).1.2.1 82 = .ok (.aload_n 1, 1) := by decide +kernel
theorem d94_83 : decode (tb_me 94).1.2.1 83 = .ok (.invokevirtual 47, 3) := by decide +kernel
theorem d94_86 : decode (tb_me 94).1.2.1 86 = .ok (.aload_n 0, 1) := by decide +kernel
theorem d94_87 : decode (tb_me 94).1.2.1 87 = .ok (.aload_n 1, 1) := by decide +kernel
theorem d94_88 : decode (tb_me 94).1.2.1 88 = .ok (.iconst 0, 1) := by decide +kernel
theorem d94_89 : decode (tb_me 94).1.2.1 89 = .ok (.invokevirtual 56, 3) := by decide +kernel
theorem k94_56 (b : Bool) : tb_lk b 94 56 = (2, 95, 0, 0, 0) := by cases b <;> decide +kernel
theorem d94_92 : decode (tb_me 94).1.2.1 92 = .ok (.ifCond .ne 5, 3) := by decide +kernel
theorem d94_0 : decode (tb_me 94).1.2.1 0 = .ok (.aload_n 0, 1) := by decide +kernel
theorem d94_1 : decode (tb_me 94).1.2.1 1 = .ok (.iconst 0, 1) := by decide +kernel
theorem d94_2 : decode (tb_me 94).1.2.1 2 = .ok (.putfield 15, 3) := by decide +kernel
theorem k94_15 (b : Bool) : tb_lk b 94 15 = (1, 6, 1, 0, 0) := by cases b <;> decide +kernel
theorem p94_6_1 : (1 < pm_nf tb_cl 6) ∧ tb_ft 6 1 = .int ∧ pm_fin tb_cl (tb_me 94).1.1 6 1 = true := by decide +kernel
theorem d94_5 : decode (tb_me 94).1.2.1 5 = .ok (.aload_n 0, 1) := by decide +kernel
theorem d94_6 : decode (tb_me 94).1.2.1 6 = .ok (.iconst 0, 1) := by decide +kernel
theorem d94_7 : decode (tb_me 94).1.2.1 7 = .ok (.putfield 19, 3) := by decide +kernel
theorem k94_19 (b : Bool) : tb_lk b 94 19 = (1, 6, 2, 0, 0) := by cases b <;> decide +kernel
theorem p94_6_2 : (2 < pm_nf tb_cl 6) ∧ tb_ft 6 2 = .int ∧ pm_fin tb_cl (tb_me 94).1.1 6 2 = true := by decide +kernel
theorem d94_10 : decode (tb_me 94).1.2.1 10 = .ok (.aload_n 1, 1) := by decide +kernel
theorem d94_11 : decode (tb_me 94).1.2.1 11 = .ok (.invokevirtual 29, 3) := by decide +kernel
theorem k94_29 (b : Bool) : tb_lk b 94 29 = (2, 135, 0, 0, 0) := by cases b <;> decide +kernel
theorem d94_14 : decode (tb_me 94).1.2.1 14 = .ok (.iconst 0, 1) := by decide +kernel
theorem d94_15 : decode (tb_me 94).1.2.1 15 = .ok (.istore_n 2, 1) := by decide +kernel
theorem d94_31 : decode (tb_me 94).1.2.1 31 = .ok (.aload_n 1, 1) := by decide +kernel
theorem d94_32 : decode (tb_me 94).1.2.1 32 = .ok (.aload_n 1, 1) := by decide +kernel
theorem d94_33 : decode (tb_me 94).1.2.1 33 = .ok (.getfield 40, 3) := by decide +kernel
theorem k94_40 (b : Bool) : tb_lk b 94 40 = (1, 8, 3, 0, 0) := by cases b <;> decide +kernel
theorem d94_36 : decode (tb_me 94).1.2.1 36 = .ok (.iconst 0, 1) := by decide +kernel
theorem d94_37 : decode (tb_me 94).1.2.1 37 = .ok (.invokevirtual 43, 3) := by decide +kernel
theorem k94_43 (b : Bool) : tb_lk b 94 43 = (2, 141, 0, 0, 0) := by cases b <;> decide +kernel
theorem d94_40 : decode (tb_me 94).1.2.1 40 = .ok (.ireturn, 1) := by decide +kernel
theorem t94 : (tb_me 94).1.2.2.2 = some .boolean := by decide +kernel
theorem d94_47 : decode (tb_me 94).1.2.1 47 = .ok (.aload_n 1, 1) := by decide +kernel
theorem d94_48 : decode (tb_me 94).1.2.1 48 = .ok (.aload_n 1, 1) := by decide +kernel
theorem d94_49 : decode (tb_me 94).1.2.1 49 = .ok (.getfield 40, 3) := by decide +kernel
theorem d94_52 : decode (tb_me 94).1.2.1 52 = .ok (.iconst 4, 1) := by decide +kernel
theorem d94_53 : decode (tb_me 94).1.2.1 53 = .ok (.invokevirtual 43, 3) := by decide +kernel
theorem d94_56 : decode (tb_me 94).1.2.1 56 = .ok (.ireturn, 1) := by decide +kernel
theorem d94_69 : decode (tb_me 94).1.2.1 69 = .ok (.iconst 0, 1) := by decide +kernel
theorem d94_70 : decode (tb_me 94).1.2.1 70 = .ok (.ireturn, 1) := by decide +kernel
theorem d94_95 : decode (tb_me 94).1.2.1 95 = .ok (.iconst 0, 1) := by decide +kernel
theorem d94_96 : decode (tb_me 94).1.2.1 96 = .ok (.ireturn, 1) := by decide +kernel
theorem d94_119 : decode (tb_me 94).1.2.1 119 = .ok (.iconst 1, 1) := by decide +kernel
theorem d94_120 : decode (tb_me 94).1.2.1 120 = .ok (.ireturn, 1) := by decide +kernel
theorem d94_130 : decode (tb_me 94).1.2.1 130 = .ok (.aload_n 1, 1) := by decide +kernel
theorem d94_131 : decode (tb_me 94).1.2.1 131 = .ok (.aload_n 1, 1) := by decide +kernel
theorem d94_132 : decode (tb_me 94).1.2.1 132 = .ok (.getfield 40, 3) := by decide +kernel
theorem d94_135 : decode (tb_me 94).1.2.1 135 = .ok (.iconst 0, 1) := by decide +kernel
theorem d94_136 : decode (tb_me 94).1.2.1 136 = .ok (.invokevirtual 43, 3) := by decide +kernel
theorem d94_139 : decode (tb_me 94).1.2.1 139 = .ok (.ireturn, 1) := by decide +kernel
theorem d94_150 : decode (tb_me 94).1.2.1 150 = .ok (.iconst 0, 1) := by decide +kernel
theorem d94_151 : decode (tb_me 94).1.2.1 151 = .ok (.ireturn, 1) := by decide +kernel
theorem e94 : (tb_me 94).2.1 = (0, 0) ∧ (tb_me 94).1.2.2.1 = 4 := by decide +kernel
theorem d2_0 : decode (tb_me 2).1.2.1 0 = .ok (.aload_n 0, 1) := by decide +kernel
theorem d2_1 : decode (tb_me 2).1.2.1 1 = .ok (.getfield 10, 3) := by decide +kernel
theorem k2_10 (b : Bool) : tb_lk b 2 10 = (1, 0, 0, 0, 0) := by cases b <;> decide +kernel
theorem f0_0 : (0 < pm_nf tb_cl 0) ∧ tb_ft 0 0 ≠ .long ∧ pm_isR (tb_ft 0 0) = true := by decide +kernel
theorem d2_4 : decode (tb_me 2).1.2.1 4 = .ok (.getfield 65, 3) := by decide +kernel
theorem k2_65 (b : Bool) : tb_lk b 2 65 = (1, 8, 1, 0, 0) := by cases b <;> decide +kernel
theorem d2_7 : decode (tb_me 2).1.2.1 7 = .ok (.bipush 20, 2) := by decide +kernel
theorem d2_9 : decode (tb_me 2).1.2.1 9 = .ok (.iadd, 1) := by decide +kernel
theorem d2_10 : decode (tb_me 2).1.2.1 10 = .ok (.sipush 400, 3) := by decide +kernel
theorem d2_13 : decode (tb_me 2).1.2.1 13 = .ok (.if_icmp .le 5, 3) := by decide +kernel
theorem d2_18 : decode (tb_me 2).1.2.1 18 = .ok (.aload_n 0, 1) := by decide +kernel
theorem d2_19 : decode (tb_me 2).1.2.1 19 = .ok (.getfield 10, 3) := by decide +kernel
theorem d2_22 : decode (tb_me 2).1.2.1 22 = .ok (.iload_n 1, 1) := by decide +kernel
theorem d2_23 : decode (tb_me 2).1.2.1 23 = .ok (.invokevirtual 68, 3) := by decide +kernel
theorem k2_68 (b : Bool) : tb_lk b 2 68 = (2, 134, 0, 0, 0) := by cases b <;> decide +kernel
theorem m134 : (tb_me 134).2 = ((0, 0), (1, 8)) ∧ (tb_me 134).1.2.2.1 = 3 := by decide +kernel
theorem d2_26 : decode (tb_me 2).1.2.1 26 = .ok (.aload_n 0, 1) := by decide +kernel
theorem d2_27 : decode (tb_me 2).1.2.1 27 = .ok (.getfield 10, 3) := by decide +kernel
theorem d2_30 : decode (tb_me 2).1.2.1 30 = .ok (.iload_n 2, 1) := by decide +kernel
theorem d2_31 : decode (tb_me 2).1.2.1 31 = .ok (.invokevirtual 68, 3) := by decide +kernel
theorem d2_34 : decode (tb_me 2).1.2.1 34 = .ok (.aload_n 0, 1) := by decide +kernel
theorem d2_35 : decode (tb_me 2).1.2.1 35 = .ok (.getfield 10, 3) := by decide +kernel
theorem d2_38 : decode (tb_me 2).1.2.1 38 = .ok (.iload_n 3, 1) := by decide +kernel
theorem d2_39 : decode (tb_me 2).1.2.1 39 = .ok (.invokevirtual 68, 3) := by decide +kernel
theorem d2_42 : decode (tb_me 2).1.2.1 42 = .ok (.aload_n 0, 1) := by decide +kernel
theorem d2_43 : decode (tb_me 2).1.2.1 43 = .ok (.getfield 10, 3) := by decide +kernel
theorem d2_46 : decode (tb_me 2).1.2.1 46 = .ok (.iload 4, 2) := by decide +kernel
theorem d2_48 : decode (tb_me 2).1.2.1 48 = .ok (.invokevirtual 68, 3) := by decide +kernel
theorem d2_51 : decode (tb_me 2).1.2.1 51 = .ok (.aload_n 0, 1) := by decide +kernel
theorem d2_52 : decode (tb_me 2).1.2.1 52 = .ok (.getfield 10, 3) := by decide +kernel
theorem d2_55 : decode (tb_me 2).1.2.1 55 = .ok (.iload 5, 2) := by decide +kernel
theorem d2_57 : decode (tb_me 2).1.2.1 57 = .ok (.invokevirtual 68, 3) := by decide +kernel
theorem d2_60 : decode (tb_me 2).1.2.1 60 = .ok (.aload_n 0, 1) := by decide +kernel
theorem d2_61 : decode (tb_me 2).1.2.1 61 = .ok (.getfield 10, 3) := by decide +kernel
theorem d2_64 : decode (tb_me 2).1.2.1 64 = .ok (.getfield 65, 3) := by decide +kernel
theorem d2_67 : decode (tb_me 2).1.2.1 67 = .ok (.ireturn, 1) := by decide +kernel
theorem t2 : (tb_me 2).1.2.2.2 = some .int := by decide +kernel
theorem d2_16 : decode (tb_me 2).1.2.1 16 = .ok (.iconst (-1), 1) := by decide +kernel
theorem d2_17 : decode (tb_me 2).1.2.1 17 = .ok (.ireturn, 1) := by decide +kernel
theorem e2 : (tb_me 2).2.1 = (0, 0) ∧ (tb_me 2).1.2.2.1 = 6 := by decide +kernel
theorem d3_0 : decode (tb_me 3).1.2.1 0 = .ok (.iload_n 1, 1) := by decide +kernel
theorem d3_1 : decode (tb_me 3).1.2.1 1 = .ok (.ifCond .lt 14, 3) := by decide +kernel
theorem d3_15 : decode (tb_me 3).1.2.1 15 = .ok (.iconst (-1), 1) := by decide +kernel
theorem d3_16 : decode (tb_me 3).1.2.1 16 = .ok (.ireturn, 1) := by decide +kernel
theorem t3 : (tb_me 3).1.2.2.2 = some .int := by decide +kernel
theorem d3_4 : decode (tb_me 3).1.2.1 4 = .ok (.iload_n 1, 1) := by decide +kernel
theorem d3_5 : decode (tb_me 3).1.2.1 5 = .ok (.aload_n 0, 1) := by decide +kernel
theorem d3_6 : decode (tb_me 3).1.2.1 6 = .ok (.getfield 10, 3) := by decide +kernel
theorem k3_10 (b : Bool) : tb_lk b 3 10 = (1, 0, 0, 0, 0) := by cases b <;> decide +kernel
theorem d3_9 : decode (tb_me 3).1.2.1 9 = .ok (.getfield 65, 3) := by decide +kernel
theorem k3_65 (b : Bool) : tb_lk b 3 65 = (1, 8, 1, 0, 0) := by cases b <;> decide +kernel
theorem d3_12 : decode (tb_me 3).1.2.1 12 = .ok (.if_icmp .le 5, 3) := by decide +kernel
theorem d3_17 : decode (tb_me 3).1.2.1 17 = .ok (.aload_n 0, 1) := by decide +kernel
theorem d3_18 : decode (tb_me 3).1.2.1 18 = .ok (.getfield 10, 3) := by decide +kernel
theorem d3_21 : decode (tb_me 3).1.2.1 21 = .ok (.iload_n 1, 1) := by decide +kernel
theorem d3_22 : decode (tb_me 3).1.2.1 22 = .ok (.putfield 65, 3) := by decide +kernel
theorem p3_8_1 : (1 < pm_nf tb_cl 8) ∧ tb_ft 8 1 = .int ∧ pm_fin tb_cl (tb_me 3).1.1 8 1 = true := by decide +kernel
theorem d3_25 : decode (tb_me 3).1.2.1 25 = .ok (.iload_n 1, 1) := by decide +kernel
theorem d3_26 : decode (tb_me 3).1.2.1 26 = .ok (.ireturn, 1) := by decide +kernel
theorem e3 : (tb_me 3).2.1 = (0, 0) ∧ (tb_me 3).1.2.2.1 = 2 := by decide +kernel
theorem d5_0 : decode (tb_me 5).1.2.1 0 = .ok (.aload_n 0, 1) := by decide +kernel
theorem d5_1 : decode (tb_me 5).1.2.1 1 = .ok (.getfield 22, 3) := by decide +kernel
theorem k5_22 (b : Bool) : tb_lk b 5 22 = (1, 0, 2, 0, 0) := by cases b <;> decide +kernel
theorem f0_2 : (2 < pm_nf tb_cl 0) ∧ tb_ft 0 2 ≠ .long ∧ pm_isR (tb_ft 0 2) = false := by decide +kernel
theorem d5_4 : decode (tb_me 5).1.2.1 4 = .ok (.ifCond .lt 15, 3) := by decide +kernel
theorem d5_19 : decode (tb_me 5).1.2.1 19 = .ok (.iconst (-1), 1) := by decide +kernel
theorem d5_20 : decode (tb_me 5).1.2.1 20 = .ok (.ireturn, 1) := by decide +kernel
theorem t5 : (tb_me 5).1.2.2.2 = some .int := by decide +kernel
theorem d5_7 : decode (tb_me 5).1.2.1 7 = .ok (.aload_n 0, 1) := by decide +kernel
theorem d5_8 : decode (tb_me 5).1.2.1 8 = .ok (.getfield 22, 3) := by decide +kernel
theorem d5_11 : decode (tb_me 5).1.2.1 11 = .ok (.aload_n 0, 1) := by decide +kernel
theorem d5_12 : decode (tb_me 5).1.2.1 12 = .ok (.getfield 18, 3) := by decide +kernel
theorem k5_18 (b : Bool) : tb_lk b 5 18 = (1, 0, 1, 0, 0) := by cases b <;> decide +kernel
theorem f0_1 : (1 < pm_nf tb_cl 0) ∧ tb_ft 0 1 ≠ .long ∧ pm_isR (tb_ft 0 1) = true := by decide +kernel
theorem d5_15 : decode (tb_me 5).1.2.1 15 = .ok (.arraylength, 1) := by decide +kernel
theorem d5_16 : decode (tb_me 5).1.2.1 16 = .ok (.if_icmp .lt 5, 3) := by decide +kernel
theorem d5_21 : decode (tb_me 5).1.2.1 21 = .ok (.aload_n 0, 1) := by decide +kernel
theorem d5_22 : decode (tb_me 5).1.2.1 22 = .ok (.getfield 18, 3) := by decide +kernel
theorem d5_25 : decode (tb_me 5).1.2.1 25 = .ok (.aload_n 0, 1) := by decide +kernel
theorem d5_26 : decode (tb_me 5).1.2.1 26 = .ok (.getfield 22, 3) := by decide +kernel
theorem d5_29 : decode (tb_me 5).1.2.1 29 = .ok (.aaload, 1) := by decide +kernel
theorem d5_30 : decode (tb_me 5).1.2.1 30 = .ok (.aload_n 0, 1) := by decide +kernel
theorem d5_31 : decode (tb_me 5).1.2.1 31 = .ok (.getfield 10, 3) := by decide +kernel
theorem k5_10 (b : Bool) : tb_lk b 5 10 = (1, 0, 0, 0, 0) := by cases b <;> decide +kernel
theorem d5_34 : decode (tb_me 5).1.2.1 34 = .ok (.invokevirtual 108, 3) := by decide +kernel
theorem k5_108 (b : Bool) : tb_lk b 5 108 = (2, 94, 0, 0, 0) := by cases b <;> decide +kernel
theorem m94 : (tb_me 94).2 = ((0, 0), (1, 6)) ∧ (tb_me 94).1.2.2.1 = 4 := by decide +kernel
theorem d5_37 : decode (tb_me 5).1.2.1 37 = .ok (.istore_n 1, 1) := by decide +kernel
theorem d5_38 : decode (tb_me 5).1.2.1 38 = .ok (.aload_n 0, 1) := by decide +kernel
theorem d5_39 : decode (tb_me 5).1.2.1 39 = .ok (.getfield 10, 3) := by decide +kernel
theorem d5_42 : decode (tb_me 5).1.2.1 42 = .ok (.iconst 0, 1) := by decide +kernel
theorem d5_43 : decode (tb_me 5).1.2.1 43 = .ok (.putfield 65, 3) := by decide +kernel
theorem k5_65 (b : Bool) : tb_lk b 5 65 = (1, 8, 1, 0, 0) := by cases b <;> decide +kernel
theorem p5_8_1 : (1 < pm_nf tb_cl 8) ∧ tb_ft 8 1 = .int ∧ pm_fin tb_cl (tb_me 5).1.1 8 1 = true := by decide +kernel
theorem d5_46 : decode (tb_me 5).1.2.1 46 = .ok (.iload_n 1, 1) := by decide +kernel
theorem d5_47 : decode (tb_me 5).1.2.1 47 = .ok (.ifCond .ne 14, 3) := by decide +kernel
theorem d5_61 : decode (tb_me 5).1.2.1 61 = .ok (.aload_n 0, 1) := by decide +kernel
theorem d5_62 : decode (tb_me 5).1.2.1 62 = .ok (.dup, 1) := by decide +kernel
theorem d5_63 : decode (tb_me 5).1.2.1 63 = .ok (.getfield 22, 3) := by decide +kernel
theorem d5_66 : decode (tb_me 5).1.2.1 66 = .ok (.iconst 1, 1) := by decide +kernel
theorem d5_67 : decode (tb_me 5).1.2.1 67 = .ok (.iadd, 1) := by decide +kernel
theorem d5_68 : decode (tb_me 5).1.2.1 68 = .ok (.putfield 22, 3) := by decide +kernel
theorem p5_0_2 : (2 < pm_nf tb_cl 0) ∧ tb_ft 0 2 = .int ∧ pm_fin tb_cl (tb_me 5).1.1 0 2 = true := by decide +kernel
theorem d5_71 : decode (tb_me 5).1.2.1 71 = .ok (.aload_n 0, 1) := by decide +kernel
theorem d5_72 : decode (tb_me 5).1.2.1 72 = .ok (.getfield 22, 3) := by decide +kernel
theorem d5_75 : decode (tb_me 5).1.2.1 75 = .ok (.iconst 1, 1) := by decide +kernel
theorem d5_76 : decode (tb_me 5).1.2.1 76 = .ok (.isub, 1) := by decide +kernel
theorem d5_77 : decode (tb_me 5).1.2.1 77 = .ok (.ireturn, 1) := by decide +kernel
theorem d5_50 : decode (tb_me 5).1.2.1 50 = .ok (.bipush (-2), 2) := by decide +kernel
theorem d5_52 : decode (tb_me 5).1.2.1 52 = .ok (.aload_n 0, 1) := by decide +kernel
theorem d5_53 : decode (tb_me 5).1.2.1 53 = .ok (.getfield 10, 3) := by decide +kernel
theorem d5_56 : decode (tb_me 5).1.2.1 56 = .ok (.getfield 80, 3) := by decide +kernel
theorem k5_80 (b : Bool) : tb_lk b 5 80 = (1, 8, 7, 0, 0) := by cases b <;> decide +kernel
theorem f8_7 : (7 < pm_nf tb_cl 8) ∧ tb_ft 8 7 ≠ .long ∧ pm_isR (tb_ft 8 7) = false := by decide +kernel
theorem d5_59 : decode (tb_me 5).1.2.1 59 = .ok (.isub, 1) := by decide +kernel
theorem d5_60 : decode (tb_me 5).1.2.1 60 = .ok (.ireturn, 1) := by decide +kernel
theorem e5 : (tb_me 5).2.1 = (0, 0) ∧ (tb_me 5).1.2.2.1 = 2 := by decide +kernel
theorem d6_0 : decode (tb_me 6).1.2.1 0 = .ok (.aload_n 0, 1) := by decide +kernel
theorem d6_1 : decode (tb_me 6).1.2.1 1 = .ok (.getfield 61, 3) := by decide +kernel
theorem k6_61 (b : Bool) : tb_lk b 6 61 = (1, 0, 4, 0, 0) := by cases b <;> decide +kernel
theorem f0_4 : (4 < pm_nf tb_cl 0) ∧ tb_ft 0 4 ≠ .long ∧ pm_isR (tb_ft 0 4) = true := by decide +kernel
theorem d6_4 : decode (tb_me 6).1.2.1 4 = .ok (.getfield 83, 3) := by decide +kernel
theorem k6_83 (b : Bool) : tb_lk b 6 83 = (1, 9, 0, 0, 0) := by cases b <;> decide +kernel
theorem d6_7 : decode (tb_me 6).1.2.1 7 = .ok (.iload_n 1, 1) := by decide +kernel
theorem d6_8 : decode (tb_me 6).1.2.1 8 = .ok (.invokevirtual 109, 3) := by decide +kernel
theorem k6_109 (b : Bool) : tb_lk b 6 109 = (2, 112, 0, 0, 0) := by cases b <;> decide +kernel
theorem d6_11 : decode (tb_me 6).1.2.1 11 = .ok (.ifCond .ne 5, 3) := by decide +kernel
theorem d6_16 : decode (tb_me 6).1.2.1 16 = .ok (.aload_n 0, 1) := by decide +kernel
theorem d6_17 : decode (tb_me 6).1.2.1 17 = .ok (.getfield 61, 3) := by decide +kernel
theorem d6_20 : decode (tb_me 6).1.2.1 20 = .ok (.getfield 87, 3) := by decide +kernel
theorem k6_87 (b : Bool) : tb_lk b 6 87 = (1, 9, 1, 0, 0) := by cases b <;> decide +kernel
theorem d6_23 : decode (tb_me 6).1.2.1 23 = .ok (.astore_n 3, 1) := by decide +kernel
theorem d6_24 : decode (tb_me 6).1.2.1 24 = .ok (.iload_n 2, 1) := by decide +kernel
theorem d6_25 : decode (tb_me 6).1.2.1 25 = .ok (.tableswitch 117 0 6 #[43, 56, 69, 78, 85, 94, 101], 43) := by decide +kernel
theorem d6_68 : decode (tb_me 6).1.2.1 68 = .ok (.aload_n 0, 1) := by decide +kernel
theorem d6_69 : decode (tb_me 6).1.2.1 69 = .ok (.getfield 61, 3) := by decide +kernel
theorem d6_72 : decode (tb_me 6).1.2.1 72 = .ok (.getfield 83, 3) := by decide +kernel
theorem d6_75 : decode (tb_me 6).1.2.1 75 = .ok (.getfield 113, 3) := by decide +kernel
theorem k6_113 (b : Bool) : tb_lk b 6 113 = (1, 7, 4, 0, 0) := by cases b <;> decide +kernel
theorem d6_78 : decode (tb_me 6).1.2.1 78 = .ok (.iload_n 1, 1) := by decide +kernel
theorem d6_79 : decode (tb_me 6).1.2.1 79 = .ok (.iaload, 1) := by decide +kernel
theorem d6_80 : decode (tb_me 6).1.2.1 80 = .ok (.ireturn, 1) := by decide +kernel
theorem t6 : (tb_me 6).1.2.2.2 = some .int := by decide +kernel
theorem d6_81 : decode (tb_me 6).1.2.1 81 = .ok (.aload_n 0, 1) := by decide +kernel
theorem d6_82 : decode (tb_me 6).1.2.1 82 = .ok (.getfield 61, 3) := by decide +kernel
theorem d6_85 : decode (tb_me 6).1.2.1 85 = .ok (.getfield 83, 3) := by decide +kernel
theorem d6_88 : decode (tb_me 6).1.2.1 88 = .ok (.getfield 116, 3) := by decide +kernel
theorem k6_116 (b : Bool) : tb_lk b 6 116 = (1, 7, 5, 0, 0) := by cases b <;> decide +kernel
theorem d6_91 : decode (tb_me 6).1.2.1 91 = .ok (.iload_n 1, 1) := by decide +kernel
theorem d6_92 : decode (tb_me 6).1.2.1 92 = .ok (.iaload, 1) := by decide +kernel
theorem d6_93 : decode (tb_me 6).1.2.1 93 = .ok (.ireturn, 1) := by decide +kernel
theorem d6_94 : decode (tb_me 6).1.2.1 94 = .ok (.aload_n 3, 1) := by decide +kernel
theorem d6_95 : decode (tb_me 6).1.2.1 95 = .ok (.getfield 119, 3) := by decide +kernel
theorem k6_119 (b : Bool) : tb_lk b 6 119 = (1, 3, 0, 0, 0) := by cases b <;> decide +kernel
theorem d6_98 : decode (tb_me 6).1.2.1 98 = .ok (.iload_n 1, 1) := by decide +kernel
theorem d6_99 : decode (tb_me 6).1.2.1 99 = .ok (.invokestatic 122, 3) := by decide +kernel
theorem k6_122 (b : Bool) : tb_lk b 6 122 = (4, 34, 0, 0, 0) := by cases b <;> decide +kernel
theorem d6_102 : decode (tb_me 6).1.2.1 102 = .ok (.ireturn, 1) := by decide +kernel
theorem d6_103 : decode (tb_me 6).1.2.1 103 = .ok (.aload_n 3, 1) := by decide +kernel
theorem d6_104 : decode (tb_me 6).1.2.1 104 = .ok (.getfield 126, 3) := by decide +kernel
theorem k6_126 (b : Bool) : tb_lk b 6 126 = (1, 3, 5, 0, 0) := by cases b <;> decide +kernel
theorem d6_107 : decode (tb_me 6).1.2.1 107 = .ok (.iload_n 1, 1) := by decide +kernel
theorem d6_108 : decode (tb_me 6).1.2.1 108 = .ok (.iaload, 1) := by decide +kernel
theorem d6_109 : decode (tb_me 6).1.2.1 109 = .ok (.ireturn, 1) := by decide +kernel
theorem d6_110 : decode (tb_me 6).1.2.1 110 = .ok (.aload_n 3, 1) := by decide +kernel
theorem d6_111 : decode (tb_me 6).1.2.1 111 = .ok (.getfield 129, 3) := by decide +kernel
theorem k6_129 (b : Bool) : tb_lk b 6 129 = (1, 3, 1, 0, 0) := by cases b <;> decide +kernel
theorem d6_114 : decode (tb_me 6).1.2.1 114 = .ok (.iload_n 1, 1) := by decide +kernel
theorem d6_115 : decode (tb_me 6).1.2.1 115 = .ok (.invokestatic 122, 3) := by decide +kernel
theorem d6_118 : decode (tb_me 6).1.2.1 118 = .ok (.ireturn, 1) := by decide +kernel
theorem d6_119 : decode (tb_me 6).1.2.1 119 = .ok (.aload_n 3, 1) := by decide +kernel
theorem d6_120 : decode (tb_me 6).1.2.1 120 = .ok (.getfield 132, 3) := by decide +kernel
theorem k6_132 (b : Bool) : tb_lk b 6 132 = (1, 3, 6, 0, 0) := by cases b <;> decide +kernel
theorem d6_123 : decode (tb_me 6).1.2.1 123 = .ok (.iload_n 1, 1) := by decide +kernel
theorem d6_124 : decode (tb_me 6).1.2.1 124 = .ok (.iaload, 1) := by decide +kernel
theorem d6_125 : decode (tb_me 6).1.2.1 125 = .ok (.ireturn, 1) := by decide +kernel
theorem d6_126 : decode (tb_me 6).1.2.1 126 = .ok (.aload_n 3, 1) := by decide +kernel
theorem d6_127 : decode (tb_me 6).1.2.1 127 = .ok (.aload_n 0, 1) := by decide +kernel
theorem d6_128 : decode (tb_me 6).1.2.1 128 = .ok (.getfield 61, 3) := by decide +kernel
theorem d6_131 : decode (tb_me 6).1.2.1 131 = .ok (.getfield 83, 3) := by decide +kernel
theorem d6_134 : decode (tb_me 6).1.2.1 134 = .ok (.invokevirtual 135, 3) := by decide +kernel
theorem k6_135 (b : Bool) : tb_lk b 6 135 = (2, 81, 0, 0, 0) := by cases b <;> decide +kernel
theorem d6_137 : decode (tb_me 6).1.2.1 137 = .ok (.iload_n 1, 1) := by decide +kernel
theorem d6_138 : decode (tb_me 6).1.2.1 138 = .ok (.invokestatic 122, 3) := by decide +kernel
theorem d6_141 : decode (tb_me 6).1.2.1 141 = .ok (.ireturn, 1) := by decide +kernel
theorem d6_142 : decode (tb_me 6).1.2.1 142 = .ok (.iconst (-1), 1) := by decide +kernel
theorem d6_143 : decode (tb_me 6).1.2.1 143 = .ok (.ireturn, 1) := by decide +kernel
theorem d6_14 : decode (tb_me 6).1.2.1 14 = .ok (.iconst (-1), 1) := by decide +kernel
theorem d6_15 : decode (tb_me 6).1.2.1 15 = .ok (.ireturn, 1) := by decide +kernel
theorem e6 : (tb_me 6).2.1 = (0, 0) ∧ (tb_me 6).1.2.2.1 = 4 := by decide +kernel
theorem d7_0 : decode (tb_me 7).1.2.1 0 = .ok (.aload_n 0, 1) := by decide +kernel
theorem d7_1 : decode (tb_me 7).1.2.1 1 = .ok (.getfield 61, 3) := by decide +kernel
theorem k7_61 (b : Bool) : tb_lk b 7 61 = (1, 0, 4, 0, 0) := by cases b <;> decide +kernel
theorem d7_4 : decode (tb_me 7).1.2.1 4 = .ok (.getfield 83, 3) := by decide +kernel
theorem k7_83 (b : Bool) : tb_lk b 7 83 = (1, 9, 0, 0, 0) := by cases b <;> decide +kernel
theorem d7_7 : decode (tb_me 7).1.2.1 7 = .ok (.astore_n 3, 1) := by decide +kernel
theorem d7_8 : decode (tb_me 7).1.2.1 8 = .ok (.aload_n 3, 1) := by decide +kernel
theorem d7_9 : decode (tb_me 7).1.2.1 9 = .ok (.iload_n 1, 1) := by decide +kernel
theorem d7_10 : decode (tb_me 7).1.2.1 10 = .ok (.invokevirtual 139, 3) := by decide +kernel
theorem k7_139 (b : Bool) : tb_lk b 7 139 = (2, 113, 0, 0, 0) := by cases b <;> decide +kernel
theorem d7_13 : decode (tb_me 7).1.2.1 13 = .ok (.ifCond .eq 12, 3) := by decide +kernel
theorem d7_25 : decode (tb_me 7).1.2.1 25 = .ok (.iconst (-1), 1) := by decide +kernel
theorem d7_26 : decode (tb_me 7).1.2.1 26 = .ok (.ireturn, 1) := by decide +kernel
theorem t7 : (tb_me 7).1.2.2.2 = some .int := by decide +kernel
theorem d7_16 : decode (tb_me 7).1.2.1 16 = .ok (.iload_n 2, 1) := by decide +kernel
theorem d7_17 : decode (tb_me 7).1.2.1 17 = .ok (.ifCond .lt 8, 3) := by decide +kernel
theorem d7_20 : decode (tb_me 7).1.2.1 20 = .ok (.iload_n 2, 1) := by decide +kernel
theorem d7_21 : decode (tb_me 7).1.2.1 21 = .ok (.iconst 5, 1) := by decide +kernel
theorem d7_22 : decode (tb_me 7).1.2.1 22 = .ok (.if_icmp .le 5, 3) := by decide +kernel
theorem d7_27 : decode (tb_me 7).1.2.1 27 = .ok (.iload_n 2, 1) := by decide +kernel
theorem d7_28 : decode (tb_me 7).1.2.1 28 = .ok (.ifCond .ne 10, 3) := by decide +kernel
theorem d7_38 : decode (tb_me 7).1.2.1 38 = .ok (.iload_n 2, 1) := by decide +kernel
theorem d7_39 : decode (tb_me 7).1.2.1 39 = .ok (.iconst 1, 1) := by decide +kernel
theorem d7_40 : decode (tb_me 7).1.2.1 40 = .ok (.if_icmp .ne 10, 3) := by decide +kernel
theorem d7_50 : decode (tb_me 7).1.2.1 50 = .ok (.iload_n 2, 1) := by decide +kernel
theorem d7_51 : decode (tb_me 7).1.2.1 51 = .ok (.iconst 2, 1) := by decide +kernel
theorem d7_52 : decode (tb_me 7).1.2.1 52 = .ok (.isub, 1) := by decide +kernel
theorem d7_53 : decode (tb_me 7).1.2.1 53 = .ok (.aload_n 3, 1) := by decide +kernel
theorem d7_54 : decode (tb_me 7).1.2.1 54 = .ok (.getfield 145, 3) := by decide +kernel
theorem k7_145 (b : Bool) : tb_lk b 7 145 = (1, 7, 7, 0, 0) := by cases b <;> decide +kernel
theorem d7_57 : decode (tb_me 7).1.2.1 57 = .ok (.iload_n 1, 1) := by decide +kernel
theorem d7_58 : decode (tb_me 7).1.2.1 58 = .ok (.iaload, 1) := by decide +kernel
theorem d7_59 : decode (tb_me 7).1.2.1 59 = .ok (.if_icmp .ge 14, 3) := by decide +kernel
theorem d7_73 : decode (tb_me 7).1.2.1 73 = .ok (.bipush (-2), 2) := by decide +kernel
theorem d7_75 : decode (tb_me 7).1.2.1 75 = .ok (.ireturn, 1) := by decide +kernel
theorem d7_62 : decode (tb_me 7).1.2.1 62 = .ok (.aload_n 3, 1) := by decide +kernel
theorem d7_63 : decode (tb_me 7).1.2.1 63 = .ok (.iload_n 1, 1) := by decide +kernel
theorem d7_64 : decode (tb_me 7).1.2.1 64 = .ok (.iload_n 2, 1) := by decide +kernel
theorem d7_65 : decode (tb_me 7).1.2.1 65 = .ok (.iconst 2, 1) := by decide +kernel
theorem d7_66 : decode (tb_me 7).1.2.1 66 = .ok (.isub, 1) := by decide +kernel
theorem d7_67 : decode (tb_me 7).1.2.1 67 = .ok (.invokevirtual 147, 3) := by decide +kernel
theorem k7_147 (b : Bool) : tb_lk b 7 147 = (2, 116, 0, 0, 0) := by cases b <;> decide +kernel
theorem d7_70 : decode (tb_me 7).1.2.1 70 = .ok (.goto 5, 3) := by decide +kernel
theorem d7_43 : decode (tb_me 7).1.2.1 43 = .ok (.aload_n 3, 1) := by decide +kernel
theorem d7_44 : decode (tb_me 7).1.2.1 44 = .ok (.getfield 145, 3) := by decide +kernel
theorem d7_47 : decode (tb_me 7).1.2.1 47 = .ok (.iload_n 1, 1) := by decide +kernel
theorem d7_48 : decode (tb_me 7).1.2.1 48 = .ok (.iaload, 1) := by decide +kernel
theorem d7_49 : decode (tb_me 7).1.2.1 49 = .ok (.ireturn, 1) := by decide +kernel
theorem d7_31 : decode (tb_me 7).1.2.1 31 = .ok (.aload_n 3, 1) := by decide +kernel
theorem d7_32 : decode (tb_me 7).1.2.1 32 = .ok (.getfield 142, 3) := by decide +kernel
theorem k7_142 (b : Bool) : tb_lk b 7 142 = (1, 7, 6, 0, 0) := by cases b <;> decide +kernel
theorem d7_35 : decode (tb_me 7).1.2.1 35 = .ok (.iload_n 1, 1) := by decide +kernel
theorem d7_36 : decode (tb_me 7).1.2.1 36 = .ok (.iaload, 1) := by decide +kernel
theorem d7_37 : decode (tb_me 7).1.2.1 37 = .ok (.ireturn, 1) := by decide +kernel
theorem e7 : (tb_me 7).2.1 = (0, 0) ∧ (tb_me 7).1.2.2.1 = 4 := by decide +kernel
theorem d8_0 : decode (tb_me 8).1.2.1 0 = .ok (.aload_n 0, 1) := by decide +kernel
theorem d8_1 : decode (tb_me 8).1.2.1 1 = .ok (.getfield 61, 3) := by decide +kernel
theorem k8_61 (b : Bool) : tb_lk b 8 61 = (1, 0, 4, 0, 0) := by cases b <;> decide +kernel
theorem d8_4 : decode (tb_me 8).1.2.1 4 = .ok (.getfield 83, 3) := by decide +kernel
theorem k8_83 (b : Bool) : tb_lk b 8 83 = (1, 9, 0, 0, 0) := by cases b <;> decide +kernel
theorem d8_7 : decode (tb_me 8).1.2.1 7 = .ok (.iload_n 1, 1) := by decide +kernel
theorem d8_8 : decode (tb_me 8).1.2.1 8 = .ok (.invokevirtual 150, 3) := by decide +kernel
theorem k8_150 (b : Bool) : tb_lk b 8 150 = (2, 111, 0, 0, 0) := by cases b <;> decide +kernel
theorem d8_11 : decode (tb_me 8).1.2.1 11 = .ok (.ifCond .eq 17, 3) := by decide +kernel
theorem d8_28 : decode (tb_me 8).1.2.1 28 = .ok (.iconst (-1), 1) := by decide +kernel
theorem d8_29 : decode (tb_me 8).1.2.1 29 = .ok (.ireturn, 1) := by decide +kernel
theorem t8 : (tb_me 8).1.2.2.2 = some .int := by decide +kernel
theorem d8_14 : decode (tb_me 8).1.2.1 14 = .ok (.aload_n 0, 1) := by decide +kernel
theorem d8_15 : decode (tb_me 8).1.2.1 15 = .ok (.getfield 61, 3) := by decide +kernel
theorem d8_18 : decode (tb_me 8).1.2.1 18 = .ok (.getfield 83, 3) := by decide +kernel
theorem d8_21 : decode (tb_me 8).1.2.1 21 = .ok (.iload_n 2, 1) := by decide +kernel
theorem d8_22 : decode (tb_me 8).1.2.1 22 = .ok (.invokevirtual 150, 3) := by decide +kernel
theorem d8_25 : decode (tb_me 8).1.2.1 25 = .ok (.ifCond .ne 5, 3) := by decide +kernel
theorem d8_30 : decode (tb_me 8).1.2.1 30 = .ok (.aload_n 0, 1) := by decide +kernel
theorem d8_31 : decode (tb_me 8).1.2.1 31 = .ok (.getfield 61, 3) := by decide +kernel
theorem d8_34 : decode (tb_me 8).1.2.1 34 = .ok (.getfield 83, 3) := by decide +kernel
theorem d8_37 : decode (tb_me 8).1.2.1 37 = .ok (.iload_n 1, 1) := by decide +kernel
theorem d8_38 : decode (tb_me 8).1.2.1 38 = .ok (.iload_n 2, 1) := by decide +kernel
theorem d8_39 : decode (tb_me 8).1.2.1 39 = .ok (.invokevirtual 153, 3) := by decide +kernel
theorem k8_153 (b : Bool) : tb_lk b 8 153 = (2, 117, 0, 0, 0) := by cases b <;> decide +kernel
theorem d8_42 : decode (tb_me 8).1.2.1 42 = .ok (.ireturn, 1) := by decide +kernel
theorem e8 : (tb_me 8).2.1 = (0, 0) ∧ (tb_me 8).1.2.2.1 = 3 := by decide +kernel
theorem d11_0 : decode (tb_me 11).1.2.1 0 = .ok (.aload_n 0, 1) := by decide +kernel
theorem d11_1 : decode (tb_me 11).1.2.1 1 = .ok (.getfield 61, 3) := by decide +kernel
theorem k11_61 (b : Bool) : tb_lk b 11 61 = (1, 0, 4, 0, 0) := by cases b <;> decide +kernel
theorem d11_4 : decode (tb_me 11).1.2.1 4 = .ok (.getfield 83, 3) := by decide +kernel
theorem k11_83 (b : Bool) : tb_lk b 11 83 = (1, 9, 0, 0, 0) := by cases b <;> decide +kernel
theorem d11_7 : decode (tb_me 11).1.2.1 7 = .ok (.invokevirtual 177, 3) := by decide +kernel
theorem k11_177 (b : Bool) : tb_lk b 11 177 = (2, 110, 0, 0, 0) := by cases b <;> decide +kernel
theorem d11_10 : decode (tb_me 11).1.2.1 10 = .ok (.ifCond .eq 19, 3) := by decide +kernel
theorem d11_29 : decode (tb_me 11).1.2.1 29 = .ok (.iconst (-1), 1) := by decide +kernel
theorem d11_30 : decode (tb_me 11).1.2.1 30 = .ok (.ireturn, 1) := by decide +kernel
theorem t11 : (tb_me 11).1.2.2.2 = some .int := by decide +kernel
theorem d11_13 : decode (tb_me 11).1.2.1 13 = .ok (.aload_n 0, 1) := by decide +kernel
theorem d11_14 : decode (tb_me 11).1.2.1 14 = .ok (.getfield 61, 3) := by decide +kernel
theorem d11_17 : decode (tb_me 11).1.2.1 17 = .ok (.getfield 87, 3) := by decide +kernel
theorem k11_87 (b : Bool) : tb_lk b 11 87 = (1, 9, 1, 0, 0) := by cases b <;> decide +kernel
theorem d11_20 : decode (tb_me 11).1.2.1 20 = .ok (.getfield 181, 3) := by decide +kernel
theorem k11_181 (b : Bool) : tb_lk b 11 181 = (1, 3, 2, 0, 0) := by cases b <;> decide +kernel
theorem d11_23 : decode (tb_me 11).1.2.1 23 = .ok (.sipush 999, 3) := by decide +kernel
theorem d11_26 : decode (tb_me 11).1.2.1 26 = .ok (.if_icmp .lt 5, 3) := by decide +kernel
theorem d11_31 : decode (tb_me 11).1.2.1 31 = .ok (.aload_n 0, 1) := by decide +kernel
theorem d11_32 : decode (tb_me 11).1.2.1 32 = .ok (.getfield 41, 3) := by decide +kernel
theorem k11_41 (b : Bool) : tb_lk b 11 41 = (1, 0, 6, 0, 0) := by cases b <;> decide +kernel
theorem f0_6 : (6 < pm_nf tb_cl 0) ∧ tb_ft 0 6 ≠ .long ∧ pm_isR (tb_ft 0 6) = true := by decide +kernel
theorem d11_35 : decode (tb_me 11).1.2.1 35 = .ok (.aload_n 0, 1) := by decide +kernel
theorem d11_36 : decode (tb_me 11).1.2.1 36 = .ok (.getfield 61, 3) := by decide +kernel
theorem d11_39 : decode (tb_me 11).1.2.1 39 = .ok (.getfield 87, 3) := by decide +kernel
theorem d11_42 : decode (tb_me 11).1.2.1 42 = .ok (.invokevirtual 167, 3) := by decide +kernel
theorem k11_167 (b : Bool) : tb_lk b 11 167 = (2, 84, 0, 0, 0) := by cases b <;> decide +kernel
theorem m84 : (tb_me 84).2 = ((0, 0), (1, 4)) ∧ (tb_me 84).1.2.2.1 = 2 := by decide +kernel
theorem d11_45 : decode (tb_me 11).1.2.1 45 = .ok (.aload_n 0, 1) := by decide +kernel
theorem d11_46 : decode (tb_me 11).1.2.1 46 = .ok (.getfield 61, 3) := by decide +kernel
theorem d11_49 : decode (tb_me 11).1.2.1 49 = .ok (.getfield 87, 3) := by decide +kernel
theorem d11_52 : decode (tb_me 11).1.2.1 52 = .ok (.invokevirtual 184, 3) := by decide +kernel
theorem k11_184 (b : Bool) : tb_lk b 11 184 = (2, 78, 0, 0, 0) := by cases b <;> decide +kernel
theorem d11_55 : decode (tb_me 11).1.2.1 55 = .ok (.aload_n 0, 1) := by decide +kernel
theorem d11_56 : decode (tb_me 11).1.2.1 56 = .ok (.getfield 61, 3) := by decide +kernel
theorem d11_59 : decode (tb_me 11).1.2.1 59 = .ok (.getfield 87, 3) := by decide +kernel
theorem d11_62 : decode (tb_me 11).1.2.1 62 = .ok (.getfield 181, 3) := by decide +kernel
theorem d11_65 : decode (tb_me 11).1.2.1 65 = .ok (.ireturn, 1) := by decide +kernel
theorem e11 : (tb_me 11).2.1 = (0, 0) ∧ (tb_me 11).1.2.2.1 = 1 := by decide +kernel
theorem d15_0 : decode (tb_me 15).1.2.1 0 = .ok (.aload_n 0, 1) := by decide +kernel
theorem d15_1 : decode (tb_me 15).1.2.1 1 = .ok (.getfield 61, 3) := by decide +kernel
theorem k15_61 (b : Bool) : tb_lk b 15 61 = (1, 0, 4, 0, 0) := by cases b <;> decide +kernel
theorem d15_4 : decode (tb_me 15).1.2.1 4 = .ok (.getfield 83, 3) := by decide +kernel
theorem k15_83 (b : Bool) : tb_lk b 15 83 = (1, 9, 0, 0, 0) := by cases b <;> decide +kernel
theorem d15_7 : decode (tb_me 15).1.2.1 7 = .ok (.iload_n 1, 1) := by decide +kernel
theorem d15_8 : decode (tb_me 15).1.2.1 8 = .ok (.invokevirtual 150, 3) := by decide +kernel
theorem k15_150 (b : Bool) : tb_lk b 15 150 = (2, 111, 0, 0, 0) := by cases b <;> decide +kernel
theorem d15_11 : decode (tb_me 15).1.2.1 11 = .ok (.ifCond .eq 17, 3) := by decide +kernel
theorem d15_28 : decode (tb_me 15).1.2.1 28 = .ok (.bipush (-2), 2) := by decide +kernel
theorem d15_30 : decode (tb_me 15).1.2.1 30 = .ok (.ireturn, 1) := by decide +kernel
theorem t15 : (tb_me 15).1.2.2.2 = some .int := by decide +kernel
theorem d15_14 : decode (tb_me 15).1.2.1 14 = .ok (.iload_n 1, 1) := by decide +kernel
theorem d15_15 : decode (tb_me 15).1.2.1 15 = .ok (.aload_n 0, 1) := by decide +kernel
theorem d15_16 : decode (tb_me 15).1.2.1 16 = .ok (.getfield 61, 3) := by decide +kernel
theorem d15_19 : decode (tb_me 15).1.2.1 19 = .ok (.getfield 87, 3) := by decide +kernel
theorem k15_87 (b : Bool) : tb_lk b 15 87 = (1, 9, 1, 0, 0) := by cases b <;> decide +kernel
theorem d15_22 : decode (tb_me 15).1.2.1 22 = .ok (.getfield 203, 3) := by decide +kernel
theorem k15_203 (b : Bool) : tb_lk b 15 203 = (1, 3, 4, 0, 0) := by cases b <;> decide +kernel
theorem d15_25 : decode (tb_me 15).1.2.1 25 = .ok (.if_icmp .ne 6, 3) := by decide +kernel
theorem d15_31 : decode (tb_me 15).1.2.1 31 = .ok (.aload_n 0, 1) := by decide +kernel
theorem d15_32 : decode (tb_me 15).1.2.1 32 = .ok (.getfield 41, 3) := by decide +kernel
theorem k15_41 (b : Bool) : tb_lk b 15 41 = (1, 0, 6, 0, 0) := by cases b <;> decide +kernel
theorem d15_35 : decode (tb_me 15).1.2.1 35 = .ok (.aload_n 0, 1) := by decide +kernel
theorem d15_36 : decode (tb_me 15).1.2.1 36 = .ok (.getfield 61, 3) := by decide +kernel
theorem d15_39 : decode (tb_me 15).1.2.1 39 = .ok (.getfield 87, 3) := by decide +kernel
theorem d15_42 : decode (tb_me 15).1.2.1 42 = .ok (.invokevirtual 167, 3) := by decide +kernel
theorem k15_167 (b : Bool) : tb_lk b 15 167 = (2, 84, 0, 0, 0) := by cases b <;> decide +kernel
theorem d15_45 : decode (tb_me 15).1.2.1 45 = .ok (.aload_n 0, 1) := by decide +kernel
theorem d15_46 : decode (tb_me 15).1.2.1 46 = .ok (.getfield 61, 3) := by decide +kernel
theorem d15_49 : decode (tb_me 15).1.2.1 49 = .ok (.getfield 87, 3) := by decide +kernel
theorem d15_52 : decode (tb_me 15).1.2.1 52 = .ok (.getfield 203, 3) := by decide +kernel
theorem d15_55 : decode (tb_me 15).1.2.1 55 = .ok (.istore_n 2, 1) := by decide +kernel
theorem d15_56 : decode (tb_me 15).1.2.1 56 = .ok (.aload_n 0, 1) := by decide +kernel
theorem d15_57 : decode (tb_me 15).1.2.1 57 = .ok (.getfield 61, 3) := by decide +kernel
theorem d15_60 : decode (tb_me 15).1.2.1 60 = .ok (.getfield 87, 3) := by decide +kernel
theorem d15_63 : decode (tb_me 15).1.2.1 63 = .ok (.iload_n 1, 1) := by decide +kernel
theorem d15_64 : decode (tb_me 15).1.2.1 64 = .ok (.putfield 203, 3) := by decide +kernel
theorem p15_3_4 : (4 < pm_nf tb_cl 3) ∧ tb_ft 3 4 = .int ∧ pm_fin tb_cl (tb_me 15).1.1 3 4 = true := by decide +kernel
theorem d15_67 : decode (tb_me 15).1.2.1 67 = .ok (.iload_n 2, 1) := by decide +kernel
theorem d15_68 : decode (tb_me 15).1.2.1 68 = .ok (.ireturn, 1) := by decide +kernel
theorem e15 : (tb_me 15).2.1 = (0, 0) ∧ (tb_me 15).1.2.2.1 = 3 := by decide +kernel
theorem d16_0 : decode (tb_me 16).1.2.1 0 = .ok (.aload_n 0, 1) := by decide +kernel
theorem d16_1 : decode (tb_me 16).1.2.1 1 = .ok (.getfield 61, 3) := by decide +kernel
theorem k16_61 (b : Bool) : tb_lk b 16 61 = (1, 0, 4, 0, 0) := by cases b <;> decide +kernel
theorem d16_4 : decode (tb_me 16).1.2.1 4 = .ok (.getfield 83, 3) := by decide +kernel
theorem k16_83 (b : Bool) : tb_lk b 16 83 = (1, 9, 0, 0, 0) := by cases b <;> decide +kernel
theorem d16_7 : decode (tb_me 16).1.2.1 7 = .ok (.invokevirtual 177, 3) := by decide +kernel
theorem k16_177 (b : Bool) : tb_lk b 16 177 = (2, 110, 0, 0, 0) := by cases b <;> decide +kernel
theorem d16_10 : decode (tb_me 16).1.2.1 10 = .ok (.ifCond .eq 26, 3) := by decide +kernel
theorem d16_36 : decode (tb_me 16).1.2.1 36 = .ok (.iconst (-1), 1) := by decide +kernel
theorem d16_37 : decode (tb_me 16).1.2.1 37 = .ok (.ireturn, 1) := by decide +kernel
theorem t16 : (tb_me 16).1.2.2.2 = some .int := by decide +kernel
theorem d16_13 : decode (tb_me 16).1.2.1 13 = .ok (.iload_n 1, 1) := by decide +kernel
theorem d16_14 : decode (tb_me 16).1.2.1 14 = .ok (.ifCond .lt 22, 3) := by decide +kernel
theorem d16_17 : decode (tb_me 16).1.2.1 17 = .ok (.iload_n 1, 1) := by decide +kernel
theorem d16_18 : decode (tb_me 16).1.2.1 18 = .ok (.iconst 2, 1) := by decide +kernel
theorem d16_19 : decode (tb_me 16).1.2.1 19 = .ok (.if_icmp .gt 17, 3) := by decide +kernel
theorem d16_22 : decode (tb_me 16).1.2.1 22 = .ok (.iload_n 1, 1) := by decide +kernel
theorem d16_23 : decode (tb_me 16).1.2.1 23 = .ok (.aload_n 0, 1) := by decide +kernel
theorem d16_24 : decode (tb_me 16).1.2.1 24 = .ok (.getfield 61, 3) := by decide +kernel
theorem d16_27 : decode (tb_me 16).1.2.1 27 = .ok (.getfield 87, 3) := by decide +kernel
theorem k16_87 (b : Bool) : tb_lk b 16 87 = (1, 9, 1, 0, 0) := by cases b <;> decide +kernel
theorem d16_30 : decode (tb_me 16).1.2.1 30 = .ok (.getfield 206, 3) := by decide +kernel
theorem k16_206 (b : Bool) : tb_lk b 16 206 = (1, 3, 3, 0, 0) := by cases b <;> decide +kernel
theorem d16_33 : decode (tb_me 16).1.2.1 33 = .ok (.if_icmp .ne 5, 3) := by decide +kernel
theorem d16_38 : decode (tb_me 16).1.2.1 38 = .ok (.aload_n 0, 1) := by decide +kernel
theorem d16_39 : decode (tb_me 16).1.2.1 39 = .ok (.getfield 41, 3) := by decide +kernel
theorem k16_41 (b : Bool) : tb_lk b 16 41 = (1, 0, 6, 0, 0) := by cases b <;> decide +kernel
theorem d16_42 : decode (tb_me 16).1.2.1 42 = .ok (.aload_n 0, 1) := by decide +kernel
theorem d16_43 : decode (tb_me 16).1.2.1 43 = .ok (.getfield 61, 3) := by decide +kernel
theorem d16_46 : decode (tb_me 16).1.2.1 46 = .ok (.getfield 87, 3) := by decide +kernel
theorem d16_49 : decode (tb_me 16).1.2.1 49 = .ok (.invokevirtual 167, 3) := by decide +kernel
theorem k16_167 (b : Bool) : tb_lk b 16 167 = (2, 84, 0, 0, 0) := by cases b <;> decide +kernel
theorem d16_52 : decode (tb_me 16).1.2.1 52 = .ok (.aload_n 0, 1) := by decide +kernel
theorem d16_53 : decode (tb_me 16).1.2.1 53 = .ok (.getfield 61, 3) := by decide +kernel
theorem d16_56 : decode (tb_me 16).1.2.1 56 = .ok (.getfield 87, 3) := by decide +kernel
theorem d16_59 : decode (tb_me 16).1.2.1 59 = .ok (.getfield 206, 3) := by decide +kernel
theorem d16_62 : decode (tb_me 16).1.2.1 62 = .ok (.istore_n 2, 1) := by decide +kernel
theorem d16_63 : decode (tb_me 16).1.2.1 63 = .ok (.aload_n 0, 1) := by decide +kernel
theorem d16_64 : decode (tb_me 16).1.2.1 64 = .ok (.getfield 61, 3) := by decide +kernel
theorem d16_67 : decode (tb_me 16).1.2.1 67 = .ok (.getfield 87, 3) := by decide +kernel
theorem d16_70 : decode (tb_me 16).1.2.1 70 = .ok (.iload_n 1, 1) := by decide +kernel
theorem d16_71 : decode (tb_me 16).1.2.1 71 = .ok (.putfield 206, 3) := by decide +kernel
theorem p16_3_3 : (3 < pm_nf tb_cl 3) ∧ tb_ft 3 3 = .int ∧ pm_fin tb_cl (tb_me 16).1.1 3 3 = true := by decide +kernel
theorem d16_74 : decode (tb_me 16).1.2.1 74 = .ok (.iload_n 2, 1) := by decide +kernel
theorem d16_75 : decode (tb_me 16).1.2.1 75 = .ok (.ireturn, 1) := by decide +kernel
theorem e16 : (tb_me 16).2.1 = (0, 0) ∧ (tb_me 16).1.2.2.1 = 3 := by decide +kernel
theorem d17_0 : decode (tb_me 17).1.2.1 0 = .ok (.aload_n 0, 1) := by decide +kernel
theorem d17_1 : decode (tb_me 17).1.2.1 1 = .ok (.getfield 41, 3) := by decide +kernel
theorem k17_41 (b : Bool) : tb_lk b 17 41 = (1, 0, 6, 0, 0) := by cases b <;> decide +kernel
theorem d17_4 : decode (tb_me 17).1.2.1 4 = .ok (.aload_n 0, 1) := by decide +kernel
theorem d17_5 : decode (tb_me 17).1.2.1 5 = .ok (.getfield 61, 3) := by decide +kernel
theorem k17_61 (b : Bool) : tb_lk b 17 61 = (1, 0, 4, 0, 0) := by cases b <;> decide +kernel
theorem d17_8 : decode (tb_me 17).1.2.1 8 = .ok (.getfield 87, 3) := by decide +kernel
theorem k17_87 (b : Bool) : tb_lk b 17 87 = (1, 9, 1, 0, 0) := by cases b <;> decide +kernel
theorem d17_11 : decode (tb_me 17).1.2.1 11 = .ok (.invokevirtual 209, 3) := by decide +kernel
theorem k17_209 (b : Bool) : tb_lk b 17 209 = (2, 85, 0, 0, 0) := by cases b <;> decide +kernel
theorem m85 : (tb_me 85).2 = ((0, 0), (1, 4)) ∧ (tb_me 85).1.2.2.1 = 2 := by decide +kernel
theorem d17_14 : decode (tb_me 17).1.2.1 14 = .ok (.ifCond .eq 13, 3) := by decide +kernel
theorem d17_27 : decode (tb_me 17).1.2.1 27 = .ok (.iconst (-1), 1) := by decide +kernel
theorem d17_28 : decode (tb_me 17).1.2.1 28 = .ok (.ireturn, 1) := by decide +kernel
theorem t17 : (tb_me 17).1.2.2.2 = some .int := by decide +kernel
theorem d17_17 : decode (tb_me 17).1.2.1 17 = .ok (.aload_n 0, 1) := by decide +kernel
theorem d17_18 : decode (tb_me 17).1.2.1 18 = .ok (.getfield 41, 3) := by decide +kernel
theorem d17_21 : decode (tb_me 17).1.2.1 21 = .ok (.getfield 213, 3) := by decide +kernel
theorem k17_213 (b : Bool) : tb_lk b 17 213 = (1, 4, 2, 0, 0) := by cases b <;> decide +kernel
theorem d17_24 : decode (tb_me 17).1.2.1 24 = .ok (.goto 4, 3) := by decide +kernel
theorem e17 : (tb_me 17).2.1 = (0, 0) ∧ (tb_me 17).1.2.2.1 = 1 := by decide +kernel
theorem d19_0 : decode (tb_me 19).1.2.1 0 = .ok (.aload_n 0, 1) := by decide +kernel
theorem d19_1 : decode (tb_me 19).1.2.1 1 = .ok (.getfield 61, 3) := by decide +kernel
theorem k19_61 (b : Bool) : tb_lk b 19 61 = (1, 0, 4, 0, 0) := by cases b <;> decide +kernel
theorem d19_4 : decode (tb_me 19).1.2.1 4 = .ok (.getfield 83, 3) := by decide +kernel
theorem k19_83 (b : Bool) : tb_lk b 19 83 = (1, 9, 0, 0, 0) := by cases b <;> decide +kernel
theorem d19_7 : decode (tb_me 19).1.2.1 7 = .ok (.invokevirtual 177, 3) := by decide +kernel
theorem k19_177 (b : Bool) : tb_lk b 19 177 = (2, 110, 0, 0, 0) := by cases b <;> decide +kernel
theorem d19_10 : decode (tb_me 19).1.2.1 10 = .ok (.ifCond .eq 27, 3) := by decide +kernel
theorem d19_37 : decode (tb_me 19).1.2.1 37 = .ok (.iconst (-1), 1) := by decide +kernel
theorem d19_38 : decode (tb_me 19).1.2.1 38 = .ok (.ireturn, 1) := by decide +kernel
theorem t19 : (tb_me 19).1.2.2.2 = some .int := by decide +kernel
theorem d19_13 : decode (tb_me 19).1.2.1 13 = .ok (.aload_n 0, 1) := by decide +kernel
theorem d19_14 : decode (tb_me 19).1.2.1 14 = .ok (.getfield 48, 3) := by decide +kernel
theorem k19_48 (b : Bool) : tb_lk b 19 48 = (1, 0, 7, 0, 0) := by cases b <;> decide +kernel
theorem f0_7 : (7 < pm_nf tb_cl 0) ∧ tb_ft 0 7 ≠ .long ∧ pm_isR (tb_ft 0 7) = true := by decide +kernel
theorem d19_17 : decode (tb_me 19).1.2.1 17 = .ok (.aload_n 0, 1) := by decide +kernel
theorem d19_18 : decode (tb_me 19).1.2.1 18 = .ok (.getfield 61, 3) := by decide +kernel
theorem d19_21 : decode (tb_me 19).1.2.1 21 = .ok (.getfield 83, 3) := by decide +kernel
theorem d19_24 : decode (tb_me 19).1.2.1 24 = .ok (.aload_n 0, 1) := by decide +kernel
theorem d19_25 : decode (tb_me 19).1.2.1 25 = .ok (.getfield 61, 3) := by decide +kernel
theorem d19_28 : decode (tb_me 19).1.2.1 28 = .ok (.getfield 87, 3) := by decide +kernel
theorem k19_87 (b : Bool) : tb_lk b 19 87 = (1, 9, 1, 0, 0) := by cases b <;> decide +kernel
theorem d19_31 : decode (tb_me 19).1.2.1 31 = .ok (.invokevirtual 220, 3) := by decide +kernel
theorem k19_220 (b : Bool) : tb_lk b 19 220 = (2, 44, 0, 0, 0) := by cases b <;> decide +kernel
theorem d19_34 : decode (tb_me 19).1.2.1 34 = .ok (.goto 4, 3) := by decide +kernel
theorem e19 : (tb_me 19).2.1 = (0, 0) ∧ (tb_me 19).1.2.2.1 = 1 := by decide +kernel
theorem d20_0 : decode (tb_me 20).1.2.1 0 = .ok (.aload_n 0, 1) := by decide +kernel
theorem d20_1 : decode (tb_me 20).1.2.1 1 = .ok (.getfield 61, 3) := by decide +kernel
theorem k20_61 (b : Bool) : tb_lk b 20 61 = (1, 0, 4, 0, 0) := by cases b <;> decide +kernel
theorem d20_4 : decode (tb_me 20).1.2.1 4 = .ok (.getfield 83, 3) := by decide +kernel
theorem k20_83 (b : Bool) : tb_lk b 20 83 = (1, 9, 0, 0, 0) := by cases b <;> decide +kernel
theorem d20_7 : decode (tb_me 20).1.2.1 7 = .ok (.iload_n 1, 1) := by decide +kernel
theorem d20_8 : decode (tb_me 20).1.2.1 8 = .ok (.invokevirtual 139, 3) := by decide +kernel
theorem k20_139 (b : Bool) : tb_lk b 20 139 = (2, 113, 0, 0, 0) := by cases b <;> decide +kernel
theorem d20_11 : decode (tb_me 20).1.2.1 11 = .ok (.ifCond .eq 12, 3) := by decide +kernel
theorem d20_23 : decode (tb_me 20).1.2.1 23 = .ok (.iconst (-1), 1) := by decide +kernel
theorem d20_24 : decode (tb_me 20).1.2.1 24 = .ok (.ireturn, 1) := by decide +kernel
theorem t20 : (tb_me 20).1.2.2.2 = some .int := by decide +kernel
theorem d20_14 : decode (tb_me 20).1.2.1 14 = .ok (.iload_n 2, 1) := by decide +kernel
theorem d20_15 : decode (tb_me 20).1.2.1 15 = .ok (.ifCond .lt 8, 3) := by decide +kernel
theorem d20_18 : decode (tb_me 20).1.2.1 18 = .ok (.iload_n 2, 1) := by decide +kernel
theorem d20_19 : decode (tb_me 20).1.2.1 19 = .ok (.iconst 5, 1) := by decide +kernel
theorem d20_20 : decode (tb_me 20).1.2.1 20 = .ok (.if_icmp .le 5, 3) := by decide +kernel
theorem d20_25 : decode (tb_me 20).1.2.1 25 = .ok (.aload_n 0, 1) := by decide +kernel
theorem d20_26 : decode (tb_me 20).1.2.1 26 = .ok (.getfield 48, 3) := by decide +kernel
theorem k20_48 (b : Bool) : tb_lk b 20 48 = (1, 0, 7, 0, 0) := by cases b <;> decide +kernel
theorem d20_29 : decode (tb_me 20).1.2.1 29 = .ok (.aload_n 0, 1) := by decide +kernel
theorem d20_30 : decode (tb_me 20).1.2.1 30 = .ok (.getfield 61, 3) := by decide +kernel
theorem d20_33 : decode (tb_me 20).1.2.1 33 = .ok (.getfield 83, 3) := by decide +kernel
theorem d20_36 : decode (tb_me 20).1.2.1 36 = .ok (.aload_n 0, 1) := by decide +kernel
theorem d20_37 : decode (tb_me 20).1.2.1 37 = .ok (.getfield 61, 3) := by decide +kernel
theorem d20_40 : decode (tb_me 20).1.2.1 40 = .ok (.getfield 87, 3) := by decide +kernel
theorem k20_87 (b : Bool) : tb_lk b 20 87 = (1, 9, 1, 0, 0) := by cases b <;> decide +kernel
theorem d20_43 : decode (tb_me 20).1.2.1 43 = .ok (.iload_n 1, 1) := by decide +kernel
theorem d20_44 : decode (tb_me 20).1.2.1 44 = .ok (.invokevirtual 224, 3) := by decide +kernel
theorem k20_224 (b : Bool) : tb_lk b 20 224 = (2, 45, 0, 0, 0) := by cases b <;> decide +kernel
theorem m45 : (tb_me 45).2 = ((0, 0), (3, 1)) ∧ (tb_me 45).1.2.2.1 = 7 := by decide +kernel
theorem d20_47 : decode (tb_me 20).1.2.1 47 = .ok (.aload_n 0, 1) := by decide +kernel
theorem d20_48 : decode (tb_me 20).1.2.1 48 = .ok (.getfield 48, 3) := by decide +kernel
theorem d20_51 : decode (tb_me 20).1.2.1 51 = .ok (.getfield 228, 3) := by decide +kernel
theorem k20_228 (b : Bool) : tb_lk b 20 228 = (1, 1, 3, 0, 0) := by cases b <;> decide +kernel
theorem d20_54 : decode (tb_me 20).1.2.1 54 = .ok (.ifCond .ne 6, 3) := by decide +kernel
theorem d20_60 : decode (tb_me 20).1.2.1 60 = .ok (.iload_n 2, 1) := by decide +kernel
theorem d20_61 : decode (tb_me 20).1.2.1 61 = .ok (.ifCond .ne 11, 3) := by decide +kernel
theorem d20_72 : decode (tb_me 20).1.2.1 72 = .ok (.iload_n 2, 1) := by decide +kernel
theorem d20_73 : decode (tb_me 20).1.2.1 73 = .ok (.aload_n 0, 1) := by decide +kernel
theorem d20_74 : decode (tb_me 20).1.2.1 74 = .ok (.getfield 48, 3) := by decide +kernel
theorem d20_77 : decode (tb_me 20).1.2.1 77 = .ok (.getfield 228, 3) := by decide +kernel
theorem d20_80 : decode (tb_me 20).1.2.1 80 = .ok (.if_icmp .gt 17, 3) := by decide +kernel
theorem d20_97 : decode (tb_me 20).1.2.1 97 = .ok (.bipush (-2), 2) := by decide +kernel
theorem d20_99 : decode (tb_me 20).1.2.1 99 = .ok (.ireturn, 1) := by decide +kernel
theorem d20_83 : decode (tb_me 20).1.2.1 83 = .ok (.aload_n 0, 1) := by decide +kernel
theorem d20_84 : decode (tb_me 20).1.2.1 84 = .ok (.getfield 48, 3) := by decide +kernel
theorem d20_87 : decode (tb_me 20).1.2.1 87 = .ok (.getfield 231, 3) := by decide +kernel
theorem k20_231 (b : Bool) : tb_lk b 20 231 = (1, 1, 2, 0, 0) := by cases b <;> decide +kernel
theorem d20_90 : decode (tb_me 20).1.2.1 90 = .ok (.iload_n 2, 1) := by decide +kernel
theorem d20_91 : decode (tb_me 20).1.2.1 91 = .ok (.iconst 1, 1) := by decide +kernel
theorem d20_92 : decode (tb_me 20).1.2.1 92 = .ok (.isub, 1) := by decide +kernel
theorem d20_93 : decode (tb_me 20).1.2.1 93 = .ok (.iaload, 1) := by decide +kernel
theorem d20_94 : decode (tb_me 20).1.2.1 94 = .ok (.goto 5, 3) := by decide +kernel
theorem d20_64 : decode (tb_me 20).1.2.1 64 = .ok (.aload_n 0, 1) := by decide +kernel
theorem d20_65 : decode (tb_me 20).1.2.1 65 = .ok (.getfield 48, 3) := by decide +kernel
theorem d20_68 : decode (tb_me 20).1.2.1 68 = .ok (.getfield 228, 3) := by decide +kernel
theorem d20_71 : decode (tb_me 20).1.2.1 71 = .ok (.ireturn, 1) := by decide +kernel
theorem d20_57 : decode (tb_me 20).1.2.1 57 = .ok (.bipush (-2), 2) := by decide +kernel
theorem d20_59 : decode (tb_me 20).1.2.1 59 = .ok (.ireturn, 1) := by decide +kernel
theorem e20 : (tb_me 20).2.1 = (0, 0) ∧ (tb_me 20).1.2.2.1 = 3 := by decide +kernel
theorem d21_57 : decode (tb_me 21).1.2.1 57 = .ok (.iload_n 3, 1) := by decide +kernel
theorem d21_58 : decode (tb_me 21).1.2.1 58 = .ok (.goto 7, 3) := by decide +kernel
theorem d21_65 : decode (tb_me 21).1.2.1 65 = .ok (.ireturn, 1) := by decide +kernel
theorem t21 : (tb_me 21).1.2.2.2 = some .int := by decide +kernel
theorem d21_0 : decode (tb_me 21).1.2.1 0 = .ok (.aload_n 0, 1) := by decide +kernel
theorem d21_1 : decode (tb_me 21).1.2.1 1 = .ok (.getfield 61, 3) := by decide +kernel
theorem k21_61 (b : Bool) : tb_lk b 21 61 = (1, 0, 4, 0, 0) := by cases b <;> decide +kernel
theorem d21_4 : decode (tb_me 21).1.2.1 4 = .ok (.getfield 83, 3) := by decide +kernel
theorem k21_83 (b : Bool) : tb_lk b 21 83 = (1, 9, 0, 0, 0) := by cases b <;> decide +kernel
theorem d21_7 : decode (tb_me 21).1.2.1 7 = .ok (.iload_n 1, 1) := by decide +kernel
theorem d21_8 : decode (tb_me 21).1.2.1 8 = .ok (.invokevirtual 234, 3) := by decide +kernel
theorem k21_234 (b : Bool) : tb_lk b 21 234 = (2, 114, 0, 0, 0) := by cases b <;> decide +kernel
theorem m114 : (tb_me 114).2 = ((0, 0), (1, 7)) ∧ (tb_me 114).1.2.2.1 = 2 := by decide +kernel
theorem d21_11 : decode (tb_me 21).1.2.1 11 = .ok (.ifCond .eq 12, 3) := by decide +kernel
theorem d21_23 : decode (tb_me 21).1.2.1 23 = .ok (.iconst (-1), 1) := by decide +kernel
theorem d21_24 : decode (tb_me 21).1.2.1 24 = .ok (.ireturn, 1) := by decide +kernel
theorem d21_14 : decode (tb_me 21).1.2.1 14 = .ok (.iload_n 2, 1) := by decide +kernel
theorem d21_15 : decode (tb_me 21).1.2.1 15 = .ok (.ifCond .lt 8, 3) := by decide +kernel
theorem d21_18 : decode (tb_me 21).1.2.1 18 = .ok (.iload_n 2, 1) := by decide +kernel
theorem d21_19 : decode (tb_me 21).1.2.1 19 = .ok (.iconst 1, 1) := by decide +kernel
theorem d21_20 : decode (tb_me 21).1.2.1 20 = .ok (.if_icmp .le 5, 3) := by decide +kernel
theorem d21_25 : decode (tb_me 21).1.2.1 25 = .ok (.aload_n 0, 1) := by decide +kernel
theorem d21_26 : decode (tb_me 21).1.2.1 26 = .ok (.getfield 48, 3) := by decide +kernel
theorem k21_48 (b : Bool) : tb_lk b 21 48 = (1, 0, 7, 0, 0) := by cases b <;> decide +kernel
theorem d21_29 : decode (tb_me 21).1.2.1 29 = .ok (.aload_n 0, 1) := by decide +kernel
theorem d21_30 : decode (tb_me 21).1.2.1 30 = .ok (.getfield 61, 3) := by decide +kernel
theorem d21_33 : decode (tb_me 21).1.2.1 33 = .ok (.getfield 83, 3) := by decide +kernel
theorem d21_36 : decode (tb_me 21).1.2.1 36 = .ok (.aload_n 0, 1) := by decide +kernel
theorem d21_37 : decode (tb_me 21).1.2.1 37 = .ok (.getfield 61, 3) := by decide +kernel
theorem d21_40 : decode (tb_me 21).1.2.1 40 = .ok (.getfield 87, 3) := by decide +kernel
theorem k21_87 (b : Bool) : tb_lk b 21 87 = (1, 9, 1, 0, 0) := by cases b <;> decide +kernel
theorem d21_43 : decode (tb_me 21).1.2.1 43 = .ok (.iload_n 1, 1) := by decide +kernel
theorem d21_44 : decode (tb_me 21).1.2.1 44 = .ok (.invokevirtual 237, 3) := by decide +kernel
theorem k21_237 (b : Bool) : tb_lk b 21 237 = (2, 49, 0, 0, 0) := by cases b <;> decide +kernel
theorem m49 : (tb_me 49).2 = ((0, 0), (3, 1)) ∧ (tb_me 49).1.2.2.1 = 9 := by decide +kernel
theorem d21_47 : decode (tb_me 21).1.2.1 47 = .ok (.istore_n 3, 1) := by decide +kernel
theorem d21_48 : decode (tb_me 21).1.2.1 48 = .ok (.iload_n 3, 1) := by decide +kernel
theorem d21_49 : decode (tb_me 21).1.2.1 49 = .ok (.ifCond .lt 8, 3) := by decide +kernel
theorem d21_52 : decode (tb_me 21).1.2.1 52 = .ok (.iload_n 2, 1) := by decide +kernel
theorem d21_53 : decode (tb_me 21).1.2.1 53 = .ok (.iconst 1, 1) := by decide +kernel
theorem d21_54 : decode (tb_me 21).1.2.1 54 = .ok (.if_icmp .ne 7, 3) := by decide +kernel
theorem d21_61 : decode (tb_me 21).1.2.1 61 = .ok (.iload_n 3, 1) := by decide +kernel
theorem d21_62 : decode (tb_me 21).1.2.1 62 = .ok (.invokestatic 197, 3) := by decide +kernel
theorem k21_197 (b : Bool) : tb_lk b 21 197 = (4, 259, 0, 0, 0) := by cases b <;> decide +kernel
theorem e21 : (tb_me 21).2.1 = (0, 0) ∧ (tb_me 21).1.2.2.1 = 4 := by decide +kernel
theorem d22_65 : decode (tb_me 22).1.2.1 65 = .ok (.iload_n 3, 1) := by decide +kernel
theorem d22_66 : decode (tb_me 22).1.2.1 66 = .ok (.goto 24, 3) := by decide +kernel
theorem d22_90 : decode (tb_me 22).1.2.1 90 = .ok (.ireturn, 1) := by decide +kernel
theorem t22 : (tb_me 22).1.2.2.2 = some .int := by decide +kernel
theorem d22_0 : decode (tb_me 22).1.2.1 0 = .ok (.aload_n 0, 1) := by decide +kernel
theorem d22_1 : decode (tb_me 22).1.2.1 1 = .ok (.getfield 61, 3) := by decide +kernel
theorem k22_61 (b : Bool) : tb_lk b 22 61 = (1, 0, 4, 0, 0) := by cases b <;> decide +kernel
theorem d22_4 : decode (tb_me 22).1.2.1 4 = .ok (.getfield 83, 3) := by decide +kernel
theorem k22_83 (b : Bool) : tb_lk b 22 83 = (1, 9, 0, 0, 0) := by cases b <;> decide +kernel
theorem d22_7 : decode (tb_me 22).1.2.1 7 = .ok (.invokevirtual 177, 3) := by decide +kernel
theorem k22_177 (b : Bool) : tb_lk b 22 177 = (2, 110, 0, 0, 0) := by cases b <;> decide +kernel
theorem d22_10 : decode (tb_me 22).1.2.1 10 = .ok (.ifCond .eq 22, 3) := by decide +kernel
theorem d22_32 : decode (tb_me 22).1.2.1 32 = .ok (.iconst (-1), 1) := by decide +kernel
theorem d22_33 : decode (tb_me 22).1.2.1 33 = .ok (.ireturn, 1) := by decide +kernel
theorem d22_13 : decode (tb_me 22).1.2.1 13 = .ok (.iload_n 1, 1) := by decide +kernel
theorem d22_14 : decode (tb_me 22).1.2.1 14 = .ok (.ifCond .lt 18, 3) := by decide +kernel
theorem d22_17 : decode (tb_me 22).1.2.1 17 = .ok (.iload_n 1, 1) := by decide +kernel
theorem d22_18 : decode (tb_me 22).1.2.1 18 = .ok (.bipush 99, 2) := by decide +kernel
theorem d22_20 : decode (tb_me 22).1.2.1 20 = .ok (.if_icmp .gt 12, 3) := by decide +kernel
theorem d22_23 : decode (tb_me 22).1.2.1 23 = .ok (.iload_n 2, 1) := by decide +kernel
theorem d22_24 : decode (tb_me 22).1.2.1 24 = .ok (.ifCond .lt 8, 3) := by decide +kernel
theorem d22_27 : decode (tb_me 22).1.2.1 27 = .ok (.iload_n 2, 1) := by decide +kernel
theorem d22_28 : decode (tb_me 22).1.2.1 28 = .ok (.iconst 1, 1) := by decide +kernel
theorem d22_29 : decode (tb_me 22).1.2.1 29 = .ok (.if_icmp .le 5, 3) := by decide +kernel
theorem d22_34 : decode (tb_me 22).1.2.1 34 = .ok (.aload_n 0, 1) := by decide +kernel
theorem d22_35 : decode (tb_me 22).1.2.1 35 = .ok (.getfield 48, 3) := by decide +kernel
theorem k22_48 (b : Bool) : tb_lk b 22 48 = (1, 0, 7, 0, 0) := by cases b <;> decide +kernel
theorem d22_38 : decode (tb_me 22).1.2.1 38 = .ok (.aload_n 0, 1) := by decide +kernel
theorem d22_39 : decode (tb_me 22).1.2.1 39 = .ok (.getfield 61, 3) := by decide +kernel
theorem d22_42 : decode (tb_me 22).1.2.1 42 = .ok (.getfield 83, 3) := by decide +kernel
theorem d22_45 : decode (tb_me 22).1.2.1 45 = .ok (.aload_n 0, 1) := by decide +kernel
theorem d22_46 : decode (tb_me 22).1.2.1 46 = .ok (.getfield 61, 3) := by decide +kernel
theorem d22_49 : decode (tb_me 22).1.2.1 49 = .ok (.getfield 87, 3) := by decide +kernel
theorem k22_87 (b : Bool) : tb_lk b 22 87 = (1, 9, 1, 0, 0) := by cases b <;> decide +kernel
theorem d22_52 : decode (tb_me 22).1.2.1 52 = .ok (.iload_n 1, 1) := by decide +kernel
theorem d22_53 : decode (tb_me 22).1.2.1 53 = .ok (.invokevirtual 241, 3) := by decide +kernel
theorem k22_241 (b : Bool) : tb_lk b 22 241 = (2, 50, 0, 0, 0) := by cases b <;> decide +kernel
theorem m50 : (tb_me 50).2 = ((0, 0), (3, 1)) ∧ (tb_me 50).1.2.2.1 = 9 := by decide +kernel
theorem d22_56 : decode (tb_me 22).1.2.1 56 = .ok (.istore_n 3, 1) := by decide +kernel
theorem d22_57 : decode (tb_me 22).1.2.1 57 = .ok (.iload_n 3, 1) := by decide +kernel
theorem d22_58 : decode (tb_me 22).1.2.1 58 = .ok (.ifCond .lt 7, 3) := by decide +kernel
theorem d22_61 : decode (tb_me 22).1.2.1 61 = .ok (.iload_n 2, 1) := by decide +kernel
theorem d22_62 : decode (tb_me 22).1.2.1 62 = .ok (.ifCond .ne 7, 3) := by decide +kernel
theorem d22_69 : decode (tb_me 22).1.2.1 69 = .ok (.aload_n 0, 1) := by decide +kernel
theorem d22_70 : decode (tb_me 22).1.2.1 70 = .ok (.getfield 61, 3) := by decide +kernel
theorem d22_73 : decode (tb_me 22).1.2.1 73 = .ok (.getfield 87, 3) := by decide +kernel
theorem d22_76 : decode (tb_me 22).1.2.1 76 = .ok (.aload_n 0, 1) := by decide +kernel
theorem d22_77 : decode (tb_me 22).1.2.1 77 = .ok (.getfield 61, 3) := by decide +kernel
theorem d22_80 : decode (tb_me 22).1.2.1 80 = .ok (.getfield 83, 3) := by decide +kernel
theorem d22_83 : decode (tb_me 22).1.2.1 83 = .ok (.invokevirtual 194, 3) := by decide +kernel
theorem k22_194 (b : Bool) : tb_lk b 22 194 = (2, 79, 0, 0, 0) := by cases b <;> decide +kernel
theorem d22_86 : decode (tb_me 22).1.2.1 86 = .ok (.iload_n 3, 1) := by decide +kernel
theorem d22_87 : decode (tb_me 22).1.2.1 87 = .ok (.iconst (-1), 1) := by decide +kernel
theorem d22_88 : decode (tb_me 22).1.2.1 88 = .ok (.ixor, 1) := by decide +kernel
theorem d22_89 : decode (tb_me 22).1.2.1 89 = .ok (.iand, 1) := by decide +kernel
theorem e22 : (tb_me 22).2.1 = (0, 0) ∧ (tb_me 22).1.2.2.1 = 4 := by decide +kernel
theorem d23_0 : decode (tb_me 23).1.2.1 0 = .ok (.aload_n 0, 1) := by decide +kernel
theorem d23_1 : decode (tb_me 23).1.2.1 1 = .ok (.getfield 61, 3) := by decide +kernel
theorem k23_61 (b : Bool) : tb_lk b 23 61 = (1, 0, 4, 0, 0) := by cases b <;> decide +kernel
theorem d23_4 : decode (tb_me 23).1.2.1 4 = .ok (.getfield 83, 3) := by decide +kernel
theorem k23_83 (b : Bool) : tb_lk b 23 83 = (1, 9, 0, 0, 0) := by cases b <;> decide +kernel
theorem d23_7 : decode (tb_me 23).1.2.1 7 = .ok (.invokevirtual 177, 3) := by decide +kernel
theorem k23_177 (b : Bool) : tb_lk b 23 177 = (2, 110, 0, 0, 0) := by cases b <;> decide +kernel
theorem d23_10 : decode (tb_me 23).1.2.1 10 = .ok (.ifCond .eq 12, 3) := by decide +kernel
theorem d23_22 : decode (tb_me 23).1.2.1 22 = .ok (.iconst (-1), 1) := by decide +kernel
theorem d23_23 : decode (tb_me 23).1.2.1 23 = .ok (.ireturn, 1) := by decide +kernel
theorem t23 : (tb_me 23).1.2.2.2 = some .int := by decide +kernel
theorem d23_13 : decode (tb_me 23).1.2.1 13 = .ok (.iload_n 1, 1) := by decide +kernel
theorem d23_14 : decode (tb_me 23).1.2.1 14 = .ok (.ifCond .lt 8, 3) := by decide +kernel
theorem d23_17 : decode (tb_me 23).1.2.1 17 = .ok (.iload_n 1, 1) := by decide +kernel
theorem d23_18 : decode (tb_me 23).1.2.1 18 = .ok (.iconst 1, 1) := by decide +kernel
theorem d23_19 : decode (tb_me 23).1.2.1 19 = .ok (.if_icmp .le 5, 3) := by decide +kernel
theorem d23_24 : decode (tb_me 23).1.2.1 24 = .ok (.aload_n 0, 1) := by decide +kernel
theorem d23_25 : decode (tb_me 23).1.2.1 25 = .ok (.getfield 48, 3) := by decide +kernel
theorem k23_48 (b : Bool) : tb_lk b 23 48 = (1, 0, 7, 0, 0) := by cases b <;> decide +kernel
theorem d23_28 : decode (tb_me 23).1.2.1 28 = .ok (.aload_n 0, 1) := by decide +kernel
theorem d23_29 : decode (tb_me 23).1.2.1 29 = .ok (.getfield 61, 3) := by decide +kernel
theorem d23_32 : decode (tb_me 23).1.2.1 32 = .ok (.getfield 83, 3) := by decide +kernel
theorem d23_35 : decode (tb_me 23).1.2.1 35 = .ok (.aload_n 0, 1) := by decide +kernel
theorem d23_36 : decode (tb_me 23).1.2.1 36 = .ok (.getfield 61, 3) := by decide +kernel
theorem d23_39 : decode (tb_me 23).1.2.1 39 = .ok (.getfield 87, 3) := by decide +kernel
theorem k23_87 (b : Bool) : tb_lk b 23 87 = (1, 9, 1, 0, 0) := by cases b <;> decide +kernel
theorem d23_42 : decode (tb_me 23).1.2.1 42 = .ok (.invokevirtual 244, 3) := by decide +kernel
theorem k23_244 (b : Bool) : tb_lk b 23 244 = (2, 53, 0, 0, 0) := by cases b <;> decide +kernel
theorem m53 : (tb_me 53).2 = ((0, 0), (2, 1)) ∧ (tb_me 53).1.2.2.1 = 7 := by decide +kernel
theorem d23_45 : decode (tb_me 23).1.2.1 45 = .ok (.istore_n 2, 1) := by decide +kernel
theorem d23_46 : decode (tb_me 23).1.2.1 46 = .ok (.iload_n 1, 1) := by decide +kernel
theorem d23_47 : decode (tb_me 23).1.2.1 47 = .ok (.ifCond .ne 7, 3) := by decide +kernel
theorem d23_54 : decode (tb_me 23).1.2.1 54 = .ok (.aload_n 0, 1) := by decide +kernel
theorem d23_55 : decode (tb_me 23).1.2.1 55 = .ok (.getfield 48, 3) := by decide +kernel
theorem d23_58 : decode (tb_me 23).1.2.1 58 = .ok (.aload_n 0, 1) := by decide +kernel
theorem d23_59 : decode (tb_me 23).1.2.1 59 = .ok (.getfield 61, 3) := by decide +kernel
theorem d23_62 : decode (tb_me 23).1.2.1 62 = .ok (.getfield 83, 3) := by decide +kernel
theorem d23_65 : decode (tb_me 23).1.2.1 65 = .ok (.aload_n 0, 1) := by decide +kernel
theorem d23_66 : decode (tb_me 23).1.2.1 66 = .ok (.getfield 61, 3) := by decide +kernel
theorem d23_69 : decode (tb_me 23).1.2.1 69 = .ok (.getfield 87, 3) := by decide +kernel
theorem d23_72 : decode (tb_me 23).1.2.1 72 = .ok (.iload_n 2, 1) := by decide +kernel
theorem d23_73 : decode (tb_me 23).1.2.1 73 = .ok (.invokevirtual 247, 3) := by decide +kernel
theorem k23_247 (b : Bool) : tb_lk b 23 247 = (2, 51, 0, 0, 0) := by cases b <;> decide +kernel
theorem d23_76 : decode (tb_me 23).1.2.1 76 = .ok (.ireturn, 1) := by decide +kernel
theorem d23_50 : decode (tb_me 23).1.2.1 50 = .ok (.iload_n 2, 1) := by decide +kernel
theorem d23_51 : decode (tb_me 23).1.2.1 51 = .ok (.goto 25, 3) := by decide +kernel
theorem e23 : (tb_me 23).2.1 = (0, 0) ∧ (tb_me 23).1.2.2.1 = 3 := by decide +kernel
theorem d24_0 : decode (tb_me 24).1.2.1 0 = .ok (.aload_n 0, 1) := by decide +kernel
theorem d24_1 : decode (tb_me 24).1.2.1 1 = .ok (.getfield 61, 3) := by decide +kernel
theorem k24_61 (b : Bool) : tb_lk b 24 61 = (1, 0, 4, 0, 0) := by cases b <;> decide +kernel
theorem d24_4 : decode (tb_me 24).1.2.1 4 = .ok (.getfield 83, 3) := by decide +kernel
theorem k24_83 (b : Bool) : tb_lk b 24 83 = (1, 9, 0, 0, 0) := by cases b <;> decide +kernel
theorem d24_7 : decode (tb_me 24).1.2.1 7 = .ok (.iload_n 1, 1) := by decide +kernel
theorem d24_8 : decode (tb_me 24).1.2.1 8 = .ok (.invokevirtual 139, 3) := by decide +kernel
theorem k24_139 (b : Bool) : tb_lk b 24 139 = (2, 113, 0, 0, 0) := by cases b <;> decide +kernel
theorem d24_11 : decode (tb_me 24).1.2.1 11 = .ok (.ifCond .eq 12, 3) := by decide +kernel
theorem d24_23 : decode (tb_me 24).1.2.1 23 = .ok (.iconst (-1), 1) := by decide +kernel
theorem d24_24 : decode (tb_me 24).1.2.1 24 = .ok (.ireturn, 1) := by decide +kernel
theorem t24 : (tb_me 24).1.2.2.2 = some .int := by decide +kernel
theorem d24_14 : decode (tb_me 24).1.2.1 14 = .ok (.iload_n 2, 1) := by decide +kernel
theorem d24_15 : decode (tb_me 24).1.2.1 15 = .ok (.ifCond .lt 8, 3) := by decide +kernel
theorem d24_18 : decode (tb_me 24).1.2.1 18 = .ok (.iload_n 2, 1) := by decide +kernel
theorem d24_19 : decode (tb_me 24).1.2.1 19 = .ok (.iconst 2, 1) := by decide +kernel
theorem d24_20 : decode (tb_me 24).1.2.1 20 = .ok (.if_icmp .le 5, 3) := by decide +kernel
theorem d24_25 : decode (tb_me 24).1.2.1 25 = .ok (.aload_n 0, 1) := by decide +kernel
theorem d24_26 : decode (tb_me 24).1.2.1 26 = .ok (.getfield 48, 3) := by decide +kernel
theorem k24_48 (b : Bool) : tb_lk b 24 48 = (1, 0, 7, 0, 0) := by cases b <;> decide +kernel
theorem d24_29 : decode (tb_me 24).1.2.1 29 = .ok (.aload_n 0, 1) := by decide +kernel
theorem d24_30 : decode (tb_me 24).1.2.1 30 = .ok (.getfield 61, 3) := by decide +kernel
theorem d24_33 : decode (tb_me 24).1.2.1 33 = .ok (.getfield 83, 3) := by decide +kernel
theorem d24_36 : decode (tb_me 24).1.2.1 36 = .ok (.aload_n 0, 1) := by decide +kernel
theorem d24_37 : decode (tb_me 24).1.2.1 37 = .ok (.getfield 61, 3) := by decide +kernel
theorem d24_40 : decode (tb_me 24).1.2.1 40 = .ok (.getfield 87, 3) := by decide +kernel
theorem k24_87 (b : Bool) : tb_lk b 24 87 = (1, 9, 1, 0, 0) := by cases b <;> decide +kernel
theorem d24_43 : decode (tb_me 24).1.2.1 43 = .ok (.iload_n 1, 1) := by decide +kernel
theorem d24_44 : decode (tb_me 24).1.2.1 44 = .ok (.invokevirtual 250, 3) := by decide +kernel
theorem k24_250 (b : Bool) : tb_lk b 24 250 = (2, 54, 0, 0, 0) := by cases b <;> decide +kernel
theorem m54 : (tb_me 54).2 = ((0, 0), (3, 1)) ∧ (tb_me 54).1.2.2.1 = 7 := by decide +kernel
theorem d24_47 : decode (tb_me 24).1.2.1 47 = .ok (.aload_n 0, 1) := by decide +kernel
theorem d24_48 : decode (tb_me 24).1.2.1 48 = .ok (.getfield 48, 3) := by decide +kernel
theorem d24_51 : decode (tb_me 24).1.2.1 51 = .ok (.getfield 253, 3) := by decide +kernel
theorem k24_253 (b : Bool) : tb_lk b 24 253 = (1, 1, 5, 0, 0) := by cases b <;> decide +kernel
theorem d24_54 : decode (tb_me 24).1.2.1 54 = .ok (.iconst 2, 1) := by decide +kernel
theorem d24_55 : decode (tb_me 24).1.2.1 55 = .ok (.if_icmp .gt 14, 3) := by decide +kernel
theorem d24_69 : decode (tb_me 24).1.2.1 69 = .ok (.bipush (-2), 2) := by decide +kernel
theorem d24_71 : decode (tb_me 24).1.2.1 71 = .ok (.ireturn, 1) := by decide +kernel
theorem d24_58 : decode (tb_me 24).1.2.1 58 = .ok (.iload_n 2, 1) := by decide +kernel
theorem d24_59 : decode (tb_me 24).1.2.1 59 = .ok (.aload_n 0, 1) := by decide +kernel
theorem d24_60 : decode (tb_me 24).1.2.1 60 = .ok (.getfield 48, 3) := by decide +kernel
theorem d24_63 : decode (tb_me 24).1.2.1 63 = .ok (.getfield 253, 3) := by decide +kernel
theorem d24_66 : decode (tb_me 24).1.2.1 66 = .ok (.if_icmp .le 6, 3) := by decide +kernel
theorem d24_72 : decode (tb_me 24).1.2.1 72 = .ok (.iload_n 2, 1) := by decide +kernel
theorem d24_73 : decode (tb_me 24).1.2.1 73 = .ok (.ifCond .ne 13, 3) := by decide +kernel
theorem d24_86 : decode (tb_me 24).1.2.1 86 = .ok (.aload_n 0, 1) := by decide +kernel
theorem d24_87 : decode (tb_me 24).1.2.1 87 = .ok (.getfield 48, 3) := by decide +kernel
theorem d24_90 : decode (tb_me 24).1.2.1 90 = .ok (.iload_n 2, 1) := by decide +kernel
theorem d24_91 : decode (tb_me 24).1.2.1 91 = .ok (.iconst 1, 1) := by decide +kernel
theorem d24_92 : decode (tb_me 24).1.2.1 92 = .ok (.isub, 1) := by decide +kernel
theorem d24_93 : decode (tb_me 24).1.2.1 93 = .ok (.invokevirtual 256, 3) := by decide +kernel
theorem k24_256 (b : Bool) : tb_lk b 24 256 = (2, 57, 0, 0, 0) := by cases b <;> decide +kernel
theorem m57 : (tb_me 57).2 = ((0, 0), (1, 1)) ∧ (tb_me 57).1.2.2.1 = 2 := by decide +kernel
theorem d24_96 : decode (tb_me 24).1.2.1 96 = .ok (.ireturn, 1) := by decide +kernel
theorem d24_76 : decode (tb_me 24).1.2.1 76 = .ok (.aload_n 0, 1) := by decide +kernel
theorem d24_77 : decode (tb_me 24).1.2.1 77 = .ok (.getfield 48, 3) := by decide +kernel
theorem d24_80 : decode (tb_me 24).1.2.1 80 = .ok (.getfield 253, 3) := by decide +kernel
theorem d24_83 : decode (tb_me 24).1.2.1 83 = .ok (.goto 13, 3) := by decide +kernel
theorem e24 : (tb_me 24).2.1 = (0, 0) ∧ (tb_me 24).1.2.2.1 = 3 := by decide +kernel
theorem d26_0 : decode (tb_me 26).1.2.1 0 = .ok (.iload_n 1, 1) := by decide +kernel
theorem d26_1 : decode (tb_me 26).1.2.1 1 = .ok (.iconst (-1), 1) := by decide +kernel
theorem d26_2 : decode (tb_me 26).1.2.1 2 = .ok (.if_icmp .ne 13, 3) := by decide +kernel
theorem d26_15 : decode (tb_me 26).1.2.1 15 = .ok (.aload_n 0, 1) := by decide +kernel
theorem d26_16 : decode (tb_me 26).1.2.1 16 = .ok (.getfield 61, 3) := by decide +kernel
theorem k26_61 (b : Bool) : tb_lk b 26 61 = (1, 0, 4, 0, 0) := by cases b <;> decide +kernel
theorem d26_19 : decode (tb_me 26).1.2.1 19 = .ok (.getfield 83, 3) := by decide +kernel
theorem k26_83 (b : Bool) : tb_lk b 26 83 = (1, 9, 0, 0, 0) := by cases b <;> decide +kernel
theorem d26_22 : decode (tb_me 26).1.2.1 22 = .ok (.iload_n 1, 1) := by decide +kernel
theorem d26_23 : decode (tb_me 26).1.2.1 23 = .ok (.invokevirtual 139, 3) := by decide +kernel
theorem k26_139 (b : Bool) : tb_lk b 26 139 = (2, 113, 0, 0, 0) := by cases b <;> decide +kernel
theorem d26_26 : decode (tb_me 26).1.2.1 26 = .ok (.ifCond .eq 15, 3) := by decide +kernel
theorem d26_41 : decode (tb_me 26).1.2.1 41 = .ok (.bipush (-2), 2) := by decide +kernel
theorem d26_43 : decode (tb_me 26).1.2.1 43 = .ok (.ireturn, 1) := by decide +kernel
theorem t26 : (tb_me 26).1.2.2.2 = some .int := by decide +kernel
theorem d26_29 : decode (tb_me 26).1.2.1 29 = .ok (.aload_n 0, 1) := by decide +kernel
theorem d26_30 : decode (tb_me 26).1.2.1 30 = .ok (.getfield 61, 3) := by decide +kernel
theorem d26_33 : decode (tb_me 26).1.2.1 33 = .ok (.getfield 99, 3) := by decide +kernel
theorem k26_99 (b : Bool) : tb_lk b 26 99 = (1, 9, 2, 0, 0) := by cases b <;> decide +kernel
theorem d26_36 : decode (tb_me 26).1.2.1 36 = .ok (.bipush 10, 2) := by decide +kernel
theorem d26_38 : decode (tb_me 26).1.2.1 38 = .ok (.if_icmp .lt 6, 3) := by decide +kernel
theorem d26_44 : decode (tb_me 26).1.2.1 44 = .ok (.aload_n 0, 1) := by decide +kernel
theorem d26_45 : decode (tb_me 26).1.2.1 45 = .ok (.getfield 61, 3) := by decide +kernel
theorem d26_48 : decode (tb_me 26).1.2.1 48 = .ok (.iload_n 1, 1) := by decide +kernel
theorem d26_49 : decode (tb_me 26).1.2.1 49 = .ok (.iload_n 2, 1) := by decide +kernel
theorem d26_50 : decode (tb_me 26).1.2.1 50 = .ok (.invokevirtual 269, 3) := by decide +kernel
theorem k26_269 (b : Bool) : tb_lk b 26 269 = (2, 145, 0, 0, 0) := by cases b <;> decide +kernel
theorem m145 : (tb_me 145).2 = ((0, 0), (2, 9)) ∧ (tb_me 145).1.2.2.1 = 4 := by decide +kernel
theorem d26_53 : decode (tb_me 26).1.2.1 53 = .ok (.aload_n 0, 1) := by decide +kernel
theorem d26_54 : decode (tb_me 26).1.2.1 54 = .ok (.getfield 61, 3) := by decide +kernel
theorem d26_57 : decode (tb_me 26).1.2.1 57 = .ok (.getfield 99, 3) := by decide +kernel
theorem d26_60 : decode (tb_me 26).1.2.1 60 = .ok (.ireturn, 1) := by decide +kernel
theorem d26_5 : decode (tb_me 26).1.2.1 5 = .ok (.aload_n 0, 1) := by decide +kernel
theorem d26_6 : decode (tb_me 26).1.2.1 6 = .ok (.getfield 61, 3) := by decide +kernel
theorem d26_9 : decode (tb_me 26).1.2.1 9 = .ok (.iconst 0, 1) := by decide +kernel
theorem d26_10 : decode (tb_me 26).1.2.1 10 = .ok (.putfield 99, 3) := by decide +kernel
theorem p26_9_2 : (2 < pm_nf tb_cl 9) ∧ tb_ft 9 2 = .int ∧ pm_fin tb_cl (tb_me 26).1.1 9 2 = true := by decide +kernel
theorem d26_13 : decode (tb_me 26).1.2.1 13 = .ok (.iconst 0, 1) := by decide +kernel
theorem d26_14 : decode (tb_me 26).1.2.1 14 = .ok (.ireturn, 1) := by decide +kernel
theorem e26 : (tb_me 26).2.1 = (0, 0) ∧ (tb_me 26).1.2.2.1 = 3 := by decide +kernel
theorem d27_0 : decode (tb_me 27).1.2.1 0 = .ok (.aload_n 0, 1) := by decide +kernel
theorem d27_1 : decode (tb_me 27).1.2.1 1 = .ok (.getfield 61, 3) := by decide +kernel
theorem k27_61 (b : Bool) : tb_lk b 27 61 = (1, 0, 4, 0, 0) := by cases b <;> decide +kernel
theorem d27_4 : decode (tb_me 27).1.2.1 4 = .ok (.getfield 83, 3) := by decide +kernel
theorem k27_83 (b : Bool) : tb_lk b 27 83 = (1, 9, 0, 0, 0) := by cases b <;> decide +kernel
theorem d27_7 : decode (tb_me 27).1.2.1 7 = .ok (.invokevirtual 177, 3) := by decide +kernel
theorem k27_177 (b : Bool) : tb_lk b 27 177 = (2, 110, 0, 0, 0) := by cases b <;> decide +kernel
theorem d27_10 : decode (tb_me 27).1.2.1 10 = .ok (.ifCond .eq 12, 3) := by decide +kernel
theorem d27_22 : decode (tb_me 27).1.2.1 22 = .ok (.iconst (-1), 1) := by decide +kernel
theorem d27_23 : decode (tb_me 27).1.2.1 23 = .ok (.ireturn, 1) := by decide +kernel
theorem t27 : (tb_me 27).1.2.2.2 = some .int := by decide +kernel
theorem d27_13 : decode (tb_me 27).1.2.1 13 = .ok (.iload_n 1, 1) := by decide +kernel
theorem d27_14 : decode (tb_me 27).1.2.1 14 = .ok (.ifCond .lt 8, 3) := by decide +kernel
theorem d27_17 : decode (tb_me 27).1.2.1 17 = .ok (.iload_n 1, 1) := by decide +kernel
theorem d27_18 : decode (tb_me 27).1.2.1 18 = .ok (.iconst 2, 1) := by decide +kernel
theorem d27_19 : decode (tb_me 27).1.2.1 19 = .ok (.if_icmp .le 5, 3) := by decide +kernel
theorem d27_24 : decode (tb_me 27).1.2.1 24 = .ok (.aload_n 0, 1) := by decide +kernel
theorem d27_25 : decode (tb_me 27).1.2.1 25 = .ok (.getfield 48, 3) := by decide +kernel
theorem k27_48 (b : Bool) : tb_lk b 27 48 = (1, 0, 7, 0, 0) := by cases b <;> decide +kernel
theorem d27_28 : decode (tb_me 27).1.2.1 28 = .ok (.aload_n 0, 1) := by decide +kernel
theorem d27_29 : decode (tb_me 27).1.2.1 29 = .ok (.getfield 61, 3) := by decide +kernel
theorem d27_32 : decode (tb_me 27).1.2.1 32 = .ok (.invokevirtual 272, 3) := by decide +kernel
theorem k27_272 (b : Bool) : tb_lk b 27 272 = (2, 60, 0, 0, 0) := by cases b <;> decide +kernel
theorem m60 : (tb_me 60).2 = ((0, 0), (1, 1)) ∧ (tb_me 60).1.2.2.1 = 7 := by decide +kernel
theorem d27_35 : decode (tb_me 27).1.2.1 35 = .ok (.iload_n 1, 1) := by decide +kernel
theorem d27_36 : decode (tb_me 27).1.2.1 36 = .ok (.ifCond .ne 11, 3) := by decide +kernel
theorem d27_47 : decode (tb_me 27).1.2.1 47 = .ok (.iload_n 1, 1) := by decide +kernel
theorem d27_48 : decode (tb_me 27).1.2.1 48 = .ok (.iconst 1, 1) := by decide +kernel
theorem d27_49 : decode (tb_me 27).1.2.1 49 = .ok (.if_icmp .ne 13, 3) := by decide +kernel
theorem d27_62 : decode (tb_me 27).1.2.1 62 = .ok (.aload_n 0, 1) := by decide +kernel
theorem d27_63 : decode (tb_me 27).1.2.1 63 = .ok (.getfield 48, 3) := by decide +kernel
theorem d27_66 : decode (tb_me 27).1.2.1 66 = .ok (.getfield 282, 3) := by decide +kernel
theorem k27_282 (b : Bool) : tb_lk b 27 282 = (1, 1, 14, 0, 0) := by cases b <;> decide +kernel
theorem f1_14 : (14 < pm_nf tb_cl 1) ∧ tb_ft 1 14 ≠ .long ∧ pm_isR (tb_ft 1 14) = false := by decide +kernel
theorem d27_69 : decode (tb_me 27).1.2.1 69 = .ok (.ireturn, 1) := by decide +kernel
theorem d27_52 : decode (tb_me 27).1.2.1 52 = .ok (.aload_n 0, 1) := by decide +kernel
theorem d27_53 : decode (tb_me 27).1.2.1 53 = .ok (.getfield 48, 3) := by decide +kernel
theorem d27_56 : decode (tb_me 27).1.2.1 56 = .ok (.getfield 279, 3) := by decide +kernel
theorem k27_279 (b : Bool) : tb_lk b 27 279 = (1, 1, 13, 0, 0) := by cases b <;> decide +kernel
theorem d27_59 : decode (tb_me 27).1.2.1 59 = .ok (.goto 10, 3) := by decide +kernel
theorem d27_39 : decode (tb_me 27).1.2.1 39 = .ok (.aload_n 0, 1) := by decide +kernel
theorem d27_40 : decode (tb_me 27).1.2.1 40 = .ok (.getfield 48, 3) := by decide +kernel
theorem d27_43 : decode (tb_me 27).1.2.1 43 = .ok (.getfield 276, 3) := by decide +kernel
theorem k27_276 (b : Bool) : tb_lk b 27 276 = (1, 1, 12, 0, 0) := by cases b <;> decide +kernel
theorem d27_46 : decode (tb_me 27).1.2.1 46 = .ok (.ireturn, 1) := by decide +kernel
theorem e27 : (tb_me 27).2.1 = (0, 0) ∧ (tb_me 27).1.2.2.1 = 2 := by decide +kernel
theorem d28_0 : decode (tb_me 28).1.2.1 0 = .ok (.aload_n 0, 1) := by decide +kernel
theorem d28_1 : decode (tb_me 28).1.2.1 1 = .ok (.getfield 61, 3) := by decide +kernel
theorem k28_61 (b : Bool) : tb_lk b 28 61 = (1, 0, 4, 0, 0) := by cases b <;> decide +kernel
theorem d28_4 : decode (tb_me 28).1.2.1 4 = .ok (.getfield 83, 3) := by decide +kernel
theorem k28_83 (b : Bool) : tb_lk b 28 83 = (1, 9, 0, 0, 0) := by cases b <;> decide +kernel
theorem d28_7 : decode (tb_me 28).1.2.1 7 = .ok (.invokevirtual 177, 3) := by decide +kernel
theorem k28_177 (b : Bool) : tb_lk b 28 177 = (2, 110, 0, 0, 0) := by cases b <;> decide +kernel
theorem d28_10 : decode (tb_me 28).1.2.1 10 = .ok (.ifCond .eq 12, 3) := by decide +kernel
theorem d28_22 : decode (tb_me 28).1.2.1 22 = .ok (.iconst (-1), 1) := by decide +kernel
theorem d28_23 : decode (tb_me 28).1.2.1 23 = .ok (.ireturn, 1) := by decide +kernel
theorem t28 : (tb_me 28).1.2.2.2 = some .int := by decide +kernel
theorem d28_13 : decode (tb_me 28).1.2.1 13 = .ok (.iload_n 1, 1) := by decide +kernel
theorem d28_14 : decode (tb_me 28).1.2.1 14 = .ok (.ifCond .lt 8, 3) := by decide +kernel
theorem d28_17 : decode (tb_me 28).1.2.1 17 = .ok (.iload_n 1, 1) := by decide +kernel
theorem d28_18 : decode (tb_me 28).1.2.1 18 = .ok (.iconst 1, 1) := by decide +kernel
theorem d28_19 : decode (tb_me 28).1.2.1 19 = .ok (.if_icmp .le 5, 3) := by decide +kernel
theorem d28_24 : decode (tb_me 28).1.2.1 24 = .ok (.aload_n 0, 1) := by decide +kernel
theorem d28_25 : decode (tb_me 28).1.2.1 25 = .ok (.getfield 48, 3) := by decide +kernel
theorem k28_48 (b : Bool) : tb_lk b 28 48 = (1, 0, 7, 0, 0) := by cases b <;> decide +kernel
theorem d28_28 : decode (tb_me 28).1.2.1 28 = .ok (.aload_n 0, 1) := by decide +kernel
theorem d28_29 : decode (tb_me 28).1.2.1 29 = .ok (.getfield 61, 3) := by decide +kernel
theorem d28_32 : decode (tb_me 28).1.2.1 32 = .ok (.invokevirtual 272, 3) := by decide +kernel
theorem k28_272 (b : Bool) : tb_lk b 28 272 = (2, 60, 0, 0, 0) := by cases b <;> decide +kernel
theorem d28_35 : decode (tb_me 28).1.2.1 35 = .ok (.aload_n 0, 1) := by decide +kernel
theorem d28_36 : decode (tb_me 28).1.2.1 36 = .ok (.getfield 48, 3) := by decide +kernel
theorem d28_39 : decode (tb_me 28).1.2.1 39 = .ok (.getfield 276, 3) := by decide +kernel
theorem k28_276 (b : Bool) : tb_lk b 28 276 = (1, 1, 12, 0, 0) := by cases b <;> decide +kernel
theorem d28_42 : decode (tb_me 28).1.2.1 42 = .ok (.ifCond .eq 16, 3) := by decide +kernel
theorem d28_58 : decode (tb_me 28).1.2.1 58 = .ok (.bipush (-2), 2) := by decide +kernel
theorem d28_60 : decode (tb_me 28).1.2.1 60 = .ok (.ireturn, 1) := by decide +kernel
theorem d28_45 : decode (tb_me 28).1.2.1 45 = .ok (.aload_n 0, 1) := by decide +kernel
theorem d28_46 : decode (tb_me 28).1.2.1 46 = .ok (.getfield 61, 3) := by decide +kernel
theorem d28_49 : decode (tb_me 28).1.2.1 49 = .ok (.getfield 83, 3) := by decide +kernel
theorem d28_52 : decode (tb_me 28).1.2.1 52 = .ok (.getfield 285, 3) := by decide +kernel
theorem k28_285 (b : Bool) : tb_lk b 28 285 = (1, 7, 2, 0, 0) := by cases b <;> decide +kernel
theorem d28_55 : decode (tb_me 28).1.2.1 55 = .ok (.ifCond .ne 6, 3) := by decide +kernel
theorem d28_61 : decode (tb_me 28).1.2.1 61 = .ok (.aload_n 0, 1) := by decide +kernel
theorem d28_62 : decode (tb_me 28).1.2.1 62 = .ok (.getfield 48, 3) := by decide +kernel
theorem d28_65 : decode (tb_me 28).1.2.1 65 = .ok (.aload_n 0, 1) := by decide +kernel
theorem d28_66 : decode (tb_me 28).1.2.1 66 = .ok (.getfield 61, 3) := by decide +kernel
theorem d28_69 : decode (tb_me 28).1.2.1 69 = .ok (.getfield 83, 3) := by decide +kernel
theorem d28_72 : decode (tb_me 28).1.2.1 72 = .ok (.getfield 285, 3) := by decide +kernel
theorem d28_75 : decode (tb_me 28).1.2.1 75 = .ok (.invokevirtual 288, 3) := by decide +kernel
theorem k28_288 (b : Bool) : tb_lk b 28 288 = (2, 63, 0, 0, 0) := by cases b <;> decide +kernel
theorem m63 : (tb_me 63).2 = ((0, 0), (1, 1)) ∧ (tb_me 63).1.2.2.1 = 4 := by decide +kernel
theorem d28_78 : decode (tb_me 28).1.2.1 78 = .ok (.istore_n 2, 1) := by decide +kernel
theorem d28_79 : decode (tb_me 28).1.2.1 79 = .ok (.iload_n 1, 1) := by decide +kernel
theorem d28_80 : decode (tb_me 28).1.2.1 80 = .ok (.ifCond .ne 7, 3) := by decide +kernel
theorem d28_87 : decode (tb_me 28).1.2.1 87 = .ok (.aload_n 0, 1) := by decide +kernel
theorem d28_88 : decode (tb_me 28).1.2.1 88 = .ok (.getfield 48, 3) := by decide +kernel
theorem d28_91 : decode (tb_me 28).1.2.1 91 = .ok (.iload_n 2, 1) := by decide +kernel
theorem d28_92 : decode (tb_me 28).1.2.1 92 = .ok (.invokevirtual 291, 3) := by decide +kernel
theorem k28_291 (b : Bool) : tb_lk b 28 291 = (2, 62, 0, 0, 0) := by cases b <;> decide +kernel
theorem d28_95 : decode (tb_me 28).1.2.1 95 = .ok (.ireturn, 1) := by decide +kernel
theorem d28_83 : decode (tb_me 28).1.2.1 83 = .ok (.iload_n 2, 1) := by decide +kernel
theorem d28_84 : decode (tb_me 28).1.2.1 84 = .ok (.goto 11, 3) := by decide +kernel
theorem e28 : (tb_me 28).2.1 = (0, 0) ∧ (tb_me 28).1.2.2.1 = 3 := by decide +kernel
theorem d29_0 : decode (tb_me 29).1.2.1 0 = .ok (.iload_n 1, 1) := by decide +kernel
theorem d29_1 : decode (tb_me 29).1.2.1 1 = .ok (.ifCond .ge 5, 3) := by decide +kernel
theorem d29_6 : decode (tb_me 29).1.2.1 6 = .ok (.aload_n 0, 1) := by decide +kernel
theorem d29_7 : decode (tb_me 29).1.2.1 7 = .ok (.getfield 61, 3) := by decide +kernel
theorem k29_61 (b : Bool) : tb_lk b 29 61 = (1, 0, 4, 0, 0) := by cases b <;> decide +kernel
theorem d29_10 : decode (tb_me 29).1.2.1 10 = .ok (.getfield 294, 3) := by decide +kernel
theorem k29_294 (b : Bool) : tb_lk b 29 294 = (1, 9, 5, 0, 0) := by cases b <;> decide +kernel
theorem d29_13 : decode (tb_me 29).1.2.1 13 = .ok (.istore_n 2, 1) := by decide +kernel
theorem d29_14 : decode (tb_me 29).1.2.1 14 = .ok (.aload_n 0, 1) := by decide +kernel
theorem d29_15 : decode (tb_me 29).1.2.1 15 = .ok (.getfield 61, 3) := by decide +kernel
theorem d29_18 : decode (tb_me 29).1.2.1 18 = .ok (.iload_n 1, 1) := by decide +kernel
theorem d29_19 : decode (tb_me 29).1.2.1 19 = .ok (.putfield 294, 3) := by decide +kernel
theorem p29_9_5 : (5 < pm_nf tb_cl 9) ∧ tb_ft 9 5 = .int ∧ pm_fin tb_cl (tb_me 29).1.1 9 5 = true := by decide +kernel
theorem d29_22 : decode (tb_me 29).1.2.1 22 = .ok (.iload_n 2, 1) := by decide +kernel
theorem d29_23 : decode (tb_me 29).1.2.1 23 = .ok (.ireturn, 1) := by decide +kernel
theorem t29 : (tb_me 29).1.2.2.2 = some .int := by decide +kernel
theorem d29_4 : decode (tb_me 29).1.2.1 4 = .ok (.iconst (-1), 1) := by decide +kernel
theorem d29_5 : decode (tb_me 29).1.2.1 5 = .ok (.ireturn, 1) := by decide +kernel
theorem e29 : (tb_me 29).2.1 = (0, 0) ∧ (tb_me 29).1.2.2.1 = 3 := by decide +kernel
theorem d30_0 : decode (tb_me 30).1.2.1 0 = .ok (.aload_n 0, 1) := by decide +kernel
theorem d30_1 : decode (tb_me 30).1.2.1 1 = .ok (.getfield 61, 3) := by decide +kernel
theorem k30_61 (b : Bool) : tb_lk b 30 61 = (1, 0, 4, 0, 0) := by cases b <;> decide +kernel
theorem d30_4 : decode (tb_me 30).1.2.1 4 = .ok (.getfield 83, 3) := by decide +kernel
theorem k30_83 (b : Bool) : tb_lk b 30 83 = (1, 9, 0, 0, 0) := by cases b <;> decide +kernel
theorem d30_7 : decode (tb_me 30).1.2.1 7 = .ok (.invokevirtual 177, 3) := by decide +kernel
theorem k30_177 (b : Bool) : tb_lk b 30 177 = (2, 110, 0, 0, 0) := by cases b <;> decide +kernel
theorem d30_10 : decode (tb_me 30).1.2.1 10 = .ok (.ifCond .eq 25, 3) := by decide +kernel
theorem d30_35 : decode (tb_me 30).1.2.1 35 = .ok (.iconst (-1), 1) := by decide +kernel
theorem d30_36 : decode (tb_me 30).1.2.1 36 = .ok (.ireturn, 1) := by decide +kernel
theorem t30 : (tb_me 30).1.2.2.2 = some .int := by decide +kernel
theorem d30_13 : decode (tb_me 30).1.2.1 13 = .ok (.iload_n 1, 1) := by decide +kernel
theorem d30_14 : decode (tb_me 30).1.2.1 14 = .ok (.iconst 1, 1) := by decide +kernel
theorem d30_15 : decode (tb_me 30).1.2.1 15 = .ok (.if_icmp .lt 20, 3) := by decide +kernel
theorem d30_18 : decode (tb_me 30).1.2.1 18 = .ok (.iload_n 1, 1) := by decide +kernel
theorem d30_19 : decode (tb_me 30).1.2.1 19 = .ok (.bipush 10, 2) := by decide +kernel
theorem d30_21 : decode (tb_me 30).1.2.1 21 = .ok (.if_icmp .gt 14, 3) := by decide +kernel
theorem d30_24 : decode (tb_me 30).1.2.1 24 = .ok (.iload_n 2, 1) := by decide +kernel
theorem d30_25 : decode (tb_me 30).1.2.1 25 = .ok (.iconst 1, 1) := by decide +kernel
theorem d30_26 : decode (tb_me 30).1.2.1 26 = .ok (.if_icmp .lt 9, 3) := by decide +kernel
theorem d30_29 : decode (tb_me 30).1.2.1 29 = .ok (.iload_n 2, 1) := by decide +kernel
theorem d30_30 : decode (tb_me 30).1.2.1 30 = .ok (.bipush 20, 2) := by decide +kernel
theorem d30_32 : decode (tb_me 30).1.2.1 32 = .ok (.if_icmp .le 5, 3) := by decide +kernel
theorem d30_37 : decode (tb_me 30).1.2.1 37 = .ok (.iload_n 3, 1) := by decide +kernel
theorem d30_38 : decode (tb_me 30).1.2.1 38 = .ok (.ifCond .lt 20, 3) := by decide +kernel
theorem d30_58 : decode (tb_me 30).1.2.1 58 = .ok (.iconst (-1), 1) := by decide +kernel
theorem d30_59 : decode (tb_me 30).1.2.1 59 = .ok (.ireturn, 1) := by decide +kernel
theorem d30_41 : decode (tb_me 30).1.2.1 41 = .ok (.iload_n 3, 1) := by decide +kernel
theorem d30_42 : decode (tb_me 30).1.2.1 42 = .ok (.bipush 100, 2) := by decide +kernel
theorem d30_44 : decode (tb_me 30).1.2.1 44 = .ok (.if_icmp .gt 14, 3) := by decide +kernel
theorem d30_47 : decode (tb_me 30).1.2.1 47 = .ok (.iload 4, 2) := by decide +kernel
theorem d30_49 : decode (tb_me 30).1.2.1 49 = .ok (.ifCond .lt 9, 3) := by decide +kernel
theorem d30_52 : decode (tb_me 30).1.2.1 52 = .ok (.iload 4, 2) := by decide +kernel
theorem d30_54 : decode (tb_me 30).1.2.1 54 = .ok (.iconst 1, 1) := by decide +kernel
theorem d30_55 : decode (tb_me 30).1.2.1 55 = .ok (.if_icmp .le 5, 3) := by decide +kernel
theorem d30_60 : decode (tb_me 30).1.2.1 60 = .ok (.aload_n 0, 1) := by decide +kernel
theorem d30_61 : decode (tb_me 30).1.2.1 61 = .ok (.getfield 48, 3) := by decide +kernel
theorem k30_48 (b : Bool) : tb_lk b 30 48 = (1, 0, 7, 0, 0) := by cases b <;> decide +kernel
theorem d30_64 : decode (tb_me 30).1.2.1 64 = .ok (.aload_n 0, 1) := by decide +kernel
theorem d30_65 : decode (tb_me 30).1.2.1 65 = .ok (.getfield 61, 3) := by decide +kernel
theorem d30_68 : decode (tb_me 30).1.2.1 68 = .ok (.iload_n 1, 1) := by decide +kernel
theorem d30_69 : decode (tb_me 30).1.2.1 69 = .ok (.iload_n 2, 1) := by decide +kernel
theorem d30_70 : decode (tb_me 30).1.2.1 70 = .ok (.iload_n 3, 1) := by decide +kernel
theorem d30_71 : decode (tb_me 30).1.2.1 71 = .ok (.invokevirtual 297, 3) := by decide +kernel
theorem k30_297 (b : Bool) : tb_lk b 30 297 = (2, 64, 0, 0, 0) := by cases b <;> decide +kernel
theorem m64 : (tb_me 64).2 = ((0, 0), (4, 1)) ∧ (tb_me 64).1.2.2.1 = 7 := by decide +kernel
theorem d30_74 : decode (tb_me 30).1.2.1 74 = .ok (.iload 4, 2) := by decide +kernel
theorem d30_76 : decode (tb_me 30).1.2.1 76 = .ok (.ifCond .ne 13, 3) := by decide +kernel
theorem d30_89 : decode (tb_me 30).1.2.1 89 = .ok (.aload_n 0, 1) := by decide +kernel
theorem d30_90 : decode (tb_me 30).1.2.1 90 = .ok (.getfield 48, 3) := by decide +kernel
theorem d30_93 : decode (tb_me 30).1.2.1 93 = .ok (.getfield 304, 3) := by decide +kernel
theorem k30_304 (b : Bool) : tb_lk b 30 304 = (1, 1, 17, 0, 0) := by cases b <;> decide +kernel
theorem d30_96 : decode (tb_me 30).1.2.1 96 = .ok (.ireturn, 1) := by decide +kernel
theorem d30_79 : decode (tb_me 30).1.2.1 79 = .ok (.aload_n 0, 1) := by decide +kernel
theorem d30_80 : decode (tb_me 30).1.2.1 80 = .ok (.getfield 48, 3) := by decide +kernel
theorem d30_83 : decode (tb_me 30).1.2.1 83 = .ok (.getfield 301, 3) := by decide +kernel
theorem k30_301 (b : Bool) : tb_lk b 30 301 = (1, 1, 16, 0, 0) := by cases b <;> decide +kernel
theorem d30_86 : decode (tb_me 30).1.2.1 86 = .ok (.goto 10, 3) := by decide +kernel
theorem e30 : (tb_me 30).2.1 = (0, 0) ∧ (tb_me 30).1.2.2.1 = 5 := by decide +kernel
theorem d31_0 : decode (tb_me 31).1.2.1 0 = .ok (.aload_n 0, 1) := by decide +kernel
theorem d31_1 : decode (tb_me 31).1.2.1 1 = .ok (.getfield 61, 3) := by decide +kernel
theorem k31_61 (b : Bool) : tb_lk b 31 61 = (1, 0, 4, 0, 0) := by cases b <;> decide +kernel
theorem d31_4 : decode (tb_me 31).1.2.1 4 = .ok (.getfield 87, 3) := by decide +kernel
theorem k31_87 (b : Bool) : tb_lk b 31 87 = (1, 9, 1, 0, 0) := by cases b <;> decide +kernel
theorem d31_7 : decode (tb_me 31).1.2.1 7 = .ok (.astore_n 2, 1) := by decide +kernel
theorem d31_8 : decode (tb_me 31).1.2.1 8 = .ok (.iload_n 1, 1) := by decide +kernel
theorem d31_9 : decode (tb_me 31).1.2.1 9 = .ok (.tableswitch 193 0 14 #[75, 86, 97, 108, 119, 124, 129, 134, 139, 151, 156, 161, 169, 177, 185], 75) := by decide +kernel
theorem d31_84 : decode (tb_me 31).1.2.1 84 = .ok (.aload_n 0, 1) := by decide +kernel
theorem d31_85 : decode (tb_me 31).1.2.1 85 = .ok (.getfield 61, 3) := by decide +kernel
theorem d31_88 : decode (tb_me 31).1.2.1 88 = .ok (.getfield 83, 3) := by decide +kernel
theorem k31_83 (b : Bool) : tb_lk b 31 83 = (1, 9, 0, 0, 0) := by cases b <;> decide +kernel
theorem d31_91 : decode (tb_me 31).1.2.1 91 = .ok (.getfield 307, 3) := by decide +kernel
theorem k31_307 (b : Bool) : tb_lk b 31 307 = (1, 7, 0, 0, 0) := by cases b <;> decide +kernel
theorem d31_94 : decode (tb_me 31).1.2.1 94 = .ok (.ireturn, 1) := by decide +kernel
theorem t31 : (tb_me 31).1.2.2.2 = some .int := by decide +kernel
theorem d31_95 : decode (tb_me 31).1.2.1 95 = .ok (.aload_n 0, 1) := by decide +kernel
theorem d31_96 : decode (tb_me 31).1.2.1 96 = .ok (.getfield 61, 3) := by decide +kernel
theorem d31_99 : decode (tb_me 31).1.2.1 99 = .ok (.getfield 83, 3) := by decide +kernel
theorem d31_102 : decode (tb_me 31).1.2.1 102 = .ok (.getfield 91, 3) := by decide +kernel
theorem k31_91 (b : Bool) : tb_lk b 31 91 = (1, 7, 1, 0, 0) := by cases b <;> decide +kernel
theorem d31_105 : decode (tb_me 31).1.2.1 105 = .ok (.ireturn, 1) := by decide +kernel
theorem d31_106 : decode (tb_me 31).1.2.1 106 = .ok (.aload_n 0, 1) := by decide +kernel
theorem d31_107 : decode (tb_me 31).1.2.1 107 = .ok (.getfield 61, 3) := by decide +kernel
theorem d31_110 : decode (tb_me 31).1.2.1 110 = .ok (.getfield 83, 3) := by decide +kernel
theorem d31_113 : decode (tb_me 31).1.2.1 113 = .ok (.getfield 285, 3) := by decide +kernel
theorem k31_285 (b : Bool) : tb_lk b 31 285 = (1, 7, 2, 0, 0) := by cases b <;> decide +kernel
theorem d31_116 : decode (tb_me 31).1.2.1 116 = .ok (.ireturn, 1) := by decide +kernel
theorem d31_117 : decode (tb_me 31).1.2.1 117 = .ok (.aload_n 0, 1) := by decide +kernel
theorem d31_118 : decode (tb_me 31).1.2.1 118 = .ok (.getfield 61, 3) := by decide +kernel
theorem d31_121 : decode (tb_me 31).1.2.1 121 = .ok (.getfield 83, 3) := by decide +kernel
theorem d31_124 : decode (tb_me 31).1.2.1 124 = .ok (.getfield 310, 3) := by decide +kernel
theorem k31_310 (b : Bool) : tb_lk b 31 310 = (1, 7, 3, 0, 0) := by cases b <;> decide +kernel
theorem d31_127 : decode (tb_me 31).1.2.1 127 = .ok (.ireturn, 1) := by decide +kernel
theorem d31_128 : decode (tb_me 31).1.2.1 128 = .ok (.aload_n 0, 1) := by decide +kernel
theorem d31_129 : decode (tb_me 31).1.2.1 129 = .ok (.getfield 22, 3) := by decide +kernel
theorem k31_22 (b : Bool) : tb_lk b 31 22 = (1, 0, 2, 0, 0) := by cases b <;> decide +kernel
theorem d31_132 : decode (tb_me 31).1.2.1 132 = .ok (.ireturn, 1) := by decide +kernel
theorem d31_133 : decode (tb_me 31).1.2.1 133 = .ok (.aload_n 2, 1) := by decide +kernel
theorem d31_134 : decode (tb_me 31).1.2.1 134 = .ok (.getfield 181, 3) := by decide +kernel
theorem k31_181 (b : Bool) : tb_lk b 31 181 = (1, 3, 2, 0, 0) := by cases b <;> decide +kernel
theorem d31_137 : decode (tb_me 31).1.2.1 137 = .ok (.ireturn, 1) := by decide +kernel
theorem d31_138 : decode (tb_me 31).1.2.1 138 = .ok (.aload_n 2, 1) := by decide +kernel
theorem d31_139 : decode (tb_me 31).1.2.1 139 = .ok (.getfield 206, 3) := by decide +kernel
theorem k31_206 (b : Bool) : tb_lk b 31 206 = (1, 3, 3, 0, 0) := by cases b <;> decide +kernel
theorem d31_142 : decode (tb_me 31).1.2.1 142 = .ok (.ireturn, 1) := by decide +kernel
theorem d31_143 : decode (tb_me 31).1.2.1 143 = .ok (.aload_n 2, 1) := by decide +kernel
theorem d31_144 : decode (tb_me 31).1.2.1 144 = .ok (.getfield 119, 3) := by decide +kernel
theorem k31_119 (b : Bool) : tb_lk b 31 119 = (1, 3, 0, 0, 0) := by cases b <;> decide +kernel
theorem d31_147 : decode (tb_me 31).1.2.1 147 = .ok (.ireturn, 1) := by decide +kernel
theorem d31_148 : decode (tb_me 31).1.2.1 148 = .ok (.aload_n 2, 1) := by decide +kernel
theorem d31_149 : decode (tb_me 31).1.2.1 149 = .ok (.aload_n 0, 1) := by decide +kernel
theorem d31_150 : decode (tb_me 31).1.2.1 150 = .ok (.getfield 61, 3) := by decide +kernel
theorem d31_153 : decode (tb_me 31).1.2.1 153 = .ok (.getfield 83, 3) := by decide +kernel
theorem d31_156 : decode (tb_me 31).1.2.1 156 = .ok (.invokevirtual 135, 3) := by decide +kernel
theorem k31_135 (b : Bool) : tb_lk b 31 135 = (2, 81, 0, 0, 0) := by cases b <;> decide +kernel
theorem d31_159 : decode (tb_me 31).1.2.1 159 = .ok (.ireturn, 1) := by decide +kernel
theorem d31_160 : decode (tb_me 31).1.2.1 160 = .ok (.aload_n 2, 1) := by decide +kernel
theorem d31_161 : decode (tb_me 31).1.2.1 161 = .ok (.getfield 129, 3) := by decide +kernel
theorem k31_129 (b : Bool) : tb_lk b 31 129 = (1, 3, 1, 0, 0) := by cases b <;> decide +kernel
theorem d31_164 : decode (tb_me 31).1.2.1 164 = .ok (.ireturn, 1) := by decide +kernel
theorem d31_165 : decode (tb_me 31).1.2.1 165 = .ok (.aload_n 2, 1) := by decide +kernel
theorem d31_166 : decode (tb_me 31).1.2.1 166 = .ok (.getfield 203, 3) := by decide +kernel
theorem k31_203 (b : Bool) : tb_lk b 31 203 = (1, 3, 4, 0, 0) := by cases b <;> decide +kernel
theorem d31_169 : decode (tb_me 31).1.2.1 169 = .ok (.ireturn, 1) := by decide +kernel
theorem d31_170 : decode (tb_me 31).1.2.1 170 = .ok (.aload_n 0, 1) := by decide +kernel
theorem d31_171 : decode (tb_me 31).1.2.1 171 = .ok (.getfield 61, 3) := by decide +kernel
theorem d31_174 : decode (tb_me 31).1.2.1 174 = .ok (.getfield 99, 3) := by decide +kernel
theorem k31_99 (b : Bool) : tb_lk b 31 99 = (1, 9, 2, 0, 0) := by cases b <;> decide +kernel
theorem d31_177 : decode (tb_me 31).1.2.1 177 = .ok (.ireturn, 1) := by decide +kernel
theorem d31_178 : decode (tb_me 31).1.2.1 178 = .ok (.aload_n 0, 1) := by decide +kernel
theorem d31_179 : decode (tb_me 31).1.2.1 179 = .ok (.getfield 41, 3) := by decide +kernel
theorem k31_41 (b : Bool) : tb_lk b 31 41 = (1, 0, 6, 0, 0) := by cases b <;> decide +kernel
theorem d31_182 : decode (tb_me 31).1.2.1 182 = .ok (.getfield 213, 3) := by decide +kernel
theorem k31_213 (b : Bool) : tb_lk b 31 213 = (1, 4, 2, 0, 0) := by cases b <;> decide +kernel
theorem d31_185 : decode (tb_me 31).1.2.1 185 = .ok (.ireturn, 1) := by decide +kernel
theorem d31_186 : decode (tb_me 31).1.2.1 186 = .ok (.aload_n 0, 1) := by decide +kernel
theorem d31_187 : decode (tb_me 31).1.2.1 187 = .ok (.getfield 61, 3) := by decide +kernel
theorem d31_190 : decode (tb_me 31).1.2.1 190 = .ok (.getfield 294, 3) := by decide +kernel
theorem k31_294 (b : Bool) : tb_lk b 31 294 = (1, 9, 5, 0, 0) := by cases b <;> decide +kernel
theorem d31_193 : decode (tb_me 31).1.2.1 193 = .ok (.ireturn, 1) := by decide +kernel
theorem d31_194 : decode (tb_me 31).1.2.1 194 = .ok (.aload_n 0, 1) := by decide +kernel
theorem d31_195 : decode (tb_me 31).1.2.1 195 = .ok (.getfield 10, 3) := by decide +kernel
theorem k31_10 (b : Bool) : tb_lk b 31 10 = (1, 0, 0, 0, 0) := by cases b <;> decide +kernel
theorem d31_198 : decode (tb_me 31).1.2.1 198 = .ok (.getfield 65, 3) := by decide +kernel
theorem k31_65 (b : Bool) : tb_lk b 31 65 = (1, 8, 1, 0, 0) := by cases b <;> decide +kernel
theorem d31_201 : decode (tb_me 31).1.2.1 201 = .ok (.ireturn, 1) := by decide +kernel
theorem d31_202 : decode (tb_me 31).1.2.1 202 = .ok (.iconst (-1), 1) := by decide +kernel
theorem d31_203 : decode (tb_me 31).1.2.1 203 = .ok (.ireturn, 1) := by decide +kernel
theorem e31 : (tb_me 31).2.1 = (0, 0) ∧ (tb_me 31).1.2.2.1 = 3 := by decide +kernel
theorem d32_0 : decode (tb_me 32).1.2.1 0 = .ok (.iload_n 1, 1) := by decide +kernel
theorem d32_1 : decode (tb_me 32).1.2.1 1 = .ok (.ifCond .lt 12, 3) := by decide +kernel
theorem d32_13 : decode (tb_me 32).1.2.1 13 = .ok (.iconst (-1), 1) := by decide +kernel
theorem d32_14 : decode (tb_me 32).1.2.1 14 = .ok (.ireturn, 1) := by decide +kernel
theorem t32 : (tb_me 32).1.2.2.2 = some .int := by decide +kernel
theorem d32_4 : decode (tb_me 32).1.2.1 4 = .ok (.iload_n 1, 1) := by decide +kernel
theorem d32_5 : decode (tb_me 32).1.2.1 5 = .ok (.aload_n 0, 1) := by decide +kernel
theorem d32_6 : decode (tb_me 32).1.2.1 6 = .ok (.getfield 34, 3) := by decide +kernel
theorem k32_34 (b : Bool) : tb_lk b 32 34 = (1, 0, 5, 0, 0) := by cases b <;> decide +kernel
theorem f0_5 : (5 < pm_nf tb_cl 0) ∧ tb_ft 0 5 ≠ .long ∧ pm_isR (tb_ft 0 5) = true := by decide +kernel
theorem d32_9 : decode (tb_me 32).1.2.1 9 = .ok (.arraylength, 1) := by decide +kernel
theorem d32_10 : decode (tb_me 32).1.2.1 10 = .ok (.if_icmp .lt 5, 3) := by decide +kernel
theorem d32_15 : decode (tb_me 32).1.2.1 15 = .ok (.aload_n 0, 1) := by decide +kernel
theorem d32_16 : decode (tb_me 32).1.2.1 16 = .ok (.getfield 34, 3) := by decide +kernel
theorem d32_19 : decode (tb_me 32).1.2.1 19 = .ok (.iload_n 1, 1) := by decide +kernel
theorem d32_20 : decode (tb_me 32).1.2.1 20 = .ok (.aaload, 1) := by decide +kernel
theorem d32_21 : decode (tb_me 32).1.2.1 21 = .ok (.aload_n 0, 1) := by decide +kernel
theorem d32_22 : decode (tb_me 32).1.2.1 22 = .ok (.getfield 61, 3) := by decide +kernel
theorem k32_61 (b : Bool) : tb_lk b 32 61 = (1, 0, 4, 0, 0) := by cases b <;> decide +kernel
theorem d32_25 : decode (tb_me 32).1.2.1 25 = .ok (.invokevirtual 313, 3) := by decide +kernel
theorem k32_313 (b : Bool) : tb_lk b 32 313 = (2, 144, 0, 0, 0) := by cases b <;> decide +kernel
theorem m144 : (tb_me 144).2 = ((0, 0), (1, 9)) ∧ (tb_me 144).1.2.2.1 = 2 := by decide +kernel
theorem d32_28 : decode (tb_me 32).1.2.1 28 = .ok (.aload_n 0, 1) := by decide +kernel
theorem d32_29 : decode (tb_me 32).1.2.1 29 = .ok (.getfield 34, 3) := by decide +kernel
theorem d32_32 : decode (tb_me 32).1.2.1 32 = .ok (.iload_n 1, 1) := by decide +kernel
theorem d32_33 : decode (tb_me 32).1.2.1 33 = .ok (.aaload, 1) := by decide +kernel
theorem d32_34 : decode (tb_me 32).1.2.1 34 = .ok (.iconst 1, 1) := by decide +kernel
theorem d32_35 : decode (tb_me 32).1.2.1 35 = .ok (.putfield 316, 3) := by decide +kernel
theorem k32_316 (b : Bool) : tb_lk b 32 316 = (1, 9, 6, 0, 0) := by cases b <;> decide +kernel
theorem p32_9_6 : (6 < pm_nf tb_cl 9) ∧ tb_ft 9 6 = .boolean ∧ pm_fin tb_cl (tb_me 32).1.1 9 6 = true := by decide +kernel
theorem d32_38 : decode (tb_me 32).1.2.1 38 = .ok (.aload_n 0, 1) := by decide +kernel
theorem d32_39 : decode (tb_me 32).1.2.1 39 = .ok (.getfield 61, 3) := by decide +kernel
theorem d32_42 : decode (tb_me 32).1.2.1 42 = .ok (.getfield 87, 3) := by decide +kernel
theorem k32_87 (b : Bool) : tb_lk b 32 87 = (1, 9, 1, 0, 0) := by cases b <;> decide +kernel
theorem d32_45 : decode (tb_me 32).1.2.1 45 = .ok (.getfield 181, 3) := by decide +kernel
theorem k32_181 (b : Bool) : tb_lk b 32 181 = (1, 3, 2, 0, 0) := by cases b <;> decide +kernel
theorem d32_48 : decode (tb_me 32).1.2.1 48 = .ok (.ireturn, 1) := by decide +kernel
theorem e32 : (tb_me 32).2.1 = (0, 0) ∧ (tb_me 32).1.2.2.1 = 2 := by decide +kernel
theorem d33_0 : decode (tb_me 33).1.2.1 0 = .ok (.iload_n 1, 1) := by decide +kernel
theorem d33_1 : decode (tb_me 33).1.2.1 1 = .ok (.ifCond .lt 24, 3) := by decide +kernel
theorem d33_25 : decode (tb_me 33).1.2.1 25 = .ok (.iconst (-1), 1) := by decide +kernel
theorem d33_26 : decode (tb_me 33).1.2.1 26 = .ok (.ireturn, 1) := by decide +kernel
theorem t33 : (tb_me 33).1.2.2.2 = some .int := by decide +kernel
theorem d33_4 : decode (tb_me 33).1.2.1 4 = .ok (.iload_n 1, 1) := by decide +kernel
theorem d33_5 : decode (tb_me 33).1.2.1 5 = .ok (.aload_n 0, 1) := by decide +kernel
theorem d33_6 : decode (tb_me 33).1.2.1 6 = .ok (.getfield 34, 3) := by decide +kernel
theorem k33_34 (b : Bool) : tb_lk b 33 34 = (1, 0, 5, 0, 0) := by cases b <;> decide +kernel
theorem d33_9 : decode (tb_me 33).1.2.1 9 = .ok (.arraylength, 1) := by decide +kernel
theorem d33_10 : decode (tb_me 33).1.2.1 10 = .ok (.if_icmp .ge 15, 3) := by decide +kernel
theorem d33_13 : decode (tb_me 33).1.2.1 13 = .ok (.aload_n 0, 1) := by decide +kernel
theorem d33_14 : decode (tb_me 33).1.2.1 14 = .ok (.getfield 34, 3) := by decide +kernel
theorem d33_17 : decode (tb_me 33).1.2.1 17 = .ok (.iload_n 1, 1) := by decide +kernel
theorem d33_18 : decode (tb_me 33).1.2.1 18 = .ok (.aaload, 1) := by decide +kernel
theorem d33_19 : decode (tb_me 33).1.2.1 19 = .ok (.getfield 316, 3) := by decide +kernel
theorem k33_316 (b : Bool) : tb_lk b 33 316 = (1, 9, 6, 0, 0) := by cases b <;> decide +kernel
theorem f9_6 : (6 < pm_nf tb_cl 9) ∧ tb_ft 9 6 ≠ .long ∧ pm_isR (tb_ft 9 6) = false := by decide +kernel
theorem d33_22 : decode (tb_me 33).1.2.1 22 = .ok (.ifCond .ne 5, 3) := by decide +kernel
theorem d33_27 : decode (tb_me 33).1.2.1 27 = .ok (.aload_n 0, 1) := by decide +kernel
theorem d33_28 : decode (tb_me 33).1.2.1 28 = .ok (.getfield 61, 3) := by decide +kernel
theorem k33_61 (b : Bool) : tb_lk b 33 61 = (1, 0, 4, 0, 0) := by cases b <;> decide +kernel
theorem d33_31 : decode (tb_me 33).1.2.1 31 = .ok (.aload_n 0, 1) := by decide +kernel
theorem d33_32 : decode (tb_me 33).1.2.1 32 = .ok (.getfield 34, 3) := by decide +kernel
theorem d33_35 : decode (tb_me 33).1.2.1 35 = .ok (.iload_n 1, 1) := by decide +kernel
theorem d33_36 : decode (tb_me 33).1.2.1 36 = .ok (.aaload, 1) := by decide +kernel
theorem d33_37 : decode (tb_me 33).1.2.1 37 = .ok (.invokevirtual 313, 3) := by decide +kernel
theorem k33_313 (b : Bool) : tb_lk b 33 313 = (2, 144, 0, 0, 0) := by cases b <;> decide +kernel
theorem d33_40 : decode (tb_me 33).1.2.1 40 = .ok (.aload_n 0, 1) := by decide +kernel
theorem d33_41 : decode (tb_me 33).1.2.1 41 = .ok (.getfield 41, 3) := by decide +kernel
theorem k33_41 (b : Bool) : tb_lk b 33 41 = (1, 0, 6, 0, 0) := by cases b <;> decide +kernel
theorem d33_44 : decode (tb_me 33).1.2.1 44 = .ok (.invokevirtual 102, 3) := by decide +kernel
theorem k33_102 (b : Bool) : tb_lk b 33 102 = (2, 83, 0, 0, 0) := by cases b <;> decide +kernel
theorem m83 : (tb_me 83).2 = ((0, 0), (0, 4)) ∧ (tb_me 83).1.2.2.1 = 1 := by decide +kernel
theorem d33_47 : decode (tb_me 33).1.2.1 47 = .ok (.aload_n 0, 1) := by decide +kernel
theorem d33_48 : decode (tb_me 33).1.2.1 48 = .ok (.getfield 48, 3) := by decide +kernel
theorem k33_48 (b : Bool) : tb_lk b 33 48 = (1, 0, 7, 0, 0) := by cases b <;> decide +kernel
theorem d33_51 : decode (tb_me 33).1.2.1 51 = .ok (.aload_n 0, 1) := by decide +kernel
theorem d33_52 : decode (tb_me 33).1.2.1 52 = .ok (.getfield 61, 3) := by decide +kernel
theorem d33_55 : decode (tb_me 33).1.2.1 55 = .ok (.getfield 83, 3) := by decide +kernel
theorem k33_83 (b : Bool) : tb_lk b 33 83 = (1, 9, 0, 0, 0) := by cases b <;> decide +kernel
theorem d33_58 : decode (tb_me 33).1.2.1 58 = .ok (.invokevirtual 105, 3) := by decide +kernel
theorem k33_105 (b : Bool) : tb_lk b 33 105 = (2, 43, 0, 0, 0) := by cases b <;> decide +kernel
theorem m43 : (tb_me 43).2 = ((0, 0), (1, 1)) ∧ (tb_me 43).1.2.2.1 = 2 := by decide +kernel
theorem d33_61 : decode (tb_me 33).1.2.1 61 = .ok (.aload_n 0, 1) := by decide +kernel
theorem d33_62 : decode (tb_me 33).1.2.1 62 = .ok (.getfield 61, 3) := by decide +kernel
theorem d33_65 : decode (tb_me 33).1.2.1 65 = .ok (.getfield 87, 3) := by decide +kernel
theorem k33_87 (b : Bool) : tb_lk b 33 87 = (1, 9, 1, 0, 0) := by cases b <;> decide +kernel
theorem d33_68 : decode (tb_me 33).1.2.1 68 = .ok (.getfield 181, 3) := by decide +kernel
theorem k33_181 (b : Bool) : tb_lk b 33 181 = (1, 3, 2, 0, 0) := by cases b <;> decide +kernel
theorem d33_71 : decode (tb_me 33).1.2.1 71 = .ok (.ireturn, 1) := by decide +kernel
theorem e33 : (tb_me 33).2.1 = (0, 0) ∧ (tb_me 33).1.2.2.1 = 2 := by decide +kernel
theorem d35_0 : decode (tb_me 35).1.2.1 0 = .ok (.aload_n 0, 1) := by decide +kernel
theorem d35_1 : decode (tb_me 35).1.2.1 1 = .ok (.getfield 61, 3) := by decide +kernel
theorem k35_61 (b : Bool) : tb_lk b 35 61 = (1, 0, 4, 0, 0) := by cases b <;> decide +kernel
theorem d35_4 : decode (tb_me 35).1.2.1 4 = .ok (.getfield 83, 3) := by decide +kernel
theorem k35_83 (b : Bool) : tb_lk b 35 83 = (1, 9, 0, 0, 0) := by cases b <;> decide +kernel
theorem d35_7 : decode (tb_me 35).1.2.1 7 = .ok (.iload_n 1, 1) := by decide +kernel
theorem d35_8 : decode (tb_me 35).1.2.1 8 = .ok (.invokevirtual 109, 3) := by decide +kernel
theorem k35_109 (b : Bool) : tb_lk b 35 109 = (2, 112, 0, 0, 0) := by cases b <;> decide +kernel
theorem d35_11 : decode (tb_me 35).1.2.1 11 = .ok (.ifCond .eq 24, 3) := by decide +kernel
theorem d35_35 : decode (tb_me 35).1.2.1 35 = .ok (.iconst 0, 1) := by decide +kernel
theorem d35_36 : decode (tb_me 35).1.2.1 36 = .ok (.ireturn, 1) := by decide +kernel
theorem t35 : (tb_me 35).1.2.2.2 = some .boolean := by decide +kernel
theorem d35_14 : decode (tb_me 35).1.2.1 14 = .ok (.aload_n 0, 1) := by decide +kernel
theorem d35_15 : decode (tb_me 35).1.2.1 15 = .ok (.getfield 61, 3) := by decide +kernel
theorem d35_18 : decode (tb_me 35).1.2.1 18 = .ok (.getfield 87, 3) := by decide +kernel
theorem k35_87 (b : Bool) : tb_lk b 35 87 = (1, 9, 1, 0, 0) := by cases b <;> decide +kernel
theorem d35_21 : decode (tb_me 35).1.2.1 21 = .ok (.getfield 129, 3) := by decide +kernel
theorem k35_129 (b : Bool) : tb_lk b 35 129 = (1, 3, 1, 0, 0) := by cases b <;> decide +kernel
theorem d35_24 : decode (tb_me 35).1.2.1 24 = .ok (.iload_n 1, 1) := by decide +kernel
theorem d35_25 : decode (tb_me 35).1.2.1 25 = .ok (.invokestatic 122, 3) := by decide +kernel
theorem k35_122 (b : Bool) : tb_lk b 35 122 = (4, 34, 0, 0, 0) := by cases b <;> decide +kernel
theorem d35_28 : decode (tb_me 35).1.2.1 28 = .ok (.ifCond .ne 7, 3) := by decide +kernel
theorem d35_31 : decode (tb_me 35).1.2.1 31 = .ok (.iconst 1, 1) := by decide +kernel
theorem d35_32 : decode (tb_me 35).1.2.1 32 = .ok (.goto 4, 3) := by decide +kernel
theorem e35 : (tb_me 35).2.1 = (0, 0) ∧ (tb_me 35).1.2.2.1 = 2 := by decide +kernel
theorem d37_62 : decode (tb_me 37).1.2.1 62 = .ok (.istore_n 2, 1) := by decide +kernel
theorem d37_63 : decode (tb_me 37).1.2.1 63 = .ok (.iinc 3 1, 3) := by decide +kernel
theorem d37_66 : decode (tb_me 37).1.2.1 66 = .ok (.goto (-47), 3) := by decide +kernel
theorem d37_57 : decode (tb_me 37).1.2.1 57 = .ok (.iconst 1, 1) := by decide +kernel
theorem d37_58 : decode (tb_me 37).1.2.1 58 = .ok (.goto 4, 3) := by decide +kernel
theorem d37_19 : decode (tb_me 37).1.2.1 19 = .ok (.iload_n 3, 1) := by decide +kernel
theorem d37_20 : decode (tb_me 37).1.2.1 20 = .ok (.aload_n 0, 1) := by decide +kernel
theorem d37_21 : decode (tb_me 37).1.2.1 21 = .ok (.getfield 34, 3) := by decide +kernel
theorem k37_34 (b : Bool) : tb_lk b 37 34 = (1, 0, 5, 0, 0) := by cases b <;> decide +kernel
theorem d37_24 : decode (tb_me 37).1.2.1 24 = .ok (.arraylength, 1) := by decide +kernel
theorem d37_25 : decode (tb_me 37).1.2.1 25 = .ok (.if_icmp .ge 44, 3) := by decide +kernel
theorem d37_28 : decode (tb_me 37).1.2.1 28 = .ok (.iload_n 2, 1) := by decide +kernel
theorem d37_29 : decode (tb_me 37).1.2.1 29 = .ok (.ifCond .ne 28, 3) := by decide +kernel
theorem d37_32 : decode (tb_me 37).1.2.1 32 = .ok (.aload_n 0, 1) := by decide +kernel
theorem d37_33 : decode (tb_me 37).1.2.1 33 = .ok (.getfield 34, 3) := by decide +kernel
theorem d37_36 : decode (tb_me 37).1.2.1 36 = .ok (.iload_n 3, 1) := by decide +kernel
theorem d37_37 : decode (tb_me 37).1.2.1 37 = .ok (.aaload, 1) := by decide +kernel
theorem d37_38 : decode (tb_me 37).1.2.1 38 = .ok (.getfield 316, 3) := by decide +kernel
theorem k37_316 (b : Bool) : tb_lk b 37 316 = (1, 9, 6, 0, 0) := by cases b <;> decide +kernel
theorem d37_41 : decode (tb_me 37).1.2.1 41 = .ok (.ifCond .eq 20, 3) := by decide +kernel
theorem d37_61 : decode (tb_me 37).1.2.1 61 = .ok (.iconst 0, 1) := by decide +kernel
theorem d37_44 : decode (tb_me 37).1.2.1 44 = .ok (.aload_n 0, 1) := by decide +kernel
theorem d37_45 : decode (tb_me 37).1.2.1 45 = .ok (.getfield 34, 3) := by decide +kernel
theorem d37_48 : decode (tb_me 37).1.2.1 48 = .ok (.iload_n 3, 1) := by decide +kernel
theorem d37_49 : decode (tb_me 37).1.2.1 49 = .ok (.aaload, 1) := by decide +kernel
theorem d37_50 : decode (tb_me 37).1.2.1 50 = .ok (.getfield 83, 3) := by decide +kernel
theorem k37_83 (b : Bool) : tb_lk b 37 83 = (1, 9, 0, 0, 0) := by cases b <;> decide +kernel
theorem d37_53 : decode (tb_me 37).1.2.1 53 = .ok (.aload_n 1, 1) := by decide +kernel
theorem d37_54 : decode (tb_me 37).1.2.1 54 = .ok (.if_acmp .ne 7, 3) := by decide +kernel
theorem d37_16 : decode (tb_me 37).1.2.1 16 = .ok (.istore_n 2, 1) := by decide +kernel
theorem d37_17 : decode (tb_me 37).1.2.1 17 = .ok (.iconst 0, 1) := by decide +kernel
theorem d37_18 : decode (tb_me 37).1.2.1 18 = .ok (.istore_n 3, 1) := by decide +kernel
theorem d37_69 : decode (tb_me 37).1.2.1 69 = .ok (.iload_n 2, 1) := by decide +kernel
theorem d37_70 : decode (tb_me 37).1.2.1 70 = .ok (.ireturn, 1) := by decide +kernel
theorem t37 : (tb_me 37).1.2.2.2 = some .boolean := by decide +kernel
theorem d37_0 : decode (tb_me 37).1.2.1 0 = .ok (.aload_n 0, 1) := by decide +kernel
theorem d37_1 : decode (tb_me 37).1.2.1 1 = .ok (.getfield 61, 3) := by decide +kernel
theorem k37_61 (b : Bool) : tb_lk b 37 61 = (1, 0, 4, 0, 0) := by cases b <;> decide +kernel
theorem d37_4 : decode (tb_me 37).1.2.1 4 = .ok (.getfield 83, 3) := by decide +kernel
theorem d37_7 : decode (tb_me 37).1.2.1 7 = .ok (.aload_n 1, 1) := by decide +kernel
theorem d37_8 : decode (tb_me 37).1.2.1 8 = .ok (.if_acmp .ne 7, 3) := by decide +kernel
theorem d37_15 : decode (tb_me 37).1.2.1 15 = .ok (.iconst 0, 1) := by decide +kernel
theorem d37_11 : decode (tb_me 37).1.2.1 11 = .ok (.iconst 1, 1) := by decide +kernel
theorem d37_12 : decode (tb_me 37).1.2.1 12 = .ok (.goto 4, 3) := by decide +kernel
theorem e37 : (tb_me 37).2.1 = (0, 0) ∧ (tb_me 37).1.2.2.1 = 4 := by decide +kernel
theorem d38_23 : decode (tb_me 38).1.2.1 23 = .ok (.iload 4, 2) := by decide +kernel
theorem d38_25 : decode (tb_me 38).1.2.1 25 = .ok (.ifCond .lt 25, 3) := by decide +kernel
theorem d38_28 : decode (tb_me 38).1.2.1 28 = .ok (.aload_n 0, 1) := by decide +kernel
theorem d38_29 : decode (tb_me 38).1.2.1 29 = .ok (.getfield 52, 3) := by decide +kernel
theorem k38_52 (b : Bool) : tb_lk b 38 52 = (1, 0, 8, 0, 0) := by cases b <;> decide +kernel
theorem f0_8 : (8 < pm_nf tb_cl 0) ∧ tb_ft 0 8 ≠ .long ∧ pm_isR (tb_ft 0 8) = true := by decide +kernel
theorem d38_32 : decode (tb_me 38).1.2.1 32 = .ok (.iload 4, 2) := by decide +kernel
theorem d38_34 : decode (tb_me 38).1.2.1 34 = .ok (.iload_n 3, 1) := by decide +kernel
theorem d38_35 : decode (tb_me 38).1.2.1 35 = .ok (.bipush 10, 2) := by decide +kernel
theorem d38_37 : decode (tb_me 38).1.2.1 37 = .ok (.irem, 1) := by decide +kernel
theorem d38_38 : decode (tb_me 38).1.2.1 38 = .ok (.iastore, 1) := by decide +kernel
theorem d38_39 : decode (tb_me 38).1.2.1 39 = .ok (.iload_n 3, 1) := by decide +kernel
theorem d38_40 : decode (tb_me 38).1.2.1 40 = .ok (.bipush 10, 2) := by decide +kernel
theorem d38_42 : decode (tb_me 38).1.2.1 42 = .ok (.idiv, 1) := by decide +kernel
theorem d38_43 : decode (tb_me 38).1.2.1 43 = .ok (.istore_n 3, 1) := by decide +kernel
theorem d38_44 : decode (tb_me 38).1.2.1 44 = .ok (.iinc 4 (-1), 3) := by decide +kernel
theorem d38_47 : decode (tb_me 38).1.2.1 47 = .ok (.goto (-24), 3) := by decide +kernel
theorem d38_0 : decode (tb_me 38).1.2.1 0 = .ok (.iload_n 1, 1) := by decide +kernel
theorem d38_1 : decode (tb_me 38).1.2.1 1 = .ok (.ifCond .lt 13, 3) := by decide +kernel
theorem d38_14 : decode (tb_me 38).1.2.1 14 = .ok (.iconst 0, 1) := by decide +kernel
theorem d38_15 : decode (tb_me 38).1.2.1 15 = .ok (.ireturn, 1) := by decide +kernel
theorem t38 : (tb_me 38).1.2.2.2 = some .boolean := by decide +kernel
theorem d38_4 : decode (tb_me 38).1.2.1 4 = .ok (.iload_n 2, 1) := by decide +kernel
theorem d38_5 : decode (tb_me 38).1.2.1 5 = .ok (.iconst 1, 1) := by decide +kernel
theorem d38_6 : decode (tb_me 38).1.2.1 6 = .ok (.if_icmp .lt 8, 3) := by decide +kernel
theorem d38_9 : decode (tb_me 38).1.2.1 9 = .ok (.iload_n 2, 1) := by decide +kernel
theorem d38_10 : decode (tb_me 38).1.2.1 10 = .ok (.iconst 5, 1) := by decide +kernel
theorem d38_11 : decode (tb_me 38).1.2.1 11 = .ok (.if_icmp .le 5, 3) := by decide +kernel
theorem d38_16 : decode (tb_me 38).1.2.1 16 = .ok (.iload_n 1, 1) := by decide +kernel
theorem d38_17 : decode (tb_me 38).1.2.1 17 = .ok (.istore_n 3, 1) := by decide +kernel
theorem d38_18 : decode (tb_me 38).1.2.1 18 = .ok (.iload_n 2, 1) := by decide +kernel
theorem d38_19 : decode (tb_me 38).1.2.1 19 = .ok (.iconst 1, 1) := by decide +kernel
theorem d38_20 : decode (tb_me 38).1.2.1 20 = .ok (.isub, 1) := by decide +kernel
theorem d38_21 : decode (tb_me 38).1.2.1 21 = .ok (.istore 4, 2) := by decide +kernel
theorem d38_50 : decode (tb_me 38).1.2.1 50 = .ok (.iload_n 3, 1) := by decide +kernel
theorem d38_51 : decode (tb_me 38).1.2.1 51 = .ok (.ifCond .ne 7, 3) := by decide +kernel
theorem d38_58 : decode (tb_me 38).1.2.1 58 = .ok (.iconst 0, 1) := by decide +kernel
theorem d38_59 : decode (tb_me 38).1.2.1 59 = .ok (.ireturn, 1) := by decide +kernel
theorem d38_54 : decode (tb_me 38).1.2.1 54 = .ok (.iconst 1, 1) := by decide +kernel
theorem d38_55 : decode (tb_me 38).1.2.1 55 = .ok (.goto 4, 3) := by decide +kernel
theorem e38 : (tb_me 38).2.1 = (0, 0) ∧ (tb_me 38).1.2.2.1 = 5 := by decide +kernel
theorem d39_72 : decode (tb_me 39).1.2.1 72 = .ok (.istore 5, 2) := by decide +kernel
theorem d39_74 : decode (tb_me 39).1.2.1 74 = .ok (.iload 5, 2) := by decide +kernel
theorem d39_76 : decode (tb_me 39).1.2.1 76 = .ok (.ifCond .eq 18, 3) := by decide +kernel
theorem d39_79 : decode (tb_me 39).1.2.1 79 = .ok (.iload_n 3, 1) := by decide +kernel
theorem d39_80 : decode (tb_me 39).1.2.1 80 = .ok (.aload_n 0, 1) := by decide +kernel
theorem d39_81 : decode (tb_me 39).1.2.1 81 = .ok (.getfield 52, 3) := by decide +kernel
theorem k39_52 (b : Bool) : tb_lk b 39 52 = (1, 0, 8, 0, 0) := by cases b <;> decide +kernel
theorem d39_84 : decode (tb_me 39).1.2.1 84 = .ok (.iload 4, 2) := by decide +kernel
theorem d39_86 : decode (tb_me 39).1.2.1 86 = .ok (.iaload, 1) := by decide +kernel
theorem d39_87 : decode (tb_me 39).1.2.1 87 = .ok (.invokestatic 122, 3) := by decide +kernel
theorem k39_122 (b : Bool) : tb_lk b 39 122 = (4, 34, 0, 0, 0) := by cases b <;> decide +kernel
theorem d39_90 : decode (tb_me 39).1.2.1 90 = .ok (.iconst 1, 1) := by decide +kernel
theorem d39_91 : decode (tb_me 39).1.2.1 91 = .ok (.if_icmp .ne 5, 3) := by decide +kernel
theorem d39_96 : decode (tb_me 39).1.2.1 96 = .ok (.iload_n 3, 1) := by decide +kernel
theorem d39_97 : decode (tb_me 39).1.2.1 97 = .ok (.iconst 1, 1) := by decide +kernel
theorem d39_98 : decode (tb_me 39).1.2.1 98 = .ok (.aload_n 0, 1) := by decide +kernel
theorem d39_99 : decode (tb_me 39).1.2.1 99 = .ok (.getfield 52, 3) := by decide +kernel
theorem d39_102 : decode (tb_me 39).1.2.1 102 = .ok (.iload 4, 2) := by decide +kernel
theorem d39_104 : decode (tb_me 39).1.2.1 104 = .ok (.iaload, 1) := by decide +kernel
theorem d39_105 : decode (tb_me 39).1.2.1 105 = .ok (.ishl, 1) := by decide +kernel
theorem d39_106 : decode (tb_me 39).1.2.1 106 = .ok (.ior, 1) := by decide +kernel
theorem d39_107 : decode (tb_me 39).1.2.1 107 = .ok (.istore_n 3, 1) := by decide +kernel
theorem d39_108 : decode (tb_me 39).1.2.1 108 = .ok (.iinc 4 1, 3) := by decide +kernel
theorem d39_111 : decode (tb_me 39).1.2.1 111 = .ok (.goto (-95), 3) := by decide +kernel
theorem d39_67 : decode (tb_me 39).1.2.1 67 = .ok (.iconst 1, 1) := by decide +kernel
theorem d39_68 : decode (tb_me 39).1.2.1 68 = .ok (.goto 4, 3) := by decide +kernel
theorem d39_16 : decode (tb_me 39).1.2.1 16 = .ok (.iload 4, 2) := by decide +kernel
theorem d39_18 : decode (tb_me 39).1.2.1 18 = .ok (.iload_n 2, 1) := by decide +kernel
theorem d39_19 : decode (tb_me 39).1.2.1 19 = .ok (.if_icmp .ge 95, 3) := by decide +kernel
theorem d39_22 : decode (tb_me 39).1.2.1 22 = .ok (.aload_n 0, 1) := by decide +kernel
theorem d39_23 : decode (tb_me 39).1.2.1 23 = .ok (.getfield 61, 3) := by decide +kernel
theorem k39_61 (b : Bool) : tb_lk b 39 61 = (1, 0, 4, 0, 0) := by cases b <;> decide +kernel
theorem d39_26 : decode (tb_me 39).1.2.1 26 = .ok (.getfield 83, 3) := by decide +kernel
theorem k39_83 (b : Bool) : tb_lk b 39 83 = (1, 9, 0, 0, 0) := by cases b <;> decide +kernel
theorem d39_29 : decode (tb_me 39).1.2.1 29 = .ok (.aload_n 0, 1) := by decide +kernel
theorem d39_30 : decode (tb_me 39).1.2.1 30 = .ok (.getfield 52, 3) := by decide +kernel
theorem d39_33 : decode (tb_me 39).1.2.1 33 = .ok (.iload 4, 2) := by decide +kernel
theorem d39_35 : decode (tb_me 39).1.2.1 35 = .ok (.iaload, 1) := by decide +kernel
theorem d39_36 : decode (tb_me 39).1.2.1 36 = .ok (.invokevirtual 109, 3) := by decide +kernel
theorem k39_109 (b : Bool) : tb_lk b 39 109 = (2, 112, 0, 0, 0) := by cases b <;> decide +kernel
theorem d39_39 : decode (tb_me 39).1.2.1 39 = .ok (.ifCond .ne 28, 3) := by decide +kernel
theorem d39_42 : decode (tb_me 39).1.2.1 42 = .ok (.aload_n 0, 1) := by decide +kernel
theorem d39_43 : decode (tb_me 39).1.2.1 43 = .ok (.getfield 52, 3) := by decide +kernel
theorem d39_46 : decode (tb_me 39).1.2.1 46 = .ok (.iload 4, 2) := by decide +kernel
theorem d39_48 : decode (tb_me 39).1.2.1 48 = .ok (.iaload, 1) := by decide +kernel
theorem d39_49 : decode (tb_me 39).1.2.1 49 = .ok (.bipush 8, 2) := by decide +kernel
theorem d39_51 : decode (tb_me 39).1.2.1 51 = .ok (.if_icmp .ne 20, 3) := by decide +kernel
theorem d39_71 : decode (tb_me 39).1.2.1 71 = .ok (.iconst 0, 1) := by decide +kernel
theorem d39_54 : decode (tb_me 39).1.2.1 54 = .ok (.aload_n 0, 1) := by decide +kernel
theorem d39_55 : decode (tb_me 39).1.2.1 55 = .ok (.getfield 61, 3) := by decide +kernel
theorem d39_58 : decode (tb_me 39).1.2.1 58 = .ok (.getfield 87, 3) := by decide +kernel
theorem k39_87 (b : Bool) : tb_lk b 39 87 = (1, 9, 1, 0, 0) := by cases b <;> decide +kernel
theorem d39_61 : decode (tb_me 39).1.2.1 61 = .ok (.getfield 203, 3) := by decide +kernel
theorem k39_203 (b : Bool) : tb_lk b 39 203 = (1, 3, 4, 0, 0) := by cases b <;> decide +kernel
theorem d39_64 : decode (tb_me 39).1.2.1 64 = .ok (.ifCond .lt 7, 3) := by decide +kernel
theorem d39_0 : decode (tb_me 39).1.2.1 0 = .ok (.aload_n 0, 1) := by decide +kernel
theorem d39_1 : decode (tb_me 39).1.2.1 1 = .ok (.iload_n 1, 1) := by decide +kernel
theorem d39_2 : decode (tb_me 39).1.2.1 2 = .ok (.iload_n 2, 1) := by decide +kernel
theorem d39_3 : decode (tb_me 39).1.2.1 3 = .ok (.invokevirtual 156, 3) := by decide +kernel
theorem k39_156 (b : Bool) : tb_lk b 39 156 = (2, 38, 0, 0, 0) := by cases b <;> decide +kernel
theorem m38 : (tb_me 38).2 = ((0, 0), (2, 0)) ∧ (tb_me 38).1.2.2.1 = 5 := by decide +kernel
theorem d39_6 : decode (tb_me 39).1.2.1 6 = .ok (.ifCond .ne 5, 3) := by decide +kernel
theorem d39_11 : decode (tb_me 39).1.2.1 11 = .ok (.iconst 0, 1) := by decide +kernel
theorem d39_12 : decode (tb_me 39).1.2.1 12 = .ok (.istore_n 3, 1) := by decide +kernel
theorem d39_13 : decode (tb_me 39).1.2.1 13 = .ok (.iconst 0, 1) := by decide +kernel
theorem d39_14 : decode (tb_me 39).1.2.1 14 = .ok (.istore 4, 2) := by decide +kernel
theorem d39_94 : decode (tb_me 39).1.2.1 94 = .ok (.iconst (-1), 1) := by decide +kernel
theorem d39_95 : decode (tb_me 39).1.2.1 95 = .ok (.ireturn, 1) := by decide +kernel
theorem t39 : (tb_me 39).1.2.2.2 = some .int := by decide +kernel
theorem d39_114 : decode (tb_me 39).1.2.1 114 = .ok (.iload_n 3, 1) := by decide +kernel
theorem d39_115 : decode (tb_me 39).1.2.1 115 = .ok (.ireturn, 1) := by decide +kernel
theorem d39_9 : decode (tb_me 39).1.2.1 9 = .ok (.iconst (-1), 1) := by decide +kernel
theorem d39_10 : decode (tb_me 39).1.2.1 10 = .ok (.ireturn, 1) := by decide +kernel
theorem e39 : (tb_me 39).2.1 = (0, 0) ∧ (tb_me 39).1.2.2.1 = 6 := by decide +kernel
theorem d40_86 : decode (tb_me 40).1.2.1 86 = .ok (.iastore, 1) := by decide +kernel
theorem d40_87 : decode (tb_me 40).1.2.1 87 = .ok (.iinc 3 1, 3) := by decide +kernel
theorem d40_90 : decode (tb_me 40).1.2.1 90 = .ok (.iinc 4 1, 3) := by decide +kernel
theorem d40_93 : decode (tb_me 40).1.2.1 93 = .ok (.goto (-88), 3) := by decide +kernel
theorem d40_5 : decode (tb_me 40).1.2.1 5 = .ok (.iload 4, 2) := by decide +kernel
theorem d40_7 : decode (tb_me 40).1.2.1 7 = .ok (.iload_n 1, 1) := by decide +kernel
theorem d40_8 : decode (tb_me 40).1.2.1 8 = .ok (.if_icmp .ge 88, 3) := by decide +kernel
theorem d40_11 : decode (tb_me 40).1.2.1 11 = .ok (.iload 4, 2) := by decide +kernel
theorem d40_13 : decode (tb_me 40).1.2.1 13 = .ok (.aload_n 0, 1) := by decide +kernel
theorem d40_14 : decode (tb_me 40).1.2.1 14 = .ok (.getfield 52, 3) := by decide +kernel
theorem k40_52 (b : Bool) : tb_lk b 40 52 = (1, 0, 8, 0, 0) := by cases b <;> decide +kernel
theorem d40_17 : decode (tb_me 40).1.2.1 17 = .ok (.arraylength, 1) := by decide +kernel
theorem d40_18 : decode (tb_me 40).1.2.1 18 = .ok (.if_icmp .ge 78, 3) := by decide +kernel
theorem d40_21 : decode (tb_me 40).1.2.1 21 = .ok (.aload_n 0, 1) := by decide +kernel
theorem d40_22 : decode (tb_me 40).1.2.1 22 = .ok (.getfield 52, 3) := by decide +kernel
theorem d40_25 : decode (tb_me 40).1.2.1 25 = .ok (.iload 4, 2) := by decide +kernel
theorem d40_27 : decode (tb_me 40).1.2.1 27 = .ok (.iaload, 1) := by decide +kernel
theorem d40_28 : decode (tb_me 40).1.2.1 28 = .ok (.istore 5, 2) := by decide +kernel
theorem d40_30 : decode (tb_me 40).1.2.1 30 = .ok (.iload_n 2, 1) := by decide +kernel
theorem d40_31 : decode (tb_me 40).1.2.1 31 = .ok (.iload 5, 2) := by decide +kernel
theorem d40_33 : decode (tb_me 40).1.2.1 33 = .ok (.invokestatic 122, 3) := by decide +kernel
theorem k40_122 (b : Bool) : tb_lk b 40 122 = (4, 34, 0, 0, 0) := by cases b <;> decide +kernel
theorem d40_36 : decode (tb_me 40).1.2.1 36 = .ok (.iconst 1, 1) := by decide +kernel
theorem d40_37 : decode (tb_me 40).1.2.1 37 = .ok (.if_icmp .ne 53, 3) := by decide +kernel
theorem d40_40 : decode (tb_me 40).1.2.1 40 = .ok (.iload_n 3, 1) := by decide +kernel
theorem d40_41 : decode (tb_me 40).1.2.1 41 = .ok (.aload_n 0, 1) := by decide +kernel
theorem d40_42 : decode (tb_me 40).1.2.1 42 = .ok (.getfield 52, 3) := by decide +kernel
theorem d40_45 : decode (tb_me 40).1.2.1 45 = .ok (.arraylength, 1) := by decide +kernel
theorem d40_46 : decode (tb_me 40).1.2.1 46 = .ok (.if_icmp .ge 44, 3) := by decide +kernel
theorem d40_49 : decode (tb_me 40).1.2.1 49 = .ok (.aload_n 0, 1) := by decide +kernel
theorem d40_50 : decode (tb_me 40).1.2.1 50 = .ok (.getfield 52, 3) := by decide +kernel
theorem d40_53 : decode (tb_me 40).1.2.1 53 = .ok (.iload_n 3, 1) := by decide +kernel
theorem d40_54 : decode (tb_me 40).1.2.1 54 = .ok (.iload 5, 2) := by decide +kernel
theorem d40_56 : decode (tb_me 40).1.2.1 56 = .ok (.bipush 8, 2) := by decide +kernel
theorem d40_58 : decode (tb_me 40).1.2.1 58 = .ok (.if_icmp .ne 16, 3) := by decide +kernel
theorem d40_74 : decode (tb_me 40).1.2.1 74 = .ok (.aload_n 0, 1) := by decide +kernel
theorem d40_75 : decode (tb_me 40).1.2.1 75 = .ok (.getfield 61, 3) := by decide +kernel
theorem k40_61 (b : Bool) : tb_lk b 40 61 = (1, 0, 4, 0, 0) := by cases b <;> decide +kernel
theorem d40_78 : decode (tb_me 40).1.2.1 78 = .ok (.getfield 83, 3) := by decide +kernel
theorem k40_83 (b : Bool) : tb_lk b 40 83 = (1, 9, 0, 0, 0) := by cases b <;> decide +kernel
theorem d40_81 : decode (tb_me 40).1.2.1 81 = .ok (.iload 5, 2) := by decide +kernel
theorem d40_83 : decode (tb_me 40).1.2.1 83 = .ok (.invokevirtual 324, 3) := by decide +kernel
theorem k40_324 (b : Bool) : tb_lk b 40 324 = (2, 115, 0, 0, 0) := by cases b <;> decide +kernel
theorem d40_61 : decode (tb_me 40).1.2.1 61 = .ok (.aload_n 0, 1) := by decide +kernel
theorem d40_62 : decode (tb_me 40).1.2.1 62 = .ok (.getfield 61, 3) := by decide +kernel
theorem d40_65 : decode (tb_me 40).1.2.1 65 = .ok (.getfield 87, 3) := by decide +kernel
theorem k40_87 (b : Bool) : tb_lk b 40 87 = (1, 9, 1, 0, 0) := by cases b <;> decide +kernel
theorem d40_68 : decode (tb_me 40).1.2.1 68 = .ok (.getfield 203, 3) := by decide +kernel
theorem k40_203 (b : Bool) : tb_lk b 40 203 = (1, 3, 4, 0, 0) := by cases b <;> decide +kernel
theorem d40_71 : decode (tb_me 40).1.2.1 71 = .ok (.goto 15, 3) := by decide +kernel
theorem d40_0 : decode (tb_me 40).1.2.1 0 = .ok (.iconst 0, 1) := by decide +kernel
theorem d40_1 : decode (tb_me 40).1.2.1 1 = .ok (.istore_n 3, 1) := by decide +kernel
theorem d40_2 : decode (tb_me 40).1.2.1 2 = .ok (.iconst 0, 1) := by decide +kernel
theorem d40_3 : decode (tb_me 40).1.2.1 3 = .ok (.istore 4, 2) := by decide +kernel
theorem d40_96 : decode (tb_me 40).1.2.1 96 = .ok (.iload_n 3, 1) := by decide +kernel
theorem d40_97 : decode (tb_me 40).1.2.1 97 = .ok (.ireturn, 1) := by decide +kernel
theorem t40 : (tb_me 40).1.2.2.2 = some .int := by decide +kernel
theorem e40 : (tb_me 40).2.1 = (0, 0) ∧ (tb_me 40).1.2.2.1 = 6 := by decide +kernel
theorem d41_2 : decode (tb_me 41).1.2.1 2 = .ok (.iload_n 2, 1) := by decide +kernel
theorem d41_3 : decode (tb_me 41).1.2.1 3 = .ok (.aload_n 0, 1) := by decide +kernel
theorem d41_4 : decode (tb_me 41).1.2.1 4 = .ok (.getfield 61, 3) := by decide +kernel
theorem k41_61 (b : Bool) : tb_lk b 41 61 = (1, 0, 4, 0, 0) := by cases b <;> decide +kernel
theorem d41_7 : decode (tb_me 41).1.2.1 7 = .ok (.getfield 83, 3) := by decide +kernel
theorem k41_83 (b : Bool) : tb_lk b 41 83 = (1, 9, 0, 0, 0) := by cases b <;> decide +kernel
theorem d41_10 : decode (tb_me 41).1.2.1 10 = .ok (.getfield 91, 3) := by decide +kernel
theorem k41_91 (b : Bool) : tb_lk b 41 91 = (1, 7, 1, 0, 0) := by cases b <;> decide +kernel
theorem d41_13 : decode (tb_me 41).1.2.1 13 = .ok (.if_icmp .ge 47, 3) := by decide +kernel
theorem d41_16 : decode (tb_me 41).1.2.1 16 = .ok (.aload_n 0, 1) := by decide +kernel
theorem d41_17 : decode (tb_me 41).1.2.1 17 = .ok (.iload_n 2, 1) := by decide +kernel
theorem d41_18 : decode (tb_me 41).1.2.1 18 = .ok (.invokevirtual 187, 3) := by decide +kernel
theorem k41_187 (b : Bool) : tb_lk b 41 187 = (2, 35, 0, 0, 0) := by cases b <;> decide +kernel
theorem m35 : (tb_me 35).2 = ((0, 0), (1, 0)) ∧ (tb_me 35).1.2.2.1 = 2 := by decide +kernel
theorem d41_21 : decode (tb_me 41).1.2.1 21 = .ok (.ifCond .eq 33, 3) := by decide +kernel
theorem d41_54 : decode (tb_me 41).1.2.1 54 = .ok (.iinc 2 1, 3) := by decide +kernel
theorem d41_57 : decode (tb_me 41).1.2.1 57 = .ok (.goto (-55), 3) := by decide +kernel
theorem d41_24 : decode (tb_me 41).1.2.1 24 = .ok (.aload_n 0, 1) := by decide +kernel
theorem d41_25 : decode (tb_me 41).1.2.1 25 = .ok (.getfield 61, 3) := by decide +kernel
theorem d41_28 : decode (tb_me 41).1.2.1 28 = .ok (.getfield 87, 3) := by decide +kernel
theorem k41_87 (b : Bool) : tb_lk b 41 87 = (1, 9, 1, 0, 0) := by cases b <;> decide +kernel
theorem d41_31 : decode (tb_me 41).1.2.1 31 = .ok (.iload_n 2, 1) := by decide +kernel
theorem d41_32 : decode (tb_me 41).1.2.1 32 = .ok (.aload_n 1, 1) := by decide +kernel
theorem d41_33 : decode (tb_me 41).1.2.1 33 = .ok (.aload_n 0, 1) := by decide +kernel
theorem d41_34 : decode (tb_me 41).1.2.1 34 = .ok (.getfield 61, 3) := by decide +kernel
theorem d41_37 : decode (tb_me 41).1.2.1 37 = .ok (.getfield 83, 3) := by decide +kernel
theorem d41_40 : decode (tb_me 41).1.2.1 40 = .ok (.aload_n 0, 1) := by decide +kernel
theorem d41_41 : decode (tb_me 41).1.2.1 41 = .ok (.getfield 61, 3) := by decide +kernel
theorem d41_44 : decode (tb_me 41).1.2.1 44 = .ok (.getfield 87, 3) := by decide +kernel
theorem d41_47 : decode (tb_me 41).1.2.1 47 = .ok (.iload_n 2, 1) := by decide +kernel
theorem d41_48 : decode (tb_me 41).1.2.1 48 = .ok (.invokevirtual 327, 3) := by decide +kernel
theorem k41_327 (b : Bool) : tb_lk b 41 327 = (2, 102, 0, 0, 0) := by cases b <;> decide +kernel
theorem m102 : (tb_me 102).2 = ((0, 0), (3, 6)) ∧ (tb_me 102).1.2.2.1 = 10 := by decide +kernel
theorem d41_51 : decode (tb_me 41).1.2.1 51 = .ok (.invokevirtual 190, 3) := by decide +kernel
theorem k41_190 (b : Bool) : tb_lk b 41 190 = (2, 77, 0, 0, 0) := by cases b <;> decide +kernel
theorem d41_0 : decode (tb_me 41).1.2.1 0 = .ok (.iconst 0, 1) := by decide +kernel
theorem d41_1 : decode (tb_me 41).1.2.1 1 = .ok (.istore_n 2, 1) := by decide +kernel
theorem d41_60 : decode (tb_me 41).1.2.1 60 = .ok (.return_, 1) := by decide +kernel
theorem t41 : (tb_me 41).1.2.2.2 = none := by decide +kernel
theorem e41 : (tb_me 41).2.1 = (0, 0) ∧ (tb_me 41).1.2.2.1 = 3 := by decide +kernel
theorem d9_67 : decode (tb_me 9).1.2.1 67 = .ok (.iload 5, 2) := by decide +kernel
theorem d9_69 : decode (tb_me 9).1.2.1 69 = .ok (.iload_n 3, 1) := by decide +kernel
theorem d9_70 : decode (tb_me 9).1.2.1 70 = .ok (.if_icmp .ge 24, 3) := by decide +kernel
theorem d9_73 : decode (tb_me 9).1.2.1 73 = .ok (.iload 4, 2) := by decide +kernel
theorem d9_75 : decode (tb_me 9).1.2.1 75 = .ok (.bipush 10, 2) := by decide +kernel
theorem d9_77 : decode (tb_me 9).1.2.1 77 = .ok (.imul, 1) := by decide +kernel
theorem d9_78 : decode (tb_me 9).1.2.1 78 = .ok (.aload_n 0, 1) := by decide +kernel
theorem d9_79 : decode (tb_me 9).1.2.1 79 = .ok (.getfield 52, 3) := by decide +kernel
theorem k9_52 (b : Bool) : tb_lk b 9 52 = (1, 0, 8, 0, 0) := by cases b <;> decide +kernel
theorem d9_82 : decode (tb_me 9).1.2.1 82 = .ok (.iload 5, 2) := by decide +kernel
theorem d9_84 : decode (tb_me 9).1.2.1 84 = .ok (.iaload, 1) := by decide +kernel
theorem d9_85 : decode (tb_me 9).1.2.1 85 = .ok (.iadd, 1) := by decide +kernel
theorem d9_86 : decode (tb_me 9).1.2.1 86 = .ok (.istore 4, 2) := by decide +kernel
theorem d9_88 : decode (tb_me 9).1.2.1 88 = .ok (.iinc 5 1, 3) := by decide +kernel
theorem d9_91 : decode (tb_me 9).1.2.1 91 = .ok (.goto (-24), 3) := by decide +kernel
theorem d9_13 : decode (tb_me 9).1.2.1 13 = .ok (.iload_n 3, 1) := by decide +kernel
theorem d9_14 : decode (tb_me 9).1.2.1 14 = .ok (.iload_n 2, 1) := by decide +kernel
theorem d9_15 : decode (tb_me 9).1.2.1 15 = .ok (.if_icmp .ge 30, 3) := by decide +kernel
theorem d9_18 : decode (tb_me 9).1.2.1 18 = .ok (.aload_n 0, 1) := by decide +kernel
theorem d9_19 : decode (tb_me 9).1.2.1 19 = .ok (.getfield 61, 3) := by decide +kernel
theorem k9_61 (b : Bool) : tb_lk b 9 61 = (1, 0, 4, 0, 0) := by cases b <;> decide +kernel
theorem d9_22 : decode (tb_me 9).1.2.1 22 = .ok (.getfield 83, 3) := by decide +kernel
theorem k9_83 (b : Bool) : tb_lk b 9 83 = (1, 9, 0, 0, 0) := by cases b <;> decide +kernel
theorem d9_25 : decode (tb_me 9).1.2.1 25 = .ok (.aload_n 0, 1) := by decide +kernel
theorem d9_26 : decode (tb_me 9).1.2.1 26 = .ok (.getfield 52, 3) := by decide +kernel
theorem d9_29 : decode (tb_me 9).1.2.1 29 = .ok (.iload_n 3, 1) := by decide +kernel
theorem d9_30 : decode (tb_me 9).1.2.1 30 = .ok (.iaload, 1) := by decide +kernel
theorem d9_31 : decode (tb_me 9).1.2.1 31 = .ok (.invokevirtual 150, 3) := by decide +kernel
theorem k9_150 (b : Bool) : tb_lk b 9 150 = (2, 111, 0, 0, 0) := by cases b <;> decide +kernel
theorem d9_34 : decode (tb_me 9).1.2.1 34 = .ok (.ifCond .ne 5, 3) := by decide +kernel
theorem d9_39 : decode (tb_me 9).1.2.1 39 = .ok (.iinc 3 1, 3) := by decide +kernel
theorem d9_42 : decode (tb_me 9).1.2.1 42 = .ok (.goto (-29), 3) := by decide +kernel
theorem d9_0 : decode (tb_me 9).1.2.1 0 = .ok (.aload_n 0, 1) := by decide +kernel
theorem d9_1 : decode (tb_me 9).1.2.1 1 = .ok (.iload_n 1, 1) := by decide +kernel
theorem d9_2 : decode (tb_me 9).1.2.1 2 = .ok (.iload_n 2, 1) := by decide +kernel
theorem d9_3 : decode (tb_me 9).1.2.1 3 = .ok (.invokevirtual 156, 3) := by decide +kernel
theorem k9_156 (b : Bool) : tb_lk b 9 156 = (2, 38, 0, 0, 0) := by cases b <;> decide +kernel
theorem d9_6 : decode (tb_me 9).1.2.1 6 = .ok (.ifCond .ne 5, 3) := by decide +kernel
theorem d9_11 : decode (tb_me 9).1.2.1 11 = .ok (.iconst 0, 1) := by decide +kernel
theorem d9_12 : decode (tb_me 9).1.2.1 12 = .ok (.istore_n 3, 1) := by decide +kernel
theorem d9_37 : decode (tb_me 9).1.2.1 37 = .ok (.iconst (-1), 1) := by decide +kernel
theorem d9_38 : decode (tb_me 9).1.2.1 38 = .ok (.ireturn, 1) := by decide +kernel
theorem t9 : (tb_me 9).1.2.2.2 = some .int := by decide +kernel
theorem d9_45 : decode (tb_me 9).1.2.1 45 = .ok (.aload_n 0, 1) := by decide +kernel
theorem d9_46 : decode (tb_me 9).1.2.1 46 = .ok (.getfield 61, 3) := by decide +kernel
theorem d9_49 : decode (tb_me 9).1.2.1 49 = .ok (.getfield 83, 3) := by decide +kernel
theorem d9_52 : decode (tb_me 9).1.2.1 52 = .ok (.aload_n 0, 1) := by decide +kernel
theorem d9_53 : decode (tb_me 9).1.2.1 53 = .ok (.getfield 52, 3) := by decide +kernel
theorem d9_56 : decode (tb_me 9).1.2.1 56 = .ok (.iload_n 2, 1) := by decide +kernel
theorem d9_57 : decode (tb_me 9).1.2.1 57 = .ok (.invokevirtual 160, 3) := by decide +kernel
theorem k9_160 (b : Bool) : tb_lk b 9 160 = (2, 118, 0, 0, 0) := by cases b <;> decide +kernel
theorem m118 : (tb_me 118).2 = ((0, 0), (2, 7)) ∧ (tb_me 118).1.2.2.1 = 6 := by decide +kernel
theorem d9_60 : decode (tb_me 9).1.2.1 60 = .ok (.istore_n 3, 1) := by decide +kernel
theorem d9_61 : decode (tb_me 9).1.2.1 61 = .ok (.iconst 1, 1) := by decide +kernel
theorem d9_62 : decode (tb_me 9).1.2.1 62 = .ok (.istore 4, 2) := by decide +kernel
theorem d9_64 : decode (tb_me 9).1.2.1 64 = .ok (.iconst 0, 1) := by decide +kernel
theorem d9_65 : decode (tb_me 9).1.2.1 65 = .ok (.istore 5, 2) := by decide +kernel
theorem d9_94 : decode (tb_me 9).1.2.1 94 = .ok (.iload 4, 2) := by decide +kernel
theorem d9_96 : decode (tb_me 9).1.2.1 96 = .ok (.ireturn, 1) := by decide +kernel
theorem d9_9 : decode (tb_me 9).1.2.1 9 = .ok (.iconst (-1), 1) := by decide +kernel
theorem d9_10 : decode (tb_me 9).1.2.1 10 = .ok (.ireturn, 1) := by decide +kernel
theorem e9 : (tb_me 9).2.1 = (0, 0) ∧ (tb_me 9).1.2.2.1 = 6 := by decide +kernel
theorem d10_0 : decode (tb_me 10).1.2.1 0 = .ok (.aload_n 0, 1) := by decide +kernel
theorem d10_1 : decode (tb_me 10).1.2.1 1 = .ok (.iload_n 1, 1) := by decide +kernel
theorem d10_2 : decode (tb_me 10).1.2.1 2 = .ok (.iload_n 2, 1) := by decide +kernel
theorem d10_3 : decode (tb_me 10).1.2.1 3 = .ok (.invokevirtual 164, 3) := by decide +kernel
theorem k10_164 (b : Bool) : tb_lk b 10 164 = (2, 39, 0, 0, 0) := by cases b <;> decide +kernel
theorem m39 : (tb_me 39).2 = ((0, 0), (2, 0)) ∧ (tb_me 39).1.2.2.1 = 6 := by decide +kernel
theorem d10_6 : decode (tb_me 10).1.2.1 6 = .ok (.istore_n 3, 1) := by decide +kernel
theorem d10_7 : decode (tb_me 10).1.2.1 7 = .ok (.iload_n 3, 1) := by decide +kernel
theorem d10_8 : decode (tb_me 10).1.2.1 8 = .ok (.iconst (-1), 1) := by decide +kernel
theorem d10_9 : decode (tb_me 10).1.2.1 9 = .ok (.if_icmp .eq 27, 3) := by decide +kernel
theorem d10_36 : decode (tb_me 10).1.2.1 36 = .ok (.iconst (-1), 1) := by decide +kernel
theorem d10_37 : decode (tb_me 10).1.2.1 37 = .ok (.ireturn, 1) := by decide +kernel
theorem t10 : (tb_me 10).1.2.2.2 = some .int := by decide +kernel
theorem d10_12 : decode (tb_me 10).1.2.1 12 = .ok (.iload_n 3, 1) := by decide +kernel
theorem d10_13 : decode (tb_me 10).1.2.1 13 = .ok (.aload_n 0, 1) := by decide +kernel
theorem d10_14 : decode (tb_me 10).1.2.1 14 = .ok (.getfield 61, 3) := by decide +kernel
theorem k10_61 (b : Bool) : tb_lk b 10 61 = (1, 0, 4, 0, 0) := by cases b <;> decide +kernel
theorem d10_17 : decode (tb_me 10).1.2.1 17 = .ok (.getfield 87, 3) := by decide +kernel
theorem k10_87 (b : Bool) : tb_lk b 10 87 = (1, 9, 1, 0, 0) := by cases b <;> decide +kernel
theorem d10_20 : decode (tb_me 10).1.2.1 20 = .ok (.aload_n 0, 1) := by decide +kernel
theorem d10_21 : decode (tb_me 10).1.2.1 21 = .ok (.getfield 61, 3) := by decide +kernel
theorem d10_24 : decode (tb_me 10).1.2.1 24 = .ok (.getfield 83, 3) := by decide +kernel
theorem k10_83 (b : Bool) : tb_lk b 10 83 = (1, 9, 0, 0, 0) := by cases b <;> decide +kernel
theorem d10_27 : decode (tb_me 10).1.2.1 27 = .ok (.invokevirtual 135, 3) := by decide +kernel
theorem k10_135 (b : Bool) : tb_lk b 10 135 = (2, 81, 0, 0, 0) := by cases b <;> decide +kernel
theorem d10_30 : decode (tb_me 10).1.2.1 30 = .ok (.iconst (-1), 1) := by decide +kernel
theorem d10_31 : decode (tb_me 10).1.2.1 31 = .ok (.ixor, 1) := by decide +kernel
theorem d10_32 : decode (tb_me 10).1.2.1 32 = .ok (.iand, 1) := by decide +kernel
theorem d10_33 : decode (tb_me 10).1.2.1 33 = .ok (.ifCond .eq 5, 3) := by decide +kernel
theorem d10_38 : decode (tb_me 10).1.2.1 38 = .ok (.aload_n 0, 1) := by decide +kernel
theorem d10_39 : decode (tb_me 10).1.2.1 39 = .ok (.getfield 41, 3) := by decide +kernel
theorem k10_41 (b : Bool) : tb_lk b 10 41 = (1, 0, 6, 0, 0) := by cases b <;> decide +kernel
theorem d10_42 : decode (tb_me 10).1.2.1 42 = .ok (.aload_n 0, 1) := by decide +kernel
theorem d10_43 : decode (tb_me 10).1.2.1 43 = .ok (.getfield 61, 3) := by decide +kernel
theorem d10_46 : decode (tb_me 10).1.2.1 46 = .ok (.getfield 87, 3) := by decide +kernel
theorem d10_49 : decode (tb_me 10).1.2.1 49 = .ok (.invokevirtual 167, 3) := by decide +kernel
theorem k10_167 (b : Bool) : tb_lk b 10 167 = (2, 84, 0, 0, 0) := by cases b <;> decide +kernel
theorem d10_52 : decode (tb_me 10).1.2.1 52 = .ok (.aload_n 0, 1) := by decide +kernel
theorem d10_53 : decode (tb_me 10).1.2.1 53 = .ok (.iload_n 2, 1) := by decide +kernel
theorem d10_54 : decode (tb_me 10).1.2.1 54 = .ok (.iload_n 3, 1) := by decide +kernel
theorem d10_55 : decode (tb_me 10).1.2.1 55 = .ok (.invokevirtual 171, 3) := by decide +kernel
theorem k10_171 (b : Bool) : tb_lk b 10 171 = (2, 40, 0, 0, 0) := by cases b <;> decide +kernel
theorem m40 : (tb_me 40).2 = ((0, 0), (2, 0)) ∧ (tb_me 40).1.2.2.1 = 6 := by decide +kernel
theorem d10_58 : decode (tb_me 10).1.2.1 58 = .ok (.pop, 1) := by decide +kernel
theorem d10_59 : decode (tb_me 10).1.2.1 59 = .ok (.aload_n 0, 1) := by decide +kernel
theorem d10_60 : decode (tb_me 10).1.2.1 60 = .ok (.getfield 61, 3) := by decide +kernel
theorem d10_63 : decode (tb_me 10).1.2.1 63 = .ok (.getfield 83, 3) := by decide +kernel
theorem d10_66 : decode (tb_me 10).1.2.1 66 = .ok (.aload_n 0, 1) := by decide +kernel
theorem d10_67 : decode (tb_me 10).1.2.1 67 = .ok (.getfield 52, 3) := by decide +kernel
theorem k10_52 (b : Bool) : tb_lk b 10 52 = (1, 0, 8, 0, 0) := by cases b <;> decide +kernel
theorem d10_70 : decode (tb_me 10).1.2.1 70 = .ok (.aload_n 0, 1) := by decide +kernel
theorem d10_71 : decode (tb_me 10).1.2.1 71 = .ok (.getfield 61, 3) := by decide +kernel
theorem d10_74 : decode (tb_me 10).1.2.1 74 = .ok (.getfield 83, 3) := by decide +kernel
theorem d10_77 : decode (tb_me 10).1.2.1 77 = .ok (.aload_n 0, 1) := by decide +kernel
theorem d10_78 : decode (tb_me 10).1.2.1 78 = .ok (.getfield 52, 3) := by decide +kernel
theorem d10_81 : decode (tb_me 10).1.2.1 81 = .ok (.iload_n 2, 1) := by decide +kernel
theorem d10_82 : decode (tb_me 10).1.2.1 82 = .ok (.invokevirtual 160, 3) := by decide +kernel
theorem k10_160 (b : Bool) : tb_lk b 10 160 = (2, 118, 0, 0, 0) := by cases b <;> decide +kernel
theorem d10_85 : decode (tb_me 10).1.2.1 85 = .ok (.invokevirtual 174, 3) := by decide +kernel
theorem k10_174 (b : Bool) : tb_lk b 10 174 = (2, 120, 0, 0, 0) := by cases b <;> decide +kernel
theorem m120 : (tb_me 120).2 = ((0, 0), (2, 7)) ∧ (tb_me 120).1.2.2.1 = 4 := by decide +kernel
theorem d10_88 : decode (tb_me 10).1.2.1 88 = .ok (.ireturn, 1) := by decide +kernel
theorem e10 : (tb_me 10).2.1 = (0, 0) ∧ (tb_me 10).1.2.2.1 = 4 := by decide +kernel
theorem d12_31 : decode (tb_me 12).1.2.1 31 = .ok (.iload_n 2, 1) := by decide +kernel
theorem d12_32 : decode (tb_me 12).1.2.1 32 = .ok (.if_icmp .ne 5, 3) := by decide +kernel
theorem d12_37 : decode (tb_me 12).1.2.1 37 = .ok (.aload_n 0, 1) := by decide +kernel
theorem d12_38 : decode (tb_me 12).1.2.1 38 = .ok (.getfield 41, 3) := by decide +kernel
theorem k12_41 (b : Bool) : tb_lk b 12 41 = (1, 0, 6, 0, 0) := by cases b <;> decide +kernel
theorem d12_41 : decode (tb_me 12).1.2.1 41 = .ok (.aload_n 0, 1) := by decide +kernel
theorem d12_42 : decode (tb_me 12).1.2.1 42 = .ok (.getfield 61, 3) := by decide +kernel
theorem k12_61 (b : Bool) : tb_lk b 12 61 = (1, 0, 4, 0, 0) := by cases b <;> decide +kernel
theorem d12_45 : decode (tb_me 12).1.2.1 45 = .ok (.getfield 87, 3) := by decide +kernel
theorem k12_87 (b : Bool) : tb_lk b 12 87 = (1, 9, 1, 0, 0) := by cases b <;> decide +kernel
theorem d12_48 : decode (tb_me 12).1.2.1 48 = .ok (.invokevirtual 167, 3) := by decide +kernel
theorem k12_167 (b : Bool) : tb_lk b 12 167 = (2, 84, 0, 0, 0) := by cases b <;> decide +kernel
theorem d12_51 : decode (tb_me 12).1.2.1 51 = .ok (.aload_n 0, 1) := by decide +kernel
theorem d12_52 : decode (tb_me 12).1.2.1 52 = .ok (.getfield 61, 3) := by decide +kernel
theorem d12_55 : decode (tb_me 12).1.2.1 55 = .ok (.getfield 87, 3) := by decide +kernel
theorem d12_58 : decode (tb_me 12).1.2.1 58 = .ok (.iload_n 1, 1) := by decide +kernel
theorem d12_59 : decode (tb_me 12).1.2.1 59 = .ok (.iload_n 2, 1) := by decide +kernel
theorem d12_60 : decode (tb_me 12).1.2.1 60 = .ok (.invokevirtual 190, 3) := by decide +kernel
theorem k12_190 (b : Bool) : tb_lk b 12 190 = (2, 77, 0, 0, 0) := by cases b <;> decide +kernel
theorem d12_63 : decode (tb_me 12).1.2.1 63 = .ok (.iconst 1, 1) := by decide +kernel
theorem d12_64 : decode (tb_me 12).1.2.1 64 = .ok (.ireturn, 1) := by decide +kernel
theorem t12 : (tb_me 12).1.2.2.2 = some .boolean := by decide +kernel
theorem d12_35 : decode (tb_me 12).1.2.1 35 = .ok (.iconst 0, 1) := by decide +kernel
theorem d12_36 : decode (tb_me 12).1.2.1 36 = .ok (.ireturn, 1) := by decide +kernel
theorem d12_0 : decode (tb_me 12).1.2.1 0 = .ok (.aload_n 0, 1) := by decide +kernel
theorem d12_1 : decode (tb_me 12).1.2.1 1 = .ok (.iload_n 1, 1) := by decide +kernel
theorem d12_2 : decode (tb_me 12).1.2.1 2 = .ok (.invokevirtual 187, 3) := by decide +kernel
theorem k12_187 (b : Bool) : tb_lk b 12 187 = (2, 35, 0, 0, 0) := by cases b <;> decide +kernel
theorem d12_5 : decode (tb_me 12).1.2.1 5 = .ok (.ifCond .eq 30, 3) := by decide +kernel
theorem d12_8 : decode (tb_me 12).1.2.1 8 = .ok (.aload_n 0, 1) := by decide +kernel
theorem d12_9 : decode (tb_me 12).1.2.1 9 = .ok (.getfield 61, 3) := by decide +kernel
theorem d12_12 : decode (tb_me 12).1.2.1 12 = .ok (.getfield 87, 3) := by decide +kernel
theorem d12_15 : decode (tb_me 12).1.2.1 15 = .ok (.getfield 119, 3) := by decide +kernel
theorem k12_119 (b : Bool) : tb_lk b 12 119 = (1, 3, 0, 0, 0) := by cases b <;> decide +kernel
theorem d12_18 : decode (tb_me 12).1.2.1 18 = .ok (.iload_n 1, 1) := by decide +kernel
theorem d12_19 : decode (tb_me 12).1.2.1 19 = .ok (.invokestatic 122, 3) := by decide +kernel
theorem k12_122 (b : Bool) : tb_lk b 12 122 = (4, 34, 0, 0, 0) := by cases b <;> decide +kernel
theorem d12_22 : decode (tb_me 12).1.2.1 22 = .ok (.iconst 1, 1) := by decide +kernel
theorem d12_23 : decode (tb_me 12).1.2.1 23 = .ok (.if_icmp .ne 7, 3) := by decide +kernel
theorem d12_30 : decode (tb_me 12).1.2.1 30 = .ok (.iconst 0, 1) := by decide +kernel
theorem d12_26 : decode (tb_me 12).1.2.1 26 = .ok (.iconst 1, 1) := by decide +kernel
theorem d12_27 : decode (tb_me 12).1.2.1 27 = .ok (.goto 4, 3) := by decide +kernel
theorem e12 : (tb_me 12).2.1 = (0, 0) ∧ (tb_me 12).1.2.2.1 = 3 := by decide +kernel
theorem d13_0 : decode (tb_me 13).1.2.1 0 = .ok (.aload_n 0, 1) := by decide +kernel
theorem d13_1 : decode (tb_me 13).1.2.1 1 = .ok (.iload_n 1, 1) := by decide +kernel
theorem d13_2 : decode (tb_me 13).1.2.1 2 = .ok (.invokevirtual 187, 3) := by decide +kernel
theorem k13_187 (b : Bool) : tb_lk b 13 187 = (2, 35, 0, 0, 0) := by cases b <;> decide +kernel
theorem d13_5 : decode (tb_me 13).1.2.1 5 = .ok (.ifCond .eq 13, 3) := by decide +kernel
theorem d13_18 : decode (tb_me 13).1.2.1 18 = .ok (.iconst (-1), 1) := by decide +kernel
theorem d13_19 : decode (tb_me 13).1.2.1 19 = .ok (.ireturn, 1) := by decide +kernel
theorem t13 : (tb_me 13).1.2.2.2 = some .int := by decide +kernel
theorem d13_8 : decode (tb_me 13).1.2.1 8 = .ok (.iload_n 2, 1) := by decide +kernel
theorem d13_9 : decode (tb_me 13).1.2.1 9 = .ok (.ifCond .lt 9, 3) := by decide +kernel
theorem d13_12 : decode (tb_me 13).1.2.1 12 = .ok (.iload_n 2, 1) := by decide +kernel
theorem d13_13 : decode (tb_me 13).1.2.1 13 = .ok (.bipush 9, 2) := by decide +kernel
theorem d13_15 : decode (tb_me 13).1.2.1 15 = .ok (.if_icmp .le 5, 3) := by decide +kernel
theorem d13_20 : decode (tb_me 13).1.2.1 20 = .ok (.aload_n 0, 1) := by decide +kernel
theorem d13_21 : decode (tb_me 13).1.2.1 21 = .ok (.getfield 41, 3) := by decide +kernel
theorem k13_41 (b : Bool) : tb_lk b 13 41 = (1, 0, 6, 0, 0) := by cases b <;> decide +kernel
theorem d13_24 : decode (tb_me 13).1.2.1 24 = .ok (.aload_n 0, 1) := by decide +kernel
theorem d13_25 : decode (tb_me 13).1.2.1 25 = .ok (.getfield 61, 3) := by decide +kernel
theorem k13_61 (b : Bool) : tb_lk b 13 61 = (1, 0, 4, 0, 0) := by cases b <;> decide +kernel
theorem d13_28 : decode (tb_me 13).1.2.1 28 = .ok (.getfield 87, 3) := by decide +kernel
theorem k13_87 (b : Bool) : tb_lk b 13 87 = (1, 9, 1, 0, 0) := by cases b <;> decide +kernel
theorem d13_31 : decode (tb_me 13).1.2.1 31 = .ok (.invokevirtual 167, 3) := by decide +kernel
theorem k13_167 (b : Bool) : tb_lk b 13 167 = (2, 84, 0, 0, 0) := by cases b <;> decide +kernel
theorem d13_34 : decode (tb_me 13).1.2.1 34 = .ok (.aload_n 0, 1) := by decide +kernel
theorem d13_35 : decode (tb_me 13).1.2.1 35 = .ok (.getfield 61, 3) := by decide +kernel
theorem d13_38 : decode (tb_me 13).1.2.1 38 = .ok (.getfield 87, 3) := by decide +kernel
theorem d13_41 : decode (tb_me 13).1.2.1 41 = .ok (.getfield 126, 3) := by decide +kernel
theorem k13_126 (b : Bool) : tb_lk b 13 126 = (1, 3, 5, 0, 0) := by cases b <;> decide +kernel
theorem d13_44 : decode (tb_me 13).1.2.1 44 = .ok (.iload_n 1, 1) := by decide +kernel
theorem d13_45 : decode (tb_me 13).1.2.1 45 = .ok (.iaload, 1) := by decide +kernel
theorem d13_46 : decode (tb_me 13).1.2.1 46 = .ok (.istore_n 3, 1) := by decide +kernel
theorem d13_47 : decode (tb_me 13).1.2.1 47 = .ok (.aload_n 0, 1) := by decide +kernel
theorem d13_48 : decode (tb_me 13).1.2.1 48 = .ok (.getfield 61, 3) := by decide +kernel
theorem d13_51 : decode (tb_me 13).1.2.1 51 = .ok (.getfield 87, 3) := by decide +kernel
theorem d13_54 : decode (tb_me 13).1.2.1 54 = .ok (.getfield 126, 3) := by decide +kernel
theorem d13_57 : decode (tb_me 13).1.2.1 57 = .ok (.iload_n 1, 1) := by decide +kernel
theorem d13_58 : decode (tb_me 13).1.2.1 58 = .ok (.iload_n 2, 1) := by decide +kernel
theorem d13_59 : decode (tb_me 13).1.2.1 59 = .ok (.iastore, 1) := by decide +kernel
theorem d13_60 : decode (tb_me 13).1.2.1 60 = .ok (.iload_n 3, 1) := by decide +kernel
theorem d13_61 : decode (tb_me 13).1.2.1 61 = .ok (.ireturn, 1) := by decide +kernel
theorem e13 : (tb_me 13).2.1 = (0, 0) ∧ (tb_me 13).1.2.2.1 = 4 := by decide +kernel
theorem d14_0 : decode (tb_me 14).1.2.1 0 = .ok (.aload_n 0, 1) := by decide +kernel
theorem d14_1 : decode (tb_me 14).1.2.1 1 = .ok (.iload_n 1, 1) := by decide +kernel
theorem d14_2 : decode (tb_me 14).1.2.1 2 = .ok (.invokevirtual 187, 3) := by decide +kernel
theorem k14_187 (b : Bool) : tb_lk b 14 187 = (2, 35, 0, 0, 0) := by cases b <;> decide +kernel
theorem d14_5 : decode (tb_me 14).1.2.1 5 = .ok (.ifCond .ne 5, 3) := by decide +kernel
theorem d14_10 : decode (tb_me 14).1.2.1 10 = .ok (.aload_n 0, 1) := by decide +kernel
theorem d14_11 : decode (tb_me 14).1.2.1 11 = .ok (.getfield 41, 3) := by decide +kernel
theorem k14_41 (b : Bool) : tb_lk b 14 41 = (1, 0, 6, 0, 0) := by cases b <;> decide +kernel
theorem d14_14 : decode (tb_me 14).1.2.1 14 = .ok (.aload_n 0, 1) := by decide +kernel
theorem d14_15 : decode (tb_me 14).1.2.1 15 = .ok (.getfield 61, 3) := by decide +kernel
theorem k14_61 (b : Bool) : tb_lk b 14 61 = (1, 0, 4, 0, 0) := by cases b <;> decide +kernel
theorem d14_18 : decode (tb_me 14).1.2.1 18 = .ok (.getfield 87, 3) := by decide +kernel
theorem k14_87 (b : Bool) : tb_lk b 14 87 = (1, 9, 1, 0, 0) := by cases b <;> decide +kernel
theorem d14_21 : decode (tb_me 14).1.2.1 21 = .ok (.invokevirtual 167, 3) := by decide +kernel
theorem k14_167 (b : Bool) : tb_lk b 14 167 = (2, 84, 0, 0, 0) := by cases b <;> decide +kernel
theorem d14_24 : decode (tb_me 14).1.2.1 24 = .ok (.aload_n 0, 1) := by decide +kernel
theorem d14_25 : decode (tb_me 14).1.2.1 25 = .ok (.getfield 61, 3) := by decide +kernel
theorem d14_28 : decode (tb_me 14).1.2.1 28 = .ok (.getfield 87, 3) := by decide +kernel
theorem d14_31 : decode (tb_me 14).1.2.1 31 = .ok (.dup, 1) := by decide +kernel
theorem d14_32 : decode (tb_me 14).1.2.1 32 = .ok (.getfield 129, 3) := by decide +kernel
theorem k14_129 (b : Bool) : tb_lk b 14 129 = (1, 3, 1, 0, 0) := by cases b <;> decide +kernel
theorem d14_35 : decode (tb_me 14).1.2.1 35 = .ok (.iconst 1, 1) := by decide +kernel
theorem d14_36 : decode (tb_me 14).1.2.1 36 = .ok (.iload_n 1, 1) := by decide +kernel
theorem d14_37 : decode (tb_me 14).1.2.1 37 = .ok (.ishl, 1) := by decide +kernel
theorem d14_38 : decode (tb_me 14).1.2.1 38 = .ok (.ior, 1) := by decide +kernel
theorem d14_39 : decode (tb_me 14).1.2.1 39 = .ok (.putfield 129, 3) := by decide +kernel
theorem p14_3_1 : (1 < pm_nf tb_cl 3) ∧ tb_ft 3 1 = .int ∧ pm_fin tb_cl (tb_me 14).1.1 3 1 = true := by decide +kernel
theorem d14_42 : decode (tb_me 14).1.2.1 42 = .ok (.aload_n 0, 1) := by decide +kernel
theorem d14_43 : decode (tb_me 14).1.2.1 43 = .ok (.getfield 61, 3) := by decide +kernel
theorem d14_46 : decode (tb_me 14).1.2.1 46 = .ok (.getfield 87, 3) := by decide +kernel
theorem d14_49 : decode (tb_me 14).1.2.1 49 = .ok (.dup, 1) := by decide +kernel
theorem d14_50 : decode (tb_me 14).1.2.1 50 = .ok (.getfield 119, 3) := by decide +kernel
theorem k14_119 (b : Bool) : tb_lk b 14 119 = (1, 3, 0, 0, 0) := by cases b <;> decide +kernel
theorem d14_53 : decode (tb_me 14).1.2.1 53 = .ok (.iconst 1, 1) := by decide +kernel
theorem d14_54 : decode (tb_me 14).1.2.1 54 = .ok (.iload_n 1, 1) := by decide +kernel
theorem d14_55 : decode (tb_me 14).1.2.1 55 = .ok (.ishl, 1) := by decide +kernel
theorem d14_56 : decode (tb_me 14).1.2.1 56 = .ok (.iconst (-1), 1) := by decide +kernel
theorem d14_57 : decode (tb_me 14).1.2.1 57 = .ok (.ixor, 1) := by decide +kernel
theorem d14_58 : decode (tb_me 14).1.2.1 58 = .ok (.iand, 1) := by decide +kernel
theorem d14_59 : decode (tb_me 14).1.2.1 59 = .ok (.putfield 119, 3) := by decide +kernel
theorem p14_3_0 : (0 < pm_nf tb_cl 3) ∧ tb_ft 3 0 = .int ∧ pm_fin tb_cl (tb_me 14).1.1 3 0 = true := by decide +kernel
theorem d14_62 : decode (tb_me 14).1.2.1 62 = .ok (.aload_n 0, 1) := by decide +kernel
theorem d14_63 : decode (tb_me 14).1.2.1 63 = .ok (.getfield 61, 3) := by decide +kernel
theorem d14_66 : decode (tb_me 14).1.2.1 66 = .ok (.getfield 87, 3) := by decide +kernel
theorem d14_69 : decode (tb_me 14).1.2.1 69 = .ok (.aload_n 0, 1) := by decide +kernel
theorem d14_70 : decode (tb_me 14).1.2.1 70 = .ok (.getfield 61, 3) := by decide +kernel
theorem d14_73 : decode (tb_me 14).1.2.1 73 = .ok (.getfield 83, 3) := by decide +kernel
theorem k14_83 (b : Bool) : tb_lk b 14 83 = (1, 9, 0, 0, 0) := by cases b <;> decide +kernel
theorem d14_76 : decode (tb_me 14).1.2.1 76 = .ok (.invokevirtual 194, 3) := by decide +kernel
theorem k14_194 (b : Bool) : tb_lk b 14 194 = (2, 79, 0, 0, 0) := by cases b <;> decide +kernel
theorem d14_79 : decode (tb_me 14).1.2.1 79 = .ok (.invokestatic 197, 3) := by decide +kernel
theorem k14_197 (b : Bool) : tb_lk b 14 197 = (4, 259, 0, 0, 0) := by cases b <;> decide +kernel
theorem d14_82 : decode (tb_me 14).1.2.1 82 = .ok (.ireturn, 1) := by decide +kernel
theorem t14 : (tb_me 14).1.2.2.2 = some .int := by decide +kernel
theorem d14_8 : decode (tb_me 14).1.2.1 8 = .ok (.iconst (-1), 1) := by decide +kernel
theorem d14_9 : decode (tb_me 14).1.2.1 9 = .ok (.ireturn, 1) := by decide +kernel
theorem e14 : (tb_me 14).2.1 = (0, 0) ∧ (tb_me 14).1.2.2.1 = 2 := by decide +kernel
theorem d18_69 : decode (tb_me 18).1.2.1 69 = .ok (.iload_n 3, 1) := by decide +kernel
theorem d18_70 : decode (tb_me 18).1.2.1 70 = .ok (.iload_n 2, 1) := by decide +kernel
theorem d18_71 : decode (tb_me 18).1.2.1 71 = .ok (.if_icmp .ge 29, 3) := by decide +kernel
theorem d18_74 : decode (tb_me 18).1.2.1 74 = .ok (.aload_n 0, 1) := by decide +kernel
theorem d18_75 : decode (tb_me 18).1.2.1 75 = .ok (.aload_n 0, 1) := by decide +kernel
theorem d18_76 : decode (tb_me 18).1.2.1 76 = .ok (.getfield 18, 3) := by decide +kernel
theorem k18_18 (b : Bool) : tb_lk b 18 18 = (1, 0, 1, 0, 0) := by cases b <;> decide +kernel
theorem d18_79 : decode (tb_me 18).1.2.1 79 = .ok (.iload_n 1, 1) := by decide +kernel
theorem d18_80 : decode (tb_me 18).1.2.1 80 = .ok (.aaload, 1) := by decide +kernel
theorem d18_81 : decode (tb_me 18).1.2.1 81 = .ok (.invokevirtual 216, 3) := by decide +kernel
theorem k18_216 (b : Bool) : tb_lk b 18 216 = (2, 41, 0, 0, 0) := by cases b <;> decide +kernel
theorem m41 : (tb_me 41).2 = ((0, 0), (1, 0)) ∧ (tb_me 41).1.2.2.1 = 3 := by decide +kernel
theorem d18_84 : decode (tb_me 18).1.2.1 84 = .ok (.aload_n 0, 1) := by decide +kernel
theorem d18_85 : decode (tb_me 18).1.2.1 85 = .ok (.getfield 61, 3) := by decide +kernel
theorem k18_61 (b : Bool) : tb_lk b 18 61 = (1, 0, 4, 0, 0) := by cases b <;> decide +kernel
theorem d18_88 : decode (tb_me 18).1.2.1 88 = .ok (.getfield 87, 3) := by decide +kernel
theorem k18_87 (b : Bool) : tb_lk b 18 87 = (1, 9, 1, 0, 0) := by cases b <;> decide +kernel
theorem d18_91 : decode (tb_me 18).1.2.1 91 = .ok (.invokevirtual 184, 3) := by decide +kernel
theorem k18_184 (b : Bool) : tb_lk b 18 184 = (2, 78, 0, 0, 0) := by cases b <;> decide +kernel
theorem d18_94 : decode (tb_me 18).1.2.1 94 = .ok (.iinc 3 1, 3) := by decide +kernel
theorem d18_97 : decode (tb_me 18).1.2.1 97 = .ok (.goto (-28), 3) := by decide +kernel
theorem d18_0 : decode (tb_me 18).1.2.1 0 = .ok (.aload_n 0, 1) := by decide +kernel
theorem d18_1 : decode (tb_me 18).1.2.1 1 = .ok (.getfield 61, 3) := by decide +kernel
theorem d18_4 : decode (tb_me 18).1.2.1 4 = .ok (.getfield 83, 3) := by decide +kernel
theorem k18_83 (b : Bool) : tb_lk b 18 83 = (1, 9, 0, 0, 0) := by cases b <;> decide +kernel
theorem d18_7 : decode (tb_me 18).1.2.1 7 = .ok (.invokevirtual 177, 3) := by decide +kernel
theorem k18_177 (b : Bool) : tb_lk b 18 177 = (2, 110, 0, 0, 0) := by cases b <;> decide +kernel
theorem d18_10 : decode (tb_me 18).1.2.1 10 = .ok (.ifCond .eq 24, 3) := by decide +kernel
theorem d18_34 : decode (tb_me 18).1.2.1 34 = .ok (.iconst (-1), 1) := by decide +kernel
theorem d18_35 : decode (tb_me 18).1.2.1 35 = .ok (.ireturn, 1) := by decide +kernel
theorem t18 : (tb_me 18).1.2.2.2 = some .int := by decide +kernel
theorem d18_13 : decode (tb_me 18).1.2.1 13 = .ok (.iload_n 1, 1) := by decide +kernel
theorem d18_14 : decode (tb_me 18).1.2.1 14 = .ok (.ifCond .lt 20, 3) := by decide +kernel
theorem d18_17 : decode (tb_me 18).1.2.1 17 = .ok (.iload_n 1, 1) := by decide +kernel
theorem d18_18 : decode (tb_me 18).1.2.1 18 = .ok (.aload_n 0, 1) := by decide +kernel
theorem d18_19 : decode (tb_me 18).1.2.1 19 = .ok (.getfield 22, 3) := by decide +kernel
theorem k18_22 (b : Bool) : tb_lk b 18 22 = (1, 0, 2, 0, 0) := by cases b <;> decide +kernel
theorem d18_22 : decode (tb_me 18).1.2.1 22 = .ok (.if_icmp .ge 12, 3) := by decide +kernel
theorem d18_25 : decode (tb_me 18).1.2.1 25 = .ok (.iload_n 1, 1) := by decide +kernel
theorem d18_26 : decode (tb_me 18).1.2.1 26 = .ok (.aload_n 0, 1) := by decide +kernel
theorem d18_27 : decode (tb_me 18).1.2.1 27 = .ok (.getfield 18, 3) := by decide +kernel
theorem d18_30 : decode (tb_me 18).1.2.1 30 = .ok (.arraylength, 1) := by decide +kernel
theorem d18_31 : decode (tb_me 18).1.2.1 31 = .ok (.if_icmp .lt 5, 3) := by decide +kernel
theorem d18_36 : decode (tb_me 18).1.2.1 36 = .ok (.iload_n 2, 1) := by decide +kernel
theorem d18_37 : decode (tb_me 18).1.2.1 37 = .ok (.iconst 1, 1) := by decide +kernel
theorem d18_38 : decode (tb_me 18).1.2.1 38 = .ok (.if_icmp .lt 27, 3) := by decide +kernel
theorem d18_65 : decode (tb_me 18).1.2.1 65 = .ok (.iconst (-1), 1) := by decide +kernel
theorem d18_66 : decode (tb_me 18).1.2.1 66 = .ok (.ireturn, 1) := by decide +kernel
theorem d18_41 : decode (tb_me 18).1.2.1 41 = .ok (.iload_n 2, 1) := by decide +kernel
theorem d18_42 : decode (tb_me 18).1.2.1 42 = .ok (.bipush 60, 2) := by decide +kernel
theorem d18_44 : decode (tb_me 18).1.2.1 44 = .ok (.if_icmp .gt 21, 3) := by decide +kernel
theorem d18_47 : decode (tb_me 18).1.2.1 47 = .ok (.aload_n 0, 1) := by decide +kernel
theorem d18_48 : decode (tb_me 18).1.2.1 48 = .ok (.getfield 61, 3) := by decide +kernel
theorem d18_51 : decode (tb_me 18).1.2.1 51 = .ok (.getfield 87, 3) := by decide +kernel
theorem d18_54 : decode (tb_me 18).1.2.1 54 = .ok (.getfield 181, 3) := by decide +kernel
theorem k18_181 (b : Bool) : tb_lk b 18 181 = (1, 3, 2, 0, 0) := by cases b <;> decide +kernel
theorem d18_57 : decode (tb_me 18).1.2.1 57 = .ok (.iload_n 2, 1) := by decide +kernel
theorem d18_58 : decode (tb_me 18).1.2.1 58 = .ok (.iadd, 1) := by decide +kernel
theorem d18_59 : decode (tb_me 18).1.2.1 59 = .ok (.sipush 999, 3) := by decide +kernel
theorem d18_62 : decode (tb_me 18).1.2.1 62 = .ok (.if_icmp .le 5, 3) := by decide +kernel
theorem d18_67 : decode (tb_me 18).1.2.1 67 = .ok (.iconst 0, 1) := by decide +kernel
theorem d18_68 : decode (tb_me 18).1.2.1 68 = .ok (.istore_n 3, 1) := by decide +kernel
theorem d18_100 : decode (tb_me 18).1.2.1 100 = .ok (.aload_n 0, 1) := by decide +kernel
theorem d18_101 : decode (tb_me 18).1.2.1 101 = .ok (.getfield 41, 3) := by decide +kernel
theorem k18_41 (b : Bool) : tb_lk b 18 41 = (1, 0, 6, 0, 0) := by cases b <;> decide +kernel
theorem d18_104 : decode (tb_me 18).1.2.1 104 = .ok (.invokevirtual 102, 3) := by decide +kernel
theorem k18_102 (b : Bool) : tb_lk b 18 102 = (2, 83, 0, 0, 0) := by cases b <;> decide +kernel
theorem d18_107 : decode (tb_me 18).1.2.1 107 = .ok (.aload_n 0, 1) := by decide +kernel
theorem d18_108 : decode (tb_me 18).1.2.1 108 = .ok (.getfield 61, 3) := by decide +kernel
theorem d18_111 : decode (tb_me 18).1.2.1 111 = .ok (.getfield 87, 3) := by decide +kernel
theorem d18_114 : decode (tb_me 18).1.2.1 114 = .ok (.getfield 181, 3) := by decide +kernel
theorem d18_117 : decode (tb_me 18).1.2.1 117 = .ok (.ireturn, 1) := by decide +kernel
theorem e18 : (tb_me 18).2.1 = (0, 0) ∧ (tb_me 18).1.2.2.1 = 4 := by decide +kernel
theorem d25_0 : decode (tb_me 25).1.2.1 0 = .ok (.aload_n 0, 1) := by decide +kernel
theorem d25_1 : decode (tb_me 25).1.2.1 1 = .ok (.iload_n 1, 1) := by decide +kernel
theorem d25_2 : decode (tb_me 25).1.2.1 2 = .ok (.iload_n 2, 1) := by decide +kernel
theorem d25_3 : decode (tb_me 25).1.2.1 3 = .ok (.invokevirtual 164, 3) := by decide +kernel
theorem k25_164 (b : Bool) : tb_lk b 25 164 = (2, 39, 0, 0, 0) := by cases b <;> decide +kernel
theorem d25_6 : decode (tb_me 25).1.2.1 6 = .ok (.istore 4, 2) := by decide +kernel
theorem d25_8 : decode (tb_me 25).1.2.1 8 = .ok (.iload 4, 2) := by decide +kernel
theorem d25_10 : decode (tb_me 25).1.2.1 10 = .ok (.iconst (-1), 1) := by decide +kernel
theorem d25_11 : decode (tb_me 25).1.2.1 11 = .ok (.if_icmp .eq 12, 3) := by decide +kernel
theorem d25_23 : decode (tb_me 25).1.2.1 23 = .ok (.iconst (-1), 1) := by decide +kernel
theorem d25_24 : decode (tb_me 25).1.2.1 24 = .ok (.ireturn, 1) := by decide +kernel
theorem t25 : (tb_me 25).1.2.2.2 = some .int := by decide +kernel
theorem d25_14 : decode (tb_me 25).1.2.1 14 = .ok (.iload_n 3, 1) := by decide +kernel
theorem d25_15 : decode (tb_me 25).1.2.1 15 = .ok (.ifCond .lt 8, 3) := by decide +kernel
theorem d25_18 : decode (tb_me 25).1.2.1 18 = .ok (.iload_n 3, 1) := by decide +kernel
theorem d25_19 : decode (tb_me 25).1.2.1 19 = .ok (.iconst 1, 1) := by decide +kernel
theorem d25_20 : decode (tb_me 25).1.2.1 20 = .ok (.if_icmp .le 5, 3) := by decide +kernel
theorem d25_25 : decode (tb_me 25).1.2.1 25 = .ok (.aload_n 0, 1) := by decide +kernel
theorem d25_26 : decode (tb_me 25).1.2.1 26 = .ok (.getfield 61, 3) := by decide +kernel
theorem k25_61 (b : Bool) : tb_lk b 25 61 = (1, 0, 4, 0, 0) := by cases b <;> decide +kernel
theorem d25_29 : decode (tb_me 25).1.2.1 29 = .ok (.getfield 83, 3) := by decide +kernel
theorem k25_83 (b : Bool) : tb_lk b 25 83 = (1, 9, 0, 0, 0) := by cases b <;> decide +kernel
theorem d25_32 : decode (tb_me 25).1.2.1 32 = .ok (.aload_n 0, 1) := by decide +kernel
theorem d25_33 : decode (tb_me 25).1.2.1 33 = .ok (.getfield 52, 3) := by decide +kernel
theorem k25_52 (b : Bool) : tb_lk b 25 52 = (1, 0, 8, 0, 0) := by cases b <;> decide +kernel
theorem d25_36 : decode (tb_me 25).1.2.1 36 = .ok (.aload_n 0, 1) := by decide +kernel
theorem d25_37 : decode (tb_me 25).1.2.1 37 = .ok (.iload_n 2, 1) := by decide +kernel
theorem d25_38 : decode (tb_me 25).1.2.1 38 = .ok (.aload_n 0, 1) := by decide +kernel
theorem d25_39 : decode (tb_me 25).1.2.1 39 = .ok (.getfield 61, 3) := by decide +kernel
theorem d25_42 : decode (tb_me 25).1.2.1 42 = .ok (.getfield 87, 3) := by decide +kernel
theorem k25_87 (b : Bool) : tb_lk b 25 87 = (1, 9, 1, 0, 0) := by cases b <;> decide +kernel
theorem d25_45 : decode (tb_me 25).1.2.1 45 = .ok (.aload_n 0, 1) := by decide +kernel
theorem d25_46 : decode (tb_me 25).1.2.1 46 = .ok (.getfield 61, 3) := by decide +kernel
theorem d25_49 : decode (tb_me 25).1.2.1 49 = .ok (.getfield 83, 3) := by decide +kernel
theorem d25_52 : decode (tb_me 25).1.2.1 52 = .ok (.invokevirtual 135, 3) := by decide +kernel
theorem k25_135 (b : Bool) : tb_lk b 25 135 = (2, 81, 0, 0, 0) := by cases b <;> decide +kernel
theorem d25_55 : decode (tb_me 25).1.2.1 55 = .ok (.invokevirtual 171, 3) := by decide +kernel
theorem k25_171 (b : Bool) : tb_lk b 25 171 = (2, 40, 0, 0, 0) := by cases b <;> decide +kernel
theorem d25_58 : decode (tb_me 25).1.2.1 58 = .ok (.invokevirtual 160, 3) := by decide +kernel
theorem k25_160 (b : Bool) : tb_lk b 25 160 = (2, 118, 0, 0, 0) := by cases b <;> decide +kernel
theorem d25_61 : decode (tb_me 25).1.2.1 61 = .ok (.istore 5, 2) := by decide +kernel
theorem d25_63 : decode (tb_me 25).1.2.1 63 = .ok (.aload_n 0, 1) := by decide +kernel
theorem d25_64 : decode (tb_me 25).1.2.1 64 = .ok (.getfield 48, 3) := by decide +kernel
theorem k25_48 (b : Bool) : tb_lk b 25 48 = (1, 0, 7, 0, 0) := by cases b <;> decide +kernel
theorem d25_67 : decode (tb_me 25).1.2.1 67 = .ok (.aload_n 0, 1) := by decide +kernel
theorem d25_68 : decode (tb_me 25).1.2.1 68 = .ok (.getfield 61, 3) := by decide +kernel
theorem d25_71 : decode (tb_me 25).1.2.1 71 = .ok (.getfield 83, 3) := by decide +kernel
theorem d25_74 : decode (tb_me 25).1.2.1 74 = .ok (.aload_n 0, 1) := by decide +kernel
theorem d25_75 : decode (tb_me 25).1.2.1 75 = .ok (.getfield 52, 3) := by decide +kernel
theorem d25_78 : decode (tb_me 25).1.2.1 78 = .ok (.iload 5, 2) := by decide +kernel
theorem d25_80 : decode (tb_me 25).1.2.1 80 = .ok (.invokevirtual 259, 3) := by decide +kernel
theorem k25_259 (b : Bool) : tb_lk b 25 259 = (2, 58, 0, 0, 0) := by cases b <;> decide +kernel
theorem m58 : (tb_me 58).2 = ((0, 0), (3, 1)) ∧ (tb_me 58).1.2.2.1 = 6 := by decide +kernel
theorem d25_83 : decode (tb_me 25).1.2.1 83 = .ok (.iload_n 3, 1) := by decide +kernel
theorem d25_84 : decode (tb_me 25).1.2.1 84 = .ok (.ifCond .ne 13, 3) := by decide +kernel
theorem d25_97 : decode (tb_me 25).1.2.1 97 = .ok (.aload_n 0, 1) := by decide +kernel
theorem d25_98 : decode (tb_me 25).1.2.1 98 = .ok (.getfield 48, 3) := by decide +kernel
theorem d25_101 : decode (tb_me 25).1.2.1 101 = .ok (.getfield 266, 3) := by decide +kernel
theorem k25_266 (b : Bool) : tb_lk b 25 266 = (1, 1, 10, 0, 0) := by cases b <;> decide +kernel
theorem d25_104 : decode (tb_me 25).1.2.1 104 = .ok (.ireturn, 1) := by decide +kernel
theorem d25_87 : decode (tb_me 25).1.2.1 87 = .ok (.aload_n 0, 1) := by decide +kernel
theorem d25_88 : decode (tb_me 25).1.2.1 88 = .ok (.getfield 48, 3) := by decide +kernel
theorem d25_91 : decode (tb_me 25).1.2.1 91 = .ok (.getfield 263, 3) := by decide +kernel
theorem k25_263 (b : Bool) : tb_lk b 25 263 = (1, 1, 9, 0, 0) := by cases b <;> decide +kernel
theorem d25_94 : decode (tb_me 25).1.2.1 94 = .ok (.goto 10, 3) := by decide +kernel
theorem e25 : (tb_me 25).2.1 = (0, 0) ∧ (tb_me 25).1.2.2.1 = 6 := by decide +kernel
theorem d36_4 : decode (tb_me 36).1.2.1 4 = .ok (.iload_n 2, 1) := by decide +kernel
theorem d36_5 : decode (tb_me 36).1.2.1 5 = .ok (.aload_n 0, 1) := by decide +kernel
theorem d36_6 : decode (tb_me 36).1.2.1 6 = .ok (.getfield 28, 3) := by decide +kernel
theorem k36_28 (b : Bool) : tb_lk b 36 28 = (1, 0, 3, 0, 0) := by cases b <;> decide +kernel
theorem f0_3 : (3 < pm_nf tb_cl 0) ∧ tb_ft 0 3 ≠ .long ∧ pm_isR (tb_ft 0 3) = true := by decide +kernel
theorem d36_9 : decode (tb_me 36).1.2.1 9 = .ok (.arraylength, 1) := by decide +kernel
theorem d36_10 : decode (tb_me 36).1.2.1 10 = .ok (.if_icmp .ge 24, 3) := by decide +kernel
theorem d36_13 : decode (tb_me 36).1.2.1 13 = .ok (.aload_n 0, 1) := by decide +kernel
theorem d36_14 : decode (tb_me 36).1.2.1 14 = .ok (.aload_n 0, 1) := by decide +kernel
theorem d36_15 : decode (tb_me 36).1.2.1 15 = .ok (.getfield 28, 3) := by decide +kernel
theorem d36_18 : decode (tb_me 36).1.2.1 18 = .ok (.iload_n 2, 1) := by decide +kernel
theorem d36_19 : decode (tb_me 36).1.2.1 19 = .ok (.aaload, 1) := by decide +kernel
theorem d36_20 : decode (tb_me 36).1.2.1 20 = .ok (.invokevirtual 320, 3) := by decide +kernel
theorem k36_320 (b : Bool) : tb_lk b 36 320 = (2, 37, 0, 0, 0) := by cases b <;> decide +kernel
theorem m37 : (tb_me 37).2 = ((0, 0), (1, 0)) ∧ (tb_me 37).1.2.2.1 = 4 := by decide +kernel
theorem d36_23 : decode (tb_me 36).1.2.1 23 = .ok (.ifCond .ne 5, 3) := by decide +kernel
theorem d36_28 : decode (tb_me 36).1.2.1 28 = .ok (.iinc 2 1, 3) := by decide +kernel
theorem d36_31 : decode (tb_me 36).1.2.1 31 = .ok (.goto (-27), 3) := by decide +kernel
theorem d36_26 : decode (tb_me 36).1.2.1 26 = .ok (.iload_n 2, 1) := by decide +kernel
theorem d36_27 : decode (tb_me 36).1.2.1 27 = .ok (.istore_n 1, 1) := by decide +kernel
theorem d36_0 : decode (tb_me 36).1.2.1 0 = .ok (.iconst 0, 1) := by decide +kernel
theorem d36_1 : decode (tb_me 36).1.2.1 1 = .ok (.istore_n 1, 1) := by decide +kernel
theorem d36_2 : decode (tb_me 36).1.2.1 2 = .ok (.iconst 0, 1) := by decide +kernel
theorem d36_3 : decode (tb_me 36).1.2.1 3 = .ok (.istore_n 2, 1) := by decide +kernel
theorem d36_34 : decode (tb_me 36).1.2.1 34 = .ok (.aload_n 0, 1) := by decide +kernel
theorem d36_35 : decode (tb_me 36).1.2.1 35 = .ok (.getfield 28, 3) := by decide +kernel
theorem d36_38 : decode (tb_me 36).1.2.1 38 = .ok (.iload_n 1, 1) := by decide +kernel
theorem d36_39 : decode (tb_me 36).1.2.1 39 = .ok (.aaload, 1) := by decide +kernel
theorem d36_40 : decode (tb_me 36).1.2.1 40 = .ok (.areturn, 1) := by decide +kernel
theorem t36 : (tb_me 36).1.2.2.2 = some (.object "ChoirShip$Ship") := by decide +kernel
theorem e36 : (tb_me 36).2.1 = (0, 0) ∧ (tb_me 36).1.2.2.1 = 3 := by decide +kernel
theorem d4_0 : decode (tb_me 4).1.2.1 0 = .ok (.aload_n 0, 1) := by decide +kernel
theorem d4_1 : decode (tb_me 4).1.2.1 1 = .ok (.invokevirtual 72, 3) := by decide +kernel
theorem k4_72 (b : Bool) : tb_lk b 4 72 = (2, 36, 0, 0, 0) := by cases b <;> decide +kernel
theorem m36 : (tb_me 36).2 = ((0, 0), (0, 0)) ∧ (tb_me 36).1.2.2.1 = 3 := by decide +kernel
theorem d4_4 : decode (tb_me 4).1.2.1 4 = .ok (.astore_n 1, 1) := by decide +kernel
theorem d4_5 : decode (tb_me 4).1.2.1 5 = .ok (.aload_n 1, 1) := by decide +kernel
theorem d4_6 : decode (tb_me 4).1.2.1 6 = .ok (.aload_n 0, 1) := by decide +kernel
theorem d4_7 : decode (tb_me 4).1.2.1 7 = .ok (.getfield 10, 3) := by decide +kernel
theorem k4_10 (b : Bool) : tb_lk b 4 10 = (1, 0, 0, 0, 0) := by cases b <;> decide +kernel
theorem d4_10 : decode (tb_me 4).1.2.1 10 = .ok (.invokevirtual 76, 3) := by decide +kernel
theorem k4_76 (b : Bool) : tb_lk b 4 76 = (2, 125, 0, 0, 0) := by cases b <;> decide +kernel
theorem m125 : (tb_me 125).2 = ((0, 0), (1, 7)) ∧ (tb_me 125).1.2.2.1 = 3 := by decide +kernel
theorem d4_13 : decode (tb_me 4).1.2.1 13 = .ok (.istore_n 2, 1) := by decide +kernel
theorem d4_14 : decode (tb_me 4).1.2.1 14 = .ok (.aload_n 0, 1) := by decide +kernel
theorem d4_15 : decode (tb_me 4).1.2.1 15 = .ok (.getfield 10, 3) := by decide +kernel
theorem d4_18 : decode (tb_me 4).1.2.1 18 = .ok (.iconst 0, 1) := by decide +kernel
theorem d4_19 : decode (tb_me 4).1.2.1 19 = .ok (.putfield 65, 3) := by decide +kernel
theorem k4_65 (b : Bool) : tb_lk b 4 65 = (1, 8, 1, 0, 0) := by cases b <;> decide +kernel
theorem p4_8_1 : (1 < pm_nf tb_cl 8) ∧ tb_ft 8 1 = .int ∧ pm_fin tb_cl (tb_me 4).1.1 8 1 = true := by decide +kernel
theorem d4_22 : decode (tb_me 4).1.2.1 22 = .ok (.iload_n 2, 1) := by decide +kernel
theorem d4_23 : decode (tb_me 4).1.2.1 23 = .ok (.ifCond .ne 14, 3) := by decide +kernel
theorem d4_37 : decode (tb_me 4).1.2.1 37 = .ok (.aload_n 0, 1) := by decide +kernel
theorem d4_38 : decode (tb_me 4).1.2.1 38 = .ok (.getfield 61, 3) := by decide +kernel
theorem k4_61 (b : Bool) : tb_lk b 4 61 = (1, 0, 4, 0, 0) := by cases b <;> decide +kernel
theorem d4_41 : decode (tb_me 4).1.2.1 41 = .ok (.aload_n 1, 1) := by decide +kernel
theorem d4_42 : decode (tb_me 4).1.2.1 42 = .ok (.putfield 83, 3) := by decide +kernel
theorem k4_83 (b : Bool) : tb_lk b 4 83 = (1, 9, 0, 0, 0) := by cases b <;> decide +kernel
theorem p4_9_0 : (0 < pm_nf tb_cl 9) ∧ pm_isR (tb_ft 9 0) = true ∧ pm_fin tb_cl (tb_me 4).1.1 9 0 = true := by decide +kernel
theorem d4_45 : decode (tb_me 4).1.2.1 45 = .ok (.aload_n 0, 1) := by decide +kernel
theorem d4_46 : decode (tb_me 4).1.2.1 46 = .ok (.getfield 61, 3) := by decide +kernel
theorem d4_49 : decode (tb_me 4).1.2.1 49 = .ok (.getfield 87, 3) := by decide +kernel
theorem k4_87 (b : Bool) : tb_lk b 4 87 = (1, 9, 1, 0, 0) := by cases b <;> decide +kernel
theorem d4_52 : decode (tb_me 4).1.2.1 52 = .ok (.aload_n 1, 1) := by decide +kernel
theorem d4_53 : decode (tb_me 4).1.2.1 53 = .ok (.getfield 91, 3) := by decide +kernel
theorem k4_91 (b : Bool) : tb_lk b 4 91 = (1, 7, 1, 0, 0) := by cases b <;> decide +kernel
theorem d4_56 : decode (tb_me 4).1.2.1 56 = .ok (.invokevirtual 94, 3) := by decide +kernel
theorem k4_94 (b : Bool) : tb_lk b 4 94 = (2, 75, 0, 0, 0) := by cases b <;> decide +kernel
theorem m75 : (tb_me 75).2 = ((0, 0), (1, 3)) ∧ (tb_me 75).1.2.2.1 = 2 := by decide +kernel
theorem d4_59 : decode (tb_me 4).1.2.1 59 = .ok (.aload_n 0, 1) := by decide +kernel
theorem d4_60 : decode (tb_me 4).1.2.1 60 = .ok (.getfield 61, 3) := by decide +kernel
theorem d4_63 : decode (tb_me 4).1.2.1 63 = .ok (.iconst 0, 1) := by decide +kernel
theorem d4_64 : decode (tb_me 4).1.2.1 64 = .ok (.putfield 99, 3) := by decide +kernel
theorem k4_99 (b : Bool) : tb_lk b 4 99 = (1, 9, 2, 0, 0) := by cases b <;> decide +kernel
theorem p4_9_2 : (2 < pm_nf tb_cl 9) ∧ tb_ft 9 2 = .int ∧ pm_fin tb_cl (tb_me 4).1.1 9 2 = true := by decide +kernel
theorem d4_67 : decode (tb_me 4).1.2.1 67 = .ok (.aload_n 0, 1) := by decide +kernel
theorem d4_68 : decode (tb_me 4).1.2.1 68 = .ok (.getfield 41, 3) := by decide +kernel
theorem k4_41 (b : Bool) : tb_lk b 4 41 = (1, 0, 6, 0, 0) := by cases b <;> decide +kernel
theorem d4_71 : decode (tb_me 4).1.2.1 71 = .ok (.invokevirtual 102, 3) := by decide +kernel
theorem k4_102 (b : Bool) : tb_lk b 4 102 = (2, 83, 0, 0, 0) := by cases b <;> decide +kernel
theorem d4_74 : decode (tb_me 4).1.2.1 74 = .ok (.aload_n 0, 1) := by decide +kernel
theorem d4_75 : decode (tb_me 4).1.2.1 75 = .ok (.getfield 48, 3) := by decide +kernel
theorem k4_48 (b : Bool) : tb_lk b 4 48 = (1, 0, 7, 0, 0) := by cases b <;> decide +kernel
theorem d4_78 : decode (tb_me 4).1.2.1 78 = .ok (.aload_n 1, 1) := by decide +kernel
theorem d4_79 : decode (tb_me 4).1.2.1 79 = .ok (.invokevirtual 105, 3) := by decide +kernel
theorem k4_105 (b : Bool) : tb_lk b 4 105 = (2, 43, 0, 0, 0) := by cases b <;> decide +kernel
theorem d4_82 : decode (tb_me 4).1.2.1 82 = .ok (.aload_n 1, 1) := by decide +kernel
theorem d4_83 : decode (tb_me 4).1.2.1 83 = .ok (.getfield 91, 3) := by decide +kernel
theorem d4_86 : decode (tb_me 4).1.2.1 86 = .ok (.ireturn, 1) := by decide +kernel
theorem t4 : (tb_me 4).1.2.2.2 = some .int := by decide +kernel
theorem d4_26 : decode (tb_me 4).1.2.1 26 = .ok (.bipush (-2), 2) := by decide +kernel
theorem d4_28 : decode (tb_me 4).1.2.1 28 = .ok (.aload_n 0, 1) := by decide +kernel
theorem d4_29 : decode (tb_me 4).1.2.1 29 = .ok (.getfield 10, 3) := by decide +kernel
theorem d4_32 : decode (tb_me 4).1.2.1 32 = .ok (.getfield 80, 3) := by decide +kernel
theorem k4_80 (b : Bool) : tb_lk b 4 80 = (1, 8, 7, 0, 0) := by cases b <;> decide +kernel
theorem d4_35 : decode (tb_me 4).1.2.1 35 = .ok (.isub, 1) := by decide +kernel
theorem d4_36 : decode (tb_me 4).1.2.1 36 = .ok (.ireturn, 1) := by decide +kernel
theorem e4 : (tb_me 4).2.1 = (0, 0) ∧ (tb_me 4).1.2.2.1 = 3 := by decide +kernel
def E_u_read_16 (b : Bool) (L : Nat) (xs : Nat → Int32) (d : Nat) (Q : Option Value → pm_H → Prop) (l0 : Nat) (l1 : Nat) : ((Int32 × pm_H) ⊕ pm_H ⊕ pm_H ⊕ pm_H ⊕ pm_H ⊕ pm_H ⊕ pm_H ⊕ pm_H) → Prop
  | .inl s => s.2.1 = tb_SH → ∀ w3 : Value, PW b L xs d 94 0 0 16 [(Value.ref l0), (Value.ref l1), (Value.int s.1), w3] [] s.2 Q
  | .inr (.inl e) => e.1 = tb_SH → ∀ w0 w2 w3 : Value, PW b L xs d 94 0 0 31 [w0, (Value.ref l1), w2, w3] [] e Q
  | .inr (.inr (.inl e)) => e.1 = tb_SH → ∀ w0 w2 w3 : Value, PW b L xs d 94 0 0 47 [w0, (Value.ref l1), w2, w3] [] e Q
  | .inr (.inr (.inr (.inl e))) => e.1 = tb_SH → ∀ w0 w1 w2 w3 : Value, PW b L xs d 94 0 0 69 [w0, w1, w2, w3] [] e Q
  | .inr (.inr (.inr (.inr (.inl e)))) => e.1 = tb_SH → ∀ w0 w1 w2 w3 : Value, PW b L xs d 94 0 0 95 [w0, w1, w2, w3] [] e Q
  | .inr (.inr (.inr (.inr (.inr (.inl e))))) => e.1 = tb_SH → ∀ w0 w1 w2 w3 : Value, PW b L xs d 94 0 0 119 [w0, w1, w2, w3] [] e Q
  | .inr (.inr (.inr (.inr (.inr (.inr (.inl e)))))) => e.1 = tb_SH → ∀ w0 w2 w3 : Value, PW b L xs d 94 0 0 130 [w0, (Value.ref l1), w2, w3] [] e Q
  | .inr (.inr (.inr (.inr (.inr (.inr (.inr e)))))) => e.1 = tb_SH → ∀ w0 w1 w2 w3 : Value, PW b L xs d 94 0 0 150 [w0, w1, w2, w3] [] e Q
noncomputable def u_read_109 (l0 : Nat) (l1 : Nat) (l2 : Int32) (z0 : Int32) (z1 : Nat) (h : pm_H) : Option ((Int32 × pm_H) ⊕ pm_H ⊕ pm_H ⊕ pm_H ⊕ pm_H ⊕ pm_H ⊕ pm_H ⊕ pm_H) := (u_step z1 z0 h).bind fun q1 => if ¬ (q1.2.1 l1 2) = 0 then ((t_isSign l1 ((Int8.ofInt 59).toInt32) q1).bind fun q3 => if ¬ q3 = 0 then ((t_advance l1 q1).bind fun q5 => some (.inl ((l2 + Int32.ofInt 1), q5))) else (some (.inr (.inr (.inr (.inr (.inr (.inr (.inl q1))))))))) else (some (.inr (.inr (.inr (.inr (.inr (.inl q1)))))))
theorem t_u_read_109 (b : Bool) (L : Nat) (xs : Nat → Int32) (d : Nat) (hd : 42 ≤ d) {Q : Option Value → pm_H → Prop} (h : pm_H) (s_h : h.1 = tb_SH) (l0 : Nat) (l1 : Nat) (l2 : Int32) (z0 : Int32) (z1 : Nat) (w3 : Value) (f_l0 : mi_o l0 6 = true) (f_l1 : mi_o l1 8 = true) (f_z1 : mi_o z1 6 = true) {r : ((Int32 × pm_H) ⊕ pm_H ⊕ pm_H ⊕ pm_H ⊕ pm_H ⊕ pm_H ⊕ pm_H ⊕ pm_H)} (hm : u_read_109 l0 l1 l2 z0 z1 h = some r) (hE : E_u_read_16 b L xs d Q l0 l1 r) : PW b L xs d 94 0 0 109 [(Value.ref l0), (Value.ref l1), (Value.int l2), w3] [(Value.int z0), (Value.ref z1)] h Q := by
  rw [u_read_109] at hm
  obtain ⟨q1, e_q1, hm⟩ := ob_x hm
  refine pw_v (pc := 109) (k := z1) (by omega) d94_109 (k94_60 b) (by decide) m101 (by decide) rfl (sho s_h f_z1) (Nat.le_of_ble_eq_true rfl) (Nat.le_of_ble_eq_true rfl) rfl rfl (T_u_step b L xs (d - 1) (by omega) h s_h z1 z0 f_z1 e_q1) (fun v0 h0 hq => ?_)
  obtain ⟨rfl, hh0, s_q1⟩ := hq
  rw [hh0] at s_q1 ⊢
  simp only [Option.toList_none, List.nil_append]
  refine pw_l (pc := 112) d94_112 rfl rfl rfl ?_
  refine pw_gi (pc := 113) d94_113 (k94_64 b) (sho s_q1 f_l1) f8_2 ?_
  refine pw_zne (pc := 116) (t := 121) d94_116 (by decide) (fun c2 => ?_) (fun c2 => ?_)
  · rw [if_pos c2] at hm
    refine pw_l (pc := 121) d94_121 rfl rfl rfl ?_
    refine pw_s (pc := 122) d94_122 rfl rfl ?_
    obtain ⟨q3, e_q3, hm⟩ := ob_x hm
    refine pw_v (pc := 124) (k := l1) (by omega) d94_124 (k94_67 b) (by decide) m140 (by decide) rfl (sho s_q1 f_l1) (Nat.le_of_ble_eq_true rfl) (Nat.le_of_ble_eq_true rfl) rfl rfl (T_t_isSign b L xs (d - 1) (by omega) q1 s_q1 l1 ((Int8.ofInt 59).toInt32) f_l1 e_q3) (fun v0 h0 hq => ?_)
    obtain ⟨rfl, hh0, s_q3⟩ := hq
    rw [hh0] at s_q3 ⊢
    simp only [Option.toList_some, List.cons_append, List.nil_append]
    refine pw_zne (pc := 127) (t := 140) d94_127 (by decide) (fun c4 => ?_) (fun c4 => ?_)
    · rw [if_pos c4] at hm
      refine pw_l (pc := 140) d94_140 rfl rfl rfl ?_
      obtain ⟨q5, e_q5, hm⟩ := ob_x hm
      refine pw_v (pc := 141) (k := l1) (by omega) d94_141 (k94_47 b) (by decide) m136 (by decide) rfl (sho s_q1 f_l1) (Nat.le_of_ble_eq_true rfl) (Nat.le_of_ble_eq_true rfl) rfl rfl (T_t_advance b L xs (d - 1) (by omega) q1 s_q1 l1 f_l1 e_q5) (fun v0 h0 hq => ?_)
      obtain ⟨rfl, hh0, s_q5⟩ := hq
      rw [hh0] at s_q5 ⊢
      simp only [Option.toList_none, List.nil_append]
      refine pw_t (pc := 144) d94_144 rfl rfl rfl rfl ?_
      refine pw_go (pc := 147) (t := 16) d94_147 (by decide) ?_
      obtain rfl := Option.some.inj hm
      exact hE s_q5  w3
    · rw [if_neg c4] at hm
      obtain rfl := Option.some.inj hm
      exact hE s_q1  (Value.ref l0) (Value.int l2) w3
  · rw [if_neg c2] at hm
    obtain rfl := Option.some.inj hm
    exact hE s_q1  (Value.ref l0) (Value.ref l1) (Value.int l2) w3
noncomputable def u_read_97 (l0 : Nat) (l1 : Nat) (l2 : Int32) (l3 : Int32) (h : pm_H) : Option ((Int32 × pm_H) ⊕ pm_H ⊕ pm_H ⊕ pm_H ⊕ pm_H ⊕ pm_H ⊕ pm_H ⊕ pm_H) := if l3 = 0 then (u_read_109 l0 l1 l2 ((Int8.ofInt (-15)).toInt32) l0 h) else (u_read_109 l0 l1 l2 ((Int8.ofInt (-16)).toInt32) l0 h)
theorem t_u_read_97 (b : Bool) (L : Nat) (xs : Nat → Int32) (d : Nat) (hd : 42 ≤ d) {Q : Option Value → pm_H → Prop} (h : pm_H) (s_h : h.1 = tb_SH) (l0 : Nat) (l1 : Nat) (l2 : Int32) (l3 : Int32) (f_l0 : mi_o l0 6 = true) (f_l1 : mi_o l1 8 = true) {r : ((Int32 × pm_H) ⊕ pm_H ⊕ pm_H ⊕ pm_H ⊕ pm_H ⊕ pm_H ⊕ pm_H ⊕ pm_H)} (hm : u_read_97 l0 l1 l2 l3 h = some r) (hE : E_u_read_16 b L xs d Q l0 l1 r) : PW b L xs d 94 0 0 97 [(Value.ref l0), (Value.ref l1), (Value.int l2), (Value.int l3)] [] h Q := by
  rw [u_read_97] at hm
  refine pw_l (pc := 97) d94_97 rfl rfl rfl ?_
  refine pw_l (pc := 98) d94_98 rfl rfl rfl ?_
  refine pw_zeq (pc := 99) (t := 107) d94_99 (by decide) (fun c1 => ?_) (fun c1 => ?_)
  · rw [if_pos c1] at hm
    refine pw_s (pc := 107) d94_107 rfl rfl ?_
    exact t_u_read_109 b L xs d hd h s_h l0 l1 l2 ((Int8.ofInt (-15)).toInt32) l0 (Value.int l3) f_l0 f_l1 f_l0 hm hE
  · rw [if_neg c1] at hm
    refine pw_s (pc := 102) d94_102 rfl rfl ?_
    refine pw_go (pc := 104) (t := 109) d94_104 (by decide) ?_
    exact t_u_read_109 b L xs d hd h s_h l0 l1 l2 ((Int8.ofInt (-16)).toInt32) l0 (Value.int l3) f_l0 f_l1 f_l0 hm hE
noncomputable def u_read_16 (l0 : Nat) (l1 : Nat) (l2 : Int32) (h : pm_H) : Option ((Int32 × pm_H) ⊕ pm_H ⊕ pm_H ⊕ pm_H ⊕ pm_H ⊕ pm_H ⊕ pm_H ⊕ pm_H) := if (Int8.ofInt 12).toInt32 < l2 then (some (.inr (.inr (.inr (.inr (.inr (.inr (.inr h)))))))) else ((t_isWord l1 5 h).bind fun q2 => if ¬ q2 = 0 then (if l2 < (Int8.ofInt 12).toInt32 then ((t_advance l1 h).bind fun q5 => (u_readSum l0 l1 q5).bind fun q6 => if ¬ q6.1 = 0 then ((t_isWord l1 9 q6.2).bind fun q8 => if q8 = 0 then (u_read_97 l0 l1 l2 q8 q6.2) else ((t_advance l1 q6.2).bind fun q10 => (u_rt 30 true l0 l1 (Int32.ofInt 0) q10).bind fun q11 => if ¬ q11.1 = 0 then (u_read_97 l0 l1 l2 q8 q11.2) else (some (.inr (.inr (.inr (.inr (.inl q11.2)))))))) else (some (.inr (.inr (.inr (.inl q6.2)))))) else (some (.inr (.inr (.inl h))))) else (some (.inr (.inl h))))
theorem t_u_read_16 (b : Bool) (L : Nat) (xs : Nat → Int32) (d : Nat) (hd : 42 ≤ d) {Q : Option Value → pm_H → Prop} (h : pm_H) (s_h : h.1 = tb_SH) (l0 : Nat) (l1 : Nat) (l2 : Int32) (w3 : Value) (f_l0 : mi_o l0 6 = true) (f_l1 : mi_o l1 8 = true) {r : ((Int32 × pm_H) ⊕ pm_H ⊕ pm_H ⊕ pm_H ⊕ pm_H ⊕ pm_H ⊕ pm_H ⊕ pm_H)} (hm : u_read_16 l0 l1 l2 h = some r) (hE : E_u_read_16 b L xs d Q l0 l1 r) : PW b L xs d 94 0 0 16 [(Value.ref l0), (Value.ref l1), (Value.int l2), w3] [] h Q := by
  rw [u_read_16] at hm
  refine pw_l (pc := 16) d94_16 rfl rfl rfl ?_
  refine pw_s (pc := 17) d94_17 rfl rfl ?_
  refine pw_igt (pc := 19) (t := 150) d94_19 (by decide) (fun c1 => ?_) (fun c1 => ?_)
  · rw [if_pos c1] at hm
    obtain rfl := Option.some.inj hm
    exact hE s_h  (Value.ref l0) (Value.ref l1) (Value.int l2) w3
  · rw [if_neg c1] at hm
    refine pw_l (pc := 22) d94_22 rfl rfl rfl ?_
    refine pw_tx (pc := 23) d94_23 (k94_34 b) ?_
    obtain ⟨q2, e_q2, hm⟩ := ob_x hm
    refine pw_v (pc := 25) (k := l1) (by omega) d94_25 (k94_36 b) (by decide) m138 (by decide) rfl (sho s_h f_l1) (Nat.le_of_ble_eq_true rfl) (Nat.le_of_ble_eq_true rfl) rfl rfl (T_t_isWord b L xs (d - 1) (by omega) h s_h l1 5 f_l1 e_q2) (fun v0 h0 hq => ?_)
    obtain ⟨rfl, hh0, s_q2⟩ := hq
    rw [hh0] at s_q2 ⊢
    simp only [Option.toList_some, List.cons_append, List.nil_append]
    refine pw_zne (pc := 28) (t := 41) d94_28 (by decide) (fun c3 => ?_) (fun c3 => ?_)
    · rw [if_pos c3] at hm
      refine pw_l (pc := 41) d94_41 rfl rfl rfl ?_
      refine pw_s (pc := 42) d94_42 rfl rfl ?_
      refine pw_ilt (pc := 44) (t := 57) d94_44 (by decide) (fun c4 => ?_) (fun c4 => ?_)
      · rw [if_pos c4] at hm
        refine pw_l (pc := 57) d94_57 rfl rfl rfl ?_
        obtain ⟨q5, e_q5, hm⟩ := ob_x hm
        refine pw_v (pc := 58) (k := l1) (by omega) d94_58 (k94_47 b) (by decide) m136 (by decide) rfl (sho s_h f_l1) (Nat.le_of_ble_eq_true rfl) (Nat.le_of_ble_eq_true rfl) rfl rfl (T_t_advance b L xs (d - 1) (by omega) h s_h l1 f_l1 e_q5) (fun v0 h0 hq => ?_)
        obtain ⟨rfl, hh0, s_q5⟩ := hq
        rw [hh0] at s_q5 ⊢
        simp only [Option.toList_none, List.nil_append]
        refine pw_l (pc := 61) d94_61 rfl rfl rfl ?_
        refine pw_l (pc := 62) d94_62 rfl rfl rfl ?_
        obtain ⟨q6, e_q6, hm⟩ := ob_x hm
        refine pw_v (pc := 63) (k := l0) (by omega) d94_63 (k94_50 b) (by decide) m98 (by decide) rfl (sho s_q5 f_l0) (Nat.le_of_ble_eq_true rfl) (Nat.le_of_ble_eq_true rfl) rfl rfl (T_u_readSum b L xs (d - 1) (by omega) q5 s_q5 l0 l1 f_l0 f_l1 e_q6) (fun v0 h0 hq => ?_)
        obtain ⟨rfl, hh0, s_q6⟩ := hq
        rw [hh0] at s_q6 ⊢
        simp only [Option.toList_some, List.cons_append, List.nil_append]
        refine pw_zne (pc := 66) (t := 71) d94_66 (by decide) (fun c7 => ?_) (fun c7 => ?_)
        · rw [if_pos c7] at hm
          refine pw_l (pc := 71) d94_71 rfl rfl rfl ?_
          refine pw_tx (pc := 72) d94_72 (k94_54 b) ?_
          obtain ⟨q8, e_q8, hm⟩ := ob_x hm
          refine pw_v (pc := 74) (k := l1) (by omega) d94_74 (k94_36 b) (by decide) m138 (by decide) rfl (sho s_q6 f_l1) (Nat.le_of_ble_eq_true rfl) (Nat.le_of_ble_eq_true rfl) rfl rfl (T_t_isWord b L xs (d - 1) (by omega) q6.2 s_q6 l1 9 f_l1 e_q8) (fun v0 h0 hq => ?_)
          obtain ⟨rfl, hh0, s_q8⟩ := hq
          rw [hh0] at s_q8 ⊢
          simp only [Option.toList_some, List.cons_append, List.nil_append]
          refine pw_t (pc := 77) d94_77 rfl rfl rfl rfl ?_
          refine pw_l (pc := 78) d94_78 rfl rfl rfl ?_
          refine pw_zeq (pc := 79) (t := 97) d94_79 (by decide) (fun c9 => ?_) (fun c9 => ?_)
          · rw [if_pos c9] at hm
            exact t_u_read_97 b L xs d hd q6.2 s_q6 l0 l1 l2 q8  f_l0 f_l1  hm hE
          · rw [if_neg c9] at hm
            refine pw_l (pc := 82) d94_82 rfl rfl rfl ?_
            obtain ⟨q10, e_q10, hm⟩ := ob_x hm
            refine pw_v (pc := 83) (k := l1) (by omega) d94_83 (k94_47 b) (by decide) m136 (by decide) rfl (sho s_q6 f_l1) (Nat.le_of_ble_eq_true rfl) (Nat.le_of_ble_eq_true rfl) rfl rfl (T_t_advance b L xs (d - 1) (by omega) q6.2 s_q6 l1 f_l1 e_q10) (fun v0 h0 hq => ?_)
            obtain ⟨rfl, hh0, s_q10⟩ := hq
            rw [hh0] at s_q10 ⊢
            simp only [Option.toList_none, List.nil_append]
            refine pw_l (pc := 86) d94_86 rfl rfl rfl ?_
            refine pw_l (pc := 87) d94_87 rfl rfl rfl ?_
            refine pw_s (pc := 88) d94_88 rfl rfl ?_
            obtain ⟨q11, e_q11, hm⟩ := ob_x hm
            refine pw_v (pc := 89) (k := l0) (by omega) d94_89 (k94_56 b) (by decide) m95 (by decide) rfl (sho s_q10 f_l0) (Nat.le_of_ble_eq_true rfl) (Nat.le_of_ble_eq_true rfl) rfl rfl (T_u_rt30 b L xs (d - 1) (by omega) q10 s_q10 l0 l1 (Int32.ofInt 0) f_l0 f_l1 e_q11) (fun v0 h0 hq => ?_)
            obtain ⟨rfl, hh0, s_q11⟩ := hq
            rw [hh0] at s_q11 ⊢
            simp only [Option.toList_some, List.cons_append, List.nil_append]
            refine pw_zne (pc := 92) (t := 97) d94_92 (by decide) (fun c12 => ?_) (fun c12 => ?_)
            · rw [if_pos c12] at hm
              exact t_u_read_97 b L xs d hd q11.2 s_q11 l0 l1 l2 q8  f_l0 f_l1  hm hE
            · rw [if_neg c12] at hm
              obtain rfl := Option.some.inj hm
              exact hE s_q11  (Value.ref l0) (Value.ref l1) (Value.int l2) (Value.int q8)
        · rw [if_neg c7] at hm
          obtain rfl := Option.some.inj hm
          exact hE s_q6  (Value.ref l0) (Value.ref l1) (Value.int l2) w3
      · rw [if_neg c4] at hm
        obtain rfl := Option.some.inj hm
        exact hE s_h  (Value.ref l0) (Value.int l2) w3
    · rw [if_neg c3] at hm
      obtain rfl := Option.some.inj hm
      exact hE s_h  (Value.ref l0) (Value.int l2) w3
noncomputable def u_read (l0 : Nat) (l1 : Nat) (h : pm_H) : Option (Int32 × pm_H) := bd (pm_setI h l0 1 (Int32.ofInt 0)) fun h1 => bd (pm_setI h1 l0 2 (Int32.ofInt 0)) fun h2 => (t_start l1 h2).bind fun q3 => (wh (fun s : (Int32 × pm_H) => u_read_16 l0 l1 s.1 s.2) ((Int32.ofInt 0), q3)).bind fun q4 => (match q4 with | (.inl eq4_0) => (t_blame l1 (eq4_0.2.1 l1 3) (Int32.ofInt 0) eq4_0).bind fun q5 => if mi_bo q5.1 = true then some (q5.1, q5.2) else none | (.inr (.inl eq4_1)) => (t_blame l1 (eq4_1.2.1 l1 3) (Int32.ofInt 4) eq4_1).bind fun q7 => if mi_bo q7.1 = true then some (q7.1, q7.2) else none | (.inr (.inr (.inl eq4_2))) => some ((Int32.ofInt 0), eq4_2) | (.inr (.inr (.inr (.inl eq4_3)))) => some ((Int32.ofInt 0), eq4_3) | (.inr (.inr (.inr (.inr (.inl eq4_4))))) => some ((Int32.ofInt 1), eq4_4) | (.inr (.inr (.inr (.inr (.inr (.inl eq4_5)))))) => (t_blame l1 (eq4_5.2.1 l1 3) (Int32.ofInt 0) eq4_5).bind fun q9 => if mi_bo q9.1 = true then some (q9.1, q9.2) else none | (.inr (.inr (.inr (.inr (.inr (.inr eq4_6)))))) => some ((Int32.ofInt 0), eq4_6))
theorem T_u_read (b : Bool) (L : Nat) (xs : Nat → Int32) (d : Nat) (hd : 42 ≤ d) (h : pm_H) (s_h : h.1 = tb_SH) (l0 : Nat) (l1 : Nat) (f_l0 : mi_o l0 6 = true) (f_l1 : mi_o l1 8 = true) {r : (Int32 × pm_H)} (hm : u_read l0 l1 h = some r) : PC b L xs d 94 [(Value.ref l0), (Value.ref l1)] h (fun (v0 : Option Value) (h2 : pm_H) => v0 = (some (Value.int r.1)) ∧ h2 = r.2 ∧ h2.1 = tb_SH) := by
  refine pc_in e94 (ls0 := [(Value.ref l0), (Value.ref l1), Value.retAddr 0, Value.retAddr 0]) rfl ?_
  have key : ∀ (Q : Option Value → pm_H → Prop), (r.2.1 = tb_SH → Q (some (Value.int r.1)) r.2) → PW b L xs d 94 0 0 0 [(Value.ref l0), (Value.ref l1), Value.retAddr 0, Value.retAddr 0] [] h Q := by
    intro Q hE
    rw [u_read] at hm
    refine pw_l (pc := 0) d94_0 rfl rfl rfl ?_
    refine pw_s (pc := 1) d94_1 rfl rfl ?_
    refine pw_pi (pc := 2) d94_2 (k94_15 b) (sho s_h f_l0) p94_6_1 ?_
    obtain ⟨h1, e_h1, hm⟩ := bd_x hm
    rw [e_h1]
    have s_h1 : h1.1 = tb_SH := by rw [← e_h1]; exact s_h
    refine pw_l (pc := 5) d94_5 rfl rfl rfl ?_
    refine pw_s (pc := 6) d94_6 rfl rfl ?_
    refine pw_pi (pc := 7) d94_7 (k94_19 b) (sho s_h1 f_l0) p94_6_2 ?_
    obtain ⟨h2, e_h2, hm⟩ := bd_x hm
    rw [e_h2]
    have s_h2 : h2.1 = tb_SH := by rw [← e_h2]; exact s_h1
    refine pw_l (pc := 10) d94_10 rfl rfl rfl ?_
    obtain ⟨q3, e_q3, hm⟩ := ob_x hm
    refine pw_v (pc := 11) (k := l1) (by omega) d94_11 (k94_29 b) (by decide) m135 (by decide) rfl (sho s_h2 f_l1) (Nat.le_of_ble_eq_true rfl) (Nat.le_of_ble_eq_true rfl) rfl rfl (T_t_start b L xs (d - 1) (by omega) h2 s_h2 l1 f_l1 e_q3) (fun v0 h0 hq => ?_)
    obtain ⟨rfl, hh0, s_q3⟩ := hq
    rw [hh0] at s_q3 ⊢
    simp only [Option.toList_none, List.nil_append]
    refine pw_s (pc := 14) d94_14 rfl rfl ?_
    refine pw_t (pc := 15) d94_15 rfl rfl rfl rfl ?_
    obtain ⟨q4, e_q4, hm⟩ := ob_x hm
    refine wh_ind e_q4 (fun s : (Int32 × pm_H) => s.2.1 = tb_SH → ∀ w3 : Value, PW b L xs d 94 0 0 16 [(Value.ref l0), (Value.ref l1), (Value.int s.1), w3] [] s.2 Q) (fun s s2 hf ih sx w3 => t_u_read_16 b L xs d hd s.2 sx l0 l1 s.1 w3 f_l0 f_l1 hf ih) (fun s hf sx w3 => t_u_read_16 b L xs d hd s.2 sx l0 l1 s.1 w3 f_l0 f_l1 hf ?_) s_q3  (Value.retAddr 0)
    rcases q4 with eq4_0 | eq4_1 | eq4_2 | eq4_3 | eq4_4 | eq4_5 | eq4_6
    · dsimp only at hm
      intro s_q4_0 w0 w2 w3
      refine pw_l (pc := 31) d94_31 rfl rfl rfl ?_
      refine pw_l (pc := 32) d94_32 rfl rfl rfl ?_
      refine pw_gi (pc := 33) d94_33 (k94_40 b) (sho s_q4_0 f_l1) f8_3 ?_
      refine pw_s (pc := 36) d94_36 rfl rfl ?_
      obtain ⟨q5, e_q5, hm⟩ := ob_x hm
      refine pw_v (pc := 37) (k := l1) (by omega) d94_37 (k94_43 b) (by decide) m141 (by decide) rfl (sho s_q4_0 f_l1) (Nat.le_of_ble_eq_true rfl) (Nat.le_of_ble_eq_true rfl) rfl rfl (T_t_blame b L xs (d - 1) (by omega) eq4_0 s_q4_0 l1 (eq4_0.2.1 l1 3) (Int32.ofInt 0) f_l1 e_q5) (fun v0 h0 hq => ?_)
      obtain ⟨rfl, hh0, s_q5⟩ := hq
      rw [hh0] at s_q5 ⊢
      simp only [Option.toList_some, List.cons_append, List.nil_append]
      obtain ⟨g6, hm⟩ := gd_x hm
      obtain rfl := Option.some.inj hm
      refine pw_ri (pc := 40) d94_40 t94 (pm_nz (mi_bo_x g6)) ?_
      exact hE s_q5
    · dsimp only at hm
      intro s_q4_1 w0 w2 w3
      refine pw_l (pc := 47) d94_47 rfl rfl rfl ?_
      refine pw_l (pc := 48) d94_48 rfl rfl rfl ?_
      refine pw_gi (pc := 49) d94_49 (k94_40 b) (sho s_q4_1 f_l1) f8_3 ?_
      refine pw_s (pc := 52) d94_52 rfl rfl ?_
      obtain ⟨q7, e_q7, hm⟩ := ob_x hm
      refine pw_v (pc := 53) (k := l1) (by omega) d94_53 (k94_43 b) (by decide) m141 (by decide) rfl (sho s_q4_1 f_l1) (Nat.le_of_ble_eq_true rfl) (Nat.le_of_ble_eq_true rfl) rfl rfl (T_t_blame b L xs (d - 1) (by omega) eq4_1 s_q4_1 l1 (eq4_1.2.1 l1 3) (Int32.ofInt 4) f_l1 e_q7) (fun v0 h0 hq => ?_)
      obtain ⟨rfl, hh0, s_q7⟩ := hq
      rw [hh0] at s_q7 ⊢
      simp only [Option.toList_some, List.cons_append, List.nil_append]
      obtain ⟨g8, hm⟩ := gd_x hm
      obtain rfl := Option.some.inj hm
      refine pw_ri (pc := 56) d94_56 t94 (pm_nz (mi_bo_x g8)) ?_
      exact hE s_q7
    · dsimp only at hm
      intro s_q4_2 w0 w1 w2 w3
      refine pw_s (pc := 69) d94_69 rfl rfl ?_
      obtain rfl := Option.some.inj hm
      refine pw_ri (pc := 70) d94_70 t94 rfl ?_
      exact hE s_q4_2
    · dsimp only at hm
      intro s_q4_3 w0 w1 w2 w3
      refine pw_s (pc := 95) d94_95 rfl rfl ?_
      obtain rfl := Option.some.inj hm
      refine pw_ri (pc := 96) d94_96 t94 rfl ?_
      exact hE s_q4_3
    · dsimp only at hm
      intro s_q4_4 w0 w1 w2 w3
      refine pw_s (pc := 119) d94_119 rfl rfl ?_
      obtain rfl := Option.some.inj hm
      refine pw_ri (pc := 120) d94_120 t94 rfl ?_
      exact hE s_q4_4
    · dsimp only at hm
      intro s_q4_5 w0 w2 w3
      refine pw_l (pc := 130) d94_130 rfl rfl rfl ?_
      refine pw_l (pc := 131) d94_131 rfl rfl rfl ?_
      refine pw_gi (pc := 132) d94_132 (k94_40 b) (sho s_q4_5 f_l1) f8_3 ?_
      refine pw_s (pc := 135) d94_135 rfl rfl ?_
      obtain ⟨q9, e_q9, hm⟩ := ob_x hm
      refine pw_v (pc := 136) (k := l1) (by omega) d94_136 (k94_43 b) (by decide) m141 (by decide) rfl (sho s_q4_5 f_l1) (Nat.le_of_ble_eq_true rfl) (Nat.le_of_ble_eq_true rfl) rfl rfl (T_t_blame b L xs (d - 1) (by omega) eq4_5 s_q4_5 l1 (eq4_5.2.1 l1 3) (Int32.ofInt 0) f_l1 e_q9) (fun v0 h0 hq => ?_)
      obtain ⟨rfl, hh0, s_q9⟩ := hq
      rw [hh0] at s_q9 ⊢
      simp only [Option.toList_some, List.cons_append, List.nil_append]
      obtain ⟨g10, hm⟩ := gd_x hm
      obtain rfl := Option.some.inj hm
      refine pw_ri (pc := 139) d94_139 t94 (pm_nz (mi_bo_x g10)) ?_
      exact hE s_q9
    · dsimp only at hm
      intro s_q4_6 w0 w1 w2 w3
      refine pw_s (pc := 150) d94_150 rfl rfl ?_
      obtain rfl := Option.some.inj hm
      refine pw_ri (pc := 151) d94_151 t94 rfl ?_
      exact hE s_q4_6
  exact key _ (fun q => ⟨rfl, rfl, q⟩)
noncomputable def x_feed (l0 : Nat) (l1 : Int32) (l2 : Int32) (l3 : Int32) (l4 : Int32) (l5 : Int32) (h : pm_H) : Option (Int32 × pm_H) := (gO h l0 0 8).bind fun y1 => if ((h.2.1 y1 1) + (Int8.ofInt 20).toInt32) ≤ (Int16.ofInt 400).toInt32 then ((gO h l0 0 8).bind fun y3 => (t_put y3 l1 h).bind fun q4 => (gO q4 l0 0 8).bind fun y5 => (t_put y5 l2 q4).bind fun q6 => (gO q6 l0 0 8).bind fun y7 => (t_put y7 l3 q6).bind fun q8 => (gO q8 l0 0 8).bind fun y9 => (t_put y9 l4 q8).bind fun q10 => (gO q10 l0 0 8).bind fun y11 => (t_put y11 l5 q10).bind fun q12 => (gO q12 l0 0 8).bind fun y13 => some ((q12.2.1 y13 1), q12)) else (some ((Int32.ofInt (-1)), h))
theorem T_x_feed (b : Bool) (L : Nat) (xs : Nat → Int32) (d : Nat) (hd : 1 ≤ d) (h : pm_H) (s_h : h.1 = tb_SH) (l0 : Nat) (l1 : Int32) (l2 : Int32) (l3 : Int32) (l4 : Int32) (l5 : Int32) (f_l0 : mi_o l0 0 = true) {r : (Int32 × pm_H)} (hm : x_feed l0 l1 l2 l3 l4 l5 h = some r) : PC b L xs d 2 [(Value.ref l0), (Value.int l1), (Value.int l2), (Value.int l3), (Value.int l4), (Value.int l5)] h (fun (v0 : Option Value) (h2 : pm_H) => v0 = (some (Value.int r.1)) ∧ h2 = r.2 ∧ h2.1 = tb_SH) := by
  refine pc_in e2 (ls0 := [(Value.ref l0), (Value.int l1), (Value.int l2), (Value.int l3), (Value.int l4), (Value.int l5)]) rfl ?_
  have key : ∀ (Q : Option Value → pm_H → Prop), (r.2.1 = tb_SH → Q (some (Value.int r.1)) r.2) → PW b L xs d 2 0 0 0 [(Value.ref l0), (Value.int l1), (Value.int l2), (Value.int l3), (Value.int l4), (Value.int l5)] [] h Q := by
    intro Q hE
    rw [x_feed] at hm
    refine pw_l (pc := 0) d2_0 rfl rfl rfl ?_
    obtain ⟨y1, e_y1, hm⟩ := ob_x hm
    have f_y1 := gO_x e_y1
    refine pw_gr (pc := 1) d2_1 (k2_10 b) (sho s_h f_l0) f0_0 f_y1.1 ?_
    refine pw_gi (pc := 4) d2_4 (k2_65 b) (sho s_h f_y1.2) f8_1 ?_
    refine pw_s (pc := 7) d2_7 rfl rfl ?_
    refine pw_s (pc := 9) d2_9 rfl rfl ?_
    refine pw_s (pc := 10) d2_10 rfl rfl ?_
    refine pw_ile (pc := 13) (t := 18) d2_13 (by decide) (fun c2 => ?_) (fun c2 => ?_)
    · rw [if_pos c2] at hm
      refine pw_l (pc := 18) d2_18 rfl rfl rfl ?_
      obtain ⟨y3, e_y3, hm⟩ := ob_x hm
      have f_y3 := gO_x e_y3
      refine pw_gr (pc := 19) d2_19 (k2_10 b) (sho s_h f_l0) f0_0 f_y3.1 ?_
      refine pw_l (pc := 22) d2_22 rfl rfl rfl ?_
      obtain ⟨q4, e_q4, hm⟩ := ob_x hm
      refine pw_v (pc := 23) (k := y3) (by omega) d2_23 (k2_68 b) (by decide) m134 (by decide) rfl (sho s_h f_y3.2) (Nat.le_of_ble_eq_true rfl) (Nat.le_of_ble_eq_true rfl) rfl rfl (T_t_put b L xs (d - 1) (by omega) h s_h y3 l1 f_y3.2 e_q4) (fun v0 h0 hq => ?_)
      obtain ⟨rfl, hh0, s_q4⟩ := hq
      rw [hh0] at s_q4 ⊢
      simp only [Option.toList_none, List.nil_append]
      refine pw_l (pc := 26) d2_26 rfl rfl rfl ?_
      obtain ⟨y5, e_y5, hm⟩ := ob_x hm
      have f_y5 := gO_x e_y5
      refine pw_gr (pc := 27) d2_27 (k2_10 b) (sho s_q4 f_l0) f0_0 f_y5.1 ?_
      refine pw_l (pc := 30) d2_30 rfl rfl rfl ?_
      obtain ⟨q6, e_q6, hm⟩ := ob_x hm
      refine pw_v (pc := 31) (k := y5) (by omega) d2_31 (k2_68 b) (by decide) m134 (by decide) rfl (sho s_q4 f_y5.2) (Nat.le_of_ble_eq_true rfl) (Nat.le_of_ble_eq_true rfl) rfl rfl (T_t_put b L xs (d - 1) (by omega) q4 s_q4 y5 l2 f_y5.2 e_q6) (fun v0 h0 hq => ?_)
      obtain ⟨rfl, hh0, s_q6⟩ := hq
      rw [hh0] at s_q6 ⊢
      simp only [Option.toList_none, List.nil_append]
      refine pw_l (pc := 34) d2_34 rfl rfl rfl ?_
      obtain ⟨y7, e_y7, hm⟩ := ob_x hm
      have f_y7 := gO_x e_y7
      refine pw_gr (pc := 35) d2_35 (k2_10 b) (sho s_q6 f_l0) f0_0 f_y7.1 ?_
      refine pw_l (pc := 38) d2_38 rfl rfl rfl ?_
      obtain ⟨q8, e_q8, hm⟩ := ob_x hm
      refine pw_v (pc := 39) (k := y7) (by omega) d2_39 (k2_68 b) (by decide) m134 (by decide) rfl (sho s_q6 f_y7.2) (Nat.le_of_ble_eq_true rfl) (Nat.le_of_ble_eq_true rfl) rfl rfl (T_t_put b L xs (d - 1) (by omega) q6 s_q6 y7 l3 f_y7.2 e_q8) (fun v0 h0 hq => ?_)
      obtain ⟨rfl, hh0, s_q8⟩ := hq
      rw [hh0] at s_q8 ⊢
      simp only [Option.toList_none, List.nil_append]
      refine pw_l (pc := 42) d2_42 rfl rfl rfl ?_
      obtain ⟨y9, e_y9, hm⟩ := ob_x hm
      have f_y9 := gO_x e_y9
      refine pw_gr (pc := 43) d2_43 (k2_10 b) (sho s_q8 f_l0) f0_0 f_y9.1 ?_
      refine pw_l (pc := 46) d2_46 rfl rfl rfl ?_
      obtain ⟨q10, e_q10, hm⟩ := ob_x hm
      refine pw_v (pc := 48) (k := y9) (by omega) d2_48 (k2_68 b) (by decide) m134 (by decide) rfl (sho s_q8 f_y9.2) (Nat.le_of_ble_eq_true rfl) (Nat.le_of_ble_eq_true rfl) rfl rfl (T_t_put b L xs (d - 1) (by omega) q8 s_q8 y9 l4 f_y9.2 e_q10) (fun v0 h0 hq => ?_)
      obtain ⟨rfl, hh0, s_q10⟩ := hq
      rw [hh0] at s_q10 ⊢
      simp only [Option.toList_none, List.nil_append]
      refine pw_l (pc := 51) d2_51 rfl rfl rfl ?_
      obtain ⟨y11, e_y11, hm⟩ := ob_x hm
      have f_y11 := gO_x e_y11
      refine pw_gr (pc := 52) d2_52 (k2_10 b) (sho s_q10 f_l0) f0_0 f_y11.1 ?_
      refine pw_l (pc := 55) d2_55 rfl rfl rfl ?_
      obtain ⟨q12, e_q12, hm⟩ := ob_x hm
      refine pw_v (pc := 57) (k := y11) (by omega) d2_57 (k2_68 b) (by decide) m134 (by decide) rfl (sho s_q10 f_y11.2) (Nat.le_of_ble_eq_true rfl) (Nat.le_of_ble_eq_true rfl) rfl rfl (T_t_put b L xs (d - 1) (by omega) q10 s_q10 y11 l5 f_y11.2 e_q12) (fun v0 h0 hq => ?_)
      obtain ⟨rfl, hh0, s_q12⟩ := hq
      rw [hh0] at s_q12 ⊢
      simp only [Option.toList_none, List.nil_append]
      refine pw_l (pc := 60) d2_60 rfl rfl rfl ?_
      obtain ⟨y13, e_y13, hm⟩ := ob_x hm
      have f_y13 := gO_x e_y13
      refine pw_gr (pc := 61) d2_61 (k2_10 b) (sho s_q12 f_l0) f0_0 f_y13.1 ?_
      refine pw_gi (pc := 64) d2_64 (k2_65 b) (sho s_q12 f_y13.2) f8_1 ?_
      obtain rfl := Option.some.inj hm
      refine pw_ri (pc := 67) d2_67 t2 rfl ?_
      exact hE s_q12
    · rw [if_neg c2] at hm
      refine pw_s (pc := 16) d2_16 rfl rfl ?_
      obtain rfl := Option.some.inj hm
      refine pw_ri (pc := 17) d2_17 t2 rfl ?_
      exact hE s_h
  exact key _ (fun q => ⟨rfl, rfl, q⟩)
noncomputable def x_end (l0 : Nat) (l1 : Int32) (h : pm_H) : Option (Int32 × pm_H) := if l1 < 0 then (some ((Int32.ofInt (-1)), h)) else ((gO h l0 0 8).bind fun y2 => if l1 ≤ (h.2.1 y2 1) then ((gO h l0 0 8).bind fun y4 => bd (pm_setI h y4 1 l1) fun h5 => some (l1, h5)) else (some ((Int32.ofInt (-1)), h)))
theorem T_x_end (b : Bool) (L : Nat) (xs : Nat → Int32) (d : Nat) (hd : 0 ≤ d) (h : pm_H) (s_h : h.1 = tb_SH) (l0 : Nat) (l1 : Int32) (f_l0 : mi_o l0 0 = true) {r : (Int32 × pm_H)} (hm : x_end l0 l1 h = some r) : PC b L xs d 3 [(Value.ref l0), (Value.int l1)] h (fun (v0 : Option Value) (h2 : pm_H) => v0 = (some (Value.int r.1)) ∧ h2 = r.2 ∧ h2.1 = tb_SH) := by
  refine pc_in e3 (ls0 := [(Value.ref l0), (Value.int l1)]) rfl ?_
  have key : ∀ (Q : Option Value → pm_H → Prop), (r.2.1 = tb_SH → Q (some (Value.int r.1)) r.2) → PW b L xs d 3 0 0 0 [(Value.ref l0), (Value.int l1)] [] h Q := by
    intro Q hE
    rw [x_end] at hm
    refine pw_l (pc := 0) d3_0 rfl rfl rfl ?_
    refine pw_zlt (pc := 1) (t := 15) d3_1 (by decide) (fun c1 => ?_) (fun c1 => ?_)
    · rw [if_pos c1] at hm
      refine pw_s (pc := 15) d3_15 rfl rfl ?_
      obtain rfl := Option.some.inj hm
      refine pw_ri (pc := 16) d3_16 t3 rfl ?_
      exact hE s_h
    · rw [if_neg c1] at hm
      refine pw_l (pc := 4) d3_4 rfl rfl rfl ?_
      refine pw_l (pc := 5) d3_5 rfl rfl rfl ?_
      obtain ⟨y2, e_y2, hm⟩ := ob_x hm
      have f_y2 := gO_x e_y2
      refine pw_gr (pc := 6) d3_6 (k3_10 b) (sho s_h f_l0) f0_0 f_y2.1 ?_
      refine pw_gi (pc := 9) d3_9 (k3_65 b) (sho s_h f_y2.2) f8_1 ?_
      refine pw_ile (pc := 12) (t := 17) d3_12 (by decide) (fun c3 => ?_) (fun c3 => ?_)
      · rw [if_pos c3] at hm
        refine pw_l (pc := 17) d3_17 rfl rfl rfl ?_
        obtain ⟨y4, e_y4, hm⟩ := ob_x hm
        have f_y4 := gO_x e_y4
        refine pw_gr (pc := 18) d3_18 (k3_10 b) (sho s_h f_l0) f0_0 f_y4.1 ?_
        refine pw_l (pc := 21) d3_21 rfl rfl rfl ?_
        refine pw_pi (pc := 22) d3_22 (k3_65 b) (sho s_h f_y4.2) p3_8_1 ?_
        obtain ⟨h5, e_h5, hm⟩ := bd_x hm
        rw [e_h5]
        have s_h5 : h5.1 = tb_SH := by rw [← e_h5]; exact s_h
        refine pw_l (pc := 25) d3_25 rfl rfl rfl ?_
        obtain rfl := Option.some.inj hm
        refine pw_ri (pc := 26) d3_26 t3 rfl ?_
        exact hE s_h5
      · rw [if_neg c3] at hm
        refine pw_s (pc := 15) d3_15 rfl rfl ?_
        obtain rfl := Option.some.inj hm
        refine pw_ri (pc := 16) d3_16 t3 rfl ?_
        exact hE s_h
  exact key _ (fun q => ⟨rfl, rfl, q⟩)
noncomputable def x_rule (l0 : Nat) (h : pm_H) : Option (Int32 × pm_H) := if (h.2.1 l0 2) < 0 then (some ((Int32.ofInt (-1)), h)) else ((gA h l0 1 (.object "ChoirShip$Rule")).bind fun y2 => if (h.2.1 l0 2) < (Int32.ofNat (mi_n y2)) then ((gA h l0 1 (.object "ChoirShip$Rule")).bind fun y4 => if mi_in (h.2.1 l0 2) (mi_n y4) = true then (gO h y4 (h.2.1 l0 2).toNatClampNeg 6).bind fun y6 => (gO h l0 0 8).bind fun y7 => (u_read y6 y7 h).bind fun q8 => (gO q8.2 l0 0 8).bind fun y9 => bd (pm_setI q8.2 y9 1 (Int32.ofInt 0)) fun h10 => if ¬ q8.1 = 0 then (bd (pm_setI h10 l0 2 ((h10.2.1 l0 2) + (Int32.ofInt 1))) fun h12 => some (((h12.2.1 l0 2) - (Int32.ofInt 1)), h12)) else ((gO h10 l0 0 8).bind fun y13 => some (((Int8.ofInt (-2)).toInt32 - (h10.2.1 y13 7)), h10)) else none) else (some ((Int32.ofInt (-1)), h)))
theorem T_x_rule (b : Bool) (L : Nat) (xs : Nat → Int32) (d : Nat) (hd : 43 ≤ d) (h : pm_H) (s_h : h.1 = tb_SH) (l0 : Nat) (f_l0 : mi_o l0 0 = true) {r : (Int32 × pm_H)} (hm : x_rule l0 h = some r) : PC b L xs d 5 [(Value.ref l0)] h (fun (v0 : Option Value) (h2 : pm_H) => v0 = (some (Value.int r.1)) ∧ h2 = r.2 ∧ h2.1 = tb_SH) := by
  refine pc_in e5 (ls0 := [(Value.ref l0), Value.retAddr 0]) rfl ?_
  have key : ∀ (Q : Option Value → pm_H → Prop), (r.2.1 = tb_SH → Q (some (Value.int r.1)) r.2) → PW b L xs d 5 0 0 0 [(Value.ref l0), Value.retAddr 0] [] h Q := by
    intro Q hE
    rw [x_rule] at hm
    refine pw_l (pc := 0) d5_0 rfl rfl rfl ?_
    refine pw_gi (pc := 1) d5_1 (k5_22 b) (sho s_h f_l0) f0_2 ?_
    refine pw_zlt (pc := 4) (t := 19) d5_4 (by decide) (fun c1 => ?_) (fun c1 => ?_)
    · rw [if_pos c1] at hm
      refine pw_s (pc := 19) d5_19 rfl rfl ?_
      obtain rfl := Option.some.inj hm
      refine pw_ri (pc := 20) d5_20 t5 rfl ?_
      exact hE s_h
    · rw [if_neg c1] at hm
      refine pw_l (pc := 7) d5_7 rfl rfl rfl ?_
      refine pw_gi (pc := 8) d5_8 (k5_22 b) (sho s_h f_l0) f0_2 ?_
      refine pw_l (pc := 11) d5_11 rfl rfl rfl ?_
      obtain ⟨y2, e_y2, hm⟩ := ob_x hm
      have f_y2 := gA_x e_y2
      refine pw_gr (pc := 12) d5_12 (k5_18 b) (sho s_h f_l0) f0_1 f_y2.1 ?_
      refine pw_an (pc := 15) d5_15 (sha s_h f_y2.2) ?_
      refine pw_ilt (pc := 16) (t := 21) d5_16 (by decide) (fun c3 => ?_) (fun c3 => ?_)
      · rw [if_pos c3] at hm
        refine pw_l (pc := 21) d5_21 rfl rfl rfl ?_
        obtain ⟨y4, e_y4, hm⟩ := ob_x hm
        have f_y4 := gA_x e_y4
        refine pw_gr (pc := 22) d5_22 (k5_18 b) (sho s_h f_l0) f0_1 f_y4.1 ?_
        refine pw_l (pc := 25) d5_25 rfl rfl rfl ?_
        refine pw_gi (pc := 26) d5_26 (k5_22 b) (sho s_h f_l0) f0_2 ?_
        obtain ⟨g5, hm⟩ := gd_x hm
        obtain ⟨y6, e_y6, hm⟩ := ob_x hm
        have f_y6 := gO_x e_y6
        refine pw_ar (pc := 29) d5_29 (sha s_h f_y4.2) (mi_in_x g5) f_y6.1 ?_
        refine pw_l (pc := 30) d5_30 rfl rfl rfl ?_
        obtain ⟨y7, e_y7, hm⟩ := ob_x hm
        have f_y7 := gO_x e_y7
        refine pw_gr (pc := 31) d5_31 (k5_10 b) (sho s_h f_l0) f0_0 f_y7.1 ?_
        obtain ⟨q8, e_q8, hm⟩ := ob_x hm
        refine pw_v (pc := 34) (k := y6) (by omega) d5_34 (k5_108 b) (by decide) m94 (by decide) rfl (sho s_h f_y6.2) (Nat.le_of_ble_eq_true rfl) (Nat.le_of_ble_eq_true rfl) rfl rfl (T_u_read b L xs (d - 1) (by omega) h s_h y6 y7 f_y6.2 f_y7.2 e_q8) (fun v0 h0 hq => ?_)
        obtain ⟨rfl, hh0, s_q8⟩ := hq
        rw [hh0] at s_q8 ⊢
        simp only [Option.toList_some, List.cons_append, List.nil_append]
        refine pw_t (pc := 37) d5_37 rfl rfl rfl rfl ?_
        refine pw_l (pc := 38) d5_38 rfl rfl rfl ?_
        obtain ⟨y9, e_y9, hm⟩ := ob_x hm
        have f_y9 := gO_x e_y9
        refine pw_gr (pc := 39) d5_39 (k5_10 b) (sho s_q8 f_l0) f0_0 f_y9.1 ?_
        refine pw_s (pc := 42) d5_42 rfl rfl ?_
        refine pw_pi (pc := 43) d5_43 (k5_65 b) (sho s_q8 f_y9.2) p5_8_1 ?_
        obtain ⟨h10, e_h10, hm⟩ := bd_x hm
        rw [e_h10]
        have s_h10 : h10.1 = tb_SH := by rw [← e_h10]; exact s_q8
        refine pw_l (pc := 46) d5_46 rfl rfl rfl ?_
        refine pw_zne (pc := 47) (t := 61) d5_47 (by decide) (fun c11 => ?_) (fun c11 => ?_)
        · rw [if_pos c11] at hm
          refine pw_l (pc := 61) d5_61 rfl rfl rfl ?_
          refine pw_s (pc := 62) d5_62 rfl rfl ?_
          refine pw_gi (pc := 63) d5_63 (k5_22 b) (sho s_h10 f_l0) f0_2 ?_
          refine pw_s (pc := 66) d5_66 rfl rfl ?_
          refine pw_s (pc := 67) d5_67 rfl rfl ?_
          refine pw_pi (pc := 68) d5_68 (k5_22 b) (sho s_h10 f_l0) p5_0_2 ?_
          obtain ⟨h12, e_h12, hm⟩ := bd_x hm
          rw [e_h12]
          have s_h12 : h12.1 = tb_SH := by rw [← e_h12]; exact s_h10
          refine pw_l (pc := 71) d5_71 rfl rfl rfl ?_
          refine pw_gi (pc := 72) d5_72 (k5_22 b) (sho s_h12 f_l0) f0_2 ?_
          refine pw_s (pc := 75) d5_75 rfl rfl ?_
          refine pw_s (pc := 76) d5_76 rfl rfl ?_
          obtain rfl := Option.some.inj hm
          refine pw_ri (pc := 77) d5_77 t5 rfl ?_
          exact hE s_h12
        · rw [if_neg c11] at hm
          refine pw_s (pc := 50) d5_50 rfl rfl ?_
          refine pw_l (pc := 52) d5_52 rfl rfl rfl ?_
          obtain ⟨y13, e_y13, hm⟩ := ob_x hm
          have f_y13 := gO_x e_y13
          refine pw_gr (pc := 53) d5_53 (k5_10 b) (sho s_h10 f_l0) f0_0 f_y13.1 ?_
          refine pw_gi (pc := 56) d5_56 (k5_80 b) (sho s_h10 f_y13.2) f8_7 ?_
          refine pw_s (pc := 59) d5_59 rfl rfl ?_
          obtain rfl := Option.some.inj hm
          refine pw_ri (pc := 60) d5_60 t5 rfl ?_
          exact hE s_h10
      · rw [if_neg c3] at hm
        refine pw_s (pc := 19) d5_19 rfl rfl ?_
        obtain rfl := Option.some.inj hm
        refine pw_ri (pc := 20) d5_20 t5 rfl ?_
        exact hE s_h
  exact key _ (fun q => ⟨rfl, rfl, q⟩)
noncomputable def x_man (l0 : Nat) (l1 : Int32) (l2 : Int32) (h : pm_H) : Option Int32 := (gO h l0 4 9).bind fun y1 => (gO h y1 0 7).bind fun y2 => (s_hasMan y2 l1 h).bind fun q3 => if ¬ q3 = 0 then ((gO h l0 4 9).bind fun y5 => (gO h y5 1 3).bind fun y6 => if l2 = (0 : Int32) then ((gO h l0 4 9).bind fun y8 => (gO h y8 0 7).bind fun y9 => (gA h y9 4 .int).bind fun y10 => if mi_in l1 (mi_n y10) = true then some (h.2.1 y10 l1.toNatClampNeg) else none) else (if l2 = (1 : Int32) then ((gO h l0 4 9).bind fun y13 => (gO h y13 0 7).bind fun y14 => (gA h y14 5 .int).bind fun y15 => if mi_in l1 (mi_n y15) = true then some (h.2.1 y15 l1.toNatClampNeg) else none) else (if l2 = (2 : Int32) then ((x_bit (h.2.1 y6 0) l1 h).bind fun q18 => some q18) else (if l2 = (3 : Int32) then ((gA h y6 5 .int).bind fun y20 => if mi_in l1 (mi_n y20) = true then some (h.2.1 y20 l1.toNatClampNeg) else none) else (if l2 = (4 : Int32) then ((x_bit (h.2.1 y6 1) l1 h).bind fun q23 => some q23) else (if l2 = (5 : Int32) then ((gA h y6 6 .int).bind fun y25 => if mi_in l1 (mi_n y25) = true then some (h.2.1 y25 l1.toNatClampNeg) else none) else (if l2 = (6 : Int32) then ((gO h l0 4 9).bind fun y28 => (gO h y28 0 7).bind fun y29 => (n_heard y6 y29 h).bind fun q30 => (x_bit q30 l1 h).bind fun q31 => some q31) else (some (Int32.ofInt (-1)))))))))) else (some (Int32.ofInt (-1)))
theorem T_x_man (b : Bool) (L : Nat) (xs : Nat → Int32) (d : Nat) (hd : 3 ≤ d) (h : pm_H) (s_h : h.1 = tb_SH) (l0 : Nat) (l1 : Int32) (l2 : Int32) (f_l0 : mi_o l0 0 = true) {r : Int32} (hm : x_man l0 l1 l2 h = some r) : PC b L xs d 6 [(Value.ref l0), (Value.int l1), (Value.int l2)] h (fun (v0 : Option Value) (h2 : pm_H) => v0 = (some (Value.int r)) ∧ h2 = h ∧ h2.1 = tb_SH) := by
  refine pc_in e6 (ls0 := [(Value.ref l0), (Value.int l1), (Value.int l2), Value.retAddr 0]) rfl ?_
  have key : ∀ (Q : Option Value → pm_H → Prop), (Q (some (Value.int r)) h) → PW b L xs d 6 0 0 0 [(Value.ref l0), (Value.int l1), (Value.int l2), Value.retAddr 0] [] h Q := by
    intro Q hE
    rw [x_man] at hm
    refine pw_l (pc := 0) d6_0 rfl rfl rfl ?_
    obtain ⟨y1, e_y1, hm⟩ := ob_x hm
    have f_y1 := gO_x e_y1
    refine pw_gr (pc := 1) d6_1 (k6_61 b) (sho s_h f_l0) f0_4 f_y1.1 ?_
    obtain ⟨y2, e_y2, hm⟩ := ob_x hm
    have f_y2 := gO_x e_y2
    refine pw_gr (pc := 4) d6_4 (k6_83 b) (sho s_h f_y1.2) f9_0 f_y2.1 ?_
    refine pw_l (pc := 7) d6_7 rfl rfl rfl ?_
    obtain ⟨q3, e_q3, hm⟩ := ob_x hm
    refine pw_v (pc := 8) (k := y2) (by omega) d6_8 (k6_109 b) (by decide) m112 (by decide) rfl (sho s_h f_y2.2) (Nat.le_of_ble_eq_true rfl) (Nat.le_of_ble_eq_true rfl) rfl rfl (T_s_hasMan b L xs (d - 1) (by omega) h s_h y2 l1 f_y2.2 e_q3) (fun v0 h0 hq => ?_)
    obtain ⟨rfl, hh0, s_q3⟩ := hq
    rw [hh0] at s_q3 ⊢
    simp only [Option.toList_some, List.cons_append, List.nil_append]
    refine pw_zne (pc := 11) (t := 16) d6_11 (by decide) (fun c4 => ?_) (fun c4 => ?_)
    · rw [if_pos c4] at hm
      refine pw_l (pc := 16) d6_16 rfl rfl rfl ?_
      obtain ⟨y5, e_y5, hm⟩ := ob_x hm
      have f_y5 := gO_x e_y5
      refine pw_gr (pc := 17) d6_17 (k6_61 b) (sho s_h f_l0) f0_4 f_y5.1 ?_
      obtain ⟨y6, e_y6, hm⟩ := ob_x hm
      have f_y6 := gO_x e_y6
      refine pw_gr (pc := 20) d6_20 (k6_87 b) (sho s_h f_y5.2) f9_1 f_y6.1 ?_
      refine pw_t (pc := 23) d6_23 rfl rfl rfl rfl ?_
      refine pw_l (pc := 24) d6_24 rfl rfl rfl ?_
      by_cases c7 : l2 = (0 : Int32)
      · rw [if_pos c7] at hm
        refine pw_tin (pc := 25) (t := 68) (off := 43) d6_25 (by rw [c7]; decide) (by rw [c7]; decide +kernel) (by decide) ?_
        refine pw_l (pc := 68) d6_68 rfl rfl rfl ?_
        obtain ⟨y8, e_y8, hm⟩ := ob_x hm
        have f_y8 := gO_x e_y8
        refine pw_gr (pc := 69) d6_69 (k6_61 b) (sho s_h f_l0) f0_4 f_y8.1 ?_
        obtain ⟨y9, e_y9, hm⟩ := ob_x hm
        have f_y9 := gO_x e_y9
        refine pw_gr (pc := 72) d6_72 (k6_83 b) (sho s_h f_y8.2) f9_0 f_y9.1 ?_
        obtain ⟨y10, e_y10, hm⟩ := ob_x hm
        have f_y10 := gA_x e_y10
        refine pw_gr (pc := 75) d6_75 (k6_113 b) (sho s_h f_y9.2) f7_4 f_y10.1 ?_
        refine pw_l (pc := 78) d6_78 rfl rfl rfl ?_
        obtain ⟨g11, hm⟩ := gd_x hm
        refine pw_ai (pc := 79) d6_79 (sha s_h f_y10.2) (mi_in_x g11) ?_
        obtain rfl := Option.some.inj hm
        refine pw_ri (pc := 80) d6_80 t6 rfl ?_
        exact hE
      rw [if_neg c7] at hm
      by_cases c12 : l2 = (1 : Int32)
      · rw [if_pos c12] at hm
        refine pw_tin (pc := 25) (t := 81) (off := 56) d6_25 (by rw [c12]; decide) (by rw [c12]; decide +kernel) (by decide) ?_
        refine pw_l (pc := 81) d6_81 rfl rfl rfl ?_
        obtain ⟨y13, e_y13, hm⟩ := ob_x hm
        have f_y13 := gO_x e_y13
        refine pw_gr (pc := 82) d6_82 (k6_61 b) (sho s_h f_l0) f0_4 f_y13.1 ?_
        obtain ⟨y14, e_y14, hm⟩ := ob_x hm
        have f_y14 := gO_x e_y14
        refine pw_gr (pc := 85) d6_85 (k6_83 b) (sho s_h f_y13.2) f9_0 f_y14.1 ?_
        obtain ⟨y15, e_y15, hm⟩ := ob_x hm
        have f_y15 := gA_x e_y15
        refine pw_gr (pc := 88) d6_88 (k6_116 b) (sho s_h f_y14.2) f7_5 f_y15.1 ?_
        refine pw_l (pc := 91) d6_91 rfl rfl rfl ?_
        obtain ⟨g16, hm⟩ := gd_x hm
        refine pw_ai (pc := 92) d6_92 (sha s_h f_y15.2) (mi_in_x g16) ?_
        obtain rfl := Option.some.inj hm
        refine pw_ri (pc := 93) d6_93 t6 rfl ?_
        exact hE
      rw [if_neg c12] at hm
      by_cases c17 : l2 = (2 : Int32)
      · rw [if_pos c17] at hm
        refine pw_tin (pc := 25) (t := 94) (off := 69) d6_25 (by rw [c17]; decide) (by rw [c17]; decide +kernel) (by decide) ?_
        refine pw_l (pc := 94) d6_94 rfl rfl rfl ?_
        refine pw_gi (pc := 95) d6_95 (k6_119 b) (sho s_h f_y6.2) f3_0 ?_
        refine pw_l (pc := 98) d6_98 rfl rfl rfl ?_
        obtain ⟨q18, e_q18, hm⟩ := ob_x hm
        refine pw_u (pc := 99) (by omega) d6_99 (k6_122 b) (by decide) m34 (Nat.le_of_ble_eq_true rfl) (Nat.le_of_ble_eq_true rfl) (Nat.le_of_ble_eq_true rfl) rfl rfl (T_x_bit b L xs (d - 1) (by omega) h s_h (h.2.1 y6 0) l1  e_q18) (fun v0 h0 hq => ?_)
        obtain ⟨rfl, hh0, s_q18⟩ := hq
        rw [hh0] at s_q18 ⊢
        simp only [Option.toList_some, List.cons_append, List.nil_append]
        obtain rfl := Option.some.inj hm
        refine pw_ri (pc := 102) d6_102 t6 rfl ?_
        exact hE
      rw [if_neg c17] at hm
      by_cases c19 : l2 = (3 : Int32)
      · rw [if_pos c19] at hm
        refine pw_tin (pc := 25) (t := 103) (off := 78) d6_25 (by rw [c19]; decide) (by rw [c19]; decide +kernel) (by decide) ?_
        refine pw_l (pc := 103) d6_103 rfl rfl rfl ?_
        obtain ⟨y20, e_y20, hm⟩ := ob_x hm
        have f_y20 := gA_x e_y20
        refine pw_gr (pc := 104) d6_104 (k6_126 b) (sho s_h f_y6.2) f3_5 f_y20.1 ?_
        refine pw_l (pc := 107) d6_107 rfl rfl rfl ?_
        obtain ⟨g21, hm⟩ := gd_x hm
        refine pw_ai (pc := 108) d6_108 (sha s_h f_y20.2) (mi_in_x g21) ?_
        obtain rfl := Option.some.inj hm
        refine pw_ri (pc := 109) d6_109 t6 rfl ?_
        exact hE
      rw [if_neg c19] at hm
      by_cases c22 : l2 = (4 : Int32)
      · rw [if_pos c22] at hm
        refine pw_tin (pc := 25) (t := 110) (off := 85) d6_25 (by rw [c22]; decide) (by rw [c22]; decide +kernel) (by decide) ?_
        refine pw_l (pc := 110) d6_110 rfl rfl rfl ?_
        refine pw_gi (pc := 111) d6_111 (k6_129 b) (sho s_h f_y6.2) f3_1 ?_
        refine pw_l (pc := 114) d6_114 rfl rfl rfl ?_
        obtain ⟨q23, e_q23, hm⟩ := ob_x hm
        refine pw_u (pc := 115) (by omega) d6_115 (k6_122 b) (by decide) m34 (Nat.le_of_ble_eq_true rfl) (Nat.le_of_ble_eq_true rfl) (Nat.le_of_ble_eq_true rfl) rfl rfl (T_x_bit b L xs (d - 1) (by omega) h s_h (h.2.1 y6 1) l1  e_q23) (fun v0 h0 hq => ?_)
        obtain ⟨rfl, hh0, s_q23⟩ := hq
        rw [hh0] at s_q23 ⊢
        simp only [Option.toList_some, List.cons_append, List.nil_append]
        obtain rfl := Option.some.inj hm
        refine pw_ri (pc := 118) d6_118 t6 rfl ?_
        exact hE
      rw [if_neg c22] at hm
      by_cases c24 : l2 = (5 : Int32)
      · rw [if_pos c24] at hm
        refine pw_tin (pc := 25) (t := 119) (off := 94) d6_25 (by rw [c24]; decide) (by rw [c24]; decide +kernel) (by decide) ?_
        refine pw_l (pc := 119) d6_119 rfl rfl rfl ?_
        obtain ⟨y25, e_y25, hm⟩ := ob_x hm
        have f_y25 := gA_x e_y25
        refine pw_gr (pc := 120) d6_120 (k6_132 b) (sho s_h f_y6.2) f3_6 f_y25.1 ?_
        refine pw_l (pc := 123) d6_123 rfl rfl rfl ?_
        obtain ⟨g26, hm⟩ := gd_x hm
        refine pw_ai (pc := 124) d6_124 (sha s_h f_y25.2) (mi_in_x g26) ?_
        obtain rfl := Option.some.inj hm
        refine pw_ri (pc := 125) d6_125 t6 rfl ?_
        exact hE
      rw [if_neg c24] at hm
      by_cases c27 : l2 = (6 : Int32)
      · rw [if_pos c27] at hm
        refine pw_tin (pc := 25) (t := 126) (off := 101) d6_25 (by rw [c27]; decide) (by rw [c27]; decide +kernel) (by decide) ?_
        refine pw_l (pc := 126) d6_126 rfl rfl rfl ?_
        refine pw_l (pc := 127) d6_127 rfl rfl rfl ?_
        obtain ⟨y28, e_y28, hm⟩ := ob_x hm
        have f_y28 := gO_x e_y28
        refine pw_gr (pc := 128) d6_128 (k6_61 b) (sho s_h f_l0) f0_4 f_y28.1 ?_
        obtain ⟨y29, e_y29, hm⟩ := ob_x hm
        have f_y29 := gO_x e_y29
        refine pw_gr (pc := 131) d6_131 (k6_83 b) (sho s_h f_y28.2) f9_0 f_y29.1 ?_
        obtain ⟨q30, e_q30, hm⟩ := ob_x hm
        refine pw_v (pc := 134) (k := y6) (by omega) d6_134 (k6_135 b) (by decide) m81 (by decide) rfl (sho s_h f_y6.2) (Nat.le_of_ble_eq_true rfl) (Nat.le_of_ble_eq_true rfl) rfl rfl (T_n_heard b L xs (d - 1) (by omega) h s_h y6 y29 f_y6.2 f_y29.2 e_q30) (fun v0 h0 hq => ?_)
        obtain ⟨rfl, hh0, s_q30⟩ := hq
        rw [hh0] at s_q30 ⊢
        simp only [Option.toList_some, List.cons_append, List.nil_append]
        refine pw_l (pc := 137) d6_137 rfl rfl rfl ?_
        obtain ⟨q31, e_q31, hm⟩ := ob_x hm
        refine pw_u (pc := 138) (by omega) d6_138 (k6_122 b) (by decide) m34 (Nat.le_of_ble_eq_true rfl) (Nat.le_of_ble_eq_true rfl) (Nat.le_of_ble_eq_true rfl) rfl rfl (T_x_bit b L xs (d - 1) (by omega) h s_h q30 l1  e_q31) (fun v0 h0 hq => ?_)
        obtain ⟨rfl, hh0, s_q31⟩ := hq
        rw [hh0] at s_q31 ⊢
        simp only [Option.toList_some, List.cons_append, List.nil_append]
        obtain rfl := Option.some.inj hm
        refine pw_ri (pc := 141) d6_141 t6 rfl ?_
        exact hE
      rw [if_neg c27] at hm
      refine pw_tout (pc := 25) (t := 142) d6_25 (mi_sw (x := l2) (lo := 0) (n := 7) (by decide) (by decide) (fun j hj => match j, hj with | 0, _ => c7 | 1, _ => c12 | 2, _ => c17 | 3, _ => c19 | 4, _ => c22 | 5, _ => c24 | 6, _ => c27 | j + 7, h => absurd h (by omega))) (by decide) ?_
      refine pw_s (pc := 142) d6_142 rfl rfl ?_
      obtain rfl := Option.some.inj hm
      refine pw_ri (pc := 143) d6_143 t6 rfl ?_
      exact hE
    · rw [if_neg c4] at hm
      refine pw_s (pc := 14) d6_14 rfl rfl ?_
      obtain rfl := Option.some.inj hm
      refine pw_ri (pc := 15) d6_15 t6 rfl ?_
      exact hE
  exact key _ ⟨rfl, rfl, s_h⟩
noncomputable def x_order (l0 : Nat) (l1 : Int32) (l2 : Int32) (h : pm_H) : Option Int32 := (gO h l0 4 9).bind fun y1 => (gO h y1 0 7).bind fun y2 => (s_hasOrder y2 l1 h).bind fun q3 => if q3 = 0 then (some (Int32.ofInt (-1))) else (if l2 < 0 then (some (Int32.ofInt (-1))) else (if l2 ≤ (Int32.ofInt 5) then (if ¬ l2 = 0 then (if ¬ l2 = (Int32.ofInt 1) then ((gA h y2 7 .int).bind fun y9 => if mi_in l1 (mi_n y9) = true then if (h.2.1 y9 l1.toNatClampNeg) ≤ (l2 - (Int32.ofInt 2)) then (some ((Int8.ofInt (-2)).toInt32)) else ((s_rowWord y2 l1 (l2 - (Int32.ofInt 2)) h).bind fun q12 => some q12) else none) else ((gA h y2 7 .int).bind fun y13 => if mi_in l1 (mi_n y13) = true then some (h.2.1 y13 l1.toNatClampNeg) else none)) else ((gA h y2 6 .int).bind fun y15 => if mi_in l1 (mi_n y15) = true then some (h.2.1 y15 l1.toNatClampNeg) else none)) else (some (Int32.ofInt (-1)))))
theorem T_x_order (b : Bool) (L : Nat) (xs : Nat → Int32) (d : Nat) (hd : 2 ≤ d) (h : pm_H) (s_h : h.1 = tb_SH) (l0 : Nat) (l1 : Int32) (l2 : Int32) (f_l0 : mi_o l0 0 = true) {r : Int32} (hm : x_order l0 l1 l2 h = some r) : PC b L xs d 7 [(Value.ref l0), (Value.int l1), (Value.int l2)] h (fun (v0 : Option Value) (h2 : pm_H) => v0 = (some (Value.int r)) ∧ h2 = h ∧ h2.1 = tb_SH) := by
  refine pc_in e7 (ls0 := [(Value.ref l0), (Value.int l1), (Value.int l2), Value.retAddr 0]) rfl ?_
  have key : ∀ (Q : Option Value → pm_H → Prop), (Q (some (Value.int r)) h) → PW b L xs d 7 0 0 0 [(Value.ref l0), (Value.int l1), (Value.int l2), Value.retAddr 0] [] h Q := by
    intro Q hE
    rw [x_order] at hm
    refine pw_l (pc := 0) d7_0 rfl rfl rfl ?_
    obtain ⟨y1, e_y1, hm⟩ := ob_x hm
    have f_y1 := gO_x e_y1
    refine pw_gr (pc := 1) d7_1 (k7_61 b) (sho s_h f_l0) f0_4 f_y1.1 ?_
    obtain ⟨y2, e_y2, hm⟩ := ob_x hm
    have f_y2 := gO_x e_y2
    refine pw_gr (pc := 4) d7_4 (k7_83 b) (sho s_h f_y1.2) f9_0 f_y2.1 ?_
    refine pw_t (pc := 7) d7_7 rfl rfl rfl rfl ?_
    refine pw_l (pc := 8) d7_8 rfl rfl rfl ?_
    refine pw_l (pc := 9) d7_9 rfl rfl rfl ?_
    obtain ⟨q3, e_q3, hm⟩ := ob_x hm
    refine pw_v (pc := 10) (k := y2) (by omega) d7_10 (k7_139 b) (by decide) m113 (by decide) rfl (sho s_h f_y2.2) (Nat.le_of_ble_eq_true rfl) (Nat.le_of_ble_eq_true rfl) rfl rfl (T_s_hasOrder b L xs (d - 1) (by omega) h s_h y2 l1 f_y2.2 e_q3) (fun v0 h0 hq => ?_)
    obtain ⟨rfl, hh0, s_q3⟩ := hq
    rw [hh0] at s_q3 ⊢
    simp only [Option.toList_some, List.cons_append, List.nil_append]
    refine pw_zeq (pc := 13) (t := 25) d7_13 (by decide) (fun c4 => ?_) (fun c4 => ?_)
    · rw [if_pos c4] at hm
      refine pw_s (pc := 25) d7_25 rfl rfl ?_
      obtain rfl := Option.some.inj hm
      refine pw_ri (pc := 26) d7_26 t7 rfl ?_
      exact hE
    · rw [if_neg c4] at hm
      refine pw_l (pc := 16) d7_16 rfl rfl rfl ?_
      refine pw_zlt (pc := 17) (t := 25) d7_17 (by decide) (fun c5 => ?_) (fun c5 => ?_)
      · rw [if_pos c5] at hm
        refine pw_s (pc := 25) d7_25 rfl rfl ?_
        obtain rfl := Option.some.inj hm
        refine pw_ri (pc := 26) d7_26 t7 rfl ?_
        exact hE
      · rw [if_neg c5] at hm
        refine pw_l (pc := 20) d7_20 rfl rfl rfl ?_
        refine pw_s (pc := 21) d7_21 rfl rfl ?_
        refine pw_ile (pc := 22) (t := 27) d7_22 (by decide) (fun c6 => ?_) (fun c6 => ?_)
        · rw [if_pos c6] at hm
          refine pw_l (pc := 27) d7_27 rfl rfl rfl ?_
          refine pw_zne (pc := 28) (t := 38) d7_28 (by decide) (fun c7 => ?_) (fun c7 => ?_)
          · rw [if_pos c7] at hm
            refine pw_l (pc := 38) d7_38 rfl rfl rfl ?_
            refine pw_s (pc := 39) d7_39 rfl rfl ?_
            refine pw_ine (pc := 40) (t := 50) d7_40 (by decide) (fun c8 => ?_) (fun c8 => ?_)
            · rw [if_pos c8] at hm
              refine pw_l (pc := 50) d7_50 rfl rfl rfl ?_
              refine pw_s (pc := 51) d7_51 rfl rfl ?_
              refine pw_s (pc := 52) d7_52 rfl rfl ?_
              refine pw_l (pc := 53) d7_53 rfl rfl rfl ?_
              obtain ⟨y9, e_y9, hm⟩ := ob_x hm
              have f_y9 := gA_x e_y9
              refine pw_gr (pc := 54) d7_54 (k7_145 b) (sho s_h f_y2.2) f7_7 f_y9.1 ?_
              refine pw_l (pc := 57) d7_57 rfl rfl rfl ?_
              obtain ⟨g10, hm⟩ := gd_x hm
              refine pw_ai (pc := 58) d7_58 (sha s_h f_y9.2) (mi_in_x g10) ?_
              refine pw_ige (pc := 59) (t := 73) d7_59 (by decide) (fun c11 => ?_) (fun c11 => ?_)
              · rw [if_pos c11] at hm
                refine pw_s (pc := 73) d7_73 rfl rfl ?_
                obtain rfl := Option.some.inj hm
                refine pw_ri (pc := 75) d7_75 t7 rfl ?_
                exact hE
              · rw [if_neg c11] at hm
                refine pw_l (pc := 62) d7_62 rfl rfl rfl ?_
                refine pw_l (pc := 63) d7_63 rfl rfl rfl ?_
                refine pw_l (pc := 64) d7_64 rfl rfl rfl ?_
                refine pw_s (pc := 65) d7_65 rfl rfl ?_
                refine pw_s (pc := 66) d7_66 rfl rfl ?_
                obtain ⟨q12, e_q12, hm⟩ := ob_x hm
                refine pw_v (pc := 67) (k := y2) (by omega) d7_67 (k7_147 b) (by decide) m116 (by decide) rfl (sho s_h f_y2.2) (Nat.le_of_ble_eq_true rfl) (Nat.le_of_ble_eq_true rfl) rfl rfl (T_s_rowWord b L xs (d - 1) (by omega) h s_h y2 l1 (l2 - (Int32.ofInt 2)) f_y2.2 e_q12) (fun v0 h0 hq => ?_)
                obtain ⟨rfl, hh0, s_q12⟩ := hq
                rw [hh0] at s_q12 ⊢
                simp only [Option.toList_some, List.cons_append, List.nil_append]
                refine pw_go (pc := 70) (t := 75) d7_70 (by decide) ?_
                obtain rfl := Option.some.inj hm
                refine pw_ri (pc := 75) d7_75 t7 rfl ?_
                exact hE
            · rw [if_neg c8] at hm
              refine pw_l (pc := 43) d7_43 rfl rfl rfl ?_
              obtain ⟨y13, e_y13, hm⟩ := ob_x hm
              have f_y13 := gA_x e_y13
              refine pw_gr (pc := 44) d7_44 (k7_145 b) (sho s_h f_y2.2) f7_7 f_y13.1 ?_
              refine pw_l (pc := 47) d7_47 rfl rfl rfl ?_
              obtain ⟨g14, hm⟩ := gd_x hm
              refine pw_ai (pc := 48) d7_48 (sha s_h f_y13.2) (mi_in_x g14) ?_
              obtain rfl := Option.some.inj hm
              refine pw_ri (pc := 49) d7_49 t7 rfl ?_
              exact hE
          · rw [if_neg c7] at hm
            refine pw_l (pc := 31) d7_31 rfl rfl rfl ?_
            obtain ⟨y15, e_y15, hm⟩ := ob_x hm
            have f_y15 := gA_x e_y15
            refine pw_gr (pc := 32) d7_32 (k7_142 b) (sho s_h f_y2.2) f7_6 f_y15.1 ?_
            refine pw_l (pc := 35) d7_35 rfl rfl rfl ?_
            obtain ⟨g16, hm⟩ := gd_x hm
            refine pw_ai (pc := 36) d7_36 (sha s_h f_y15.2) (mi_in_x g16) ?_
            obtain rfl := Option.some.inj hm
            refine pw_ri (pc := 37) d7_37 t7 rfl ?_
            exact hE
        · rw [if_neg c6] at hm
          refine pw_s (pc := 25) d7_25 rfl rfl ?_
          obtain rfl := Option.some.inj hm
          refine pw_ri (pc := 26) d7_26 t7 rfl ?_
          exact hE
  exact key _ ⟨rfl, rfl, s_h⟩
noncomputable def x_means (l0 : Nat) (l1 : Int32) (l2 : Int32) (h : pm_H) : Option Int32 := (gO h l0 4 9).bind fun y1 => (gO h y1 0 7).bind fun y2 => (s_hasWord y2 l1 h).bind fun q3 => if q3 = 0 then (some (Int32.ofInt (-1))) else ((gO h l0 4 9).bind fun y5 => (gO h y5 0 7).bind fun y6 => (s_hasWord y6 l2 h).bind fun q7 => if ¬ q7 = 0 then ((gO h l0 4 9).bind fun y9 => (gO h y9 0 7).bind fun y10 => (s_pair y10 l1 l2 h).bind fun q11 => some q11) else (some (Int32.ofInt (-1))))
theorem T_x_means (b : Bool) (L : Nat) (xs : Nat → Int32) (d : Nat) (hd : 1 ≤ d) (h : pm_H) (s_h : h.1 = tb_SH) (l0 : Nat) (l1 : Int32) (l2 : Int32) (f_l0 : mi_o l0 0 = true) {r : Int32} (hm : x_means l0 l1 l2 h = some r) : PC b L xs d 8 [(Value.ref l0), (Value.int l1), (Value.int l2)] h (fun (v0 : Option Value) (h2 : pm_H) => v0 = (some (Value.int r)) ∧ h2 = h ∧ h2.1 = tb_SH) := by
  refine pc_in e8 (ls0 := [(Value.ref l0), (Value.int l1), (Value.int l2)]) rfl ?_
  have key : ∀ (Q : Option Value → pm_H → Prop), (Q (some (Value.int r)) h) → PW b L xs d 8 0 0 0 [(Value.ref l0), (Value.int l1), (Value.int l2)] [] h Q := by
    intro Q hE
    rw [x_means] at hm
    refine pw_l (pc := 0) d8_0 rfl rfl rfl ?_
    obtain ⟨y1, e_y1, hm⟩ := ob_x hm
    have f_y1 := gO_x e_y1
    refine pw_gr (pc := 1) d8_1 (k8_61 b) (sho s_h f_l0) f0_4 f_y1.1 ?_
    obtain ⟨y2, e_y2, hm⟩ := ob_x hm
    have f_y2 := gO_x e_y2
    refine pw_gr (pc := 4) d8_4 (k8_83 b) (sho s_h f_y1.2) f9_0 f_y2.1 ?_
    refine pw_l (pc := 7) d8_7 rfl rfl rfl ?_
    obtain ⟨q3, e_q3, hm⟩ := ob_x hm
    refine pw_v (pc := 8) (k := y2) (by omega) d8_8 (k8_150 b) (by decide) m111 (by decide) rfl (sho s_h f_y2.2) (Nat.le_of_ble_eq_true rfl) (Nat.le_of_ble_eq_true rfl) rfl rfl (T_s_hasWord b L xs (d - 1) (by omega) h s_h y2 l1 f_y2.2 e_q3) (fun v0 h0 hq => ?_)
    obtain ⟨rfl, hh0, s_q3⟩ := hq
    rw [hh0] at s_q3 ⊢
    simp only [Option.toList_some, List.cons_append, List.nil_append]
    refine pw_zeq (pc := 11) (t := 28) d8_11 (by decide) (fun c4 => ?_) (fun c4 => ?_)
    · rw [if_pos c4] at hm
      refine pw_s (pc := 28) d8_28 rfl rfl ?_
      obtain rfl := Option.some.inj hm
      refine pw_ri (pc := 29) d8_29 t8 rfl ?_
      exact hE
    · rw [if_neg c4] at hm
      refine pw_l (pc := 14) d8_14 rfl rfl rfl ?_
      obtain ⟨y5, e_y5, hm⟩ := ob_x hm
      have f_y5 := gO_x e_y5
      refine pw_gr (pc := 15) d8_15 (k8_61 b) (sho s_h f_l0) f0_4 f_y5.1 ?_
      obtain ⟨y6, e_y6, hm⟩ := ob_x hm
      have f_y6 := gO_x e_y6
      refine pw_gr (pc := 18) d8_18 (k8_83 b) (sho s_h f_y5.2) f9_0 f_y6.1 ?_
      refine pw_l (pc := 21) d8_21 rfl rfl rfl ?_
      obtain ⟨q7, e_q7, hm⟩ := ob_x hm
      refine pw_v (pc := 22) (k := y6) (by omega) d8_22 (k8_150 b) (by decide) m111 (by decide) rfl (sho s_h f_y6.2) (Nat.le_of_ble_eq_true rfl) (Nat.le_of_ble_eq_true rfl) rfl rfl (T_s_hasWord b L xs (d - 1) (by omega) h s_h y6 l2 f_y6.2 e_q7) (fun v0 h0 hq => ?_)
      obtain ⟨rfl, hh0, s_q7⟩ := hq
      rw [hh0] at s_q7 ⊢
      simp only [Option.toList_some, List.cons_append, List.nil_append]
      refine pw_zne (pc := 25) (t := 30) d8_25 (by decide) (fun c8 => ?_) (fun c8 => ?_)
      · rw [if_pos c8] at hm
        refine pw_l (pc := 30) d8_30 rfl rfl rfl ?_
        obtain ⟨y9, e_y9, hm⟩ := ob_x hm
        have f_y9 := gO_x e_y9
        refine pw_gr (pc := 31) d8_31 (k8_61 b) (sho s_h f_l0) f0_4 f_y9.1 ?_
        obtain ⟨y10, e_y10, hm⟩ := ob_x hm
        have f_y10 := gO_x e_y10
        refine pw_gr (pc := 34) d8_34 (k8_83 b) (sho s_h f_y9.2) f9_0 f_y10.1 ?_
        refine pw_l (pc := 37) d8_37 rfl rfl rfl ?_
        refine pw_l (pc := 38) d8_38 rfl rfl rfl ?_
        obtain ⟨q11, e_q11, hm⟩ := ob_x hm
        refine pw_v (pc := 39) (k := y10) (by omega) d8_39 (k8_153 b) (by decide) m117 (by decide) rfl (sho s_h f_y10.2) (Nat.le_of_ble_eq_true rfl) (Nat.le_of_ble_eq_true rfl) rfl rfl (T_s_pair b L xs (d - 1) (by omega) h s_h y10 l1 l2 f_y10.2 e_q11) (fun v0 h0 hq => ?_)
        obtain ⟨rfl, hh0, s_q11⟩ := hq
        rw [hh0] at s_q11 ⊢
        simp only [Option.toList_some, List.cons_append, List.nil_append]
        obtain rfl := Option.some.inj hm
        refine pw_ri (pc := 42) d8_42 t8 rfl ?_
        exact hE
      · rw [if_neg c8] at hm
        refine pw_s (pc := 28) d8_28 rfl rfl ?_
        obtain rfl := Option.some.inj hm
        refine pw_ri (pc := 29) d8_29 t8 rfl ?_
        exact hE
  exact key _ ⟨rfl, rfl, s_h⟩
noncomputable def x_hour (l0 : Nat) (h : pm_H) : Option (Int32 × pm_H) := (gO h l0 4 9).bind fun y1 => (gO h y1 0 7).bind fun y2 => (s_sails y2 h).bind fun q3 => if q3 = 0 then (some ((Int32.ofInt (-1)), h)) else ((gO h l0 4 9).bind fun y5 => (gO h y5 1 3).bind fun y6 => if (h.2.1 y6 2) < (Int16.ofInt 999).toInt32 then ((gO h l0 6 4).bind fun y8 => (gO h l0 4 9).bind fun y9 => (gO h y9 1 3).bind fun y10 => (p_keep y8 y10 h).bind fun q11 => (gO q11 l0 4 9).bind fun y12 => (gO q11 y12 1 3).bind fun y13 => (n_pass y13 q11).bind fun q14 => (gO q14 l0 4 9).bind fun y15 => (gO q14 y15 1 3).bind fun y16 => some ((q14.2.1 y16 2), q14)) else (some ((Int32.ofInt (-1)), h)))
theorem T_x_hour (b : Bool) (L : Nat) (xs : Nat → Int32) (d : Nat) (hd : 3 ≤ d) (h : pm_H) (s_h : h.1 = tb_SH) (l0 : Nat) (f_l0 : mi_o l0 0 = true) {r : (Int32 × pm_H)} (hm : x_hour l0 h = some r) : PC b L xs d 11 [(Value.ref l0)] h (fun (v0 : Option Value) (h2 : pm_H) => v0 = (some (Value.int r.1)) ∧ h2 = r.2 ∧ h2.1 = tb_SH) := by
  refine pc_in e11 (ls0 := [(Value.ref l0)]) rfl ?_
  have key : ∀ (Q : Option Value → pm_H → Prop), (r.2.1 = tb_SH → Q (some (Value.int r.1)) r.2) → PW b L xs d 11 0 0 0 [(Value.ref l0)] [] h Q := by
    intro Q hE
    rw [x_hour] at hm
    refine pw_l (pc := 0) d11_0 rfl rfl rfl ?_
    obtain ⟨y1, e_y1, hm⟩ := ob_x hm
    have f_y1 := gO_x e_y1
    refine pw_gr (pc := 1) d11_1 (k11_61 b) (sho s_h f_l0) f0_4 f_y1.1 ?_
    obtain ⟨y2, e_y2, hm⟩ := ob_x hm
    have f_y2 := gO_x e_y2
    refine pw_gr (pc := 4) d11_4 (k11_83 b) (sho s_h f_y1.2) f9_0 f_y2.1 ?_
    obtain ⟨q3, e_q3, hm⟩ := ob_x hm
    refine pw_v (pc := 7) (k := y2) (by omega) d11_7 (k11_177 b) (by decide) m110 (by decide) rfl (sho s_h f_y2.2) (Nat.le_of_ble_eq_true rfl) (Nat.le_of_ble_eq_true rfl) rfl rfl (T_s_sails b L xs (d - 1) (by omega) h s_h y2 f_y2.2 e_q3) (fun v0 h0 hq => ?_)
    obtain ⟨rfl, hh0, s_q3⟩ := hq
    rw [hh0] at s_q3 ⊢
    simp only [Option.toList_some, List.cons_append, List.nil_append]
    refine pw_zeq (pc := 10) (t := 29) d11_10 (by decide) (fun c4 => ?_) (fun c4 => ?_)
    · rw [if_pos c4] at hm
      refine pw_s (pc := 29) d11_29 rfl rfl ?_
      obtain rfl := Option.some.inj hm
      refine pw_ri (pc := 30) d11_30 t11 rfl ?_
      exact hE s_h
    · rw [if_neg c4] at hm
      refine pw_l (pc := 13) d11_13 rfl rfl rfl ?_
      obtain ⟨y5, e_y5, hm⟩ := ob_x hm
      have f_y5 := gO_x e_y5
      refine pw_gr (pc := 14) d11_14 (k11_61 b) (sho s_h f_l0) f0_4 f_y5.1 ?_
      obtain ⟨y6, e_y6, hm⟩ := ob_x hm
      have f_y6 := gO_x e_y6
      refine pw_gr (pc := 17) d11_17 (k11_87 b) (sho s_h f_y5.2) f9_1 f_y6.1 ?_
      refine pw_gi (pc := 20) d11_20 (k11_181 b) (sho s_h f_y6.2) f3_2 ?_
      refine pw_s (pc := 23) d11_23 rfl rfl ?_
      refine pw_ilt (pc := 26) (t := 31) d11_26 (by decide) (fun c7 => ?_) (fun c7 => ?_)
      · rw [if_pos c7] at hm
        refine pw_l (pc := 31) d11_31 rfl rfl rfl ?_
        obtain ⟨y8, e_y8, hm⟩ := ob_x hm
        have f_y8 := gO_x e_y8
        refine pw_gr (pc := 32) d11_32 (k11_41 b) (sho s_h f_l0) f0_6 f_y8.1 ?_
        refine pw_l (pc := 35) d11_35 rfl rfl rfl ?_
        obtain ⟨y9, e_y9, hm⟩ := ob_x hm
        have f_y9 := gO_x e_y9
        refine pw_gr (pc := 36) d11_36 (k11_61 b) (sho s_h f_l0) f0_4 f_y9.1 ?_
        obtain ⟨y10, e_y10, hm⟩ := ob_x hm
        have f_y10 := gO_x e_y10
        refine pw_gr (pc := 39) d11_39 (k11_87 b) (sho s_h f_y9.2) f9_1 f_y10.1 ?_
        obtain ⟨q11, e_q11, hm⟩ := ob_x hm
        refine pw_v (pc := 42) (k := y8) (by omega) d11_42 (k11_167 b) (by decide) m84 (by decide) rfl (sho s_h f_y8.2) (Nat.le_of_ble_eq_true rfl) (Nat.le_of_ble_eq_true rfl) rfl rfl (T_p_keep b L xs (d - 1) (by omega) h s_h y8 y10 f_y8.2 f_y10.2 e_q11) (fun v0 h0 hq => ?_)
        obtain ⟨rfl, hh0, s_q11⟩ := hq
        rw [hh0] at s_q11 ⊢
        simp only [Option.toList_none, List.nil_append]
        refine pw_l (pc := 45) d11_45 rfl rfl rfl ?_
        obtain ⟨y12, e_y12, hm⟩ := ob_x hm
        have f_y12 := gO_x e_y12
        refine pw_gr (pc := 46) d11_46 (k11_61 b) (sho s_q11 f_l0) f0_4 f_y12.1 ?_
        obtain ⟨y13, e_y13, hm⟩ := ob_x hm
        have f_y13 := gO_x e_y13
        refine pw_gr (pc := 49) d11_49 (k11_87 b) (sho s_q11 f_y12.2) f9_1 f_y13.1 ?_
        obtain ⟨q14, e_q14, hm⟩ := ob_x hm
        refine pw_v (pc := 52) (k := y13) (by omega) d11_52 (k11_184 b) (by decide) m78 (by decide) rfl (sho s_q11 f_y13.2) (Nat.le_of_ble_eq_true rfl) (Nat.le_of_ble_eq_true rfl) rfl rfl (T_n_pass b L xs (d - 1) (by omega) q11 s_q11 y13 f_y13.2 e_q14) (fun v0 h0 hq => ?_)
        obtain ⟨rfl, hh0, s_q14⟩ := hq
        rw [hh0] at s_q14 ⊢
        simp only [Option.toList_none, List.nil_append]
        refine pw_l (pc := 55) d11_55 rfl rfl rfl ?_
        obtain ⟨y15, e_y15, hm⟩ := ob_x hm
        have f_y15 := gO_x e_y15
        refine pw_gr (pc := 56) d11_56 (k11_61 b) (sho s_q14 f_l0) f0_4 f_y15.1 ?_
        obtain ⟨y16, e_y16, hm⟩ := ob_x hm
        have f_y16 := gO_x e_y16
        refine pw_gr (pc := 59) d11_59 (k11_87 b) (sho s_q14 f_y15.2) f9_1 f_y16.1 ?_
        refine pw_gi (pc := 62) d11_62 (k11_181 b) (sho s_q14 f_y16.2) f3_2 ?_
        obtain rfl := Option.some.inj hm
        refine pw_ri (pc := 65) d11_65 t11 rfl ?_
        exact hE s_q14
      · rw [if_neg c7] at hm
        refine pw_s (pc := 29) d11_29 rfl rfl ?_
        obtain rfl := Option.some.inj hm
        refine pw_ri (pc := 30) d11_30 t11 rfl ?_
        exact hE s_h
  exact key _ (fun q => ⟨rfl, rfl, q⟩)
noncomputable def x_teach (l0 : Nat) (l1 : Int32) (h : pm_H) : Option (Int32 × pm_H) := (gO h l0 4 9).bind fun y1 => (gO h y1 0 7).bind fun y2 => (s_hasWord y2 l1 h).bind fun q3 => if q3 = 0 then (some ((Int8.ofInt (-2)).toInt32, h)) else ((gO h l0 4 9).bind fun y5 => (gO h y5 1 3).bind fun y6 => if ¬ l1 = (h.2.1 y6 4) then ((gO h l0 6 4).bind fun y8 => (gO h l0 4 9).bind fun y9 => (gO h y9 1 3).bind fun y10 => (p_keep y8 y10 h).bind fun q11 => (gO q11 l0 4 9).bind fun y12 => (gO q11 y12 1 3).bind fun y13 => (gO q11 l0 4 9).bind fun y14 => (gO q11 y14 1 3).bind fun y15 => bd (pm_setI q11 y15 4 l1) fun h16 => some ((q11.2.1 y13 4), h16)) else (some ((Int8.ofInt (-2)).toInt32, h)))
theorem T_x_teach (b : Bool) (L : Nat) (xs : Nat → Int32) (d : Nat) (hd : 3 ≤ d) (h : pm_H) (s_h : h.1 = tb_SH) (l0 : Nat) (l1 : Int32) (f_l0 : mi_o l0 0 = true) {r : (Int32 × pm_H)} (hm : x_teach l0 l1 h = some r) : PC b L xs d 15 [(Value.ref l0), (Value.int l1)] h (fun (v0 : Option Value) (h2 : pm_H) => v0 = (some (Value.int r.1)) ∧ h2 = r.2 ∧ h2.1 = tb_SH) := by
  refine pc_in e15 (ls0 := [(Value.ref l0), (Value.int l1), Value.retAddr 0]) rfl ?_
  have key : ∀ (Q : Option Value → pm_H → Prop), (r.2.1 = tb_SH → Q (some (Value.int r.1)) r.2) → PW b L xs d 15 0 0 0 [(Value.ref l0), (Value.int l1), Value.retAddr 0] [] h Q := by
    intro Q hE
    rw [x_teach] at hm
    refine pw_l (pc := 0) d15_0 rfl rfl rfl ?_
    obtain ⟨y1, e_y1, hm⟩ := ob_x hm
    have f_y1 := gO_x e_y1
    refine pw_gr (pc := 1) d15_1 (k15_61 b) (sho s_h f_l0) f0_4 f_y1.1 ?_
    obtain ⟨y2, e_y2, hm⟩ := ob_x hm
    have f_y2 := gO_x e_y2
    refine pw_gr (pc := 4) d15_4 (k15_83 b) (sho s_h f_y1.2) f9_0 f_y2.1 ?_
    refine pw_l (pc := 7) d15_7 rfl rfl rfl ?_
    obtain ⟨q3, e_q3, hm⟩ := ob_x hm
    refine pw_v (pc := 8) (k := y2) (by omega) d15_8 (k15_150 b) (by decide) m111 (by decide) rfl (sho s_h f_y2.2) (Nat.le_of_ble_eq_true rfl) (Nat.le_of_ble_eq_true rfl) rfl rfl (T_s_hasWord b L xs (d - 1) (by omega) h s_h y2 l1 f_y2.2 e_q3) (fun v0 h0 hq => ?_)
    obtain ⟨rfl, hh0, s_q3⟩ := hq
    rw [hh0] at s_q3 ⊢
    simp only [Option.toList_some, List.cons_append, List.nil_append]
    refine pw_zeq (pc := 11) (t := 28) d15_11 (by decide) (fun c4 => ?_) (fun c4 => ?_)
    · rw [if_pos c4] at hm
      refine pw_s (pc := 28) d15_28 rfl rfl ?_
      obtain rfl := Option.some.inj hm
      refine pw_ri (pc := 30) d15_30 t15 rfl ?_
      exact hE s_h
    · rw [if_neg c4] at hm
      refine pw_l (pc := 14) d15_14 rfl rfl rfl ?_
      refine pw_l (pc := 15) d15_15 rfl rfl rfl ?_
      obtain ⟨y5, e_y5, hm⟩ := ob_x hm
      have f_y5 := gO_x e_y5
      refine pw_gr (pc := 16) d15_16 (k15_61 b) (sho s_h f_l0) f0_4 f_y5.1 ?_
      obtain ⟨y6, e_y6, hm⟩ := ob_x hm
      have f_y6 := gO_x e_y6
      refine pw_gr (pc := 19) d15_19 (k15_87 b) (sho s_h f_y5.2) f9_1 f_y6.1 ?_
      refine pw_gi (pc := 22) d15_22 (k15_203 b) (sho s_h f_y6.2) f3_4 ?_
      refine pw_ine (pc := 25) (t := 31) d15_25 (by decide) (fun c7 => ?_) (fun c7 => ?_)
      · rw [if_pos c7] at hm
        refine pw_l (pc := 31) d15_31 rfl rfl rfl ?_
        obtain ⟨y8, e_y8, hm⟩ := ob_x hm
        have f_y8 := gO_x e_y8
        refine pw_gr (pc := 32) d15_32 (k15_41 b) (sho s_h f_l0) f0_6 f_y8.1 ?_
        refine pw_l (pc := 35) d15_35 rfl rfl rfl ?_
        obtain ⟨y9, e_y9, hm⟩ := ob_x hm
        have f_y9 := gO_x e_y9
        refine pw_gr (pc := 36) d15_36 (k15_61 b) (sho s_h f_l0) f0_4 f_y9.1 ?_
        obtain ⟨y10, e_y10, hm⟩ := ob_x hm
        have f_y10 := gO_x e_y10
        refine pw_gr (pc := 39) d15_39 (k15_87 b) (sho s_h f_y9.2) f9_1 f_y10.1 ?_
        obtain ⟨q11, e_q11, hm⟩ := ob_x hm
        refine pw_v (pc := 42) (k := y8) (by omega) d15_42 (k15_167 b) (by decide) m84 (by decide) rfl (sho s_h f_y8.2) (Nat.le_of_ble_eq_true rfl) (Nat.le_of_ble_eq_true rfl) rfl rfl (T_p_keep b L xs (d - 1) (by omega) h s_h y8 y10 f_y8.2 f_y10.2 e_q11) (fun v0 h0 hq => ?_)
        obtain ⟨rfl, hh0, s_q11⟩ := hq
        rw [hh0] at s_q11 ⊢
        simp only [Option.toList_none, List.nil_append]
        refine pw_l (pc := 45) d15_45 rfl rfl rfl ?_
        obtain ⟨y12, e_y12, hm⟩ := ob_x hm
        have f_y12 := gO_x e_y12
        refine pw_gr (pc := 46) d15_46 (k15_61 b) (sho s_q11 f_l0) f0_4 f_y12.1 ?_
        obtain ⟨y13, e_y13, hm⟩ := ob_x hm
        have f_y13 := gO_x e_y13
        refine pw_gr (pc := 49) d15_49 (k15_87 b) (sho s_q11 f_y12.2) f9_1 f_y13.1 ?_
        refine pw_gi (pc := 52) d15_52 (k15_203 b) (sho s_q11 f_y13.2) f3_4 ?_
        refine pw_t (pc := 55) d15_55 rfl rfl rfl rfl ?_
        refine pw_l (pc := 56) d15_56 rfl rfl rfl ?_
        obtain ⟨y14, e_y14, hm⟩ := ob_x hm
        have f_y14 := gO_x e_y14
        refine pw_gr (pc := 57) d15_57 (k15_61 b) (sho s_q11 f_l0) f0_4 f_y14.1 ?_
        obtain ⟨y15, e_y15, hm⟩ := ob_x hm
        have f_y15 := gO_x e_y15
        refine pw_gr (pc := 60) d15_60 (k15_87 b) (sho s_q11 f_y14.2) f9_1 f_y15.1 ?_
        refine pw_l (pc := 63) d15_63 rfl rfl rfl ?_
        refine pw_pi (pc := 64) d15_64 (k15_203 b) (sho s_q11 f_y15.2) p15_3_4 ?_
        obtain ⟨h16, e_h16, hm⟩ := bd_x hm
        rw [e_h16]
        have s_h16 : h16.1 = tb_SH := by rw [← e_h16]; exact s_q11
        refine pw_l (pc := 67) d15_67 rfl rfl rfl ?_
        obtain rfl := Option.some.inj hm
        refine pw_ri (pc := 68) d15_68 t15 rfl ?_
        exact hE s_h16
      · rw [if_neg c7] at hm
        refine pw_s (pc := 28) d15_28 rfl rfl ?_
        obtain rfl := Option.some.inj hm
        refine pw_ri (pc := 30) d15_30 t15 rfl ?_
        exact hE s_h
  exact key _ (fun q => ⟨rfl, rfl, q⟩)
noncomputable def x_turn (l0 : Nat) (l1 : Int32) (h : pm_H) : Option (Int32 × pm_H) := (gO h l0 4 9).bind fun y1 => (gO h y1 0 7).bind fun y2 => (s_sails y2 h).bind fun q3 => if q3 = 0 then (some ((Int32.ofInt (-1)), h)) else (if l1 < 0 then (some ((Int32.ofInt (-1)), h)) else (if (Int32.ofInt 2) < l1 then (some ((Int32.ofInt (-1)), h)) else ((gO h l0 4 9).bind fun y7 => (gO h y7 1 3).bind fun y8 => if ¬ l1 = (h.2.1 y8 3) then ((gO h l0 6 4).bind fun y10 => (gO h l0 4 9).bind fun y11 => (gO h y11 1 3).bind fun y12 => (p_keep y10 y12 h).bind fun q13 => (gO q13 l0 4 9).bind fun y14 => (gO q13 y14 1 3).bind fun y15 => (gO q13 l0 4 9).bind fun y16 => (gO q13 y16 1 3).bind fun y17 => bd (pm_setI q13 y17 3 l1) fun h18 => some ((q13.2.1 y15 3), h18)) else (some ((Int32.ofInt (-1)), h)))))
theorem T_x_turn (b : Bool) (L : Nat) (xs : Nat → Int32) (d : Nat) (hd : 3 ≤ d) (h : pm_H) (s_h : h.1 = tb_SH) (l0 : Nat) (l1 : Int32) (f_l0 : mi_o l0 0 = true) {r : (Int32 × pm_H)} (hm : x_turn l0 l1 h = some r) : PC b L xs d 16 [(Value.ref l0), (Value.int l1)] h (fun (v0 : Option Value) (h2 : pm_H) => v0 = (some (Value.int r.1)) ∧ h2 = r.2 ∧ h2.1 = tb_SH) := by
  refine pc_in e16 (ls0 := [(Value.ref l0), (Value.int l1), Value.retAddr 0]) rfl ?_
  have key : ∀ (Q : Option Value → pm_H → Prop), (r.2.1 = tb_SH → Q (some (Value.int r.1)) r.2) → PW b L xs d 16 0 0 0 [(Value.ref l0), (Value.int l1), Value.retAddr 0] [] h Q := by
    intro Q hE
    rw [x_turn] at hm
    refine pw_l (pc := 0) d16_0 rfl rfl rfl ?_
    obtain ⟨y1, e_y1, hm⟩ := ob_x hm
    have f_y1 := gO_x e_y1
    refine pw_gr (pc := 1) d16_1 (k16_61 b) (sho s_h f_l0) f0_4 f_y1.1 ?_
    obtain ⟨y2, e_y2, hm⟩ := ob_x hm
    have f_y2 := gO_x e_y2
    refine pw_gr (pc := 4) d16_4 (k16_83 b) (sho s_h f_y1.2) f9_0 f_y2.1 ?_
    obtain ⟨q3, e_q3, hm⟩ := ob_x hm
    refine pw_v (pc := 7) (k := y2) (by omega) d16_7 (k16_177 b) (by decide) m110 (by decide) rfl (sho s_h f_y2.2) (Nat.le_of_ble_eq_true rfl) (Nat.le_of_ble_eq_true rfl) rfl rfl (T_s_sails b L xs (d - 1) (by omega) h s_h y2 f_y2.2 e_q3) (fun v0 h0 hq => ?_)
    obtain ⟨rfl, hh0, s_q3⟩ := hq
    rw [hh0] at s_q3 ⊢
    simp only [Option.toList_some, List.cons_append, List.nil_append]
    refine pw_zeq (pc := 10) (t := 36) d16_10 (by decide) (fun c4 => ?_) (fun c4 => ?_)
    · rw [if_pos c4] at hm
      refine pw_s (pc := 36) d16_36 rfl rfl ?_
      obtain rfl := Option.some.inj hm
      refine pw_ri (pc := 37) d16_37 t16 rfl ?_
      exact hE s_h
    · rw [if_neg c4] at hm
      refine pw_l (pc := 13) d16_13 rfl rfl rfl ?_
      refine pw_zlt (pc := 14) (t := 36) d16_14 (by decide) (fun c5 => ?_) (fun c5 => ?_)
      · rw [if_pos c5] at hm
        refine pw_s (pc := 36) d16_36 rfl rfl ?_
        obtain rfl := Option.some.inj hm
        refine pw_ri (pc := 37) d16_37 t16 rfl ?_
        exact hE s_h
      · rw [if_neg c5] at hm
        refine pw_l (pc := 17) d16_17 rfl rfl rfl ?_
        refine pw_s (pc := 18) d16_18 rfl rfl ?_
        refine pw_igt (pc := 19) (t := 36) d16_19 (by decide) (fun c6 => ?_) (fun c6 => ?_)
        · rw [if_pos c6] at hm
          refine pw_s (pc := 36) d16_36 rfl rfl ?_
          obtain rfl := Option.some.inj hm
          refine pw_ri (pc := 37) d16_37 t16 rfl ?_
          exact hE s_h
        · rw [if_neg c6] at hm
          refine pw_l (pc := 22) d16_22 rfl rfl rfl ?_
          refine pw_l (pc := 23) d16_23 rfl rfl rfl ?_
          obtain ⟨y7, e_y7, hm⟩ := ob_x hm
          have f_y7 := gO_x e_y7
          refine pw_gr (pc := 24) d16_24 (k16_61 b) (sho s_h f_l0) f0_4 f_y7.1 ?_
          obtain ⟨y8, e_y8, hm⟩ := ob_x hm
          have f_y8 := gO_x e_y8
          refine pw_gr (pc := 27) d16_27 (k16_87 b) (sho s_h f_y7.2) f9_1 f_y8.1 ?_
          refine pw_gi (pc := 30) d16_30 (k16_206 b) (sho s_h f_y8.2) f3_3 ?_
          refine pw_ine (pc := 33) (t := 38) d16_33 (by decide) (fun c9 => ?_) (fun c9 => ?_)
          · rw [if_pos c9] at hm
            refine pw_l (pc := 38) d16_38 rfl rfl rfl ?_
            obtain ⟨y10, e_y10, hm⟩ := ob_x hm
            have f_y10 := gO_x e_y10
            refine pw_gr (pc := 39) d16_39 (k16_41 b) (sho s_h f_l0) f0_6 f_y10.1 ?_
            refine pw_l (pc := 42) d16_42 rfl rfl rfl ?_
            obtain ⟨y11, e_y11, hm⟩ := ob_x hm
            have f_y11 := gO_x e_y11
            refine pw_gr (pc := 43) d16_43 (k16_61 b) (sho s_h f_l0) f0_4 f_y11.1 ?_
            obtain ⟨y12, e_y12, hm⟩ := ob_x hm
            have f_y12 := gO_x e_y12
            refine pw_gr (pc := 46) d16_46 (k16_87 b) (sho s_h f_y11.2) f9_1 f_y12.1 ?_
            obtain ⟨q13, e_q13, hm⟩ := ob_x hm
            refine pw_v (pc := 49) (k := y10) (by omega) d16_49 (k16_167 b) (by decide) m84 (by decide) rfl (sho s_h f_y10.2) (Nat.le_of_ble_eq_true rfl) (Nat.le_of_ble_eq_true rfl) rfl rfl (T_p_keep b L xs (d - 1) (by omega) h s_h y10 y12 f_y10.2 f_y12.2 e_q13) (fun v0 h0 hq => ?_)
            obtain ⟨rfl, hh0, s_q13⟩ := hq
            rw [hh0] at s_q13 ⊢
            simp only [Option.toList_none, List.nil_append]
            refine pw_l (pc := 52) d16_52 rfl rfl rfl ?_
            obtain ⟨y14, e_y14, hm⟩ := ob_x hm
            have f_y14 := gO_x e_y14
            refine pw_gr (pc := 53) d16_53 (k16_61 b) (sho s_q13 f_l0) f0_4 f_y14.1 ?_
            obtain ⟨y15, e_y15, hm⟩ := ob_x hm
            have f_y15 := gO_x e_y15
            refine pw_gr (pc := 56) d16_56 (k16_87 b) (sho s_q13 f_y14.2) f9_1 f_y15.1 ?_
            refine pw_gi (pc := 59) d16_59 (k16_206 b) (sho s_q13 f_y15.2) f3_3 ?_
            refine pw_t (pc := 62) d16_62 rfl rfl rfl rfl ?_
            refine pw_l (pc := 63) d16_63 rfl rfl rfl ?_
            obtain ⟨y16, e_y16, hm⟩ := ob_x hm
            have f_y16 := gO_x e_y16
            refine pw_gr (pc := 64) d16_64 (k16_61 b) (sho s_q13 f_l0) f0_4 f_y16.1 ?_
            obtain ⟨y17, e_y17, hm⟩ := ob_x hm
            have f_y17 := gO_x e_y17
            refine pw_gr (pc := 67) d16_67 (k16_87 b) (sho s_q13 f_y16.2) f9_1 f_y17.1 ?_
            refine pw_l (pc := 70) d16_70 rfl rfl rfl ?_
            refine pw_pi (pc := 71) d16_71 (k16_206 b) (sho s_q13 f_y17.2) p16_3_3 ?_
            obtain ⟨h18, e_h18, hm⟩ := bd_x hm
            rw [e_h18]
            have s_h18 : h18.1 = tb_SH := by rw [← e_h18]; exact s_q13
            refine pw_l (pc := 74) d16_74 rfl rfl rfl ?_
            obtain rfl := Option.some.inj hm
            refine pw_ri (pc := 75) d16_75 t16 rfl ?_
            exact hE s_h18
          · rw [if_neg c9] at hm
            refine pw_s (pc := 36) d16_36 rfl rfl ?_
            obtain rfl := Option.some.inj hm
            refine pw_ri (pc := 37) d16_37 t16 rfl ?_
            exact hE s_h
  exact key _ (fun q => ⟨rfl, rfl, q⟩)
noncomputable def x_undo (l0 : Nat) (h : pm_H) : Option (Int32 × pm_H) := (gO h l0 6 4).bind fun y1 => (gO h l0 4 9).bind fun y2 => (gO h y2 1 3).bind fun y3 => (p_restore y1 y3 h).bind fun q4 => if q4.1 = 0 then (some ((Int32.ofInt (-1)), q4.2)) else ((gO q4.2 l0 6 4).bind fun y6 => some ((q4.2.2.1 y6 2), q4.2))
theorem T_x_undo (b : Bool) (L : Nat) (xs : Nat → Int32) (d : Nat) (hd : 3 ≤ d) (h : pm_H) (s_h : h.1 = tb_SH) (l0 : Nat) (f_l0 : mi_o l0 0 = true) {r : (Int32 × pm_H)} (hm : x_undo l0 h = some r) : PC b L xs d 17 [(Value.ref l0)] h (fun (v0 : Option Value) (h2 : pm_H) => v0 = (some (Value.int r.1)) ∧ h2 = r.2 ∧ h2.1 = tb_SH) := by
  refine pc_in e17 (ls0 := [(Value.ref l0)]) rfl ?_
  have key : ∀ (Q : Option Value → pm_H → Prop), (r.2.1 = tb_SH → Q (some (Value.int r.1)) r.2) → PW b L xs d 17 0 0 0 [(Value.ref l0)] [] h Q := by
    intro Q hE
    rw [x_undo] at hm
    refine pw_l (pc := 0) d17_0 rfl rfl rfl ?_
    obtain ⟨y1, e_y1, hm⟩ := ob_x hm
    have f_y1 := gO_x e_y1
    refine pw_gr (pc := 1) d17_1 (k17_41 b) (sho s_h f_l0) f0_6 f_y1.1 ?_
    refine pw_l (pc := 4) d17_4 rfl rfl rfl ?_
    obtain ⟨y2, e_y2, hm⟩ := ob_x hm
    have f_y2 := gO_x e_y2
    refine pw_gr (pc := 5) d17_5 (k17_61 b) (sho s_h f_l0) f0_4 f_y2.1 ?_
    obtain ⟨y3, e_y3, hm⟩ := ob_x hm
    have f_y3 := gO_x e_y3
    refine pw_gr (pc := 8) d17_8 (k17_87 b) (sho s_h f_y2.2) f9_1 f_y3.1 ?_
    obtain ⟨q4, e_q4, hm⟩ := ob_x hm
    refine pw_v (pc := 11) (k := y1) (by omega) d17_11 (k17_209 b) (by decide) m85 (by decide) rfl (sho s_h f_y1.2) (Nat.le_of_ble_eq_true rfl) (Nat.le_of_ble_eq_true rfl) rfl rfl (T_p_restore b L xs (d - 1) (by omega) h s_h y1 y3 f_y1.2 f_y3.2 e_q4) (fun v0 h0 hq => ?_)
    obtain ⟨rfl, hh0, s_q4⟩ := hq
    rw [hh0] at s_q4 ⊢
    simp only [Option.toList_some, List.cons_append, List.nil_append]
    refine pw_zeq (pc := 14) (t := 27) d17_14 (by decide) (fun c5 => ?_) (fun c5 => ?_)
    · rw [if_pos c5] at hm
      refine pw_s (pc := 27) d17_27 rfl rfl ?_
      obtain rfl := Option.some.inj hm
      refine pw_ri (pc := 28) d17_28 t17 rfl ?_
      exact hE s_q4
    · rw [if_neg c5] at hm
      refine pw_l (pc := 17) d17_17 rfl rfl rfl ?_
      obtain ⟨y6, e_y6, hm⟩ := ob_x hm
      have f_y6 := gO_x e_y6
      refine pw_gr (pc := 18) d17_18 (k17_41 b) (sho s_q4 f_l0) f0_6 f_y6.1 ?_
      refine pw_gi (pc := 21) d17_21 (k17_213 b) (sho s_q4 f_y6.2) f4_2 ?_
      refine pw_go (pc := 24) (t := 28) d17_24 (by decide) ?_
      obtain rfl := Option.some.inj hm
      refine pw_ri (pc := 28) d17_28 t17 rfl ?_
      exact hE s_q4
  exact key _ (fun q => ⟨rfl, rfl, q⟩)
noncomputable def x_sayable (l0 : Nat) (h : pm_H) : Option (Int32 × pm_H) := (gO h l0 4 9).bind fun y1 => (gO h y1 0 7).bind fun y2 => (s_sails y2 h).bind fun q3 => if q3 = 0 then (some ((Int32.ofInt (-1)), h)) else ((gO h l0 7 1).bind fun y5 => (gO h l0 4 9).bind fun y6 => (gO h y6 0 7).bind fun y7 => (gO h l0 4 9).bind fun y8 => (gO h y8 1 3).bind fun y9 => (a_canSay y5 y7 y9 h).bind fun q10 => some (q10.1, q10.2))
theorem T_x_sayable (b : Bool) (L : Nat) (xs : Nat → Int32) (d : Nat) (hd : 5 ≤ d) (h : pm_H) (s_h : h.1 = tb_SH) (l0 : Nat) (f_l0 : mi_o l0 0 = true) {r : (Int32 × pm_H)} (hm : x_sayable l0 h = some r) : PC b L xs d 19 [(Value.ref l0)] h (fun (v0 : Option Value) (h2 : pm_H) => v0 = (some (Value.int r.1)) ∧ h2 = r.2 ∧ h2.1 = tb_SH) := by
  refine pc_in e19 (ls0 := [(Value.ref l0)]) rfl ?_
  have key : ∀ (Q : Option Value → pm_H → Prop), (r.2.1 = tb_SH → Q (some (Value.int r.1)) r.2) → PW b L xs d 19 0 0 0 [(Value.ref l0)] [] h Q := by
    intro Q hE
    rw [x_sayable] at hm
    refine pw_l (pc := 0) d19_0 rfl rfl rfl ?_
    obtain ⟨y1, e_y1, hm⟩ := ob_x hm
    have f_y1 := gO_x e_y1
    refine pw_gr (pc := 1) d19_1 (k19_61 b) (sho s_h f_l0) f0_4 f_y1.1 ?_
    obtain ⟨y2, e_y2, hm⟩ := ob_x hm
    have f_y2 := gO_x e_y2
    refine pw_gr (pc := 4) d19_4 (k19_83 b) (sho s_h f_y1.2) f9_0 f_y2.1 ?_
    obtain ⟨q3, e_q3, hm⟩ := ob_x hm
    refine pw_v (pc := 7) (k := y2) (by omega) d19_7 (k19_177 b) (by decide) m110 (by decide) rfl (sho s_h f_y2.2) (Nat.le_of_ble_eq_true rfl) (Nat.le_of_ble_eq_true rfl) rfl rfl (T_s_sails b L xs (d - 1) (by omega) h s_h y2 f_y2.2 e_q3) (fun v0 h0 hq => ?_)
    obtain ⟨rfl, hh0, s_q3⟩ := hq
    rw [hh0] at s_q3 ⊢
    simp only [Option.toList_some, List.cons_append, List.nil_append]
    refine pw_zeq (pc := 10) (t := 37) d19_10 (by decide) (fun c4 => ?_) (fun c4 => ?_)
    · rw [if_pos c4] at hm
      refine pw_s (pc := 37) d19_37 rfl rfl ?_
      obtain rfl := Option.some.inj hm
      refine pw_ri (pc := 38) d19_38 t19 rfl ?_
      exact hE s_h
    · rw [if_neg c4] at hm
      refine pw_l (pc := 13) d19_13 rfl rfl rfl ?_
      obtain ⟨y5, e_y5, hm⟩ := ob_x hm
      have f_y5 := gO_x e_y5
      refine pw_gr (pc := 14) d19_14 (k19_48 b) (sho s_h f_l0) f0_7 f_y5.1 ?_
      refine pw_l (pc := 17) d19_17 rfl rfl rfl ?_
      obtain ⟨y6, e_y6, hm⟩ := ob_x hm
      have f_y6 := gO_x e_y6
      refine pw_gr (pc := 18) d19_18 (k19_61 b) (sho s_h f_l0) f0_4 f_y6.1 ?_
      obtain ⟨y7, e_y7, hm⟩ := ob_x hm
      have f_y7 := gO_x e_y7
      refine pw_gr (pc := 21) d19_21 (k19_83 b) (sho s_h f_y6.2) f9_0 f_y7.1 ?_
      refine pw_l (pc := 24) d19_24 rfl rfl rfl ?_
      obtain ⟨y8, e_y8, hm⟩ := ob_x hm
      have f_y8 := gO_x e_y8
      refine pw_gr (pc := 25) d19_25 (k19_61 b) (sho s_h f_l0) f0_4 f_y8.1 ?_
      obtain ⟨y9, e_y9, hm⟩ := ob_x hm
      have f_y9 := gO_x e_y9
      refine pw_gr (pc := 28) d19_28 (k19_87 b) (sho s_h f_y8.2) f9_1 f_y9.1 ?_
      obtain ⟨q10, e_q10, hm⟩ := ob_x hm
      refine pw_v (pc := 31) (k := y5) (by omega) d19_31 (k19_220 b) (by decide) m44 (by decide) rfl (sho s_h f_y5.2) (Nat.le_of_ble_eq_true rfl) (Nat.le_of_ble_eq_true rfl) rfl rfl (T_a_canSay b L xs (d - 1) (by omega) h s_h y5 y7 y9 f_y5.2 f_y7.2 f_y9.2 e_q10) (fun v0 h0 hq => ?_)
      obtain ⟨rfl, hh0, s_q10⟩ := hq
      rw [hh0] at s_q10 ⊢
      simp only [Option.toList_some, List.cons_append, List.nil_append]
      refine pw_go (pc := 34) (t := 38) d19_34 (by decide) ?_
      obtain rfl := Option.some.inj hm
      refine pw_ri (pc := 38) d19_38 t19 rfl ?_
      exact hE s_q10
  exact key _ (fun q => ⟨rfl, rfl, q⟩)
noncomputable def x_shortest (l0 : Nat) (l1 : Int32) (l2 : Int32) (h : pm_H) : Option (Int32 × pm_H) := (gO h l0 4 9).bind fun y1 => (gO h y1 0 7).bind fun y2 => (s_hasOrder y2 l1 h).bind fun q3 => if q3 = 0 then (some ((Int32.ofInt (-1)), h)) else (if l2 < 0 then (some ((Int32.ofInt (-1)), h)) else (if l2 ≤ (Int32.ofInt 5) then ((gO h l0 7 1).bind fun y7 => (gO h l0 4 9).bind fun y8 => (gO h y8 0 7).bind fun y9 => (gO h l0 4 9).bind fun y10 => (gO h y10 1 3).bind fun y11 => (a_findShortest y7 y9 y11 l1 h).bind fun q12 => (gO q12 l0 7 1).bind fun y13 => if ¬ (q12.2.1 y13 3) = 0 then (if ¬ l2 = 0 then ((gO q12 l0 7 1).bind fun y16 => if (q12.2.1 y16 3) < l2 then (some ((Int8.ofInt (-2)).toInt32, q12)) else ((gO q12 l0 7 1).bind fun y18 => (gA q12 y18 2 .int).bind fun y19 => if mi_in (l2 - (Int32.ofInt 1)) (mi_n y19) = true then some ((q12.2.1 y19 (l2 - (Int32.ofInt 1)).toNatClampNeg), q12) else none)) else ((gO q12 l0 7 1).bind fun y21 => some ((q12.2.1 y21 3), q12))) else (some ((Int8.ofInt (-2)).toInt32, q12))) else (some ((Int32.ofInt (-1)), h))))
theorem T_x_shortest (b : Bool) (L : Nat) (xs : Nat → Int32) (d : Nat) (hd : 6 ≤ d) (h : pm_H) (s_h : h.1 = tb_SH) (l0 : Nat) (l1 : Int32) (l2 : Int32) (f_l0 : mi_o l0 0 = true) {r : (Int32 × pm_H)} (hm : x_shortest l0 l1 l2 h = some r) : PC b L xs d 20 [(Value.ref l0), (Value.int l1), (Value.int l2)] h (fun (v0 : Option Value) (h2 : pm_H) => v0 = (some (Value.int r.1)) ∧ h2 = r.2 ∧ h2.1 = tb_SH) := by
  refine pc_in e20 (ls0 := [(Value.ref l0), (Value.int l1), (Value.int l2)]) rfl ?_
  have key : ∀ (Q : Option Value → pm_H → Prop), (r.2.1 = tb_SH → Q (some (Value.int r.1)) r.2) → PW b L xs d 20 0 0 0 [(Value.ref l0), (Value.int l1), (Value.int l2)] [] h Q := by
    intro Q hE
    rw [x_shortest] at hm
    refine pw_l (pc := 0) d20_0 rfl rfl rfl ?_
    obtain ⟨y1, e_y1, hm⟩ := ob_x hm
    have f_y1 := gO_x e_y1
    refine pw_gr (pc := 1) d20_1 (k20_61 b) (sho s_h f_l0) f0_4 f_y1.1 ?_
    obtain ⟨y2, e_y2, hm⟩ := ob_x hm
    have f_y2 := gO_x e_y2
    refine pw_gr (pc := 4) d20_4 (k20_83 b) (sho s_h f_y1.2) f9_0 f_y2.1 ?_
    refine pw_l (pc := 7) d20_7 rfl rfl rfl ?_
    obtain ⟨q3, e_q3, hm⟩ := ob_x hm
    refine pw_v (pc := 8) (k := y2) (by omega) d20_8 (k20_139 b) (by decide) m113 (by decide) rfl (sho s_h f_y2.2) (Nat.le_of_ble_eq_true rfl) (Nat.le_of_ble_eq_true rfl) rfl rfl (T_s_hasOrder b L xs (d - 1) (by omega) h s_h y2 l1 f_y2.2 e_q3) (fun v0 h0 hq => ?_)
    obtain ⟨rfl, hh0, s_q3⟩ := hq
    rw [hh0] at s_q3 ⊢
    simp only [Option.toList_some, List.cons_append, List.nil_append]
    refine pw_zeq (pc := 11) (t := 23) d20_11 (by decide) (fun c4 => ?_) (fun c4 => ?_)
    · rw [if_pos c4] at hm
      refine pw_s (pc := 23) d20_23 rfl rfl ?_
      obtain rfl := Option.some.inj hm
      refine pw_ri (pc := 24) d20_24 t20 rfl ?_
      exact hE s_h
    · rw [if_neg c4] at hm
      refine pw_l (pc := 14) d20_14 rfl rfl rfl ?_
      refine pw_zlt (pc := 15) (t := 23) d20_15 (by decide) (fun c5 => ?_) (fun c5 => ?_)
      · rw [if_pos c5] at hm
        refine pw_s (pc := 23) d20_23 rfl rfl ?_
        obtain rfl := Option.some.inj hm
        refine pw_ri (pc := 24) d20_24 t20 rfl ?_
        exact hE s_h
      · rw [if_neg c5] at hm
        refine pw_l (pc := 18) d20_18 rfl rfl rfl ?_
        refine pw_s (pc := 19) d20_19 rfl rfl ?_
        refine pw_ile (pc := 20) (t := 25) d20_20 (by decide) (fun c6 => ?_) (fun c6 => ?_)
        · rw [if_pos c6] at hm
          refine pw_l (pc := 25) d20_25 rfl rfl rfl ?_
          obtain ⟨y7, e_y7, hm⟩ := ob_x hm
          have f_y7 := gO_x e_y7
          refine pw_gr (pc := 26) d20_26 (k20_48 b) (sho s_h f_l0) f0_7 f_y7.1 ?_
          refine pw_l (pc := 29) d20_29 rfl rfl rfl ?_
          obtain ⟨y8, e_y8, hm⟩ := ob_x hm
          have f_y8 := gO_x e_y8
          refine pw_gr (pc := 30) d20_30 (k20_61 b) (sho s_h f_l0) f0_4 f_y8.1 ?_
          obtain ⟨y9, e_y9, hm⟩ := ob_x hm
          have f_y9 := gO_x e_y9
          refine pw_gr (pc := 33) d20_33 (k20_83 b) (sho s_h f_y8.2) f9_0 f_y9.1 ?_
          refine pw_l (pc := 36) d20_36 rfl rfl rfl ?_
          obtain ⟨y10, e_y10, hm⟩ := ob_x hm
          have f_y10 := gO_x e_y10
          refine pw_gr (pc := 37) d20_37 (k20_61 b) (sho s_h f_l0) f0_4 f_y10.1 ?_
          obtain ⟨y11, e_y11, hm⟩ := ob_x hm
          have f_y11 := gO_x e_y11
          refine pw_gr (pc := 40) d20_40 (k20_87 b) (sho s_h f_y10.2) f9_1 f_y11.1 ?_
          refine pw_l (pc := 43) d20_43 rfl rfl rfl ?_
          obtain ⟨q12, e_q12, hm⟩ := ob_x hm
          refine pw_v (pc := 44) (k := y7) (by omega) d20_44 (k20_224 b) (by decide) m45 (by decide) rfl (sho s_h f_y7.2) (Nat.le_of_ble_eq_true rfl) (Nat.le_of_ble_eq_true rfl) rfl rfl (T_a_findShortest b L xs (d - 1) (by omega) h s_h y7 y9 y11 l1 f_y7.2 f_y9.2 f_y11.2 e_q12) (fun v0 h0 hq => ?_)
          obtain ⟨rfl, hh0, s_q12⟩ := hq
          rw [hh0] at s_q12 ⊢
          simp only [Option.toList_none, List.nil_append]
          refine pw_l (pc := 47) d20_47 rfl rfl rfl ?_
          obtain ⟨y13, e_y13, hm⟩ := ob_x hm
          have f_y13 := gO_x e_y13
          refine pw_gr (pc := 48) d20_48 (k20_48 b) (sho s_q12 f_l0) f0_7 f_y13.1 ?_
          refine pw_gi (pc := 51) d20_51 (k20_228 b) (sho s_q12 f_y13.2) f1_3 ?_
          refine pw_zne (pc := 54) (t := 60) d20_54 (by decide) (fun c14 => ?_) (fun c14 => ?_)
          · rw [if_pos c14] at hm
            refine pw_l (pc := 60) d20_60 rfl rfl rfl ?_
            refine pw_zne (pc := 61) (t := 72) d20_61 (by decide) (fun c15 => ?_) (fun c15 => ?_)
            · rw [if_pos c15] at hm
              refine pw_l (pc := 72) d20_72 rfl rfl rfl ?_
              refine pw_l (pc := 73) d20_73 rfl rfl rfl ?_
              obtain ⟨y16, e_y16, hm⟩ := ob_x hm
              have f_y16 := gO_x e_y16
              refine pw_gr (pc := 74) d20_74 (k20_48 b) (sho s_q12 f_l0) f0_7 f_y16.1 ?_
              refine pw_gi (pc := 77) d20_77 (k20_228 b) (sho s_q12 f_y16.2) f1_3 ?_
              refine pw_igt (pc := 80) (t := 97) d20_80 (by decide) (fun c17 => ?_) (fun c17 => ?_)
              · rw [if_pos c17] at hm
                refine pw_s (pc := 97) d20_97 rfl rfl ?_
                obtain rfl := Option.some.inj hm
                refine pw_ri (pc := 99) d20_99 t20 rfl ?_
                exact hE s_q12
              · rw [if_neg c17] at hm
                refine pw_l (pc := 83) d20_83 rfl rfl rfl ?_
                obtain ⟨y18, e_y18, hm⟩ := ob_x hm
                have f_y18 := gO_x e_y18
                refine pw_gr (pc := 84) d20_84 (k20_48 b) (sho s_q12 f_l0) f0_7 f_y18.1 ?_
                obtain ⟨y19, e_y19, hm⟩ := ob_x hm
                have f_y19 := gA_x e_y19
                refine pw_gr (pc := 87) d20_87 (k20_231 b) (sho s_q12 f_y18.2) f1_2 f_y19.1 ?_
                refine pw_l (pc := 90) d20_90 rfl rfl rfl ?_
                refine pw_s (pc := 91) d20_91 rfl rfl ?_
                refine pw_s (pc := 92) d20_92 rfl rfl ?_
                obtain ⟨g20, hm⟩ := gd_x hm
                refine pw_ai (pc := 93) d20_93 (sha s_q12 f_y19.2) (mi_in_x g20) ?_
                refine pw_go (pc := 94) (t := 99) d20_94 (by decide) ?_
                obtain rfl := Option.some.inj hm
                refine pw_ri (pc := 99) d20_99 t20 rfl ?_
                exact hE s_q12
            · rw [if_neg c15] at hm
              refine pw_l (pc := 64) d20_64 rfl rfl rfl ?_
              obtain ⟨y21, e_y21, hm⟩ := ob_x hm
              have f_y21 := gO_x e_y21
              refine pw_gr (pc := 65) d20_65 (k20_48 b) (sho s_q12 f_l0) f0_7 f_y21.1 ?_
              refine pw_gi (pc := 68) d20_68 (k20_228 b) (sho s_q12 f_y21.2) f1_3 ?_
              obtain rfl := Option.some.inj hm
              refine pw_ri (pc := 71) d20_71 t20 rfl ?_
              exact hE s_q12
          · rw [if_neg c14] at hm
            refine pw_s (pc := 57) d20_57 rfl rfl ?_
            obtain rfl := Option.some.inj hm
            refine pw_ri (pc := 59) d20_59 t20 rfl ?_
            exact hE s_q12
        · rw [if_neg c6] at hm
          refine pw_s (pc := 23) d20_23 rfl rfl ?_
          obtain rfl := Option.some.inj hm
          refine pw_ri (pc := 24) d20_24 t20 rfl ?_
          exact hE s_h
  exact key _ (fun q => ⟨rfl, rfl, q⟩)
noncomputable def x_fewest_57 (l3 : Int32) (h : pm_H) : Option (Int32 × pm_H) := some (l3, h)
theorem t_x_fewest_57 (b : Bool) (L : Nat) (xs : Nat → Int32) (d : Nat) (hd : 5 ≤ d) {Q : Option Value → pm_H → Prop} (h : pm_H) (s_h : h.1 = tb_SH) (l3 : Int32) (w0 : Value) (w1 : Value) (w2 : Value) {r : (Int32 × pm_H)} (hm : x_fewest_57 l3 h = some r) (hE : r.2.1 = tb_SH → Q (some (Value.int r.1)) r.2) : PW b L xs d 21 0 0 57 [w0, w1, w2, (Value.int l3)] [] h Q := by
  rw [x_fewest_57] at hm
  refine pw_l (pc := 57) d21_57 rfl rfl rfl ?_
  refine pw_go (pc := 58) (t := 65) d21_58 (by decide) ?_
  obtain rfl := Option.some.inj hm
  refine pw_ri (pc := 65) d21_65 t21 rfl ?_
  exact hE s_h
noncomputable def x_fewest (l0 : Nat) (l1 : Int32) (l2 : Int32) (h : pm_H) : Option (Int32 × pm_H) := (gO h l0 4 9).bind fun y1 => (gO h y1 0 7).bind fun y2 => (s_hasOrders y2 l1 h).bind fun q3 => if q3 = 0 then (some ((Int32.ofInt (-1)), h)) else (if l2 < 0 then (some ((Int32.ofInt (-1)), h)) else (if l2 ≤ (Int32.ofInt 1) then ((gO h l0 7 1).bind fun y7 => (gO h l0 4 9).bind fun y8 => (gO h y8 0 7).bind fun y9 => (gO h l0 4 9).bind fun y10 => (gO h y10 1 3).bind fun y11 => (a_fewestMen y7 y9 y11 l1 h).bind fun q12 => if q12.1 < 0 then (x_fewest_57 q12.1 q12.2) else (if ¬ l2 = (Int32.ofInt 1) then ((i_bitCount q12.1 q12.2).bind fun q15 => some (q15, q12.2)) else (x_fewest_57 q12.1 q12.2))) else (some ((Int32.ofInt (-1)), h))))
theorem T_x_fewest (b : Bool) (L : Nat) (xs : Nat → Int32) (d : Nat) (hd : 5 ≤ d) (h : pm_H) (s_h : h.1 = tb_SH) (l0 : Nat) (l1 : Int32) (l2 : Int32) (f_l0 : mi_o l0 0 = true) {r : (Int32 × pm_H)} (hm : x_fewest l0 l1 l2 h = some r) : PC b L xs d 21 [(Value.ref l0), (Value.int l1), (Value.int l2)] h (fun (v0 : Option Value) (h2 : pm_H) => v0 = (some (Value.int r.1)) ∧ h2 = r.2 ∧ h2.1 = tb_SH) := by
  refine pc_in e21 (ls0 := [(Value.ref l0), (Value.int l1), (Value.int l2), Value.retAddr 0]) rfl ?_
  have key : ∀ (Q : Option Value → pm_H → Prop), (r.2.1 = tb_SH → Q (some (Value.int r.1)) r.2) → PW b L xs d 21 0 0 0 [(Value.ref l0), (Value.int l1), (Value.int l2), Value.retAddr 0] [] h Q := by
    intro Q hE
    rw [x_fewest] at hm
    refine pw_l (pc := 0) d21_0 rfl rfl rfl ?_
    obtain ⟨y1, e_y1, hm⟩ := ob_x hm
    have f_y1 := gO_x e_y1
    refine pw_gr (pc := 1) d21_1 (k21_61 b) (sho s_h f_l0) f0_4 f_y1.1 ?_
    obtain ⟨y2, e_y2, hm⟩ := ob_x hm
    have f_y2 := gO_x e_y2
    refine pw_gr (pc := 4) d21_4 (k21_83 b) (sho s_h f_y1.2) f9_0 f_y2.1 ?_
    refine pw_l (pc := 7) d21_7 rfl rfl rfl ?_
    obtain ⟨q3, e_q3, hm⟩ := ob_x hm
    refine pw_v (pc := 8) (k := y2) (by omega) d21_8 (k21_234 b) (by decide) m114 (by decide) rfl (sho s_h f_y2.2) (Nat.le_of_ble_eq_true rfl) (Nat.le_of_ble_eq_true rfl) rfl rfl (T_s_hasOrders b L xs (d - 1) (by omega) h s_h y2 l1 f_y2.2 e_q3) (fun v0 h0 hq => ?_)
    obtain ⟨rfl, hh0, s_q3⟩ := hq
    rw [hh0] at s_q3 ⊢
    simp only [Option.toList_some, List.cons_append, List.nil_append]
    refine pw_zeq (pc := 11) (t := 23) d21_11 (by decide) (fun c4 => ?_) (fun c4 => ?_)
    · rw [if_pos c4] at hm
      refine pw_s (pc := 23) d21_23 rfl rfl ?_
      obtain rfl := Option.some.inj hm
      refine pw_ri (pc := 24) d21_24 t21 rfl ?_
      exact hE s_h
    · rw [if_neg c4] at hm
      refine pw_l (pc := 14) d21_14 rfl rfl rfl ?_
      refine pw_zlt (pc := 15) (t := 23) d21_15 (by decide) (fun c5 => ?_) (fun c5 => ?_)
      · rw [if_pos c5] at hm
        refine pw_s (pc := 23) d21_23 rfl rfl ?_
        obtain rfl := Option.some.inj hm
        refine pw_ri (pc := 24) d21_24 t21 rfl ?_
        exact hE s_h
      · rw [if_neg c5] at hm
        refine pw_l (pc := 18) d21_18 rfl rfl rfl ?_
        refine pw_s (pc := 19) d21_19 rfl rfl ?_
        refine pw_ile (pc := 20) (t := 25) d21_20 (by decide) (fun c6 => ?_) (fun c6 => ?_)
        · rw [if_pos c6] at hm
          refine pw_l (pc := 25) d21_25 rfl rfl rfl ?_
          obtain ⟨y7, e_y7, hm⟩ := ob_x hm
          have f_y7 := gO_x e_y7
          refine pw_gr (pc := 26) d21_26 (k21_48 b) (sho s_h f_l0) f0_7 f_y7.1 ?_
          refine pw_l (pc := 29) d21_29 rfl rfl rfl ?_
          obtain ⟨y8, e_y8, hm⟩ := ob_x hm
          have f_y8 := gO_x e_y8
          refine pw_gr (pc := 30) d21_30 (k21_61 b) (sho s_h f_l0) f0_4 f_y8.1 ?_
          obtain ⟨y9, e_y9, hm⟩ := ob_x hm
          have f_y9 := gO_x e_y9
          refine pw_gr (pc := 33) d21_33 (k21_83 b) (sho s_h f_y8.2) f9_0 f_y9.1 ?_
          refine pw_l (pc := 36) d21_36 rfl rfl rfl ?_
          obtain ⟨y10, e_y10, hm⟩ := ob_x hm
          have f_y10 := gO_x e_y10
          refine pw_gr (pc := 37) d21_37 (k21_61 b) (sho s_h f_l0) f0_4 f_y10.1 ?_
          obtain ⟨y11, e_y11, hm⟩ := ob_x hm
          have f_y11 := gO_x e_y11
          refine pw_gr (pc := 40) d21_40 (k21_87 b) (sho s_h f_y10.2) f9_1 f_y11.1 ?_
          refine pw_l (pc := 43) d21_43 rfl rfl rfl ?_
          obtain ⟨q12, e_q12, hm⟩ := ob_x hm
          refine pw_v (pc := 44) (k := y7) (by omega) d21_44 (k21_237 b) (by decide) m49 (by decide) rfl (sho s_h f_y7.2) (Nat.le_of_ble_eq_true rfl) (Nat.le_of_ble_eq_true rfl) rfl rfl (T_a_fewestMen b L xs (d - 1) (by omega) h s_h y7 y9 y11 l1 f_y7.2 f_y9.2 f_y11.2 e_q12) (fun v0 h0 hq => ?_)
          obtain ⟨rfl, hh0, s_q12⟩ := hq
          rw [hh0] at s_q12 ⊢
          simp only [Option.toList_some, List.cons_append, List.nil_append]
          refine pw_t (pc := 47) d21_47 rfl rfl rfl rfl ?_
          refine pw_l (pc := 48) d21_48 rfl rfl rfl ?_
          refine pw_zlt (pc := 49) (t := 57) d21_49 (by decide) (fun c13 => ?_) (fun c13 => ?_)
          · rw [if_pos c13] at hm
            exact t_x_fewest_57 b L xs d hd q12.2 s_q12 q12.1 (Value.ref l0) (Value.int l1) (Value.int l2)   hm hE
          · rw [if_neg c13] at hm
            refine pw_l (pc := 52) d21_52 rfl rfl rfl ?_
            refine pw_s (pc := 53) d21_53 rfl rfl ?_
            refine pw_ine (pc := 54) (t := 61) d21_54 (by decide) (fun c14 => ?_) (fun c14 => ?_)
            · rw [if_pos c14] at hm
              refine pw_l (pc := 61) d21_61 rfl rfl rfl ?_
              obtain ⟨q15, e_q15, hm⟩ := ob_x hm
              refine pw_u (pc := 62) (by omega) d21_62 (k21_197 b) (by decide) m259 (Nat.le_of_ble_eq_true rfl) (Nat.le_of_ble_eq_true rfl) (Nat.le_of_ble_eq_true rfl) rfl rfl (T_i_bitCount b L xs (d - 1) (by omega) q12.2 s_q12 q12.1  e_q15) (fun v0 h0 hq => ?_)
              obtain ⟨rfl, hh0, s_q15⟩ := hq
              rw [hh0] at s_q15 ⊢
              simp only [Option.toList_some, List.cons_append, List.nil_append]
              obtain rfl := Option.some.inj hm
              refine pw_ri (pc := 65) d21_65 t21 rfl ?_
              exact hE s_q12
            · rw [if_neg c14] at hm
              exact t_x_fewest_57 b L xs d hd q12.2 s_q12 q12.1 (Value.ref l0) (Value.int l1) (Value.int l2)   hm hE
        · rw [if_neg c6] at hm
          refine pw_s (pc := 23) d21_23 rfl rfl ?_
          obtain rfl := Option.some.inj hm
          refine pw_ri (pc := 24) d21_24 t21 rfl ?_
          exact hE s_h
  exact key _ (fun q => ⟨rfl, rfl, q⟩)
noncomputable def x_watches_65 (l3 : Int32) (h : pm_H) : Option (Int32 × pm_H) := some (l3, h)
theorem t_x_watches_65 (b : Bool) (L : Nat) (xs : Nat → Int32) (d : Nat) (hd : 5 ≤ d) {Q : Option Value → pm_H → Prop} (h : pm_H) (s_h : h.1 = tb_SH) (l3 : Int32) (w0 : Value) (w1 : Value) (w2 : Value) {r : (Int32 × pm_H)} (hm : x_watches_65 l3 h = some r) (hE : r.2.1 = tb_SH → Q (some (Value.int r.1)) r.2) : PW b L xs d 22 0 0 65 [w0, w1, w2, (Value.int l3)] [] h Q := by
  rw [x_watches_65] at hm
  refine pw_l (pc := 65) d22_65 rfl rfl rfl ?_
  refine pw_go (pc := 66) (t := 90) d22_66 (by decide) ?_
  obtain rfl := Option.some.inj hm
  refine pw_ri (pc := 90) d22_90 t22 rfl ?_
  exact hE s_h
noncomputable def x_watches (l0 : Nat) (l1 : Int32) (l2 : Int32) (h : pm_H) : Option (Int32 × pm_H) := (gO h l0 4 9).bind fun y1 => (gO h y1 0 7).bind fun y2 => (s_sails y2 h).bind fun q3 => if q3 = 0 then (some ((Int32.ofInt (-1)), h)) else (if l1 < 0 then (some ((Int32.ofInt (-1)), h)) else (if (Int8.ofInt 99).toInt32 < l1 then (some ((Int32.ofInt (-1)), h)) else (if l2 < 0 then (some ((Int32.ofInt (-1)), h)) else (if l2 ≤ (Int32.ofInt 1) then ((gO h l0 7 1).bind fun y9 => (gO h l0 4 9).bind fun y10 => (gO h y10 0 7).bind fun y11 => (gO h l0 4 9).bind fun y12 => (gO h y12 1 3).bind fun y13 => (a_firstWatch y9 y11 y13 l1 h).bind fun q14 => if q14.1 < 0 then (x_watches_65 q14.1 q14.2) else (if ¬ l2 = 0 then ((gO q14.2 l0 4 9).bind fun y17 => (gO q14.2 y17 1 3).bind fun y18 => (gO q14.2 l0 4 9).bind fun y19 => (gO q14.2 y19 0 7).bind fun y20 => (n_living y18 y20 q14.2).bind fun q21 => some ((q21 &&& (q14.1 ^^^ (Int32.ofInt (-1)))), q14.2)) else (x_watches_65 q14.1 q14.2))) else (some ((Int32.ofInt (-1)), h))))))
theorem T_x_watches (b : Bool) (L : Nat) (xs : Nat → Int32) (d : Nat) (hd : 5 ≤ d) (h : pm_H) (s_h : h.1 = tb_SH) (l0 : Nat) (l1 : Int32) (l2 : Int32) (f_l0 : mi_o l0 0 = true) {r : (Int32 × pm_H)} (hm : x_watches l0 l1 l2 h = some r) : PC b L xs d 22 [(Value.ref l0), (Value.int l1), (Value.int l2)] h (fun (v0 : Option Value) (h2 : pm_H) => v0 = (some (Value.int r.1)) ∧ h2 = r.2 ∧ h2.1 = tb_SH) := by
  refine pc_in e22 (ls0 := [(Value.ref l0), (Value.int l1), (Value.int l2), Value.retAddr 0]) rfl ?_
  have key : ∀ (Q : Option Value → pm_H → Prop), (r.2.1 = tb_SH → Q (some (Value.int r.1)) r.2) → PW b L xs d 22 0 0 0 [(Value.ref l0), (Value.int l1), (Value.int l2), Value.retAddr 0] [] h Q := by
    intro Q hE
    rw [x_watches] at hm
    refine pw_l (pc := 0) d22_0 rfl rfl rfl ?_
    obtain ⟨y1, e_y1, hm⟩ := ob_x hm
    have f_y1 := gO_x e_y1
    refine pw_gr (pc := 1) d22_1 (k22_61 b) (sho s_h f_l0) f0_4 f_y1.1 ?_
    obtain ⟨y2, e_y2, hm⟩ := ob_x hm
    have f_y2 := gO_x e_y2
    refine pw_gr (pc := 4) d22_4 (k22_83 b) (sho s_h f_y1.2) f9_0 f_y2.1 ?_
    obtain ⟨q3, e_q3, hm⟩ := ob_x hm
    refine pw_v (pc := 7) (k := y2) (by omega) d22_7 (k22_177 b) (by decide) m110 (by decide) rfl (sho s_h f_y2.2) (Nat.le_of_ble_eq_true rfl) (Nat.le_of_ble_eq_true rfl) rfl rfl (T_s_sails b L xs (d - 1) (by omega) h s_h y2 f_y2.2 e_q3) (fun v0 h0 hq => ?_)
    obtain ⟨rfl, hh0, s_q3⟩ := hq
    rw [hh0] at s_q3 ⊢
    simp only [Option.toList_some, List.cons_append, List.nil_append]
    refine pw_zeq (pc := 10) (t := 32) d22_10 (by decide) (fun c4 => ?_) (fun c4 => ?_)
    · rw [if_pos c4] at hm
      refine pw_s (pc := 32) d22_32 rfl rfl ?_
      obtain rfl := Option.some.inj hm
      refine pw_ri (pc := 33) d22_33 t22 rfl ?_
      exact hE s_h
    · rw [if_neg c4] at hm
      refine pw_l (pc := 13) d22_13 rfl rfl rfl ?_
      refine pw_zlt (pc := 14) (t := 32) d22_14 (by decide) (fun c5 => ?_) (fun c5 => ?_)
      · rw [if_pos c5] at hm
        refine pw_s (pc := 32) d22_32 rfl rfl ?_
        obtain rfl := Option.some.inj hm
        refine pw_ri (pc := 33) d22_33 t22 rfl ?_
        exact hE s_h
      · rw [if_neg c5] at hm
        refine pw_l (pc := 17) d22_17 rfl rfl rfl ?_
        refine pw_s (pc := 18) d22_18 rfl rfl ?_
        refine pw_igt (pc := 20) (t := 32) d22_20 (by decide) (fun c6 => ?_) (fun c6 => ?_)
        · rw [if_pos c6] at hm
          refine pw_s (pc := 32) d22_32 rfl rfl ?_
          obtain rfl := Option.some.inj hm
          refine pw_ri (pc := 33) d22_33 t22 rfl ?_
          exact hE s_h
        · rw [if_neg c6] at hm
          refine pw_l (pc := 23) d22_23 rfl rfl rfl ?_
          refine pw_zlt (pc := 24) (t := 32) d22_24 (by decide) (fun c7 => ?_) (fun c7 => ?_)
          · rw [if_pos c7] at hm
            refine pw_s (pc := 32) d22_32 rfl rfl ?_
            obtain rfl := Option.some.inj hm
            refine pw_ri (pc := 33) d22_33 t22 rfl ?_
            exact hE s_h
          · rw [if_neg c7] at hm
            refine pw_l (pc := 27) d22_27 rfl rfl rfl ?_
            refine pw_s (pc := 28) d22_28 rfl rfl ?_
            refine pw_ile (pc := 29) (t := 34) d22_29 (by decide) (fun c8 => ?_) (fun c8 => ?_)
            · rw [if_pos c8] at hm
              refine pw_l (pc := 34) d22_34 rfl rfl rfl ?_
              obtain ⟨y9, e_y9, hm⟩ := ob_x hm
              have f_y9 := gO_x e_y9
              refine pw_gr (pc := 35) d22_35 (k22_48 b) (sho s_h f_l0) f0_7 f_y9.1 ?_
              refine pw_l (pc := 38) d22_38 rfl rfl rfl ?_
              obtain ⟨y10, e_y10, hm⟩ := ob_x hm
              have f_y10 := gO_x e_y10
              refine pw_gr (pc := 39) d22_39 (k22_61 b) (sho s_h f_l0) f0_4 f_y10.1 ?_
              obtain ⟨y11, e_y11, hm⟩ := ob_x hm
              have f_y11 := gO_x e_y11
              refine pw_gr (pc := 42) d22_42 (k22_83 b) (sho s_h f_y10.2) f9_0 f_y11.1 ?_
              refine pw_l (pc := 45) d22_45 rfl rfl rfl ?_
              obtain ⟨y12, e_y12, hm⟩ := ob_x hm
              have f_y12 := gO_x e_y12
              refine pw_gr (pc := 46) d22_46 (k22_61 b) (sho s_h f_l0) f0_4 f_y12.1 ?_
              obtain ⟨y13, e_y13, hm⟩ := ob_x hm
              have f_y13 := gO_x e_y13
              refine pw_gr (pc := 49) d22_49 (k22_87 b) (sho s_h f_y12.2) f9_1 f_y13.1 ?_
              refine pw_l (pc := 52) d22_52 rfl rfl rfl ?_
              obtain ⟨q14, e_q14, hm⟩ := ob_x hm
              refine pw_v (pc := 53) (k := y9) (by omega) d22_53 (k22_241 b) (by decide) m50 (by decide) rfl (sho s_h f_y9.2) (Nat.le_of_ble_eq_true rfl) (Nat.le_of_ble_eq_true rfl) rfl rfl (T_a_firstWatch b L xs (d - 1) (by omega) h s_h y9 y11 y13 l1 f_y9.2 f_y11.2 f_y13.2 e_q14) (fun v0 h0 hq => ?_)
              obtain ⟨rfl, hh0, s_q14⟩ := hq
              rw [hh0] at s_q14 ⊢
              simp only [Option.toList_some, List.cons_append, List.nil_append]
              refine pw_t (pc := 56) d22_56 rfl rfl rfl rfl ?_
              refine pw_l (pc := 57) d22_57 rfl rfl rfl ?_
              refine pw_zlt (pc := 58) (t := 65) d22_58 (by decide) (fun c15 => ?_) (fun c15 => ?_)
              · rw [if_pos c15] at hm
                exact t_x_watches_65 b L xs d hd q14.2 s_q14 q14.1 (Value.ref l0) (Value.int l1) (Value.int l2)   hm hE
              · rw [if_neg c15] at hm
                refine pw_l (pc := 61) d22_61 rfl rfl rfl ?_
                refine pw_zne (pc := 62) (t := 69) d22_62 (by decide) (fun c16 => ?_) (fun c16 => ?_)
                · rw [if_pos c16] at hm
                  refine pw_l (pc := 69) d22_69 rfl rfl rfl ?_
                  obtain ⟨y17, e_y17, hm⟩ := ob_x hm
                  have f_y17 := gO_x e_y17
                  refine pw_gr (pc := 70) d22_70 (k22_61 b) (sho s_q14 f_l0) f0_4 f_y17.1 ?_
                  obtain ⟨y18, e_y18, hm⟩ := ob_x hm
                  have f_y18 := gO_x e_y18
                  refine pw_gr (pc := 73) d22_73 (k22_87 b) (sho s_q14 f_y17.2) f9_1 f_y18.1 ?_
                  refine pw_l (pc := 76) d22_76 rfl rfl rfl ?_
                  obtain ⟨y19, e_y19, hm⟩ := ob_x hm
                  have f_y19 := gO_x e_y19
                  refine pw_gr (pc := 77) d22_77 (k22_61 b) (sho s_q14 f_l0) f0_4 f_y19.1 ?_
                  obtain ⟨y20, e_y20, hm⟩ := ob_x hm
                  have f_y20 := gO_x e_y20
                  refine pw_gr (pc := 80) d22_80 (k22_83 b) (sho s_q14 f_y19.2) f9_0 f_y20.1 ?_
                  obtain ⟨q21, e_q21, hm⟩ := ob_x hm
                  refine pw_v (pc := 83) (k := y18) (by omega) d22_83 (k22_194 b) (by decide) m79 (by decide) rfl (sho s_q14 f_y18.2) (Nat.le_of_ble_eq_true rfl) (Nat.le_of_ble_eq_true rfl) rfl rfl (T_n_living b L xs (d - 1) (by omega) q14.2 s_q14 y18 y20 f_y18.2 f_y20.2 e_q21) (fun v0 h0 hq => ?_)
                  obtain ⟨rfl, hh0, s_q21⟩ := hq
                  rw [hh0] at s_q21 ⊢
                  simp only [Option.toList_some, List.cons_append, List.nil_append]
                  refine pw_l (pc := 86) d22_86 rfl rfl rfl ?_
                  refine pw_s (pc := 87) d22_87 rfl rfl ?_
                  refine pw_s (pc := 88) d22_88 rfl rfl ?_
                  refine pw_s (pc := 89) d22_89 rfl rfl ?_
                  obtain rfl := Option.some.inj hm
                  refine pw_ri (pc := 90) d22_90 t22 rfl ?_
                  exact hE s_q14
                · rw [if_neg c16] at hm
                  exact t_x_watches_65 b L xs d hd q14.2 s_q14 q14.1 (Value.ref l0) (Value.int l1) (Value.int l2)   hm hE
            · rw [if_neg c8] at hm
              refine pw_s (pc := 32) d22_32 rfl rfl ?_
              obtain rfl := Option.some.inj hm
              refine pw_ri (pc := 33) d22_33 t22 rfl ?_
              exact hE s_h
  exact key _ (fun q => ⟨rfl, rfl, q⟩)
noncomputable def x_boy (l0 : Nat) (l1 : Int32) (h : pm_H) : Option (Int32 × pm_H) := (gO h l0 4 9).bind fun y1 => (gO h y1 0 7).bind fun y2 => (s_sails y2 h).bind fun q3 => if q3 = 0 then (some ((Int32.ofInt (-1)), h)) else (if l1 < 0 then (some ((Int32.ofInt (-1)), h)) else (if l1 ≤ (Int32.ofInt 1) then ((gO h l0 7 1).bind fun y7 => (gO h l0 4 9).bind fun y8 => (gO h y8 0 7).bind fun y9 => (gO h l0 4 9).bind fun y10 => (gO h y10 1 3).bind fun y11 => (a_bestLesson y7 y9 y11 h).bind fun q12 => if ¬ l1 = 0 then ((gO q12.2 l0 7 1).bind fun y14 => (gO q12.2 l0 4 9).bind fun y15 => (gO q12.2 y15 0 7).bind fun y16 => (gO q12.2 l0 4 9).bind fun y17 => (gO q12.2 y17 1 3).bind fun y18 => (a_needWith y14 y16 y18 q12.1 q12.2).bind fun q19 => some (q19.1, q19.2)) else (some (q12.1, q12.2))) else (some ((Int32.ofInt (-1)), h))))
theorem T_x_boy (b : Bool) (L : Nat) (xs : Nat → Int32) (d : Nat) (hd : 6 ≤ d) (h : pm_H) (s_h : h.1 = tb_SH) (l0 : Nat) (l1 : Int32) (f_l0 : mi_o l0 0 = true) {r : (Int32 × pm_H)} (hm : x_boy l0 l1 h = some r) : PC b L xs d 23 [(Value.ref l0), (Value.int l1)] h (fun (v0 : Option Value) (h2 : pm_H) => v0 = (some (Value.int r.1)) ∧ h2 = r.2 ∧ h2.1 = tb_SH) := by
  refine pc_in e23 (ls0 := [(Value.ref l0), (Value.int l1), Value.retAddr 0]) rfl ?_
  have key : ∀ (Q : Option Value → pm_H → Prop), (r.2.1 = tb_SH → Q (some (Value.int r.1)) r.2) → PW b L xs d 23 0 0 0 [(Value.ref l0), (Value.int l1), Value.retAddr 0] [] h Q := by
    intro Q hE
    rw [x_boy] at hm
    refine pw_l (pc := 0) d23_0 rfl rfl rfl ?_
    obtain ⟨y1, e_y1, hm⟩ := ob_x hm
    have f_y1 := gO_x e_y1
    refine pw_gr (pc := 1) d23_1 (k23_61 b) (sho s_h f_l0) f0_4 f_y1.1 ?_
    obtain ⟨y2, e_y2, hm⟩ := ob_x hm
    have f_y2 := gO_x e_y2
    refine pw_gr (pc := 4) d23_4 (k23_83 b) (sho s_h f_y1.2) f9_0 f_y2.1 ?_
    obtain ⟨q3, e_q3, hm⟩ := ob_x hm
    refine pw_v (pc := 7) (k := y2) (by omega) d23_7 (k23_177 b) (by decide) m110 (by decide) rfl (sho s_h f_y2.2) (Nat.le_of_ble_eq_true rfl) (Nat.le_of_ble_eq_true rfl) rfl rfl (T_s_sails b L xs (d - 1) (by omega) h s_h y2 f_y2.2 e_q3) (fun v0 h0 hq => ?_)
    obtain ⟨rfl, hh0, s_q3⟩ := hq
    rw [hh0] at s_q3 ⊢
    simp only [Option.toList_some, List.cons_append, List.nil_append]
    refine pw_zeq (pc := 10) (t := 22) d23_10 (by decide) (fun c4 => ?_) (fun c4 => ?_)
    · rw [if_pos c4] at hm
      refine pw_s (pc := 22) d23_22 rfl rfl ?_
      obtain rfl := Option.some.inj hm
      refine pw_ri (pc := 23) d23_23 t23 rfl ?_
      exact hE s_h
    · rw [if_neg c4] at hm
      refine pw_l (pc := 13) d23_13 rfl rfl rfl ?_
      refine pw_zlt (pc := 14) (t := 22) d23_14 (by decide) (fun c5 => ?_) (fun c5 => ?_)
      · rw [if_pos c5] at hm
        refine pw_s (pc := 22) d23_22 rfl rfl ?_
        obtain rfl := Option.some.inj hm
        refine pw_ri (pc := 23) d23_23 t23 rfl ?_
        exact hE s_h
      · rw [if_neg c5] at hm
        refine pw_l (pc := 17) d23_17 rfl rfl rfl ?_
        refine pw_s (pc := 18) d23_18 rfl rfl ?_
        refine pw_ile (pc := 19) (t := 24) d23_19 (by decide) (fun c6 => ?_) (fun c6 => ?_)
        · rw [if_pos c6] at hm
          refine pw_l (pc := 24) d23_24 rfl rfl rfl ?_
          obtain ⟨y7, e_y7, hm⟩ := ob_x hm
          have f_y7 := gO_x e_y7
          refine pw_gr (pc := 25) d23_25 (k23_48 b) (sho s_h f_l0) f0_7 f_y7.1 ?_
          refine pw_l (pc := 28) d23_28 rfl rfl rfl ?_
          obtain ⟨y8, e_y8, hm⟩ := ob_x hm
          have f_y8 := gO_x e_y8
          refine pw_gr (pc := 29) d23_29 (k23_61 b) (sho s_h f_l0) f0_4 f_y8.1 ?_
          obtain ⟨y9, e_y9, hm⟩ := ob_x hm
          have f_y9 := gO_x e_y9
          refine pw_gr (pc := 32) d23_32 (k23_83 b) (sho s_h f_y8.2) f9_0 f_y9.1 ?_
          refine pw_l (pc := 35) d23_35 rfl rfl rfl ?_
          obtain ⟨y10, e_y10, hm⟩ := ob_x hm
          have f_y10 := gO_x e_y10
          refine pw_gr (pc := 36) d23_36 (k23_61 b) (sho s_h f_l0) f0_4 f_y10.1 ?_
          obtain ⟨y11, e_y11, hm⟩ := ob_x hm
          have f_y11 := gO_x e_y11
          refine pw_gr (pc := 39) d23_39 (k23_87 b) (sho s_h f_y10.2) f9_1 f_y11.1 ?_
          obtain ⟨q12, e_q12, hm⟩ := ob_x hm
          refine pw_v (pc := 42) (k := y7) (by omega) d23_42 (k23_244 b) (by decide) m53 (by decide) rfl (sho s_h f_y7.2) (Nat.le_of_ble_eq_true rfl) (Nat.le_of_ble_eq_true rfl) rfl rfl (T_a_bestLesson b L xs (d - 1) (by omega) h s_h y7 y9 y11 f_y7.2 f_y9.2 f_y11.2 e_q12) (fun v0 h0 hq => ?_)
          obtain ⟨rfl, hh0, s_q12⟩ := hq
          rw [hh0] at s_q12 ⊢
          simp only [Option.toList_some, List.cons_append, List.nil_append]
          refine pw_t (pc := 45) d23_45 rfl rfl rfl rfl ?_
          refine pw_l (pc := 46) d23_46 rfl rfl rfl ?_
          refine pw_zne (pc := 47) (t := 54) d23_47 (by decide) (fun c13 => ?_) (fun c13 => ?_)
          · rw [if_pos c13] at hm
            refine pw_l (pc := 54) d23_54 rfl rfl rfl ?_
            obtain ⟨y14, e_y14, hm⟩ := ob_x hm
            have f_y14 := gO_x e_y14
            refine pw_gr (pc := 55) d23_55 (k23_48 b) (sho s_q12 f_l0) f0_7 f_y14.1 ?_
            refine pw_l (pc := 58) d23_58 rfl rfl rfl ?_
            obtain ⟨y15, e_y15, hm⟩ := ob_x hm
            have f_y15 := gO_x e_y15
            refine pw_gr (pc := 59) d23_59 (k23_61 b) (sho s_q12 f_l0) f0_4 f_y15.1 ?_
            obtain ⟨y16, e_y16, hm⟩ := ob_x hm
            have f_y16 := gO_x e_y16
            refine pw_gr (pc := 62) d23_62 (k23_83 b) (sho s_q12 f_y15.2) f9_0 f_y16.1 ?_
            refine pw_l (pc := 65) d23_65 rfl rfl rfl ?_
            obtain ⟨y17, e_y17, hm⟩ := ob_x hm
            have f_y17 := gO_x e_y17
            refine pw_gr (pc := 66) d23_66 (k23_61 b) (sho s_q12 f_l0) f0_4 f_y17.1 ?_
            obtain ⟨y18, e_y18, hm⟩ := ob_x hm
            have f_y18 := gO_x e_y18
            refine pw_gr (pc := 69) d23_69 (k23_87 b) (sho s_q12 f_y17.2) f9_1 f_y18.1 ?_
            refine pw_l (pc := 72) d23_72 rfl rfl rfl ?_
            obtain ⟨q19, e_q19, hm⟩ := ob_x hm
            refine pw_v (pc := 73) (k := y14) (by omega) d23_73 (k23_247 b) (by decide) m51 (by decide) rfl (sho s_q12 f_y14.2) (Nat.le_of_ble_eq_true rfl) (Nat.le_of_ble_eq_true rfl) rfl rfl (T_a_needWith b L xs (d - 1) (by omega) q12.2 s_q12 y14 y16 y18 q12.1 f_y14.2 f_y16.2 f_y18.2 e_q19) (fun v0 h0 hq => ?_)
            obtain ⟨rfl, hh0, s_q19⟩ := hq
            rw [hh0] at s_q19 ⊢
            simp only [Option.toList_some, List.cons_append, List.nil_append]
            obtain rfl := Option.some.inj hm
            refine pw_ri (pc := 76) d23_76 t23 rfl ?_
            exact hE s_q19
          · rw [if_neg c13] at hm
            refine pw_l (pc := 50) d23_50 rfl rfl rfl ?_
            refine pw_go (pc := 51) (t := 76) d23_51 (by decide) ?_
            obtain rfl := Option.some.inj hm
            refine pw_ri (pc := 76) d23_76 t23 rfl ?_
            exact hE s_q12
        · rw [if_neg c6] at hm
          refine pw_s (pc := 22) d23_22 rfl rfl ?_
          obtain rfl := Option.some.inj hm
          refine pw_ri (pc := 23) d23_23 t23 rfl ?_
          exact hE s_h
  exact key _ (fun q => ⟨rfl, rfl, q⟩)
noncomputable def x_lacks (l0 : Nat) (l1 : Int32) (l2 : Int32) (h : pm_H) : Option (Int32 × pm_H) := (gO h l0 4 9).bind fun y1 => (gO h y1 0 7).bind fun y2 => (s_hasOrder y2 l1 h).bind fun q3 => if q3 = 0 then (some ((Int32.ofInt (-1)), h)) else (if l2 < 0 then (some ((Int32.ofInt (-1)), h)) else (if l2 ≤ (Int32.ofInt 2) then ((gO h l0 7 1).bind fun y7 => (gO h l0 4 9).bind fun y8 => (gO h y8 0 7).bind fun y9 => (gO h l0 4 9).bind fun y10 => (gO h y10 1 3).bind fun y11 => (a_findLacks y7 y9 y11 l1 h).bind fun q12 => (gO q12 l0 7 1).bind fun y13 => if (Int32.ofInt 2) < (q12.2.1 y13 5) then (some ((Int8.ofInt (-2)).toInt32, q12)) else ((gO q12 l0 7 1).bind fun y15 => if l2 ≤ (q12.2.1 y15 5) then (if ¬ l2 = 0 then ((gO q12 l0 7 1).bind fun y18 => (a_lackWord y18 (l2 - (Int32.ofInt 1)) q12).bind fun q19 => some (q19, q12)) else ((gO q12 l0 7 1).bind fun y20 => some ((q12.2.1 y20 5), q12))) else (some ((Int8.ofInt (-2)).toInt32, q12)))) else (some ((Int32.ofInt (-1)), h))))
theorem T_x_lacks (b : Bool) (L : Nat) (xs : Nat → Int32) (d : Nat) (hd : 6 ≤ d) (h : pm_H) (s_h : h.1 = tb_SH) (l0 : Nat) (l1 : Int32) (l2 : Int32) (f_l0 : mi_o l0 0 = true) {r : (Int32 × pm_H)} (hm : x_lacks l0 l1 l2 h = some r) : PC b L xs d 24 [(Value.ref l0), (Value.int l1), (Value.int l2)] h (fun (v0 : Option Value) (h2 : pm_H) => v0 = (some (Value.int r.1)) ∧ h2 = r.2 ∧ h2.1 = tb_SH) := by
  refine pc_in e24 (ls0 := [(Value.ref l0), (Value.int l1), (Value.int l2)]) rfl ?_
  have key : ∀ (Q : Option Value → pm_H → Prop), (r.2.1 = tb_SH → Q (some (Value.int r.1)) r.2) → PW b L xs d 24 0 0 0 [(Value.ref l0), (Value.int l1), (Value.int l2)] [] h Q := by
    intro Q hE
    rw [x_lacks] at hm
    refine pw_l (pc := 0) d24_0 rfl rfl rfl ?_
    obtain ⟨y1, e_y1, hm⟩ := ob_x hm
    have f_y1 := gO_x e_y1
    refine pw_gr (pc := 1) d24_1 (k24_61 b) (sho s_h f_l0) f0_4 f_y1.1 ?_
    obtain ⟨y2, e_y2, hm⟩ := ob_x hm
    have f_y2 := gO_x e_y2
    refine pw_gr (pc := 4) d24_4 (k24_83 b) (sho s_h f_y1.2) f9_0 f_y2.1 ?_
    refine pw_l (pc := 7) d24_7 rfl rfl rfl ?_
    obtain ⟨q3, e_q3, hm⟩ := ob_x hm
    refine pw_v (pc := 8) (k := y2) (by omega) d24_8 (k24_139 b) (by decide) m113 (by decide) rfl (sho s_h f_y2.2) (Nat.le_of_ble_eq_true rfl) (Nat.le_of_ble_eq_true rfl) rfl rfl (T_s_hasOrder b L xs (d - 1) (by omega) h s_h y2 l1 f_y2.2 e_q3) (fun v0 h0 hq => ?_)
    obtain ⟨rfl, hh0, s_q3⟩ := hq
    rw [hh0] at s_q3 ⊢
    simp only [Option.toList_some, List.cons_append, List.nil_append]
    refine pw_zeq (pc := 11) (t := 23) d24_11 (by decide) (fun c4 => ?_) (fun c4 => ?_)
    · rw [if_pos c4] at hm
      refine pw_s (pc := 23) d24_23 rfl rfl ?_
      obtain rfl := Option.some.inj hm
      refine pw_ri (pc := 24) d24_24 t24 rfl ?_
      exact hE s_h
    · rw [if_neg c4] at hm
      refine pw_l (pc := 14) d24_14 rfl rfl rfl ?_
      refine pw_zlt (pc := 15) (t := 23) d24_15 (by decide) (fun c5 => ?_) (fun c5 => ?_)
      · rw [if_pos c5] at hm
        refine pw_s (pc := 23) d24_23 rfl rfl ?_
        obtain rfl := Option.some.inj hm
        refine pw_ri (pc := 24) d24_24 t24 rfl ?_
        exact hE s_h
      · rw [if_neg c5] at hm
        refine pw_l (pc := 18) d24_18 rfl rfl rfl ?_
        refine pw_s (pc := 19) d24_19 rfl rfl ?_
        refine pw_ile (pc := 20) (t := 25) d24_20 (by decide) (fun c6 => ?_) (fun c6 => ?_)
        · rw [if_pos c6] at hm
          refine pw_l (pc := 25) d24_25 rfl rfl rfl ?_
          obtain ⟨y7, e_y7, hm⟩ := ob_x hm
          have f_y7 := gO_x e_y7
          refine pw_gr (pc := 26) d24_26 (k24_48 b) (sho s_h f_l0) f0_7 f_y7.1 ?_
          refine pw_l (pc := 29) d24_29 rfl rfl rfl ?_
          obtain ⟨y8, e_y8, hm⟩ := ob_x hm
          have f_y8 := gO_x e_y8
          refine pw_gr (pc := 30) d24_30 (k24_61 b) (sho s_h f_l0) f0_4 f_y8.1 ?_
          obtain ⟨y9, e_y9, hm⟩ := ob_x hm
          have f_y9 := gO_x e_y9
          refine pw_gr (pc := 33) d24_33 (k24_83 b) (sho s_h f_y8.2) f9_0 f_y9.1 ?_
          refine pw_l (pc := 36) d24_36 rfl rfl rfl ?_
          obtain ⟨y10, e_y10, hm⟩ := ob_x hm
          have f_y10 := gO_x e_y10
          refine pw_gr (pc := 37) d24_37 (k24_61 b) (sho s_h f_l0) f0_4 f_y10.1 ?_
          obtain ⟨y11, e_y11, hm⟩ := ob_x hm
          have f_y11 := gO_x e_y11
          refine pw_gr (pc := 40) d24_40 (k24_87 b) (sho s_h f_y10.2) f9_1 f_y11.1 ?_
          refine pw_l (pc := 43) d24_43 rfl rfl rfl ?_
          obtain ⟨q12, e_q12, hm⟩ := ob_x hm
          refine pw_v (pc := 44) (k := y7) (by omega) d24_44 (k24_250 b) (by decide) m54 (by decide) rfl (sho s_h f_y7.2) (Nat.le_of_ble_eq_true rfl) (Nat.le_of_ble_eq_true rfl) rfl rfl (T_a_findLacks b L xs (d - 1) (by omega) h s_h y7 y9 y11 l1 f_y7.2 f_y9.2 f_y11.2 e_q12) (fun v0 h0 hq => ?_)
          obtain ⟨rfl, hh0, s_q12⟩ := hq
          rw [hh0] at s_q12 ⊢
          simp only [Option.toList_none, List.nil_append]
          refine pw_l (pc := 47) d24_47 rfl rfl rfl ?_
          obtain ⟨y13, e_y13, hm⟩ := ob_x hm
          have f_y13 := gO_x e_y13
          refine pw_gr (pc := 48) d24_48 (k24_48 b) (sho s_q12 f_l0) f0_7 f_y13.1 ?_
          refine pw_gi (pc := 51) d24_51 (k24_253 b) (sho s_q12 f_y13.2) f1_5 ?_
          refine pw_s (pc := 54) d24_54 rfl rfl ?_
          refine pw_igt (pc := 55) (t := 69) d24_55 (by decide) (fun c14 => ?_) (fun c14 => ?_)
          · rw [if_pos c14] at hm
            refine pw_s (pc := 69) d24_69 rfl rfl ?_
            obtain rfl := Option.some.inj hm
            refine pw_ri (pc := 71) d24_71 t24 rfl ?_
            exact hE s_q12
          · rw [if_neg c14] at hm
            refine pw_l (pc := 58) d24_58 rfl rfl rfl ?_
            refine pw_l (pc := 59) d24_59 rfl rfl rfl ?_
            obtain ⟨y15, e_y15, hm⟩ := ob_x hm
            have f_y15 := gO_x e_y15
            refine pw_gr (pc := 60) d24_60 (k24_48 b) (sho s_q12 f_l0) f0_7 f_y15.1 ?_
            refine pw_gi (pc := 63) d24_63 (k24_253 b) (sho s_q12 f_y15.2) f1_5 ?_
            refine pw_ile (pc := 66) (t := 72) d24_66 (by decide) (fun c16 => ?_) (fun c16 => ?_)
            · rw [if_pos c16] at hm
              refine pw_l (pc := 72) d24_72 rfl rfl rfl ?_
              refine pw_zne (pc := 73) (t := 86) d24_73 (by decide) (fun c17 => ?_) (fun c17 => ?_)
              · rw [if_pos c17] at hm
                refine pw_l (pc := 86) d24_86 rfl rfl rfl ?_
                obtain ⟨y18, e_y18, hm⟩ := ob_x hm
                have f_y18 := gO_x e_y18
                refine pw_gr (pc := 87) d24_87 (k24_48 b) (sho s_q12 f_l0) f0_7 f_y18.1 ?_
                refine pw_l (pc := 90) d24_90 rfl rfl rfl ?_
                refine pw_s (pc := 91) d24_91 rfl rfl ?_
                refine pw_s (pc := 92) d24_92 rfl rfl ?_
                obtain ⟨q19, e_q19, hm⟩ := ob_x hm
                refine pw_v (pc := 93) (k := y18) (by omega) d24_93 (k24_256 b) (by decide) m57 (by decide) rfl (sho s_q12 f_y18.2) (Nat.le_of_ble_eq_true rfl) (Nat.le_of_ble_eq_true rfl) rfl rfl (T_a_lackWord b L xs (d - 1) (by omega) q12 s_q12 y18 (l2 - (Int32.ofInt 1)) f_y18.2 e_q19) (fun v0 h0 hq => ?_)
                obtain ⟨rfl, hh0, s_q19⟩ := hq
                rw [hh0] at s_q19 ⊢
                simp only [Option.toList_some, List.cons_append, List.nil_append]
                obtain rfl := Option.some.inj hm
                refine pw_ri (pc := 96) d24_96 t24 rfl ?_
                exact hE s_q12
              · rw [if_neg c17] at hm
                refine pw_l (pc := 76) d24_76 rfl rfl rfl ?_
                obtain ⟨y20, e_y20, hm⟩ := ob_x hm
                have f_y20 := gO_x e_y20
                refine pw_gr (pc := 77) d24_77 (k24_48 b) (sho s_q12 f_l0) f0_7 f_y20.1 ?_
                refine pw_gi (pc := 80) d24_80 (k24_253 b) (sho s_q12 f_y20.2) f1_5 ?_
                refine pw_go (pc := 83) (t := 96) d24_83 (by decide) ?_
                obtain rfl := Option.some.inj hm
                refine pw_ri (pc := 96) d24_96 t24 rfl ?_
                exact hE s_q12
            · rw [if_neg c16] at hm
              refine pw_s (pc := 69) d24_69 rfl rfl ?_
              obtain rfl := Option.some.inj hm
              refine pw_ri (pc := 71) d24_71 t24 rfl ?_
              exact hE s_q12
        · rw [if_neg c6] at hm
          refine pw_s (pc := 23) d24_23 rfl rfl ?_
          obtain rfl := Option.some.inj hm
          refine pw_ri (pc := 24) d24_24 t24 rfl ?_
          exact hE s_h
  exact key _ (fun q => ⟨rfl, rfl, q⟩)
noncomputable def x_done (l0 : Nat) (l1 : Int32) (l2 : Int32) (h : pm_H) : Option (Int32 × pm_H) := if ¬ l1 = (Int32.ofInt (-1)) then ((gO h l0 4 9).bind fun y2 => (gO h y2 0 7).bind fun y3 => (s_hasOrder y3 l1 h).bind fun q4 => if q4 = 0 then (some ((Int8.ofInt (-2)).toInt32, h)) else ((gO h l0 4 9).bind fun y6 => if (h.2.1 y6 2) < (Int8.ofInt 10).toInt32 then ((gO h l0 4 9).bind fun y8 => (w_tell y8 l1 l2 h).bind fun q9 => (gO q9 l0 4 9).bind fun y10 => some ((q9.2.1 y10 2), q9)) else (some ((Int8.ofInt (-2)).toInt32, h)))) else ((gO h l0 4 9).bind fun y11 => bd (pm_setI h y11 2 (Int32.ofInt 0)) fun h12 => some ((Int32.ofInt 0), h12))
theorem T_x_done (b : Bool) (L : Nat) (xs : Nat → Int32) (d : Nat) (hd : 1 ≤ d) (h : pm_H) (s_h : h.1 = tb_SH) (l0 : Nat) (l1 : Int32) (l2 : Int32) (f_l0 : mi_o l0 0 = true) {r : (Int32 × pm_H)} (hm : x_done l0 l1 l2 h = some r) : PC b L xs d 26 [(Value.ref l0), (Value.int l1), (Value.int l2)] h (fun (v0 : Option Value) (h2 : pm_H) => v0 = (some (Value.int r.1)) ∧ h2 = r.2 ∧ h2.1 = tb_SH) := by
  refine pc_in e26 (ls0 := [(Value.ref l0), (Value.int l1), (Value.int l2)]) rfl ?_
  have key : ∀ (Q : Option Value → pm_H → Prop), (r.2.1 = tb_SH → Q (some (Value.int r.1)) r.2) → PW b L xs d 26 0 0 0 [(Value.ref l0), (Value.int l1), (Value.int l2)] [] h Q := by
    intro Q hE
    rw [x_done] at hm
    refine pw_l (pc := 0) d26_0 rfl rfl rfl ?_
    refine pw_s (pc := 1) d26_1 rfl rfl ?_
    refine pw_ine (pc := 2) (t := 15) d26_2 (by decide) (fun c1 => ?_) (fun c1 => ?_)
    · rw [if_pos c1] at hm
      refine pw_l (pc := 15) d26_15 rfl rfl rfl ?_
      obtain ⟨y2, e_y2, hm⟩ := ob_x hm
      have f_y2 := gO_x e_y2
      refine pw_gr (pc := 16) d26_16 (k26_61 b) (sho s_h f_l0) f0_4 f_y2.1 ?_
      obtain ⟨y3, e_y3, hm⟩ := ob_x hm
      have f_y3 := gO_x e_y3
      refine pw_gr (pc := 19) d26_19 (k26_83 b) (sho s_h f_y2.2) f9_0 f_y3.1 ?_
      refine pw_l (pc := 22) d26_22 rfl rfl rfl ?_
      obtain ⟨q4, e_q4, hm⟩ := ob_x hm
      refine pw_v (pc := 23) (k := y3) (by omega) d26_23 (k26_139 b) (by decide) m113 (by decide) rfl (sho s_h f_y3.2) (Nat.le_of_ble_eq_true rfl) (Nat.le_of_ble_eq_true rfl) rfl rfl (T_s_hasOrder b L xs (d - 1) (by omega) h s_h y3 l1 f_y3.2 e_q4) (fun v0 h0 hq => ?_)
      obtain ⟨rfl, hh0, s_q4⟩ := hq
      rw [hh0] at s_q4 ⊢
      simp only [Option.toList_some, List.cons_append, List.nil_append]
      refine pw_zeq (pc := 26) (t := 41) d26_26 (by decide) (fun c5 => ?_) (fun c5 => ?_)
      · rw [if_pos c5] at hm
        refine pw_s (pc := 41) d26_41 rfl rfl ?_
        obtain rfl := Option.some.inj hm
        refine pw_ri (pc := 43) d26_43 t26 rfl ?_
        exact hE s_h
      · rw [if_neg c5] at hm
        refine pw_l (pc := 29) d26_29 rfl rfl rfl ?_
        obtain ⟨y6, e_y6, hm⟩ := ob_x hm
        have f_y6 := gO_x e_y6
        refine pw_gr (pc := 30) d26_30 (k26_61 b) (sho s_h f_l0) f0_4 f_y6.1 ?_
        refine pw_gi (pc := 33) d26_33 (k26_99 b) (sho s_h f_y6.2) f9_2 ?_
        refine pw_s (pc := 36) d26_36 rfl rfl ?_
        refine pw_ilt (pc := 38) (t := 44) d26_38 (by decide) (fun c7 => ?_) (fun c7 => ?_)
        · rw [if_pos c7] at hm
          refine pw_l (pc := 44) d26_44 rfl rfl rfl ?_
          obtain ⟨y8, e_y8, hm⟩ := ob_x hm
          have f_y8 := gO_x e_y8
          refine pw_gr (pc := 45) d26_45 (k26_61 b) (sho s_h f_l0) f0_4 f_y8.1 ?_
          refine pw_l (pc := 48) d26_48 rfl rfl rfl ?_
          refine pw_l (pc := 49) d26_49 rfl rfl rfl ?_
          obtain ⟨q9, e_q9, hm⟩ := ob_x hm
          refine pw_v (pc := 50) (k := y8) (by omega) d26_50 (k26_269 b) (by decide) m145 (by decide) rfl (sho s_h f_y8.2) (Nat.le_of_ble_eq_true rfl) (Nat.le_of_ble_eq_true rfl) rfl rfl (T_w_tell b L xs (d - 1) (by omega) h s_h y8 l1 l2 f_y8.2 e_q9) (fun v0 h0 hq => ?_)
          obtain ⟨rfl, hh0, s_q9⟩ := hq
          rw [hh0] at s_q9 ⊢
          simp only [Option.toList_none, List.nil_append]
          refine pw_l (pc := 53) d26_53 rfl rfl rfl ?_
          obtain ⟨y10, e_y10, hm⟩ := ob_x hm
          have f_y10 := gO_x e_y10
          refine pw_gr (pc := 54) d26_54 (k26_61 b) (sho s_q9 f_l0) f0_4 f_y10.1 ?_
          refine pw_gi (pc := 57) d26_57 (k26_99 b) (sho s_q9 f_y10.2) f9_2 ?_
          obtain rfl := Option.some.inj hm
          refine pw_ri (pc := 60) d26_60 t26 rfl ?_
          exact hE s_q9
        · rw [if_neg c7] at hm
          refine pw_s (pc := 41) d26_41 rfl rfl ?_
          obtain rfl := Option.some.inj hm
          refine pw_ri (pc := 43) d26_43 t26 rfl ?_
          exact hE s_h
    · rw [if_neg c1] at hm
      refine pw_l (pc := 5) d26_5 rfl rfl rfl ?_
      obtain ⟨y11, e_y11, hm⟩ := ob_x hm
      have f_y11 := gO_x e_y11
      refine pw_gr (pc := 6) d26_6 (k26_61 b) (sho s_h f_l0) f0_4 f_y11.1 ?_
      refine pw_s (pc := 9) d26_9 rfl rfl ?_
      refine pw_pi (pc := 10) d26_10 (k26_99 b) (sho s_h f_y11.2) p26_9_2 ?_
      obtain ⟨h12, e_h12, hm⟩ := bd_x hm
      rw [e_h12]
      have s_h12 : h12.1 = tb_SH := by rw [← e_h12]; exact s_h
      refine pw_s (pc := 13) d26_13 rfl rfl ?_
      obtain rfl := Option.some.inj hm
      refine pw_ri (pc := 14) d26_14 t26 rfl ?_
      exact hE s_h12
  exact key _ (fun q => ⟨rfl, rfl, q⟩)
noncomputable def x_awake (l0 : Nat) (l1 : Int32) (h : pm_H) : Option (Int32 × pm_H) := (gO h l0 4 9).bind fun y1 => (gO h y1 0 7).bind fun y2 => (s_sails y2 h).bind fun q3 => if q3 = 0 then (some ((Int32.ofInt (-1)), h)) else (if l1 < 0 then (some ((Int32.ofInt (-1)), h)) else (if l1 ≤ (Int32.ofInt 2) then ((gO h l0 7 1).bind fun y7 => (gO h l0 4 9).bind fun y8 => (a_gather y7 y8 h).bind fun q9 => if ¬ l1 = 0 then (if ¬ l1 = (Int32.ofInt 1) then ((gO q9 l0 7 1).bind fun y12 => some ((q9.2.1 y12 14), q9)) else ((gO q9 l0 7 1).bind fun y13 => some ((q9.2.1 y13 13), q9))) else ((gO q9 l0 7 1).bind fun y14 => some ((q9.2.1 y14 12), q9))) else (some ((Int32.ofInt (-1)), h))))
theorem T_x_awake (b : Bool) (L : Nat) (xs : Nat → Int32) (d : Nat) (hd : 5 ≤ d) (h : pm_H) (s_h : h.1 = tb_SH) (l0 : Nat) (l1 : Int32) (f_l0 : mi_o l0 0 = true) {r : (Int32 × pm_H)} (hm : x_awake l0 l1 h = some r) : PC b L xs d 27 [(Value.ref l0), (Value.int l1)] h (fun (v0 : Option Value) (h2 : pm_H) => v0 = (some (Value.int r.1)) ∧ h2 = r.2 ∧ h2.1 = tb_SH) := by
  refine pc_in e27 (ls0 := [(Value.ref l0), (Value.int l1)]) rfl ?_
  have key : ∀ (Q : Option Value → pm_H → Prop), (r.2.1 = tb_SH → Q (some (Value.int r.1)) r.2) → PW b L xs d 27 0 0 0 [(Value.ref l0), (Value.int l1)] [] h Q := by
    intro Q hE
    rw [x_awake] at hm
    refine pw_l (pc := 0) d27_0 rfl rfl rfl ?_
    obtain ⟨y1, e_y1, hm⟩ := ob_x hm
    have f_y1 := gO_x e_y1
    refine pw_gr (pc := 1) d27_1 (k27_61 b) (sho s_h f_l0) f0_4 f_y1.1 ?_
    obtain ⟨y2, e_y2, hm⟩ := ob_x hm
    have f_y2 := gO_x e_y2
    refine pw_gr (pc := 4) d27_4 (k27_83 b) (sho s_h f_y1.2) f9_0 f_y2.1 ?_
    obtain ⟨q3, e_q3, hm⟩ := ob_x hm
    refine pw_v (pc := 7) (k := y2) (by omega) d27_7 (k27_177 b) (by decide) m110 (by decide) rfl (sho s_h f_y2.2) (Nat.le_of_ble_eq_true rfl) (Nat.le_of_ble_eq_true rfl) rfl rfl (T_s_sails b L xs (d - 1) (by omega) h s_h y2 f_y2.2 e_q3) (fun v0 h0 hq => ?_)
    obtain ⟨rfl, hh0, s_q3⟩ := hq
    rw [hh0] at s_q3 ⊢
    simp only [Option.toList_some, List.cons_append, List.nil_append]
    refine pw_zeq (pc := 10) (t := 22) d27_10 (by decide) (fun c4 => ?_) (fun c4 => ?_)
    · rw [if_pos c4] at hm
      refine pw_s (pc := 22) d27_22 rfl rfl ?_
      obtain rfl := Option.some.inj hm
      refine pw_ri (pc := 23) d27_23 t27 rfl ?_
      exact hE s_h
    · rw [if_neg c4] at hm
      refine pw_l (pc := 13) d27_13 rfl rfl rfl ?_
      refine pw_zlt (pc := 14) (t := 22) d27_14 (by decide) (fun c5 => ?_) (fun c5 => ?_)
      · rw [if_pos c5] at hm
        refine pw_s (pc := 22) d27_22 rfl rfl ?_
        obtain rfl := Option.some.inj hm
        refine pw_ri (pc := 23) d27_23 t27 rfl ?_
        exact hE s_h
      · rw [if_neg c5] at hm
        refine pw_l (pc := 17) d27_17 rfl rfl rfl ?_
        refine pw_s (pc := 18) d27_18 rfl rfl ?_
        refine pw_ile (pc := 19) (t := 24) d27_19 (by decide) (fun c6 => ?_) (fun c6 => ?_)
        · rw [if_pos c6] at hm
          refine pw_l (pc := 24) d27_24 rfl rfl rfl ?_
          obtain ⟨y7, e_y7, hm⟩ := ob_x hm
          have f_y7 := gO_x e_y7
          refine pw_gr (pc := 25) d27_25 (k27_48 b) (sho s_h f_l0) f0_7 f_y7.1 ?_
          refine pw_l (pc := 28) d27_28 rfl rfl rfl ?_
          obtain ⟨y8, e_y8, hm⟩ := ob_x hm
          have f_y8 := gO_x e_y8
          refine pw_gr (pc := 29) d27_29 (k27_61 b) (sho s_h f_l0) f0_4 f_y8.1 ?_
          obtain ⟨q9, e_q9, hm⟩ := ob_x hm
          refine pw_v (pc := 32) (k := y7) (by omega) d27_32 (k27_272 b) (by decide) m60 (by decide) rfl (sho s_h f_y7.2) (Nat.le_of_ble_eq_true rfl) (Nat.le_of_ble_eq_true rfl) rfl rfl (T_a_gather b L xs (d - 1) (by omega) h s_h y7 y8 f_y7.2 f_y8.2 e_q9) (fun v0 h0 hq => ?_)
          obtain ⟨rfl, hh0, s_q9⟩ := hq
          rw [hh0] at s_q9 ⊢
          simp only [Option.toList_none, List.nil_append]
          refine pw_l (pc := 35) d27_35 rfl rfl rfl ?_
          refine pw_zne (pc := 36) (t := 47) d27_36 (by decide) (fun c10 => ?_) (fun c10 => ?_)
          · rw [if_pos c10] at hm
            refine pw_l (pc := 47) d27_47 rfl rfl rfl ?_
            refine pw_s (pc := 48) d27_48 rfl rfl ?_
            refine pw_ine (pc := 49) (t := 62) d27_49 (by decide) (fun c11 => ?_) (fun c11 => ?_)
            · rw [if_pos c11] at hm
              refine pw_l (pc := 62) d27_62 rfl rfl rfl ?_
              obtain ⟨y12, e_y12, hm⟩ := ob_x hm
              have f_y12 := gO_x e_y12
              refine pw_gr (pc := 63) d27_63 (k27_48 b) (sho s_q9 f_l0) f0_7 f_y12.1 ?_
              refine pw_gi (pc := 66) d27_66 (k27_282 b) (sho s_q9 f_y12.2) f1_14 ?_
              obtain rfl := Option.some.inj hm
              refine pw_ri (pc := 69) d27_69 t27 rfl ?_
              exact hE s_q9
            · rw [if_neg c11] at hm
              refine pw_l (pc := 52) d27_52 rfl rfl rfl ?_
              obtain ⟨y13, e_y13, hm⟩ := ob_x hm
              have f_y13 := gO_x e_y13
              refine pw_gr (pc := 53) d27_53 (k27_48 b) (sho s_q9 f_l0) f0_7 f_y13.1 ?_
              refine pw_gi (pc := 56) d27_56 (k27_279 b) (sho s_q9 f_y13.2) f1_13 ?_
              refine pw_go (pc := 59) (t := 69) d27_59 (by decide) ?_
              obtain rfl := Option.some.inj hm
              refine pw_ri (pc := 69) d27_69 t27 rfl ?_
              exact hE s_q9
          · rw [if_neg c10] at hm
            refine pw_l (pc := 39) d27_39 rfl rfl rfl ?_
            obtain ⟨y14, e_y14, hm⟩ := ob_x hm
            have f_y14 := gO_x e_y14
            refine pw_gr (pc := 40) d27_40 (k27_48 b) (sho s_q9 f_l0) f0_7 f_y14.1 ?_
            refine pw_gi (pc := 43) d27_43 (k27_276 b) (sho s_q9 f_y14.2) f1_12 ?_
            obtain rfl := Option.some.inj hm
            refine pw_ri (pc := 46) d27_46 t27 rfl ?_
            exact hE s_q9
        · rw [if_neg c6] at hm
          refine pw_s (pc := 22) d27_22 rfl rfl ?_
          obtain rfl := Option.some.inj hm
          refine pw_ri (pc := 23) d27_23 t27 rfl ?_
          exact hE s_h
  exact key _ (fun q => ⟨rfl, rfl, q⟩)
noncomputable def x_ask (l0 : Nat) (l1 : Int32) (h : pm_H) : Option (Int32 × pm_H) := (gO h l0 4 9).bind fun y1 => (gO h y1 0 7).bind fun y2 => (s_sails y2 h).bind fun q3 => if q3 = 0 then (some ((Int32.ofInt (-1)), h)) else (if l1 < 0 then (some ((Int32.ofInt (-1)), h)) else (if l1 ≤ (Int32.ofInt 1) then ((gO h l0 7 1).bind fun y7 => (gO h l0 4 9).bind fun y8 => (a_gather y7 y8 h).bind fun q9 => (gO q9 l0 7 1).bind fun y10 => if (q9.2.1 y10 12) = 0 then (some ((Int8.ofInt (-2)).toInt32, q9)) else ((gO q9 l0 4 9).bind fun y12 => (gO q9 y12 0 7).bind fun y13 => if ¬ (q9.2.1 y13 2) = 0 then ((gO q9 l0 7 1).bind fun y15 => (gO q9 l0 4 9).bind fun y16 => (gO q9 y16 0 7).bind fun y17 => (a_bestQuestion y15 (q9.2.1 y17 2) q9).bind fun q18 => if ¬ l1 = 0 then ((gO q9 l0 7 1).bind fun y20 => (a_greaterPart y20 q18 q9).bind fun q21 => some (q21, q9)) else (some (q18, q9))) else (some ((Int8.ofInt (-2)).toInt32, q9)))) else (some ((Int32.ofInt (-1)), h))))
theorem T_x_ask (b : Bool) (L : Nat) (xs : Nat → Int32) (d : Nat) (hd : 5 ≤ d) (h : pm_H) (s_h : h.1 = tb_SH) (l0 : Nat) (l1 : Int32) (f_l0 : mi_o l0 0 = true) {r : (Int32 × pm_H)} (hm : x_ask l0 l1 h = some r) : PC b L xs d 28 [(Value.ref l0), (Value.int l1)] h (fun (v0 : Option Value) (h2 : pm_H) => v0 = (some (Value.int r.1)) ∧ h2 = r.2 ∧ h2.1 = tb_SH) := by
  refine pc_in e28 (ls0 := [(Value.ref l0), (Value.int l1), Value.retAddr 0]) rfl ?_
  have key : ∀ (Q : Option Value → pm_H → Prop), (r.2.1 = tb_SH → Q (some (Value.int r.1)) r.2) → PW b L xs d 28 0 0 0 [(Value.ref l0), (Value.int l1), Value.retAddr 0] [] h Q := by
    intro Q hE
    rw [x_ask] at hm
    refine pw_l (pc := 0) d28_0 rfl rfl rfl ?_
    obtain ⟨y1, e_y1, hm⟩ := ob_x hm
    have f_y1 := gO_x e_y1
    refine pw_gr (pc := 1) d28_1 (k28_61 b) (sho s_h f_l0) f0_4 f_y1.1 ?_
    obtain ⟨y2, e_y2, hm⟩ := ob_x hm
    have f_y2 := gO_x e_y2
    refine pw_gr (pc := 4) d28_4 (k28_83 b) (sho s_h f_y1.2) f9_0 f_y2.1 ?_
    obtain ⟨q3, e_q3, hm⟩ := ob_x hm
    refine pw_v (pc := 7) (k := y2) (by omega) d28_7 (k28_177 b) (by decide) m110 (by decide) rfl (sho s_h f_y2.2) (Nat.le_of_ble_eq_true rfl) (Nat.le_of_ble_eq_true rfl) rfl rfl (T_s_sails b L xs (d - 1) (by omega) h s_h y2 f_y2.2 e_q3) (fun v0 h0 hq => ?_)
    obtain ⟨rfl, hh0, s_q3⟩ := hq
    rw [hh0] at s_q3 ⊢
    simp only [Option.toList_some, List.cons_append, List.nil_append]
    refine pw_zeq (pc := 10) (t := 22) d28_10 (by decide) (fun c4 => ?_) (fun c4 => ?_)
    · rw [if_pos c4] at hm
      refine pw_s (pc := 22) d28_22 rfl rfl ?_
      obtain rfl := Option.some.inj hm
      refine pw_ri (pc := 23) d28_23 t28 rfl ?_
      exact hE s_h
    · rw [if_neg c4] at hm
      refine pw_l (pc := 13) d28_13 rfl rfl rfl ?_
      refine pw_zlt (pc := 14) (t := 22) d28_14 (by decide) (fun c5 => ?_) (fun c5 => ?_)
      · rw [if_pos c5] at hm
        refine pw_s (pc := 22) d28_22 rfl rfl ?_
        obtain rfl := Option.some.inj hm
        refine pw_ri (pc := 23) d28_23 t28 rfl ?_
        exact hE s_h
      · rw [if_neg c5] at hm
        refine pw_l (pc := 17) d28_17 rfl rfl rfl ?_
        refine pw_s (pc := 18) d28_18 rfl rfl ?_
        refine pw_ile (pc := 19) (t := 24) d28_19 (by decide) (fun c6 => ?_) (fun c6 => ?_)
        · rw [if_pos c6] at hm
          refine pw_l (pc := 24) d28_24 rfl rfl rfl ?_
          obtain ⟨y7, e_y7, hm⟩ := ob_x hm
          have f_y7 := gO_x e_y7
          refine pw_gr (pc := 25) d28_25 (k28_48 b) (sho s_h f_l0) f0_7 f_y7.1 ?_
          refine pw_l (pc := 28) d28_28 rfl rfl rfl ?_
          obtain ⟨y8, e_y8, hm⟩ := ob_x hm
          have f_y8 := gO_x e_y8
          refine pw_gr (pc := 29) d28_29 (k28_61 b) (sho s_h f_l0) f0_4 f_y8.1 ?_
          obtain ⟨q9, e_q9, hm⟩ := ob_x hm
          refine pw_v (pc := 32) (k := y7) (by omega) d28_32 (k28_272 b) (by decide) m60 (by decide) rfl (sho s_h f_y7.2) (Nat.le_of_ble_eq_true rfl) (Nat.le_of_ble_eq_true rfl) rfl rfl (T_a_gather b L xs (d - 1) (by omega) h s_h y7 y8 f_y7.2 f_y8.2 e_q9) (fun v0 h0 hq => ?_)
          obtain ⟨rfl, hh0, s_q9⟩ := hq
          rw [hh0] at s_q9 ⊢
          simp only [Option.toList_none, List.nil_append]
          refine pw_l (pc := 35) d28_35 rfl rfl rfl ?_
          obtain ⟨y10, e_y10, hm⟩ := ob_x hm
          have f_y10 := gO_x e_y10
          refine pw_gr (pc := 36) d28_36 (k28_48 b) (sho s_q9 f_l0) f0_7 f_y10.1 ?_
          refine pw_gi (pc := 39) d28_39 (k28_276 b) (sho s_q9 f_y10.2) f1_12 ?_
          refine pw_zeq (pc := 42) (t := 58) d28_42 (by decide) (fun c11 => ?_) (fun c11 => ?_)
          · rw [if_pos c11] at hm
            refine pw_s (pc := 58) d28_58 rfl rfl ?_
            obtain rfl := Option.some.inj hm
            refine pw_ri (pc := 60) d28_60 t28 rfl ?_
            exact hE s_q9
          · rw [if_neg c11] at hm
            refine pw_l (pc := 45) d28_45 rfl rfl rfl ?_
            obtain ⟨y12, e_y12, hm⟩ := ob_x hm
            have f_y12 := gO_x e_y12
            refine pw_gr (pc := 46) d28_46 (k28_61 b) (sho s_q9 f_l0) f0_4 f_y12.1 ?_
            obtain ⟨y13, e_y13, hm⟩ := ob_x hm
            have f_y13 := gO_x e_y13
            refine pw_gr (pc := 49) d28_49 (k28_83 b) (sho s_q9 f_y12.2) f9_0 f_y13.1 ?_
            refine pw_gi (pc := 52) d28_52 (k28_285 b) (sho s_q9 f_y13.2) f7_2 ?_
            refine pw_zne (pc := 55) (t := 61) d28_55 (by decide) (fun c14 => ?_) (fun c14 => ?_)
            · rw [if_pos c14] at hm
              refine pw_l (pc := 61) d28_61 rfl rfl rfl ?_
              obtain ⟨y15, e_y15, hm⟩ := ob_x hm
              have f_y15 := gO_x e_y15
              refine pw_gr (pc := 62) d28_62 (k28_48 b) (sho s_q9 f_l0) f0_7 f_y15.1 ?_
              refine pw_l (pc := 65) d28_65 rfl rfl rfl ?_
              obtain ⟨y16, e_y16, hm⟩ := ob_x hm
              have f_y16 := gO_x e_y16
              refine pw_gr (pc := 66) d28_66 (k28_61 b) (sho s_q9 f_l0) f0_4 f_y16.1 ?_
              obtain ⟨y17, e_y17, hm⟩ := ob_x hm
              have f_y17 := gO_x e_y17
              refine pw_gr (pc := 69) d28_69 (k28_83 b) (sho s_q9 f_y16.2) f9_0 f_y17.1 ?_
              refine pw_gi (pc := 72) d28_72 (k28_285 b) (sho s_q9 f_y17.2) f7_2 ?_
              obtain ⟨q18, e_q18, hm⟩ := ob_x hm
              refine pw_v (pc := 75) (k := y15) (by omega) d28_75 (k28_288 b) (by decide) m63 (by decide) rfl (sho s_q9 f_y15.2) (Nat.le_of_ble_eq_true rfl) (Nat.le_of_ble_eq_true rfl) rfl rfl (T_a_bestQuestion b L xs (d - 1) (by omega) q9 s_q9 y15 (q9.2.1 y17 2) f_y15.2 e_q18) (fun v0 h0 hq => ?_)
              obtain ⟨rfl, hh0, s_q18⟩ := hq
              rw [hh0] at s_q18 ⊢
              simp only [Option.toList_some, List.cons_append, List.nil_append]
              refine pw_t (pc := 78) d28_78 rfl rfl rfl rfl ?_
              refine pw_l (pc := 79) d28_79 rfl rfl rfl ?_
              refine pw_zne (pc := 80) (t := 87) d28_80 (by decide) (fun c19 => ?_) (fun c19 => ?_)
              · rw [if_pos c19] at hm
                refine pw_l (pc := 87) d28_87 rfl rfl rfl ?_
                obtain ⟨y20, e_y20, hm⟩ := ob_x hm
                have f_y20 := gO_x e_y20
                refine pw_gr (pc := 88) d28_88 (k28_48 b) (sho s_q9 f_l0) f0_7 f_y20.1 ?_
                refine pw_l (pc := 91) d28_91 rfl rfl rfl ?_
                obtain ⟨q21, e_q21, hm⟩ := ob_x hm
                refine pw_v (pc := 92) (k := y20) (by omega) d28_92 (k28_291 b) (by decide) m62 (by decide) rfl (sho s_q9 f_y20.2) (Nat.le_of_ble_eq_true rfl) (Nat.le_of_ble_eq_true rfl) rfl rfl (T_a_greaterPart b L xs (d - 1) (by omega) q9 s_q9 y20 q18 f_y20.2 e_q21) (fun v0 h0 hq => ?_)
                obtain ⟨rfl, hh0, s_q21⟩ := hq
                rw [hh0] at s_q21 ⊢
                simp only [Option.toList_some, List.cons_append, List.nil_append]
                obtain rfl := Option.some.inj hm
                refine pw_ri (pc := 95) d28_95 t28 rfl ?_
                exact hE s_q9
              · rw [if_neg c19] at hm
                refine pw_l (pc := 83) d28_83 rfl rfl rfl ?_
                refine pw_go (pc := 84) (t := 95) d28_84 (by decide) ?_
                obtain rfl := Option.some.inj hm
                refine pw_ri (pc := 95) d28_95 t28 rfl ?_
                exact hE s_q9
            · rw [if_neg c14] at hm
              refine pw_s (pc := 58) d28_58 rfl rfl ?_
              obtain rfl := Option.some.inj hm
              refine pw_ri (pc := 60) d28_60 t28 rfl ?_
              exact hE s_q9
        · rw [if_neg c6] at hm
          refine pw_s (pc := 22) d28_22 rfl rfl ?_
          obtain rfl := Option.some.inj hm
          refine pw_ri (pc := 23) d28_23 t28 rfl ?_
          exact hE s_h
  exact key _ (fun q => ⟨rfl, rfl, q⟩)
noncomputable def x_seed (l0 : Nat) (l1 : Int32) (h : pm_H) : Option (Int32 × pm_H) := if 0 ≤ l1 then ((gO h l0 4 9).bind fun y2 => (gO h l0 4 9).bind fun y3 => bd (pm_setI h y3 5 l1) fun h4 => some ((h.2.1 y2 5), h4)) else (some ((Int32.ofInt (-1)), h))
theorem T_x_seed (b : Bool) (L : Nat) (xs : Nat → Int32) (d : Nat) (hd : 0 ≤ d) (h : pm_H) (s_h : h.1 = tb_SH) (l0 : Nat) (l1 : Int32) (f_l0 : mi_o l0 0 = true) {r : (Int32 × pm_H)} (hm : x_seed l0 l1 h = some r) : PC b L xs d 29 [(Value.ref l0), (Value.int l1)] h (fun (v0 : Option Value) (h2 : pm_H) => v0 = (some (Value.int r.1)) ∧ h2 = r.2 ∧ h2.1 = tb_SH) := by
  refine pc_in e29 (ls0 := [(Value.ref l0), (Value.int l1), Value.retAddr 0]) rfl ?_
  have key : ∀ (Q : Option Value → pm_H → Prop), (r.2.1 = tb_SH → Q (some (Value.int r.1)) r.2) → PW b L xs d 29 0 0 0 [(Value.ref l0), (Value.int l1), Value.retAddr 0] [] h Q := by
    intro Q hE
    rw [x_seed] at hm
    refine pw_l (pc := 0) d29_0 rfl rfl rfl ?_
    refine pw_zge (pc := 1) (t := 6) d29_1 (by decide) (fun c1 => ?_) (fun c1 => ?_)
    · rw [if_pos c1] at hm
      refine pw_l (pc := 6) d29_6 rfl rfl rfl ?_
      obtain ⟨y2, e_y2, hm⟩ := ob_x hm
      have f_y2 := gO_x e_y2
      refine pw_gr (pc := 7) d29_7 (k29_61 b) (sho s_h f_l0) f0_4 f_y2.1 ?_
      refine pw_gi (pc := 10) d29_10 (k29_294 b) (sho s_h f_y2.2) f9_5 ?_
      refine pw_t (pc := 13) d29_13 rfl rfl rfl rfl ?_
      refine pw_l (pc := 14) d29_14 rfl rfl rfl ?_
      obtain ⟨y3, e_y3, hm⟩ := ob_x hm
      have f_y3 := gO_x e_y3
      refine pw_gr (pc := 15) d29_15 (k29_61 b) (sho s_h f_l0) f0_4 f_y3.1 ?_
      refine pw_l (pc := 18) d29_18 rfl rfl rfl ?_
      refine pw_pi (pc := 19) d29_19 (k29_294 b) (sho s_h f_y3.2) p29_9_5 ?_
      obtain ⟨h4, e_h4, hm⟩ := bd_x hm
      rw [e_h4]
      have s_h4 : h4.1 = tb_SH := by rw [← e_h4]; exact s_h
      refine pw_l (pc := 22) d29_22 rfl rfl rfl ?_
      obtain rfl := Option.some.inj hm
      refine pw_ri (pc := 23) d29_23 t29 rfl ?_
      exact hE s_h4
    · rw [if_neg c1] at hm
      refine pw_s (pc := 4) d29_4 rfl rfl ?_
      obtain rfl := Option.some.inj hm
      refine pw_ri (pc := 5) d29_5 t29 rfl ?_
      exact hE s_h
  exact key _ (fun q => ⟨rfl, rfl, q⟩)
noncomputable def x_voyages (l0 : Nat) (l1 : Int32) (l2 : Int32) (l3 : Int32) (l4 : Int32) (h : pm_H) : Option (Int32 × pm_H) := (gO h l0 4 9).bind fun y1 => (gO h y1 0 7).bind fun y2 => (s_sails y2 h).bind fun q3 => if q3 = 0 then (some ((Int32.ofInt (-1)), h)) else (if l1 < (Int32.ofInt 1) then (some ((Int32.ofInt (-1)), h)) else (if (Int8.ofInt 10).toInt32 < l1 then (some ((Int32.ofInt (-1)), h)) else (if l2 < (Int32.ofInt 1) then (some ((Int32.ofInt (-1)), h)) else (if l2 ≤ (Int8.ofInt 20).toInt32 then (if l3 < 0 then (some ((Int32.ofInt (-1)), h)) else (if (Int8.ofInt 100).toInt32 < l3 then (some ((Int32.ofInt (-1)), h)) else (if l4 < 0 then (some ((Int32.ofInt (-1)), h)) else (if l4 ≤ (Int32.ofInt 1) then ((gO h l0 7 1).bind fun y13 => (gO h l0 4 9).bind fun y14 => (a_sail y13 y14 l1 l2 l3 h).bind fun q15 => if ¬ l4 = 0 then ((gO q15 l0 7 1).bind fun y17 => some ((q15.2.1 y17 17), q15)) else ((gO q15 l0 7 1).bind fun y18 => some ((q15.2.1 y18 16), q15))) else (some ((Int32.ofInt (-1)), h)))))) else (some ((Int32.ofInt (-1)), h))))))
theorem T_x_voyages (b : Bool) (L : Nat) (xs : Nat → Int32) (d : Nat) (hd : 6 ≤ d) (h : pm_H) (s_h : h.1 = tb_SH) (l0 : Nat) (l1 : Int32) (l2 : Int32) (l3 : Int32) (l4 : Int32) (f_l0 : mi_o l0 0 = true) {r : (Int32 × pm_H)} (hm : x_voyages l0 l1 l2 l3 l4 h = some r) : PC b L xs d 30 [(Value.ref l0), (Value.int l1), (Value.int l2), (Value.int l3), (Value.int l4)] h (fun (v0 : Option Value) (h2 : pm_H) => v0 = (some (Value.int r.1)) ∧ h2 = r.2 ∧ h2.1 = tb_SH) := by
  refine pc_in e30 (ls0 := [(Value.ref l0), (Value.int l1), (Value.int l2), (Value.int l3), (Value.int l4)]) rfl ?_
  have key : ∀ (Q : Option Value → pm_H → Prop), (r.2.1 = tb_SH → Q (some (Value.int r.1)) r.2) → PW b L xs d 30 0 0 0 [(Value.ref l0), (Value.int l1), (Value.int l2), (Value.int l3), (Value.int l4)] [] h Q := by
    intro Q hE
    rw [x_voyages] at hm
    refine pw_l (pc := 0) d30_0 rfl rfl rfl ?_
    obtain ⟨y1, e_y1, hm⟩ := ob_x hm
    have f_y1 := gO_x e_y1
    refine pw_gr (pc := 1) d30_1 (k30_61 b) (sho s_h f_l0) f0_4 f_y1.1 ?_
    obtain ⟨y2, e_y2, hm⟩ := ob_x hm
    have f_y2 := gO_x e_y2
    refine pw_gr (pc := 4) d30_4 (k30_83 b) (sho s_h f_y1.2) f9_0 f_y2.1 ?_
    obtain ⟨q3, e_q3, hm⟩ := ob_x hm
    refine pw_v (pc := 7) (k := y2) (by omega) d30_7 (k30_177 b) (by decide) m110 (by decide) rfl (sho s_h f_y2.2) (Nat.le_of_ble_eq_true rfl) (Nat.le_of_ble_eq_true rfl) rfl rfl (T_s_sails b L xs (d - 1) (by omega) h s_h y2 f_y2.2 e_q3) (fun v0 h0 hq => ?_)
    obtain ⟨rfl, hh0, s_q3⟩ := hq
    rw [hh0] at s_q3 ⊢
    simp only [Option.toList_some, List.cons_append, List.nil_append]
    refine pw_zeq (pc := 10) (t := 35) d30_10 (by decide) (fun c4 => ?_) (fun c4 => ?_)
    · rw [if_pos c4] at hm
      refine pw_s (pc := 35) d30_35 rfl rfl ?_
      obtain rfl := Option.some.inj hm
      refine pw_ri (pc := 36) d30_36 t30 rfl ?_
      exact hE s_h
    · rw [if_neg c4] at hm
      refine pw_l (pc := 13) d30_13 rfl rfl rfl ?_
      refine pw_s (pc := 14) d30_14 rfl rfl ?_
      refine pw_ilt (pc := 15) (t := 35) d30_15 (by decide) (fun c5 => ?_) (fun c5 => ?_)
      · rw [if_pos c5] at hm
        refine pw_s (pc := 35) d30_35 rfl rfl ?_
        obtain rfl := Option.some.inj hm
        refine pw_ri (pc := 36) d30_36 t30 rfl ?_
        exact hE s_h
      · rw [if_neg c5] at hm
        refine pw_l (pc := 18) d30_18 rfl rfl rfl ?_
        refine pw_s (pc := 19) d30_19 rfl rfl ?_
        refine pw_igt (pc := 21) (t := 35) d30_21 (by decide) (fun c6 => ?_) (fun c6 => ?_)
        · rw [if_pos c6] at hm
          refine pw_s (pc := 35) d30_35 rfl rfl ?_
          obtain rfl := Option.some.inj hm
          refine pw_ri (pc := 36) d30_36 t30 rfl ?_
          exact hE s_h
        · rw [if_neg c6] at hm
          refine pw_l (pc := 24) d30_24 rfl rfl rfl ?_
          refine pw_s (pc := 25) d30_25 rfl rfl ?_
          refine pw_ilt (pc := 26) (t := 35) d30_26 (by decide) (fun c7 => ?_) (fun c7 => ?_)
          · rw [if_pos c7] at hm
            refine pw_s (pc := 35) d30_35 rfl rfl ?_
            obtain rfl := Option.some.inj hm
            refine pw_ri (pc := 36) d30_36 t30 rfl ?_
            exact hE s_h
          · rw [if_neg c7] at hm
            refine pw_l (pc := 29) d30_29 rfl rfl rfl ?_
            refine pw_s (pc := 30) d30_30 rfl rfl ?_
            refine pw_ile (pc := 32) (t := 37) d30_32 (by decide) (fun c8 => ?_) (fun c8 => ?_)
            · rw [if_pos c8] at hm
              refine pw_l (pc := 37) d30_37 rfl rfl rfl ?_
              refine pw_zlt (pc := 38) (t := 58) d30_38 (by decide) (fun c9 => ?_) (fun c9 => ?_)
              · rw [if_pos c9] at hm
                refine pw_s (pc := 58) d30_58 rfl rfl ?_
                obtain rfl := Option.some.inj hm
                refine pw_ri (pc := 59) d30_59 t30 rfl ?_
                exact hE s_h
              · rw [if_neg c9] at hm
                refine pw_l (pc := 41) d30_41 rfl rfl rfl ?_
                refine pw_s (pc := 42) d30_42 rfl rfl ?_
                refine pw_igt (pc := 44) (t := 58) d30_44 (by decide) (fun c10 => ?_) (fun c10 => ?_)
                · rw [if_pos c10] at hm
                  refine pw_s (pc := 58) d30_58 rfl rfl ?_
                  obtain rfl := Option.some.inj hm
                  refine pw_ri (pc := 59) d30_59 t30 rfl ?_
                  exact hE s_h
                · rw [if_neg c10] at hm
                  refine pw_l (pc := 47) d30_47 rfl rfl rfl ?_
                  refine pw_zlt (pc := 49) (t := 58) d30_49 (by decide) (fun c11 => ?_) (fun c11 => ?_)
                  · rw [if_pos c11] at hm
                    refine pw_s (pc := 58) d30_58 rfl rfl ?_
                    obtain rfl := Option.some.inj hm
                    refine pw_ri (pc := 59) d30_59 t30 rfl ?_
                    exact hE s_h
                  · rw [if_neg c11] at hm
                    refine pw_l (pc := 52) d30_52 rfl rfl rfl ?_
                    refine pw_s (pc := 54) d30_54 rfl rfl ?_
                    refine pw_ile (pc := 55) (t := 60) d30_55 (by decide) (fun c12 => ?_) (fun c12 => ?_)
                    · rw [if_pos c12] at hm
                      refine pw_l (pc := 60) d30_60 rfl rfl rfl ?_
                      obtain ⟨y13, e_y13, hm⟩ := ob_x hm
                      have f_y13 := gO_x e_y13
                      refine pw_gr (pc := 61) d30_61 (k30_48 b) (sho s_h f_l0) f0_7 f_y13.1 ?_
                      refine pw_l (pc := 64) d30_64 rfl rfl rfl ?_
                      obtain ⟨y14, e_y14, hm⟩ := ob_x hm
                      have f_y14 := gO_x e_y14
                      refine pw_gr (pc := 65) d30_65 (k30_61 b) (sho s_h f_l0) f0_4 f_y14.1 ?_
                      refine pw_l (pc := 68) d30_68 rfl rfl rfl ?_
                      refine pw_l (pc := 69) d30_69 rfl rfl rfl ?_
                      refine pw_l (pc := 70) d30_70 rfl rfl rfl ?_
                      obtain ⟨q15, e_q15, hm⟩ := ob_x hm
                      refine pw_v (pc := 71) (k := y13) (by omega) d30_71 (k30_297 b) (by decide) m64 (by decide) rfl (sho s_h f_y13.2) (Nat.le_of_ble_eq_true rfl) (Nat.le_of_ble_eq_true rfl) rfl rfl (T_a_sail b L xs (d - 1) (by omega) h s_h y13 y14 l1 l2 l3 f_y13.2 f_y14.2 e_q15) (fun v0 h0 hq => ?_)
                      obtain ⟨rfl, hh0, s_q15⟩ := hq
                      rw [hh0] at s_q15 ⊢
                      simp only [Option.toList_none, List.nil_append]
                      refine pw_l (pc := 74) d30_74 rfl rfl rfl ?_
                      refine pw_zne (pc := 76) (t := 89) d30_76 (by decide) (fun c16 => ?_) (fun c16 => ?_)
                      · rw [if_pos c16] at hm
                        refine pw_l (pc := 89) d30_89 rfl rfl rfl ?_
                        obtain ⟨y17, e_y17, hm⟩ := ob_x hm
                        have f_y17 := gO_x e_y17
                        refine pw_gr (pc := 90) d30_90 (k30_48 b) (sho s_q15 f_l0) f0_7 f_y17.1 ?_
                        refine pw_gi (pc := 93) d30_93 (k30_304 b) (sho s_q15 f_y17.2) f1_17 ?_
                        obtain rfl := Option.some.inj hm
                        refine pw_ri (pc := 96) d30_96 t30 rfl ?_
                        exact hE s_q15
                      · rw [if_neg c16] at hm
                        refine pw_l (pc := 79) d30_79 rfl rfl rfl ?_
                        obtain ⟨y18, e_y18, hm⟩ := ob_x hm
                        have f_y18 := gO_x e_y18
                        refine pw_gr (pc := 80) d30_80 (k30_48 b) (sho s_q15 f_l0) f0_7 f_y18.1 ?_
                        refine pw_gi (pc := 83) d30_83 (k30_301 b) (sho s_q15 f_y18.2) f1_16 ?_
                        refine pw_go (pc := 86) (t := 96) d30_86 (by decide) ?_
                        obtain rfl := Option.some.inj hm
                        refine pw_ri (pc := 96) d30_96 t30 rfl ?_
                        exact hE s_q15
                    · rw [if_neg c12] at hm
                      refine pw_s (pc := 58) d30_58 rfl rfl ?_
                      obtain rfl := Option.some.inj hm
                      refine pw_ri (pc := 59) d30_59 t30 rfl ?_
                      exact hE s_h
            · rw [if_neg c8] at hm
              refine pw_s (pc := 35) d30_35 rfl rfl ?_
              obtain rfl := Option.some.inj hm
              refine pw_ri (pc := 36) d30_36 t30 rfl ?_
              exact hE s_h
  exact key _ (fun q => ⟨rfl, rfl, q⟩)
noncomputable def x_count (l0 : Nat) (l1 : Int32) (h : pm_H) : Option Int32 := (gO h l0 4 9).bind fun y1 => (gO h y1 1 3).bind fun y2 => if l1 = (0 : Int32) then ((gO h l0 4 9).bind fun y4 => (gO h y4 0 7).bind fun y5 => some (h.2.1 y5 0)) else (if l1 = (1 : Int32) then ((gO h l0 4 9).bind fun y7 => (gO h y7 0 7).bind fun y8 => some (h.2.1 y8 1)) else (if l1 = (2 : Int32) then ((gO h l0 4 9).bind fun y10 => (gO h y10 0 7).bind fun y11 => some (h.2.1 y11 2)) else (if l1 = (3 : Int32) then ((gO h l0 4 9).bind fun y13 => (gO h y13 0 7).bind fun y14 => some (h.2.1 y14 3)) else (if l1 = (4 : Int32) then (some (h.2.1 l0 2)) else (if l1 = (5 : Int32) then (some (h.2.1 y2 2)) else (if l1 = (6 : Int32) then (some (h.2.1 y2 3)) else (if l1 = (7 : Int32) then (some (h.2.1 y2 0)) else (if l1 = (8 : Int32) then ((gO h l0 4 9).bind fun y20 => (gO h y20 0 7).bind fun y21 => (n_heard y2 y21 h).bind fun q22 => some q22) else (if l1 = (9 : Int32) then (some (h.2.1 y2 1)) else (if l1 = (10 : Int32) then (some (h.2.1 y2 4)) else (if l1 = (11 : Int32) then ((gO h l0 4 9).bind fun y26 => some (h.2.1 y26 2)) else (if l1 = (12 : Int32) then ((gO h l0 6 4).bind fun y28 => some (h.2.1 y28 2)) else (if l1 = (13 : Int32) then ((gO h l0 4 9).bind fun y30 => some (h.2.1 y30 5)) else (if l1 = (14 : Int32) then ((gO h l0 0 8).bind fun y32 => some (h.2.1 y32 1)) else (some (Int32.ofInt (-1)))))))))))))))))
theorem T_x_count (b : Bool) (L : Nat) (xs : Nat → Int32) (d : Nat) (hd : 3 ≤ d) (h : pm_H) (s_h : h.1 = tb_SH) (l0 : Nat) (l1 : Int32) (f_l0 : mi_o l0 0 = true) {r : Int32} (hm : x_count l0 l1 h = some r) : PC b L xs d 31 [(Value.ref l0), (Value.int l1)] h (fun (v0 : Option Value) (h2 : pm_H) => v0 = (some (Value.int r)) ∧ h2 = h ∧ h2.1 = tb_SH) := by
  refine pc_in e31 (ls0 := [(Value.ref l0), (Value.int l1), Value.retAddr 0]) rfl ?_
  have key : ∀ (Q : Option Value → pm_H → Prop), (Q (some (Value.int r)) h) → PW b L xs d 31 0 0 0 [(Value.ref l0), (Value.int l1), Value.retAddr 0] [] h Q := by
    intro Q hE
    rw [x_count] at hm
    refine pw_l (pc := 0) d31_0 rfl rfl rfl ?_
    obtain ⟨y1, e_y1, hm⟩ := ob_x hm
    have f_y1 := gO_x e_y1
    refine pw_gr (pc := 1) d31_1 (k31_61 b) (sho s_h f_l0) f0_4 f_y1.1 ?_
    obtain ⟨y2, e_y2, hm⟩ := ob_x hm
    have f_y2 := gO_x e_y2
    refine pw_gr (pc := 4) d31_4 (k31_87 b) (sho s_h f_y1.2) f9_1 f_y2.1 ?_
    refine pw_t (pc := 7) d31_7 rfl rfl rfl rfl ?_
    refine pw_l (pc := 8) d31_8 rfl rfl rfl ?_
    by_cases c3 : l1 = (0 : Int32)
    · rw [if_pos c3] at hm
      refine pw_tin (pc := 9) (t := 84) (off := 75) d31_9 (by rw [c3]; decide) (by rw [c3]; decide +kernel) (by decide) ?_
      refine pw_l (pc := 84) d31_84 rfl rfl rfl ?_
      obtain ⟨y4, e_y4, hm⟩ := ob_x hm
      have f_y4 := gO_x e_y4
      refine pw_gr (pc := 85) d31_85 (k31_61 b) (sho s_h f_l0) f0_4 f_y4.1 ?_
      obtain ⟨y5, e_y5, hm⟩ := ob_x hm
      have f_y5 := gO_x e_y5
      refine pw_gr (pc := 88) d31_88 (k31_83 b) (sho s_h f_y4.2) f9_0 f_y5.1 ?_
      refine pw_gi (pc := 91) d31_91 (k31_307 b) (sho s_h f_y5.2) f7_0 ?_
      obtain rfl := Option.some.inj hm
      refine pw_ri (pc := 94) d31_94 t31 rfl ?_
      exact hE
    rw [if_neg c3] at hm
    by_cases c6 : l1 = (1 : Int32)
    · rw [if_pos c6] at hm
      refine pw_tin (pc := 9) (t := 95) (off := 86) d31_9 (by rw [c6]; decide) (by rw [c6]; decide +kernel) (by decide) ?_
      refine pw_l (pc := 95) d31_95 rfl rfl rfl ?_
      obtain ⟨y7, e_y7, hm⟩ := ob_x hm
      have f_y7 := gO_x e_y7
      refine pw_gr (pc := 96) d31_96 (k31_61 b) (sho s_h f_l0) f0_4 f_y7.1 ?_
      obtain ⟨y8, e_y8, hm⟩ := ob_x hm
      have f_y8 := gO_x e_y8
      refine pw_gr (pc := 99) d31_99 (k31_83 b) (sho s_h f_y7.2) f9_0 f_y8.1 ?_
      refine pw_gi (pc := 102) d31_102 (k31_91 b) (sho s_h f_y8.2) f7_1 ?_
      obtain rfl := Option.some.inj hm
      refine pw_ri (pc := 105) d31_105 t31 rfl ?_
      exact hE
    rw [if_neg c6] at hm
    by_cases c9 : l1 = (2 : Int32)
    · rw [if_pos c9] at hm
      refine pw_tin (pc := 9) (t := 106) (off := 97) d31_9 (by rw [c9]; decide) (by rw [c9]; decide +kernel) (by decide) ?_
      refine pw_l (pc := 106) d31_106 rfl rfl rfl ?_
      obtain ⟨y10, e_y10, hm⟩ := ob_x hm
      have f_y10 := gO_x e_y10
      refine pw_gr (pc := 107) d31_107 (k31_61 b) (sho s_h f_l0) f0_4 f_y10.1 ?_
      obtain ⟨y11, e_y11, hm⟩ := ob_x hm
      have f_y11 := gO_x e_y11
      refine pw_gr (pc := 110) d31_110 (k31_83 b) (sho s_h f_y10.2) f9_0 f_y11.1 ?_
      refine pw_gi (pc := 113) d31_113 (k31_285 b) (sho s_h f_y11.2) f7_2 ?_
      obtain rfl := Option.some.inj hm
      refine pw_ri (pc := 116) d31_116 t31 rfl ?_
      exact hE
    rw [if_neg c9] at hm
    by_cases c12 : l1 = (3 : Int32)
    · rw [if_pos c12] at hm
      refine pw_tin (pc := 9) (t := 117) (off := 108) d31_9 (by rw [c12]; decide) (by rw [c12]; decide +kernel) (by decide) ?_
      refine pw_l (pc := 117) d31_117 rfl rfl rfl ?_
      obtain ⟨y13, e_y13, hm⟩ := ob_x hm
      have f_y13 := gO_x e_y13
      refine pw_gr (pc := 118) d31_118 (k31_61 b) (sho s_h f_l0) f0_4 f_y13.1 ?_
      obtain ⟨y14, e_y14, hm⟩ := ob_x hm
      have f_y14 := gO_x e_y14
      refine pw_gr (pc := 121) d31_121 (k31_83 b) (sho s_h f_y13.2) f9_0 f_y14.1 ?_
      refine pw_gi (pc := 124) d31_124 (k31_310 b) (sho s_h f_y14.2) f7_3 ?_
      obtain rfl := Option.some.inj hm
      refine pw_ri (pc := 127) d31_127 t31 rfl ?_
      exact hE
    rw [if_neg c12] at hm
    by_cases c15 : l1 = (4 : Int32)
    · rw [if_pos c15] at hm
      refine pw_tin (pc := 9) (t := 128) (off := 119) d31_9 (by rw [c15]; decide) (by rw [c15]; decide +kernel) (by decide) ?_
      refine pw_l (pc := 128) d31_128 rfl rfl rfl ?_
      refine pw_gi (pc := 129) d31_129 (k31_22 b) (sho s_h f_l0) f0_2 ?_
      obtain rfl := Option.some.inj hm
      refine pw_ri (pc := 132) d31_132 t31 rfl ?_
      exact hE
    rw [if_neg c15] at hm
    by_cases c16 : l1 = (5 : Int32)
    · rw [if_pos c16] at hm
      refine pw_tin (pc := 9) (t := 133) (off := 124) d31_9 (by rw [c16]; decide) (by rw [c16]; decide +kernel) (by decide) ?_
      refine pw_l (pc := 133) d31_133 rfl rfl rfl ?_
      refine pw_gi (pc := 134) d31_134 (k31_181 b) (sho s_h f_y2.2) f3_2 ?_
      obtain rfl := Option.some.inj hm
      refine pw_ri (pc := 137) d31_137 t31 rfl ?_
      exact hE
    rw [if_neg c16] at hm
    by_cases c17 : l1 = (6 : Int32)
    · rw [if_pos c17] at hm
      refine pw_tin (pc := 9) (t := 138) (off := 129) d31_9 (by rw [c17]; decide) (by rw [c17]; decide +kernel) (by decide) ?_
      refine pw_l (pc := 138) d31_138 rfl rfl rfl ?_
      refine pw_gi (pc := 139) d31_139 (k31_206 b) (sho s_h f_y2.2) f3_3 ?_
      obtain rfl := Option.some.inj hm
      refine pw_ri (pc := 142) d31_142 t31 rfl ?_
      exact hE
    rw [if_neg c17] at hm
    by_cases c18 : l1 = (7 : Int32)
    · rw [if_pos c18] at hm
      refine pw_tin (pc := 9) (t := 143) (off := 134) d31_9 (by rw [c18]; decide) (by rw [c18]; decide +kernel) (by decide) ?_
      refine pw_l (pc := 143) d31_143 rfl rfl rfl ?_
      refine pw_gi (pc := 144) d31_144 (k31_119 b) (sho s_h f_y2.2) f3_0 ?_
      obtain rfl := Option.some.inj hm
      refine pw_ri (pc := 147) d31_147 t31 rfl ?_
      exact hE
    rw [if_neg c18] at hm
    by_cases c19 : l1 = (8 : Int32)
    · rw [if_pos c19] at hm
      refine pw_tin (pc := 9) (t := 148) (off := 139) d31_9 (by rw [c19]; decide) (by rw [c19]; decide +kernel) (by decide) ?_
      refine pw_l (pc := 148) d31_148 rfl rfl rfl ?_
      refine pw_l (pc := 149) d31_149 rfl rfl rfl ?_
      obtain ⟨y20, e_y20, hm⟩ := ob_x hm
      have f_y20 := gO_x e_y20
      refine pw_gr (pc := 150) d31_150 (k31_61 b) (sho s_h f_l0) f0_4 f_y20.1 ?_
      obtain ⟨y21, e_y21, hm⟩ := ob_x hm
      have f_y21 := gO_x e_y21
      refine pw_gr (pc := 153) d31_153 (k31_83 b) (sho s_h f_y20.2) f9_0 f_y21.1 ?_
      obtain ⟨q22, e_q22, hm⟩ := ob_x hm
      refine pw_v (pc := 156) (k := y2) (by omega) d31_156 (k31_135 b) (by decide) m81 (by decide) rfl (sho s_h f_y2.2) (Nat.le_of_ble_eq_true rfl) (Nat.le_of_ble_eq_true rfl) rfl rfl (T_n_heard b L xs (d - 1) (by omega) h s_h y2 y21 f_y2.2 f_y21.2 e_q22) (fun v0 h0 hq => ?_)
      obtain ⟨rfl, hh0, s_q22⟩ := hq
      rw [hh0] at s_q22 ⊢
      simp only [Option.toList_some, List.cons_append, List.nil_append]
      obtain rfl := Option.some.inj hm
      refine pw_ri (pc := 159) d31_159 t31 rfl ?_
      exact hE
    rw [if_neg c19] at hm
    by_cases c23 : l1 = (9 : Int32)
    · rw [if_pos c23] at hm
      refine pw_tin (pc := 9) (t := 160) (off := 151) d31_9 (by rw [c23]; decide) (by rw [c23]; decide +kernel) (by decide) ?_
      refine pw_l (pc := 160) d31_160 rfl rfl rfl ?_
      refine pw_gi (pc := 161) d31_161 (k31_129 b) (sho s_h f_y2.2) f3_1 ?_
      obtain rfl := Option.some.inj hm
      refine pw_ri (pc := 164) d31_164 t31 rfl ?_
      exact hE
    rw [if_neg c23] at hm
    by_cases c24 : l1 = (10 : Int32)
    · rw [if_pos c24] at hm
      refine pw_tin (pc := 9) (t := 165) (off := 156) d31_9 (by rw [c24]; decide) (by rw [c24]; decide +kernel) (by decide) ?_
      refine pw_l (pc := 165) d31_165 rfl rfl rfl ?_
      refine pw_gi (pc := 166) d31_166 (k31_203 b) (sho s_h f_y2.2) f3_4 ?_
      obtain rfl := Option.some.inj hm
      refine pw_ri (pc := 169) d31_169 t31 rfl ?_
      exact hE
    rw [if_neg c24] at hm
    by_cases c25 : l1 = (11 : Int32)
    · rw [if_pos c25] at hm
      refine pw_tin (pc := 9) (t := 170) (off := 161) d31_9 (by rw [c25]; decide) (by rw [c25]; decide +kernel) (by decide) ?_
      refine pw_l (pc := 170) d31_170 rfl rfl rfl ?_
      obtain ⟨y26, e_y26, hm⟩ := ob_x hm
      have f_y26 := gO_x e_y26
      refine pw_gr (pc := 171) d31_171 (k31_61 b) (sho s_h f_l0) f0_4 f_y26.1 ?_
      refine pw_gi (pc := 174) d31_174 (k31_99 b) (sho s_h f_y26.2) f9_2 ?_
      obtain rfl := Option.some.inj hm
      refine pw_ri (pc := 177) d31_177 t31 rfl ?_
      exact hE
    rw [if_neg c25] at hm
    by_cases c27 : l1 = (12 : Int32)
    · rw [if_pos c27] at hm
      refine pw_tin (pc := 9) (t := 178) (off := 169) d31_9 (by rw [c27]; decide) (by rw [c27]; decide +kernel) (by decide) ?_
      refine pw_l (pc := 178) d31_178 rfl rfl rfl ?_
      obtain ⟨y28, e_y28, hm⟩ := ob_x hm
      have f_y28 := gO_x e_y28
      refine pw_gr (pc := 179) d31_179 (k31_41 b) (sho s_h f_l0) f0_6 f_y28.1 ?_
      refine pw_gi (pc := 182) d31_182 (k31_213 b) (sho s_h f_y28.2) f4_2 ?_
      obtain rfl := Option.some.inj hm
      refine pw_ri (pc := 185) d31_185 t31 rfl ?_
      exact hE
    rw [if_neg c27] at hm
    by_cases c29 : l1 = (13 : Int32)
    · rw [if_pos c29] at hm
      refine pw_tin (pc := 9) (t := 186) (off := 177) d31_9 (by rw [c29]; decide) (by rw [c29]; decide +kernel) (by decide) ?_
      refine pw_l (pc := 186) d31_186 rfl rfl rfl ?_
      obtain ⟨y30, e_y30, hm⟩ := ob_x hm
      have f_y30 := gO_x e_y30
      refine pw_gr (pc := 187) d31_187 (k31_61 b) (sho s_h f_l0) f0_4 f_y30.1 ?_
      refine pw_gi (pc := 190) d31_190 (k31_294 b) (sho s_h f_y30.2) f9_5 ?_
      obtain rfl := Option.some.inj hm
      refine pw_ri (pc := 193) d31_193 t31 rfl ?_
      exact hE
    rw [if_neg c29] at hm
    by_cases c31 : l1 = (14 : Int32)
    · rw [if_pos c31] at hm
      refine pw_tin (pc := 9) (t := 194) (off := 185) d31_9 (by rw [c31]; decide) (by rw [c31]; decide +kernel) (by decide) ?_
      refine pw_l (pc := 194) d31_194 rfl rfl rfl ?_
      obtain ⟨y32, e_y32, hm⟩ := ob_x hm
      have f_y32 := gO_x e_y32
      refine pw_gr (pc := 195) d31_195 (k31_10 b) (sho s_h f_l0) f0_0 f_y32.1 ?_
      refine pw_gi (pc := 198) d31_198 (k31_65 b) (sho s_h f_y32.2) f8_1 ?_
      obtain rfl := Option.some.inj hm
      refine pw_ri (pc := 201) d31_201 t31 rfl ?_
      exact hE
    rw [if_neg c31] at hm
    refine pw_tout (pc := 9) (t := 202) d31_9 (mi_sw (x := l1) (lo := 0) (n := 15) (by decide) (by decide) (fun j hj => match j, hj with | 0, _ => c3 | 1, _ => c6 | 2, _ => c9 | 3, _ => c12 | 4, _ => c15 | 5, _ => c16 | 6, _ => c17 | 7, _ => c18 | 8, _ => c19 | 9, _ => c23 | 10, _ => c24 | 11, _ => c25 | 12, _ => c27 | 13, _ => c29 | 14, _ => c31 | j + 15, h => absurd h (by omega))) (by decide) ?_
    refine pw_s (pc := 202) d31_202 rfl rfl ?_
    obtain rfl := Option.some.inj hm
    refine pw_ri (pc := 203) d31_203 t31 rfl ?_
    exact hE
  exact key _ ⟨rfl, rfl, s_h⟩
noncomputable def x_image (l0 : Nat) (l1 : Int32) (h : pm_H) : Option (Int32 × pm_H) := if l1 < 0 then (some ((Int32.ofInt (-1)), h)) else ((gA h l0 5 (.object "ChoirShip$World")).bind fun y2 => if l1 < (Int32.ofNat (mi_n y2)) then ((gA h l0 5 (.object "ChoirShip$World")).bind fun y4 => if mi_in l1 (mi_n y4) = true then (gO h y4 l1.toNatClampNeg 9).bind fun y6 => (gO h l0 4 9).bind fun y7 => (w_copy y6 y7 h).bind fun q8 => (gA q8 l0 5 (.object "ChoirShip$World")).bind fun y9 => if mi_in l1 (mi_n y9) = true then (gO q8 y9 l1.toNatClampNeg 9).bind fun y11 => bd (pm_setI q8 y11 6 (Int32.ofInt 1)) fun h12 => (gO h12 l0 4 9).bind fun y13 => (gO h12 y13 1 3).bind fun y14 => some ((h12.2.1 y14 2), h12) else none else none) else (some ((Int32.ofInt (-1)), h)))
theorem T_x_image (b : Bool) (L : Nat) (xs : Nat → Int32) (d : Nat) (hd : 3 ≤ d) (h : pm_H) (s_h : h.1 = tb_SH) (l0 : Nat) (l1 : Int32) (f_l0 : mi_o l0 0 = true) {r : (Int32 × pm_H)} (hm : x_image l0 l1 h = some r) : PC b L xs d 32 [(Value.ref l0), (Value.int l1)] h (fun (v0 : Option Value) (h2 : pm_H) => v0 = (some (Value.int r.1)) ∧ h2 = r.2 ∧ h2.1 = tb_SH) := by
  refine pc_in e32 (ls0 := [(Value.ref l0), (Value.int l1)]) rfl ?_
  have key : ∀ (Q : Option Value → pm_H → Prop), (r.2.1 = tb_SH → Q (some (Value.int r.1)) r.2) → PW b L xs d 32 0 0 0 [(Value.ref l0), (Value.int l1)] [] h Q := by
    intro Q hE
    rw [x_image] at hm
    refine pw_l (pc := 0) d32_0 rfl rfl rfl ?_
    refine pw_zlt (pc := 1) (t := 13) d32_1 (by decide) (fun c1 => ?_) (fun c1 => ?_)
    · rw [if_pos c1] at hm
      refine pw_s (pc := 13) d32_13 rfl rfl ?_
      obtain rfl := Option.some.inj hm
      refine pw_ri (pc := 14) d32_14 t32 rfl ?_
      exact hE s_h
    · rw [if_neg c1] at hm
      refine pw_l (pc := 4) d32_4 rfl rfl rfl ?_
      refine pw_l (pc := 5) d32_5 rfl rfl rfl ?_
      obtain ⟨y2, e_y2, hm⟩ := ob_x hm
      have f_y2 := gA_x e_y2
      refine pw_gr (pc := 6) d32_6 (k32_34 b) (sho s_h f_l0) f0_5 f_y2.1 ?_
      refine pw_an (pc := 9) d32_9 (sha s_h f_y2.2) ?_
      refine pw_ilt (pc := 10) (t := 15) d32_10 (by decide) (fun c3 => ?_) (fun c3 => ?_)
      · rw [if_pos c3] at hm
        refine pw_l (pc := 15) d32_15 rfl rfl rfl ?_
        obtain ⟨y4, e_y4, hm⟩ := ob_x hm
        have f_y4 := gA_x e_y4
        refine pw_gr (pc := 16) d32_16 (k32_34 b) (sho s_h f_l0) f0_5 f_y4.1 ?_
        refine pw_l (pc := 19) d32_19 rfl rfl rfl ?_
        obtain ⟨g5, hm⟩ := gd_x hm
        obtain ⟨y6, e_y6, hm⟩ := ob_x hm
        have f_y6 := gO_x e_y6
        refine pw_ar (pc := 20) d32_20 (sha s_h f_y4.2) (mi_in_x g5) f_y6.1 ?_
        refine pw_l (pc := 21) d32_21 rfl rfl rfl ?_
        obtain ⟨y7, e_y7, hm⟩ := ob_x hm
        have f_y7 := gO_x e_y7
        refine pw_gr (pc := 22) d32_22 (k32_61 b) (sho s_h f_l0) f0_4 f_y7.1 ?_
        obtain ⟨q8, e_q8, hm⟩ := ob_x hm
        refine pw_v (pc := 25) (k := y6) (by omega) d32_25 (k32_313 b) (by decide) m144 (by decide) rfl (sho s_h f_y6.2) (Nat.le_of_ble_eq_true rfl) (Nat.le_of_ble_eq_true rfl) rfl rfl (T_w_copy b L xs (d - 1) (by omega) h s_h y6 y7 f_y6.2 f_y7.2 e_q8) (fun v0 h0 hq => ?_)
        obtain ⟨rfl, hh0, s_q8⟩ := hq
        rw [hh0] at s_q8 ⊢
        simp only [Option.toList_none, List.nil_append]
        refine pw_l (pc := 28) d32_28 rfl rfl rfl ?_
        obtain ⟨y9, e_y9, hm⟩ := ob_x hm
        have f_y9 := gA_x e_y9
        refine pw_gr (pc := 29) d32_29 (k32_34 b) (sho s_q8 f_l0) f0_5 f_y9.1 ?_
        refine pw_l (pc := 32) d32_32 rfl rfl rfl ?_
        obtain ⟨g10, hm⟩ := gd_x hm
        obtain ⟨y11, e_y11, hm⟩ := ob_x hm
        have f_y11 := gO_x e_y11
        refine pw_ar (pc := 33) d32_33 (sha s_q8 f_y9.2) (mi_in_x g10) f_y11.1 ?_
        refine pw_s (pc := 34) d32_34 rfl rfl ?_
        refine pw_pz (pc := 35) d32_35 (k32_316 b) (sho s_q8 f_y11.2) p32_9_6 (by decide) ?_
        obtain ⟨h12, e_h12, hm⟩ := bd_x hm
        rw [e_h12]
        have s_h12 : h12.1 = tb_SH := by rw [← e_h12]; exact s_q8
        refine pw_l (pc := 38) d32_38 rfl rfl rfl ?_
        obtain ⟨y13, e_y13, hm⟩ := ob_x hm
        have f_y13 := gO_x e_y13
        refine pw_gr (pc := 39) d32_39 (k32_61 b) (sho s_h12 f_l0) f0_4 f_y13.1 ?_
        obtain ⟨y14, e_y14, hm⟩ := ob_x hm
        have f_y14 := gO_x e_y14
        refine pw_gr (pc := 42) d32_42 (k32_87 b) (sho s_h12 f_y13.2) f9_1 f_y14.1 ?_
        refine pw_gi (pc := 45) d32_45 (k32_181 b) (sho s_h12 f_y14.2) f3_2 ?_
        obtain rfl := Option.some.inj hm
        refine pw_ri (pc := 48) d32_48 t32 rfl ?_
        exact hE s_h12
      · rw [if_neg c3] at hm
        refine pw_s (pc := 13) d32_13 rfl rfl ?_
        obtain rfl := Option.some.inj hm
        refine pw_ri (pc := 14) d32_14 t32 rfl ?_
        exact hE s_h
  exact key _ (fun q => ⟨rfl, rfl, q⟩)
noncomputable def x_back (l0 : Nat) (l1 : Int32) (h : pm_H) : Option (Int32 × pm_H) := if l1 < 0 then (some ((Int32.ofInt (-1)), h)) else ((gA h l0 5 (.object "ChoirShip$World")).bind fun y2 => if (Int32.ofNat (mi_n y2)) ≤ l1 then (some ((Int32.ofInt (-1)), h)) else ((gA h l0 5 (.object "ChoirShip$World")).bind fun y4 => if mi_in l1 (mi_n y4) = true then (gO h y4 l1.toNatClampNeg 9).bind fun y6 => if ¬ (h.2.1 y6 6) = 0 then ((gO h l0 4 9).bind fun y8 => (gA h l0 5 (.object "ChoirShip$World")).bind fun y9 => if mi_in l1 (mi_n y9) = true then (gO h y9 l1.toNatClampNeg 9).bind fun y11 => (w_copy y8 y11 h).bind fun q12 => (gO q12 l0 6 4).bind fun y13 => (p_forget y13 q12).bind fun q14 => (gO q14 l0 7 1).bind fun y15 => (gO q14 l0 4 9).bind fun y16 => (gO q14 y16 0 7).bind fun y17 => (a_learn y15 y17 q14).bind fun q18 => (gO q18 l0 4 9).bind fun y19 => (gO q18 y19 1 3).bind fun y20 => some ((q18.2.1 y20 2), q18) else none) else (some ((Int32.ofInt (-1)), h)) else none))
theorem T_x_back (b : Bool) (L : Nat) (xs : Nat → Int32) (d : Nat) (hd : 7 ≤ d) (h : pm_H) (s_h : h.1 = tb_SH) (l0 : Nat) (l1 : Int32) (f_l0 : mi_o l0 0 = true) {r : (Int32 × pm_H)} (hm : x_back l0 l1 h = some r) : PC b L xs d 33 [(Value.ref l0), (Value.int l1)] h (fun (v0 : Option Value) (h2 : pm_H) => v0 = (some (Value.int r.1)) ∧ h2 = r.2 ∧ h2.1 = tb_SH) := by
  refine pc_in e33 (ls0 := [(Value.ref l0), (Value.int l1)]) rfl ?_
  have key : ∀ (Q : Option Value → pm_H → Prop), (r.2.1 = tb_SH → Q (some (Value.int r.1)) r.2) → PW b L xs d 33 0 0 0 [(Value.ref l0), (Value.int l1)] [] h Q := by
    intro Q hE
    rw [x_back] at hm
    refine pw_l (pc := 0) d33_0 rfl rfl rfl ?_
    refine pw_zlt (pc := 1) (t := 25) d33_1 (by decide) (fun c1 => ?_) (fun c1 => ?_)
    · rw [if_pos c1] at hm
      refine pw_s (pc := 25) d33_25 rfl rfl ?_
      obtain rfl := Option.some.inj hm
      refine pw_ri (pc := 26) d33_26 t33 rfl ?_
      exact hE s_h
    · rw [if_neg c1] at hm
      refine pw_l (pc := 4) d33_4 rfl rfl rfl ?_
      refine pw_l (pc := 5) d33_5 rfl rfl rfl ?_
      obtain ⟨y2, e_y2, hm⟩ := ob_x hm
      have f_y2 := gA_x e_y2
      refine pw_gr (pc := 6) d33_6 (k33_34 b) (sho s_h f_l0) f0_5 f_y2.1 ?_
      refine pw_an (pc := 9) d33_9 (sha s_h f_y2.2) ?_
      refine pw_ige (pc := 10) (t := 25) d33_10 (by decide) (fun c3 => ?_) (fun c3 => ?_)
      · rw [if_pos c3] at hm
        refine pw_s (pc := 25) d33_25 rfl rfl ?_
        obtain rfl := Option.some.inj hm
        refine pw_ri (pc := 26) d33_26 t33 rfl ?_
        exact hE s_h
      · rw [if_neg c3] at hm
        refine pw_l (pc := 13) d33_13 rfl rfl rfl ?_
        obtain ⟨y4, e_y4, hm⟩ := ob_x hm
        have f_y4 := gA_x e_y4
        refine pw_gr (pc := 14) d33_14 (k33_34 b) (sho s_h f_l0) f0_5 f_y4.1 ?_
        refine pw_l (pc := 17) d33_17 rfl rfl rfl ?_
        obtain ⟨g5, hm⟩ := gd_x hm
        obtain ⟨y6, e_y6, hm⟩ := ob_x hm
        have f_y6 := gO_x e_y6
        refine pw_ar (pc := 18) d33_18 (sha s_h f_y4.2) (mi_in_x g5) f_y6.1 ?_
        refine pw_gi (pc := 19) d33_19 (k33_316 b) (sho s_h f_y6.2) f9_6 ?_
        refine pw_zne (pc := 22) (t := 27) d33_22 (by decide) (fun c7 => ?_) (fun c7 => ?_)
        · rw [if_pos c7] at hm
          refine pw_l (pc := 27) d33_27 rfl rfl rfl ?_
          obtain ⟨y8, e_y8, hm⟩ := ob_x hm
          have f_y8 := gO_x e_y8
          refine pw_gr (pc := 28) d33_28 (k33_61 b) (sho s_h f_l0) f0_4 f_y8.1 ?_
          refine pw_l (pc := 31) d33_31 rfl rfl rfl ?_
          obtain ⟨y9, e_y9, hm⟩ := ob_x hm
          have f_y9 := gA_x e_y9
          refine pw_gr (pc := 32) d33_32 (k33_34 b) (sho s_h f_l0) f0_5 f_y9.1 ?_
          refine pw_l (pc := 35) d33_35 rfl rfl rfl ?_
          obtain ⟨g10, hm⟩ := gd_x hm
          obtain ⟨y11, e_y11, hm⟩ := ob_x hm
          have f_y11 := gO_x e_y11
          refine pw_ar (pc := 36) d33_36 (sha s_h f_y9.2) (mi_in_x g10) f_y11.1 ?_
          obtain ⟨q12, e_q12, hm⟩ := ob_x hm
          refine pw_v (pc := 37) (k := y8) (by omega) d33_37 (k33_313 b) (by decide) m144 (by decide) rfl (sho s_h f_y8.2) (Nat.le_of_ble_eq_true rfl) (Nat.le_of_ble_eq_true rfl) rfl rfl (T_w_copy b L xs (d - 1) (by omega) h s_h y8 y11 f_y8.2 f_y11.2 e_q12) (fun v0 h0 hq => ?_)
          obtain ⟨rfl, hh0, s_q12⟩ := hq
          rw [hh0] at s_q12 ⊢
          simp only [Option.toList_none, List.nil_append]
          refine pw_l (pc := 40) d33_40 rfl rfl rfl ?_
          obtain ⟨y13, e_y13, hm⟩ := ob_x hm
          have f_y13 := gO_x e_y13
          refine pw_gr (pc := 41) d33_41 (k33_41 b) (sho s_q12 f_l0) f0_6 f_y13.1 ?_
          obtain ⟨q14, e_q14, hm⟩ := ob_x hm
          refine pw_v (pc := 44) (k := y13) (by omega) d33_44 (k33_102 b) (by decide) m83 (by decide) rfl (sho s_q12 f_y13.2) (Nat.le_of_ble_eq_true rfl) (Nat.le_of_ble_eq_true rfl) rfl rfl (T_p_forget b L xs (d - 1) (by omega) q12 s_q12 y13 f_y13.2 e_q14) (fun v0 h0 hq => ?_)
          obtain ⟨rfl, hh0, s_q14⟩ := hq
          rw [hh0] at s_q14 ⊢
          simp only [Option.toList_none, List.nil_append]
          refine pw_l (pc := 47) d33_47 rfl rfl rfl ?_
          obtain ⟨y15, e_y15, hm⟩ := ob_x hm
          have f_y15 := gO_x e_y15
          refine pw_gr (pc := 48) d33_48 (k33_48 b) (sho s_q14 f_l0) f0_7 f_y15.1 ?_
          refine pw_l (pc := 51) d33_51 rfl rfl rfl ?_
          obtain ⟨y16, e_y16, hm⟩ := ob_x hm
          have f_y16 := gO_x e_y16
          refine pw_gr (pc := 52) d33_52 (k33_61 b) (sho s_q14 f_l0) f0_4 f_y16.1 ?_
          obtain ⟨y17, e_y17, hm⟩ := ob_x hm
          have f_y17 := gO_x e_y17
          refine pw_gr (pc := 55) d33_55 (k33_83 b) (sho s_q14 f_y16.2) f9_0 f_y17.1 ?_
          obtain ⟨q18, e_q18, hm⟩ := ob_x hm
          refine pw_v (pc := 58) (k := y15) (by omega) d33_58 (k33_105 b) (by decide) m43 (by decide) rfl (sho s_q14 f_y15.2) (Nat.le_of_ble_eq_true rfl) (Nat.le_of_ble_eq_true rfl) rfl rfl (T_a_learn b L xs (d - 1) (by omega) q14 s_q14 y15 y17 f_y15.2 f_y17.2 e_q18) (fun v0 h0 hq => ?_)
          obtain ⟨rfl, hh0, s_q18⟩ := hq
          rw [hh0] at s_q18 ⊢
          simp only [Option.toList_none, List.nil_append]
          refine pw_l (pc := 61) d33_61 rfl rfl rfl ?_
          obtain ⟨y19, e_y19, hm⟩ := ob_x hm
          have f_y19 := gO_x e_y19
          refine pw_gr (pc := 62) d33_62 (k33_61 b) (sho s_q18 f_l0) f0_4 f_y19.1 ?_
          obtain ⟨y20, e_y20, hm⟩ := ob_x hm
          have f_y20 := gO_x e_y20
          refine pw_gr (pc := 65) d33_65 (k33_87 b) (sho s_q18 f_y19.2) f9_1 f_y20.1 ?_
          refine pw_gi (pc := 68) d33_68 (k33_181 b) (sho s_q18 f_y20.2) f3_2 ?_
          obtain rfl := Option.some.inj hm
          refine pw_ri (pc := 71) d33_71 t33 rfl ?_
          exact hE s_q18
        · rw [if_neg c7] at hm
          refine pw_s (pc := 25) d33_25 rfl rfl ?_
          obtain rfl := Option.some.inj hm
          refine pw_ri (pc := 26) d33_26 t33 rfl ?_
          exact hE s_h
  exact key _ (fun q => ⟨rfl, rfl, q⟩)
noncomputable def x_lives (l0 : Nat) (l1 : Int32) (h : pm_H) : Option Int32 := (gO h l0 4 9).bind fun y1 => (gO h y1 0 7).bind fun y2 => (s_hasMan y2 l1 h).bind fun q3 => if q3 = 0 then (some (Int32.ofInt 0)) else ((gO h l0 4 9).bind fun y5 => (gO h y5 1 3).bind fun y6 => (x_bit (h.2.1 y6 1) l1 h).bind fun q7 => if ¬ q7 = 0 then (some (Int32.ofInt 0)) else (some (Int32.ofInt 1)))
theorem T_x_lives (b : Bool) (L : Nat) (xs : Nat → Int32) (d : Nat) (hd : 1 ≤ d) (h : pm_H) (s_h : h.1 = tb_SH) (l0 : Nat) (l1 : Int32) (f_l0 : mi_o l0 0 = true) {r : Int32} (hm : x_lives l0 l1 h = some r) : PC b L xs d 35 [(Value.ref l0), (Value.int l1)] h (fun (v0 : Option Value) (h2 : pm_H) => v0 = (some (Value.int r)) ∧ h2 = h ∧ h2.1 = tb_SH) := by
  refine pc_in e35 (ls0 := [(Value.ref l0), (Value.int l1)]) rfl ?_
  have key : ∀ (Q : Option Value → pm_H → Prop), (Q (some (Value.int r)) h) → PW b L xs d 35 0 0 0 [(Value.ref l0), (Value.int l1)] [] h Q := by
    intro Q hE
    rw [x_lives] at hm
    refine pw_l (pc := 0) d35_0 rfl rfl rfl ?_
    obtain ⟨y1, e_y1, hm⟩ := ob_x hm
    have f_y1 := gO_x e_y1
    refine pw_gr (pc := 1) d35_1 (k35_61 b) (sho s_h f_l0) f0_4 f_y1.1 ?_
    obtain ⟨y2, e_y2, hm⟩ := ob_x hm
    have f_y2 := gO_x e_y2
    refine pw_gr (pc := 4) d35_4 (k35_83 b) (sho s_h f_y1.2) f9_0 f_y2.1 ?_
    refine pw_l (pc := 7) d35_7 rfl rfl rfl ?_
    obtain ⟨q3, e_q3, hm⟩ := ob_x hm
    refine pw_v (pc := 8) (k := y2) (by omega) d35_8 (k35_109 b) (by decide) m112 (by decide) rfl (sho s_h f_y2.2) (Nat.le_of_ble_eq_true rfl) (Nat.le_of_ble_eq_true rfl) rfl rfl (T_s_hasMan b L xs (d - 1) (by omega) h s_h y2 l1 f_y2.2 e_q3) (fun v0 h0 hq => ?_)
    obtain ⟨rfl, hh0, s_q3⟩ := hq
    rw [hh0] at s_q3 ⊢
    simp only [Option.toList_some, List.cons_append, List.nil_append]
    refine pw_zeq (pc := 11) (t := 35) d35_11 (by decide) (fun c4 => ?_) (fun c4 => ?_)
    · rw [if_pos c4] at hm
      refine pw_s (pc := 35) d35_35 rfl rfl ?_
      obtain rfl := Option.some.inj hm
      refine pw_ri (pc := 36) d35_36 t35 rfl ?_
      exact hE
    · rw [if_neg c4] at hm
      refine pw_l (pc := 14) d35_14 rfl rfl rfl ?_
      obtain ⟨y5, e_y5, hm⟩ := ob_x hm
      have f_y5 := gO_x e_y5
      refine pw_gr (pc := 15) d35_15 (k35_61 b) (sho s_h f_l0) f0_4 f_y5.1 ?_
      obtain ⟨y6, e_y6, hm⟩ := ob_x hm
      have f_y6 := gO_x e_y6
      refine pw_gr (pc := 18) d35_18 (k35_87 b) (sho s_h f_y5.2) f9_1 f_y6.1 ?_
      refine pw_gi (pc := 21) d35_21 (k35_129 b) (sho s_h f_y6.2) f3_1 ?_
      refine pw_l (pc := 24) d35_24 rfl rfl rfl ?_
      obtain ⟨q7, e_q7, hm⟩ := ob_x hm
      refine pw_u (pc := 25) (by omega) d35_25 (k35_122 b) (by decide) m34 (Nat.le_of_ble_eq_true rfl) (Nat.le_of_ble_eq_true rfl) (Nat.le_of_ble_eq_true rfl) rfl rfl (T_x_bit b L xs (d - 1) (by omega) h s_h (h.2.1 y6 1) l1  e_q7) (fun v0 h0 hq => ?_)
      obtain ⟨rfl, hh0, s_q7⟩ := hq
      rw [hh0] at s_q7 ⊢
      simp only [Option.toList_some, List.cons_append, List.nil_append]
      refine pw_zne (pc := 28) (t := 35) d35_28 (by decide) (fun c8 => ?_) (fun c8 => ?_)
      · rw [if_pos c8] at hm
        refine pw_s (pc := 35) d35_35 rfl rfl ?_
        obtain rfl := Option.some.inj hm
        refine pw_ri (pc := 36) d35_36 t35 rfl ?_
        exact hE
      · rw [if_neg c8] at hm
        refine pw_s (pc := 31) d35_31 rfl rfl ?_
        refine pw_go (pc := 32) (t := 36) d35_32 (by decide) ?_
        obtain rfl := Option.some.inj hm
        refine pw_ri (pc := 36) d35_36 t35 rfl ?_
        exact hE
  exact key _ ⟨rfl, rfl, s_h⟩
def E_x_inUse_19 (b : Bool) (L : Nat) (xs : Nat → Int32) (d : Nat) (Q : Option Value → pm_H → Prop) (h : pm_H) (l0 : Nat) (l1 : Nat) : ((Int32 × Int32) ⊕ Int32) → Prop
  | .inl s => PW b L xs d 37 0 0 19 [(Value.ref l0), (Value.ref l1), (Value.int s.1), (Value.int s.2)] [] h Q
  | .inr e => ∀ w0 w1 w3 : Value, PW b L xs d 37 0 0 69 [w0, w1, (Value.int e), w3] [] h Q
noncomputable def x_inUse_62 (l0 : Nat) (l1 : Nat) (l3 : Int32) (z0 : Int32) (h : pm_H) : Option ((Int32 × Int32) ⊕ Int32) := some (.inl (z0, (l3 + Int32.ofInt 1)))
theorem t_x_inUse_62 (b : Bool) (L : Nat) (xs : Nat → Int32) (d : Nat) (hd : 0 ≤ d) {Q : Option Value → pm_H → Prop} (h : pm_H) (s_h : h.1 = tb_SH) (l0 : Nat) (l1 : Nat) (l3 : Int32) (z0 : Int32) (w2 : Value) (f_l0 : mi_o l0 0 = true) (f_l1 : mi_o l1 7 = true) {r : ((Int32 × Int32) ⊕ Int32)} (hm : x_inUse_62 l0 l1 l3 z0 h = some r) (hE : E_x_inUse_19 b L xs d Q h l0 l1 r) : PW b L xs d 37 0 0 62 [(Value.ref l0), (Value.ref l1), w2, (Value.int l3)] [(Value.int z0)] h Q := by
  rw [x_inUse_62] at hm
  refine pw_t (pc := 62) d37_62 rfl rfl rfl rfl ?_
  refine pw_t (pc := 63) d37_63 rfl rfl rfl rfl ?_
  refine pw_go (pc := 66) (t := 19) d37_66 (by decide) ?_
  obtain rfl := Option.some.inj hm
  exact hE   
noncomputable def x_inUse_57 (l0 : Nat) (l1 : Nat) (l3 : Int32) (h : pm_H) : Option ((Int32 × Int32) ⊕ Int32) := x_inUse_62 l0 l1 l3 (Int32.ofInt 1) h
theorem t_x_inUse_57 (b : Bool) (L : Nat) (xs : Nat → Int32) (d : Nat) (hd : 0 ≤ d) {Q : Option Value → pm_H → Prop} (h : pm_H) (s_h : h.1 = tb_SH) (l0 : Nat) (l1 : Nat) (l3 : Int32) (w2 : Value) (f_l0 : mi_o l0 0 = true) (f_l1 : mi_o l1 7 = true) {r : ((Int32 × Int32) ⊕ Int32)} (hm : x_inUse_57 l0 l1 l3 h = some r) (hE : E_x_inUse_19 b L xs d Q h l0 l1 r) : PW b L xs d 37 0 0 57 [(Value.ref l0), (Value.ref l1), w2, (Value.int l3)] [] h Q := by
  rw [x_inUse_57] at hm
  refine pw_s (pc := 57) d37_57 rfl rfl ?_
  refine pw_go (pc := 58) (t := 62) d37_58 (by decide) ?_
  exact t_x_inUse_62 b L xs d hd h s_h l0 l1 l3 (Int32.ofInt 1) w2 f_l0 f_l1  hm hE
noncomputable def x_inUse_19 (l0 : Nat) (l1 : Nat) (l2 : Int32) (l3 : Int32) (h : pm_H) : Option ((Int32 × Int32) ⊕ Int32) := (gA h l0 5 (.object "ChoirShip$World")).bind fun y1 => if (Int32.ofNat (mi_n y1)) ≤ l3 then (some (.inr l2)) else (if ¬ l2 = 0 then (x_inUse_57 l0 l1 l3 h) else ((gA h l0 5 (.object "ChoirShip$World")).bind fun y4 => if mi_in l3 (mi_n y4) = true then (gO h y4 l3.toNatClampNeg 9).bind fun y6 => if (h.2.1 y6 6) = 0 then (x_inUse_62 l0 l1 l3 (Int32.ofInt 0) h) else ((gA h l0 5 (.object "ChoirShip$World")).bind fun y8 => if mi_in l3 (mi_n y8) = true then (gO h y8 l3.toNatClampNeg 9).bind fun y10 => (gO h y10 0 7).bind fun y11 => if ¬ y11 = l1 then (x_inUse_62 l0 l1 l3 (Int32.ofInt 0) h) else (x_inUse_57 l0 l1 l3 h) else none) else none))
theorem t_x_inUse_19 (b : Bool) (L : Nat) (xs : Nat → Int32) (d : Nat) (hd : 0 ≤ d) {Q : Option Value → pm_H → Prop} (h : pm_H) (s_h : h.1 = tb_SH) (l0 : Nat) (l1 : Nat) (l2 : Int32) (l3 : Int32) (f_l0 : mi_o l0 0 = true) (f_l1 : mi_o l1 7 = true) {r : ((Int32 × Int32) ⊕ Int32)} (hm : x_inUse_19 l0 l1 l2 l3 h = some r) (hE : E_x_inUse_19 b L xs d Q h l0 l1 r) : PW b L xs d 37 0 0 19 [(Value.ref l0), (Value.ref l1), (Value.int l2), (Value.int l3)] [] h Q := by
  rw [x_inUse_19] at hm
  refine pw_l (pc := 19) d37_19 rfl rfl rfl ?_
  refine pw_l (pc := 20) d37_20 rfl rfl rfl ?_
  obtain ⟨y1, e_y1, hm⟩ := ob_x hm
  have f_y1 := gA_x e_y1
  refine pw_gr (pc := 21) d37_21 (k37_34 b) (sho s_h f_l0) f0_5 f_y1.1 ?_
  refine pw_an (pc := 24) d37_24 (sha s_h f_y1.2) ?_
  refine pw_ige (pc := 25) (t := 69) d37_25 (by decide) (fun c2 => ?_) (fun c2 => ?_)
  · rw [if_pos c2] at hm
    obtain rfl := Option.some.inj hm
    exact hE   (Value.ref l0) (Value.ref l1) (Value.int l3)
  · rw [if_neg c2] at hm
    refine pw_l (pc := 28) d37_28 rfl rfl rfl ?_
    refine pw_zne (pc := 29) (t := 57) d37_29 (by decide) (fun c3 => ?_) (fun c3 => ?_)
    · rw [if_pos c3] at hm
      exact t_x_inUse_57 b L xs d hd h s_h l0 l1 l3 (Value.int l2) f_l0 f_l1  hm hE
    · rw [if_neg c3] at hm
      refine pw_l (pc := 32) d37_32 rfl rfl rfl ?_
      obtain ⟨y4, e_y4, hm⟩ := ob_x hm
      have f_y4 := gA_x e_y4
      refine pw_gr (pc := 33) d37_33 (k37_34 b) (sho s_h f_l0) f0_5 f_y4.1 ?_
      refine pw_l (pc := 36) d37_36 rfl rfl rfl ?_
      obtain ⟨g5, hm⟩ := gd_x hm
      obtain ⟨y6, e_y6, hm⟩ := ob_x hm
      have f_y6 := gO_x e_y6
      refine pw_ar (pc := 37) d37_37 (sha s_h f_y4.2) (mi_in_x g5) f_y6.1 ?_
      refine pw_gi (pc := 38) d37_38 (k37_316 b) (sho s_h f_y6.2) f9_6 ?_
      refine pw_zeq (pc := 41) (t := 61) d37_41 (by decide) (fun c7 => ?_) (fun c7 => ?_)
      · rw [if_pos c7] at hm
        refine pw_s (pc := 61) d37_61 rfl rfl ?_
        exact t_x_inUse_62 b L xs d hd h s_h l0 l1 l3 (Int32.ofInt 0) (Value.int l2) f_l0 f_l1  hm hE
      · rw [if_neg c7] at hm
        refine pw_l (pc := 44) d37_44 rfl rfl rfl ?_
        obtain ⟨y8, e_y8, hm⟩ := ob_x hm
        have f_y8 := gA_x e_y8
        refine pw_gr (pc := 45) d37_45 (k37_34 b) (sho s_h f_l0) f0_5 f_y8.1 ?_
        refine pw_l (pc := 48) d37_48 rfl rfl rfl ?_
        obtain ⟨g9, hm⟩ := gd_x hm
        obtain ⟨y10, e_y10, hm⟩ := ob_x hm
        have f_y10 := gO_x e_y10
        refine pw_ar (pc := 49) d37_49 (sha s_h f_y8.2) (mi_in_x g9) f_y10.1 ?_
        obtain ⟨y11, e_y11, hm⟩ := ob_x hm
        have f_y11 := gO_x e_y11
        refine pw_gr (pc := 50) d37_50 (k37_83 b) (sho s_h f_y10.2) f9_0 f_y11.1 ?_
        refine pw_l (pc := 53) d37_53 rfl rfl rfl ?_
        refine pw_ane (pc := 54) (t := 61) d37_54 (by decide) (shl s_h f_y11.2) (shl s_h f_l1) (fun c12 => ?_) (fun c12 => ?_)
        · rw [if_pos c12] at hm
          refine pw_s (pc := 61) d37_61 rfl rfl ?_
          exact t_x_inUse_62 b L xs d hd h s_h l0 l1 l3 (Int32.ofInt 0) (Value.int l2) f_l0 f_l1  hm hE
        · rw [if_neg c12] at hm
          exact t_x_inUse_57 b L xs d hd h s_h l0 l1 l3 (Value.int l2) f_l0 f_l1  hm hE
noncomputable def x_inUse_16 (l0 : Nat) (l1 : Nat) (z0 : Int32) (h : pm_H) : Option Int32 := (wh (fun s : (Int32 × Int32) => x_inUse_19 l0 l1 s.1 s.2 h) (z0, (Int32.ofInt 0))).bind fun q1 => if mi_bo q1 = true then some q1 else none
theorem t_x_inUse_16 (b : Bool) (L : Nat) (xs : Nat → Int32) (d : Nat) (hd : 0 ≤ d) {Q : Option Value → pm_H → Prop} (h : pm_H) (s_h : h.1 = tb_SH) (l0 : Nat) (l1 : Nat) (z0 : Int32) (w2 : Value) (w3 : Value) (f_l0 : mi_o l0 0 = true) (f_l1 : mi_o l1 7 = true) {r : Int32} (hm : x_inUse_16 l0 l1 z0 h = some r) (hE : Q (some (Value.int r)) h) : PW b L xs d 37 0 0 16 [(Value.ref l0), (Value.ref l1), w2, w3] [(Value.int z0)] h Q := by
  rw [x_inUse_16] at hm
  refine pw_t (pc := 16) d37_16 rfl rfl rfl rfl ?_
  refine pw_s (pc := 17) d37_17 rfl rfl ?_
  refine pw_t (pc := 18) d37_18 rfl rfl rfl rfl ?_
  obtain ⟨q1, e_q1, hm⟩ := ob_x hm
  refine wh_ind e_q1 (fun s : (Int32 × Int32) => PW b L xs d 37 0 0 19 [(Value.ref l0), (Value.ref l1), (Value.int s.1), (Value.int s.2)] [] h Q) (fun s s2 hf ih  => t_x_inUse_19 b L xs d hd h s_h l0 l1 s.1 s.2  f_l0 f_l1 hf ih) (fun s hf  => t_x_inUse_19 b L xs d hd h s_h l0 l1 s.1 s.2  f_l0 f_l1 hf ?_)   
  intro w0 w1 w3
  refine pw_l (pc := 69) d37_69 rfl rfl rfl ?_
  obtain ⟨g2, hm⟩ := gd_x hm
  obtain rfl := Option.some.inj hm
  refine pw_ri (pc := 70) d37_70 t37 (pm_nz (mi_bo_x g2)) ?_
  exact hE
noncomputable def x_inUse (l0 : Nat) (l1 : Nat) (h : pm_H) : Option Int32 := (gO h l0 4 9).bind fun y1 => (gO h y1 0 7).bind fun y2 => if ¬ y2 = l1 then (x_inUse_16 l0 l1 (Int32.ofInt 0) h) else (x_inUse_16 l0 l1 (Int32.ofInt 1) h)
theorem T_x_inUse (b : Bool) (L : Nat) (xs : Nat → Int32) (d : Nat) (hd : 0 ≤ d) (h : pm_H) (s_h : h.1 = tb_SH) (l0 : Nat) (l1 : Nat) (f_l0 : mi_o l0 0 = true) (f_l1 : mi_o l1 7 = true) {r : Int32} (hm : x_inUse l0 l1 h = some r) : PC b L xs d 37 [(Value.ref l0), (Value.ref l1)] h (fun (v0 : Option Value) (h2 : pm_H) => v0 = (some (Value.int r)) ∧ h2 = h ∧ h2.1 = tb_SH) := by
  refine pc_in e37 (ls0 := [(Value.ref l0), (Value.ref l1), Value.retAddr 0, Value.retAddr 0]) rfl ?_
  have key : ∀ (Q : Option Value → pm_H → Prop), (Q (some (Value.int r)) h) → PW b L xs d 37 0 0 0 [(Value.ref l0), (Value.ref l1), Value.retAddr 0, Value.retAddr 0] [] h Q := by
    intro Q hE
    rw [x_inUse] at hm
    refine pw_l (pc := 0) d37_0 rfl rfl rfl ?_
    obtain ⟨y1, e_y1, hm⟩ := ob_x hm
    have f_y1 := gO_x e_y1
    refine pw_gr (pc := 1) d37_1 (k37_61 b) (sho s_h f_l0) f0_4 f_y1.1 ?_
    obtain ⟨y2, e_y2, hm⟩ := ob_x hm
    have f_y2 := gO_x e_y2
    refine pw_gr (pc := 4) d37_4 (k37_83 b) (sho s_h f_y1.2) f9_0 f_y2.1 ?_
    refine pw_l (pc := 7) d37_7 rfl rfl rfl ?_
    refine pw_ane (pc := 8) (t := 15) d37_8 (by decide) (shl s_h f_y2.2) (shl s_h f_l1) (fun c3 => ?_) (fun c3 => ?_)
    · rw [if_pos c3] at hm
      refine pw_s (pc := 15) d37_15 rfl rfl ?_
      exact t_x_inUse_16 b L xs d hd h s_h l0 l1 (Int32.ofInt 0) (Value.retAddr 0) (Value.retAddr 0) f_l0 f_l1  hm hE
    · rw [if_neg c3] at hm
      refine pw_s (pc := 11) d37_11 rfl rfl ?_
      refine pw_go (pc := 12) (t := 16) d37_12 (by decide) ?_
      exact t_x_inUse_16 b L xs d hd h s_h l0 l1 (Int32.ofInt 1) (Value.retAddr 0) (Value.retAddr 0) f_l0 f_l1  hm hE
  exact key _ ⟨rfl, rfl, s_h⟩
def E_x_split_23 (b : Bool) (L : Nat) (xs : Nat → Int32) (d : Nat) (Q : Option Value → pm_H → Prop) (l0 : Nat) : ((Int32 × Int32 × pm_H) ⊕ (Int32 × pm_H)) → Prop
  | .inl s => s.2.2.1 = tb_SH → ∀ w1 w2 : Value, PW b L xs d 38 0 0 23 [(Value.ref l0), w1, w2, (Value.int s.1), (Value.int s.2.1)] [] s.2.2 Q
  | .inr e => e.2.1 = tb_SH → ∀ w0 w1 w2 w4 : Value, PW b L xs d 38 0 0 50 [w0, w1, w2, (Value.int e.1), w4] [] e.2 Q
noncomputable def x_split_23 (l0 : Nat) (l3 : Int32) (l4 : Int32) (h : pm_H) : Option ((Int32 × Int32 × pm_H) ⊕ (Int32 × pm_H)) := if l4 < 0 then (some (.inr (l3, h))) else ((gA h l0 8 .int).bind fun y2 => if mi_in l4 (mi_n y2) = true then bd (pm_setI h y2 l4.toNatClampNeg (l3 - l3 / (Int8.ofInt 10).toInt32 * (Int8.ofInt 10).toInt32)) fun h4 => some (.inl ((l3 / (Int8.ofInt 10).toInt32), (l4 + Int32.ofInt (-1)), h4)) else none)
theorem t_x_split_23 (b : Bool) (L : Nat) (xs : Nat → Int32) (d : Nat) (hd : 0 ≤ d) {Q : Option Value → pm_H → Prop} (h : pm_H) (s_h : h.1 = tb_SH) (l0 : Nat) (l3 : Int32) (l4 : Int32) (w1 : Value) (w2 : Value) (f_l0 : mi_o l0 0 = true) {r : ((Int32 × Int32 × pm_H) ⊕ (Int32 × pm_H))} (hm : x_split_23 l0 l3 l4 h = some r) (hE : E_x_split_23 b L xs d Q l0 r) : PW b L xs d 38 0 0 23 [(Value.ref l0), w1, w2, (Value.int l3), (Value.int l4)] [] h Q := by
  rw [x_split_23] at hm
  refine pw_l (pc := 23) d38_23 rfl rfl rfl ?_
  refine pw_zlt (pc := 25) (t := 50) d38_25 (by decide) (fun c1 => ?_) (fun c1 => ?_)
  · rw [if_pos c1] at hm
    obtain rfl := Option.some.inj hm
    exact hE s_h  (Value.ref l0) w1 w2 (Value.int l4)
  · rw [if_neg c1] at hm
    refine pw_l (pc := 28) d38_28 rfl rfl rfl ?_
    obtain ⟨y2, e_y2, hm⟩ := ob_x hm
    have f_y2 := gA_x e_y2
    refine pw_gr (pc := 29) d38_29 (k38_52 b) (sho s_h f_l0) f0_8 f_y2.1 ?_
    refine pw_l (pc := 32) d38_32 rfl rfl rfl ?_
    refine pw_l (pc := 34) d38_34 rfl rfl rfl ?_
    refine pw_s (pc := 35) d38_35 rfl rfl ?_
    refine pw_re (pc := 37) d38_37 (by decide) ?_
    obtain ⟨g3, hm⟩ := gd_x hm
    refine pw_si (pc := 38) d38_38 (sha s_h f_y2.2) (mi_in_x g3) ?_
    obtain ⟨h4, e_h4, hm⟩ := bd_x hm
    rw [e_h4]
    have s_h4 : h4.1 = tb_SH := by rw [← e_h4]; exact s_h
    refine pw_l (pc := 39) d38_39 rfl rfl rfl ?_
    refine pw_s (pc := 40) d38_40 rfl rfl ?_
    refine pw_di (pc := 42) d38_42 (by decide) ?_
    refine pw_t (pc := 43) d38_43 rfl rfl rfl (n := 1) (ls' := [(Value.ref l0), w1, (mi_w w2), (Value.int (l3 / (Int8.ofInt 10).toInt32)), (Value.int l4)]) (st' := []) (by by_cases hw : Value.category w2 = 2 <;> simp [pm_sto, pm_sI, pm_sL, pm_sA, pm_inc, pm_st1, pm_st2, pm_pre, mi_w, hw] <;> first | done | exact ⟨by decide, rfl⟩ | rfl) ?_
    refine pw_t (pc := 44) d38_44 rfl rfl rfl rfl ?_
    refine pw_go (pc := 47) (t := 23) d38_47 (by decide) ?_
    obtain rfl := Option.some.inj hm
    exact hE s_h4  w1 (mi_w w2)
noncomputable def x_split (l0 : Nat) (l1 : Int32) (l2 : Int32) (h : pm_H) : Option (Int32 × pm_H) := if l1 < 0 then (some ((Int32.ofInt 0), h)) else (if l2 < (Int32.ofInt 1) then (some ((Int32.ofInt 0), h)) else (if l2 ≤ (Int32.ofInt 5) then ((wh (fun s : (Int32 × Int32 × pm_H) => x_split_23 l0 s.1 s.2.1 s.2.2) (l1, (l2 - (Int32.ofInt 1)), h)).bind fun q4 => if ¬ q4.1 = 0 then (some ((Int32.ofInt 0), q4.2)) else (some ((Int32.ofInt 1), q4.2))) else (some ((Int32.ofInt 0), h))))
theorem T_x_split (b : Bool) (L : Nat) (xs : Nat → Int32) (d : Nat) (hd : 0 ≤ d) (h : pm_H) (s_h : h.1 = tb_SH) (l0 : Nat) (l1 : Int32) (l2 : Int32) (f_l0 : mi_o l0 0 = true) {r : (Int32 × pm_H)} (hm : x_split l0 l1 l2 h = some r) : PC b L xs d 38 [(Value.ref l0), (Value.int l1), (Value.int l2)] h (fun (v0 : Option Value) (h2 : pm_H) => v0 = (some (Value.int r.1)) ∧ h2 = r.2 ∧ h2.1 = tb_SH) := by
  refine pc_in e38 (ls0 := [(Value.ref l0), (Value.int l1), (Value.int l2), Value.retAddr 0, Value.retAddr 0]) rfl ?_
  have key : ∀ (Q : Option Value → pm_H → Prop), (r.2.1 = tb_SH → Q (some (Value.int r.1)) r.2) → PW b L xs d 38 0 0 0 [(Value.ref l0), (Value.int l1), (Value.int l2), Value.retAddr 0, Value.retAddr 0] [] h Q := by
    intro Q hE
    rw [x_split] at hm
    refine pw_l (pc := 0) d38_0 rfl rfl rfl ?_
    refine pw_zlt (pc := 1) (t := 14) d38_1 (by decide) (fun c1 => ?_) (fun c1 => ?_)
    · rw [if_pos c1] at hm
      refine pw_s (pc := 14) d38_14 rfl rfl ?_
      obtain rfl := Option.some.inj hm
      refine pw_ri (pc := 15) d38_15 t38 rfl ?_
      exact hE s_h
    · rw [if_neg c1] at hm
      refine pw_l (pc := 4) d38_4 rfl rfl rfl ?_
      refine pw_s (pc := 5) d38_5 rfl rfl ?_
      refine pw_ilt (pc := 6) (t := 14) d38_6 (by decide) (fun c2 => ?_) (fun c2 => ?_)
      · rw [if_pos c2] at hm
        refine pw_s (pc := 14) d38_14 rfl rfl ?_
        obtain rfl := Option.some.inj hm
        refine pw_ri (pc := 15) d38_15 t38 rfl ?_
        exact hE s_h
      · rw [if_neg c2] at hm
        refine pw_l (pc := 9) d38_9 rfl rfl rfl ?_
        refine pw_s (pc := 10) d38_10 rfl rfl ?_
        refine pw_ile (pc := 11) (t := 16) d38_11 (by decide) (fun c3 => ?_) (fun c3 => ?_)
        · rw [if_pos c3] at hm
          refine pw_l (pc := 16) d38_16 rfl rfl rfl ?_
          refine pw_t (pc := 17) d38_17 rfl rfl rfl rfl ?_
          refine pw_l (pc := 18) d38_18 rfl rfl rfl ?_
          refine pw_s (pc := 19) d38_19 rfl rfl ?_
          refine pw_s (pc := 20) d38_20 rfl rfl ?_
          refine pw_t (pc := 21) d38_21 rfl rfl rfl rfl ?_
          obtain ⟨q4, e_q4, hm⟩ := ob_x hm
          refine wh_ind e_q4 (fun s : (Int32 × Int32 × pm_H) => s.2.2.1 = tb_SH → ∀ w1 w2 : Value, PW b L xs d 38 0 0 23 [(Value.ref l0), w1, w2, (Value.int s.1), (Value.int s.2.1)] [] s.2.2 Q) (fun s s2 hf ih sx w1 w2 => t_x_split_23 b L xs d hd s.2.2 sx l0 s.1 s.2.1 w1 w2 f_l0 hf ih) (fun s hf sx w1 w2 => t_x_split_23 b L xs d hd s.2.2 sx l0 s.1 s.2.1 w1 w2 f_l0 hf ?_) s_h  (Value.int l1) (Value.int l2)
          intro s_q4_0 w0 w1 w2 w4
          refine pw_l (pc := 50) d38_50 rfl rfl rfl ?_
          refine pw_zne (pc := 51) (t := 58) d38_51 (by decide) (fun c5 => ?_) (fun c5 => ?_)
          · rw [if_pos c5] at hm
            refine pw_s (pc := 58) d38_58 rfl rfl ?_
            obtain rfl := Option.some.inj hm
            refine pw_ri (pc := 59) d38_59 t38 rfl ?_
            exact hE s_q4_0
          · rw [if_neg c5] at hm
            refine pw_s (pc := 54) d38_54 rfl rfl ?_
            refine pw_go (pc := 55) (t := 59) d38_55 (by decide) ?_
            obtain rfl := Option.some.inj hm
            refine pw_ri (pc := 59) d38_59 t38 rfl ?_
            exact hE s_q4_0
        · rw [if_neg c3] at hm
          refine pw_s (pc := 14) d38_14 rfl rfl ?_
          obtain rfl := Option.some.inj hm
          refine pw_ri (pc := 15) d38_15 t38 rfl ?_
          exact hE s_h
  exact key _ (fun q => ⟨rfl, rfl, q⟩)
def E_x_menOf_16 (b : Bool) (L : Nat) (xs : Nat → Int32) (d : Nat) (Q : Option Value → pm_H → Prop) (l0 : Nat) (l2 : Int32) : ((Int32 × Int32 × pm_H) ⊕ pm_H ⊕ (Int32 × pm_H)) → Prop
  | .inl s => s.2.2.1 = tb_SH → ∀ w1 w5 : Value, PW b L xs d 39 0 0 16 [(Value.ref l0), w1, (Value.int l2), (Value.int s.1), (Value.int s.2.1), w5] [] s.2.2 Q
  | .inr (.inl e) => e.1 = tb_SH → ∀ w0 w1 w2 w3 w4 w5 : Value, PW b L xs d 39 0 0 94 [w0, w1, w2, w3, w4, w5] [] e Q
  | .inr (.inr e) => e.2.1 = tb_SH → ∀ w0 w1 w2 w4 w5 : Value, PW b L xs d 39 0 0 114 [w0, w1, w2, (Value.int e.1), w4, w5] [] e.2 Q
noncomputable def x_menOf_72 (l0 : Nat) (l2 : Int32) (l3 : Int32) (l4 : Int32) (z0 : Int32) (h : pm_H) : Option ((Int32 × Int32 × pm_H) ⊕ pm_H ⊕ (Int32 × pm_H)) := if z0 = 0 then (some (.inr (.inl h))) else ((gA h l0 8 .int).bind fun y2 => if mi_in l4 (mi_n y2) = true then (x_bit l3 (h.2.1 y2 l4.toNatClampNeg) h).bind fun q4 => if ¬ q4 = (Int32.ofInt 1) then ((gA h l0 8 .int).bind fun y6 => if mi_in l4 (mi_n y6) = true then some (.inl ((l3 ||| ((Int32.ofInt 1) <<< ((h.2.1 y6 l4.toNatClampNeg) &&& 31))), (l4 + Int32.ofInt 1), h)) else none) else (some (.inr (.inl h))) else none)
theorem t_x_menOf_72 (b : Bool) (L : Nat) (xs : Nat → Int32) (d : Nat) (hd : 1 ≤ d) {Q : Option Value → pm_H → Prop} (h : pm_H) (s_h : h.1 = tb_SH) (l0 : Nat) (l2 : Int32) (l3 : Int32) (l4 : Int32) (z0 : Int32) (w1 : Value) (w5 : Value) (f_l0 : mi_o l0 0 = true) {r : ((Int32 × Int32 × pm_H) ⊕ pm_H ⊕ (Int32 × pm_H))} (hm : x_menOf_72 l0 l2 l3 l4 z0 h = some r) (hE : E_x_menOf_16 b L xs d Q l0 l2 r) : PW b L xs d 39 0 0 72 [(Value.ref l0), w1, (Value.int l2), (Value.int l3), (Value.int l4), w5] [(Value.int z0)] h Q := by
  rw [x_menOf_72] at hm
  refine pw_t (pc := 72) d39_72 rfl rfl rfl rfl ?_
  refine pw_l (pc := 74) d39_74 rfl rfl rfl ?_
  refine pw_zeq (pc := 76) (t := 94) d39_76 (by decide) (fun c1 => ?_) (fun c1 => ?_)
  · rw [if_pos c1] at hm
    obtain rfl := Option.some.inj hm
    exact hE s_h  (Value.ref l0) w1 (Value.int l2) (Value.int l3) (Value.int l4) (Value.int z0)
  · rw [if_neg c1] at hm
    refine pw_l (pc := 79) d39_79 rfl rfl rfl ?_
    refine pw_l (pc := 80) d39_80 rfl rfl rfl ?_
    obtain ⟨y2, e_y2, hm⟩ := ob_x hm
    have f_y2 := gA_x e_y2
    refine pw_gr (pc := 81) d39_81 (k39_52 b) (sho s_h f_l0) f0_8 f_y2.1 ?_
    refine pw_l (pc := 84) d39_84 rfl rfl rfl ?_
    obtain ⟨g3, hm⟩ := gd_x hm
    refine pw_ai (pc := 86) d39_86 (sha s_h f_y2.2) (mi_in_x g3) ?_
    obtain ⟨q4, e_q4, hm⟩ := ob_x hm
    refine pw_u (pc := 87) (by omega) d39_87 (k39_122 b) (by decide) m34 (Nat.le_of_ble_eq_true rfl) (Nat.le_of_ble_eq_true rfl) (Nat.le_of_ble_eq_true rfl) rfl rfl (T_x_bit b L xs (d - 1) (by omega) h s_h l3 (h.2.1 y2 l4.toNatClampNeg)  e_q4) (fun v0 h0 hq => ?_)
    obtain ⟨rfl, hh0, s_q4⟩ := hq
    rw [hh0] at s_q4 ⊢
    simp only [Option.toList_some, List.cons_append, List.nil_append]
    refine pw_s (pc := 90) d39_90 rfl rfl ?_
    refine pw_ine (pc := 91) (t := 96) d39_91 (by decide) (fun c5 => ?_) (fun c5 => ?_)
    · rw [if_pos c5] at hm
      refine pw_l (pc := 96) d39_96 rfl rfl rfl ?_
      refine pw_s (pc := 97) d39_97 rfl rfl ?_
      refine pw_l (pc := 98) d39_98 rfl rfl rfl ?_
      obtain ⟨y6, e_y6, hm⟩ := ob_x hm
      have f_y6 := gA_x e_y6
      refine pw_gr (pc := 99) d39_99 (k39_52 b) (sho s_h f_l0) f0_8 f_y6.1 ?_
      refine pw_l (pc := 102) d39_102 rfl rfl rfl ?_
      obtain ⟨g7, hm⟩ := gd_x hm
      refine pw_ai (pc := 104) d39_104 (sha s_h f_y6.2) (mi_in_x g7) ?_
      refine pw_s (pc := 105) d39_105 rfl rfl ?_
      refine pw_s (pc := 106) d39_106 rfl rfl ?_
      refine pw_t (pc := 107) d39_107 rfl rfl rfl rfl ?_
      refine pw_t (pc := 108) d39_108 rfl rfl rfl rfl ?_
      refine pw_go (pc := 111) (t := 16) d39_111 (by decide) ?_
      obtain rfl := Option.some.inj hm
      exact hE s_h  w1 (Value.int z0)
    · rw [if_neg c5] at hm
      obtain rfl := Option.some.inj hm
      exact hE s_h  (Value.ref l0) w1 (Value.int l2) (Value.int l3) (Value.int l4) (Value.int z0)
noncomputable def x_menOf_67 (l0 : Nat) (l2 : Int32) (l3 : Int32) (l4 : Int32) (h : pm_H) : Option ((Int32 × Int32 × pm_H) ⊕ pm_H ⊕ (Int32 × pm_H)) := x_menOf_72 l0 l2 l3 l4 (Int32.ofInt 1) h
theorem t_x_menOf_67 (b : Bool) (L : Nat) (xs : Nat → Int32) (d : Nat) (hd : 1 ≤ d) {Q : Option Value → pm_H → Prop} (h : pm_H) (s_h : h.1 = tb_SH) (l0 : Nat) (l2 : Int32) (l3 : Int32) (l4 : Int32) (w1 : Value) (w5 : Value) (f_l0 : mi_o l0 0 = true) {r : ((Int32 × Int32 × pm_H) ⊕ pm_H ⊕ (Int32 × pm_H))} (hm : x_menOf_67 l0 l2 l3 l4 h = some r) (hE : E_x_menOf_16 b L xs d Q l0 l2 r) : PW b L xs d 39 0 0 67 [(Value.ref l0), w1, (Value.int l2), (Value.int l3), (Value.int l4), w5] [] h Q := by
  rw [x_menOf_67] at hm
  refine pw_s (pc := 67) d39_67 rfl rfl ?_
  refine pw_go (pc := 68) (t := 72) d39_68 (by decide) ?_
  exact t_x_menOf_72 b L xs d hd h s_h l0 l2 l3 l4 (Int32.ofInt 1) w1 w5 f_l0  hm hE
noncomputable def x_menOf_16 (l0 : Nat) (l2 : Int32) (l3 : Int32) (l4 : Int32) (h : pm_H) : Option ((Int32 × Int32 × pm_H) ⊕ pm_H ⊕ (Int32 × pm_H)) := if l2 ≤ l4 then (some (.inr (.inr (l3, h)))) else ((gO h l0 4 9).bind fun y2 => (gO h y2 0 7).bind fun y3 => (gA h l0 8 .int).bind fun y4 => if mi_in l4 (mi_n y4) = true then (s_hasMan y3 (h.2.1 y4 l4.toNatClampNeg) h).bind fun q6 => if ¬ q6 = 0 then (x_menOf_67 l0 l2 l3 l4 h) else ((gA h l0 8 .int).bind fun y8 => if mi_in l4 (mi_n y8) = true then if ¬ (h.2.1 y8 l4.toNatClampNeg) = (Int8.ofInt 8).toInt32 then (x_menOf_72 l0 l2 l3 l4 (Int32.ofInt 0) h) else ((gO h l0 4 9).bind fun y11 => (gO h y11 1 3).bind fun y12 => if (h.2.1 y12 4) < 0 then (x_menOf_72 l0 l2 l3 l4 (Int32.ofInt 0) h) else (x_menOf_67 l0 l2 l3 l4 h)) else none) else none)
theorem t_x_menOf_16 (b : Bool) (L : Nat) (xs : Nat → Int32) (d : Nat) (hd : 1 ≤ d) {Q : Option Value → pm_H → Prop} (h : pm_H) (s_h : h.1 = tb_SH) (l0 : Nat) (l2 : Int32) (l3 : Int32) (l4 : Int32) (w1 : Value) (w5 : Value) (f_l0 : mi_o l0 0 = true) {r : ((Int32 × Int32 × pm_H) ⊕ pm_H ⊕ (Int32 × pm_H))} (hm : x_menOf_16 l0 l2 l3 l4 h = some r) (hE : E_x_menOf_16 b L xs d Q l0 l2 r) : PW b L xs d 39 0 0 16 [(Value.ref l0), w1, (Value.int l2), (Value.int l3), (Value.int l4), w5] [] h Q := by
  rw [x_menOf_16] at hm
  refine pw_l (pc := 16) d39_16 rfl rfl rfl ?_
  refine pw_l (pc := 18) d39_18 rfl rfl rfl ?_
  refine pw_ige (pc := 19) (t := 114) d39_19 (by decide) (fun c1 => ?_) (fun c1 => ?_)
  · rw [if_pos c1] at hm
    obtain rfl := Option.some.inj hm
    exact hE s_h  (Value.ref l0) w1 (Value.int l2) (Value.int l4) w5
  · rw [if_neg c1] at hm
    refine pw_l (pc := 22) d39_22 rfl rfl rfl ?_
    obtain ⟨y2, e_y2, hm⟩ := ob_x hm
    have f_y2 := gO_x e_y2
    refine pw_gr (pc := 23) d39_23 (k39_61 b) (sho s_h f_l0) f0_4 f_y2.1 ?_
    obtain ⟨y3, e_y3, hm⟩ := ob_x hm
    have f_y3 := gO_x e_y3
    refine pw_gr (pc := 26) d39_26 (k39_83 b) (sho s_h f_y2.2) f9_0 f_y3.1 ?_
    refine pw_l (pc := 29) d39_29 rfl rfl rfl ?_
    obtain ⟨y4, e_y4, hm⟩ := ob_x hm
    have f_y4 := gA_x e_y4
    refine pw_gr (pc := 30) d39_30 (k39_52 b) (sho s_h f_l0) f0_8 f_y4.1 ?_
    refine pw_l (pc := 33) d39_33 rfl rfl rfl ?_
    obtain ⟨g5, hm⟩ := gd_x hm
    refine pw_ai (pc := 35) d39_35 (sha s_h f_y4.2) (mi_in_x g5) ?_
    obtain ⟨q6, e_q6, hm⟩ := ob_x hm
    refine pw_v (pc := 36) (k := y3) (by omega) d39_36 (k39_109 b) (by decide) m112 (by decide) rfl (sho s_h f_y3.2) (Nat.le_of_ble_eq_true rfl) (Nat.le_of_ble_eq_true rfl) rfl rfl (T_s_hasMan b L xs (d - 1) (by omega) h s_h y3 (h.2.1 y4 l4.toNatClampNeg) f_y3.2 e_q6) (fun v0 h0 hq => ?_)
    obtain ⟨rfl, hh0, s_q6⟩ := hq
    rw [hh0] at s_q6 ⊢
    simp only [Option.toList_some, List.cons_append, List.nil_append]
    refine pw_zne (pc := 39) (t := 67) d39_39 (by decide) (fun c7 => ?_) (fun c7 => ?_)
    · rw [if_pos c7] at hm
      exact t_x_menOf_67 b L xs d hd h s_h l0 l2 l3 l4 w1 w5 f_l0  hm hE
    · rw [if_neg c7] at hm
      refine pw_l (pc := 42) d39_42 rfl rfl rfl ?_
      obtain ⟨y8, e_y8, hm⟩ := ob_x hm
      have f_y8 := gA_x e_y8
      refine pw_gr (pc := 43) d39_43 (k39_52 b) (sho s_h f_l0) f0_8 f_y8.1 ?_
      refine pw_l (pc := 46) d39_46 rfl rfl rfl ?_
      obtain ⟨g9, hm⟩ := gd_x hm
      refine pw_ai (pc := 48) d39_48 (sha s_h f_y8.2) (mi_in_x g9) ?_
      refine pw_s (pc := 49) d39_49 rfl rfl ?_
      refine pw_ine (pc := 51) (t := 71) d39_51 (by decide) (fun c10 => ?_) (fun c10 => ?_)
      · rw [if_pos c10] at hm
        refine pw_s (pc := 71) d39_71 rfl rfl ?_
        exact t_x_menOf_72 b L xs d hd h s_h l0 l2 l3 l4 (Int32.ofInt 0) w1 w5 f_l0  hm hE
      · rw [if_neg c10] at hm
        refine pw_l (pc := 54) d39_54 rfl rfl rfl ?_
        obtain ⟨y11, e_y11, hm⟩ := ob_x hm
        have f_y11 := gO_x e_y11
        refine pw_gr (pc := 55) d39_55 (k39_61 b) (sho s_h f_l0) f0_4 f_y11.1 ?_
        obtain ⟨y12, e_y12, hm⟩ := ob_x hm
        have f_y12 := gO_x e_y12
        refine pw_gr (pc := 58) d39_58 (k39_87 b) (sho s_h f_y11.2) f9_1 f_y12.1 ?_
        refine pw_gi (pc := 61) d39_61 (k39_203 b) (sho s_h f_y12.2) f3_4 ?_
        refine pw_zlt (pc := 64) (t := 71) d39_64 (by decide) (fun c13 => ?_) (fun c13 => ?_)
        · rw [if_pos c13] at hm
          refine pw_s (pc := 71) d39_71 rfl rfl ?_
          exact t_x_menOf_72 b L xs d hd h s_h l0 l2 l3 l4 (Int32.ofInt 0) w1 w5 f_l0  hm hE
        · rw [if_neg c13] at hm
          exact t_x_menOf_67 b L xs d hd h s_h l0 l2 l3 l4 w1 w5 f_l0  hm hE
noncomputable def x_menOf (l0 : Nat) (l1 : Int32) (l2 : Int32) (h : pm_H) : Option (Int32 × pm_H) := (x_split l0 l1 l2 h).bind fun q1 => if ¬ q1.1 = 0 then ((wh (fun s : (Int32 × Int32 × pm_H) => x_menOf_16 l0 l2 s.1 s.2.1 s.2.2) ((Int32.ofInt 0), (Int32.ofInt 0), q1.2)).bind fun q3 => (match q3 with | (.inl eq3_0) => some ((Int32.ofInt (-1)), eq3_0) | (.inr eq3_1) => some (eq3_1.1, eq3_1.2))) else (some ((Int32.ofInt (-1)), q1.2))
theorem T_x_menOf (b : Bool) (L : Nat) (xs : Nat → Int32) (d : Nat) (hd : 1 ≤ d) (h : pm_H) (s_h : h.1 = tb_SH) (l0 : Nat) (l1 : Int32) (l2 : Int32) (f_l0 : mi_o l0 0 = true) {r : (Int32 × pm_H)} (hm : x_menOf l0 l1 l2 h = some r) : PC b L xs d 39 [(Value.ref l0), (Value.int l1), (Value.int l2)] h (fun (v0 : Option Value) (h2 : pm_H) => v0 = (some (Value.int r.1)) ∧ h2 = r.2 ∧ h2.1 = tb_SH) := by
  refine pc_in e39 (ls0 := [(Value.ref l0), (Value.int l1), (Value.int l2), Value.retAddr 0, Value.retAddr 0, Value.retAddr 0]) rfl ?_
  have key : ∀ (Q : Option Value → pm_H → Prop), (r.2.1 = tb_SH → Q (some (Value.int r.1)) r.2) → PW b L xs d 39 0 0 0 [(Value.ref l0), (Value.int l1), (Value.int l2), Value.retAddr 0, Value.retAddr 0, Value.retAddr 0] [] h Q := by
    intro Q hE
    rw [x_menOf] at hm
    refine pw_l (pc := 0) d39_0 rfl rfl rfl ?_
    refine pw_l (pc := 1) d39_1 rfl rfl rfl ?_
    refine pw_l (pc := 2) d39_2 rfl rfl rfl ?_
    obtain ⟨q1, e_q1, hm⟩ := ob_x hm
    refine pw_v (pc := 3) (k := l0) (by omega) d39_3 (k39_156 b) (by decide) m38 (by decide) rfl (sho s_h f_l0) (Nat.le_of_ble_eq_true rfl) (Nat.le_of_ble_eq_true rfl) rfl rfl (T_x_split b L xs (d - 1) (by omega) h s_h l0 l1 l2 f_l0 e_q1) (fun v0 h0 hq => ?_)
    obtain ⟨rfl, hh0, s_q1⟩ := hq
    rw [hh0] at s_q1 ⊢
    simp only [Option.toList_some, List.cons_append, List.nil_append]
    refine pw_zne (pc := 6) (t := 11) d39_6 (by decide) (fun c2 => ?_) (fun c2 => ?_)
    · rw [if_pos c2] at hm
      refine pw_s (pc := 11) d39_11 rfl rfl ?_
      refine pw_t (pc := 12) d39_12 rfl rfl rfl rfl ?_
      refine pw_s (pc := 13) d39_13 rfl rfl ?_
      refine pw_t (pc := 14) d39_14 rfl rfl rfl rfl ?_
      obtain ⟨q3, e_q3, hm⟩ := ob_x hm
      refine wh_ind e_q3 (fun s : (Int32 × Int32 × pm_H) => s.2.2.1 = tb_SH → ∀ w1 w5 : Value, PW b L xs d 39 0 0 16 [(Value.ref l0), w1, (Value.int l2), (Value.int s.1), (Value.int s.2.1), w5] [] s.2.2 Q) (fun s s2 hf ih sx w1 w5 => t_x_menOf_16 b L xs d hd s.2.2 sx l0 l2 s.1 s.2.1 w1 w5 f_l0 hf ih) (fun s hf sx w1 w5 => t_x_menOf_16 b L xs d hd s.2.2 sx l0 l2 s.1 s.2.1 w1 w5 f_l0 hf ?_) s_q1  (Value.int l1) (Value.retAddr 0)
      rcases q3 with eq3_0 | eq3_1
      · dsimp only at hm
        intro s_q3_0 w0 w1 w2 w3 w4 w5
        refine pw_s (pc := 94) d39_94 rfl rfl ?_
        obtain rfl := Option.some.inj hm
        refine pw_ri (pc := 95) d39_95 t39 rfl ?_
        exact hE s_q3_0
      · dsimp only at hm
        intro s_q3_1 w0 w1 w2 w4 w5
        refine pw_l (pc := 114) d39_114 rfl rfl rfl ?_
        obtain rfl := Option.some.inj hm
        refine pw_ri (pc := 115) d39_115 t39 rfl ?_
        exact hE s_q3_1
    · rw [if_neg c2] at hm
      refine pw_s (pc := 9) d39_9 rfl rfl ?_
      obtain rfl := Option.some.inj hm
      refine pw_ri (pc := 10) d39_10 t39 rfl ?_
      exact hE s_q1
  exact key _ (fun q => ⟨rfl, rfl, q⟩)
def E_x_wordsOf_5 (b : Bool) (L : Nat) (xs : Nat → Int32) (d : Nat) (Q : Option Value → pm_H → Prop) (l0 : Nat) (l1 : Int32) (l2 : Int32) : ((Int32 × Int32 × pm_H) ⊕ (Int32 × pm_H)) → Prop
  | .inl s => s.2.2.1 = tb_SH → ∀ w5 : Value, PW b L xs d 40 0 0 5 [(Value.ref l0), (Value.int l1), (Value.int l2), (Value.int s.1), (Value.int s.2.1), w5] [] s.2.2 Q
  | .inr e => e.2.1 = tb_SH → ∀ w0 w1 w2 w4 w5 : Value, PW b L xs d 40 0 0 96 [w0, w1, w2, (Value.int e.1), w4, w5] [] e.2 Q
noncomputable def x_wordsOf_86 (l0 : Nat) (l1 : Int32) (l2 : Int32) (l3 : Int32) (l4 : Int32) (z0 : Int32) (z1 : Int32) (z2 : Nat) (h : pm_H) : Option ((Int32 × Int32 × pm_H) ⊕ (Int32 × pm_H)) := if mi_in z1 (mi_n z2) = true then bd (pm_setI h z2 z1.toNatClampNeg z0) fun h2 => some (.inl ((l3 + Int32.ofInt 1), (l4 + Int32.ofInt 1), h2)) else none
theorem t_x_wordsOf_86 (b : Bool) (L : Nat) (xs : Nat → Int32) (d : Nat) (hd : 1 ≤ d) {Q : Option Value → pm_H → Prop} (h : pm_H) (s_h : h.1 = tb_SH) (l0 : Nat) (l1 : Int32) (l2 : Int32) (l3 : Int32) (l4 : Int32) (z0 : Int32) (z1 : Int32) (z2 : Nat) (w5 : Value) (f_l0 : mi_o l0 0 = true) (f_z2 : mi_a z2 .int = true) {r : ((Int32 × Int32 × pm_H) ⊕ (Int32 × pm_H))} (hm : x_wordsOf_86 l0 l1 l2 l3 l4 z0 z1 z2 h = some r) (hE : E_x_wordsOf_5 b L xs d Q l0 l1 l2 r) : PW b L xs d 40 0 0 86 [(Value.ref l0), (Value.int l1), (Value.int l2), (Value.int l3), (Value.int l4), w5] [(Value.int z0), (Value.int z1), (Value.ref z2)] h Q := by
  rw [x_wordsOf_86] at hm
  obtain ⟨g1, hm⟩ := gd_x hm
  refine pw_si (pc := 86) d40_86 (sha s_h f_z2) (mi_in_x g1) ?_
  obtain ⟨h2, e_h2, hm⟩ := bd_x hm
  rw [e_h2]
  have s_h2 : h2.1 = tb_SH := by rw [← e_h2]; exact s_h
  refine pw_t (pc := 87) d40_87 rfl rfl rfl rfl ?_
  refine pw_t (pc := 90) d40_90 rfl rfl rfl rfl ?_
  refine pw_go (pc := 93) (t := 5) d40_93 (by decide) ?_
  obtain rfl := Option.some.inj hm
  exact hE s_h2  w5
noncomputable def x_wordsOf_5 (l0 : Nat) (l1 : Int32) (l2 : Int32) (l3 : Int32) (l4 : Int32) (h : pm_H) : Option ((Int32 × Int32 × pm_H) ⊕ (Int32 × pm_H)) := if l1 ≤ l4 then (some (.inr (l3, h))) else ((gA h l0 8 .int).bind fun y2 => if (Int32.ofNat (mi_n y2)) ≤ l4 then (some (.inr (l3, h))) else ((gA h l0 8 .int).bind fun y4 => if mi_in l4 (mi_n y4) = true then (x_bit l2 (h.2.1 y4 l4.toNatClampNeg) h).bind fun q6 => if ¬ q6 = (Int32.ofInt 1) then (some (.inl (l3, (l4 + Int32.ofInt 1), h))) else ((gA h l0 8 .int).bind fun y8 => if (Int32.ofNat (mi_n y8)) ≤ l3 then (some (.inl (l3, (l4 + Int32.ofInt 1), h))) else ((gA h l0 8 .int).bind fun y10 => if ¬ (h.2.1 y4 l4.toNatClampNeg) = (Int8.ofInt 8).toInt32 then ((gO h l0 4 9).bind fun y12 => (gO h y12 0 7).bind fun y13 => (s_wordOf y13 (h.2.1 y4 l4.toNatClampNeg) h).bind fun q14 => x_wordsOf_86 l0 l1 l2 l3 l4 q14 l3 y10 h) else ((gO h l0 4 9).bind fun y15 => (gO h y15 1 3).bind fun y16 => x_wordsOf_86 l0 l1 l2 l3 l4 (h.2.1 y16 4) l3 y10 h))) else none))
theorem t_x_wordsOf_5 (b : Bool) (L : Nat) (xs : Nat → Int32) (d : Nat) (hd : 1 ≤ d) {Q : Option Value → pm_H → Prop} (h : pm_H) (s_h : h.1 = tb_SH) (l0 : Nat) (l1 : Int32) (l2 : Int32) (l3 : Int32) (l4 : Int32) (w5 : Value) (f_l0 : mi_o l0 0 = true) {r : ((Int32 × Int32 × pm_H) ⊕ (Int32 × pm_H))} (hm : x_wordsOf_5 l0 l1 l2 l3 l4 h = some r) (hE : E_x_wordsOf_5 b L xs d Q l0 l1 l2 r) : PW b L xs d 40 0 0 5 [(Value.ref l0), (Value.int l1), (Value.int l2), (Value.int l3), (Value.int l4), w5] [] h Q := by
  rw [x_wordsOf_5] at hm
  refine pw_l (pc := 5) d40_5 rfl rfl rfl ?_
  refine pw_l (pc := 7) d40_7 rfl rfl rfl ?_
  refine pw_ige (pc := 8) (t := 96) d40_8 (by decide) (fun c1 => ?_) (fun c1 => ?_)
  · rw [if_pos c1] at hm
    obtain rfl := Option.some.inj hm
    exact hE s_h  (Value.ref l0) (Value.int l1) (Value.int l2) (Value.int l4) w5
  · rw [if_neg c1] at hm
    refine pw_l (pc := 11) d40_11 rfl rfl rfl ?_
    refine pw_l (pc := 13) d40_13 rfl rfl rfl ?_
    obtain ⟨y2, e_y2, hm⟩ := ob_x hm
    have f_y2 := gA_x e_y2
    refine pw_gr (pc := 14) d40_14 (k40_52 b) (sho s_h f_l0) f0_8 f_y2.1 ?_
    refine pw_an (pc := 17) d40_17 (sha s_h f_y2.2) ?_
    refine pw_ige (pc := 18) (t := 96) d40_18 (by decide) (fun c3 => ?_) (fun c3 => ?_)
    · rw [if_pos c3] at hm
      obtain rfl := Option.some.inj hm
      exact hE s_h  (Value.ref l0) (Value.int l1) (Value.int l2) (Value.int l4) w5
    · rw [if_neg c3] at hm
      refine pw_l (pc := 21) d40_21 rfl rfl rfl ?_
      obtain ⟨y4, e_y4, hm⟩ := ob_x hm
      have f_y4 := gA_x e_y4
      refine pw_gr (pc := 22) d40_22 (k40_52 b) (sho s_h f_l0) f0_8 f_y4.1 ?_
      refine pw_l (pc := 25) d40_25 rfl rfl rfl ?_
      obtain ⟨g5, hm⟩ := gd_x hm
      refine pw_ai (pc := 27) d40_27 (sha s_h f_y4.2) (mi_in_x g5) ?_
      refine pw_t (pc := 28) d40_28 rfl rfl rfl rfl ?_
      refine pw_l (pc := 30) d40_30 rfl rfl rfl ?_
      refine pw_l (pc := 31) d40_31 rfl rfl rfl ?_
      obtain ⟨q6, e_q6, hm⟩ := ob_x hm
      refine pw_u (pc := 33) (by omega) d40_33 (k40_122 b) (by decide) m34 (Nat.le_of_ble_eq_true rfl) (Nat.le_of_ble_eq_true rfl) (Nat.le_of_ble_eq_true rfl) rfl rfl (T_x_bit b L xs (d - 1) (by omega) h s_h l2 (h.2.1 y4 l4.toNatClampNeg)  e_q6) (fun v0 h0 hq => ?_)
      obtain ⟨rfl, hh0, s_q6⟩ := hq
      rw [hh0] at s_q6 ⊢
      simp only [Option.toList_some, List.cons_append, List.nil_append]
      refine pw_s (pc := 36) d40_36 rfl rfl ?_
      refine pw_ine (pc := 37) (t := 90) d40_37 (by decide) (fun c7 => ?_) (fun c7 => ?_)
      · rw [if_pos c7] at hm
        refine pw_t (pc := 90) d40_90 rfl rfl rfl rfl ?_
        refine pw_go (pc := 93) (t := 5) d40_93 (by decide) ?_
        obtain rfl := Option.some.inj hm
        exact hE s_h  (Value.int (h.2.1 y4 l4.toNatClampNeg))
      · rw [if_neg c7] at hm
        refine pw_l (pc := 40) d40_40 rfl rfl rfl ?_
        refine pw_l (pc := 41) d40_41 rfl rfl rfl ?_
        obtain ⟨y8, e_y8, hm⟩ := ob_x hm
        have f_y8 := gA_x e_y8
        refine pw_gr (pc := 42) d40_42 (k40_52 b) (sho s_h f_l0) f0_8 f_y8.1 ?_
        refine pw_an (pc := 45) d40_45 (sha s_h f_y8.2) ?_
        refine pw_ige (pc := 46) (t := 90) d40_46 (by decide) (fun c9 => ?_) (fun c9 => ?_)
        · rw [if_pos c9] at hm
          refine pw_t (pc := 90) d40_90 rfl rfl rfl rfl ?_
          refine pw_go (pc := 93) (t := 5) d40_93 (by decide) ?_
          obtain rfl := Option.some.inj hm
          exact hE s_h  (Value.int (h.2.1 y4 l4.toNatClampNeg))
        · rw [if_neg c9] at hm
          refine pw_l (pc := 49) d40_49 rfl rfl rfl ?_
          obtain ⟨y10, e_y10, hm⟩ := ob_x hm
          have f_y10 := gA_x e_y10
          refine pw_gr (pc := 50) d40_50 (k40_52 b) (sho s_h f_l0) f0_8 f_y10.1 ?_
          refine pw_l (pc := 53) d40_53 rfl rfl rfl ?_
          refine pw_l (pc := 54) d40_54 rfl rfl rfl ?_
          refine pw_s (pc := 56) d40_56 rfl rfl ?_
          refine pw_ine (pc := 58) (t := 74) d40_58 (by decide) (fun c11 => ?_) (fun c11 => ?_)
          · rw [if_pos c11] at hm
            refine pw_l (pc := 74) d40_74 rfl rfl rfl ?_
            obtain ⟨y12, e_y12, hm⟩ := ob_x hm
            have f_y12 := gO_x e_y12
            refine pw_gr (pc := 75) d40_75 (k40_61 b) (sho s_h f_l0) f0_4 f_y12.1 ?_
            obtain ⟨y13, e_y13, hm⟩ := ob_x hm
            have f_y13 := gO_x e_y13
            refine pw_gr (pc := 78) d40_78 (k40_83 b) (sho s_h f_y12.2) f9_0 f_y13.1 ?_
            refine pw_l (pc := 81) d40_81 rfl rfl rfl ?_
            obtain ⟨q14, e_q14, hm⟩ := ob_x hm
            refine pw_v (pc := 83) (k := y13) (by omega) d40_83 (k40_324 b) (by decide) m115 (by decide) rfl (sho s_h f_y13.2) (Nat.le_of_ble_eq_true rfl) (Nat.le_of_ble_eq_true rfl) rfl rfl (T_s_wordOf b L xs (d - 1) (by omega) h s_h y13 (h.2.1 y4 l4.toNatClampNeg) f_y13.2 e_q14) (fun v0 h0 hq => ?_)
            obtain ⟨rfl, hh0, s_q14⟩ := hq
            rw [hh0] at s_q14 ⊢
            simp only [Option.toList_some, List.cons_append, List.nil_append]
            exact t_x_wordsOf_86 b L xs d hd h s_h l0 l1 l2 l3 l4 q14 l3 y10 (Value.int (h.2.1 y4 l4.toNatClampNeg)) f_l0 f_y10.2 hm hE
          · rw [if_neg c11] at hm
            refine pw_l (pc := 61) d40_61 rfl rfl rfl ?_
            obtain ⟨y15, e_y15, hm⟩ := ob_x hm
            have f_y15 := gO_x e_y15
            refine pw_gr (pc := 62) d40_62 (k40_61 b) (sho s_h f_l0) f0_4 f_y15.1 ?_
            obtain ⟨y16, e_y16, hm⟩ := ob_x hm
            have f_y16 := gO_x e_y16
            refine pw_gr (pc := 65) d40_65 (k40_87 b) (sho s_h f_y15.2) f9_1 f_y16.1 ?_
            refine pw_gi (pc := 68) d40_68 (k40_203 b) (sho s_h f_y16.2) f3_4 ?_
            refine pw_go (pc := 71) (t := 86) d40_71 (by decide) ?_
            exact t_x_wordsOf_86 b L xs d hd h s_h l0 l1 l2 l3 l4 (h.2.1 y16 4) l3 y10 (Value.int (h.2.1 y4 l4.toNatClampNeg)) f_l0 f_y10.2 hm hE
noncomputable def x_wordsOf (l0 : Nat) (l1 : Int32) (l2 : Int32) (h : pm_H) : Option (Int32 × pm_H) := (wh (fun s : (Int32 × Int32 × pm_H) => x_wordsOf_5 l0 l1 l2 s.1 s.2.1 s.2.2) ((Int32.ofInt 0), (Int32.ofInt 0), h)).bind fun q1 => some (q1.1, q1.2)
theorem T_x_wordsOf (b : Bool) (L : Nat) (xs : Nat → Int32) (d : Nat) (hd : 1 ≤ d) (h : pm_H) (s_h : h.1 = tb_SH) (l0 : Nat) (l1 : Int32) (l2 : Int32) (f_l0 : mi_o l0 0 = true) {r : (Int32 × pm_H)} (hm : x_wordsOf l0 l1 l2 h = some r) : PC b L xs d 40 [(Value.ref l0), (Value.int l1), (Value.int l2)] h (fun (v0 : Option Value) (h2 : pm_H) => v0 = (some (Value.int r.1)) ∧ h2 = r.2 ∧ h2.1 = tb_SH) := by
  refine pc_in e40 (ls0 := [(Value.ref l0), (Value.int l1), (Value.int l2), Value.retAddr 0, Value.retAddr 0, Value.retAddr 0]) rfl ?_
  have key : ∀ (Q : Option Value → pm_H → Prop), (r.2.1 = tb_SH → Q (some (Value.int r.1)) r.2) → PW b L xs d 40 0 0 0 [(Value.ref l0), (Value.int l1), (Value.int l2), Value.retAddr 0, Value.retAddr 0, Value.retAddr 0] [] h Q := by
    intro Q hE
    rw [x_wordsOf] at hm
    refine pw_s (pc := 0) d40_0 rfl rfl ?_
    refine pw_t (pc := 1) d40_1 rfl rfl rfl rfl ?_
    refine pw_s (pc := 2) d40_2 rfl rfl ?_
    refine pw_t (pc := 3) d40_3 rfl rfl rfl rfl ?_
    obtain ⟨q1, e_q1, hm⟩ := ob_x hm
    refine wh_ind e_q1 (fun s : (Int32 × Int32 × pm_H) => s.2.2.1 = tb_SH → ∀ w5 : Value, PW b L xs d 40 0 0 5 [(Value.ref l0), (Value.int l1), (Value.int l2), (Value.int s.1), (Value.int s.2.1), w5] [] s.2.2 Q) (fun s s2 hf ih sx w5 => t_x_wordsOf_5 b L xs d hd s.2.2 sx l0 l1 l2 s.1 s.2.1 w5 f_l0 hf ih) (fun s hf sx w5 => t_x_wordsOf_5 b L xs d hd s.2.2 sx l0 l1 l2 s.1 s.2.1 w5 f_l0 hf ?_) s_h  (Value.retAddr 0)
    intro s_q1_0 w0 w1 w2 w4 w5
    refine pw_l (pc := 96) d40_96 rfl rfl rfl ?_
    obtain rfl := Option.some.inj hm
    refine pw_ri (pc := 97) d40_97 t40 rfl ?_
    exact hE s_q1_0
  exact key _ (fun q => ⟨rfl, rfl, q⟩)
def E_x_rouseAll_2 (b : Bool) (L : Nat) (xs : Nat → Int32) (d : Nat) (Q : Option Value → pm_H → Prop) (l0 : Nat) (l1 : Nat) : ((Int32 × pm_H) ⊕ pm_H) → Prop
  | .inl s => s.2.1 = tb_SH → PW b L xs d 41 0 0 2 [(Value.ref l0), (Value.ref l1), (Value.int s.1)] [] s.2 Q
  | .inr e => e.1 = tb_SH → ∀ w0 w1 w2 : Value, PW b L xs d 41 0 0 60 [w0, w1, w2] [] e Q
noncomputable def x_rouseAll_2 (l0 : Nat) (l1 : Nat) (l2 : Int32) (h : pm_H) : Option ((Int32 × pm_H) ⊕ pm_H) := (gO h l0 4 9).bind fun y1 => (gO h y1 0 7).bind fun y2 => if (h.2.1 y2 1) ≤ l2 then (some (.inr h)) else ((x_lives l0 l2 h).bind fun q4 => if q4 = 0 then (some (.inl ((l2 + Int32.ofInt 1), h))) else ((gO h l0 4 9).bind fun y6 => (gO h y6 1 3).bind fun y7 => (gO h l0 4 9).bind fun y8 => (gO h y8 0 7).bind fun y9 => (gO h l0 4 9).bind fun y10 => (gO h y10 1 3).bind fun y11 => (u_wakes l1 y9 y11 l2 h).bind fun q12 => (n_rouse y7 l2 q12.1 q12.2).bind fun q13 => some (.inl ((l2 + Int32.ofInt 1), q13))))
theorem t_x_rouseAll_2 (b : Bool) (L : Nat) (xs : Nat → Int32) (d : Nat) (hd : 5 ≤ d) {Q : Option Value → pm_H → Prop} (h : pm_H) (s_h : h.1 = tb_SH) (l0 : Nat) (l1 : Nat) (l2 : Int32) (f_l0 : mi_o l0 0 = true) (f_l1 : mi_o l1 6 = true) {r : ((Int32 × pm_H) ⊕ pm_H)} (hm : x_rouseAll_2 l0 l1 l2 h = some r) (hE : E_x_rouseAll_2 b L xs d Q l0 l1 r) : PW b L xs d 41 0 0 2 [(Value.ref l0), (Value.ref l1), (Value.int l2)] [] h Q := by
  rw [x_rouseAll_2] at hm
  refine pw_l (pc := 2) d41_2 rfl rfl rfl ?_
  refine pw_l (pc := 3) d41_3 rfl rfl rfl ?_
  obtain ⟨y1, e_y1, hm⟩ := ob_x hm
  have f_y1 := gO_x e_y1
  refine pw_gr (pc := 4) d41_4 (k41_61 b) (sho s_h f_l0) f0_4 f_y1.1 ?_
  obtain ⟨y2, e_y2, hm⟩ := ob_x hm
  have f_y2 := gO_x e_y2
  refine pw_gr (pc := 7) d41_7 (k41_83 b) (sho s_h f_y1.2) f9_0 f_y2.1 ?_
  refine pw_gi (pc := 10) d41_10 (k41_91 b) (sho s_h f_y2.2) f7_1 ?_
  refine pw_ige (pc := 13) (t := 60) d41_13 (by decide) (fun c3 => ?_) (fun c3 => ?_)
  · rw [if_pos c3] at hm
    obtain rfl := Option.some.inj hm
    exact hE s_h  (Value.ref l0) (Value.ref l1) (Value.int l2)
  · rw [if_neg c3] at hm
    refine pw_l (pc := 16) d41_16 rfl rfl rfl ?_
    refine pw_l (pc := 17) d41_17 rfl rfl rfl ?_
    obtain ⟨q4, e_q4, hm⟩ := ob_x hm
    refine pw_v (pc := 18) (k := l0) (by omega) d41_18 (k41_187 b) (by decide) m35 (by decide) rfl (sho s_h f_l0) (Nat.le_of_ble_eq_true rfl) (Nat.le_of_ble_eq_true rfl) rfl rfl (T_x_lives b L xs (d - 1) (by omega) h s_h l0 l2 f_l0 e_q4) (fun v0 h0 hq => ?_)
    obtain ⟨rfl, hh0, s_q4⟩ := hq
    rw [hh0] at s_q4 ⊢
    simp only [Option.toList_some, List.cons_append, List.nil_append]
    refine pw_zeq (pc := 21) (t := 54) d41_21 (by decide) (fun c5 => ?_) (fun c5 => ?_)
    · rw [if_pos c5] at hm
      refine pw_t (pc := 54) d41_54 rfl rfl rfl rfl ?_
      refine pw_go (pc := 57) (t := 2) d41_57 (by decide) ?_
      obtain rfl := Option.some.inj hm
      exact hE s_h  
    · rw [if_neg c5] at hm
      refine pw_l (pc := 24) d41_24 rfl rfl rfl ?_
      obtain ⟨y6, e_y6, hm⟩ := ob_x hm
      have f_y6 := gO_x e_y6
      refine pw_gr (pc := 25) d41_25 (k41_61 b) (sho s_h f_l0) f0_4 f_y6.1 ?_
      obtain ⟨y7, e_y7, hm⟩ := ob_x hm
      have f_y7 := gO_x e_y7
      refine pw_gr (pc := 28) d41_28 (k41_87 b) (sho s_h f_y6.2) f9_1 f_y7.1 ?_
      refine pw_l (pc := 31) d41_31 rfl rfl rfl ?_
      refine pw_l (pc := 32) d41_32 rfl rfl rfl ?_
      refine pw_l (pc := 33) d41_33 rfl rfl rfl ?_
      obtain ⟨y8, e_y8, hm⟩ := ob_x hm
      have f_y8 := gO_x e_y8
      refine pw_gr (pc := 34) d41_34 (k41_61 b) (sho s_h f_l0) f0_4 f_y8.1 ?_
      obtain ⟨y9, e_y9, hm⟩ := ob_x hm
      have f_y9 := gO_x e_y9
      refine pw_gr (pc := 37) d41_37 (k41_83 b) (sho s_h f_y8.2) f9_0 f_y9.1 ?_
      refine pw_l (pc := 40) d41_40 rfl rfl rfl ?_
      obtain ⟨y10, e_y10, hm⟩ := ob_x hm
      have f_y10 := gO_x e_y10
      refine pw_gr (pc := 41) d41_41 (k41_61 b) (sho s_h f_l0) f0_4 f_y10.1 ?_
      obtain ⟨y11, e_y11, hm⟩ := ob_x hm
      have f_y11 := gO_x e_y11
      refine pw_gr (pc := 44) d41_44 (k41_87 b) (sho s_h f_y10.2) f9_1 f_y11.1 ?_
      refine pw_l (pc := 47) d41_47 rfl rfl rfl ?_
      obtain ⟨q12, e_q12, hm⟩ := ob_x hm
      refine pw_v (pc := 48) (k := l1) (by omega) d41_48 (k41_327 b) (by decide) m102 (by decide) rfl (sho s_h f_l1) (Nat.le_of_ble_eq_true rfl) (Nat.le_of_ble_eq_true rfl) rfl rfl (T_u_wakes b L xs (d - 1) (by omega) h s_h l1 y9 y11 l2 f_l1 f_y9.2 f_y11.2 e_q12) (fun v0 h0 hq => ?_)
      obtain ⟨rfl, hh0, s_q12⟩ := hq
      rw [hh0] at s_q12 ⊢
      simp only [Option.toList_some, List.cons_append, List.nil_append]
      obtain ⟨q13, e_q13, hm⟩ := ob_x hm
      refine pw_v (pc := 51) (k := y7) (by omega) d41_51 (k41_190 b) (by decide) m77 (by decide) rfl (sho s_q12 f_y7.2) (Nat.le_of_ble_eq_true rfl) (Nat.le_of_ble_eq_true rfl) rfl rfl (T_n_rouse b L xs (d - 1) (by omega) q12.2 s_q12 y7 l2 q12.1 f_y7.2 e_q13) (fun v0 h0 hq => ?_)
      obtain ⟨rfl, hh0, s_q13⟩ := hq
      rw [hh0] at s_q13 ⊢
      simp only [Option.toList_none, List.nil_append]
      refine pw_t (pc := 54) d41_54 rfl rfl rfl rfl ?_
      refine pw_go (pc := 57) (t := 2) d41_57 (by decide) ?_
      obtain rfl := Option.some.inj hm
      exact hE s_q13  
noncomputable def x_rouseAll (l0 : Nat) (l1 : Nat) (h : pm_H) : Option pm_H := (wh (fun s : (Int32 × pm_H) => x_rouseAll_2 l0 l1 s.1 s.2) ((Int32.ofInt 0), h)).bind fun q1 => some q1
theorem T_x_rouseAll (b : Bool) (L : Nat) (xs : Nat → Int32) (d : Nat) (hd : 5 ≤ d) (h : pm_H) (s_h : h.1 = tb_SH) (l0 : Nat) (l1 : Nat) (f_l0 : mi_o l0 0 = true) (f_l1 : mi_o l1 6 = true) {r : pm_H} (hm : x_rouseAll l0 l1 h = some r) : PC b L xs d 41 [(Value.ref l0), (Value.ref l1)] h (fun (v0 : Option Value) (h2 : pm_H) => v0 = none ∧ h2 = r ∧ h2.1 = tb_SH) := by
  refine pc_in e41 (ls0 := [(Value.ref l0), (Value.ref l1), Value.retAddr 0]) rfl ?_
  have key : ∀ (Q : Option Value → pm_H → Prop), (r.1 = tb_SH → Q none r) → PW b L xs d 41 0 0 0 [(Value.ref l0), (Value.ref l1), Value.retAddr 0] [] h Q := by
    intro Q hE
    rw [x_rouseAll] at hm
    refine pw_s (pc := 0) d41_0 rfl rfl ?_
    refine pw_t (pc := 1) d41_1 rfl rfl rfl rfl ?_
    obtain ⟨q1, e_q1, hm⟩ := ob_x hm
    refine wh_ind e_q1 (fun s : (Int32 × pm_H) => s.2.1 = tb_SH → PW b L xs d 41 0 0 2 [(Value.ref l0), (Value.ref l1), (Value.int s.1)] [] s.2 Q) (fun s s2 hf ih sx => t_x_rouseAll_2 b L xs d hd s.2 sx l0 l1 s.1  f_l0 f_l1 hf ih) (fun s hf sx => t_x_rouseAll_2 b L xs d hd s.2 sx l0 l1 s.1  f_l0 f_l1 hf ?_) s_h  
    intro s_q1_0 w0 w1 w2
    obtain rfl := Option.some.inj hm
    refine pw_rv (pc := 60) d41_60 t41 ?_
    exact hE s_q1_0
  exact key _ (fun q => ⟨rfl, rfl, q⟩)
def E_x_meaning_67 (b : Bool) (L : Nat) (xs : Nat → Int32) (d : Nat) (Q : Option Value → pm_H → Prop) (l0 : Nat) (l3 : Int32) : ((Int32 × Int32 × pm_H) ⊕ (Int32 × pm_H)) → Prop
  | .inl s => s.2.2.1 = tb_SH → ∀ w1 w2 : Value, PW b L xs d 9 0 0 67 [(Value.ref l0), w1, w2, (Value.int l3), (Value.int s.1), (Value.int s.2.1)] [] s.2.2 Q
  | .inr e => e.2.1 = tb_SH → ∀ w0 w1 w2 w3 w5 : Value, PW b L xs d 9 0 0 94 [w0, w1, w2, w3, (Value.int e.1), w5] [] e.2 Q
def E_x_meaning_13 (b : Bool) (L : Nat) (xs : Nat → Int32) (d : Nat) (Q : Option Value → pm_H → Prop) (l0 : Nat) (l2 : Int32) : ((Int32 × pm_H) ⊕ pm_H ⊕ pm_H) → Prop
  | .inl s => s.2.1 = tb_SH → ∀ w1 w4 w5 : Value, PW b L xs d 9 0 0 13 [(Value.ref l0), w1, (Value.int l2), (Value.int s.1), w4, w5] [] s.2 Q
  | .inr (.inl e) => e.1 = tb_SH → ∀ w0 w1 w2 w3 w4 w5 : Value, PW b L xs d 9 0 0 37 [w0, w1, w2, w3, w4, w5] [] e Q
  | .inr (.inr e) => e.1 = tb_SH → ∀ w1 w3 w4 w5 : Value, PW b L xs d 9 0 0 45 [(Value.ref l0), w1, (Value.int l2), w3, w4, w5] [] e Q
noncomputable def x_meaning_67 (l0 : Nat) (l3 : Int32) (l4 : Int32) (l5 : Int32) (h : pm_H) : Option ((Int32 × Int32 × pm_H) ⊕ (Int32 × pm_H)) := if l3 ≤ l5 then (some (.inr (l4, h))) else ((gA h l0 8 .int).bind fun y2 => if mi_in l5 (mi_n y2) = true then some (.inl (((l4 * (Int8.ofInt 10).toInt32) + (h.2.1 y2 l5.toNatClampNeg)), (l5 + Int32.ofInt 1), h)) else none)
theorem t_x_meaning_67 (b : Bool) (L : Nat) (xs : Nat → Int32) (d : Nat) (hd : 3 ≤ d) {Q : Option Value → pm_H → Prop} (h : pm_H) (s_h : h.1 = tb_SH) (l0 : Nat) (l3 : Int32) (l4 : Int32) (l5 : Int32) (w1 : Value) (w2 : Value) (f_l0 : mi_o l0 0 = true) {r : ((Int32 × Int32 × pm_H) ⊕ (Int32 × pm_H))} (hm : x_meaning_67 l0 l3 l4 l5 h = some r) (hE : E_x_meaning_67 b L xs d Q l0 l3 r) : PW b L xs d 9 0 0 67 [(Value.ref l0), w1, w2, (Value.int l3), (Value.int l4), (Value.int l5)] [] h Q := by
  rw [x_meaning_67] at hm
  refine pw_l (pc := 67) d9_67 rfl rfl rfl ?_
  refine pw_l (pc := 69) d9_69 rfl rfl rfl ?_
  refine pw_ige (pc := 70) (t := 94) d9_70 (by decide) (fun c1 => ?_) (fun c1 => ?_)
  · rw [if_pos c1] at hm
    obtain rfl := Option.some.inj hm
    exact hE s_h  (Value.ref l0) w1 w2 (Value.int l3) (Value.int l5)
  · rw [if_neg c1] at hm
    refine pw_l (pc := 73) d9_73 rfl rfl rfl ?_
    refine pw_s (pc := 75) d9_75 rfl rfl ?_
    refine pw_s (pc := 77) d9_77 rfl rfl ?_
    refine pw_l (pc := 78) d9_78 rfl rfl rfl ?_
    obtain ⟨y2, e_y2, hm⟩ := ob_x hm
    have f_y2 := gA_x e_y2
    refine pw_gr (pc := 79) d9_79 (k9_52 b) (sho s_h f_l0) f0_8 f_y2.1 ?_
    refine pw_l (pc := 82) d9_82 rfl rfl rfl ?_
    obtain ⟨g3, hm⟩ := gd_x hm
    refine pw_ai (pc := 84) d9_84 (sha s_h f_y2.2) (mi_in_x g3) ?_
    refine pw_s (pc := 85) d9_85 rfl rfl ?_
    refine pw_t (pc := 86) d9_86 rfl rfl rfl rfl ?_
    refine pw_t (pc := 88) d9_88 rfl rfl rfl rfl ?_
    refine pw_go (pc := 91) (t := 67) d9_91 (by decide) ?_
    obtain rfl := Option.some.inj hm
    exact hE s_h  w1 w2
noncomputable def x_meaning_13 (l0 : Nat) (l2 : Int32) (l3 : Int32) (h : pm_H) : Option ((Int32 × pm_H) ⊕ pm_H ⊕ pm_H) := if l2 ≤ l3 then (some (.inr (.inr h))) else ((gO h l0 4 9).bind fun y2 => (gO h y2 0 7).bind fun y3 => (gA h l0 8 .int).bind fun y4 => if mi_in l3 (mi_n y4) = true then (s_hasWord y3 (h.2.1 y4 l3.toNatClampNeg) h).bind fun q6 => if ¬ q6 = 0 then (some (.inl ((l3 + Int32.ofInt 1), h))) else (some (.inr (.inl h))) else none)
theorem t_x_meaning_13 (b : Bool) (L : Nat) (xs : Nat → Int32) (d : Nat) (hd : 3 ≤ d) {Q : Option Value → pm_H → Prop} (h : pm_H) (s_h : h.1 = tb_SH) (l0 : Nat) (l2 : Int32) (l3 : Int32) (w1 : Value) (w4 : Value) (w5 : Value) (f_l0 : mi_o l0 0 = true) {r : ((Int32 × pm_H) ⊕ pm_H ⊕ pm_H)} (hm : x_meaning_13 l0 l2 l3 h = some r) (hE : E_x_meaning_13 b L xs d Q l0 l2 r) : PW b L xs d 9 0 0 13 [(Value.ref l0), w1, (Value.int l2), (Value.int l3), w4, w5] [] h Q := by
  rw [x_meaning_13] at hm
  refine pw_l (pc := 13) d9_13 rfl rfl rfl ?_
  refine pw_l (pc := 14) d9_14 rfl rfl rfl ?_
  refine pw_ige (pc := 15) (t := 45) d9_15 (by decide) (fun c1 => ?_) (fun c1 => ?_)
  · rw [if_pos c1] at hm
    obtain rfl := Option.some.inj hm
    exact hE s_h  w1 (Value.int l3) w4 w5
  · rw [if_neg c1] at hm
    refine pw_l (pc := 18) d9_18 rfl rfl rfl ?_
    obtain ⟨y2, e_y2, hm⟩ := ob_x hm
    have f_y2 := gO_x e_y2
    refine pw_gr (pc := 19) d9_19 (k9_61 b) (sho s_h f_l0) f0_4 f_y2.1 ?_
    obtain ⟨y3, e_y3, hm⟩ := ob_x hm
    have f_y3 := gO_x e_y3
    refine pw_gr (pc := 22) d9_22 (k9_83 b) (sho s_h f_y2.2) f9_0 f_y3.1 ?_
    refine pw_l (pc := 25) d9_25 rfl rfl rfl ?_
    obtain ⟨y4, e_y4, hm⟩ := ob_x hm
    have f_y4 := gA_x e_y4
    refine pw_gr (pc := 26) d9_26 (k9_52 b) (sho s_h f_l0) f0_8 f_y4.1 ?_
    refine pw_l (pc := 29) d9_29 rfl rfl rfl ?_
    obtain ⟨g5, hm⟩ := gd_x hm
    refine pw_ai (pc := 30) d9_30 (sha s_h f_y4.2) (mi_in_x g5) ?_
    obtain ⟨q6, e_q6, hm⟩ := ob_x hm
    refine pw_v (pc := 31) (k := y3) (by omega) d9_31 (k9_150 b) (by decide) m111 (by decide) rfl (sho s_h f_y3.2) (Nat.le_of_ble_eq_true rfl) (Nat.le_of_ble_eq_true rfl) rfl rfl (T_s_hasWord b L xs (d - 1) (by omega) h s_h y3 (h.2.1 y4 l3.toNatClampNeg) f_y3.2 e_q6) (fun v0 h0 hq => ?_)
    obtain ⟨rfl, hh0, s_q6⟩ := hq
    rw [hh0] at s_q6 ⊢
    simp only [Option.toList_some, List.cons_append, List.nil_append]
    refine pw_zne (pc := 34) (t := 39) d9_34 (by decide) (fun c7 => ?_) (fun c7 => ?_)
    · rw [if_pos c7] at hm
      refine pw_t (pc := 39) d9_39 rfl rfl rfl rfl ?_
      refine pw_go (pc := 42) (t := 13) d9_42 (by decide) ?_
      obtain rfl := Option.some.inj hm
      exact hE s_h  w1 w4 w5
    · rw [if_neg c7] at hm
      obtain rfl := Option.some.inj hm
      exact hE s_h  (Value.ref l0) w1 (Value.int l2) (Value.int l3) w4 w5
noncomputable def x_meaning (l0 : Nat) (l1 : Int32) (l2 : Int32) (h : pm_H) : Option (Int32 × pm_H) := (x_split l0 l1 l2 h).bind fun q1 => if ¬ q1.1 = 0 then ((wh (fun s : (Int32 × pm_H) => x_meaning_13 l0 l2 s.1 s.2) ((Int32.ofInt 0), q1.2)).bind fun q3 => (match q3 with | (.inl eq3_0) => some ((Int32.ofInt (-1)), eq3_0) | (.inr eq3_1) => (gO eq3_1 l0 4 9).bind fun y4 => (gO eq3_1 y4 0 7).bind fun y5 => (gA eq3_1 l0 8 .int).bind fun y6 => (s_settle y5 y6 l2 eq3_1).bind fun q7 => (wh (fun s : (Int32 × Int32 × pm_H) => x_meaning_67 l0 q7.1 s.1 s.2.1 s.2.2) ((Int32.ofInt 1), (Int32.ofInt 0), q7.2)).bind fun q8 => some (q8.1, q8.2))) else (some ((Int32.ofInt (-1)), q1.2))
theorem T_x_meaning (b : Bool) (L : Nat) (xs : Nat → Int32) (d : Nat) (hd : 3 ≤ d) (h : pm_H) (s_h : h.1 = tb_SH) (l0 : Nat) (l1 : Int32) (l2 : Int32) (f_l0 : mi_o l0 0 = true) {r : (Int32 × pm_H)} (hm : x_meaning l0 l1 l2 h = some r) : PC b L xs d 9 [(Value.ref l0), (Value.int l1), (Value.int l2)] h (fun (v0 : Option Value) (h2 : pm_H) => v0 = (some (Value.int r.1)) ∧ h2 = r.2 ∧ h2.1 = tb_SH) := by
  refine pc_in e9 (ls0 := [(Value.ref l0), (Value.int l1), (Value.int l2), Value.retAddr 0, Value.retAddr 0, Value.retAddr 0]) rfl ?_
  have key : ∀ (Q : Option Value → pm_H → Prop), (r.2.1 = tb_SH → Q (some (Value.int r.1)) r.2) → PW b L xs d 9 0 0 0 [(Value.ref l0), (Value.int l1), (Value.int l2), Value.retAddr 0, Value.retAddr 0, Value.retAddr 0] [] h Q := by
    intro Q hE
    rw [x_meaning] at hm
    refine pw_l (pc := 0) d9_0 rfl rfl rfl ?_
    refine pw_l (pc := 1) d9_1 rfl rfl rfl ?_
    refine pw_l (pc := 2) d9_2 rfl rfl rfl ?_
    obtain ⟨q1, e_q1, hm⟩ := ob_x hm
    refine pw_v (pc := 3) (k := l0) (by omega) d9_3 (k9_156 b) (by decide) m38 (by decide) rfl (sho s_h f_l0) (Nat.le_of_ble_eq_true rfl) (Nat.le_of_ble_eq_true rfl) rfl rfl (T_x_split b L xs (d - 1) (by omega) h s_h l0 l1 l2 f_l0 e_q1) (fun v0 h0 hq => ?_)
    obtain ⟨rfl, hh0, s_q1⟩ := hq
    rw [hh0] at s_q1 ⊢
    simp only [Option.toList_some, List.cons_append, List.nil_append]
    refine pw_zne (pc := 6) (t := 11) d9_6 (by decide) (fun c2 => ?_) (fun c2 => ?_)
    · rw [if_pos c2] at hm
      refine pw_s (pc := 11) d9_11 rfl rfl ?_
      refine pw_t (pc := 12) d9_12 rfl rfl rfl rfl ?_
      obtain ⟨q3, e_q3, hm⟩ := ob_x hm
      refine wh_ind e_q3 (fun s : (Int32 × pm_H) => s.2.1 = tb_SH → ∀ w1 w4 w5 : Value, PW b L xs d 9 0 0 13 [(Value.ref l0), w1, (Value.int l2), (Value.int s.1), w4, w5] [] s.2 Q) (fun s s2 hf ih sx w1 w4 w5 => t_x_meaning_13 b L xs d hd s.2 sx l0 l2 s.1 w1 w4 w5 f_l0 hf ih) (fun s hf sx w1 w4 w5 => t_x_meaning_13 b L xs d hd s.2 sx l0 l2 s.1 w1 w4 w5 f_l0 hf ?_) s_q1  (Value.int l1) (Value.retAddr 0) (Value.retAddr 0)
      rcases q3 with eq3_0 | eq3_1
      · dsimp only at hm
        intro s_q3_0 w0 w1 w2 w3 w4 w5
        refine pw_s (pc := 37) d9_37 rfl rfl ?_
        obtain rfl := Option.some.inj hm
        refine pw_ri (pc := 38) d9_38 t9 rfl ?_
        exact hE s_q3_0
      · dsimp only at hm
        intro s_q3_1 w1 w3 w4 w5
        refine pw_l (pc := 45) d9_45 rfl rfl rfl ?_
        obtain ⟨y4, e_y4, hm⟩ := ob_x hm
        have f_y4 := gO_x e_y4
        refine pw_gr (pc := 46) d9_46 (k9_61 b) (sho s_q3_1 f_l0) f0_4 f_y4.1 ?_
        obtain ⟨y5, e_y5, hm⟩ := ob_x hm
        have f_y5 := gO_x e_y5
        refine pw_gr (pc := 49) d9_49 (k9_83 b) (sho s_q3_1 f_y4.2) f9_0 f_y5.1 ?_
        refine pw_l (pc := 52) d9_52 rfl rfl rfl ?_
        obtain ⟨y6, e_y6, hm⟩ := ob_x hm
        have f_y6 := gA_x e_y6
        refine pw_gr (pc := 53) d9_53 (k9_52 b) (sho s_q3_1 f_l0) f0_8 f_y6.1 ?_
        refine pw_l (pc := 56) d9_56 rfl rfl rfl ?_
        obtain ⟨q7, e_q7, hm⟩ := ob_x hm
        refine pw_v (pc := 57) (k := y5) (by omega) d9_57 (k9_160 b) (by decide) m118 (by decide) rfl (sho s_q3_1 f_y5.2) (Nat.le_of_ble_eq_true rfl) (Nat.le_of_ble_eq_true rfl) rfl rfl (T_s_settle b L xs (d - 1) (by omega) eq3_1 s_q3_1 y5 y6 l2 f_y5.2 f_y6.2 e_q7) (fun v0 h0 hq => ?_)
        obtain ⟨rfl, hh0, s_q7⟩ := hq
        rw [hh0] at s_q7 ⊢
        simp only [Option.toList_some, List.cons_append, List.nil_append]
        refine pw_t (pc := 60) d9_60 rfl rfl rfl rfl ?_
        refine pw_s (pc := 61) d9_61 rfl rfl ?_
        refine pw_t (pc := 62) d9_62 rfl rfl rfl rfl ?_
        refine pw_s (pc := 64) d9_64 rfl rfl ?_
        refine pw_t (pc := 65) d9_65 rfl rfl rfl rfl ?_
        obtain ⟨q8, e_q8, hm⟩ := ob_x hm
        refine wh_ind e_q8 (fun s : (Int32 × Int32 × pm_H) => s.2.2.1 = tb_SH → ∀ w1 w2 : Value, PW b L xs d 9 0 0 67 [(Value.ref l0), w1, w2, (Value.int q7.1), (Value.int s.1), (Value.int s.2.1)] [] s.2.2 Q) (fun s s2 hf ih sx w1 w2 => t_x_meaning_67 b L xs d hd s.2.2 sx l0 q7.1 s.1 s.2.1 w1 w2 f_l0 hf ih) (fun s hf sx w1 w2 => t_x_meaning_67 b L xs d hd s.2.2 sx l0 q7.1 s.1 s.2.1 w1 w2 f_l0 hf ?_) s_q7  w1 (Value.int l2)
        intro s_q8_0 w0 w1 w2 w3 w5
        refine pw_l (pc := 94) d9_94 rfl rfl rfl ?_
        obtain rfl := Option.some.inj hm
        refine pw_ri (pc := 96) d9_96 t9 rfl ?_
        exact hE s_q8_0
    · rw [if_neg c2] at hm
      refine pw_s (pc := 9) d9_9 rfl rfl ?_
      obtain rfl := Option.some.inj hm
      refine pw_ri (pc := 10) d9_10 t9 rfl ?_
      exact hE s_q1
  exact key _ (fun q => ⟨rfl, rfl, q⟩)
noncomputable def x_say (l0 : Nat) (l1 : Int32) (l2 : Int32) (h : pm_H) : Option (Int32 × pm_H) := (x_menOf l0 l1 l2 h).bind fun q1 => if q1.1 = (Int32.ofInt (-1)) then (some ((Int32.ofInt (-1)), q1.2)) else ((gO q1.2 l0 4 9).bind fun y3 => (gO q1.2 y3 1 3).bind fun y4 => (gO q1.2 l0 4 9).bind fun y5 => (gO q1.2 y5 0 7).bind fun y6 => (n_heard y4 y6 q1.2).bind fun q7 => if (q1.1 &&& (q7 ^^^ (Int32.ofInt (-1)))) = 0 then ((gO q1.2 l0 6 4).bind fun y9 => (gO q1.2 l0 4 9).bind fun y10 => (gO q1.2 y10 1 3).bind fun y11 => (p_keep y9 y11 q1.2).bind fun q12 => (x_wordsOf l0 l2 q1.1 q12).bind fun q13 => (gO q13.2 l0 4 9).bind fun y14 => (gO q13.2 y14 0 7).bind fun y15 => (gA q13.2 l0 8 .int).bind fun y16 => (gO q13.2 l0 4 9).bind fun y17 => (gO q13.2 y17 0 7).bind fun y18 => (gA q13.2 l0 8 .int).bind fun y19 => (s_settle y18 y19 l2 q13.2).bind fun q20 => (s_orderOf y15 y16 q20.1 q20.2).bind fun q21 => some (q21, q20.2)) else (some ((Int32.ofInt (-1)), q1.2)))
theorem T_x_say (b : Bool) (L : Nat) (xs : Nat → Int32) (d : Nat) (hd : 4 ≤ d) (h : pm_H) (s_h : h.1 = tb_SH) (l0 : Nat) (l1 : Int32) (l2 : Int32) (f_l0 : mi_o l0 0 = true) {r : (Int32 × pm_H)} (hm : x_say l0 l1 l2 h = some r) : PC b L xs d 10 [(Value.ref l0), (Value.int l1), (Value.int l2)] h (fun (v0 : Option Value) (h2 : pm_H) => v0 = (some (Value.int r.1)) ∧ h2 = r.2 ∧ h2.1 = tb_SH) := by
  refine pc_in e10 (ls0 := [(Value.ref l0), (Value.int l1), (Value.int l2), Value.retAddr 0]) rfl ?_
  have key : ∀ (Q : Option Value → pm_H → Prop), (r.2.1 = tb_SH → Q (some (Value.int r.1)) r.2) → PW b L xs d 10 0 0 0 [(Value.ref l0), (Value.int l1), (Value.int l2), Value.retAddr 0] [] h Q := by
    intro Q hE
    rw [x_say] at hm
    refine pw_l (pc := 0) d10_0 rfl rfl rfl ?_
    refine pw_l (pc := 1) d10_1 rfl rfl rfl ?_
    refine pw_l (pc := 2) d10_2 rfl rfl rfl ?_
    obtain ⟨q1, e_q1, hm⟩ := ob_x hm
    refine pw_v (pc := 3) (k := l0) (by omega) d10_3 (k10_164 b) (by decide) m39 (by decide) rfl (sho s_h f_l0) (Nat.le_of_ble_eq_true rfl) (Nat.le_of_ble_eq_true rfl) rfl rfl (T_x_menOf b L xs (d - 1) (by omega) h s_h l0 l1 l2 f_l0 e_q1) (fun v0 h0 hq => ?_)
    obtain ⟨rfl, hh0, s_q1⟩ := hq
    rw [hh0] at s_q1 ⊢
    simp only [Option.toList_some, List.cons_append, List.nil_append]
    refine pw_t (pc := 6) d10_6 rfl rfl rfl rfl ?_
    refine pw_l (pc := 7) d10_7 rfl rfl rfl ?_
    refine pw_s (pc := 8) d10_8 rfl rfl ?_
    refine pw_ieq (pc := 9) (t := 36) d10_9 (by decide) (fun c2 => ?_) (fun c2 => ?_)
    · rw [if_pos c2] at hm
      refine pw_s (pc := 36) d10_36 rfl rfl ?_
      obtain rfl := Option.some.inj hm
      refine pw_ri (pc := 37) d10_37 t10 rfl ?_
      exact hE s_q1
    · rw [if_neg c2] at hm
      refine pw_l (pc := 12) d10_12 rfl rfl rfl ?_
      refine pw_l (pc := 13) d10_13 rfl rfl rfl ?_
      obtain ⟨y3, e_y3, hm⟩ := ob_x hm
      have f_y3 := gO_x e_y3
      refine pw_gr (pc := 14) d10_14 (k10_61 b) (sho s_q1 f_l0) f0_4 f_y3.1 ?_
      obtain ⟨y4, e_y4, hm⟩ := ob_x hm
      have f_y4 := gO_x e_y4
      refine pw_gr (pc := 17) d10_17 (k10_87 b) (sho s_q1 f_y3.2) f9_1 f_y4.1 ?_
      refine pw_l (pc := 20) d10_20 rfl rfl rfl ?_
      obtain ⟨y5, e_y5, hm⟩ := ob_x hm
      have f_y5 := gO_x e_y5
      refine pw_gr (pc := 21) d10_21 (k10_61 b) (sho s_q1 f_l0) f0_4 f_y5.1 ?_
      obtain ⟨y6, e_y6, hm⟩ := ob_x hm
      have f_y6 := gO_x e_y6
      refine pw_gr (pc := 24) d10_24 (k10_83 b) (sho s_q1 f_y5.2) f9_0 f_y6.1 ?_
      obtain ⟨q7, e_q7, hm⟩ := ob_x hm
      refine pw_v (pc := 27) (k := y4) (by omega) d10_27 (k10_135 b) (by decide) m81 (by decide) rfl (sho s_q1 f_y4.2) (Nat.le_of_ble_eq_true rfl) (Nat.le_of_ble_eq_true rfl) rfl rfl (T_n_heard b L xs (d - 1) (by omega) q1.2 s_q1 y4 y6 f_y4.2 f_y6.2 e_q7) (fun v0 h0 hq => ?_)
      obtain ⟨rfl, hh0, s_q7⟩ := hq
      rw [hh0] at s_q7 ⊢
      simp only [Option.toList_some, List.cons_append, List.nil_append]
      refine pw_s (pc := 30) d10_30 rfl rfl ?_
      refine pw_s (pc := 31) d10_31 rfl rfl ?_
      refine pw_s (pc := 32) d10_32 rfl rfl ?_
      refine pw_zeq (pc := 33) (t := 38) d10_33 (by decide) (fun c8 => ?_) (fun c8 => ?_)
      · rw [if_pos c8] at hm
        refine pw_l (pc := 38) d10_38 rfl rfl rfl ?_
        obtain ⟨y9, e_y9, hm⟩ := ob_x hm
        have f_y9 := gO_x e_y9
        refine pw_gr (pc := 39) d10_39 (k10_41 b) (sho s_q1 f_l0) f0_6 f_y9.1 ?_
        refine pw_l (pc := 42) d10_42 rfl rfl rfl ?_
        obtain ⟨y10, e_y10, hm⟩ := ob_x hm
        have f_y10 := gO_x e_y10
        refine pw_gr (pc := 43) d10_43 (k10_61 b) (sho s_q1 f_l0) f0_4 f_y10.1 ?_
        obtain ⟨y11, e_y11, hm⟩ := ob_x hm
        have f_y11 := gO_x e_y11
        refine pw_gr (pc := 46) d10_46 (k10_87 b) (sho s_q1 f_y10.2) f9_1 f_y11.1 ?_
        obtain ⟨q12, e_q12, hm⟩ := ob_x hm
        refine pw_v (pc := 49) (k := y9) (by omega) d10_49 (k10_167 b) (by decide) m84 (by decide) rfl (sho s_q1 f_y9.2) (Nat.le_of_ble_eq_true rfl) (Nat.le_of_ble_eq_true rfl) rfl rfl (T_p_keep b L xs (d - 1) (by omega) q1.2 s_q1 y9 y11 f_y9.2 f_y11.2 e_q12) (fun v0 h0 hq => ?_)
        obtain ⟨rfl, hh0, s_q12⟩ := hq
        rw [hh0] at s_q12 ⊢
        simp only [Option.toList_none, List.nil_append]
        refine pw_l (pc := 52) d10_52 rfl rfl rfl ?_
        refine pw_l (pc := 53) d10_53 rfl rfl rfl ?_
        refine pw_l (pc := 54) d10_54 rfl rfl rfl ?_
        obtain ⟨q13, e_q13, hm⟩ := ob_x hm
        refine pw_v (pc := 55) (k := l0) (by omega) d10_55 (k10_171 b) (by decide) m40 (by decide) rfl (sho s_q12 f_l0) (Nat.le_of_ble_eq_true rfl) (Nat.le_of_ble_eq_true rfl) rfl rfl (T_x_wordsOf b L xs (d - 1) (by omega) q12 s_q12 l0 l2 q1.1 f_l0 e_q13) (fun v0 h0 hq => ?_)
        obtain ⟨rfl, hh0, s_q13⟩ := hq
        rw [hh0] at s_q13 ⊢
        simp only [Option.toList_some, List.cons_append, List.nil_append]
        refine pw_s (pc := 58) d10_58 rfl rfl ?_
        refine pw_l (pc := 59) d10_59 rfl rfl rfl ?_
        obtain ⟨y14, e_y14, hm⟩ := ob_x hm
        have f_y14 := gO_x e_y14
        refine pw_gr (pc := 60) d10_60 (k10_61 b) (sho s_q13 f_l0) f0_4 f_y14.1 ?_
        obtain ⟨y15, e_y15, hm⟩ := ob_x hm
        have f_y15 := gO_x e_y15
        refine pw_gr (pc := 63) d10_63 (k10_83 b) (sho s_q13 f_y14.2) f9_0 f_y15.1 ?_
        refine pw_l (pc := 66) d10_66 rfl rfl rfl ?_
        obtain ⟨y16, e_y16, hm⟩ := ob_x hm
        have f_y16 := gA_x e_y16
        refine pw_gr (pc := 67) d10_67 (k10_52 b) (sho s_q13 f_l0) f0_8 f_y16.1 ?_
        refine pw_l (pc := 70) d10_70 rfl rfl rfl ?_
        obtain ⟨y17, e_y17, hm⟩ := ob_x hm
        have f_y17 := gO_x e_y17
        refine pw_gr (pc := 71) d10_71 (k10_61 b) (sho s_q13 f_l0) f0_4 f_y17.1 ?_
        obtain ⟨y18, e_y18, hm⟩ := ob_x hm
        have f_y18 := gO_x e_y18
        refine pw_gr (pc := 74) d10_74 (k10_83 b) (sho s_q13 f_y17.2) f9_0 f_y18.1 ?_
        refine pw_l (pc := 77) d10_77 rfl rfl rfl ?_
        obtain ⟨y19, e_y19, hm⟩ := ob_x hm
        have f_y19 := gA_x e_y19
        refine pw_gr (pc := 78) d10_78 (k10_52 b) (sho s_q13 f_l0) f0_8 f_y19.1 ?_
        refine pw_l (pc := 81) d10_81 rfl rfl rfl ?_
        obtain ⟨q20, e_q20, hm⟩ := ob_x hm
        refine pw_v (pc := 82) (k := y18) (by omega) d10_82 (k10_160 b) (by decide) m118 (by decide) rfl (sho s_q13 f_y18.2) (Nat.le_of_ble_eq_true rfl) (Nat.le_of_ble_eq_true rfl) rfl rfl (T_s_settle b L xs (d - 1) (by omega) q13.2 s_q13 y18 y19 l2 f_y18.2 f_y19.2 e_q20) (fun v0 h0 hq => ?_)
        obtain ⟨rfl, hh0, s_q20⟩ := hq
        rw [hh0] at s_q20 ⊢
        simp only [Option.toList_some, List.cons_append, List.nil_append]
        obtain ⟨q21, e_q21, hm⟩ := ob_x hm
        refine pw_v (pc := 85) (k := y15) (by omega) d10_85 (k10_174 b) (by decide) m120 (by decide) rfl (sho s_q20 f_y15.2) (Nat.le_of_ble_eq_true rfl) (Nat.le_of_ble_eq_true rfl) rfl rfl (T_s_orderOf b L xs (d - 1) (by omega) q20.2 s_q20 y15 y16 q20.1 f_y15.2 f_y16.2 e_q21) (fun v0 h0 hq => ?_)
        obtain ⟨rfl, hh0, s_q21⟩ := hq
        rw [hh0] at s_q21 ⊢
        simp only [Option.toList_some, List.cons_append, List.nil_append]
        obtain rfl := Option.some.inj hm
        refine pw_ri (pc := 88) d10_88 t10 rfl ?_
        exact hE s_q20
      · rw [if_neg c8] at hm
        refine pw_s (pc := 36) d10_36 rfl rfl ?_
        obtain rfl := Option.some.inj hm
        refine pw_ri (pc := 37) d10_37 t10 rfl ?_
        exact hE s_q1
  exact key _ (fun q => ⟨rfl, rfl, q⟩)
noncomputable def x_wake_31 (l0 : Nat) (l1 : Int32) (l2 : Int32) (z0 : Int32) (h : pm_H) : Option (Int32 × pm_H) := if ¬ z0 = l2 then ((gO h l0 6 4).bind fun y2 => (gO h l0 4 9).bind fun y3 => (gO h y3 1 3).bind fun y4 => (p_keep y2 y4 h).bind fun q5 => (gO q5 l0 4 9).bind fun y6 => (gO q5 y6 1 3).bind fun y7 => (n_rouse y7 l1 l2 q5).bind fun q8 => some ((Int32.ofInt 1), q8)) else (some ((Int32.ofInt 0), h))
theorem t_x_wake_31 (b : Bool) (L : Nat) (xs : Nat → Int32) (d : Nat) (hd : 3 ≤ d) {Q : Option Value → pm_H → Prop} (h : pm_H) (s_h : h.1 = tb_SH) (l0 : Nat) (l1 : Int32) (l2 : Int32) (z0 : Int32) (f_l0 : mi_o l0 0 = true) {r : (Int32 × pm_H)} (hm : x_wake_31 l0 l1 l2 z0 h = some r) (hE : r.2.1 = tb_SH → Q (some (Value.int r.1)) r.2) : PW b L xs d 12 0 0 31 [(Value.ref l0), (Value.int l1), (Value.int l2)] [(Value.int z0)] h Q := by
  rw [x_wake_31] at hm
  refine pw_l (pc := 31) d12_31 rfl rfl rfl ?_
  refine pw_ine (pc := 32) (t := 37) d12_32 (by decide) (fun c1 => ?_) (fun c1 => ?_)
  · rw [if_pos c1] at hm
    refine pw_l (pc := 37) d12_37 rfl rfl rfl ?_
    obtain ⟨y2, e_y2, hm⟩ := ob_x hm
    have f_y2 := gO_x e_y2
    refine pw_gr (pc := 38) d12_38 (k12_41 b) (sho s_h f_l0) f0_6 f_y2.1 ?_
    refine pw_l (pc := 41) d12_41 rfl rfl rfl ?_
    obtain ⟨y3, e_y3, hm⟩ := ob_x hm
    have f_y3 := gO_x e_y3
    refine pw_gr (pc := 42) d12_42 (k12_61 b) (sho s_h f_l0) f0_4 f_y3.1 ?_
    obtain ⟨y4, e_y4, hm⟩ := ob_x hm
    have f_y4 := gO_x e_y4
    refine pw_gr (pc := 45) d12_45 (k12_87 b) (sho s_h f_y3.2) f9_1 f_y4.1 ?_
    obtain ⟨q5, e_q5, hm⟩ := ob_x hm
    refine pw_v (pc := 48) (k := y2) (by omega) d12_48 (k12_167 b) (by decide) m84 (by decide) rfl (sho s_h f_y2.2) (Nat.le_of_ble_eq_true rfl) (Nat.le_of_ble_eq_true rfl) rfl rfl (T_p_keep b L xs (d - 1) (by omega) h s_h y2 y4 f_y2.2 f_y4.2 e_q5) (fun v0 h0 hq => ?_)
    obtain ⟨rfl, hh0, s_q5⟩ := hq
    rw [hh0] at s_q5 ⊢
    simp only [Option.toList_none, List.nil_append]
    refine pw_l (pc := 51) d12_51 rfl rfl rfl ?_
    obtain ⟨y6, e_y6, hm⟩ := ob_x hm
    have f_y6 := gO_x e_y6
    refine pw_gr (pc := 52) d12_52 (k12_61 b) (sho s_q5 f_l0) f0_4 f_y6.1 ?_
    obtain ⟨y7, e_y7, hm⟩ := ob_x hm
    have f_y7 := gO_x e_y7
    refine pw_gr (pc := 55) d12_55 (k12_87 b) (sho s_q5 f_y6.2) f9_1 f_y7.1 ?_
    refine pw_l (pc := 58) d12_58 rfl rfl rfl ?_
    refine pw_l (pc := 59) d12_59 rfl rfl rfl ?_
    obtain ⟨q8, e_q8, hm⟩ := ob_x hm
    refine pw_v (pc := 60) (k := y7) (by omega) d12_60 (k12_190 b) (by decide) m77 (by decide) rfl (sho s_q5 f_y7.2) (Nat.le_of_ble_eq_true rfl) (Nat.le_of_ble_eq_true rfl) rfl rfl (T_n_rouse b L xs (d - 1) (by omega) q5 s_q5 y7 l1 l2 f_y7.2 e_q8) (fun v0 h0 hq => ?_)
    obtain ⟨rfl, hh0, s_q8⟩ := hq
    rw [hh0] at s_q8 ⊢
    simp only [Option.toList_none, List.nil_append]
    refine pw_s (pc := 63) d12_63 rfl rfl ?_
    obtain rfl := Option.some.inj hm
    refine pw_ri (pc := 64) d12_64 t12 rfl ?_
    exact hE s_q8
  · rw [if_neg c1] at hm
    refine pw_s (pc := 35) d12_35 rfl rfl ?_
    obtain rfl := Option.some.inj hm
    refine pw_ri (pc := 36) d12_36 t12 rfl ?_
    exact hE s_h
noncomputable def x_wake (l0 : Nat) (l1 : Int32) (l2 : Int32) (h : pm_H) : Option (Int32 × pm_H) := (x_lives l0 l1 h).bind fun q1 => if q1 = 0 then (some ((Int32.ofInt 0), h)) else ((gO h l0 4 9).bind fun y3 => (gO h y3 1 3).bind fun y4 => (x_bit (h.2.1 y4 0) l1 h).bind fun q5 => if ¬ q5 = (Int32.ofInt 1) then (x_wake_31 l0 l1 l2 (Int32.ofInt 0) h) else (x_wake_31 l0 l1 l2 (Int32.ofInt 1) h))
theorem T_x_wake (b : Bool) (L : Nat) (xs : Nat → Int32) (d : Nat) (hd : 3 ≤ d) (h : pm_H) (s_h : h.1 = tb_SH) (l0 : Nat) (l1 : Int32) (l2 : Int32) (f_l0 : mi_o l0 0 = true) {r : (Int32 × pm_H)} (hm : x_wake l0 l1 l2 h = some r) : PC b L xs d 12 [(Value.ref l0), (Value.int l1), (Value.int l2)] h (fun (v0 : Option Value) (h2 : pm_H) => v0 = (some (Value.int r.1)) ∧ h2 = r.2 ∧ h2.1 = tb_SH) := by
  refine pc_in e12 (ls0 := [(Value.ref l0), (Value.int l1), (Value.int l2)]) rfl ?_
  have key : ∀ (Q : Option Value → pm_H → Prop), (r.2.1 = tb_SH → Q (some (Value.int r.1)) r.2) → PW b L xs d 12 0 0 0 [(Value.ref l0), (Value.int l1), (Value.int l2)] [] h Q := by
    intro Q hE
    rw [x_wake] at hm
    refine pw_l (pc := 0) d12_0 rfl rfl rfl ?_
    refine pw_l (pc := 1) d12_1 rfl rfl rfl ?_
    obtain ⟨q1, e_q1, hm⟩ := ob_x hm
    refine pw_v (pc := 2) (k := l0) (by omega) d12_2 (k12_187 b) (by decide) m35 (by decide) rfl (sho s_h f_l0) (Nat.le_of_ble_eq_true rfl) (Nat.le_of_ble_eq_true rfl) rfl rfl (T_x_lives b L xs (d - 1) (by omega) h s_h l0 l1 f_l0 e_q1) (fun v0 h0 hq => ?_)
    obtain ⟨rfl, hh0, s_q1⟩ := hq
    rw [hh0] at s_q1 ⊢
    simp only [Option.toList_some, List.cons_append, List.nil_append]
    refine pw_zeq (pc := 5) (t := 35) d12_5 (by decide) (fun c2 => ?_) (fun c2 => ?_)
    · rw [if_pos c2] at hm
      refine pw_s (pc := 35) d12_35 rfl rfl ?_
      obtain rfl := Option.some.inj hm
      refine pw_ri (pc := 36) d12_36 t12 rfl ?_
      exact hE s_h
    · rw [if_neg c2] at hm
      refine pw_l (pc := 8) d12_8 rfl rfl rfl ?_
      obtain ⟨y3, e_y3, hm⟩ := ob_x hm
      have f_y3 := gO_x e_y3
      refine pw_gr (pc := 9) d12_9 (k12_61 b) (sho s_h f_l0) f0_4 f_y3.1 ?_
      obtain ⟨y4, e_y4, hm⟩ := ob_x hm
      have f_y4 := gO_x e_y4
      refine pw_gr (pc := 12) d12_12 (k12_87 b) (sho s_h f_y3.2) f9_1 f_y4.1 ?_
      refine pw_gi (pc := 15) d12_15 (k12_119 b) (sho s_h f_y4.2) f3_0 ?_
      refine pw_l (pc := 18) d12_18 rfl rfl rfl ?_
      obtain ⟨q5, e_q5, hm⟩ := ob_x hm
      refine pw_u (pc := 19) (by omega) d12_19 (k12_122 b) (by decide) m34 (Nat.le_of_ble_eq_true rfl) (Nat.le_of_ble_eq_true rfl) (Nat.le_of_ble_eq_true rfl) rfl rfl (T_x_bit b L xs (d - 1) (by omega) h s_h (h.2.1 y4 0) l1  e_q5) (fun v0 h0 hq => ?_)
      obtain ⟨rfl, hh0, s_q5⟩ := hq
      rw [hh0] at s_q5 ⊢
      simp only [Option.toList_some, List.cons_append, List.nil_append]
      refine pw_s (pc := 22) d12_22 rfl rfl ?_
      refine pw_ine (pc := 23) (t := 30) d12_23 (by decide) (fun c6 => ?_) (fun c6 => ?_)
      · rw [if_pos c6] at hm
        refine pw_s (pc := 30) d12_30 rfl rfl ?_
        exact t_x_wake_31 b L xs d hd h s_h l0 l1 l2 (Int32.ofInt 0)  f_l0  hm hE
      · rw [if_neg c6] at hm
        refine pw_s (pc := 26) d12_26 rfl rfl ?_
        refine pw_go (pc := 27) (t := 31) d12_27 (by decide) ?_
        exact t_x_wake_31 b L xs d hd h s_h l0 l1 l2 (Int32.ofInt 1)  f_l0  hm hE
  exact key _ (fun q => ⟨rfl, rfl, q⟩)
noncomputable def x_sicken (l0 : Nat) (l1 : Int32) (l2 : Int32) (h : pm_H) : Option (Int32 × pm_H) := (x_lives l0 l1 h).bind fun q1 => if q1 = 0 then (some ((Int32.ofInt (-1)), h)) else (if l2 < 0 then (some ((Int32.ofInt (-1)), h)) else (if l2 ≤ (Int8.ofInt 9).toInt32 then ((gO h l0 6 4).bind fun y5 => (gO h l0 4 9).bind fun y6 => (gO h y6 1 3).bind fun y7 => (p_keep y5 y7 h).bind fun q8 => (gO q8 l0 4 9).bind fun y9 => (gO q8 y9 1 3).bind fun y10 => (gA q8 y10 5 .int).bind fun y11 => if mi_in l1 (mi_n y11) = true then (gO q8 l0 4 9).bind fun y13 => (gO q8 y13 1 3).bind fun y14 => (gA q8 y14 5 .int).bind fun y15 => if mi_in l1 (mi_n y15) = true then bd (pm_setI q8 y15 l1.toNatClampNeg l2) fun h17 => some ((q8.2.1 y11 l1.toNatClampNeg), h17) else none else none) else (some ((Int32.ofInt (-1)), h))))
theorem T_x_sicken (b : Bool) (L : Nat) (xs : Nat → Int32) (d : Nat) (hd : 3 ≤ d) (h : pm_H) (s_h : h.1 = tb_SH) (l0 : Nat) (l1 : Int32) (l2 : Int32) (f_l0 : mi_o l0 0 = true) {r : (Int32 × pm_H)} (hm : x_sicken l0 l1 l2 h = some r) : PC b L xs d 13 [(Value.ref l0), (Value.int l1), (Value.int l2)] h (fun (v0 : Option Value) (h2 : pm_H) => v0 = (some (Value.int r.1)) ∧ h2 = r.2 ∧ h2.1 = tb_SH) := by
  refine pc_in e13 (ls0 := [(Value.ref l0), (Value.int l1), (Value.int l2), Value.retAddr 0]) rfl ?_
  have key : ∀ (Q : Option Value → pm_H → Prop), (r.2.1 = tb_SH → Q (some (Value.int r.1)) r.2) → PW b L xs d 13 0 0 0 [(Value.ref l0), (Value.int l1), (Value.int l2), Value.retAddr 0] [] h Q := by
    intro Q hE
    rw [x_sicken] at hm
    refine pw_l (pc := 0) d13_0 rfl rfl rfl ?_
    refine pw_l (pc := 1) d13_1 rfl rfl rfl ?_
    obtain ⟨q1, e_q1, hm⟩ := ob_x hm
    refine pw_v (pc := 2) (k := l0) (by omega) d13_2 (k13_187 b) (by decide) m35 (by decide) rfl (sho s_h f_l0) (Nat.le_of_ble_eq_true rfl) (Nat.le_of_ble_eq_true rfl) rfl rfl (T_x_lives b L xs (d - 1) (by omega) h s_h l0 l1 f_l0 e_q1) (fun v0 h0 hq => ?_)
    obtain ⟨rfl, hh0, s_q1⟩ := hq
    rw [hh0] at s_q1 ⊢
    simp only [Option.toList_some, List.cons_append, List.nil_append]
    refine pw_zeq (pc := 5) (t := 18) d13_5 (by decide) (fun c2 => ?_) (fun c2 => ?_)
    · rw [if_pos c2] at hm
      refine pw_s (pc := 18) d13_18 rfl rfl ?_
      obtain rfl := Option.some.inj hm
      refine pw_ri (pc := 19) d13_19 t13 rfl ?_
      exact hE s_h
    · rw [if_neg c2] at hm
      refine pw_l (pc := 8) d13_8 rfl rfl rfl ?_
      refine pw_zlt (pc := 9) (t := 18) d13_9 (by decide) (fun c3 => ?_) (fun c3 => ?_)
      · rw [if_pos c3] at hm
        refine pw_s (pc := 18) d13_18 rfl rfl ?_
        obtain rfl := Option.some.inj hm
        refine pw_ri (pc := 19) d13_19 t13 rfl ?_
        exact hE s_h
      · rw [if_neg c3] at hm
        refine pw_l (pc := 12) d13_12 rfl rfl rfl ?_
        refine pw_s (pc := 13) d13_13 rfl rfl ?_
        refine pw_ile (pc := 15) (t := 20) d13_15 (by decide) (fun c4 => ?_) (fun c4 => ?_)
        · rw [if_pos c4] at hm
          refine pw_l (pc := 20) d13_20 rfl rfl rfl ?_
          obtain ⟨y5, e_y5, hm⟩ := ob_x hm
          have f_y5 := gO_x e_y5
          refine pw_gr (pc := 21) d13_21 (k13_41 b) (sho s_h f_l0) f0_6 f_y5.1 ?_
          refine pw_l (pc := 24) d13_24 rfl rfl rfl ?_
          obtain ⟨y6, e_y6, hm⟩ := ob_x hm
          have f_y6 := gO_x e_y6
          refine pw_gr (pc := 25) d13_25 (k13_61 b) (sho s_h f_l0) f0_4 f_y6.1 ?_
          obtain ⟨y7, e_y7, hm⟩ := ob_x hm
          have f_y7 := gO_x e_y7
          refine pw_gr (pc := 28) d13_28 (k13_87 b) (sho s_h f_y6.2) f9_1 f_y7.1 ?_
          obtain ⟨q8, e_q8, hm⟩ := ob_x hm
          refine pw_v (pc := 31) (k := y5) (by omega) d13_31 (k13_167 b) (by decide) m84 (by decide) rfl (sho s_h f_y5.2) (Nat.le_of_ble_eq_true rfl) (Nat.le_of_ble_eq_true rfl) rfl rfl (T_p_keep b L xs (d - 1) (by omega) h s_h y5 y7 f_y5.2 f_y7.2 e_q8) (fun v0 h0 hq => ?_)
          obtain ⟨rfl, hh0, s_q8⟩ := hq
          rw [hh0] at s_q8 ⊢
          simp only [Option.toList_none, List.nil_append]
          refine pw_l (pc := 34) d13_34 rfl rfl rfl ?_
          obtain ⟨y9, e_y9, hm⟩ := ob_x hm
          have f_y9 := gO_x e_y9
          refine pw_gr (pc := 35) d13_35 (k13_61 b) (sho s_q8 f_l0) f0_4 f_y9.1 ?_
          obtain ⟨y10, e_y10, hm⟩ := ob_x hm
          have f_y10 := gO_x e_y10
          refine pw_gr (pc := 38) d13_38 (k13_87 b) (sho s_q8 f_y9.2) f9_1 f_y10.1 ?_
          obtain ⟨y11, e_y11, hm⟩ := ob_x hm
          have f_y11 := gA_x e_y11
          refine pw_gr (pc := 41) d13_41 (k13_126 b) (sho s_q8 f_y10.2) f3_5 f_y11.1 ?_
          refine pw_l (pc := 44) d13_44 rfl rfl rfl ?_
          obtain ⟨g12, hm⟩ := gd_x hm
          refine pw_ai (pc := 45) d13_45 (sha s_q8 f_y11.2) (mi_in_x g12) ?_
          refine pw_t (pc := 46) d13_46 rfl rfl rfl rfl ?_
          refine pw_l (pc := 47) d13_47 rfl rfl rfl ?_
          obtain ⟨y13, e_y13, hm⟩ := ob_x hm
          have f_y13 := gO_x e_y13
          refine pw_gr (pc := 48) d13_48 (k13_61 b) (sho s_q8 f_l0) f0_4 f_y13.1 ?_
          obtain ⟨y14, e_y14, hm⟩ := ob_x hm
          have f_y14 := gO_x e_y14
          refine pw_gr (pc := 51) d13_51 (k13_87 b) (sho s_q8 f_y13.2) f9_1 f_y14.1 ?_
          obtain ⟨y15, e_y15, hm⟩ := ob_x hm
          have f_y15 := gA_x e_y15
          refine pw_gr (pc := 54) d13_54 (k13_126 b) (sho s_q8 f_y14.2) f3_5 f_y15.1 ?_
          refine pw_l (pc := 57) d13_57 rfl rfl rfl ?_
          refine pw_l (pc := 58) d13_58 rfl rfl rfl ?_
          obtain ⟨g16, hm⟩ := gd_x hm
          refine pw_si (pc := 59) d13_59 (sha s_q8 f_y15.2) (mi_in_x g16) ?_
          obtain ⟨h17, e_h17, hm⟩ := bd_x hm
          rw [e_h17]
          have s_h17 : h17.1 = tb_SH := by rw [← e_h17]; exact s_q8
          refine pw_l (pc := 60) d13_60 rfl rfl rfl ?_
          obtain rfl := Option.some.inj hm
          refine pw_ri (pc := 61) d13_61 t13 rfl ?_
          exact hE s_h17
        · rw [if_neg c4] at hm
          refine pw_s (pc := 18) d13_18 rfl rfl ?_
          obtain rfl := Option.some.inj hm
          refine pw_ri (pc := 19) d13_19 t13 rfl ?_
          exact hE s_h
  exact key _ (fun q => ⟨rfl, rfl, q⟩)
noncomputable def x_die (l0 : Nat) (l1 : Int32) (h : pm_H) : Option (Int32 × pm_H) := (x_lives l0 l1 h).bind fun q1 => if ¬ q1 = 0 then ((gO h l0 6 4).bind fun y3 => (gO h l0 4 9).bind fun y4 => (gO h y4 1 3).bind fun y5 => (p_keep y3 y5 h).bind fun q6 => (gO q6 l0 4 9).bind fun y7 => (gO q6 y7 1 3).bind fun y8 => bd (pm_setI q6 y8 1 ((q6.2.1 y8 1) ||| ((Int32.ofInt 1) <<< (l1 &&& 31)))) fun h9 => (gO h9 l0 4 9).bind fun y10 => (gO h9 y10 1 3).bind fun y11 => bd (pm_setI h9 y11 0 ((h9.2.1 y11 0) &&& (((Int32.ofInt 1) <<< (l1 &&& 31)) ^^^ (Int32.ofInt (-1))))) fun h12 => (gO h12 l0 4 9).bind fun y13 => (gO h12 y13 1 3).bind fun y14 => (gO h12 l0 4 9).bind fun y15 => (gO h12 y15 0 7).bind fun y16 => (n_living y14 y16 h12).bind fun q17 => (i_bitCount q17 h12).bind fun q18 => some (q18, h12)) else (some ((Int32.ofInt (-1)), h))
theorem T_x_die (b : Bool) (L : Nat) (xs : Nat → Int32) (d : Nat) (hd : 3 ≤ d) (h : pm_H) (s_h : h.1 = tb_SH) (l0 : Nat) (l1 : Int32) (f_l0 : mi_o l0 0 = true) {r : (Int32 × pm_H)} (hm : x_die l0 l1 h = some r) : PC b L xs d 14 [(Value.ref l0), (Value.int l1)] h (fun (v0 : Option Value) (h2 : pm_H) => v0 = (some (Value.int r.1)) ∧ h2 = r.2 ∧ h2.1 = tb_SH) := by
  refine pc_in e14 (ls0 := [(Value.ref l0), (Value.int l1)]) rfl ?_
  have key : ∀ (Q : Option Value → pm_H → Prop), (r.2.1 = tb_SH → Q (some (Value.int r.1)) r.2) → PW b L xs d 14 0 0 0 [(Value.ref l0), (Value.int l1)] [] h Q := by
    intro Q hE
    rw [x_die] at hm
    refine pw_l (pc := 0) d14_0 rfl rfl rfl ?_
    refine pw_l (pc := 1) d14_1 rfl rfl rfl ?_
    obtain ⟨q1, e_q1, hm⟩ := ob_x hm
    refine pw_v (pc := 2) (k := l0) (by omega) d14_2 (k14_187 b) (by decide) m35 (by decide) rfl (sho s_h f_l0) (Nat.le_of_ble_eq_true rfl) (Nat.le_of_ble_eq_true rfl) rfl rfl (T_x_lives b L xs (d - 1) (by omega) h s_h l0 l1 f_l0 e_q1) (fun v0 h0 hq => ?_)
    obtain ⟨rfl, hh0, s_q1⟩ := hq
    rw [hh0] at s_q1 ⊢
    simp only [Option.toList_some, List.cons_append, List.nil_append]
    refine pw_zne (pc := 5) (t := 10) d14_5 (by decide) (fun c2 => ?_) (fun c2 => ?_)
    · rw [if_pos c2] at hm
      refine pw_l (pc := 10) d14_10 rfl rfl rfl ?_
      obtain ⟨y3, e_y3, hm⟩ := ob_x hm
      have f_y3 := gO_x e_y3
      refine pw_gr (pc := 11) d14_11 (k14_41 b) (sho s_h f_l0) f0_6 f_y3.1 ?_
      refine pw_l (pc := 14) d14_14 rfl rfl rfl ?_
      obtain ⟨y4, e_y4, hm⟩ := ob_x hm
      have f_y4 := gO_x e_y4
      refine pw_gr (pc := 15) d14_15 (k14_61 b) (sho s_h f_l0) f0_4 f_y4.1 ?_
      obtain ⟨y5, e_y5, hm⟩ := ob_x hm
      have f_y5 := gO_x e_y5
      refine pw_gr (pc := 18) d14_18 (k14_87 b) (sho s_h f_y4.2) f9_1 f_y5.1 ?_
      obtain ⟨q6, e_q6, hm⟩ := ob_x hm
      refine pw_v (pc := 21) (k := y3) (by omega) d14_21 (k14_167 b) (by decide) m84 (by decide) rfl (sho s_h f_y3.2) (Nat.le_of_ble_eq_true rfl) (Nat.le_of_ble_eq_true rfl) rfl rfl (T_p_keep b L xs (d - 1) (by omega) h s_h y3 y5 f_y3.2 f_y5.2 e_q6) (fun v0 h0 hq => ?_)
      obtain ⟨rfl, hh0, s_q6⟩ := hq
      rw [hh0] at s_q6 ⊢
      simp only [Option.toList_none, List.nil_append]
      refine pw_l (pc := 24) d14_24 rfl rfl rfl ?_
      obtain ⟨y7, e_y7, hm⟩ := ob_x hm
      have f_y7 := gO_x e_y7
      refine pw_gr (pc := 25) d14_25 (k14_61 b) (sho s_q6 f_l0) f0_4 f_y7.1 ?_
      obtain ⟨y8, e_y8, hm⟩ := ob_x hm
      have f_y8 := gO_x e_y8
      refine pw_gr (pc := 28) d14_28 (k14_87 b) (sho s_q6 f_y7.2) f9_1 f_y8.1 ?_
      refine pw_s (pc := 31) d14_31 rfl rfl ?_
      refine pw_gi (pc := 32) d14_32 (k14_129 b) (sho s_q6 f_y8.2) f3_1 ?_
      refine pw_s (pc := 35) d14_35 rfl rfl ?_
      refine pw_l (pc := 36) d14_36 rfl rfl rfl ?_
      refine pw_s (pc := 37) d14_37 rfl rfl ?_
      refine pw_s (pc := 38) d14_38 rfl rfl ?_
      refine pw_pi (pc := 39) d14_39 (k14_129 b) (sho s_q6 f_y8.2) p14_3_1 ?_
      obtain ⟨h9, e_h9, hm⟩ := bd_x hm
      rw [e_h9]
      have s_h9 : h9.1 = tb_SH := by rw [← e_h9]; exact s_q6
      refine pw_l (pc := 42) d14_42 rfl rfl rfl ?_
      obtain ⟨y10, e_y10, hm⟩ := ob_x hm
      have f_y10 := gO_x e_y10
      refine pw_gr (pc := 43) d14_43 (k14_61 b) (sho s_h9 f_l0) f0_4 f_y10.1 ?_
      obtain ⟨y11, e_y11, hm⟩ := ob_x hm
      have f_y11 := gO_x e_y11
      refine pw_gr (pc := 46) d14_46 (k14_87 b) (sho s_h9 f_y10.2) f9_1 f_y11.1 ?_
      refine pw_s (pc := 49) d14_49 rfl rfl ?_
      refine pw_gi (pc := 50) d14_50 (k14_119 b) (sho s_h9 f_y11.2) f3_0 ?_
      refine pw_s (pc := 53) d14_53 rfl rfl ?_
      refine pw_l (pc := 54) d14_54 rfl rfl rfl ?_
      refine pw_s (pc := 55) d14_55 rfl rfl ?_
      refine pw_s (pc := 56) d14_56 rfl rfl ?_
      refine pw_s (pc := 57) d14_57 rfl rfl ?_
      refine pw_s (pc := 58) d14_58 rfl rfl ?_
      refine pw_pi (pc := 59) d14_59 (k14_119 b) (sho s_h9 f_y11.2) p14_3_0 ?_
      obtain ⟨h12, e_h12, hm⟩ := bd_x hm
      rw [e_h12]
      have s_h12 : h12.1 = tb_SH := by rw [← e_h12]; exact s_h9
      refine pw_l (pc := 62) d14_62 rfl rfl rfl ?_
      obtain ⟨y13, e_y13, hm⟩ := ob_x hm
      have f_y13 := gO_x e_y13
      refine pw_gr (pc := 63) d14_63 (k14_61 b) (sho s_h12 f_l0) f0_4 f_y13.1 ?_
      obtain ⟨y14, e_y14, hm⟩ := ob_x hm
      have f_y14 := gO_x e_y14
      refine pw_gr (pc := 66) d14_66 (k14_87 b) (sho s_h12 f_y13.2) f9_1 f_y14.1 ?_
      refine pw_l (pc := 69) d14_69 rfl rfl rfl ?_
      obtain ⟨y15, e_y15, hm⟩ := ob_x hm
      have f_y15 := gO_x e_y15
      refine pw_gr (pc := 70) d14_70 (k14_61 b) (sho s_h12 f_l0) f0_4 f_y15.1 ?_
      obtain ⟨y16, e_y16, hm⟩ := ob_x hm
      have f_y16 := gO_x e_y16
      refine pw_gr (pc := 73) d14_73 (k14_83 b) (sho s_h12 f_y15.2) f9_0 f_y16.1 ?_
      obtain ⟨q17, e_q17, hm⟩ := ob_x hm
      refine pw_v (pc := 76) (k := y14) (by omega) d14_76 (k14_194 b) (by decide) m79 (by decide) rfl (sho s_h12 f_y14.2) (Nat.le_of_ble_eq_true rfl) (Nat.le_of_ble_eq_true rfl) rfl rfl (T_n_living b L xs (d - 1) (by omega) h12 s_h12 y14 y16 f_y14.2 f_y16.2 e_q17) (fun v0 h0 hq => ?_)
      obtain ⟨rfl, hh0, s_q17⟩ := hq
      rw [hh0] at s_q17 ⊢
      simp only [Option.toList_some, List.cons_append, List.nil_append]
      obtain ⟨q18, e_q18, hm⟩ := ob_x hm
      refine pw_u (pc := 79) (by omega) d14_79 (k14_197 b) (by decide) m259 (Nat.le_of_ble_eq_true rfl) (Nat.le_of_ble_eq_true rfl) (Nat.le_of_ble_eq_true rfl) rfl rfl (T_i_bitCount b L xs (d - 1) (by omega) h12 s_h12 q17  e_q18) (fun v0 h0 hq => ?_)
      obtain ⟨rfl, hh0, s_q18⟩ := hq
      rw [hh0] at s_q18 ⊢
      simp only [Option.toList_some, List.cons_append, List.nil_append]
      obtain rfl := Option.some.inj hm
      refine pw_ri (pc := 82) d14_82 t14 rfl ?_
      exact hE s_h12
    · rw [if_neg c2] at hm
      refine pw_s (pc := 8) d14_8 rfl rfl ?_
      obtain rfl := Option.some.inj hm
      refine pw_ri (pc := 9) d14_9 t14 rfl ?_
      exact hE s_h
  exact key _ (fun q => ⟨rfl, rfl, q⟩)
def E_x_run_69 (b : Bool) (L : Nat) (xs : Nat → Int32) (d : Nat) (Q : Option Value → pm_H → Prop) (l0 : Nat) (l1 : Int32) (l2 : Int32) : ((Int32 × pm_H) ⊕ pm_H) → Prop
  | .inl s => s.2.1 = tb_SH → PW b L xs d 18 0 0 69 [(Value.ref l0), (Value.int l1), (Value.int l2), (Value.int s.1)] [] s.2 Q
  | .inr e => e.1 = tb_SH → ∀ w1 w2 w3 : Value, PW b L xs d 18 0 0 100 [(Value.ref l0), w1, w2, w3] [] e Q
noncomputable def x_run_69 (l0 : Nat) (l1 : Int32) (l2 : Int32) (l3 : Int32) (h : pm_H) : Option ((Int32 × pm_H) ⊕ pm_H) := if l2 ≤ l3 then (some (.inr h)) else ((gA h l0 1 (.object "ChoirShip$Rule")).bind fun y2 => if mi_in l1 (mi_n y2) = true then (gO h y2 l1.toNatClampNeg 6).bind fun y4 => (x_rouseAll l0 y4 h).bind fun q5 => (gO q5 l0 4 9).bind fun y6 => (gO q5 y6 1 3).bind fun y7 => (n_pass y7 q5).bind fun q8 => some (.inl ((l3 + Int32.ofInt 1), q8)) else none)
theorem t_x_run_69 (b : Bool) (L : Nat) (xs : Nat → Int32) (d : Nat) (hd : 6 ≤ d) {Q : Option Value → pm_H → Prop} (h : pm_H) (s_h : h.1 = tb_SH) (l0 : Nat) (l1 : Int32) (l2 : Int32) (l3 : Int32) (f_l0 : mi_o l0 0 = true) {r : ((Int32 × pm_H) ⊕ pm_H)} (hm : x_run_69 l0 l1 l2 l3 h = some r) (hE : E_x_run_69 b L xs d Q l0 l1 l2 r) : PW b L xs d 18 0 0 69 [(Value.ref l0), (Value.int l1), (Value.int l2), (Value.int l3)] [] h Q := by
  rw [x_run_69] at hm
  refine pw_l (pc := 69) d18_69 rfl rfl rfl ?_
  refine pw_l (pc := 70) d18_70 rfl rfl rfl ?_
  refine pw_ige (pc := 71) (t := 100) d18_71 (by decide) (fun c1 => ?_) (fun c1 => ?_)
  · rw [if_pos c1] at hm
    obtain rfl := Option.some.inj hm
    exact hE s_h  (Value.int l1) (Value.int l2) (Value.int l3)
  · rw [if_neg c1] at hm
    refine pw_l (pc := 74) d18_74 rfl rfl rfl ?_
    refine pw_l (pc := 75) d18_75 rfl rfl rfl ?_
    obtain ⟨y2, e_y2, hm⟩ := ob_x hm
    have f_y2 := gA_x e_y2
    refine pw_gr (pc := 76) d18_76 (k18_18 b) (sho s_h f_l0) f0_1 f_y2.1 ?_
    refine pw_l (pc := 79) d18_79 rfl rfl rfl ?_
    obtain ⟨g3, hm⟩ := gd_x hm
    obtain ⟨y4, e_y4, hm⟩ := ob_x hm
    have f_y4 := gO_x e_y4
    refine pw_ar (pc := 80) d18_80 (sha s_h f_y2.2) (mi_in_x g3) f_y4.1 ?_
    obtain ⟨q5, e_q5, hm⟩ := ob_x hm
    refine pw_v (pc := 81) (k := l0) (by omega) d18_81 (k18_216 b) (by decide) m41 (by decide) rfl (sho s_h f_l0) (Nat.le_of_ble_eq_true rfl) (Nat.le_of_ble_eq_true rfl) rfl rfl (T_x_rouseAll b L xs (d - 1) (by omega) h s_h l0 y4 f_l0 f_y4.2 e_q5) (fun v0 h0 hq => ?_)
    obtain ⟨rfl, hh0, s_q5⟩ := hq
    rw [hh0] at s_q5 ⊢
    simp only [Option.toList_none, List.nil_append]
    refine pw_l (pc := 84) d18_84 rfl rfl rfl ?_
    obtain ⟨y6, e_y6, hm⟩ := ob_x hm
    have f_y6 := gO_x e_y6
    refine pw_gr (pc := 85) d18_85 (k18_61 b) (sho s_q5 f_l0) f0_4 f_y6.1 ?_
    obtain ⟨y7, e_y7, hm⟩ := ob_x hm
    have f_y7 := gO_x e_y7
    refine pw_gr (pc := 88) d18_88 (k18_87 b) (sho s_q5 f_y6.2) f9_1 f_y7.1 ?_
    obtain ⟨q8, e_q8, hm⟩ := ob_x hm
    refine pw_v (pc := 91) (k := y7) (by omega) d18_91 (k18_184 b) (by decide) m78 (by decide) rfl (sho s_q5 f_y7.2) (Nat.le_of_ble_eq_true rfl) (Nat.le_of_ble_eq_true rfl) rfl rfl (T_n_pass b L xs (d - 1) (by omega) q5 s_q5 y7 f_y7.2 e_q8) (fun v0 h0 hq => ?_)
    obtain ⟨rfl, hh0, s_q8⟩ := hq
    rw [hh0] at s_q8 ⊢
    simp only [Option.toList_none, List.nil_append]
    refine pw_t (pc := 94) d18_94 rfl rfl rfl rfl ?_
    refine pw_go (pc := 97) (t := 69) d18_97 (by decide) ?_
    obtain rfl := Option.some.inj hm
    exact hE s_q8  
noncomputable def x_run (l0 : Nat) (l1 : Int32) (l2 : Int32) (h : pm_H) : Option (Int32 × pm_H) := (gO h l0 4 9).bind fun y1 => (gO h y1 0 7).bind fun y2 => (s_sails y2 h).bind fun q3 => if q3 = 0 then (some ((Int32.ofInt (-1)), h)) else (if l1 < 0 then (some ((Int32.ofInt (-1)), h)) else (if (h.2.1 l0 2) ≤ l1 then (some ((Int32.ofInt (-1)), h)) else ((gA h l0 1 (.object "ChoirShip$Rule")).bind fun y7 => if l1 < (Int32.ofNat (mi_n y7)) then (if l2 < (Int32.ofInt 1) then (some ((Int32.ofInt (-1)), h)) else (if (Int8.ofInt 60).toInt32 < l2 then (some ((Int32.ofInt (-1)), h)) else ((gO h l0 4 9).bind fun y11 => (gO h y11 1 3).bind fun y12 => if ((h.2.1 y12 2) + l2) ≤ (Int16.ofInt 999).toInt32 then ((wh (fun s : (Int32 × pm_H) => x_run_69 l0 l1 l2 s.1 s.2) ((Int32.ofInt 0), h)).bind fun q14 => (gO q14 l0 6 4).bind fun y15 => (p_forget y15 q14).bind fun q16 => (gO q16 l0 4 9).bind fun y17 => (gO q16 y17 1 3).bind fun y18 => some ((q16.2.1 y18 2), q16)) else (some ((Int32.ofInt (-1)), h))))) else (some ((Int32.ofInt (-1)), h)))))
theorem T_x_run (b : Bool) (L : Nat) (xs : Nat → Int32) (d : Nat) (hd : 6 ≤ d) (h : pm_H) (s_h : h.1 = tb_SH) (l0 : Nat) (l1 : Int32) (l2 : Int32) (f_l0 : mi_o l0 0 = true) {r : (Int32 × pm_H)} (hm : x_run l0 l1 l2 h = some r) : PC b L xs d 18 [(Value.ref l0), (Value.int l1), (Value.int l2)] h (fun (v0 : Option Value) (h2 : pm_H) => v0 = (some (Value.int r.1)) ∧ h2 = r.2 ∧ h2.1 = tb_SH) := by
  refine pc_in e18 (ls0 := [(Value.ref l0), (Value.int l1), (Value.int l2), Value.retAddr 0]) rfl ?_
  have key : ∀ (Q : Option Value → pm_H → Prop), (r.2.1 = tb_SH → Q (some (Value.int r.1)) r.2) → PW b L xs d 18 0 0 0 [(Value.ref l0), (Value.int l1), (Value.int l2), Value.retAddr 0] [] h Q := by
    intro Q hE
    rw [x_run] at hm
    refine pw_l (pc := 0) d18_0 rfl rfl rfl ?_
    obtain ⟨y1, e_y1, hm⟩ := ob_x hm
    have f_y1 := gO_x e_y1
    refine pw_gr (pc := 1) d18_1 (k18_61 b) (sho s_h f_l0) f0_4 f_y1.1 ?_
    obtain ⟨y2, e_y2, hm⟩ := ob_x hm
    have f_y2 := gO_x e_y2
    refine pw_gr (pc := 4) d18_4 (k18_83 b) (sho s_h f_y1.2) f9_0 f_y2.1 ?_
    obtain ⟨q3, e_q3, hm⟩ := ob_x hm
    refine pw_v (pc := 7) (k := y2) (by omega) d18_7 (k18_177 b) (by decide) m110 (by decide) rfl (sho s_h f_y2.2) (Nat.le_of_ble_eq_true rfl) (Nat.le_of_ble_eq_true rfl) rfl rfl (T_s_sails b L xs (d - 1) (by omega) h s_h y2 f_y2.2 e_q3) (fun v0 h0 hq => ?_)
    obtain ⟨rfl, hh0, s_q3⟩ := hq
    rw [hh0] at s_q3 ⊢
    simp only [Option.toList_some, List.cons_append, List.nil_append]
    refine pw_zeq (pc := 10) (t := 34) d18_10 (by decide) (fun c4 => ?_) (fun c4 => ?_)
    · rw [if_pos c4] at hm
      refine pw_s (pc := 34) d18_34 rfl rfl ?_
      obtain rfl := Option.some.inj hm
      refine pw_ri (pc := 35) d18_35 t18 rfl ?_
      exact hE s_h
    · rw [if_neg c4] at hm
      refine pw_l (pc := 13) d18_13 rfl rfl rfl ?_
      refine pw_zlt (pc := 14) (t := 34) d18_14 (by decide) (fun c5 => ?_) (fun c5 => ?_)
      · rw [if_pos c5] at hm
        refine pw_s (pc := 34) d18_34 rfl rfl ?_
        obtain rfl := Option.some.inj hm
        refine pw_ri (pc := 35) d18_35 t18 rfl ?_
        exact hE s_h
      · rw [if_neg c5] at hm
        refine pw_l (pc := 17) d18_17 rfl rfl rfl ?_
        refine pw_l (pc := 18) d18_18 rfl rfl rfl ?_
        refine pw_gi (pc := 19) d18_19 (k18_22 b) (sho s_h f_l0) f0_2 ?_
        refine pw_ige (pc := 22) (t := 34) d18_22 (by decide) (fun c6 => ?_) (fun c6 => ?_)
        · rw [if_pos c6] at hm
          refine pw_s (pc := 34) d18_34 rfl rfl ?_
          obtain rfl := Option.some.inj hm
          refine pw_ri (pc := 35) d18_35 t18 rfl ?_
          exact hE s_h
        · rw [if_neg c6] at hm
          refine pw_l (pc := 25) d18_25 rfl rfl rfl ?_
          refine pw_l (pc := 26) d18_26 rfl rfl rfl ?_
          obtain ⟨y7, e_y7, hm⟩ := ob_x hm
          have f_y7 := gA_x e_y7
          refine pw_gr (pc := 27) d18_27 (k18_18 b) (sho s_h f_l0) f0_1 f_y7.1 ?_
          refine pw_an (pc := 30) d18_30 (sha s_h f_y7.2) ?_
          refine pw_ilt (pc := 31) (t := 36) d18_31 (by decide) (fun c8 => ?_) (fun c8 => ?_)
          · rw [if_pos c8] at hm
            refine pw_l (pc := 36) d18_36 rfl rfl rfl ?_
            refine pw_s (pc := 37) d18_37 rfl rfl ?_
            refine pw_ilt (pc := 38) (t := 65) d18_38 (by decide) (fun c9 => ?_) (fun c9 => ?_)
            · rw [if_pos c9] at hm
              refine pw_s (pc := 65) d18_65 rfl rfl ?_
              obtain rfl := Option.some.inj hm
              refine pw_ri (pc := 66) d18_66 t18 rfl ?_
              exact hE s_h
            · rw [if_neg c9] at hm
              refine pw_l (pc := 41) d18_41 rfl rfl rfl ?_
              refine pw_s (pc := 42) d18_42 rfl rfl ?_
              refine pw_igt (pc := 44) (t := 65) d18_44 (by decide) (fun c10 => ?_) (fun c10 => ?_)
              · rw [if_pos c10] at hm
                refine pw_s (pc := 65) d18_65 rfl rfl ?_
                obtain rfl := Option.some.inj hm
                refine pw_ri (pc := 66) d18_66 t18 rfl ?_
                exact hE s_h
              · rw [if_neg c10] at hm
                refine pw_l (pc := 47) d18_47 rfl rfl rfl ?_
                obtain ⟨y11, e_y11, hm⟩ := ob_x hm
                have f_y11 := gO_x e_y11
                refine pw_gr (pc := 48) d18_48 (k18_61 b) (sho s_h f_l0) f0_4 f_y11.1 ?_
                obtain ⟨y12, e_y12, hm⟩ := ob_x hm
                have f_y12 := gO_x e_y12
                refine pw_gr (pc := 51) d18_51 (k18_87 b) (sho s_h f_y11.2) f9_1 f_y12.1 ?_
                refine pw_gi (pc := 54) d18_54 (k18_181 b) (sho s_h f_y12.2) f3_2 ?_
                refine pw_l (pc := 57) d18_57 rfl rfl rfl ?_
                refine pw_s (pc := 58) d18_58 rfl rfl ?_
                refine pw_s (pc := 59) d18_59 rfl rfl ?_
                refine pw_ile (pc := 62) (t := 67) d18_62 (by decide) (fun c13 => ?_) (fun c13 => ?_)
                · rw [if_pos c13] at hm
                  refine pw_s (pc := 67) d18_67 rfl rfl ?_
                  refine pw_t (pc := 68) d18_68 rfl rfl rfl rfl ?_
                  obtain ⟨q14, e_q14, hm⟩ := ob_x hm
                  refine wh_ind e_q14 (fun s : (Int32 × pm_H) => s.2.1 = tb_SH → PW b L xs d 18 0 0 69 [(Value.ref l0), (Value.int l1), (Value.int l2), (Value.int s.1)] [] s.2 Q) (fun s s2 hf ih sx => t_x_run_69 b L xs d hd s.2 sx l0 l1 l2 s.1  f_l0 hf ih) (fun s hf sx => t_x_run_69 b L xs d hd s.2 sx l0 l1 l2 s.1  f_l0 hf ?_) s_h  
                  intro s_q14_0 w1 w2 w3
                  refine pw_l (pc := 100) d18_100 rfl rfl rfl ?_
                  obtain ⟨y15, e_y15, hm⟩ := ob_x hm
                  have f_y15 := gO_x e_y15
                  refine pw_gr (pc := 101) d18_101 (k18_41 b) (sho s_q14_0 f_l0) f0_6 f_y15.1 ?_
                  obtain ⟨q16, e_q16, hm⟩ := ob_x hm
                  refine pw_v (pc := 104) (k := y15) (by omega) d18_104 (k18_102 b) (by decide) m83 (by decide) rfl (sho s_q14_0 f_y15.2) (Nat.le_of_ble_eq_true rfl) (Nat.le_of_ble_eq_true rfl) rfl rfl (T_p_forget b L xs (d - 1) (by omega) q14 s_q14_0 y15 f_y15.2 e_q16) (fun v0 h0 hq => ?_)
                  obtain ⟨rfl, hh0, s_q16⟩ := hq
                  rw [hh0] at s_q16 ⊢
                  simp only [Option.toList_none, List.nil_append]
                  refine pw_l (pc := 107) d18_107 rfl rfl rfl ?_
                  obtain ⟨y17, e_y17, hm⟩ := ob_x hm
                  have f_y17 := gO_x e_y17
                  refine pw_gr (pc := 108) d18_108 (k18_61 b) (sho s_q16 f_l0) f0_4 f_y17.1 ?_
                  obtain ⟨y18, e_y18, hm⟩ := ob_x hm
                  have f_y18 := gO_x e_y18
                  refine pw_gr (pc := 111) d18_111 (k18_87 b) (sho s_q16 f_y17.2) f9_1 f_y18.1 ?_
                  refine pw_gi (pc := 114) d18_114 (k18_181 b) (sho s_q16 f_y18.2) f3_2 ?_
                  obtain rfl := Option.some.inj hm
                  refine pw_ri (pc := 117) d18_117 t18 rfl ?_
                  exact hE s_q16
                · rw [if_neg c13] at hm
                  refine pw_s (pc := 65) d18_65 rfl rfl ?_
                  obtain rfl := Option.some.inj hm
                  refine pw_ri (pc := 66) d18_66 t18 rfl ?_
                  exact hE s_h
          · rw [if_neg c8] at hm
            refine pw_s (pc := 34) d18_34 rfl rfl ?_
            obtain rfl := Option.some.inj hm
            refine pw_ri (pc := 35) d18_35 t18 rfl ?_
            exact hE s_h
  exact key _ (fun q => ⟨rfl, rfl, q⟩)
noncomputable def x_nearest (l0 : Nat) (l1 : Int32) (l2 : Int32) (l3 : Int32) (h : pm_H) : Option (Int32 × pm_H) := (x_menOf l0 l1 l2 h).bind fun q1 => if q1.1 = (Int32.ofInt (-1)) then (some ((Int32.ofInt (-1)), q1.2)) else (if l3 < 0 then (some ((Int32.ofInt (-1)), q1.2)) else (if l3 ≤ (Int32.ofInt 1) then ((gO q1.2 l0 4 9).bind fun y5 => (gO q1.2 y5 0 7).bind fun y6 => (gA q1.2 l0 8 .int).bind fun y7 => (gO q1.2 l0 4 9).bind fun y8 => (gO q1.2 y8 1 3).bind fun y9 => (gO q1.2 l0 4 9).bind fun y10 => (gO q1.2 y10 0 7).bind fun y11 => (n_heard y9 y11 q1.2).bind fun q12 => (x_wordsOf l0 l2 q12 q1.2).bind fun q13 => (s_settle y6 y7 q13.1 q13.2).bind fun q14 => (gO q14.2 l0 7 1).bind fun y15 => (gO q14.2 l0 4 9).bind fun y16 => (gO q14.2 y16 0 7).bind fun y17 => (gA q14.2 l0 8 .int).bind fun y18 => (a_findNearest y15 y17 y18 q14.1 q14.2).bind fun q19 => if ¬ l3 = 0 then ((gO q19 l0 7 1).bind fun y21 => some ((q19.2.1 y21 10), q19)) else ((gO q19 l0 7 1).bind fun y22 => some ((q19.2.1 y22 9), q19))) else (some ((Int32.ofInt (-1)), q1.2))))
theorem T_x_nearest (b : Bool) (L : Nat) (xs : Nat → Int32) (d : Nat) (hd : 4 ≤ d) (h : pm_H) (s_h : h.1 = tb_SH) (l0 : Nat) (l1 : Int32) (l2 : Int32) (l3 : Int32) (f_l0 : mi_o l0 0 = true) {r : (Int32 × pm_H)} (hm : x_nearest l0 l1 l2 l3 h = some r) : PC b L xs d 25 [(Value.ref l0), (Value.int l1), (Value.int l2), (Value.int l3)] h (fun (v0 : Option Value) (h2 : pm_H) => v0 = (some (Value.int r.1)) ∧ h2 = r.2 ∧ h2.1 = tb_SH) := by
  refine pc_in e25 (ls0 := [(Value.ref l0), (Value.int l1), (Value.int l2), (Value.int l3), Value.retAddr 0, Value.retAddr 0]) rfl ?_
  have key : ∀ (Q : Option Value → pm_H → Prop), (r.2.1 = tb_SH → Q (some (Value.int r.1)) r.2) → PW b L xs d 25 0 0 0 [(Value.ref l0), (Value.int l1), (Value.int l2), (Value.int l3), Value.retAddr 0, Value.retAddr 0] [] h Q := by
    intro Q hE
    rw [x_nearest] at hm
    refine pw_l (pc := 0) d25_0 rfl rfl rfl ?_
    refine pw_l (pc := 1) d25_1 rfl rfl rfl ?_
    refine pw_l (pc := 2) d25_2 rfl rfl rfl ?_
    obtain ⟨q1, e_q1, hm⟩ := ob_x hm
    refine pw_v (pc := 3) (k := l0) (by omega) d25_3 (k25_164 b) (by decide) m39 (by decide) rfl (sho s_h f_l0) (Nat.le_of_ble_eq_true rfl) (Nat.le_of_ble_eq_true rfl) rfl rfl (T_x_menOf b L xs (d - 1) (by omega) h s_h l0 l1 l2 f_l0 e_q1) (fun v0 h0 hq => ?_)
    obtain ⟨rfl, hh0, s_q1⟩ := hq
    rw [hh0] at s_q1 ⊢
    simp only [Option.toList_some, List.cons_append, List.nil_append]
    refine pw_t (pc := 6) d25_6 rfl rfl rfl rfl ?_
    refine pw_l (pc := 8) d25_8 rfl rfl rfl ?_
    refine pw_s (pc := 10) d25_10 rfl rfl ?_
    refine pw_ieq (pc := 11) (t := 23) d25_11 (by decide) (fun c2 => ?_) (fun c2 => ?_)
    · rw [if_pos c2] at hm
      refine pw_s (pc := 23) d25_23 rfl rfl ?_
      obtain rfl := Option.some.inj hm
      refine pw_ri (pc := 24) d25_24 t25 rfl ?_
      exact hE s_q1
    · rw [if_neg c2] at hm
      refine pw_l (pc := 14) d25_14 rfl rfl rfl ?_
      refine pw_zlt (pc := 15) (t := 23) d25_15 (by decide) (fun c3 => ?_) (fun c3 => ?_)
      · rw [if_pos c3] at hm
        refine pw_s (pc := 23) d25_23 rfl rfl ?_
        obtain rfl := Option.some.inj hm
        refine pw_ri (pc := 24) d25_24 t25 rfl ?_
        exact hE s_q1
      · rw [if_neg c3] at hm
        refine pw_l (pc := 18) d25_18 rfl rfl rfl ?_
        refine pw_s (pc := 19) d25_19 rfl rfl ?_
        refine pw_ile (pc := 20) (t := 25) d25_20 (by decide) (fun c4 => ?_) (fun c4 => ?_)
        · rw [if_pos c4] at hm
          refine pw_l (pc := 25) d25_25 rfl rfl rfl ?_
          obtain ⟨y5, e_y5, hm⟩ := ob_x hm
          have f_y5 := gO_x e_y5
          refine pw_gr (pc := 26) d25_26 (k25_61 b) (sho s_q1 f_l0) f0_4 f_y5.1 ?_
          obtain ⟨y6, e_y6, hm⟩ := ob_x hm
          have f_y6 := gO_x e_y6
          refine pw_gr (pc := 29) d25_29 (k25_83 b) (sho s_q1 f_y5.2) f9_0 f_y6.1 ?_
          refine pw_l (pc := 32) d25_32 rfl rfl rfl ?_
          obtain ⟨y7, e_y7, hm⟩ := ob_x hm
          have f_y7 := gA_x e_y7
          refine pw_gr (pc := 33) d25_33 (k25_52 b) (sho s_q1 f_l0) f0_8 f_y7.1 ?_
          refine pw_l (pc := 36) d25_36 rfl rfl rfl ?_
          refine pw_l (pc := 37) d25_37 rfl rfl rfl ?_
          refine pw_l (pc := 38) d25_38 rfl rfl rfl ?_
          obtain ⟨y8, e_y8, hm⟩ := ob_x hm
          have f_y8 := gO_x e_y8
          refine pw_gr (pc := 39) d25_39 (k25_61 b) (sho s_q1 f_l0) f0_4 f_y8.1 ?_
          obtain ⟨y9, e_y9, hm⟩ := ob_x hm
          have f_y9 := gO_x e_y9
          refine pw_gr (pc := 42) d25_42 (k25_87 b) (sho s_q1 f_y8.2) f9_1 f_y9.1 ?_
          refine pw_l (pc := 45) d25_45 rfl rfl rfl ?_
          obtain ⟨y10, e_y10, hm⟩ := ob_x hm
          have f_y10 := gO_x e_y10
          refine pw_gr (pc := 46) d25_46 (k25_61 b) (sho s_q1 f_l0) f0_4 f_y10.1 ?_
          obtain ⟨y11, e_y11, hm⟩ := ob_x hm
          have f_y11 := gO_x e_y11
          refine pw_gr (pc := 49) d25_49 (k25_83 b) (sho s_q1 f_y10.2) f9_0 f_y11.1 ?_
          obtain ⟨q12, e_q12, hm⟩ := ob_x hm
          refine pw_v (pc := 52) (k := y9) (by omega) d25_52 (k25_135 b) (by decide) m81 (by decide) rfl (sho s_q1 f_y9.2) (Nat.le_of_ble_eq_true rfl) (Nat.le_of_ble_eq_true rfl) rfl rfl (T_n_heard b L xs (d - 1) (by omega) q1.2 s_q1 y9 y11 f_y9.2 f_y11.2 e_q12) (fun v0 h0 hq => ?_)
          obtain ⟨rfl, hh0, s_q12⟩ := hq
          rw [hh0] at s_q12 ⊢
          simp only [Option.toList_some, List.cons_append, List.nil_append]
          obtain ⟨q13, e_q13, hm⟩ := ob_x hm
          refine pw_v (pc := 55) (k := l0) (by omega) d25_55 (k25_171 b) (by decide) m40 (by decide) rfl (sho s_q1 f_l0) (Nat.le_of_ble_eq_true rfl) (Nat.le_of_ble_eq_true rfl) rfl rfl (T_x_wordsOf b L xs (d - 1) (by omega) q1.2 s_q1 l0 l2 q12 f_l0 e_q13) (fun v0 h0 hq => ?_)
          obtain ⟨rfl, hh0, s_q13⟩ := hq
          rw [hh0] at s_q13 ⊢
          simp only [Option.toList_some, List.cons_append, List.nil_append]
          obtain ⟨q14, e_q14, hm⟩ := ob_x hm
          refine pw_v (pc := 58) (k := y6) (by omega) d25_58 (k25_160 b) (by decide) m118 (by decide) rfl (sho s_q13 f_y6.2) (Nat.le_of_ble_eq_true rfl) (Nat.le_of_ble_eq_true rfl) rfl rfl (T_s_settle b L xs (d - 1) (by omega) q13.2 s_q13 y6 y7 q13.1 f_y6.2 f_y7.2 e_q14) (fun v0 h0 hq => ?_)
          obtain ⟨rfl, hh0, s_q14⟩ := hq
          rw [hh0] at s_q14 ⊢
          simp only [Option.toList_some, List.cons_append, List.nil_append]
          refine pw_t (pc := 61) d25_61 rfl rfl rfl rfl ?_
          refine pw_l (pc := 63) d25_63 rfl rfl rfl ?_
          obtain ⟨y15, e_y15, hm⟩ := ob_x hm
          have f_y15 := gO_x e_y15
          refine pw_gr (pc := 64) d25_64 (k25_48 b) (sho s_q14 f_l0) f0_7 f_y15.1 ?_
          refine pw_l (pc := 67) d25_67 rfl rfl rfl ?_
          obtain ⟨y16, e_y16, hm⟩ := ob_x hm
          have f_y16 := gO_x e_y16
          refine pw_gr (pc := 68) d25_68 (k25_61 b) (sho s_q14 f_l0) f0_4 f_y16.1 ?_
          obtain ⟨y17, e_y17, hm⟩ := ob_x hm
          have f_y17 := gO_x e_y17
          refine pw_gr (pc := 71) d25_71 (k25_83 b) (sho s_q14 f_y16.2) f9_0 f_y17.1 ?_
          refine pw_l (pc := 74) d25_74 rfl rfl rfl ?_
          obtain ⟨y18, e_y18, hm⟩ := ob_x hm
          have f_y18 := gA_x e_y18
          refine pw_gr (pc := 75) d25_75 (k25_52 b) (sho s_q14 f_l0) f0_8 f_y18.1 ?_
          refine pw_l (pc := 78) d25_78 rfl rfl rfl ?_
          obtain ⟨q19, e_q19, hm⟩ := ob_x hm
          refine pw_v (pc := 80) (k := y15) (by omega) d25_80 (k25_259 b) (by decide) m58 (by decide) rfl (sho s_q14 f_y15.2) (Nat.le_of_ble_eq_true rfl) (Nat.le_of_ble_eq_true rfl) rfl rfl (T_a_findNearest b L xs (d - 1) (by omega) q14.2 s_q14 y15 y17 y18 q14.1 f_y15.2 f_y17.2 f_y18.2 e_q19) (fun v0 h0 hq => ?_)
          obtain ⟨rfl, hh0, s_q19⟩ := hq
          rw [hh0] at s_q19 ⊢
          simp only [Option.toList_none, List.nil_append]
          refine pw_l (pc := 83) d25_83 rfl rfl rfl ?_
          refine pw_zne (pc := 84) (t := 97) d25_84 (by decide) (fun c20 => ?_) (fun c20 => ?_)
          · rw [if_pos c20] at hm
            refine pw_l (pc := 97) d25_97 rfl rfl rfl ?_
            obtain ⟨y21, e_y21, hm⟩ := ob_x hm
            have f_y21 := gO_x e_y21
            refine pw_gr (pc := 98) d25_98 (k25_48 b) (sho s_q19 f_l0) f0_7 f_y21.1 ?_
            refine pw_gi (pc := 101) d25_101 (k25_266 b) (sho s_q19 f_y21.2) f1_10 ?_
            obtain rfl := Option.some.inj hm
            refine pw_ri (pc := 104) d25_104 t25 rfl ?_
            exact hE s_q19
          · rw [if_neg c20] at hm
            refine pw_l (pc := 87) d25_87 rfl rfl rfl ?_
            obtain ⟨y22, e_y22, hm⟩ := ob_x hm
            have f_y22 := gO_x e_y22
            refine pw_gr (pc := 88) d25_88 (k25_48 b) (sho s_q19 f_l0) f0_7 f_y22.1 ?_
            refine pw_gi (pc := 91) d25_91 (k25_263 b) (sho s_q19 f_y22.2) f1_9 ?_
            refine pw_go (pc := 94) (t := 104) d25_94 (by decide) ?_
            obtain rfl := Option.some.inj hm
            refine pw_ri (pc := 104) d25_104 t25 rfl ?_
            exact hE s_q19
        · rw [if_neg c4] at hm
          refine pw_s (pc := 23) d25_23 rfl rfl ?_
          obtain rfl := Option.some.inj hm
          refine pw_ri (pc := 24) d25_24 t25 rfl ?_
          exact hE s_q1
  exact key _ (fun q => ⟨rfl, rfl, q⟩)
def E_x_freeHull_4 (b : Bool) (L : Nat) (xs : Nat → Int32) (d : Nat) (Q : Option Value → pm_H → Prop) (h : pm_H) (l0 : Nat) : ((Int32 × Int32) ⊕ Int32) → Prop
  | .inl s => PW b L xs d 36 0 0 4 [(Value.ref l0), (Value.int s.1), (Value.int s.2)] [] h Q
  | .inr e => ∀ w2 : Value, PW b L xs d 36 0 0 34 [(Value.ref l0), (Value.int e), w2] [] h Q
noncomputable def x_freeHull_4 (l0 : Nat) (l1 : Int32) (l2 : Int32) (h : pm_H) : Option ((Int32 × Int32) ⊕ Int32) := (gA h l0 3 (.object "ChoirShip$Ship")).bind fun y1 => if (Int32.ofNat (mi_n y1)) ≤ l2 then (some (.inr l1)) else ((gA h l0 3 (.object "ChoirShip$Ship")).bind fun y3 => if mi_in l2 (mi_n y3) = true then (gO h y3 l2.toNatClampNeg 7).bind fun y5 => (x_inUse l0 y5 h).bind fun q6 => if ¬ q6 = 0 then (some (.inl (l1, (l2 + Int32.ofInt 1)))) else (some (.inl (l2, (l2 + Int32.ofInt 1)))) else none)
theorem t_x_freeHull_4 (b : Bool) (L : Nat) (xs : Nat → Int32) (d : Nat) (hd : 1 ≤ d) {Q : Option Value → pm_H → Prop} (h : pm_H) (s_h : h.1 = tb_SH) (l0 : Nat) (l1 : Int32) (l2 : Int32) (f_l0 : mi_o l0 0 = true) {r : ((Int32 × Int32) ⊕ Int32)} (hm : x_freeHull_4 l0 l1 l2 h = some r) (hE : E_x_freeHull_4 b L xs d Q h l0 r) : PW b L xs d 36 0 0 4 [(Value.ref l0), (Value.int l1), (Value.int l2)] [] h Q := by
  rw [x_freeHull_4] at hm
  refine pw_l (pc := 4) d36_4 rfl rfl rfl ?_
  refine pw_l (pc := 5) d36_5 rfl rfl rfl ?_
  obtain ⟨y1, e_y1, hm⟩ := ob_x hm
  have f_y1 := gA_x e_y1
  refine pw_gr (pc := 6) d36_6 (k36_28 b) (sho s_h f_l0) f0_3 f_y1.1 ?_
  refine pw_an (pc := 9) d36_9 (sha s_h f_y1.2) ?_
  refine pw_ige (pc := 10) (t := 34) d36_10 (by decide) (fun c2 => ?_) (fun c2 => ?_)
  · rw [if_pos c2] at hm
    obtain rfl := Option.some.inj hm
    exact hE   (Value.int l2)
  · rw [if_neg c2] at hm
    refine pw_l (pc := 13) d36_13 rfl rfl rfl ?_
    refine pw_l (pc := 14) d36_14 rfl rfl rfl ?_
    obtain ⟨y3, e_y3, hm⟩ := ob_x hm
    have f_y3 := gA_x e_y3
    refine pw_gr (pc := 15) d36_15 (k36_28 b) (sho s_h f_l0) f0_3 f_y3.1 ?_
    refine pw_l (pc := 18) d36_18 rfl rfl rfl ?_
    obtain ⟨g4, hm⟩ := gd_x hm
    obtain ⟨y5, e_y5, hm⟩ := ob_x hm
    have f_y5 := gO_x e_y5
    refine pw_ar (pc := 19) d36_19 (sha s_h f_y3.2) (mi_in_x g4) f_y5.1 ?_
    obtain ⟨q6, e_q6, hm⟩ := ob_x hm
    refine pw_v (pc := 20) (k := l0) (by omega) d36_20 (k36_320 b) (by decide) m37 (by decide) rfl (sho s_h f_l0) (Nat.le_of_ble_eq_true rfl) (Nat.le_of_ble_eq_true rfl) rfl rfl (T_x_inUse b L xs (d - 1) (by omega) h s_h l0 y5 f_l0 f_y5.2 e_q6) (fun v0 h0 hq => ?_)
    obtain ⟨rfl, hh0, s_q6⟩ := hq
    rw [hh0] at s_q6 ⊢
    simp only [Option.toList_some, List.cons_append, List.nil_append]
    refine pw_zne (pc := 23) (t := 28) d36_23 (by decide) (fun c7 => ?_) (fun c7 => ?_)
    · rw [if_pos c7] at hm
      refine pw_t (pc := 28) d36_28 rfl rfl rfl rfl ?_
      refine pw_go (pc := 31) (t := 4) d36_31 (by decide) ?_
      obtain rfl := Option.some.inj hm
      exact hE   
    · rw [if_neg c7] at hm
      refine pw_l (pc := 26) d36_26 rfl rfl rfl ?_
      refine pw_t (pc := 27) d36_27 rfl rfl rfl rfl ?_
      refine pw_t (pc := 28) d36_28 rfl rfl rfl rfl ?_
      refine pw_go (pc := 31) (t := 4) d36_31 (by decide) ?_
      obtain rfl := Option.some.inj hm
      exact hE   
noncomputable def x_freeHull (l0 : Nat) (h : pm_H) : Option Nat := (wh (fun s : (Int32 × Int32) => x_freeHull_4 l0 s.1 s.2 h) ((Int32.ofInt 0), (Int32.ofInt 0))).bind fun q1 => (gA h l0 3 (.object "ChoirShip$Ship")).bind fun y2 => if mi_in q1 (mi_n y2) = true then (gO h y2 q1.toNatClampNeg 7).bind fun y4 => some y4 else none
theorem T_x_freeHull (b : Bool) (L : Nat) (xs : Nat → Int32) (d : Nat) (hd : 1 ≤ d) (h : pm_H) (s_h : h.1 = tb_SH) (l0 : Nat) (f_l0 : mi_o l0 0 = true) {r : Nat} (hm : x_freeHull l0 h = some r) : PC b L xs d 36 [(Value.ref l0)] h (fun (v0 : Option Value) (h2 : pm_H) => v0 = (some (Value.ref r)) ∧ h2 = h ∧ h2.1 = tb_SH) := by
  refine pc_in e36 (ls0 := [(Value.ref l0), Value.retAddr 0, Value.retAddr 0]) rfl ?_
  have key : ∀ (Q : Option Value → pm_H → Prop), (Q (some (Value.ref r)) h) → PW b L xs d 36 0 0 0 [(Value.ref l0), Value.retAddr 0, Value.retAddr 0] [] h Q := by
    intro Q hE
    rw [x_freeHull] at hm
    refine pw_s (pc := 0) d36_0 rfl rfl ?_
    refine pw_t (pc := 1) d36_1 rfl rfl rfl rfl ?_
    refine pw_s (pc := 2) d36_2 rfl rfl ?_
    refine pw_t (pc := 3) d36_3 rfl rfl rfl rfl ?_
    obtain ⟨q1, e_q1, hm⟩ := ob_x hm
    refine wh_ind e_q1 (fun s : (Int32 × Int32) => PW b L xs d 36 0 0 4 [(Value.ref l0), (Value.int s.1), (Value.int s.2)] [] h Q) (fun s s2 hf ih  => t_x_freeHull_4 b L xs d hd h s_h l0 s.1 s.2  f_l0 hf ih) (fun s hf  => t_x_freeHull_4 b L xs d hd h s_h l0 s.1 s.2  f_l0 hf ?_)   
    intro w2
    refine pw_l (pc := 34) d36_34 rfl rfl rfl ?_
    obtain ⟨y2, e_y2, hm⟩ := ob_x hm
    have f_y2 := gA_x e_y2
    refine pw_gr (pc := 35) d36_35 (k36_28 b) (sho s_h f_l0) f0_3 f_y2.1 ?_
    refine pw_l (pc := 38) d36_38 rfl rfl rfl ?_
    obtain ⟨g3, hm⟩ := gd_x hm
    obtain ⟨y4, e_y4, hm⟩ := ob_x hm
    have f_y4 := gO_x e_y4
    refine pw_ar (pc := 39) d36_39 (sha s_h f_y2.2) (mi_in_x g3) f_y4.1 ?_
    obtain rfl := Option.some.inj hm
    refine pw_rr (pc := 40) d36_40 t36 ?_
    exact hE
  exact key _ ⟨rfl, rfl, s_h⟩
noncomputable def x_ship (l0 : Nat) (h : pm_H) : Option (Int32 × pm_H) := (x_freeHull l0 h).bind fun q1 => if mi_o q1 7 = true then (gO h l0 0 8).bind fun y3 => (s_read q1 y3 h).bind fun q4 => (gO q4.2 l0 0 8).bind fun y5 => bd (pm_setI q4.2 y5 1 (Int32.ofInt 0)) fun h6 => if ¬ q4.1 = 0 then ((gO h6 l0 4 9).bind fun y8 => bd (pm_setR h6 y8 0 (some q1)) fun h9 => (gO h9 l0 4 9).bind fun y10 => (gO h9 y10 1 3).bind fun y11 => (n_begin y11 (h9.2.1 q1 1) h9).bind fun q12 => (gO q12 l0 4 9).bind fun y13 => bd (pm_setI q12 y13 2 (Int32.ofInt 0)) fun h14 => (gO h14 l0 6 4).bind fun y15 => (p_forget y15 h14).bind fun q16 => (gO q16 l0 7 1).bind fun y17 => (a_learn y17 q1 q16).bind fun q18 => some ((q18.2.1 q1 1), q18)) else ((gO h6 l0 0 8).bind fun y19 => some (((Int8.ofInt (-2)).toInt32 - (h6.2.1 y19 7)), h6)) else none
theorem T_x_ship (b : Bool) (L : Nat) (xs : Nat → Int32) (d : Nat) (hd : 11 ≤ d) (h : pm_H) (s_h : h.1 = tb_SH) (l0 : Nat) (f_l0 : mi_o l0 0 = true) {r : (Int32 × pm_H)} (hm : x_ship l0 h = some r) : PC b L xs d 4 [(Value.ref l0)] h (fun (v0 : Option Value) (h2 : pm_H) => v0 = (some (Value.int r.1)) ∧ h2 = r.2 ∧ h2.1 = tb_SH) := by
  refine pc_in e4 (ls0 := [(Value.ref l0), Value.retAddr 0, Value.retAddr 0]) rfl ?_
  have key : ∀ (Q : Option Value → pm_H → Prop), (r.2.1 = tb_SH → Q (some (Value.int r.1)) r.2) → PW b L xs d 4 0 0 0 [(Value.ref l0), Value.retAddr 0, Value.retAddr 0] [] h Q := by
    intro Q hE
    rw [x_ship] at hm
    refine pw_l (pc := 0) d4_0 rfl rfl rfl ?_
    obtain ⟨q1, e_q1, hm⟩ := ob_x hm
    refine pw_v (pc := 1) (k := l0) (by omega) d4_1 (k4_72 b) (by decide) m36 (by decide) rfl (sho s_h f_l0) (Nat.le_of_ble_eq_true rfl) (Nat.le_of_ble_eq_true rfl) rfl rfl (T_x_freeHull b L xs (d - 1) (by omega) h s_h l0 f_l0 e_q1) (fun v0 h0 hq => ?_)
    obtain ⟨rfl, hh0, s_q1⟩ := hq
    rw [hh0] at s_q1 ⊢
    simp only [Option.toList_some, List.cons_append, List.nil_append]
    obtain ⟨g2, hm⟩ := gd_x hm
    refine pw_t (pc := 4) d4_4 rfl rfl rfl rfl ?_
    refine pw_l (pc := 5) d4_5 rfl rfl rfl ?_
    refine pw_l (pc := 6) d4_6 rfl rfl rfl ?_
    obtain ⟨y3, e_y3, hm⟩ := ob_x hm
    have f_y3 := gO_x e_y3
    refine pw_gr (pc := 7) d4_7 (k4_10 b) (sho s_h f_l0) f0_0 f_y3.1 ?_
    obtain ⟨q4, e_q4, hm⟩ := ob_x hm
    refine pw_v (pc := 10) (k := q1) (by omega) d4_10 (k4_76 b) (by decide) m125 (by decide) rfl (sho s_h g2) (Nat.le_of_ble_eq_true rfl) (Nat.le_of_ble_eq_true rfl) rfl rfl (T_s_read b L xs (d - 1) (by omega) h s_h q1 y3 g2 f_y3.2 e_q4) (fun v0 h0 hq => ?_)
    obtain ⟨rfl, hh0, s_q4⟩ := hq
    rw [hh0] at s_q4 ⊢
    simp only [Option.toList_some, List.cons_append, List.nil_append]
    refine pw_t (pc := 13) d4_13 rfl rfl rfl rfl ?_
    refine pw_l (pc := 14) d4_14 rfl rfl rfl ?_
    obtain ⟨y5, e_y5, hm⟩ := ob_x hm
    have f_y5 := gO_x e_y5
    refine pw_gr (pc := 15) d4_15 (k4_10 b) (sho s_q4 f_l0) f0_0 f_y5.1 ?_
    refine pw_s (pc := 18) d4_18 rfl rfl ?_
    refine pw_pi (pc := 19) d4_19 (k4_65 b) (sho s_q4 f_y5.2) p4_8_1 ?_
    obtain ⟨h6, e_h6, hm⟩ := bd_x hm
    rw [e_h6]
    have s_h6 : h6.1 = tb_SH := by rw [← e_h6]; exact s_q4
    refine pw_l (pc := 22) d4_22 rfl rfl rfl ?_
    refine pw_zne (pc := 23) (t := 37) d4_23 (by decide) (fun c7 => ?_) (fun c7 => ?_)
    · rw [if_pos c7] at hm
      refine pw_l (pc := 37) d4_37 rfl rfl rfl ?_
      obtain ⟨y8, e_y8, hm⟩ := ob_x hm
      have f_y8 := gO_x e_y8
      refine pw_gr (pc := 38) d4_38 (k4_61 b) (sho s_h6 f_l0) f0_4 f_y8.1 ?_
      refine pw_l (pc := 41) d4_41 rfl rfl rfl ?_
      refine pw_pr (pc := 42) d4_42 (k4_83 b) (sho s_h6 f_y8.2) p4_9_0 ?_
      obtain ⟨h9, e_h9, hm⟩ := bd_x hm
      rw [e_h9]
      have s_h9 : h9.1 = tb_SH := by rw [← e_h9]; exact s_h6
      refine pw_l (pc := 45) d4_45 rfl rfl rfl ?_
      obtain ⟨y10, e_y10, hm⟩ := ob_x hm
      have f_y10 := gO_x e_y10
      refine pw_gr (pc := 46) d4_46 (k4_61 b) (sho s_h9 f_l0) f0_4 f_y10.1 ?_
      obtain ⟨y11, e_y11, hm⟩ := ob_x hm
      have f_y11 := gO_x e_y11
      refine pw_gr (pc := 49) d4_49 (k4_87 b) (sho s_h9 f_y10.2) f9_1 f_y11.1 ?_
      refine pw_l (pc := 52) d4_52 rfl rfl rfl ?_
      refine pw_gi (pc := 53) d4_53 (k4_91 b) (sho s_h9 g2) f7_1 ?_
      obtain ⟨q12, e_q12, hm⟩ := ob_x hm
      refine pw_v (pc := 56) (k := y11) (by omega) d4_56 (k4_94 b) (by decide) m75 (by decide) rfl (sho s_h9 f_y11.2) (Nat.le_of_ble_eq_true rfl) (Nat.le_of_ble_eq_true rfl) rfl rfl (T_n_begin b L xs (d - 1) (by omega) h9 s_h9 y11 (h9.2.1 q1 1) f_y11.2 e_q12) (fun v0 h0 hq => ?_)
      obtain ⟨rfl, hh0, s_q12⟩ := hq
      rw [hh0] at s_q12 ⊢
      simp only [Option.toList_none, List.nil_append]
      refine pw_l (pc := 59) d4_59 rfl rfl rfl ?_
      obtain ⟨y13, e_y13, hm⟩ := ob_x hm
      have f_y13 := gO_x e_y13
      refine pw_gr (pc := 60) d4_60 (k4_61 b) (sho s_q12 f_l0) f0_4 f_y13.1 ?_
      refine pw_s (pc := 63) d4_63 rfl rfl ?_
      refine pw_pi (pc := 64) d4_64 (k4_99 b) (sho s_q12 f_y13.2) p4_9_2 ?_
      obtain ⟨h14, e_h14, hm⟩ := bd_x hm
      rw [e_h14]
      have s_h14 : h14.1 = tb_SH := by rw [← e_h14]; exact s_q12
      refine pw_l (pc := 67) d4_67 rfl rfl rfl ?_
      obtain ⟨y15, e_y15, hm⟩ := ob_x hm
      have f_y15 := gO_x e_y15
      refine pw_gr (pc := 68) d4_68 (k4_41 b) (sho s_h14 f_l0) f0_6 f_y15.1 ?_
      obtain ⟨q16, e_q16, hm⟩ := ob_x hm
      refine pw_v (pc := 71) (k := y15) (by omega) d4_71 (k4_102 b) (by decide) m83 (by decide) rfl (sho s_h14 f_y15.2) (Nat.le_of_ble_eq_true rfl) (Nat.le_of_ble_eq_true rfl) rfl rfl (T_p_forget b L xs (d - 1) (by omega) h14 s_h14 y15 f_y15.2 e_q16) (fun v0 h0 hq => ?_)
      obtain ⟨rfl, hh0, s_q16⟩ := hq
      rw [hh0] at s_q16 ⊢
      simp only [Option.toList_none, List.nil_append]
      refine pw_l (pc := 74) d4_74 rfl rfl rfl ?_
      obtain ⟨y17, e_y17, hm⟩ := ob_x hm
      have f_y17 := gO_x e_y17
      refine pw_gr (pc := 75) d4_75 (k4_48 b) (sho s_q16 f_l0) f0_7 f_y17.1 ?_
      refine pw_l (pc := 78) d4_78 rfl rfl rfl ?_
      obtain ⟨q18, e_q18, hm⟩ := ob_x hm
      refine pw_v (pc := 79) (k := y17) (by omega) d4_79 (k4_105 b) (by decide) m43 (by decide) rfl (sho s_q16 f_y17.2) (Nat.le_of_ble_eq_true rfl) (Nat.le_of_ble_eq_true rfl) rfl rfl (T_a_learn b L xs (d - 1) (by omega) q16 s_q16 y17 q1 f_y17.2 g2 e_q18) (fun v0 h0 hq => ?_)
      obtain ⟨rfl, hh0, s_q18⟩ := hq
      rw [hh0] at s_q18 ⊢
      simp only [Option.toList_none, List.nil_append]
      refine pw_l (pc := 82) d4_82 rfl rfl rfl ?_
      refine pw_gi (pc := 83) d4_83 (k4_91 b) (sho s_q18 g2) f7_1 ?_
      obtain rfl := Option.some.inj hm
      refine pw_ri (pc := 86) d4_86 t4 rfl ?_
      exact hE s_q18
    · rw [if_neg c7] at hm
      refine pw_s (pc := 26) d4_26 rfl rfl ?_
      refine pw_l (pc := 28) d4_28 rfl rfl rfl ?_
      obtain ⟨y19, e_y19, hm⟩ := ob_x hm
      have f_y19 := gO_x e_y19
      refine pw_gr (pc := 29) d4_29 (k4_10 b) (sho s_h6 f_l0) f0_0 f_y19.1 ?_
      refine pw_gi (pc := 32) d4_32 (k4_80 b) (sho s_h6 f_y19.2) f8_7 ?_
      refine pw_s (pc := 35) d4_35 rfl rfl ?_
      obtain rfl := Option.some.inj hm
      refine pw_ri (pc := 36) d4_36 t4 rfl ?_
      exact hE s_h6
  exact key _ (fun q => ⟨rfl, rfl, q⟩)
