/-! Mirrors, written by wip/mir.py. -/
theorem d185_0 : decode (tb_me 185).1.2.1 0 = .ok (.aload_n 0, 1) := by decide +kernel
theorem d185_1 : decode (tb_me 185).1.2.1 1 = .ok (.getfield 246, 3) := by decide +kernel
theorem k185_246 (b : Bool) : tb_lk b 185 246 = (1, 10, 2, 0, 0) := by cases b <;> decide +kernel
theorem f10_2 : (2 < pm_nf tb_cl 10) ∧ tb_ft 10 2 ≠ .long ∧ pm_isR (tb_ft 10 2) = false := by decide +kernel
theorem d185_4 : decode (tb_me 185).1.2.1 4 = .ok (.bipush 6, 2) := by decide +kernel
theorem d185_6 : decode (tb_me 185).1.2.1 6 = .ok (.if_icmp .ne 5, 3) := by decide +kernel
theorem d185_11 : decode (tb_me 185).1.2.1 11 = .ok (.aload_n 0, 1) := by decide +kernel
theorem d185_12 : decode (tb_me 185).1.2.1 12 = .ok (.aload_n 0, 1) := by decide +kernel
theorem d185_13 : decode (tb_me 185).1.2.1 13 = .ok (.getfield 246, 3) := by decide +kernel
theorem d185_16 : decode (tb_me 185).1.2.1 16 = .ok (.putfield 138, 3) := by decide +kernel
theorem k185_138 (b : Bool) : tb_lk b 185 138 = (1, 10, 11, 0, 0) := by cases b <;> decide +kernel
theorem p185_10_11 : (11 < pm_nf tb_cl 10) ∧ tb_ft 10 11 = .int ∧ pm_fin tb_cl (tb_me 185).1.1 10 11 = true := by decide +kernel
theorem d185_19 : decode (tb_me 185).1.2.1 19 = .ok (.aload_n 0, 1) := by decide +kernel
theorem d185_20 : decode (tb_me 185).1.2.1 20 = .ok (.getfield 23, 3) := by decide +kernel
theorem k185_23 (b : Bool) : tb_lk b 185 23 = (1, 10, 6, 0, 0) := by cases b <;> decide +kernel
theorem d185_23 : decode (tb_me 185).1.2.1 23 = .ok (.aload_n 0, 1) := by decide +kernel
theorem d185_24 : decode (tb_me 185).1.2.1 24 = .ok (.getfield 138, 3) := by decide +kernel
theorem d185_27 : decode (tb_me 185).1.2.1 27 = .ok (.iconst 0, 1) := by decide +kernel
theorem d185_28 : decode (tb_me 185).1.2.1 28 = .ok (.iastore, 1) := by decide +kernel
theorem d185_29 : decode (tb_me 185).1.2.1 29 = .ok (.aload_n 0, 1) := by decide +kernel
theorem d185_30 : decode (tb_me 185).1.2.1 30 = .ok (.invokevirtual 249, 3) := by decide +kernel
theorem k185_249 (b : Bool) : tb_lk b 185 249 = (2, 184, 0, 0, 0) := by cases b <;> decide +kernel
theorem m184 : (tb_me 184).2 = ((0, 0), (0, 10)) ∧ (tb_me 184).1.2.2.1 = 2 := by decide +kernel
theorem d185_33 : decode (tb_me 185).1.2.1 33 = .ok (.ifCond .ne 11, 3) := by decide +kernel
theorem d185_44 : decode (tb_me 185).1.2.1 44 = .ok (.aload_n 0, 1) := by decide +kernel
theorem d185_45 : decode (tb_me 185).1.2.1 45 = .ok (.dup, 1) := by decide +kernel
theorem d185_46 : decode (tb_me 185).1.2.1 46 = .ok (.getfield 246, 3) := by decide +kernel
theorem d185_49 : decode (tb_me 185).1.2.1 49 = .ok (.iconst 1, 1) := by decide +kernel
theorem d185_50 : decode (tb_me 185).1.2.1 50 = .ok (.iadd, 1) := by decide +kernel
theorem d185_51 : decode (tb_me 185).1.2.1 51 = .ok (.putfield 246, 3) := by decide +kernel
theorem p185_10_2 : (2 < pm_nf tb_cl 10) ∧ tb_ft 10 2 = .int ∧ pm_fin tb_cl (tb_me 185).1.1 10 2 = true := by decide +kernel
theorem d185_54 : decode (tb_me 185).1.2.1 54 = .ok (.aload_n 0, 1) := by decide +kernel
theorem d185_55 : decode (tb_me 185).1.2.1 55 = .ok (.getfield 246, 3) := by decide +kernel
theorem d185_58 : decode (tb_me 185).1.2.1 58 = .ok (.iconst 1, 1) := by decide +kernel
theorem d185_59 : decode (tb_me 185).1.2.1 59 = .ok (.isub, 1) := by decide +kernel
theorem d185_60 : decode (tb_me 185).1.2.1 60 = .ok (.ireturn, 1) := by decide +kernel
theorem t185 : (tb_me 185).1.2.2.2 = some .int := by decide +kernel
theorem d185_36 : decode (tb_me 185).1.2.1 36 = .ok (.bipush (-2), 2) := by decide +kernel
theorem d185_38 : decode (tb_me 185).1.2.1 38 = .ok (.aload_n 0, 1) := by decide +kernel
theorem d185_39 : decode (tb_me 185).1.2.1 39 = .ok (.getfield 81, 3) := by decide +kernel
theorem k185_81 (b : Bool) : tb_lk b 185 81 = (1, 10, 9, 0, 0) := by cases b <;> decide +kernel
theorem d185_42 : decode (tb_me 185).1.2.1 42 = .ok (.isub, 1) := by decide +kernel
theorem d185_43 : decode (tb_me 185).1.2.1 43 = .ok (.ireturn, 1) := by decide +kernel
theorem d185_9 : decode (tb_me 185).1.2.1 9 = .ok (.iconst (-1), 1) := by decide +kernel
theorem d185_10 : decode (tb_me 185).1.2.1 10 = .ok (.ireturn, 1) := by decide +kernel
theorem e185 : (tb_me 185).2.1 = (0, 0) ∧ (tb_me 185).1.2.2.1 = 1 := by decide +kernel
theorem d186_97 : decode (tb_me 186).1.2.1 97 = .ok (.iastore, 1) := by decide +kernel
theorem d186_98 : decode (tb_me 186).1.2.1 98 = .ok (.iinc 1 1, 3) := by decide +kernel
theorem d186_101 : decode (tb_me 186).1.2.1 101 = .ok (.goto (-33), 3) := by decide +kernel
theorem d186_68 : decode (tb_me 186).1.2.1 68 = .ok (.iload_n 1, 1) := by decide +kernel
theorem d186_69 : decode (tb_me 186).1.2.1 69 = .ok (.sipush 227, 3) := by decide +kernel
theorem d186_72 : decode (tb_me 186).1.2.1 72 = .ok (.if_icmp .ge 32, 3) := by decide +kernel
theorem d186_75 : decode (tb_me 186).1.2.1 75 = .ok (.aload_n 0, 1) := by decide +kernel
theorem d186_76 : decode (tb_me 186).1.2.1 76 = .ok (.getfield 39, 3) := by decide +kernel
theorem k186_39 (b : Bool) : tb_lk b 186 39 = (1, 10, 20, 0, 0) := by cases b <;> decide +kernel
theorem f10_20 : (20 < pm_nf tb_cl 10) ∧ tb_ft 10 20 ≠ .long ∧ pm_isR (tb_ft 10 20) = true := by decide +kernel
theorem d186_79 : decode (tb_me 186).1.2.1 79 = .ok (.iload_n 1, 1) := by decide +kernel
theorem d186_80 : decode (tb_me 186).1.2.1 80 = .ok (.iload_n 1, 1) := by decide +kernel
theorem d186_81 : decode (tb_me 186).1.2.1 81 = .ok (.sipush 206, 3) := by decide +kernel
theorem d186_84 : decode (tb_me 186).1.2.1 84 = .ok (.if_icmp .ge 12, 3) := by decide +kernel
theorem d186_96 : decode (tb_me 186).1.2.1 96 = .ok (.iconst 0, 1) := by decide +kernel
theorem d186_87 : decode (tb_me 186).1.2.1 87 = .ok (.aload_n 0, 1) := by decide +kernel
theorem d186_88 : decode (tb_me 186).1.2.1 88 = .ok (.getfield 26, 3) := by decide +kernel
theorem k186_26 (b : Bool) : tb_lk b 186 26 = (1, 10, 7, 0, 0) := by cases b <;> decide +kernel
theorem d186_91 : decode (tb_me 186).1.2.1 91 = .ok (.iload_n 1, 1) := by decide +kernel
theorem d186_92 : decode (tb_me 186).1.2.1 92 = .ok (.iaload, 1) := by decide +kernel
theorem d186_93 : decode (tb_me 186).1.2.1 93 = .ok (.goto 4, 3) := by decide +kernel
theorem d186_29 : decode (tb_me 186).1.2.1 29 = .ok (.iload_n 1, 1) := by decide +kernel
theorem d186_30 : decode (tb_me 186).1.2.1 30 = .ok (.bipush 100, 2) := by decide +kernel
theorem d186_32 : decode (tb_me 186).1.2.1 32 = .ok (.if_icmp .ge 19, 3) := by decide +kernel
theorem d186_35 : decode (tb_me 186).1.2.1 35 = .ok (.aload_n 0, 1) := by decide +kernel
theorem d186_36 : decode (tb_me 186).1.2.1 36 = .ok (.getfield 26, 3) := by decide +kernel
theorem d186_39 : decode (tb_me 186).1.2.1 39 = .ok (.bipush 106, 2) := by decide +kernel
theorem d186_41 : decode (tb_me 186).1.2.1 41 = .ok (.iload_n 1, 1) := by decide +kernel
theorem d186_42 : decode (tb_me 186).1.2.1 42 = .ok (.iadd, 1) := by decide +kernel
theorem d186_43 : decode (tb_me 186).1.2.1 43 = .ok (.iconst (-1), 1) := by decide +kernel
theorem d186_44 : decode (tb_me 186).1.2.1 44 = .ok (.iastore, 1) := by decide +kernel
theorem d186_45 : decode (tb_me 186).1.2.1 45 = .ok (.iinc 1 1, 3) := by decide +kernel
theorem d186_48 : decode (tb_me 186).1.2.1 48 = .ok (.goto (-19), 3) := by decide +kernel
theorem d186_8 : decode (tb_me 186).1.2.1 8 = .ok (.iload_n 1, 1) := by decide +kernel
theorem d186_9 : decode (tb_me 186).1.2.1 9 = .ok (.bipush 10, 2) := by decide +kernel
theorem d186_11 : decode (tb_me 186).1.2.1 11 = .ok (.if_icmp .ge 16, 3) := by decide +kernel
theorem d186_14 : decode (tb_me 186).1.2.1 14 = .ok (.aload_n 0, 1) := by decide +kernel
theorem d186_15 : decode (tb_me 186).1.2.1 15 = .ok (.getfield 26, 3) := by decide +kernel
theorem d186_18 : decode (tb_me 186).1.2.1 18 = .ok (.iload_n 1, 1) := by decide +kernel
theorem d186_19 : decode (tb_me 186).1.2.1 19 = .ok (.iconst 0, 1) := by decide +kernel
theorem d186_20 : decode (tb_me 186).1.2.1 20 = .ok (.iastore, 1) := by decide +kernel
theorem d186_21 : decode (tb_me 186).1.2.1 21 = .ok (.iinc 1 1, 3) := by decide +kernel
theorem d186_24 : decode (tb_me 186).1.2.1 24 = .ok (.goto (-16), 3) := by decide +kernel
theorem d186_0 : decode (tb_me 186).1.2.1 0 = .ok (.aload_n 0, 1) := by decide +kernel
theorem d186_1 : decode (tb_me 186).1.2.1 1 = .ok (.bipush 6, 2) := by decide +kernel
theorem d186_3 : decode (tb_me 186).1.2.1 3 = .ok (.putfield 138, 3) := by decide +kernel
theorem k186_138 (b : Bool) : tb_lk b 186 138 = (1, 10, 11, 0, 0) := by cases b <;> decide +kernel
theorem p186_10_11 : (11 < pm_nf tb_cl 10) ∧ tb_ft 10 11 = .int ∧ pm_fin tb_cl (tb_me 186).1.1 10 11 = true := by decide +kernel
theorem d186_6 : decode (tb_me 186).1.2.1 6 = .ok (.iconst 0, 1) := by decide +kernel
theorem d186_7 : decode (tb_me 186).1.2.1 7 = .ok (.istore_n 1, 1) := by decide +kernel
theorem d186_27 : decode (tb_me 186).1.2.1 27 = .ok (.iconst 0, 1) := by decide +kernel
theorem d186_28 : decode (tb_me 186).1.2.1 28 = .ok (.istore_n 1, 1) := by decide +kernel
theorem d186_51 : decode (tb_me 186).1.2.1 51 = .ok (.aload_n 0, 1) := by decide +kernel
theorem d186_52 : decode (tb_me 186).1.2.1 52 = .ok (.invokevirtual 249, 3) := by decide +kernel
theorem k186_249 (b : Bool) : tb_lk b 186 249 = (2, 184, 0, 0, 0) := by cases b <;> decide +kernel
theorem d186_55 : decode (tb_me 186).1.2.1 55 = .ok (.ifCond .ne 11, 3) := by decide +kernel
theorem d186_66 : decode (tb_me 186).1.2.1 66 = .ok (.iconst 0, 1) := by decide +kernel
theorem d186_67 : decode (tb_me 186).1.2.1 67 = .ok (.istore_n 1, 1) := by decide +kernel
theorem d186_104 : decode (tb_me 186).1.2.1 104 = .ok (.aload_n 0, 1) := by decide +kernel
theorem d186_105 : decode (tb_me 186).1.2.1 105 = .ok (.getfield 39, 3) := by decide +kernel
theorem d186_108 : decode (tb_me 186).1.2.1 108 = .ok (.bipush 6, 2) := by decide +kernel
theorem d186_110 : decode (tb_me 186).1.2.1 110 = .ok (.iconst (-1), 1) := by decide +kernel
theorem d186_111 : decode (tb_me 186).1.2.1 111 = .ok (.iastore, 1) := by decide +kernel
theorem d186_112 : decode (tb_me 186).1.2.1 112 = .ok (.aload_n 0, 1) := by decide +kernel
theorem d186_113 : decode (tb_me 186).1.2.1 113 = .ok (.iconst 0, 1) := by decide +kernel
theorem d186_114 : decode (tb_me 186).1.2.1 114 = .ok (.putfield 252, 3) := by decide +kernel
theorem k186_252 (b : Bool) : tb_lk b 186 252 = (1, 10, 28, 0, 0) := by cases b <;> decide +kernel
theorem p186_10_28 : (28 < pm_nf tb_cl 10) ∧ tb_ft 10 28 = .int ∧ pm_fin tb_cl (tb_me 186).1.1 10 28 = true := by decide +kernel
theorem d186_117 : decode (tb_me 186).1.2.1 117 = .ok (.aload_n 0, 1) := by decide +kernel
theorem d186_118 : decode (tb_me 186).1.2.1 118 = .ok (.getfield 39, 3) := by decide +kernel
theorem d186_121 : decode (tb_me 186).1.2.1 121 = .ok (.iconst 1, 1) := by decide +kernel
theorem d186_122 : decode (tb_me 186).1.2.1 122 = .ok (.iaload, 1) := by decide +kernel
theorem d186_123 : decode (tb_me 186).1.2.1 123 = .ok (.ireturn, 1) := by decide +kernel
theorem t186 : (tb_me 186).1.2.2.2 = some .int := by decide +kernel
theorem d186_58 : decode (tb_me 186).1.2.1 58 = .ok (.bipush (-2), 2) := by decide +kernel
theorem d186_60 : decode (tb_me 186).1.2.1 60 = .ok (.aload_n 0, 1) := by decide +kernel
theorem d186_61 : decode (tb_me 186).1.2.1 61 = .ok (.getfield 81, 3) := by decide +kernel
theorem k186_81 (b : Bool) : tb_lk b 186 81 = (1, 10, 9, 0, 0) := by cases b <;> decide +kernel
theorem d186_64 : decode (tb_me 186).1.2.1 64 = .ok (.isub, 1) := by decide +kernel
theorem d186_65 : decode (tb_me 186).1.2.1 65 = .ok (.ireturn, 1) := by decide +kernel
theorem e186 : (tb_me 186).2.1 = (0, 0) ∧ (tb_me 186).1.2.2.1 = 2 := by decide +kernel
theorem d187_0 : decode (tb_me 187).1.2.1 0 = .ok (.iload_n 1, 1) := by decide +kernel
theorem d187_1 : decode (tb_me 187).1.2.1 1 = .ok (.ifCond .lt 15, 3) := by decide +kernel
theorem d187_16 : decode (tb_me 187).1.2.1 16 = .ok (.iconst 0, 1) := by decide +kernel
theorem d187_17 : decode (tb_me 187).1.2.1 17 = .ok (.ireturn, 1) := by decide +kernel
theorem t187 : (tb_me 187).1.2.2.2 = some .boolean := by decide +kernel
theorem d187_4 : decode (tb_me 187).1.2.1 4 = .ok (.iload_n 1, 1) := by decide +kernel
theorem d187_5 : decode (tb_me 187).1.2.1 5 = .ok (.aload_n 0, 1) := by decide +kernel
theorem d187_6 : decode (tb_me 187).1.2.1 6 = .ok (.getfield 246, 3) := by decide +kernel
theorem k187_246 (b : Bool) : tb_lk b 187 246 = (1, 10, 2, 0, 0) := by cases b <;> decide +kernel
theorem d187_9 : decode (tb_me 187).1.2.1 9 = .ok (.if_icmp .ge 7, 3) := by decide +kernel
theorem d187_12 : decode (tb_me 187).1.2.1 12 = .ok (.iconst 1, 1) := by decide +kernel
theorem d187_13 : decode (tb_me 187).1.2.1 13 = .ok (.goto 4, 3) := by decide +kernel
theorem e187 : (tb_me 187).2.1 = (0, 0) ∧ (tb_me 187).1.2.2.1 = 2 := by decide +kernel
theorem d188_0 : decode (tb_me 188).1.2.1 0 = .ok (.aload_n 0, 1) := by decide +kernel
theorem d188_1 : decode (tb_me 188).1.2.1 1 = .ok (.getfield 32, 3) := by decide +kernel
theorem k188_32 (b : Bool) : tb_lk b 188 32 = (1, 10, 17, 0, 0) := by cases b <;> decide +kernel
theorem f10_17 : (17 < pm_nf tb_cl 10) ∧ tb_ft 10 17 ≠ .long ∧ pm_isR (tb_ft 10 17) = true := by decide +kernel
theorem d188_4 : decode (tb_me 188).1.2.1 4 = .ok (.aload_n 0, 1) := by decide +kernel
theorem d188_5 : decode (tb_me 188).1.2.1 5 = .ok (.getfield 255, 3) := by decide +kernel
theorem k188_255 (b : Bool) : tb_lk b 188 255 = (1, 10, 18, 0, 0) := by cases b <;> decide +kernel
theorem f10_18 : (18 < pm_nf tb_cl 10) ∧ tb_ft 10 18 ≠ .long ∧ pm_isR (tb_ft 10 18) = false := by decide +kernel
theorem d188_8 : decode (tb_me 188).1.2.1 8 = .ok (.lload_n 1, 1) := by decide +kernel
theorem d188_9 : decode (tb_me 188).1.2.1 9 = .ok (.lastore, 1) := by decide +kernel
theorem d188_10 : decode (tb_me 188).1.2.1 10 = .ok (.aload_n 0, 1) := by decide +kernel
theorem d188_11 : decode (tb_me 188).1.2.1 11 = .ok (.dup, 1) := by decide +kernel
theorem d188_12 : decode (tb_me 188).1.2.1 12 = .ok (.getfield 255, 3) := by decide +kernel
theorem d188_15 : decode (tb_me 188).1.2.1 15 = .ok (.iconst 1, 1) := by decide +kernel
theorem d188_16 : decode (tb_me 188).1.2.1 16 = .ok (.iadd, 1) := by decide +kernel
theorem d188_17 : decode (tb_me 188).1.2.1 17 = .ok (.putfield 255, 3) := by decide +kernel
theorem p188_10_18 : (18 < pm_nf tb_cl 10) ∧ tb_ft 10 18 = .int ∧ pm_fin tb_cl (tb_me 188).1.1 10 18 = true := by decide +kernel
theorem d188_20 : decode (tb_me 188).1.2.1 20 = .ok (.return_, 1) := by decide +kernel
theorem t188 : (tb_me 188).1.2.2.2 = none := by decide +kernel
theorem e188 : (tb_me 188).2.1 = (0, 0) ∧ (tb_me 188).1.2.2.1 = 3 := by decide +kernel
theorem d189_0 : decode (tb_me 189).1.2.1 0 = .ok (.aload_n 0, 1) := by decide +kernel
theorem d189_1 : decode (tb_me 189).1.2.1 1 = .ok (.dup, 1) := by decide +kernel
theorem d189_2 : decode (tb_me 189).1.2.1 2 = .ok (.getfield 255, 3) := by decide +kernel
theorem k189_255 (b : Bool) : tb_lk b 189 255 = (1, 10, 18, 0, 0) := by cases b <;> decide +kernel
theorem d189_5 : decode (tb_me 189).1.2.1 5 = .ok (.iconst 1, 1) := by decide +kernel
theorem d189_6 : decode (tb_me 189).1.2.1 6 = .ok (.isub, 1) := by decide +kernel
theorem d189_7 : decode (tb_me 189).1.2.1 7 = .ok (.putfield 255, 3) := by decide +kernel
theorem p189_10_18 : (18 < pm_nf tb_cl 10) ∧ tb_ft 10 18 = .int ∧ pm_fin tb_cl (tb_me 189).1.1 10 18 = true := by decide +kernel
theorem d189_10 : decode (tb_me 189).1.2.1 10 = .ok (.aload_n 0, 1) := by decide +kernel
theorem d189_11 : decode (tb_me 189).1.2.1 11 = .ok (.getfield 32, 3) := by decide +kernel
theorem k189_32 (b : Bool) : tb_lk b 189 32 = (1, 10, 17, 0, 0) := by cases b <;> decide +kernel
theorem d189_14 : decode (tb_me 189).1.2.1 14 = .ok (.aload_n 0, 1) := by decide +kernel
theorem d189_15 : decode (tb_me 189).1.2.1 15 = .ok (.getfield 255, 3) := by decide +kernel
theorem d189_18 : decode (tb_me 189).1.2.1 18 = .ok (.laload, 1) := by decide +kernel
theorem d189_19 : decode (tb_me 189).1.2.1 19 = .ok (.lreturn, 1) := by decide +kernel
theorem t189 : (tb_me 189).1.2.2.2 = some .long := by decide +kernel
theorem e189 : (tb_me 189).2.1 = (0, 0) ∧ (tb_me 189).1.2.2.1 = 1 := by decide +kernel
theorem d190_0 : decode (tb_me 190).1.2.1 0 = .ok (.iload_n 0, 1) := by decide +kernel
theorem d190_1 : decode (tb_me 190).1.2.1 1 = .ok (.tableswitch 171 2 14 #[67, 71, 75, 79, 107, 119, 131, 143, 155, 171, 167, 171, 93], 67) := by decide +kernel
theorem d190_68 : decode (tb_me 190).1.2.1 68 = .ok (.lload_n 1, 1) := by decide +kernel
theorem d190_69 : decode (tb_me 190).1.2.1 69 = .ok (.lload_n 3, 1) := by decide +kernel
theorem d190_70 : decode (tb_me 190).1.2.1 70 = .ok (.ladd, 1) := by decide +kernel
theorem d190_71 : decode (tb_me 190).1.2.1 71 = .ok (.lreturn, 1) := by decide +kernel
theorem t190 : (tb_me 190).1.2.2.2 = some .long := by decide +kernel
theorem d190_72 : decode (tb_me 190).1.2.1 72 = .ok (.lload_n 1, 1) := by decide +kernel
theorem d190_73 : decode (tb_me 190).1.2.1 73 = .ok (.lload_n 3, 1) := by decide +kernel
theorem d190_74 : decode (tb_me 190).1.2.1 74 = .ok (.lsub, 1) := by decide +kernel
theorem d190_75 : decode (tb_me 190).1.2.1 75 = .ok (.lreturn, 1) := by decide +kernel
theorem d190_76 : decode (tb_me 190).1.2.1 76 = .ok (.lload_n 1, 1) := by decide +kernel
theorem d190_77 : decode (tb_me 190).1.2.1 77 = .ok (.lload_n 3, 1) := by decide +kernel
theorem d190_78 : decode (tb_me 190).1.2.1 78 = .ok (.lmul, 1) := by decide +kernel
theorem d190_79 : decode (tb_me 190).1.2.1 79 = .ok (.lreturn, 1) := by decide +kernel
theorem d190_80 : decode (tb_me 190).1.2.1 80 = .ok (.lload_n 3, 1) := by decide +kernel
theorem d190_81 : decode (tb_me 190).1.2.1 81 = .ok (.lconst 0, 1) := by decide +kernel
theorem d190_82 : decode (tb_me 190).1.2.1 82 = .ok (.lcmp, 1) := by decide +kernel
theorem d190_83 : decode (tb_me 190).1.2.1 83 = .ok (.ifCond .ne 7, 3) := by decide +kernel
theorem d190_90 : decode (tb_me 190).1.2.1 90 = .ok (.lload_n 1, 1) := by decide +kernel
theorem d190_91 : decode (tb_me 190).1.2.1 91 = .ok (.lload_n 3, 1) := by decide +kernel
theorem d190_92 : decode (tb_me 190).1.2.1 92 = .ok (.ldiv, 1) := by decide +kernel
theorem d190_93 : decode (tb_me 190).1.2.1 93 = .ok (.lreturn, 1) := by decide +kernel
theorem d190_86 : decode (tb_me 190).1.2.1 86 = .ok (.lconst 0, 1) := by decide +kernel
theorem d190_87 : decode (tb_me 190).1.2.1 87 = .ok (.goto 6, 3) := by decide +kernel
theorem d190_108 : decode (tb_me 190).1.2.1 108 = .ok (.lload_n 1, 1) := by decide +kernel
theorem d190_109 : decode (tb_me 190).1.2.1 109 = .ok (.lload_n 3, 1) := by decide +kernel
theorem d190_110 : decode (tb_me 190).1.2.1 110 = .ok (.lcmp, 1) := by decide +kernel
theorem d190_111 : decode (tb_me 190).1.2.1 111 = .ok (.ifCond .ge 7, 3) := by decide +kernel
theorem d190_118 : decode (tb_me 190).1.2.1 118 = .ok (.lconst 0, 1) := by decide +kernel
theorem d190_119 : decode (tb_me 190).1.2.1 119 = .ok (.lreturn, 1) := by decide +kernel
theorem d190_114 : decode (tb_me 190).1.2.1 114 = .ok (.lconst 1, 1) := by decide +kernel
theorem d190_115 : decode (tb_me 190).1.2.1 115 = .ok (.goto 4, 3) := by decide +kernel
theorem d190_120 : decode (tb_me 190).1.2.1 120 = .ok (.lload_n 1, 1) := by decide +kernel
theorem d190_121 : decode (tb_me 190).1.2.1 121 = .ok (.lload_n 3, 1) := by decide +kernel
theorem d190_122 : decode (tb_me 190).1.2.1 122 = .ok (.lcmp, 1) := by decide +kernel
theorem d190_123 : decode (tb_me 190).1.2.1 123 = .ok (.ifCond .gt 7, 3) := by decide +kernel
theorem d190_130 : decode (tb_me 190).1.2.1 130 = .ok (.lconst 0, 1) := by decide +kernel
theorem d190_131 : decode (tb_me 190).1.2.1 131 = .ok (.lreturn, 1) := by decide +kernel
theorem d190_126 : decode (tb_me 190).1.2.1 126 = .ok (.lconst 1, 1) := by decide +kernel
theorem d190_127 : decode (tb_me 190).1.2.1 127 = .ok (.goto 4, 3) := by decide +kernel
theorem d190_132 : decode (tb_me 190).1.2.1 132 = .ok (.lload_n 1, 1) := by decide +kernel
theorem d190_133 : decode (tb_me 190).1.2.1 133 = .ok (.lload_n 3, 1) := by decide +kernel
theorem d190_134 : decode (tb_me 190).1.2.1 134 = .ok (.lcmp, 1) := by decide +kernel
theorem d190_135 : decode (tb_me 190).1.2.1 135 = .ok (.ifCond .ne 7, 3) := by decide +kernel
theorem d190_142 : decode (tb_me 190).1.2.1 142 = .ok (.lconst 0, 1) := by decide +kernel
theorem d190_143 : decode (tb_me 190).1.2.1 143 = .ok (.lreturn, 1) := by decide +kernel
theorem d190_138 : decode (tb_me 190).1.2.1 138 = .ok (.lconst 1, 1) := by decide +kernel
theorem d190_139 : decode (tb_me 190).1.2.1 139 = .ok (.goto 4, 3) := by decide +kernel
theorem d190_144 : decode (tb_me 190).1.2.1 144 = .ok (.lload_n 1, 1) := by decide +kernel
theorem d190_145 : decode (tb_me 190).1.2.1 145 = .ok (.lload_n 3, 1) := by decide +kernel
theorem d190_146 : decode (tb_me 190).1.2.1 146 = .ok (.lcmp, 1) := by decide +kernel
theorem d190_147 : decode (tb_me 190).1.2.1 147 = .ok (.ifCond .lt 7, 3) := by decide +kernel
theorem d190_154 : decode (tb_me 190).1.2.1 154 = .ok (.lconst 0, 1) := by decide +kernel
theorem d190_155 : decode (tb_me 190).1.2.1 155 = .ok (.lreturn, 1) := by decide +kernel
theorem d190_150 : decode (tb_me 190).1.2.1 150 = .ok (.lconst 1, 1) := by decide +kernel
theorem d190_151 : decode (tb_me 190).1.2.1 151 = .ok (.goto 4, 3) := by decide +kernel
theorem d190_156 : decode (tb_me 190).1.2.1 156 = .ok (.lload_n 1, 1) := by decide +kernel
theorem d190_157 : decode (tb_me 190).1.2.1 157 = .ok (.lload_n 3, 1) := by decide +kernel
theorem d190_158 : decode (tb_me 190).1.2.1 158 = .ok (.lcmp, 1) := by decide +kernel
theorem d190_159 : decode (tb_me 190).1.2.1 159 = .ok (.ifCond .le 7, 3) := by decide +kernel
theorem d190_166 : decode (tb_me 190).1.2.1 166 = .ok (.lconst 0, 1) := by decide +kernel
theorem d190_167 : decode (tb_me 190).1.2.1 167 = .ok (.lreturn, 1) := by decide +kernel
theorem d190_162 : decode (tb_me 190).1.2.1 162 = .ok (.lconst 1, 1) := by decide +kernel
theorem d190_163 : decode (tb_me 190).1.2.1 163 = .ok (.goto 4, 3) := by decide +kernel
theorem d190_172 : decode (tb_me 190).1.2.1 172 = .ok (.lload_n 1, 1) := by decide +kernel
theorem d190_173 : decode (tb_me 190).1.2.1 173 = .ok (.lload_n 3, 1) := by decide +kernel
theorem d190_174 : decode (tb_me 190).1.2.1 174 = .ok (.lor, 1) := by decide +kernel
theorem d190_175 : decode (tb_me 190).1.2.1 175 = .ok (.lreturn, 1) := by decide +kernel
theorem d190_168 : decode (tb_me 190).1.2.1 168 = .ok (.lload_n 1, 1) := by decide +kernel
theorem d190_169 : decode (tb_me 190).1.2.1 169 = .ok (.lload_n 3, 1) := by decide +kernel
theorem d190_170 : decode (tb_me 190).1.2.1 170 = .ok (.land, 1) := by decide +kernel
theorem d190_171 : decode (tb_me 190).1.2.1 171 = .ok (.lreturn, 1) := by decide +kernel
theorem d190_94 : decode (tb_me 190).1.2.1 94 = .ok (.lload_n 3, 1) := by decide +kernel
theorem d190_95 : decode (tb_me 190).1.2.1 95 = .ok (.lconst 0, 1) := by decide +kernel
theorem d190_96 : decode (tb_me 190).1.2.1 96 = .ok (.lcmp, 1) := by decide +kernel
theorem d190_97 : decode (tb_me 190).1.2.1 97 = .ok (.ifCond .ne 7, 3) := by decide +kernel
theorem d190_104 : decode (tb_me 190).1.2.1 104 = .ok (.lload_n 1, 1) := by decide +kernel
theorem d190_105 : decode (tb_me 190).1.2.1 105 = .ok (.lload_n 3, 1) := by decide +kernel
theorem d190_106 : decode (tb_me 190).1.2.1 106 = .ok (.lrem, 1) := by decide +kernel
theorem d190_107 : decode (tb_me 190).1.2.1 107 = .ok (.lreturn, 1) := by decide +kernel
theorem d190_100 : decode (tb_me 190).1.2.1 100 = .ok (.lconst 0, 1) := by decide +kernel
theorem d190_101 : decode (tb_me 190).1.2.1 101 = .ok (.goto 6, 3) := by decide +kernel
theorem e190 : (tb_me 190).2.1 = (0, 0) ∧ (tb_me 190).1.2.2.1 = 5 := by decide +kernel
theorem d191_8 : decode (tb_me 191).1.2.1 8 = .ok (.iload 4, 2) := by decide +kernel
theorem d191_10 : decode (tb_me 191).1.2.1 10 = .ok (.iload_n 3, 1) := by decide +kernel
theorem d191_11 : decode (tb_me 191).1.2.1 11 = .ok (.if_icmp .ge 124, 3) := by decide +kernel
theorem d191_14 : decode (tb_me 191).1.2.1 14 = .ok (.aload_n 0, 1) := by decide +kernel
theorem d191_15 : decode (tb_me 191).1.2.1 15 = .ok (.getfield 13, 3) := by decide +kernel
theorem k191_13 (b : Bool) : tb_lk b 191 13 = (1, 10, 3, 0, 0) := by cases b <;> decide +kernel
theorem d191_18 : decode (tb_me 191).1.2.1 18 = .ok (.sipush 400, 3) := by decide +kernel
theorem d191_21 : decode (tb_me 191).1.2.1 21 = .ok (.iload_n 1, 1) := by decide +kernel
theorem d191_22 : decode (tb_me 191).1.2.1 22 = .ok (.imul, 1) := by decide +kernel
theorem d191_23 : decode (tb_me 191).1.2.1 23 = .ok (.iload 4, 2) := by decide +kernel
theorem d191_25 : decode (tb_me 191).1.2.1 25 = .ok (.iadd, 1) := by decide +kernel
theorem d191_26 : decode (tb_me 191).1.2.1 26 = .ok (.iaload, 1) := by decide +kernel
theorem d191_27 : decode (tb_me 191).1.2.1 27 = .ok (.bipush 15, 2) := by decide +kernel
theorem d191_29 : decode (tb_me 191).1.2.1 29 = .ok (.iand, 1) := by decide +kernel
theorem d191_30 : decode (tb_me 191).1.2.1 30 = .ok (.istore 5, 2) := by decide +kernel
theorem d191_32 : decode (tb_me 191).1.2.1 32 = .ok (.aload_n 0, 1) := by decide +kernel
theorem d191_33 : decode (tb_me 191).1.2.1 33 = .ok (.getfield 13, 3) := by decide +kernel
theorem d191_36 : decode (tb_me 191).1.2.1 36 = .ok (.sipush 400, 3) := by decide +kernel
theorem d191_39 : decode (tb_me 191).1.2.1 39 = .ok (.iload_n 1, 1) := by decide +kernel
theorem d191_40 : decode (tb_me 191).1.2.1 40 = .ok (.imul, 1) := by decide +kernel
theorem d191_41 : decode (tb_me 191).1.2.1 41 = .ok (.iload 4, 2) := by decide +kernel
theorem d191_43 : decode (tb_me 191).1.2.1 43 = .ok (.iadd, 1) := by decide +kernel
theorem d191_44 : decode (tb_me 191).1.2.1 44 = .ok (.iaload, 1) := by decide +kernel
theorem d191_45 : decode (tb_me 191).1.2.1 45 = .ok (.iconst 4, 1) := by decide +kernel
theorem d191_46 : decode (tb_me 191).1.2.1 46 = .ok (.ishr, 1) := by decide +kernel
theorem d191_47 : decode (tb_me 191).1.2.1 47 = .ok (.istore 6, 2) := by decide +kernel
theorem d191_49 : decode (tb_me 191).1.2.1 49 = .ok (.iload 5, 2) := by decide +kernel
theorem d191_51 : decode (tb_me 191).1.2.1 51 = .ok (.ifCond .ne 13, 3) := by decide +kernel
theorem d191_64 : decode (tb_me 191).1.2.1 64 = .ok (.iload 5, 2) := by decide +kernel
theorem d191_66 : decode (tb_me 191).1.2.1 66 = .ok (.iconst 1, 1) := by decide +kernel
theorem d191_67 : decode (tb_me 191).1.2.1 67 = .ok (.if_icmp .ne 17, 3) := by decide +kernel
theorem d191_84 : decode (tb_me 191).1.2.1 84 = .ok (.iload 5, 2) := by decide +kernel
theorem d191_86 : decode (tb_me 191).1.2.1 86 = .ok (.bipush 11, 2) := by decide +kernel
theorem d191_88 : decode (tb_me 191).1.2.1 88 = .ok (.if_icmp .ne 16, 3) := by decide +kernel
theorem d191_104 : decode (tb_me 191).1.2.1 104 = .ok (.aload_n 0, 1) := by decide +kernel
theorem d191_105 : decode (tb_me 191).1.2.1 105 = .ok (.invokevirtual 262, 3) := by decide +kernel
theorem k191_262 (b : Bool) : tb_lk b 191 262 = (2, 189, 0, 0, 0) := by cases b <;> decide +kernel
theorem m189 : (tb_me 189).2 = ((0, 0), (0, 10)) ∧ (tb_me 189).1.2.2.1 = 1 := by decide +kernel
theorem d191_108 : decode (tb_me 191).1.2.1 108 = .ok (.lstore 7, 2) := by decide +kernel
theorem d191_110 : decode (tb_me 191).1.2.1 110 = .ok (.aload_n 0, 1) := by decide +kernel
theorem d191_111 : decode (tb_me 191).1.2.1 111 = .ok (.invokevirtual 262, 3) := by decide +kernel
theorem d191_114 : decode (tb_me 191).1.2.1 114 = .ok (.lstore 9, 2) := by decide +kernel
theorem d191_116 : decode (tb_me 191).1.2.1 116 = .ok (.aload_n 0, 1) := by decide +kernel
theorem d191_117 : decode (tb_me 191).1.2.1 117 = .ok (.iload 5, 2) := by decide +kernel
theorem d191_119 : decode (tb_me 191).1.2.1 119 = .ok (.lload 9, 2) := by decide +kernel
theorem d191_121 : decode (tb_me 191).1.2.1 121 = .ok (.lload 7, 2) := by decide +kernel
theorem d191_123 : decode (tb_me 191).1.2.1 123 = .ok (.invokestatic 266, 3) := by decide +kernel
theorem k191_266 (b : Bool) : tb_lk b 191 266 = (4, 190, 0, 0, 0) := by cases b <;> decide +kernel
theorem m190 : (tb_me 190).2 = ((0, 0), (3, 999)) ∧ (tb_me 190).1.2.2.1 = 5 := by decide +kernel
theorem d191_126 : decode (tb_me 191).1.2.1 126 = .ok (.invokevirtual 258, 3) := by decide +kernel
theorem k191_258 (b : Bool) : tb_lk b 191 258 = (2, 188, 0, 0, 0) := by cases b <;> decide +kernel
theorem m188 : (tb_me 188).2 = ((0, 0), (1, 10)) ∧ (tb_me 188).1.2.2.1 = 3 := by decide +kernel
theorem d191_129 : decode (tb_me 191).1.2.1 129 = .ok (.iinc 4 1, 3) := by decide +kernel
theorem d191_132 : decode (tb_me 191).1.2.1 132 = .ok (.goto (-124), 3) := by decide +kernel
theorem d191_91 : decode (tb_me 191).1.2.1 91 = .ok (.aload_n 0, 1) := by decide +kernel
theorem d191_92 : decode (tb_me 191).1.2.1 92 = .ok (.lconst 1, 1) := by decide +kernel
theorem d191_93 : decode (tb_me 191).1.2.1 93 = .ok (.aload_n 0, 1) := by decide +kernel
theorem d191_94 : decode (tb_me 191).1.2.1 94 = .ok (.invokevirtual 262, 3) := by decide +kernel
theorem d191_97 : decode (tb_me 191).1.2.1 97 = .ok (.lsub, 1) := by decide +kernel
theorem d191_98 : decode (tb_me 191).1.2.1 98 = .ok (.invokevirtual 258, 3) := by decide +kernel
theorem d191_101 : decode (tb_me 191).1.2.1 101 = .ok (.goto 28, 3) := by decide +kernel
theorem d191_70 : decode (tb_me 191).1.2.1 70 = .ok (.aload_n 0, 1) := by decide +kernel
theorem d191_71 : decode (tb_me 191).1.2.1 71 = .ok (.aload_n 0, 1) := by decide +kernel
theorem d191_72 : decode (tb_me 191).1.2.1 72 = .ok (.getfield 36, 3) := by decide +kernel
theorem k191_36 (b : Bool) : tb_lk b 191 36 = (1, 10, 19, 0, 0) := by cases b <;> decide +kernel
theorem f10_19 : (19 < pm_nf tb_cl 10) ∧ tb_ft 10 19 ≠ .long ∧ pm_isR (tb_ft 10 19) = true := by decide +kernel
theorem d191_75 : decode (tb_me 191).1.2.1 75 = .ok (.iload 6, 2) := by decide +kernel
theorem d191_77 : decode (tb_me 191).1.2.1 77 = .ok (.laload, 1) := by decide +kernel
theorem d191_78 : decode (tb_me 191).1.2.1 78 = .ok (.invokevirtual 258, 3) := by decide +kernel
theorem d191_81 : decode (tb_me 191).1.2.1 81 = .ok (.goto 48, 3) := by decide +kernel
theorem d191_54 : decode (tb_me 191).1.2.1 54 = .ok (.aload_n 0, 1) := by decide +kernel
theorem d191_55 : decode (tb_me 191).1.2.1 55 = .ok (.iload 6, 2) := by decide +kernel
theorem d191_57 : decode (tb_me 191).1.2.1 57 = .ok (.i2l, 1) := by decide +kernel
theorem d191_58 : decode (tb_me 191).1.2.1 58 = .ok (.invokevirtual 258, 3) := by decide +kernel
theorem d191_61 : decode (tb_me 191).1.2.1 61 = .ok (.goto 68, 3) := by decide +kernel
theorem d191_0 : decode (tb_me 191).1.2.1 0 = .ok (.aload_n 0, 1) := by decide +kernel
theorem d191_1 : decode (tb_me 191).1.2.1 1 = .ok (.iconst 0, 1) := by decide +kernel
theorem d191_2 : decode (tb_me 191).1.2.1 2 = .ok (.putfield 255, 3) := by decide +kernel
theorem k191_255 (b : Bool) : tb_lk b 191 255 = (1, 10, 18, 0, 0) := by cases b <;> decide +kernel
theorem p191_10_18 : (18 < pm_nf tb_cl 10) ∧ tb_ft 10 18 = .int ∧ pm_fin tb_cl (tb_me 191).1.1 10 18 = true := by decide +kernel
theorem d191_5 : decode (tb_me 191).1.2.1 5 = .ok (.iload_n 2, 1) := by decide +kernel
theorem d191_6 : decode (tb_me 191).1.2.1 6 = .ok (.istore 4, 2) := by decide +kernel
theorem d191_135 : decode (tb_me 191).1.2.1 135 = .ok (.aload_n 0, 1) := by decide +kernel
theorem d191_136 : decode (tb_me 191).1.2.1 136 = .ok (.invokevirtual 262, 3) := by decide +kernel
theorem d191_139 : decode (tb_me 191).1.2.1 139 = .ok (.lreturn, 1) := by decide +kernel
theorem t191 : (tb_me 191).1.2.2.2 = some .long := by decide +kernel
theorem e191 : (tb_me 191).2.1 = (0, 0) ∧ (tb_me 191).1.2.2.1 = 11 := by decide +kernel
theorem d192_0 : decode (tb_me 192).1.2.1 0 = .ok (.aload_n 0, 1) := by decide +kernel
theorem d192_1 : decode (tb_me 192).1.2.1 1 = .ok (.getfield 39, 3) := by decide +kernel
theorem k192_39 (b : Bool) : tb_lk b 192 39 = (1, 10, 20, 0, 0) := by cases b <;> decide +kernel
theorem d192_4 : decode (tb_me 192).1.2.1 4 = .ok (.iconst 0, 1) := by decide +kernel
theorem d192_5 : decode (tb_me 192).1.2.1 5 = .ok (.iaload, 1) := by decide +kernel
theorem d192_6 : decode (tb_me 192).1.2.1 6 = .ok (.ifCond .le 7, 3) := by decide +kernel
theorem d192_13 : decode (tb_me 192).1.2.1 13 = .ok (.iconst 0, 1) := by decide +kernel
theorem d192_14 : decode (tb_me 192).1.2.1 14 = .ok (.ireturn, 1) := by decide +kernel
theorem t192 : (tb_me 192).1.2.2.2 = some .boolean := by decide +kernel
theorem d192_9 : decode (tb_me 192).1.2.1 9 = .ok (.iconst 1, 1) := by decide +kernel
theorem d192_10 : decode (tb_me 192).1.2.1 10 = .ok (.goto 4, 3) := by decide +kernel
theorem e192 : (tb_me 192).2.1 = (0, 0) ∧ (tb_me 192).1.2.2.1 = 1 := by decide +kernel
theorem d193_0 : decode (tb_me 193).1.2.1 0 = .ok (.iload_n 1, 1) := by decide +kernel
theorem d193_1 : decode (tb_me 193).1.2.1 1 = .ok (.ifCond .lt 17, 3) := by decide +kernel
theorem d193_18 : decode (tb_me 193).1.2.1 18 = .ok (.iconst 0, 1) := by decide +kernel
theorem d193_19 : decode (tb_me 193).1.2.1 19 = .ok (.ireturn, 1) := by decide +kernel
theorem t193 : (tb_me 193).1.2.2.2 = some .boolean := by decide +kernel
theorem d193_4 : decode (tb_me 193).1.2.1 4 = .ok (.iload_n 1, 1) := by decide +kernel
theorem d193_5 : decode (tb_me 193).1.2.1 5 = .ok (.aload_n 0, 1) := by decide +kernel
theorem d193_6 : decode (tb_me 193).1.2.1 6 = .ok (.getfield 39, 3) := by decide +kernel
theorem k193_39 (b : Bool) : tb_lk b 193 39 = (1, 10, 20, 0, 0) := by cases b <;> decide +kernel
theorem d193_9 : decode (tb_me 193).1.2.1 9 = .ok (.iconst 1, 1) := by decide +kernel
theorem d193_10 : decode (tb_me 193).1.2.1 10 = .ok (.iaload, 1) := by decide +kernel
theorem d193_11 : decode (tb_me 193).1.2.1 11 = .ok (.if_icmp .ge 7, 3) := by decide +kernel
theorem d193_14 : decode (tb_me 193).1.2.1 14 = .ok (.iconst 1, 1) := by decide +kernel
theorem d193_15 : decode (tb_me 193).1.2.1 15 = .ok (.goto 4, 3) := by decide +kernel
theorem e193 : (tb_me 193).2.1 = (0, 0) ∧ (tb_me 193).1.2.2.1 = 2 := by decide +kernel
theorem d194_0 : decode (tb_me 194).1.2.1 0 = .ok (.iload_n 1, 1) := by decide +kernel
theorem d194_1 : decode (tb_me 194).1.2.1 1 = .ok (.ifCond .lt 17, 3) := by decide +kernel
theorem d194_18 : decode (tb_me 194).1.2.1 18 = .ok (.iconst 0, 1) := by decide +kernel
theorem d194_19 : decode (tb_me 194).1.2.1 19 = .ok (.ireturn, 1) := by decide +kernel
theorem t194 : (tb_me 194).1.2.2.2 = some .boolean := by decide +kernel
theorem d194_4 : decode (tb_me 194).1.2.1 4 = .ok (.iload_n 1, 1) := by decide +kernel
theorem d194_5 : decode (tb_me 194).1.2.1 5 = .ok (.aload_n 0, 1) := by decide +kernel
theorem d194_6 : decode (tb_me 194).1.2.1 6 = .ok (.getfield 39, 3) := by decide +kernel
theorem k194_39 (b : Bool) : tb_lk b 194 39 = (1, 10, 20, 0, 0) := by cases b <;> decide +kernel
theorem d194_9 : decode (tb_me 194).1.2.1 9 = .ok (.iconst 2, 1) := by decide +kernel
theorem d194_10 : decode (tb_me 194).1.2.1 10 = .ok (.iaload, 1) := by decide +kernel
theorem d194_11 : decode (tb_me 194).1.2.1 11 = .ok (.if_icmp .ge 7, 3) := by decide +kernel
theorem d194_14 : decode (tb_me 194).1.2.1 14 = .ok (.iconst 1, 1) := by decide +kernel
theorem d194_15 : decode (tb_me 194).1.2.1 15 = .ok (.goto 4, 3) := by decide +kernel
theorem e194 : (tb_me 194).2.1 = (0, 0) ∧ (tb_me 194).1.2.2.1 = 2 := by decide +kernel
theorem d195_0 : decode (tb_me 195).1.2.1 0 = .ok (.iload_n 1, 1) := by decide +kernel
theorem d195_1 : decode (tb_me 195).1.2.1 1 = .ok (.ifCond .lt 17, 3) := by decide +kernel
theorem d195_18 : decode (tb_me 195).1.2.1 18 = .ok (.iconst 0, 1) := by decide +kernel
theorem d195_19 : decode (tb_me 195).1.2.1 19 = .ok (.ireturn, 1) := by decide +kernel
theorem t195 : (tb_me 195).1.2.2.2 = some .boolean := by decide +kernel
theorem d195_4 : decode (tb_me 195).1.2.1 4 = .ok (.iload_n 1, 1) := by decide +kernel
theorem d195_5 : decode (tb_me 195).1.2.1 5 = .ok (.aload_n 0, 1) := by decide +kernel
theorem d195_6 : decode (tb_me 195).1.2.1 6 = .ok (.getfield 39, 3) := by decide +kernel
theorem k195_39 (b : Bool) : tb_lk b 195 39 = (1, 10, 20, 0, 0) := by cases b <;> decide +kernel
theorem d195_9 : decode (tb_me 195).1.2.1 9 = .ok (.iconst 0, 1) := by decide +kernel
theorem d195_10 : decode (tb_me 195).1.2.1 10 = .ok (.iaload, 1) := by decide +kernel
theorem d195_11 : decode (tb_me 195).1.2.1 11 = .ok (.if_icmp .ge 7, 3) := by decide +kernel
theorem d195_14 : decode (tb_me 195).1.2.1 14 = .ok (.iconst 1, 1) := by decide +kernel
theorem d195_15 : decode (tb_me 195).1.2.1 15 = .ok (.goto 4, 3) := by decide +kernel
theorem e195 : (tb_me 195).2.1 = (0, 0) ∧ (tb_me 195).1.2.2.1 = 2 := by decide +kernel
theorem d196_0 : decode (tb_me 196).1.2.1 0 = .ok (.aload_n 0, 1) := by decide +kernel
theorem d196_1 : decode (tb_me 196).1.2.1 1 = .ok (.getfield 39, 3) := by decide +kernel
theorem k196_39 (b : Bool) : tb_lk b 196 39 = (1, 10, 20, 0, 0) := by cases b <;> decide +kernel
theorem d196_4 : decode (tb_me 196).1.2.1 4 = .ok (.bipush 10, 2) := by decide +kernel
theorem d196_6 : decode (tb_me 196).1.2.1 6 = .ok (.bipush 6, 2) := by decide +kernel
theorem d196_8 : decode (tb_me 196).1.2.1 8 = .ok (.iload_n 1, 1) := by decide +kernel
theorem d196_9 : decode (tb_me 196).1.2.1 9 = .ok (.imul, 1) := by decide +kernel
theorem d196_10 : decode (tb_me 196).1.2.1 10 = .ok (.iadd, 1) := by decide +kernel
theorem d196_11 : decode (tb_me 196).1.2.1 11 = .ok (.iload_n 2, 1) := by decide +kernel
theorem d196_12 : decode (tb_me 196).1.2.1 12 = .ok (.iadd, 1) := by decide +kernel
theorem d196_13 : decode (tb_me 196).1.2.1 13 = .ok (.iaload, 1) := by decide +kernel
theorem d196_14 : decode (tb_me 196).1.2.1 14 = .ok (.ireturn, 1) := by decide +kernel
theorem t196 : (tb_me 196).1.2.2.2 = some .int := by decide +kernel
theorem e196 : (tb_me 196).2.1 = (0, 0) ∧ (tb_me 196).1.2.2.1 = 3 := by decide +kernel
theorem d197_0 : decode (tb_me 197).1.2.1 0 = .ok (.aload_n 0, 1) := by decide +kernel
theorem d197_1 : decode (tb_me 197).1.2.1 1 = .ok (.iload_n 1, 1) := by decide +kernel
theorem d197_2 : decode (tb_me 197).1.2.1 2 = .ok (.invokevirtual 270, 3) := by decide +kernel
theorem k197_270 (b : Bool) : tb_lk b 197 270 = (2, 193, 0, 0, 0) := by cases b <;> decide +kernel
theorem m193 : (tb_me 193).2 = ((0, 0), (1, 10)) ∧ (tb_me 193).1.2.2.1 = 2 := by decide +kernel
theorem d197_5 : decode (tb_me 197).1.2.1 5 = .ok (.ifCond .eq 16, 3) := by decide +kernel
theorem d197_21 : decode (tb_me 197).1.2.1 21 = .ok (.iconst 0, 1) := by decide +kernel
theorem d197_22 : decode (tb_me 197).1.2.1 22 = .ok (.ireturn, 1) := by decide +kernel
theorem t197 : (tb_me 197).1.2.2.2 = some .boolean := by decide +kernel
theorem d197_8 : decode (tb_me 197).1.2.1 8 = .ok (.aload_n 0, 1) := by decide +kernel
theorem d197_9 : decode (tb_me 197).1.2.1 9 = .ok (.iload_n 1, 1) := by decide +kernel
theorem d197_10 : decode (tb_me 197).1.2.1 10 = .ok (.iconst 4, 1) := by decide +kernel
theorem d197_11 : decode (tb_me 197).1.2.1 11 = .ok (.invokevirtual 273, 3) := by decide +kernel
theorem k197_273 (b : Bool) : tb_lk b 197 273 = (2, 196, 0, 0, 0) := by cases b <;> decide +kernel
theorem m196 : (tb_me 196).2 = ((0, 0), (2, 10)) ∧ (tb_me 196).1.2.2.1 = 3 := by decide +kernel
theorem d197_14 : decode (tb_me 197).1.2.1 14 = .ok (.ifCond .ne 7, 3) := by decide +kernel
theorem d197_17 : decode (tb_me 197).1.2.1 17 = .ok (.iconst 1, 1) := by decide +kernel
theorem d197_18 : decode (tb_me 197).1.2.1 18 = .ok (.goto 4, 3) := by decide +kernel
theorem e197 : (tb_me 197).2.1 = (0, 0) ∧ (tb_me 197).1.2.2.1 = 2 := by decide +kernel
theorem d198_0 : decode (tb_me 198).1.2.1 0 = .ok (.aload_n 0, 1) := by decide +kernel
theorem d198_1 : decode (tb_me 198).1.2.1 1 = .ok (.getfield 39, 3) := by decide +kernel
theorem k198_39 (b : Bool) : tb_lk b 198 39 = (1, 10, 20, 0, 0) := by cases b <;> decide +kernel
theorem d198_4 : decode (tb_me 198).1.2.1 4 = .ok (.iconst 5, 1) := by decide +kernel
theorem d198_5 : decode (tb_me 198).1.2.1 5 = .ok (.iaload, 1) := by decide +kernel
theorem d198_6 : decode (tb_me 198).1.2.1 6 = .ok (.ifCond .le 22, 3) := by decide +kernel
theorem d198_28 : decode (tb_me 198).1.2.1 28 = .ok (.iconst 0, 1) := by decide +kernel
theorem d198_29 : decode (tb_me 198).1.2.1 29 = .ok (.ireturn, 1) := by decide +kernel
theorem t198 : (tb_me 198).1.2.2.2 = some .boolean := by decide +kernel
theorem d198_9 : decode (tb_me 198).1.2.1 9 = .ok (.aload_n 0, 1) := by decide +kernel
theorem d198_10 : decode (tb_me 198).1.2.1 10 = .ok (.iload_n 1, 1) := by decide +kernel
theorem d198_11 : decode (tb_me 198).1.2.1 11 = .ok (.iconst 1, 1) := by decide +kernel
theorem d198_12 : decode (tb_me 198).1.2.1 12 = .ok (.invokevirtual 273, 3) := by decide +kernel
theorem k198_273 (b : Bool) : tb_lk b 198 273 = (2, 196, 0, 0, 0) := by cases b <;> decide +kernel
theorem d198_15 : decode (tb_me 198).1.2.1 15 = .ok (.aload_n 0, 1) := by decide +kernel
theorem d198_16 : decode (tb_me 198).1.2.1 16 = .ok (.getfield 39, 3) := by decide +kernel
theorem d198_19 : decode (tb_me 198).1.2.1 19 = .ok (.iconst 5, 1) := by decide +kernel
theorem d198_20 : decode (tb_me 198).1.2.1 20 = .ok (.iaload, 1) := by decide +kernel
theorem d198_21 : decode (tb_me 198).1.2.1 21 = .ok (.if_icmp .ne 7, 3) := by decide +kernel
theorem d198_24 : decode (tb_me 198).1.2.1 24 = .ok (.iconst 1, 1) := by decide +kernel
theorem d198_25 : decode (tb_me 198).1.2.1 25 = .ok (.goto 4, 3) := by decide +kernel
theorem e198 : (tb_me 198).2.1 = (0, 0) ∧ (tb_me 198).1.2.2.1 = 2 := by decide +kernel
theorem d199_0 : decode (tb_me 199).1.2.1 0 = .ok (.iload_n 1, 1) := by decide +kernel
theorem d199_1 : decode (tb_me 199).1.2.1 1 = .ok (.bipush 8, 2) := by decide +kernel
theorem d199_3 : decode (tb_me 199).1.2.1 3 = .ok (.if_icmp .ne 19, 3) := by decide +kernel
theorem d199_22 : decode (tb_me 199).1.2.1 22 = .ok (.aload_n 0, 1) := by decide +kernel
theorem d199_23 : decode (tb_me 199).1.2.1 23 = .ok (.iload_n 1, 1) := by decide +kernel
theorem d199_24 : decode (tb_me 199).1.2.1 24 = .ok (.invokevirtual 277, 3) := by decide +kernel
theorem k199_277 (b : Bool) : tb_lk b 199 277 = (2, 197, 0, 0, 0) := by cases b <;> decide +kernel
theorem m197 : (tb_me 197).2 = ((0, 0), (1, 10)) ∧ (tb_me 197).1.2.2.1 = 2 := by decide +kernel
theorem d199_27 : decode (tb_me 199).1.2.1 27 = .ok (.ifCond .eq 34, 3) := by decide +kernel
theorem d199_61 : decode (tb_me 199).1.2.1 61 = .ok (.iconst 0, 1) := by decide +kernel
theorem d199_62 : decode (tb_me 199).1.2.1 62 = .ok (.ireturn, 1) := by decide +kernel
theorem t199 : (tb_me 199).1.2.2.2 = some .boolean := by decide +kernel
theorem d199_30 : decode (tb_me 199).1.2.1 30 = .ok (.aload_n 0, 1) := by decide +kernel
theorem d199_31 : decode (tb_me 199).1.2.1 31 = .ok (.iload_n 1, 1) := by decide +kernel
theorem d199_32 : decode (tb_me 199).1.2.1 32 = .ok (.iconst 2, 1) := by decide +kernel
theorem d199_33 : decode (tb_me 199).1.2.1 33 = .ok (.invokevirtual 273, 3) := by decide +kernel
theorem k199_273 (b : Bool) : tb_lk b 199 273 = (2, 196, 0, 0, 0) := by cases b <;> decide +kernel
theorem d199_36 : decode (tb_me 199).1.2.1 36 = .ok (.iconst 1, 1) := by decide +kernel
theorem d199_37 : decode (tb_me 199).1.2.1 37 = .ok (.if_icmp .ne 24, 3) := by decide +kernel
theorem d199_40 : decode (tb_me 199).1.2.1 40 = .ok (.aload_n 0, 1) := by decide +kernel
theorem d199_41 : decode (tb_me 199).1.2.1 41 = .ok (.iload_n 1, 1) := by decide +kernel
theorem d199_42 : decode (tb_me 199).1.2.1 42 = .ok (.iconst 3, 1) := by decide +kernel
theorem d199_43 : decode (tb_me 199).1.2.1 43 = .ok (.invokevirtual 273, 3) := by decide +kernel
theorem d199_46 : decode (tb_me 199).1.2.1 46 = .ok (.ifCond .ne 15, 3) := by decide +kernel
theorem d199_49 : decode (tb_me 199).1.2.1 49 = .ok (.aload_n 0, 1) := by decide +kernel
theorem d199_50 : decode (tb_me 199).1.2.1 50 = .ok (.iload_n 1, 1) := by decide +kernel
theorem d199_51 : decode (tb_me 199).1.2.1 51 = .ok (.invokevirtual 280, 3) := by decide +kernel
theorem k199_280 (b : Bool) : tb_lk b 199 280 = (2, 198, 0, 0, 0) := by cases b <;> decide +kernel
theorem m198 : (tb_me 198).2 = ((0, 0), (1, 10)) ∧ (tb_me 198).1.2.2.1 = 2 := by decide +kernel
theorem d199_54 : decode (tb_me 199).1.2.1 54 = .ok (.ifCond .ne 7, 3) := by decide +kernel
theorem d199_57 : decode (tb_me 199).1.2.1 57 = .ok (.iconst 1, 1) := by decide +kernel
theorem d199_58 : decode (tb_me 199).1.2.1 58 = .ok (.goto 4, 3) := by decide +kernel
theorem d199_6 : decode (tb_me 199).1.2.1 6 = .ok (.aload_n 0, 1) := by decide +kernel
theorem d199_7 : decode (tb_me 199).1.2.1 7 = .ok (.getfield 39, 3) := by decide +kernel
theorem k199_39 (b : Bool) : tb_lk b 199 39 = (1, 10, 20, 0, 0) := by cases b <;> decide +kernel
theorem d199_10 : decode (tb_me 199).1.2.1 10 = .ok (.bipush 6, 2) := by decide +kernel
theorem d199_12 : decode (tb_me 199).1.2.1 12 = .ok (.iaload, 1) := by decide +kernel
theorem d199_13 : decode (tb_me 199).1.2.1 13 = .ok (.ifCond .lt 7, 3) := by decide +kernel
theorem d199_20 : decode (tb_me 199).1.2.1 20 = .ok (.iconst 0, 1) := by decide +kernel
theorem d199_21 : decode (tb_me 199).1.2.1 21 = .ok (.ireturn, 1) := by decide +kernel
theorem d199_16 : decode (tb_me 199).1.2.1 16 = .ok (.iconst 1, 1) := by decide +kernel
theorem d199_17 : decode (tb_me 199).1.2.1 17 = .ok (.goto 4, 3) := by decide +kernel
theorem e199 : (tb_me 199).2.1 = (0, 0) ∧ (tb_me 199).1.2.2.1 = 2 := by decide +kernel
theorem d200_26 : decode (tb_me 200).1.2.1 26 = .ok (.ior, 1) := by decide +kernel
theorem d200_27 : decode (tb_me 200).1.2.1 27 = .ok (.istore_n 1, 1) := by decide +kernel
theorem d200_28 : decode (tb_me 200).1.2.1 28 = .ok (.iinc 2 1, 3) := by decide +kernel
theorem d200_31 : decode (tb_me 200).1.2.1 31 = .ok (.goto (-27), 3) := by decide +kernel
theorem d200_4 : decode (tb_me 200).1.2.1 4 = .ok (.iload_n 2, 1) := by decide +kernel
theorem d200_5 : decode (tb_me 200).1.2.1 5 = .ok (.bipush 8, 2) := by decide +kernel
theorem d200_7 : decode (tb_me 200).1.2.1 7 = .ok (.if_icmp .gt 27, 3) := by decide +kernel
theorem d200_10 : decode (tb_me 200).1.2.1 10 = .ok (.iload_n 1, 1) := by decide +kernel
theorem d200_11 : decode (tb_me 200).1.2.1 11 = .ok (.aload_n 0, 1) := by decide +kernel
theorem d200_12 : decode (tb_me 200).1.2.1 12 = .ok (.iload_n 2, 1) := by decide +kernel
theorem d200_13 : decode (tb_me 200).1.2.1 13 = .ok (.invokevirtual 283, 3) := by decide +kernel
theorem k200_283 (b : Bool) : tb_lk b 200 283 = (2, 199, 0, 0, 0) := by cases b <;> decide +kernel
theorem m199 : (tb_me 199).2 = ((0, 0), (1, 10)) ∧ (tb_me 199).1.2.2.1 = 2 := by decide +kernel
theorem d200_16 : decode (tb_me 200).1.2.1 16 = .ok (.ifCond .eq 9, 3) := by decide +kernel
theorem d200_25 : decode (tb_me 200).1.2.1 25 = .ok (.iconst 0, 1) := by decide +kernel
theorem d200_19 : decode (tb_me 200).1.2.1 19 = .ok (.iconst 1, 1) := by decide +kernel
theorem d200_20 : decode (tb_me 200).1.2.1 20 = .ok (.iload_n 2, 1) := by decide +kernel
theorem d200_21 : decode (tb_me 200).1.2.1 21 = .ok (.ishl, 1) := by decide +kernel
theorem d200_22 : decode (tb_me 200).1.2.1 22 = .ok (.goto 4, 3) := by decide +kernel
theorem d200_0 : decode (tb_me 200).1.2.1 0 = .ok (.iconst 0, 1) := by decide +kernel
theorem d200_1 : decode (tb_me 200).1.2.1 1 = .ok (.istore_n 1, 1) := by decide +kernel
theorem d200_2 : decode (tb_me 200).1.2.1 2 = .ok (.iconst 0, 1) := by decide +kernel
theorem d200_3 : decode (tb_me 200).1.2.1 3 = .ok (.istore_n 2, 1) := by decide +kernel
theorem d200_34 : decode (tb_me 200).1.2.1 34 = .ok (.iload_n 1, 1) := by decide +kernel
theorem d200_35 : decode (tb_me 200).1.2.1 35 = .ok (.ireturn, 1) := by decide +kernel
theorem t200 : (tb_me 200).1.2.2.2 = some .int := by decide +kernel
theorem e200 : (tb_me 200).2.1 = (0, 0) ∧ (tb_me 200).1.2.2.1 = 3 := by decide +kernel
theorem d201_30 : decode (tb_me 201).1.2.1 30 = .ok (.ior, 1) := by decide +kernel
theorem d201_31 : decode (tb_me 201).1.2.1 31 = .ok (.istore_n 1, 1) := by decide +kernel
theorem d201_32 : decode (tb_me 201).1.2.1 32 = .ok (.iinc 2 1, 3) := by decide +kernel
theorem d201_35 : decode (tb_me 201).1.2.1 35 = .ok (.goto (-31), 3) := by decide +kernel
theorem d201_4 : decode (tb_me 201).1.2.1 4 = .ok (.iload_n 2, 1) := by decide +kernel
theorem d201_5 : decode (tb_me 201).1.2.1 5 = .ok (.aload_n 0, 1) := by decide +kernel
theorem d201_6 : decode (tb_me 201).1.2.1 6 = .ok (.getfield 39, 3) := by decide +kernel
theorem k201_39 (b : Bool) : tb_lk b 201 39 = (1, 10, 20, 0, 0) := by cases b <;> decide +kernel
theorem d201_9 : decode (tb_me 201).1.2.1 9 = .ok (.iconst 1, 1) := by decide +kernel
theorem d201_10 : decode (tb_me 201).1.2.1 10 = .ok (.iaload, 1) := by decide +kernel
theorem d201_11 : decode (tb_me 201).1.2.1 11 = .ok (.if_icmp .ge 27, 3) := by decide +kernel
theorem d201_14 : decode (tb_me 201).1.2.1 14 = .ok (.iload_n 1, 1) := by decide +kernel
theorem d201_15 : decode (tb_me 201).1.2.1 15 = .ok (.aload_n 0, 1) := by decide +kernel
theorem d201_16 : decode (tb_me 201).1.2.1 16 = .ok (.iload_n 2, 1) := by decide +kernel
theorem d201_17 : decode (tb_me 201).1.2.1 17 = .ok (.invokevirtual 277, 3) := by decide +kernel
theorem k201_277 (b : Bool) : tb_lk b 201 277 = (2, 197, 0, 0, 0) := by cases b <;> decide +kernel
theorem d201_20 : decode (tb_me 201).1.2.1 20 = .ok (.ifCond .eq 9, 3) := by decide +kernel
theorem d201_29 : decode (tb_me 201).1.2.1 29 = .ok (.iconst 0, 1) := by decide +kernel
theorem d201_23 : decode (tb_me 201).1.2.1 23 = .ok (.iconst 1, 1) := by decide +kernel
theorem d201_24 : decode (tb_me 201).1.2.1 24 = .ok (.iload_n 2, 1) := by decide +kernel
theorem d201_25 : decode (tb_me 201).1.2.1 25 = .ok (.ishl, 1) := by decide +kernel
theorem d201_26 : decode (tb_me 201).1.2.1 26 = .ok (.goto 4, 3) := by decide +kernel
theorem d201_0 : decode (tb_me 201).1.2.1 0 = .ok (.iconst 0, 1) := by decide +kernel
theorem d201_1 : decode (tb_me 201).1.2.1 1 = .ok (.istore_n 1, 1) := by decide +kernel
theorem d201_2 : decode (tb_me 201).1.2.1 2 = .ok (.iconst 0, 1) := by decide +kernel
theorem d201_3 : decode (tb_me 201).1.2.1 3 = .ok (.istore_n 2, 1) := by decide +kernel
theorem d201_38 : decode (tb_me 201).1.2.1 38 = .ok (.iload_n 1, 1) := by decide +kernel
theorem d201_39 : decode (tb_me 201).1.2.1 39 = .ok (.ireturn, 1) := by decide +kernel
theorem t201 : (tb_me 201).1.2.2.2 = some .int := by decide +kernel
theorem e201 : (tb_me 201).2.1 = (0, 0) ∧ (tb_me 201).1.2.2.1 = 3 := by decide +kernel
theorem d202_4 : decode (tb_me 202).1.2.1 4 = .ok (.iload_n 2, 1) := by decide +kernel
theorem d202_5 : decode (tb_me 202).1.2.1 5 = .ok (.aload_n 0, 1) := by decide +kernel
theorem d202_6 : decode (tb_me 202).1.2.1 6 = .ok (.getfield 39, 3) := by decide +kernel
theorem k202_39 (b : Bool) : tb_lk b 202 39 = (1, 10, 20, 0, 0) := by cases b <;> decide +kernel
theorem d202_9 : decode (tb_me 202).1.2.1 9 = .ok (.iconst 1, 1) := by decide +kernel
theorem d202_10 : decode (tb_me 202).1.2.1 10 = .ok (.iaload, 1) := by decide +kernel
theorem d202_11 : decode (tb_me 202).1.2.1 11 = .ok (.if_icmp .ge 20, 3) := by decide +kernel
theorem d202_14 : decode (tb_me 202).1.2.1 14 = .ok (.iload_n 1, 1) := by decide +kernel
theorem d202_15 : decode (tb_me 202).1.2.1 15 = .ok (.aload_n 0, 1) := by decide +kernel
theorem d202_16 : decode (tb_me 202).1.2.1 16 = .ok (.iload_n 2, 1) := by decide +kernel
theorem d202_17 : decode (tb_me 202).1.2.1 17 = .ok (.iconst 2, 1) := by decide +kernel
theorem d202_18 : decode (tb_me 202).1.2.1 18 = .ok (.invokevirtual 273, 3) := by decide +kernel
theorem k202_273 (b : Bool) : tb_lk b 202 273 = (2, 196, 0, 0, 0) := by cases b <;> decide +kernel
theorem d202_21 : decode (tb_me 202).1.2.1 21 = .ok (.iload_n 2, 1) := by decide +kernel
theorem d202_22 : decode (tb_me 202).1.2.1 22 = .ok (.ishl, 1) := by decide +kernel
theorem d202_23 : decode (tb_me 202).1.2.1 23 = .ok (.ior, 1) := by decide +kernel
theorem d202_24 : decode (tb_me 202).1.2.1 24 = .ok (.istore_n 1, 1) := by decide +kernel
theorem d202_25 : decode (tb_me 202).1.2.1 25 = .ok (.iinc 2 1, 3) := by decide +kernel
theorem d202_28 : decode (tb_me 202).1.2.1 28 = .ok (.goto (-24), 3) := by decide +kernel
theorem d202_0 : decode (tb_me 202).1.2.1 0 = .ok (.iconst 0, 1) := by decide +kernel
theorem d202_1 : decode (tb_me 202).1.2.1 1 = .ok (.istore_n 1, 1) := by decide +kernel
theorem d202_2 : decode (tb_me 202).1.2.1 2 = .ok (.iconst 0, 1) := by decide +kernel
theorem d202_3 : decode (tb_me 202).1.2.1 3 = .ok (.istore_n 2, 1) := by decide +kernel
theorem d202_31 : decode (tb_me 202).1.2.1 31 = .ok (.iload_n 1, 1) := by decide +kernel
theorem d202_32 : decode (tb_me 202).1.2.1 32 = .ok (.ireturn, 1) := by decide +kernel
theorem t202 : (tb_me 202).1.2.2.2 = some .int := by decide +kernel
theorem e202 : (tb_me 202).2.1 = (0, 0) ∧ (tb_me 202).1.2.2.1 = 3 := by decide +kernel
theorem d203_0 : decode (tb_me 203).1.2.1 0 = .ok (.aload_n 0, 1) := by decide +kernel
theorem d203_1 : decode (tb_me 203).1.2.1 1 = .ok (.getfield 39, 3) := by decide +kernel
theorem k203_39 (b : Bool) : tb_lk b 203 39 = (1, 10, 20, 0, 0) := by cases b <;> decide +kernel
theorem d203_4 : decode (tb_me 203).1.2.1 4 = .ok (.bipush 58, 2) := by decide +kernel
theorem d203_6 : decode (tb_me 203).1.2.1 6 = .ok (.bipush 6, 2) := by decide +kernel
theorem d203_8 : decode (tb_me 203).1.2.1 8 = .ok (.iload_n 1, 1) := by decide +kernel
theorem d203_9 : decode (tb_me 203).1.2.1 9 = .ok (.imul, 1) := by decide +kernel
theorem d203_10 : decode (tb_me 203).1.2.1 10 = .ok (.iadd, 1) := by decide +kernel
theorem d203_11 : decode (tb_me 203).1.2.1 11 = .ok (.iload_n 2, 1) := by decide +kernel
theorem d203_12 : decode (tb_me 203).1.2.1 12 = .ok (.iadd, 1) := by decide +kernel
theorem d203_13 : decode (tb_me 203).1.2.1 13 = .ok (.iaload, 1) := by decide +kernel
theorem d203_14 : decode (tb_me 203).1.2.1 14 = .ok (.ireturn, 1) := by decide +kernel
theorem t203 : (tb_me 203).1.2.2.2 = some .int := by decide +kernel
theorem e203 : (tb_me 203).2.1 = (0, 0) ∧ (tb_me 203).1.2.2.1 = 3 := by decide +kernel
theorem d204_0 : decode (tb_me 204).1.2.1 0 = .ok (.aload_n 0, 1) := by decide +kernel
theorem d204_1 : decode (tb_me 204).1.2.1 1 = .ok (.iload_n 1, 1) := by decide +kernel
theorem d204_2 : decode (tb_me 204).1.2.1 2 = .ok (.invokevirtual 270, 3) := by decide +kernel
theorem k204_270 (b : Bool) : tb_lk b 204 270 = (2, 193, 0, 0, 0) := by cases b <;> decide +kernel
theorem d204_5 : decode (tb_me 204).1.2.1 5 = .ok (.ifCond .eq 15, 3) := by decide +kernel
theorem d204_20 : decode (tb_me 204).1.2.1 20 = .ok (.iconst (-1), 1) := by decide +kernel
theorem d204_21 : decode (tb_me 204).1.2.1 21 = .ok (.ireturn, 1) := by decide +kernel
theorem t204 : (tb_me 204).1.2.2.2 = some .int := by decide +kernel
theorem d204_8 : decode (tb_me 204).1.2.1 8 = .ok (.iload_n 2, 1) := by decide +kernel
theorem d204_9 : decode (tb_me 204).1.2.1 9 = .ok (.i2l, 1) := by decide +kernel
theorem d204_10 : decode (tb_me 204).1.2.1 10 = .ok (.lconst 0, 1) := by decide +kernel
theorem d204_11 : decode (tb_me 204).1.2.1 11 = .ok (.ldc2_w 286, 3) := by decide +kernel
theorem k204_286 (b : Bool) : tb_lk b 204 286 = (12, 0, 0, 0, 6) := by cases b <;> decide +kernel
theorem d204_14 : decode (tb_me 204).1.2.1 14 = .ok (.invokestatic 112, 3) := by decide +kernel
theorem k204_112 (b : Bool) : tb_lk b 204 112 = (4, 148, 0, 0, 0) := by cases b <;> decide +kernel
theorem d204_17 : decode (tb_me 204).1.2.1 17 = .ok (.ifCond .ne 5, 3) := by decide +kernel
theorem d204_22 : decode (tb_me 204).1.2.1 22 = .ok (.iload_n 2, 1) := by decide +kernel
theorem d204_23 : decode (tb_me 204).1.2.1 23 = .ok (.bipush 6, 2) := by decide +kernel
theorem d204_25 : decode (tb_me 204).1.2.1 25 = .ok (.if_icmp .ge 12, 3) := by decide +kernel
theorem d204_37 : decode (tb_me 204).1.2.1 37 = .ok (.aload_n 0, 1) := by decide +kernel
theorem d204_38 : decode (tb_me 204).1.2.1 38 = .ok (.iload_n 1, 1) := by decide +kernel
theorem d204_39 : decode (tb_me 204).1.2.1 39 = .ok (.invokevirtual 283, 3) := by decide +kernel
theorem k204_283 (b : Bool) : tb_lk b 204 283 = (2, 199, 0, 0, 0) := by cases b <;> decide +kernel
theorem d204_42 : decode (tb_me 204).1.2.1 42 = .ok (.ifCond .eq 7, 3) := by decide +kernel
theorem d204_49 : decode (tb_me 204).1.2.1 49 = .ok (.iconst 0, 1) := by decide +kernel
theorem d204_50 : decode (tb_me 204).1.2.1 50 = .ok (.ireturn, 1) := by decide +kernel
theorem d204_45 : decode (tb_me 204).1.2.1 45 = .ok (.iconst 1, 1) := by decide +kernel
theorem d204_46 : decode (tb_me 204).1.2.1 46 = .ok (.goto 4, 3) := by decide +kernel
theorem d204_28 : decode (tb_me 204).1.2.1 28 = .ok (.aload_n 0, 1) := by decide +kernel
theorem d204_29 : decode (tb_me 204).1.2.1 29 = .ok (.iload_n 1, 1) := by decide +kernel
theorem d204_30 : decode (tb_me 204).1.2.1 30 = .ok (.iload_n 2, 1) := by decide +kernel
theorem d204_31 : decode (tb_me 204).1.2.1 31 = .ok (.invokevirtual 273, 3) := by decide +kernel
theorem k204_273 (b : Bool) : tb_lk b 204 273 = (2, 196, 0, 0, 0) := by cases b <;> decide +kernel
theorem d204_34 : decode (tb_me 204).1.2.1 34 = .ok (.goto 16, 3) := by decide +kernel
theorem e204 : (tb_me 204).2.1 = (0, 0) ∧ (tb_me 204).1.2.2.1 = 3 := by decide +kernel
theorem d205_39 : decode (tb_me 205).1.2.1 39 = .ok (.aload_n 0, 1) := by decide +kernel
theorem d205_40 : decode (tb_me 205).1.2.1 40 = .ok (.iload_n 1, 1) := by decide +kernel
theorem d205_41 : decode (tb_me 205).1.2.1 41 = .ok (.iload_n 2, 1) := by decide +kernel
theorem d205_42 : decode (tb_me 205).1.2.1 42 = .ok (.invokevirtual 293, 3) := by decide +kernel
theorem k205_293 (b : Bool) : tb_lk b 205 293 = (2, 203, 0, 0, 0) := by cases b <;> decide +kernel
theorem m203 : (tb_me 203).2 = ((0, 0), (2, 10)) ∧ (tb_me 203).1.2.2.1 = 3 := by decide +kernel
theorem d205_45 : decode (tb_me 205).1.2.1 45 = .ok (.goto 5, 3) := by decide +kernel
theorem d205_50 : decode (tb_me 205).1.2.1 50 = .ok (.ireturn, 1) := by decide +kernel
theorem t205 : (tb_me 205).1.2.2.2 = some .int := by decide +kernel
theorem d205_0 : decode (tb_me 205).1.2.1 0 = .ok (.aload_n 0, 1) := by decide +kernel
theorem d205_1 : decode (tb_me 205).1.2.1 1 = .ok (.iload_n 1, 1) := by decide +kernel
theorem d205_2 : decode (tb_me 205).1.2.1 2 = .ok (.invokevirtual 288, 3) := by decide +kernel
theorem k205_288 (b : Bool) : tb_lk b 205 288 = (2, 194, 0, 0, 0) := by cases b <;> decide +kernel
theorem m194 : (tb_me 194).2 = ((0, 0), (1, 10)) ∧ (tb_me 194).1.2.2.1 = 2 := by decide +kernel
theorem d205_5 : decode (tb_me 205).1.2.1 5 = .ok (.ifCond .eq 15, 3) := by decide +kernel
theorem d205_20 : decode (tb_me 205).1.2.1 20 = .ok (.iconst (-1), 1) := by decide +kernel
theorem d205_21 : decode (tb_me 205).1.2.1 21 = .ok (.ireturn, 1) := by decide +kernel
theorem d205_8 : decode (tb_me 205).1.2.1 8 = .ok (.iload_n 2, 1) := by decide +kernel
theorem d205_9 : decode (tb_me 205).1.2.1 9 = .ok (.i2l, 1) := by decide +kernel
theorem d205_10 : decode (tb_me 205).1.2.1 10 = .ok (.lconst 0, 1) := by decide +kernel
theorem d205_11 : decode (tb_me 205).1.2.1 11 = .ok (.ldc2_w 291, 3) := by decide +kernel
theorem k205_291 (b : Bool) : tb_lk b 205 291 = (12, 0, 0, 0, 5) := by cases b <;> decide +kernel
theorem d205_14 : decode (tb_me 205).1.2.1 14 = .ok (.invokestatic 112, 3) := by decide +kernel
theorem k205_112 (b : Bool) : tb_lk b 205 112 = (4, 148, 0, 0, 0) := by cases b <;> decide +kernel
theorem d205_17 : decode (tb_me 205).1.2.1 17 = .ok (.ifCond .ne 5, 3) := by decide +kernel
theorem d205_22 : decode (tb_me 205).1.2.1 22 = .ok (.iload_n 2, 1) := by decide +kernel
theorem d205_23 : decode (tb_me 205).1.2.1 23 = .ok (.iconst 2, 1) := by decide +kernel
theorem d205_24 : decode (tb_me 205).1.2.1 24 = .ok (.if_icmp .lt 15, 3) := by decide +kernel
theorem d205_27 : decode (tb_me 205).1.2.1 27 = .ok (.iload_n 2, 1) := by decide +kernel
theorem d205_28 : decode (tb_me 205).1.2.1 28 = .ok (.iconst 2, 1) := by decide +kernel
theorem d205_29 : decode (tb_me 205).1.2.1 29 = .ok (.isub, 1) := by decide +kernel
theorem d205_30 : decode (tb_me 205).1.2.1 30 = .ok (.aload_n 0, 1) := by decide +kernel
theorem d205_31 : decode (tb_me 205).1.2.1 31 = .ok (.iload_n 1, 1) := by decide +kernel
theorem d205_32 : decode (tb_me 205).1.2.1 32 = .ok (.iconst 1, 1) := by decide +kernel
theorem d205_33 : decode (tb_me 205).1.2.1 33 = .ok (.invokevirtual 293, 3) := by decide +kernel
theorem d205_36 : decode (tb_me 205).1.2.1 36 = .ok (.if_icmp .ge 12, 3) := by decide +kernel
theorem d205_48 : decode (tb_me 205).1.2.1 48 = .ok (.bipush (-2), 2) := by decide +kernel
theorem e205 : (tb_me 205).2.1 = (0, 0) ∧ (tb_me 205).1.2.2.1 = 3 := by decide +kernel
theorem d206_0 : decode (tb_me 206).1.2.1 0 = .ok (.aload_n 0, 1) := by decide +kernel
theorem d206_1 : decode (tb_me 206).1.2.1 1 = .ok (.iload_n 1, 1) := by decide +kernel
theorem d206_2 : decode (tb_me 206).1.2.1 2 = .ok (.invokevirtual 296, 3) := by decide +kernel
theorem k206_296 (b : Bool) : tb_lk b 206 296 = (2, 195, 0, 0, 0) := by cases b <;> decide +kernel
theorem m195 : (tb_me 195).2 = ((0, 0), (1, 10)) ∧ (tb_me 195).1.2.2.1 = 2 := by decide +kernel
theorem d206_5 : decode (tb_me 206).1.2.1 5 = .ok (.ifCond .eq 11, 3) := by decide +kernel
theorem d206_16 : decode (tb_me 206).1.2.1 16 = .ok (.iconst (-1), 1) := by decide +kernel
theorem d206_17 : decode (tb_me 206).1.2.1 17 = .ok (.ireturn, 1) := by decide +kernel
theorem t206 : (tb_me 206).1.2.2.2 = some .int := by decide +kernel
theorem d206_8 : decode (tb_me 206).1.2.1 8 = .ok (.aload_n 0, 1) := by decide +kernel
theorem d206_9 : decode (tb_me 206).1.2.1 9 = .ok (.iload_n 2, 1) := by decide +kernel
theorem d206_10 : decode (tb_me 206).1.2.1 10 = .ok (.invokevirtual 296, 3) := by decide +kernel
theorem d206_13 : decode (tb_me 206).1.2.1 13 = .ok (.ifCond .ne 5, 3) := by decide +kernel
theorem d206_18 : decode (tb_me 206).1.2.1 18 = .ok (.aload_n 0, 1) := by decide +kernel
theorem d206_19 : decode (tb_me 206).1.2.1 19 = .ok (.getfield 39, 3) := by decide +kernel
theorem k206_39 (b : Bool) : tb_lk b 206 39 = (1, 10, 20, 0, 0) := by cases b <;> decide +kernel
theorem d206_22 : decode (tb_me 206).1.2.1 22 = .ok (.bipush 106, 2) := by decide +kernel
theorem d206_24 : decode (tb_me 206).1.2.1 24 = .ok (.bipush 10, 2) := by decide +kernel
theorem d206_26 : decode (tb_me 206).1.2.1 26 = .ok (.iload_n 1, 1) := by decide +kernel
theorem d206_27 : decode (tb_me 206).1.2.1 27 = .ok (.imul, 1) := by decide +kernel
theorem d206_28 : decode (tb_me 206).1.2.1 28 = .ok (.iadd, 1) := by decide +kernel
theorem d206_29 : decode (tb_me 206).1.2.1 29 = .ok (.iload_n 2, 1) := by decide +kernel
theorem d206_30 : decode (tb_me 206).1.2.1 30 = .ok (.iadd, 1) := by decide +kernel
theorem d206_31 : decode (tb_me 206).1.2.1 31 = .ok (.iaload, 1) := by decide +kernel
theorem d206_32 : decode (tb_me 206).1.2.1 32 = .ok (.istore_n 3, 1) := by decide +kernel
theorem d206_33 : decode (tb_me 206).1.2.1 33 = .ok (.iload_n 3, 1) := by decide +kernel
theorem d206_34 : decode (tb_me 206).1.2.1 34 = .ok (.ifCond .ge 8, 3) := by decide +kernel
theorem d206_42 : decode (tb_me 206).1.2.1 42 = .ok (.iload_n 3, 1) := by decide +kernel
theorem d206_43 : decode (tb_me 206).1.2.1 43 = .ok (.ireturn, 1) := by decide +kernel
theorem d206_37 : decode (tb_me 206).1.2.1 37 = .ok (.bipush (-2), 2) := by decide +kernel
theorem d206_39 : decode (tb_me 206).1.2.1 39 = .ok (.goto 4, 3) := by decide +kernel
theorem e206 : (tb_me 206).2.1 = (0, 0) ∧ (tb_me 206).1.2.2.1 = 4 := by decide +kernel
theorem d207_60 : decode (tb_me 207).1.2.1 60 = .ok (.iload_n 3, 1) := by decide +kernel
theorem d207_61 : decode (tb_me 207).1.2.1 61 = .ok (.iconst 1, 1) := by decide +kernel
theorem d207_62 : decode (tb_me 207).1.2.1 62 = .ok (.iadd, 1) := by decide +kernel
theorem d207_63 : decode (tb_me 207).1.2.1 63 = .ok (.aload_n 0, 1) := by decide +kernel
theorem d207_64 : decode (tb_me 207).1.2.1 64 = .ok (.getfield 299, 3) := by decide +kernel
theorem k207_299 (b : Bool) : tb_lk b 207 299 = (1, 10, 23, 0, 0) := by cases b <;> decide +kernel
theorem f10_23 : (23 < pm_nf tb_cl 10) ∧ tb_ft 10 23 ≠ .long ∧ pm_isR (tb_ft 10 23) = false := by decide +kernel
theorem d207_67 : decode (tb_me 207).1.2.1 67 = .ok (.if_icmp .ge 23, 3) := by decide +kernel
theorem d207_70 : decode (tb_me 207).1.2.1 70 = .ok (.aload_n 0, 1) := by decide +kernel
theorem d207_71 : decode (tb_me 207).1.2.1 71 = .ok (.getfield 42, 3) := by decide +kernel
theorem k207_42 (b : Bool) : tb_lk b 207 42 = (1, 10, 22, 0, 0) := by cases b <;> decide +kernel
theorem f10_22 : (22 < pm_nf tb_cl 10) ∧ tb_ft 10 22 ≠ .long ∧ pm_isR (tb_ft 10 22) = true := by decide +kernel
theorem d207_74 : decode (tb_me 207).1.2.1 74 = .ok (.iload_n 3, 1) := by decide +kernel
theorem d207_75 : decode (tb_me 207).1.2.1 75 = .ok (.aload_n 0, 1) := by decide +kernel
theorem d207_76 : decode (tb_me 207).1.2.1 76 = .ok (.getfield 42, 3) := by decide +kernel
theorem d207_79 : decode (tb_me 207).1.2.1 79 = .ok (.iload_n 3, 1) := by decide +kernel
theorem d207_80 : decode (tb_me 207).1.2.1 80 = .ok (.iconst 1, 1) := by decide +kernel
theorem d207_81 : decode (tb_me 207).1.2.1 81 = .ok (.iadd, 1) := by decide +kernel
theorem d207_82 : decode (tb_me 207).1.2.1 82 = .ok (.iaload, 1) := by decide +kernel
theorem d207_83 : decode (tb_me 207).1.2.1 83 = .ok (.iastore, 1) := by decide +kernel
theorem d207_84 : decode (tb_me 207).1.2.1 84 = .ok (.iinc 3 1, 3) := by decide +kernel
theorem d207_87 : decode (tb_me 207).1.2.1 87 = .ok (.goto (-27), 3) := by decide +kernel
theorem d207_2 : decode (tb_me 207).1.2.1 2 = .ok (.iload_n 1, 1) := by decide +kernel
theorem d207_3 : decode (tb_me 207).1.2.1 3 = .ok (.iconst 1, 1) := by decide +kernel
theorem d207_4 : decode (tb_me 207).1.2.1 4 = .ok (.iadd, 1) := by decide +kernel
theorem d207_5 : decode (tb_me 207).1.2.1 5 = .ok (.aload_n 0, 1) := by decide +kernel
theorem d207_6 : decode (tb_me 207).1.2.1 6 = .ok (.getfield 299, 3) := by decide +kernel
theorem d207_9 : decode (tb_me 207).1.2.1 9 = .ok (.if_icmp .ge 96, 3) := by decide +kernel
theorem d207_12 : decode (tb_me 207).1.2.1 12 = .ok (.aload_n 0, 1) := by decide +kernel
theorem d207_13 : decode (tb_me 207).1.2.1 13 = .ok (.getfield 39, 3) := by decide +kernel
theorem k207_39 (b : Bool) : tb_lk b 207 39 = (1, 10, 20, 0, 0) := by cases b <;> decide +kernel
theorem d207_16 : decode (tb_me 207).1.2.1 16 = .ok (.bipush 106, 2) := by decide +kernel
theorem d207_18 : decode (tb_me 207).1.2.1 18 = .ok (.bipush 10, 2) := by decide +kernel
theorem d207_20 : decode (tb_me 207).1.2.1 20 = .ok (.aload_n 0, 1) := by decide +kernel
theorem d207_21 : decode (tb_me 207).1.2.1 21 = .ok (.getfield 42, 3) := by decide +kernel
theorem d207_24 : decode (tb_me 207).1.2.1 24 = .ok (.iload_n 1, 1) := by decide +kernel
theorem d207_25 : decode (tb_me 207).1.2.1 25 = .ok (.iaload, 1) := by decide +kernel
theorem d207_26 : decode (tb_me 207).1.2.1 26 = .ok (.imul, 1) := by decide +kernel
theorem d207_27 : decode (tb_me 207).1.2.1 27 = .ok (.iadd, 1) := by decide +kernel
theorem d207_28 : decode (tb_me 207).1.2.1 28 = .ok (.aload_n 0, 1) := by decide +kernel
theorem d207_29 : decode (tb_me 207).1.2.1 29 = .ok (.getfield 42, 3) := by decide +kernel
theorem d207_32 : decode (tb_me 207).1.2.1 32 = .ok (.iload_n 1, 1) := by decide +kernel
theorem d207_33 : decode (tb_me 207).1.2.1 33 = .ok (.iconst 1, 1) := by decide +kernel
theorem d207_34 : decode (tb_me 207).1.2.1 34 = .ok (.iadd, 1) := by decide +kernel
theorem d207_35 : decode (tb_me 207).1.2.1 35 = .ok (.iaload, 1) := by decide +kernel
theorem d207_36 : decode (tb_me 207).1.2.1 36 = .ok (.iadd, 1) := by decide +kernel
theorem d207_37 : decode (tb_me 207).1.2.1 37 = .ok (.iaload, 1) := by decide +kernel
theorem d207_38 : decode (tb_me 207).1.2.1 38 = .ok (.istore_n 2, 1) := by decide +kernel
theorem d207_39 : decode (tb_me 207).1.2.1 39 = .ok (.iload_n 2, 1) := by decide +kernel
theorem d207_40 : decode (tb_me 207).1.2.1 40 = .ok (.ifCond .ge 9, 3) := by decide +kernel
theorem d207_49 : decode (tb_me 207).1.2.1 49 = .ok (.aload_n 0, 1) := by decide +kernel
theorem d207_50 : decode (tb_me 207).1.2.1 50 = .ok (.getfield 42, 3) := by decide +kernel
theorem d207_53 : decode (tb_me 207).1.2.1 53 = .ok (.iload_n 1, 1) := by decide +kernel
theorem d207_54 : decode (tb_me 207).1.2.1 54 = .ok (.iload_n 2, 1) := by decide +kernel
theorem d207_55 : decode (tb_me 207).1.2.1 55 = .ok (.iastore, 1) := by decide +kernel
theorem d207_56 : decode (tb_me 207).1.2.1 56 = .ok (.iload_n 1, 1) := by decide +kernel
theorem d207_57 : decode (tb_me 207).1.2.1 57 = .ok (.iconst 1, 1) := by decide +kernel
theorem d207_58 : decode (tb_me 207).1.2.1 58 = .ok (.iadd, 1) := by decide +kernel
theorem d207_59 : decode (tb_me 207).1.2.1 59 = .ok (.istore_n 3, 1) := by decide +kernel
theorem d207_90 : decode (tb_me 207).1.2.1 90 = .ok (.aload_n 0, 1) := by decide +kernel
theorem d207_91 : decode (tb_me 207).1.2.1 91 = .ok (.dup, 1) := by decide +kernel
theorem d207_92 : decode (tb_me 207).1.2.1 92 = .ok (.getfield 299, 3) := by decide +kernel
theorem d207_95 : decode (tb_me 207).1.2.1 95 = .ok (.iconst 1, 1) := by decide +kernel
theorem d207_96 : decode (tb_me 207).1.2.1 96 = .ok (.isub, 1) := by decide +kernel
theorem d207_97 : decode (tb_me 207).1.2.1 97 = .ok (.putfield 299, 3) := by decide +kernel
theorem p207_10_23 : (23 < pm_nf tb_cl 10) ∧ tb_ft 10 23 = .int ∧ pm_fin tb_cl (tb_me 207).1.1 10 23 = true := by decide +kernel
theorem d207_100 : decode (tb_me 207).1.2.1 100 = .ok (.iconst 0, 1) := by decide +kernel
theorem d207_101 : decode (tb_me 207).1.2.1 101 = .ok (.istore_n 1, 1) := by decide +kernel
theorem d207_102 : decode (tb_me 207).1.2.1 102 = .ok (.goto (-100), 3) := by decide +kernel
theorem d207_43 : decode (tb_me 207).1.2.1 43 = .ok (.iinc 1 1, 3) := by decide +kernel
theorem d207_46 : decode (tb_me 207).1.2.1 46 = .ok (.goto (-44), 3) := by decide +kernel
theorem d207_0 : decode (tb_me 207).1.2.1 0 = .ok (.iconst 0, 1) := by decide +kernel
theorem d207_1 : decode (tb_me 207).1.2.1 1 = .ok (.istore_n 1, 1) := by decide +kernel
theorem d207_105 : decode (tb_me 207).1.2.1 105 = .ok (.return_, 1) := by decide +kernel
theorem t207 : (tb_me 207).1.2.2.2 = none := by decide +kernel
theorem e207 : (tb_me 207).2.1 = (0, 0) ∧ (tb_me 207).1.2.2.1 = 4 := by decide +kernel
theorem d208_74 : decode (tb_me 208).1.2.1 74 = .ok (.iload_n 2, 1) := by decide +kernel
theorem d208_75 : decode (tb_me 208).1.2.1 75 = .ok (.ifCond .eq 5, 3) := by decide +kernel
theorem d208_80 : decode (tb_me 208).1.2.1 80 = .ok (.iinc 1 1, 3) := by decide +kernel
theorem d208_83 : decode (tb_me 208).1.2.1 83 = .ok (.goto (-81), 3) := by decide +kernel
theorem d208_67 : decode (tb_me 208).1.2.1 67 = .ok (.istore_n 2, 1) := by decide +kernel
theorem d208_68 : decode (tb_me 208).1.2.1 68 = .ok (.iinc 3 1, 3) := by decide +kernel
theorem d208_71 : decode (tb_me 208).1.2.1 71 = .ok (.goto (-38), 3) := by decide +kernel
theorem d208_33 : decode (tb_me 208).1.2.1 33 = .ok (.iload_n 3, 1) := by decide +kernel
theorem d208_34 : decode (tb_me 208).1.2.1 34 = .ok (.aload_n 0, 1) := by decide +kernel
theorem d208_35 : decode (tb_me 208).1.2.1 35 = .ok (.getfield 299, 3) := by decide +kernel
theorem k208_299 (b : Bool) : tb_lk b 208 299 = (1, 10, 23, 0, 0) := by cases b <;> decide +kernel
theorem d208_38 : decode (tb_me 208).1.2.1 38 = .ok (.if_icmp .ge 36, 3) := by decide +kernel
theorem d208_41 : decode (tb_me 208).1.2.1 41 = .ok (.iload_n 2, 1) := by decide +kernel
theorem d208_42 : decode (tb_me 208).1.2.1 42 = .ok (.ifCond .eq 32, 3) := by decide +kernel
theorem d208_45 : decode (tb_me 208).1.2.1 45 = .ok (.aload_n 0, 1) := by decide +kernel
theorem d208_46 : decode (tb_me 208).1.2.1 46 = .ok (.iload_n 1, 1) := by decide +kernel
theorem d208_47 : decode (tb_me 208).1.2.1 47 = .ok (.iconst 2, 1) := by decide +kernel
theorem d208_48 : decode (tb_me 208).1.2.1 48 = .ok (.iload_n 3, 1) := by decide +kernel
theorem d208_49 : decode (tb_me 208).1.2.1 49 = .ok (.iadd, 1) := by decide +kernel
theorem d208_50 : decode (tb_me 208).1.2.1 50 = .ok (.invokevirtual 293, 3) := by decide +kernel
theorem k208_293 (b : Bool) : tb_lk b 208 293 = (2, 203, 0, 0, 0) := by cases b <;> decide +kernel
theorem d208_53 : decode (tb_me 208).1.2.1 53 = .ok (.aload_n 0, 1) := by decide +kernel
theorem d208_54 : decode (tb_me 208).1.2.1 54 = .ok (.getfield 42, 3) := by decide +kernel
theorem k208_42 (b : Bool) : tb_lk b 208 42 = (1, 10, 22, 0, 0) := by cases b <;> decide +kernel
theorem d208_57 : decode (tb_me 208).1.2.1 57 = .ok (.iload_n 3, 1) := by decide +kernel
theorem d208_58 : decode (tb_me 208).1.2.1 58 = .ok (.iaload, 1) := by decide +kernel
theorem d208_59 : decode (tb_me 208).1.2.1 59 = .ok (.if_icmp .ne 7, 3) := by decide +kernel
theorem d208_66 : decode (tb_me 208).1.2.1 66 = .ok (.iconst 0, 1) := by decide +kernel
theorem d208_62 : decode (tb_me 208).1.2.1 62 = .ok (.iconst 1, 1) := by decide +kernel
theorem d208_63 : decode (tb_me 208).1.2.1 63 = .ok (.goto 4, 3) := by decide +kernel
theorem d208_30 : decode (tb_me 208).1.2.1 30 = .ok (.istore_n 2, 1) := by decide +kernel
theorem d208_31 : decode (tb_me 208).1.2.1 31 = .ok (.iconst 0, 1) := by decide +kernel
theorem d208_32 : decode (tb_me 208).1.2.1 32 = .ok (.istore_n 3, 1) := by decide +kernel
theorem d208_2 : decode (tb_me 208).1.2.1 2 = .ok (.iload_n 1, 1) := by decide +kernel
theorem d208_3 : decode (tb_me 208).1.2.1 3 = .ok (.aload_n 0, 1) := by decide +kernel
theorem d208_4 : decode (tb_me 208).1.2.1 4 = .ok (.getfield 39, 3) := by decide +kernel
theorem k208_39 (b : Bool) : tb_lk b 208 39 = (1, 10, 20, 0, 0) := by cases b <;> decide +kernel
theorem d208_7 : decode (tb_me 208).1.2.1 7 = .ok (.iconst 2, 1) := by decide +kernel
theorem d208_8 : decode (tb_me 208).1.2.1 8 = .ok (.iaload, 1) := by decide +kernel
theorem d208_9 : decode (tb_me 208).1.2.1 9 = .ok (.if_icmp .ge 77, 3) := by decide +kernel
theorem d208_12 : decode (tb_me 208).1.2.1 12 = .ok (.aload_n 0, 1) := by decide +kernel
theorem d208_13 : decode (tb_me 208).1.2.1 13 = .ok (.iload_n 1, 1) := by decide +kernel
theorem d208_14 : decode (tb_me 208).1.2.1 14 = .ok (.iconst 1, 1) := by decide +kernel
theorem d208_15 : decode (tb_me 208).1.2.1 15 = .ok (.invokevirtual 293, 3) := by decide +kernel
theorem d208_18 : decode (tb_me 208).1.2.1 18 = .ok (.aload_n 0, 1) := by decide +kernel
theorem d208_19 : decode (tb_me 208).1.2.1 19 = .ok (.getfield 299, 3) := by decide +kernel
theorem d208_22 : decode (tb_me 208).1.2.1 22 = .ok (.if_icmp .ne 7, 3) := by decide +kernel
theorem d208_29 : decode (tb_me 208).1.2.1 29 = .ok (.iconst 0, 1) := by decide +kernel
theorem d208_25 : decode (tb_me 208).1.2.1 25 = .ok (.iconst 1, 1) := by decide +kernel
theorem d208_26 : decode (tb_me 208).1.2.1 26 = .ok (.goto 4, 3) := by decide +kernel
theorem d208_0 : decode (tb_me 208).1.2.1 0 = .ok (.iconst 0, 1) := by decide +kernel
theorem d208_1 : decode (tb_me 208).1.2.1 1 = .ok (.istore_n 1, 1) := by decide +kernel
theorem d208_78 : decode (tb_me 208).1.2.1 78 = .ok (.iload_n 1, 1) := by decide +kernel
theorem d208_79 : decode (tb_me 208).1.2.1 79 = .ok (.ireturn, 1) := by decide +kernel
theorem t208 : (tb_me 208).1.2.2.2 = some .int := by decide +kernel
theorem d208_86 : decode (tb_me 208).1.2.1 86 = .ok (.iconst (-1), 1) := by decide +kernel
theorem d208_87 : decode (tb_me 208).1.2.1 87 = .ok (.ireturn, 1) := by decide +kernel
theorem e208 : (tb_me 208).2.1 = (0, 0) ∧ (tb_me 208).1.2.2.1 = 4 := by decide +kernel
theorem d209_4 : decode (tb_me 209).1.2.1 4 = .ok (.iload_n 2, 1) := by decide +kernel
theorem d209_5 : decode (tb_me 209).1.2.1 5 = .ok (.iload_n 0, 1) := by decide +kernel
theorem d209_6 : decode (tb_me 209).1.2.1 6 = .ok (.if_icmp .ge 14, 3) := by decide +kernel
theorem d209_9 : decode (tb_me 209).1.2.1 9 = .ok (.iload_n 1, 1) := by decide +kernel
theorem d209_10 : decode (tb_me 209).1.2.1 10 = .ok (.bipush 10, 2) := by decide +kernel
theorem d209_12 : decode (tb_me 209).1.2.1 12 = .ok (.imul, 1) := by decide +kernel
theorem d209_13 : decode (tb_me 209).1.2.1 13 = .ok (.istore_n 1, 1) := by decide +kernel
theorem d209_14 : decode (tb_me 209).1.2.1 14 = .ok (.iinc 2 1, 3) := by decide +kernel
theorem d209_17 : decode (tb_me 209).1.2.1 17 = .ok (.goto (-13), 3) := by decide +kernel
theorem d209_0 : decode (tb_me 209).1.2.1 0 = .ok (.iconst 1, 1) := by decide +kernel
theorem d209_1 : decode (tb_me 209).1.2.1 1 = .ok (.istore_n 1, 1) := by decide +kernel
theorem d209_2 : decode (tb_me 209).1.2.1 2 = .ok (.iconst 0, 1) := by decide +kernel
theorem d209_3 : decode (tb_me 209).1.2.1 3 = .ok (.istore_n 2, 1) := by decide +kernel
theorem d209_20 : decode (tb_me 209).1.2.1 20 = .ok (.iload_n 1, 1) := by decide +kernel
theorem d209_21 : decode (tb_me 209).1.2.1 21 = .ok (.ireturn, 1) := by decide +kernel
theorem t209 : (tb_me 209).1.2.2.2 = some .int := by decide +kernel
theorem e209 : (tb_me 209).2.1 = (0, 0) ∧ (tb_me 209).1.2.2.1 = 3 := by decide +kernel
theorem d210_0 : decode (tb_me 210).1.2.1 0 = .ok (.iload_n 1, 1) := by decide +kernel
theorem d210_1 : decode (tb_me 210).1.2.1 1 = .ok (.i2l, 1) := by decide +kernel
theorem d210_2 : decode (tb_me 210).1.2.1 2 = .ok (.lconst 1, 1) := by decide +kernel
theorem d210_3 : decode (tb_me 210).1.2.1 3 = .ok (.ldc2_w 291, 3) := by decide +kernel
theorem k210_291 (b : Bool) : tb_lk b 210 291 = (12, 0, 0, 0, 5) := by cases b <;> decide +kernel
theorem d210_6 : decode (tb_me 210).1.2.1 6 = .ok (.invokestatic 112, 3) := by decide +kernel
theorem k210_112 (b : Bool) : tb_lk b 210 112 = (4, 148, 0, 0, 0) := by cases b <;> decide +kernel
theorem d210_9 : decode (tb_me 210).1.2.1 9 = .ok (.ifCond .eq 19, 3) := by decide +kernel
theorem d210_28 : decode (tb_me 210).1.2.1 28 = .ok (.iconst 0, 1) := by decide +kernel
theorem d210_29 : decode (tb_me 210).1.2.1 29 = .ok (.ireturn, 1) := by decide +kernel
theorem t210 : (tb_me 210).1.2.2.2 = some .boolean := by decide +kernel
theorem d210_12 : decode (tb_me 210).1.2.1 12 = .ok (.iload_n 0, 1) := by decide +kernel
theorem d210_13 : decode (tb_me 210).1.2.1 13 = .ok (.ifCond .lt 15, 3) := by decide +kernel
theorem d210_16 : decode (tb_me 210).1.2.1 16 = .ok (.iload_n 0, 1) := by decide +kernel
theorem d210_17 : decode (tb_me 210).1.2.1 17 = .ok (.iload_n 1, 1) := by decide +kernel
theorem d210_18 : decode (tb_me 210).1.2.1 18 = .ok (.invokestatic 302, 3) := by decide +kernel
theorem k210_302 (b : Bool) : tb_lk b 210 302 = (4, 209, 0, 0, 0) := by cases b <;> decide +kernel
theorem m209 : (tb_me 209).2 = ((0, 0), (1, 999)) ∧ (tb_me 209).1.2.2.1 = 3 := by decide +kernel
theorem d210_21 : decode (tb_me 210).1.2.1 21 = .ok (.if_icmp .ge 7, 3) := by decide +kernel
theorem d210_24 : decode (tb_me 210).1.2.1 24 = .ok (.iconst 1, 1) := by decide +kernel
theorem d210_25 : decode (tb_me 210).1.2.1 25 = .ok (.goto 4, 3) := by decide +kernel
theorem e210 : (tb_me 210).2.1 = (0, 0) ∧ (tb_me 210).1.2.2.1 = 2 := by decide +kernel
theorem d211_0 : decode (tb_me 211).1.2.1 0 = .ok (.iload_n 0, 1) := by decide +kernel
theorem d211_1 : decode (tb_me 211).1.2.1 1 = .ok (.iload_n 1, 1) := by decide +kernel
theorem d211_2 : decode (tb_me 211).1.2.1 2 = .ok (.iconst 1, 1) := by decide +kernel
theorem d211_3 : decode (tb_me 211).1.2.1 3 = .ok (.isub, 1) := by decide +kernel
theorem d211_4 : decode (tb_me 211).1.2.1 4 = .ok (.iload_n 2, 1) := by decide +kernel
theorem d211_5 : decode (tb_me 211).1.2.1 5 = .ok (.isub, 1) := by decide +kernel
theorem d211_6 : decode (tb_me 211).1.2.1 6 = .ok (.invokestatic 302, 3) := by decide +kernel
theorem k211_302 (b : Bool) : tb_lk b 211 302 = (4, 209, 0, 0, 0) := by cases b <;> decide +kernel
theorem d211_9 : decode (tb_me 211).1.2.1 9 = .ok (.idiv, 1) := by decide +kernel
theorem d211_10 : decode (tb_me 211).1.2.1 10 = .ok (.bipush 10, 2) := by decide +kernel
theorem d211_12 : decode (tb_me 211).1.2.1 12 = .ok (.irem, 1) := by decide +kernel
theorem d211_13 : decode (tb_me 211).1.2.1 13 = .ok (.ireturn, 1) := by decide +kernel
theorem t211 : (tb_me 211).1.2.2.2 = some .int := by decide +kernel
theorem e211 : (tb_me 211).2.1 = (0, 0) ∧ (tb_me 211).1.2.2.1 = 3 := by decide +kernel
theorem d212_71 : decode (tb_me 212).1.2.1 71 = .ok (.iload 4, 2) := by decide +kernel
theorem d212_73 : decode (tb_me 212).1.2.1 73 = .ok (.aload_n 0, 1) := by decide +kernel
theorem d212_74 : decode (tb_me 212).1.2.1 74 = .ok (.getfield 299, 3) := by decide +kernel
theorem k212_299 (b : Bool) : tb_lk b 212 299 = (1, 10, 23, 0, 0) := by cases b <;> decide +kernel
theorem d212_77 : decode (tb_me 212).1.2.1 77 = .ok (.if_icmp .ge 22, 3) := by decide +kernel
theorem d212_80 : decode (tb_me 212).1.2.1 80 = .ok (.bipush 10, 2) := by decide +kernel
theorem d212_82 : decode (tb_me 212).1.2.1 82 = .ok (.iload_n 3, 1) := by decide +kernel
theorem d212_83 : decode (tb_me 212).1.2.1 83 = .ok (.imul, 1) := by decide +kernel
theorem d212_84 : decode (tb_me 212).1.2.1 84 = .ok (.aload_n 0, 1) := by decide +kernel
theorem d212_85 : decode (tb_me 212).1.2.1 85 = .ok (.getfield 42, 3) := by decide +kernel
theorem k212_42 (b : Bool) : tb_lk b 212 42 = (1, 10, 22, 0, 0) := by cases b <;> decide +kernel
theorem d212_88 : decode (tb_me 212).1.2.1 88 = .ok (.iload 4, 2) := by decide +kernel
theorem d212_90 : decode (tb_me 212).1.2.1 90 = .ok (.iaload, 1) := by decide +kernel
theorem d212_91 : decode (tb_me 212).1.2.1 91 = .ok (.iadd, 1) := by decide +kernel
theorem d212_92 : decode (tb_me 212).1.2.1 92 = .ok (.istore_n 3, 1) := by decide +kernel
theorem d212_93 : decode (tb_me 212).1.2.1 93 = .ok (.iinc 4 1, 3) := by decide +kernel
theorem d212_96 : decode (tb_me 212).1.2.1 96 = .ok (.goto (-25), 3) := by decide +kernel
theorem d212_19 : decode (tb_me 212).1.2.1 19 = .ok (.iload_n 3, 1) := by decide +kernel
theorem d212_20 : decode (tb_me 212).1.2.1 20 = .ok (.iload_n 2, 1) := by decide +kernel
theorem d212_21 : decode (tb_me 212).1.2.1 21 = .ok (.if_icmp .ge 36, 3) := by decide +kernel
theorem d212_24 : decode (tb_me 212).1.2.1 24 = .ok (.aload_n 0, 1) := by decide +kernel
theorem d212_25 : decode (tb_me 212).1.2.1 25 = .ok (.getfield 42, 3) := by decide +kernel
theorem d212_28 : decode (tb_me 212).1.2.1 28 = .ok (.iload_n 3, 1) := by decide +kernel
theorem d212_29 : decode (tb_me 212).1.2.1 29 = .ok (.iload_n 1, 1) := by decide +kernel
theorem d212_30 : decode (tb_me 212).1.2.1 30 = .ok (.iload_n 2, 1) := by decide +kernel
theorem d212_31 : decode (tb_me 212).1.2.1 31 = .ok (.iload_n 3, 1) := by decide +kernel
theorem d212_32 : decode (tb_me 212).1.2.1 32 = .ok (.invokestatic 311, 3) := by decide +kernel
theorem k212_311 (b : Bool) : tb_lk b 212 311 = (4, 211, 0, 0, 0) := by cases b <;> decide +kernel
theorem m211 : (tb_me 211).2 = ((0, 0), (3, 999)) ∧ (tb_me 211).1.2.2.1 = 3 := by decide +kernel
theorem d212_35 : decode (tb_me 212).1.2.1 35 = .ok (.iastore, 1) := by decide +kernel
theorem d212_36 : decode (tb_me 212).1.2.1 36 = .ok (.aload_n 0, 1) := by decide +kernel
theorem d212_37 : decode (tb_me 212).1.2.1 37 = .ok (.aload_n 0, 1) := by decide +kernel
theorem d212_38 : decode (tb_me 212).1.2.1 38 = .ok (.getfield 42, 3) := by decide +kernel
theorem d212_41 : decode (tb_me 212).1.2.1 41 = .ok (.iload_n 3, 1) := by decide +kernel
theorem d212_42 : decode (tb_me 212).1.2.1 42 = .ok (.iaload, 1) := by decide +kernel
theorem d212_43 : decode (tb_me 212).1.2.1 43 = .ok (.invokevirtual 296, 3) := by decide +kernel
theorem k212_296 (b : Bool) : tb_lk b 212 296 = (2, 195, 0, 0, 0) := by cases b <;> decide +kernel
theorem d212_46 : decode (tb_me 212).1.2.1 46 = .ok (.ifCond .ne 5, 3) := by decide +kernel
theorem d212_51 : decode (tb_me 212).1.2.1 51 = .ok (.iinc 3 1, 3) := by decide +kernel
theorem d212_54 : decode (tb_me 212).1.2.1 54 = .ok (.goto (-35), 3) := by decide +kernel
theorem d212_0 : decode (tb_me 212).1.2.1 0 = .ok (.aload_n 0, 1) := by decide +kernel
theorem d212_1 : decode (tb_me 212).1.2.1 1 = .ok (.invokevirtual 305, 3) := by decide +kernel
theorem k212_305 (b : Bool) : tb_lk b 212 305 = (2, 192, 0, 0, 0) := by cases b <;> decide +kernel
theorem m192 : (tb_me 192).2 = ((0, 0), (0, 10)) ∧ (tb_me 192).1.2.2.1 = 1 := by decide +kernel
theorem d212_4 : decode (tb_me 212).1.2.1 4 = .ok (.ifCond .eq 11, 3) := by decide +kernel
theorem d212_15 : decode (tb_me 212).1.2.1 15 = .ok (.iconst (-1), 1) := by decide +kernel
theorem d212_16 : decode (tb_me 212).1.2.1 16 = .ok (.ireturn, 1) := by decide +kernel
theorem t212 : (tb_me 212).1.2.2.2 = some .int := by decide +kernel
theorem d212_7 : decode (tb_me 212).1.2.1 7 = .ok (.iload_n 1, 1) := by decide +kernel
theorem d212_8 : decode (tb_me 212).1.2.1 8 = .ok (.iload_n 2, 1) := by decide +kernel
theorem d212_9 : decode (tb_me 212).1.2.1 9 = .ok (.invokestatic 308, 3) := by decide +kernel
theorem k212_308 (b : Bool) : tb_lk b 212 308 = (4, 210, 0, 0, 0) := by cases b <;> decide +kernel
theorem m210 : (tb_me 210).2 = ((0, 0), (2, 999)) ∧ (tb_me 210).1.2.2.1 = 2 := by decide +kernel
theorem d212_12 : decode (tb_me 212).1.2.1 12 = .ok (.ifCond .ne 5, 3) := by decide +kernel
theorem d212_17 : decode (tb_me 212).1.2.1 17 = .ok (.iconst 0, 1) := by decide +kernel
theorem d212_18 : decode (tb_me 212).1.2.1 18 = .ok (.istore_n 3, 1) := by decide +kernel
theorem d212_49 : decode (tb_me 212).1.2.1 49 = .ok (.iconst (-1), 1) := by decide +kernel
theorem d212_50 : decode (tb_me 212).1.2.1 50 = .ok (.ireturn, 1) := by decide +kernel
theorem d212_57 : decode (tb_me 212).1.2.1 57 = .ok (.aload_n 0, 1) := by decide +kernel
theorem d212_58 : decode (tb_me 212).1.2.1 58 = .ok (.iload_n 2, 1) := by decide +kernel
theorem d212_59 : decode (tb_me 212).1.2.1 59 = .ok (.putfield 299, 3) := by decide +kernel
theorem p212_10_23 : (23 < pm_nf tb_cl 10) ∧ tb_ft 10 23 = .int ∧ pm_fin tb_cl (tb_me 212).1.1 10 23 = true := by decide +kernel
theorem d212_62 : decode (tb_me 212).1.2.1 62 = .ok (.aload_n 0, 1) := by decide +kernel
theorem d212_63 : decode (tb_me 212).1.2.1 63 = .ok (.invokevirtual 315, 3) := by decide +kernel
theorem k212_315 (b : Bool) : tb_lk b 212 315 = (2, 207, 0, 0, 0) := by cases b <;> decide +kernel
theorem m207 : (tb_me 207).2 = ((0, 0), (0, 10)) ∧ (tb_me 207).1.2.2.1 = 4 := by decide +kernel
theorem d212_66 : decode (tb_me 212).1.2.1 66 = .ok (.iconst 1, 1) := by decide +kernel
theorem d212_67 : decode (tb_me 212).1.2.1 67 = .ok (.istore_n 3, 1) := by decide +kernel
theorem d212_68 : decode (tb_me 212).1.2.1 68 = .ok (.iconst 0, 1) := by decide +kernel
theorem d212_69 : decode (tb_me 212).1.2.1 69 = .ok (.istore 4, 2) := by decide +kernel
theorem d212_99 : decode (tb_me 212).1.2.1 99 = .ok (.iload_n 3, 1) := by decide +kernel
theorem d212_100 : decode (tb_me 212).1.2.1 100 = .ok (.ireturn, 1) := by decide +kernel
theorem e212 : (tb_me 212).2.1 = (0, 0) ∧ (tb_me 212).1.2.2.1 = 5 := by decide +kernel
theorem d213_0 : decode (tb_me 213).1.2.1 0 = .ok (.iload_n 1, 1) := by decide +kernel
theorem d213_1 : decode (tb_me 213).1.2.1 1 = .ok (.bipush 8, 2) := by decide +kernel
theorem d213_3 : decode (tb_me 213).1.2.1 3 = .ok (.if_icmp .ne 13, 3) := by decide +kernel
theorem d213_16 : decode (tb_me 213).1.2.1 16 = .ok (.aload_n 0, 1) := by decide +kernel
theorem d213_17 : decode (tb_me 213).1.2.1 17 = .ok (.iload_n 1, 1) := by decide +kernel
theorem d213_18 : decode (tb_me 213).1.2.1 18 = .ok (.iconst 0, 1) := by decide +kernel
theorem d213_19 : decode (tb_me 213).1.2.1 19 = .ok (.invokevirtual 273, 3) := by decide +kernel
theorem k213_273 (b : Bool) : tb_lk b 213 273 = (2, 196, 0, 0, 0) := by cases b <;> decide +kernel
theorem d213_22 : decode (tb_me 213).1.2.1 22 = .ok (.ireturn, 1) := by decide +kernel
theorem t213 : (tb_me 213).1.2.2.2 = some .int := by decide +kernel
theorem d213_6 : decode (tb_me 213).1.2.1 6 = .ok (.aload_n 0, 1) := by decide +kernel
theorem d213_7 : decode (tb_me 213).1.2.1 7 = .ok (.getfield 39, 3) := by decide +kernel
theorem k213_39 (b : Bool) : tb_lk b 213 39 = (1, 10, 20, 0, 0) := by cases b <;> decide +kernel
theorem d213_10 : decode (tb_me 213).1.2.1 10 = .ok (.bipush 6, 2) := by decide +kernel
theorem d213_12 : decode (tb_me 213).1.2.1 12 = .ok (.iaload, 1) := by decide +kernel
theorem d213_13 : decode (tb_me 213).1.2.1 13 = .ok (.goto 9, 3) := by decide +kernel
theorem e213 : (tb_me 213).2.1 = (0, 0) ∧ (tb_me 213).1.2.2.1 = 2 := by decide +kernel
theorem d214_74 : decode (tb_me 214).1.2.1 74 = .ok (.iload_n 3, 1) := by decide +kernel
theorem d214_75 : decode (tb_me 214).1.2.1 75 = .ok (.iconst 1, 1) := by decide +kernel
theorem d214_76 : decode (tb_me 214).1.2.1 76 = .ok (.iload 5, 2) := by decide +kernel
theorem d214_78 : decode (tb_me 214).1.2.1 78 = .ok (.ishl, 1) := by decide +kernel
theorem d214_79 : decode (tb_me 214).1.2.1 79 = .ok (.ior, 1) := by decide +kernel
theorem d214_80 : decode (tb_me 214).1.2.1 80 = .ok (.istore_n 3, 1) := by decide +kernel
theorem d214_81 : decode (tb_me 214).1.2.1 81 = .ok (.iinc 4 1, 3) := by decide +kernel
theorem d214_84 : decode (tb_me 214).1.2.1 84 = .ok (.goto (-62), 3) := by decide +kernel
theorem d214_22 : decode (tb_me 214).1.2.1 22 = .ok (.iload 4, 2) := by decide +kernel
theorem d214_24 : decode (tb_me 214).1.2.1 24 = .ok (.iload_n 2, 1) := by decide +kernel
theorem d214_25 : decode (tb_me 214).1.2.1 25 = .ok (.if_icmp .ge 62, 3) := by decide +kernel
theorem d214_28 : decode (tb_me 214).1.2.1 28 = .ok (.iload_n 1, 1) := by decide +kernel
theorem d214_29 : decode (tb_me 214).1.2.1 29 = .ok (.iload_n 2, 1) := by decide +kernel
theorem d214_30 : decode (tb_me 214).1.2.1 30 = .ok (.iload 4, 2) := by decide +kernel
theorem d214_32 : decode (tb_me 214).1.2.1 32 = .ok (.invokestatic 311, 3) := by decide +kernel
theorem k214_311 (b : Bool) : tb_lk b 214 311 = (4, 211, 0, 0, 0) := by cases b <;> decide +kernel
theorem d214_35 : decode (tb_me 214).1.2.1 35 = .ok (.istore 5, 2) := by decide +kernel
theorem d214_37 : decode (tb_me 214).1.2.1 37 = .ok (.iload_n 3, 1) := by decide +kernel
theorem d214_38 : decode (tb_me 214).1.2.1 38 = .ok (.iload 5, 2) := by decide +kernel
theorem d214_40 : decode (tb_me 214).1.2.1 40 = .ok (.invokestatic 318, 3) := by decide +kernel
theorem k214_318 (b : Bool) : tb_lk b 214 318 = (4, 149, 0, 0, 0) := by cases b <;> decide +kernel
theorem m149 : (tb_me 149).2 = ((0, 0), (2, 999)) ∧ (tb_me 149).1.2.2.1 = 2 := by decide +kernel
theorem d214_43 : decode (tb_me 214).1.2.1 43 = .ok (.ifCond .ne 29, 3) := by decide +kernel
theorem d214_46 : decode (tb_me 214).1.2.1 46 = .ok (.aload_n 0, 1) := by decide +kernel
theorem d214_47 : decode (tb_me 214).1.2.1 47 = .ok (.iload 5, 2) := by decide +kernel
theorem d214_49 : decode (tb_me 214).1.2.1 49 = .ok (.invokevirtual 270, 3) := by decide +kernel
theorem k214_270 (b : Bool) : tb_lk b 214 270 = (2, 193, 0, 0, 0) := by cases b <;> decide +kernel
theorem d214_52 : decode (tb_me 214).1.2.1 52 = .ok (.ifCond .ne 22, 3) := by decide +kernel
theorem d214_55 : decode (tb_me 214).1.2.1 55 = .ok (.iload 5, 2) := by decide +kernel
theorem d214_57 : decode (tb_me 214).1.2.1 57 = .ok (.bipush 8, 2) := by decide +kernel
theorem d214_59 : decode (tb_me 214).1.2.1 59 = .ok (.if_icmp .ne 13, 3) := by decide +kernel
theorem d214_62 : decode (tb_me 214).1.2.1 62 = .ok (.aload_n 0, 1) := by decide +kernel
theorem d214_63 : decode (tb_me 214).1.2.1 63 = .ok (.getfield 39, 3) := by decide +kernel
theorem k214_39 (b : Bool) : tb_lk b 214 39 = (1, 10, 20, 0, 0) := by cases b <;> decide +kernel
theorem d214_66 : decode (tb_me 214).1.2.1 66 = .ok (.bipush 6, 2) := by decide +kernel
theorem d214_68 : decode (tb_me 214).1.2.1 68 = .ok (.iaload, 1) := by decide +kernel
theorem d214_69 : decode (tb_me 214).1.2.1 69 = .ok (.ifCond .ge 5, 3) := by decide +kernel
theorem d214_0 : decode (tb_me 214).1.2.1 0 = .ok (.aload_n 0, 1) := by decide +kernel
theorem d214_1 : decode (tb_me 214).1.2.1 1 = .ok (.invokevirtual 305, 3) := by decide +kernel
theorem k214_305 (b : Bool) : tb_lk b 214 305 = (2, 192, 0, 0, 0) := by cases b <;> decide +kernel
theorem d214_4 : decode (tb_me 214).1.2.1 4 = .ok (.ifCond .eq 11, 3) := by decide +kernel
theorem d214_15 : decode (tb_me 214).1.2.1 15 = .ok (.iconst 0, 1) := by decide +kernel
theorem d214_16 : decode (tb_me 214).1.2.1 16 = .ok (.ireturn, 1) := by decide +kernel
theorem t214 : (tb_me 214).1.2.2.2 = some .boolean := by decide +kernel
theorem d214_7 : decode (tb_me 214).1.2.1 7 = .ok (.iload_n 1, 1) := by decide +kernel
theorem d214_8 : decode (tb_me 214).1.2.1 8 = .ok (.iload_n 2, 1) := by decide +kernel
theorem d214_9 : decode (tb_me 214).1.2.1 9 = .ok (.invokestatic 308, 3) := by decide +kernel
theorem k214_308 (b : Bool) : tb_lk b 214 308 = (4, 210, 0, 0, 0) := by cases b <;> decide +kernel
theorem d214_12 : decode (tb_me 214).1.2.1 12 = .ok (.ifCond .ne 5, 3) := by decide +kernel
theorem d214_17 : decode (tb_me 214).1.2.1 17 = .ok (.iconst 0, 1) := by decide +kernel
theorem d214_18 : decode (tb_me 214).1.2.1 18 = .ok (.istore_n 3, 1) := by decide +kernel
theorem d214_19 : decode (tb_me 214).1.2.1 19 = .ok (.iconst 0, 1) := by decide +kernel
theorem d214_20 : decode (tb_me 214).1.2.1 20 = .ok (.istore 4, 2) := by decide +kernel
theorem d214_72 : decode (tb_me 214).1.2.1 72 = .ok (.iconst 0, 1) := by decide +kernel
theorem d214_73 : decode (tb_me 214).1.2.1 73 = .ok (.ireturn, 1) := by decide +kernel
theorem d214_87 : decode (tb_me 214).1.2.1 87 = .ok (.iconst 1, 1) := by decide +kernel
theorem d214_88 : decode (tb_me 214).1.2.1 88 = .ok (.ireturn, 1) := by decide +kernel
theorem e214 : (tb_me 214).2.1 = (0, 0) ∧ (tb_me 214).1.2.2.1 = 6 := by decide +kernel
theorem d215_0 : decode (tb_me 215).1.2.1 0 = .ok (.iload_n 1, 1) := by decide +kernel
theorem d215_1 : decode (tb_me 215).1.2.1 1 = .ok (.bipush 9, 2) := by decide +kernel
theorem d215_3 : decode (tb_me 215).1.2.1 3 = .ok (.if_icmp .lt 15, 3) := by decide +kernel
theorem d215_18 : decode (tb_me 215).1.2.1 18 = .ok (.aload_n 0, 1) := by decide +kernel
theorem d215_19 : decode (tb_me 215).1.2.1 19 = .ok (.iload_n 1, 1) := by decide +kernel
theorem d215_20 : decode (tb_me 215).1.2.1 20 = .ok (.invokevirtual 321, 3) := by decide +kernel
theorem k215_321 (b : Bool) : tb_lk b 215 321 = (2, 213, 0, 0, 0) := by cases b <;> decide +kernel
theorem m213 : (tb_me 213).2 = ((0, 0), (1, 10)) ∧ (tb_me 213).1.2.2.1 = 2 := by decide +kernel
theorem d215_23 : decode (tb_me 215).1.2.1 23 = .ok (.ireturn, 1) := by decide +kernel
theorem t215 : (tb_me 215).1.2.2.2 = some .int := by decide +kernel
theorem d215_6 : decode (tb_me 215).1.2.1 6 = .ok (.aload_n 0, 1) := by decide +kernel
theorem d215_7 : decode (tb_me 215).1.2.1 7 = .ok (.getfield 48, 3) := by decide +kernel
theorem k215_48 (b : Bool) : tb_lk b 215 48 = (1, 10, 25, 0, 0) := by cases b <;> decide +kernel
theorem f10_25 : (25 < pm_nf tb_cl 10) ∧ tb_ft 10 25 ≠ .long ∧ pm_isR (tb_ft 10 25) = true := by decide +kernel
theorem d215_10 : decode (tb_me 215).1.2.1 10 = .ok (.iload_n 1, 1) := by decide +kernel
theorem d215_11 : decode (tb_me 215).1.2.1 11 = .ok (.bipush 9, 2) := by decide +kernel
theorem d215_13 : decode (tb_me 215).1.2.1 13 = .ok (.isub, 1) := by decide +kernel
theorem d215_14 : decode (tb_me 215).1.2.1 14 = .ok (.iaload, 1) := by decide +kernel
theorem d215_15 : decode (tb_me 215).1.2.1 15 = .ok (.goto 8, 3) := by decide +kernel
theorem e215 : (tb_me 215).2.1 = (0, 0) ∧ (tb_me 215).1.2.2.1 = 2 := by decide +kernel
theorem d216_2 : decode (tb_me 216).1.2.1 2 = .ok (.iload_n 2, 1) := by decide +kernel
theorem d216_3 : decode (tb_me 216).1.2.1 3 = .ok (.iload_n 1, 1) := by decide +kernel
theorem d216_4 : decode (tb_me 216).1.2.1 4 = .ok (.if_icmp .ge 25, 3) := by decide +kernel
theorem d216_7 : decode (tb_me 216).1.2.1 7 = .ok (.aload_n 0, 1) := by decide +kernel
theorem d216_8 : decode (tb_me 216).1.2.1 8 = .ok (.getfield 42, 3) := by decide +kernel
theorem k216_42 (b : Bool) : tb_lk b 216 42 = (1, 10, 22, 0, 0) := by cases b <;> decide +kernel
theorem d216_11 : decode (tb_me 216).1.2.1 11 = .ok (.iload_n 2, 1) := by decide +kernel
theorem d216_12 : decode (tb_me 216).1.2.1 12 = .ok (.aload_n 0, 1) := by decide +kernel
theorem d216_13 : decode (tb_me 216).1.2.1 13 = .ok (.aload_n 0, 1) := by decide +kernel
theorem d216_14 : decode (tb_me 216).1.2.1 14 = .ok (.getfield 45, 3) := by decide +kernel
theorem k216_45 (b : Bool) : tb_lk b 216 45 = (1, 10, 24, 0, 0) := by cases b <;> decide +kernel
theorem f10_24 : (24 < pm_nf tb_cl 10) ∧ tb_ft 10 24 ≠ .long ∧ pm_isR (tb_ft 10 24) = true := by decide +kernel
theorem d216_17 : decode (tb_me 216).1.2.1 17 = .ok (.iload_n 2, 1) := by decide +kernel
theorem d216_18 : decode (tb_me 216).1.2.1 18 = .ok (.iaload, 1) := by decide +kernel
theorem d216_19 : decode (tb_me 216).1.2.1 19 = .ok (.invokevirtual 324, 3) := by decide +kernel
theorem k216_324 (b : Bool) : tb_lk b 216 324 = (2, 215, 0, 0, 0) := by cases b <;> decide +kernel
theorem m215 : (tb_me 215).2 = ((0, 0), (1, 10)) ∧ (tb_me 215).1.2.2.1 = 2 := by decide +kernel
theorem d216_22 : decode (tb_me 216).1.2.1 22 = .ok (.iastore, 1) := by decide +kernel
theorem d216_23 : decode (tb_me 216).1.2.1 23 = .ok (.iinc 2 1, 3) := by decide +kernel
theorem d216_26 : decode (tb_me 216).1.2.1 26 = .ok (.goto (-24), 3) := by decide +kernel
theorem d216_0 : decode (tb_me 216).1.2.1 0 = .ok (.iconst 0, 1) := by decide +kernel
theorem d216_1 : decode (tb_me 216).1.2.1 1 = .ok (.istore_n 2, 1) := by decide +kernel
theorem d216_29 : decode (tb_me 216).1.2.1 29 = .ok (.aload_n 0, 1) := by decide +kernel
theorem d216_30 : decode (tb_me 216).1.2.1 30 = .ok (.iload_n 1, 1) := by decide +kernel
theorem d216_31 : decode (tb_me 216).1.2.1 31 = .ok (.putfield 299, 3) := by decide +kernel
theorem k216_299 (b : Bool) : tb_lk b 216 299 = (1, 10, 23, 0, 0) := by cases b <;> decide +kernel
theorem p216_10_23 : (23 < pm_nf tb_cl 10) ∧ tb_ft 10 23 = .int ∧ pm_fin tb_cl (tb_me 216).1.1 10 23 = true := by decide +kernel
theorem d216_34 : decode (tb_me 216).1.2.1 34 = .ok (.aload_n 0, 1) := by decide +kernel
theorem d216_35 : decode (tb_me 216).1.2.1 35 = .ok (.invokevirtual 315, 3) := by decide +kernel
theorem k216_315 (b : Bool) : tb_lk b 216 315 = (2, 207, 0, 0, 0) := by cases b <;> decide +kernel
theorem d216_38 : decode (tb_me 216).1.2.1 38 = .ok (.aload_n 0, 1) := by decide +kernel
theorem d216_39 : decode (tb_me 216).1.2.1 39 = .ok (.invokevirtual 327, 3) := by decide +kernel
theorem k216_327 (b : Bool) : tb_lk b 216 327 = (2, 208, 0, 0, 0) := by cases b <;> decide +kernel
theorem m208 : (tb_me 208).2 = ((0, 0), (0, 10)) ∧ (tb_me 208).1.2.2.1 = 4 := by decide +kernel
theorem d216_42 : decode (tb_me 216).1.2.1 42 = .ok (.ireturn, 1) := by decide +kernel
theorem t216 : (tb_me 216).1.2.2.2 = some .int := by decide +kernel
theorem e216 : (tb_me 216).2.1 = (0, 0) ∧ (tb_me 216).1.2.2.1 = 3 := by decide +kernel
theorem d217_2 : decode (tb_me 217).1.2.1 2 = .ok (.iload_n 3, 1) := by decide +kernel
theorem d217_3 : decode (tb_me 217).1.2.1 3 = .ok (.bipush 11, 2) := by decide +kernel
theorem d217_5 : decode (tb_me 217).1.2.1 5 = .ok (.if_icmp .ge 25, 3) := by decide +kernel
theorem d217_8 : decode (tb_me 217).1.2.1 8 = .ok (.iload_n 0, 1) := by decide +kernel
theorem d217_9 : decode (tb_me 217).1.2.1 9 = .ok (.iload_n 3, 1) := by decide +kernel
theorem d217_10 : decode (tb_me 217).1.2.1 10 = .ok (.invokestatic 318, 3) := by decide +kernel
theorem k217_318 (b : Bool) : tb_lk b 217 318 = (4, 149, 0, 0, 0) := by cases b <;> decide +kernel
theorem d217_13 : decode (tb_me 217).1.2.1 13 = .ok (.ifCond .eq 11, 3) := by decide +kernel
theorem d217_24 : decode (tb_me 217).1.2.1 24 = .ok (.iinc 3 1, 3) := by decide +kernel
theorem d217_27 : decode (tb_me 217).1.2.1 27 = .ok (.goto (-25), 3) := by decide +kernel
theorem d217_16 : decode (tb_me 217).1.2.1 16 = .ok (.iload_n 1, 1) := by decide +kernel
theorem d217_17 : decode (tb_me 217).1.2.1 17 = .ok (.iload_n 3, 1) := by decide +kernel
theorem d217_18 : decode (tb_me 217).1.2.1 18 = .ok (.invokestatic 318, 3) := by decide +kernel
theorem d217_21 : decode (tb_me 217).1.2.1 21 = .ok (.ifCond .eq 9, 3) := by decide +kernel
theorem d217_0 : decode (tb_me 217).1.2.1 0 = .ok (.iload_n 2, 1) := by decide +kernel
theorem d217_1 : decode (tb_me 217).1.2.1 1 = .ok (.istore_n 3, 1) := by decide +kernel
theorem d217_30 : decode (tb_me 217).1.2.1 30 = .ok (.iload_n 3, 1) := by decide +kernel
theorem d217_31 : decode (tb_me 217).1.2.1 31 = .ok (.ireturn, 1) := by decide +kernel
theorem t217 : (tb_me 217).1.2.2.2 = some .int := by decide +kernel
theorem e217 : (tb_me 217).2.1 = (0, 0) ∧ (tb_me 217).1.2.2.1 = 4 := by decide +kernel
theorem d218_66 : decode (tb_me 218).1.2.1 66 = .ok (.iload 7, 2) := by decide +kernel
theorem d218_68 : decode (tb_me 218).1.2.1 68 = .ok (.bipush 11, 2) := by decide +kernel
theorem d218_70 : decode (tb_me 218).1.2.1 70 = .ok (.if_icmp .ne 30, 3) := by decide +kernel
theorem d218_100 : decode (tb_me 218).1.2.1 100 = .ok (.aload_n 0, 1) := by decide +kernel
theorem d218_101 : decode (tb_me 218).1.2.1 101 = .ok (.getfield 45, 3) := by decide +kernel
theorem k218_45 (b : Bool) : tb_lk b 218 45 = (1, 10, 24, 0, 0) := by cases b <;> decide +kernel
theorem d218_104 : decode (tb_me 218).1.2.1 104 = .ok (.iload 6, 2) := by decide +kernel
theorem d218_106 : decode (tb_me 218).1.2.1 106 = .ok (.iload 7, 2) := by decide +kernel
theorem d218_108 : decode (tb_me 218).1.2.1 108 = .ok (.iastore, 1) := by decide +kernel
theorem d218_109 : decode (tb_me 218).1.2.1 109 = .ok (.iload_n 2, 1) := by decide +kernel
theorem d218_110 : decode (tb_me 218).1.2.1 110 = .ok (.iload 5, 2) := by decide +kernel
theorem d218_112 : decode (tb_me 218).1.2.1 112 = .ok (.iconst (-1), 1) := by decide +kernel
theorem d218_113 : decode (tb_me 218).1.2.1 113 = .ok (.ixor, 1) := by decide +kernel
theorem d218_114 : decode (tb_me 218).1.2.1 114 = .ok (.iand, 1) := by decide +kernel
theorem d218_115 : decode (tb_me 218).1.2.1 115 = .ok (.iconst 1, 1) := by decide +kernel
theorem d218_116 : decode (tb_me 218).1.2.1 116 = .ok (.iload 7, 2) := by decide +kernel
theorem d218_118 : decode (tb_me 218).1.2.1 118 = .ok (.ishl, 1) := by decide +kernel
theorem d218_119 : decode (tb_me 218).1.2.1 119 = .ok (.iconst (-1), 1) := by decide +kernel
theorem d218_120 : decode (tb_me 218).1.2.1 120 = .ok (.ixor, 1) := by decide +kernel
theorem d218_121 : decode (tb_me 218).1.2.1 121 = .ok (.iand, 1) := by decide +kernel
theorem d218_122 : decode (tb_me 218).1.2.1 122 = .ok (.invokestatic 336, 3) := by decide +kernel
theorem k218_336 (b : Bool) : tb_lk b 218 336 = (4, 150, 0, 0, 0) := by cases b <;> decide +kernel
theorem m150 : (tb_me 150).2 = ((0, 0), (1, 999)) ∧ (tb_me 150).1.2.2.1 = 3 := by decide +kernel
theorem d218_125 : decode (tb_me 218).1.2.1 125 = .ok (.iload 4, 2) := by decide +kernel
theorem d218_127 : decode (tb_me 218).1.2.1 127 = .ok (.iload 6, 2) := by decide +kernel
theorem d218_129 : decode (tb_me 218).1.2.1 129 = .ok (.isub, 1) := by decide +kernel
theorem d218_130 : decode (tb_me 218).1.2.1 130 = .ok (.iconst 1, 1) := by decide +kernel
theorem d218_131 : decode (tb_me 218).1.2.1 131 = .ok (.isub, 1) := by decide +kernel
theorem d218_132 : decode (tb_me 218).1.2.1 132 = .ok (.if_icmp .le 6, 3) := by decide +kernel
theorem d218_138 : decode (tb_me 218).1.2.1 138 = .ok (.iload 5, 2) := by decide +kernel
theorem d218_140 : decode (tb_me 218).1.2.1 140 = .ok (.iconst 1, 1) := by decide +kernel
theorem d218_141 : decode (tb_me 218).1.2.1 141 = .ok (.iload 7, 2) := by decide +kernel
theorem d218_143 : decode (tb_me 218).1.2.1 143 = .ok (.ishl, 1) := by decide +kernel
theorem d218_144 : decode (tb_me 218).1.2.1 144 = .ok (.ior, 1) := by decide +kernel
theorem d218_145 : decode (tb_me 218).1.2.1 145 = .ok (.istore 5, 2) := by decide +kernel
theorem d218_147 : decode (tb_me 218).1.2.1 147 = .ok (.iinc 6 1, 3) := by decide +kernel
theorem d218_150 : decode (tb_me 218).1.2.1 150 = .ok (.iload 6, 2) := by decide +kernel
theorem d218_152 : decode (tb_me 218).1.2.1 152 = .ok (.iload 4, 2) := by decide +kernel
theorem d218_154 : decode (tb_me 218).1.2.1 154 = .ok (.if_icmp .ge 11, 3) := by decide +kernel
theorem d218_165 : decode (tb_me 218).1.2.1 165 = .ok (.goto (-152), 3) := by decide +kernel
theorem d218_157 : decode (tb_me 218).1.2.1 157 = .ok (.aload_n 0, 1) := by decide +kernel
theorem d218_158 : decode (tb_me 218).1.2.1 158 = .ok (.getfield 45, 3) := by decide +kernel
theorem d218_161 : decode (tb_me 218).1.2.1 161 = .ok (.iload 6, 2) := by decide +kernel
theorem d218_163 : decode (tb_me 218).1.2.1 163 = .ok (.iconst (-1), 1) := by decide +kernel
theorem d218_164 : decode (tb_me 218).1.2.1 164 = .ok (.iastore, 1) := by decide +kernel
theorem d218_135 : decode (tb_me 218).1.2.1 135 = .ok (.goto (-122), 3) := by decide +kernel
theorem d218_73 : decode (tb_me 218).1.2.1 73 = .ok (.iinc 6 (-1), 3) := by decide +kernel
theorem d218_76 : decode (tb_me 218).1.2.1 76 = .ok (.iload 6, 2) := by decide +kernel
theorem d218_78 : decode (tb_me 218).1.2.1 78 = .ok (.ifCond .lt (-65), 3) := by decide +kernel
theorem d218_81 : decode (tb_me 218).1.2.1 81 = .ok (.iload 5, 2) := by decide +kernel
theorem d218_83 : decode (tb_me 218).1.2.1 83 = .ok (.iconst 1, 1) := by decide +kernel
theorem d218_84 : decode (tb_me 218).1.2.1 84 = .ok (.aload_n 0, 1) := by decide +kernel
theorem d218_85 : decode (tb_me 218).1.2.1 85 = .ok (.getfield 45, 3) := by decide +kernel
theorem d218_88 : decode (tb_me 218).1.2.1 88 = .ok (.iload 6, 2) := by decide +kernel
theorem d218_90 : decode (tb_me 218).1.2.1 90 = .ok (.iaload, 1) := by decide +kernel
theorem d218_91 : decode (tb_me 218).1.2.1 91 = .ok (.ishl, 1) := by decide +kernel
theorem d218_92 : decode (tb_me 218).1.2.1 92 = .ok (.iconst (-1), 1) := by decide +kernel
theorem d218_93 : decode (tb_me 218).1.2.1 93 = .ok (.ixor, 1) := by decide +kernel
theorem d218_94 : decode (tb_me 218).1.2.1 94 = .ok (.iand, 1) := by decide +kernel
theorem d218_95 : decode (tb_me 218).1.2.1 95 = .ok (.istore 5, 2) := by decide +kernel
theorem d218_97 : decode (tb_me 218).1.2.1 97 = .ok (.goto (-84), 3) := by decide +kernel
theorem d218_45 : decode (tb_me 218).1.2.1 45 = .ok (.istore 7, 2) := by decide +kernel
theorem d218_47 : decode (tb_me 218).1.2.1 47 = .ok (.iload 6, 2) := by decide +kernel
theorem d218_49 : decode (tb_me 218).1.2.1 49 = .ok (.iload 4, 2) := by decide +kernel
theorem d218_51 : decode (tb_me 218).1.2.1 51 = .ok (.if_icmp .ne 15, 3) := by decide +kernel
theorem d218_54 : decode (tb_me 218).1.2.1 54 = .ok (.aload_n 0, 1) := by decide +kernel
theorem d218_55 : decode (tb_me 218).1.2.1 55 = .ok (.iload 4, 2) := by decide +kernel
theorem d218_57 : decode (tb_me 218).1.2.1 57 = .ok (.invokevirtual 333, 3) := by decide +kernel
theorem k218_333 (b : Bool) : tb_lk b 218 333 = (2, 216, 0, 0, 0) := by cases b <;> decide +kernel
theorem m216 : (tb_me 216).2 = ((0, 0), (1, 10)) ∧ (tb_me 216).1.2.2.1 = 3 := by decide +kernel
theorem d218_60 : decode (tb_me 218).1.2.1 60 = .ok (.iload_n 3, 1) := by decide +kernel
theorem d218_61 : decode (tb_me 218).1.2.1 61 = .ok (.if_icmp .ne 5, 3) := by decide +kernel
theorem d218_13 : decode (tb_me 218).1.2.1 13 = .ok (.iload 6, 2) := by decide +kernel
theorem d218_15 : decode (tb_me 218).1.2.1 15 = .ok (.ifCond .lt 153, 3) := by decide +kernel
theorem d218_18 : decode (tb_me 218).1.2.1 18 = .ok (.iload 6, 2) := by decide +kernel
theorem d218_20 : decode (tb_me 218).1.2.1 20 = .ok (.iload 4, 2) := by decide +kernel
theorem d218_22 : decode (tb_me 218).1.2.1 22 = .ok (.if_icmp .ne 8, 3) := by decide +kernel
theorem d218_30 : decode (tb_me 218).1.2.1 30 = .ok (.iload_n 1, 1) := by decide +kernel
theorem d218_31 : decode (tb_me 218).1.2.1 31 = .ok (.iload 5, 2) := by decide +kernel
theorem d218_33 : decode (tb_me 218).1.2.1 33 = .ok (.aload_n 0, 1) := by decide +kernel
theorem d218_34 : decode (tb_me 218).1.2.1 34 = .ok (.getfield 45, 3) := by decide +kernel
theorem d218_37 : decode (tb_me 218).1.2.1 37 = .ok (.iload 6, 2) := by decide +kernel
theorem d218_39 : decode (tb_me 218).1.2.1 39 = .ok (.iaload, 1) := by decide +kernel
theorem d218_40 : decode (tb_me 218).1.2.1 40 = .ok (.iconst 1, 1) := by decide +kernel
theorem d218_41 : decode (tb_me 218).1.2.1 41 = .ok (.iadd, 1) := by decide +kernel
theorem d218_42 : decode (tb_me 218).1.2.1 42 = .ok (.invokestatic 330, 3) := by decide +kernel
theorem k218_330 (b : Bool) : tb_lk b 218 330 = (4, 217, 0, 0, 0) := by cases b <;> decide +kernel
theorem m217 : (tb_me 217).2 = ((0, 0), (3, 999)) ∧ (tb_me 217).1.2.2.1 = 4 := by decide +kernel
theorem d218_25 : decode (tb_me 218).1.2.1 25 = .ok (.bipush 11, 2) := by decide +kernel
theorem d218_27 : decode (tb_me 218).1.2.1 27 = .ok (.goto 18, 3) := by decide +kernel
theorem d218_0 : decode (tb_me 218).1.2.1 0 = .ok (.iconst 0, 1) := by decide +kernel
theorem d218_1 : decode (tb_me 218).1.2.1 1 = .ok (.istore 5, 2) := by decide +kernel
theorem d218_3 : decode (tb_me 218).1.2.1 3 = .ok (.iconst 0, 1) := by decide +kernel
theorem d218_4 : decode (tb_me 218).1.2.1 4 = .ok (.istore 6, 2) := by decide +kernel
theorem d218_6 : decode (tb_me 218).1.2.1 6 = .ok (.aload_n 0, 1) := by decide +kernel
theorem d218_7 : decode (tb_me 218).1.2.1 7 = .ok (.getfield 45, 3) := by decide +kernel
theorem d218_10 : decode (tb_me 218).1.2.1 10 = .ok (.iconst 0, 1) := by decide +kernel
theorem d218_11 : decode (tb_me 218).1.2.1 11 = .ok (.iconst (-1), 1) := by decide +kernel
theorem d218_12 : decode (tb_me 218).1.2.1 12 = .ok (.iastore, 1) := by decide +kernel
theorem d218_64 : decode (tb_me 218).1.2.1 64 = .ok (.iconst 1, 1) := by decide +kernel
theorem d218_65 : decode (tb_me 218).1.2.1 65 = .ok (.ireturn, 1) := by decide +kernel
theorem t218 : (tb_me 218).1.2.2.2 = some .boolean := by decide +kernel
theorem d218_168 : decode (tb_me 218).1.2.1 168 = .ok (.iconst 0, 1) := by decide +kernel
theorem d218_169 : decode (tb_me 218).1.2.1 169 = .ok (.ireturn, 1) := by decide +kernel
theorem e218 : (tb_me 218).2.1 = (0, 0) ∧ (tb_me 218).1.2.2.1 = 8 := by decide +kernel
theorem d219_79 : decode (tb_me 219).1.2.1 79 = .ok (.iload 5, 2) := by decide +kernel
theorem d219_81 : decode (tb_me 219).1.2.1 81 = .ok (.bipush 11, 2) := by decide +kernel
theorem d219_83 : decode (tb_me 219).1.2.1 83 = .ok (.if_icmp .ne 28, 3) := by decide +kernel
theorem d219_111 : decode (tb_me 219).1.2.1 111 = .ok (.aload_n 0, 1) := by decide +kernel
theorem d219_112 : decode (tb_me 219).1.2.1 112 = .ok (.getfield 45, 3) := by decide +kernel
theorem k219_45 (b : Bool) : tb_lk b 219 45 = (1, 10, 24, 0, 0) := by cases b <;> decide +kernel
theorem d219_115 : decode (tb_me 219).1.2.1 115 = .ok (.iload 4, 2) := by decide +kernel
theorem d219_117 : decode (tb_me 219).1.2.1 117 = .ok (.iload 5, 2) := by decide +kernel
theorem d219_119 : decode (tb_me 219).1.2.1 119 = .ok (.iastore, 1) := by decide +kernel
theorem d219_120 : decode (tb_me 219).1.2.1 120 = .ok (.iload_n 3, 1) := by decide +kernel
theorem d219_121 : decode (tb_me 219).1.2.1 121 = .ok (.iconst 1, 1) := by decide +kernel
theorem d219_122 : decode (tb_me 219).1.2.1 122 = .ok (.iload 5, 2) := by decide +kernel
theorem d219_124 : decode (tb_me 219).1.2.1 124 = .ok (.ishl, 1) := by decide +kernel
theorem d219_125 : decode (tb_me 219).1.2.1 125 = .ok (.ior, 1) := by decide +kernel
theorem d219_126 : decode (tb_me 219).1.2.1 126 = .ok (.istore_n 3, 1) := by decide +kernel
theorem d219_127 : decode (tb_me 219).1.2.1 127 = .ok (.iinc 4 1, 3) := by decide +kernel
theorem d219_130 : decode (tb_me 219).1.2.1 130 = .ok (.iload 4, 2) := by decide +kernel
theorem d219_132 : decode (tb_me 219).1.2.1 132 = .ok (.iload_n 2, 1) := by decide +kernel
theorem d219_133 : decode (tb_me 219).1.2.1 133 = .ok (.if_icmp .ge 11, 3) := by decide +kernel
theorem d219_144 : decode (tb_me 219).1.2.1 144 = .ok (.goto (-132), 3) := by decide +kernel
theorem d219_136 : decode (tb_me 219).1.2.1 136 = .ok (.aload_n 0, 1) := by decide +kernel
theorem d219_137 : decode (tb_me 219).1.2.1 137 = .ok (.getfield 45, 3) := by decide +kernel
theorem d219_140 : decode (tb_me 219).1.2.1 140 = .ok (.iload 4, 2) := by decide +kernel
theorem d219_142 : decode (tb_me 219).1.2.1 142 = .ok (.iconst (-1), 1) := by decide +kernel
theorem d219_143 : decode (tb_me 219).1.2.1 143 = .ok (.iastore, 1) := by decide +kernel
theorem d219_86 : decode (tb_me 219).1.2.1 86 = .ok (.iinc 4 (-1), 3) := by decide +kernel
theorem d219_89 : decode (tb_me 219).1.2.1 89 = .ok (.iload 4, 2) := by decide +kernel
theorem d219_91 : decode (tb_me 219).1.2.1 91 = .ok (.ifCond .lt (-79), 3) := by decide +kernel
theorem d219_94 : decode (tb_me 219).1.2.1 94 = .ok (.iload_n 3, 1) := by decide +kernel
theorem d219_95 : decode (tb_me 219).1.2.1 95 = .ok (.iconst 1, 1) := by decide +kernel
theorem d219_96 : decode (tb_me 219).1.2.1 96 = .ok (.aload_n 0, 1) := by decide +kernel
theorem d219_97 : decode (tb_me 219).1.2.1 97 = .ok (.getfield 45, 3) := by decide +kernel
theorem d219_100 : decode (tb_me 219).1.2.1 100 = .ok (.iload 4, 2) := by decide +kernel
theorem d219_102 : decode (tb_me 219).1.2.1 102 = .ok (.iaload, 1) := by decide +kernel
theorem d219_103 : decode (tb_me 219).1.2.1 103 = .ok (.ishl, 1) := by decide +kernel
theorem d219_104 : decode (tb_me 219).1.2.1 104 = .ok (.iconst (-1), 1) := by decide +kernel
theorem d219_105 : decode (tb_me 219).1.2.1 105 = .ok (.ixor, 1) := by decide +kernel
theorem d219_106 : decode (tb_me 219).1.2.1 106 = .ok (.iand, 1) := by decide +kernel
theorem d219_107 : decode (tb_me 219).1.2.1 107 = .ok (.istore_n 3, 1) := by decide +kernel
theorem d219_108 : decode (tb_me 219).1.2.1 108 = .ok (.goto (-96), 3) := by decide +kernel
theorem d219_77 : decode (tb_me 219).1.2.1 77 = .ok (.ior, 1) := by decide +kernel
theorem d219_78 : decode (tb_me 219).1.2.1 78 = .ok (.iastore, 1) := by decide +kernel
theorem d219_42 : decode (tb_me 219).1.2.1 42 = .ok (.istore 5, 2) := by decide +kernel
theorem d219_44 : decode (tb_me 219).1.2.1 44 = .ok (.iload 4, 2) := by decide +kernel
theorem d219_46 : decode (tb_me 219).1.2.1 46 = .ok (.iload_n 2, 1) := by decide +kernel
theorem d219_47 : decode (tb_me 219).1.2.1 47 = .ok (.if_icmp .ne 32, 3) := by decide +kernel
theorem d219_50 : decode (tb_me 219).1.2.1 50 = .ok (.aload_n 0, 1) := by decide +kernel
theorem d219_51 : decode (tb_me 219).1.2.1 51 = .ok (.iload_n 2, 1) := by decide +kernel
theorem d219_52 : decode (tb_me 219).1.2.1 52 = .ok (.invokevirtual 333, 3) := by decide +kernel
theorem k219_333 (b : Bool) : tb_lk b 219 333 = (2, 216, 0, 0, 0) := by cases b <;> decide +kernel
theorem d219_55 : decode (tb_me 219).1.2.1 55 = .ok (.istore 6, 2) := by decide +kernel
theorem d219_57 : decode (tb_me 219).1.2.1 57 = .ok (.aload_n 0, 1) := by decide +kernel
theorem d219_58 : decode (tb_me 219).1.2.1 58 = .ok (.getfield 51, 3) := by decide +kernel
theorem k219_51 (b : Bool) : tb_lk b 219 51 = (1, 10, 26, 0, 0) := by cases b <;> decide +kernel
theorem f10_26 : (26 < pm_nf tb_cl 10) ∧ tb_ft 10 26 ≠ .long ∧ pm_isR (tb_ft 10 26) = true := by decide +kernel
theorem d219_61 : decode (tb_me 219).1.2.1 61 = .ok (.iload_n 3, 1) := by decide +kernel
theorem d219_62 : decode (tb_me 219).1.2.1 62 = .ok (.dup2, 1) := by decide +kernel
theorem d219_63 : decode (tb_me 219).1.2.1 63 = .ok (.iaload, 1) := by decide +kernel
theorem d219_64 : decode (tb_me 219).1.2.1 64 = .ok (.iload 6, 2) := by decide +kernel
theorem d219_66 : decode (tb_me 219).1.2.1 66 = .ok (.ifCond .ge 7, 3) := by decide +kernel
theorem d219_73 : decode (tb_me 219).1.2.1 73 = .ok (.iconst 1, 1) := by decide +kernel
theorem d219_74 : decode (tb_me 219).1.2.1 74 = .ok (.iload 6, 2) := by decide +kernel
theorem d219_76 : decode (tb_me 219).1.2.1 76 = .ok (.ishl, 1) := by decide +kernel
theorem d219_69 : decode (tb_me 219).1.2.1 69 = .ok (.iconst 0, 1) := by decide +kernel
theorem d219_70 : decode (tb_me 219).1.2.1 70 = .ok (.goto 7, 3) := by decide +kernel
theorem d219_12 : decode (tb_me 219).1.2.1 12 = .ok (.iload 4, 2) := by decide +kernel
theorem d219_14 : decode (tb_me 219).1.2.1 14 = .ok (.ifCond .lt 133, 3) := by decide +kernel
theorem d219_17 : decode (tb_me 219).1.2.1 17 = .ok (.iload 4, 2) := by decide +kernel
theorem d219_19 : decode (tb_me 219).1.2.1 19 = .ok (.iload_n 2, 1) := by decide +kernel
theorem d219_20 : decode (tb_me 219).1.2.1 20 = .ok (.if_icmp .ne 8, 3) := by decide +kernel
theorem d219_28 : decode (tb_me 219).1.2.1 28 = .ok (.iload_n 1, 1) := by decide +kernel
theorem d219_29 : decode (tb_me 219).1.2.1 29 = .ok (.iload_n 3, 1) := by decide +kernel
theorem d219_30 : decode (tb_me 219).1.2.1 30 = .ok (.aload_n 0, 1) := by decide +kernel
theorem d219_31 : decode (tb_me 219).1.2.1 31 = .ok (.getfield 45, 3) := by decide +kernel
theorem d219_34 : decode (tb_me 219).1.2.1 34 = .ok (.iload 4, 2) := by decide +kernel
theorem d219_36 : decode (tb_me 219).1.2.1 36 = .ok (.iaload, 1) := by decide +kernel
theorem d219_37 : decode (tb_me 219).1.2.1 37 = .ok (.iconst 1, 1) := by decide +kernel
theorem d219_38 : decode (tb_me 219).1.2.1 38 = .ok (.iadd, 1) := by decide +kernel
theorem d219_39 : decode (tb_me 219).1.2.1 39 = .ok (.invokestatic 330, 3) := by decide +kernel
theorem k219_330 (b : Bool) : tb_lk b 219 330 = (4, 217, 0, 0, 0) := by cases b <;> decide +kernel
theorem d219_23 : decode (tb_me 219).1.2.1 23 = .ok (.bipush 11, 2) := by decide +kernel
theorem d219_25 : decode (tb_me 219).1.2.1 25 = .ok (.goto 17, 3) := by decide +kernel
theorem d219_0 : decode (tb_me 219).1.2.1 0 = .ok (.iconst 0, 1) := by decide +kernel
theorem d219_1 : decode (tb_me 219).1.2.1 1 = .ok (.istore_n 3, 1) := by decide +kernel
theorem d219_2 : decode (tb_me 219).1.2.1 2 = .ok (.iconst 0, 1) := by decide +kernel
theorem d219_3 : decode (tb_me 219).1.2.1 3 = .ok (.istore 4, 2) := by decide +kernel
theorem d219_5 : decode (tb_me 219).1.2.1 5 = .ok (.aload_n 0, 1) := by decide +kernel
theorem d219_6 : decode (tb_me 219).1.2.1 6 = .ok (.getfield 45, 3) := by decide +kernel
theorem d219_9 : decode (tb_me 219).1.2.1 9 = .ok (.iconst 0, 1) := by decide +kernel
theorem d219_10 : decode (tb_me 219).1.2.1 10 = .ok (.iconst (-1), 1) := by decide +kernel
theorem d219_11 : decode (tb_me 219).1.2.1 11 = .ok (.iastore, 1) := by decide +kernel
theorem d219_147 : decode (tb_me 219).1.2.1 147 = .ok (.return_, 1) := by decide +kernel
theorem t219 : (tb_me 219).1.2.2.2 = none := by decide +kernel
theorem e219 : (tb_me 219).2.1 = (0, 0) ∧ (tb_me 219).1.2.2.1 = 7 := by decide +kernel
theorem d220_52 : decode (tb_me 220).1.2.1 52 = .ok (.iload_n 3, 1) := by decide +kernel
theorem d220_53 : decode (tb_me 220).1.2.1 53 = .ok (.bipush 8, 2) := by decide +kernel
theorem d220_55 : decode (tb_me 220).1.2.1 55 = .ok (.if_icmp .gt 38, 3) := by decide +kernel
theorem d220_58 : decode (tb_me 220).1.2.1 58 = .ok (.iload_n 2, 1) := by decide +kernel
theorem d220_59 : decode (tb_me 220).1.2.1 59 = .ok (.iload_n 3, 1) := by decide +kernel
theorem d220_60 : decode (tb_me 220).1.2.1 60 = .ok (.invokestatic 318, 3) := by decide +kernel
theorem k220_318 (b : Bool) : tb_lk b 220 318 = (4, 149, 0, 0, 0) := by cases b <;> decide +kernel
theorem d220_63 : decode (tb_me 220).1.2.1 63 = .ok (.ifCond .eq 24, 3) := by decide +kernel
theorem d220_87 : decode (tb_me 220).1.2.1 87 = .ok (.iinc 3 1, 3) := by decide +kernel
theorem d220_90 : decode (tb_me 220).1.2.1 90 = .ok (.goto (-38), 3) := by decide +kernel
theorem d220_66 : decode (tb_me 220).1.2.1 66 = .ok (.aload_n 0, 1) := by decide +kernel
theorem d220_67 : decode (tb_me 220).1.2.1 67 = .ok (.getfield 51, 3) := by decide +kernel
theorem k220_51 (b : Bool) : tb_lk b 220 51 = (1, 10, 26, 0, 0) := by cases b <;> decide +kernel
theorem d220_70 : decode (tb_me 220).1.2.1 70 = .ok (.iload_n 2, 1) := by decide +kernel
theorem d220_71 : decode (tb_me 220).1.2.1 71 = .ok (.dup2, 1) := by decide +kernel
theorem d220_72 : decode (tb_me 220).1.2.1 72 = .ok (.iaload, 1) := by decide +kernel
theorem d220_73 : decode (tb_me 220).1.2.1 73 = .ok (.aload_n 0, 1) := by decide +kernel
theorem d220_74 : decode (tb_me 220).1.2.1 74 = .ok (.getfield 51, 3) := by decide +kernel
theorem d220_77 : decode (tb_me 220).1.2.1 77 = .ok (.iload_n 2, 1) := by decide +kernel
theorem d220_78 : decode (tb_me 220).1.2.1 78 = .ok (.iconst 1, 1) := by decide +kernel
theorem d220_79 : decode (tb_me 220).1.2.1 79 = .ok (.iload_n 3, 1) := by decide +kernel
theorem d220_80 : decode (tb_me 220).1.2.1 80 = .ok (.ishl, 1) := by decide +kernel
theorem d220_81 : decode (tb_me 220).1.2.1 81 = .ok (.iconst (-1), 1) := by decide +kernel
theorem d220_82 : decode (tb_me 220).1.2.1 82 = .ok (.ixor, 1) := by decide +kernel
theorem d220_83 : decode (tb_me 220).1.2.1 83 = .ok (.iand, 1) := by decide +kernel
theorem d220_84 : decode (tb_me 220).1.2.1 84 = .ok (.iaload, 1) := by decide +kernel
theorem d220_85 : decode (tb_me 220).1.2.1 85 = .ok (.ior, 1) := by decide +kernel
theorem d220_86 : decode (tb_me 220).1.2.1 86 = .ok (.iastore, 1) := by decide +kernel
theorem d220_43 : decode (tb_me 220).1.2.1 43 = .ok (.iload_n 2, 1) := by decide +kernel
theorem d220_44 : decode (tb_me 220).1.2.1 44 = .ok (.sipush 512, 3) := by decide +kernel
theorem d220_47 : decode (tb_me 220).1.2.1 47 = .ok (.if_icmp .ge 52, 3) := by decide +kernel
theorem d220_50 : decode (tb_me 220).1.2.1 50 = .ok (.iconst 0, 1) := by decide +kernel
theorem d220_51 : decode (tb_me 220).1.2.1 51 = .ok (.istore_n 3, 1) := by decide +kernel
theorem d220_93 : decode (tb_me 220).1.2.1 93 = .ok (.iinc 2 1, 3) := by decide +kernel
theorem d220_96 : decode (tb_me 220).1.2.1 96 = .ok (.goto (-53), 3) := by decide +kernel
theorem d220_24 : decode (tb_me 220).1.2.1 24 = .ok (.iload_n 2, 1) := by decide +kernel
theorem d220_25 : decode (tb_me 220).1.2.1 25 = .ok (.iconst 5, 1) := by decide +kernel
theorem d220_26 : decode (tb_me 220).1.2.1 26 = .ok (.if_icmp .gt 15, 3) := by decide +kernel
theorem d220_29 : decode (tb_me 220).1.2.1 29 = .ok (.aload_n 0, 1) := by decide +kernel
theorem d220_30 : decode (tb_me 220).1.2.1 30 = .ok (.iload_n 1, 1) := by decide +kernel
theorem d220_31 : decode (tb_me 220).1.2.1 31 = .ok (.iload_n 2, 1) := by decide +kernel
theorem d220_32 : decode (tb_me 220).1.2.1 32 = .ok (.invokevirtual 339, 3) := by decide +kernel
theorem k220_339 (b : Bool) : tb_lk b 220 339 = (2, 219, 0, 0, 0) := by cases b <;> decide +kernel
theorem m219 : (tb_me 219).2 = ((0, 0), (2, 10)) ∧ (tb_me 219).1.2.2.1 = 7 := by decide +kernel
theorem d220_35 : decode (tb_me 220).1.2.1 35 = .ok (.iinc 2 1, 3) := by decide +kernel
theorem d220_38 : decode (tb_me 220).1.2.1 38 = .ok (.goto (-14), 3) := by decide +kernel
theorem d220_2 : decode (tb_me 220).1.2.1 2 = .ok (.iload_n 2, 1) := by decide +kernel
theorem d220_3 : decode (tb_me 220).1.2.1 3 = .ok (.sipush 512, 3) := by decide +kernel
theorem d220_6 : decode (tb_me 220).1.2.1 6 = .ok (.if_icmp .ge 16, 3) := by decide +kernel
theorem d220_9 : decode (tb_me 220).1.2.1 9 = .ok (.aload_n 0, 1) := by decide +kernel
theorem d220_10 : decode (tb_me 220).1.2.1 10 = .ok (.getfield 51, 3) := by decide +kernel
theorem d220_13 : decode (tb_me 220).1.2.1 13 = .ok (.iload_n 2, 1) := by decide +kernel
theorem d220_14 : decode (tb_me 220).1.2.1 14 = .ok (.iconst 0, 1) := by decide +kernel
theorem d220_15 : decode (tb_me 220).1.2.1 15 = .ok (.iastore, 1) := by decide +kernel
theorem d220_16 : decode (tb_me 220).1.2.1 16 = .ok (.iinc 2 1, 3) := by decide +kernel
theorem d220_19 : decode (tb_me 220).1.2.1 19 = .ok (.goto (-17), 3) := by decide +kernel
theorem d220_0 : decode (tb_me 220).1.2.1 0 = .ok (.iconst 0, 1) := by decide +kernel
theorem d220_1 : decode (tb_me 220).1.2.1 1 = .ok (.istore_n 2, 1) := by decide +kernel
theorem d220_22 : decode (tb_me 220).1.2.1 22 = .ok (.iconst 1, 1) := by decide +kernel
theorem d220_23 : decode (tb_me 220).1.2.1 23 = .ok (.istore_n 2, 1) := by decide +kernel
theorem d220_41 : decode (tb_me 220).1.2.1 41 = .ok (.iconst 0, 1) := by decide +kernel
theorem d220_42 : decode (tb_me 220).1.2.1 42 = .ok (.istore_n 2, 1) := by decide +kernel
theorem d220_99 : decode (tb_me 220).1.2.1 99 = .ok (.return_, 1) := by decide +kernel
theorem t220 : (tb_me 220).1.2.2.2 = none := by decide +kernel
theorem e220 : (tb_me 220).2.1 = (0, 0) ∧ (tb_me 220).1.2.2.1 = 4 := by decide +kernel
theorem d221_0 : decode (tb_me 221).1.2.1 0 = .ok (.aload_n 0, 1) := by decide +kernel
theorem d221_1 : decode (tb_me 221).1.2.1 1 = .ok (.iload_n 1, 1) := by decide +kernel
theorem d221_2 : decode (tb_me 221).1.2.1 2 = .ok (.invokevirtual 342, 3) := by decide +kernel
theorem k221_342 (b : Bool) : tb_lk b 221 342 = (2, 220, 0, 0, 0) := by cases b <;> decide +kernel
theorem m220 : (tb_me 220).2 = ((0, 0), (1, 10)) ∧ (tb_me 220).1.2.2.1 = 4 := by decide +kernel
theorem d221_5 : decode (tb_me 221).1.2.1 5 = .ok (.aload_n 0, 1) := by decide +kernel
theorem d221_6 : decode (tb_me 221).1.2.1 6 = .ok (.getfield 51, 3) := by decide +kernel
theorem k221_51 (b : Bool) : tb_lk b 221 51 = (1, 10, 26, 0, 0) := by cases b <;> decide +kernel
theorem d221_9 : decode (tb_me 221).1.2.1 9 = .ok (.iload_n 1, 1) := by decide +kernel
theorem d221_10 : decode (tb_me 221).1.2.1 10 = .ok (.iaload, 1) := by decide +kernel
theorem d221_11 : decode (tb_me 221).1.2.1 11 = .ok (.ireturn, 1) := by decide +kernel
theorem t221 : (tb_me 221).1.2.2.2 = some .int := by decide +kernel
theorem e221 : (tb_me 221).2.1 = (0, 0) ∧ (tb_me 221).1.2.2.1 = 2 := by decide +kernel
noncomputable def m_rule (l0 : Nat) (h : pm_H) : Option (Int32 × pm_H) := if ¬ (h.2.1 l0 2) = (Int8.ofInt 6).toInt32 then (bd (pm_setI h l0 11 (h.2.1 l0 2)) fun h2 => (gA h2 l0 6 .int).bind fun y3 => if mi_in (h2.2.1 l0 11) (mi_n y3) = true then bd (pm_setI h2 y3 (h2.2.1 l0 11).toNatClampNeg (Int32.ofInt 0)) fun h5 => (m_readsAll l0 h5).bind fun q6 => if ¬ q6.1 = 0 then (bd (pm_setI q6.2 l0 2 ((q6.2.2.1 l0 2) + (Int32.ofInt 1))) fun h8 => some (((h8.2.1 l0 2) - (Int32.ofInt 1)), h8)) else (some (((Int8.ofInt (-2)).toInt32 - (q6.2.2.1 l0 9)), q6.2)) else none) else (some ((Int32.ofInt (-1)), h))
theorem T_m_rule (b : Bool) (L : Nat) (xs : Nat → Int32) (d : Nat) (hd : 12 ≤ d) (h : pm_H) (s_h : h.1 = tb_SH) (l0 : Nat) (f_l0 : mi_o l0 10 = true) {r : (Int32 × pm_H)} (hm : m_rule l0 h = some r) : PC b L xs d 185 [(Value.ref l0)] h (fun (v0 : Option Value) (h2 : pm_H) => v0 = (some (Value.int r.1)) ∧ h2 = r.2 ∧ h2.1 = tb_SH) := by
  refine pc_in e185 (ls0 := [(Value.ref l0)]) rfl ?_
  have key : ∀ (Q : Option Value → pm_H → Prop), (r.2.1 = tb_SH → Q (some (Value.int r.1)) r.2) → PW b L xs d 185 0 0 0 [(Value.ref l0)] [] h Q := by
    intro Q hE
    rw [m_rule] at hm
    refine pw_l (pc := 0) d185_0 rfl rfl rfl ?_
    refine pw_gi (pc := 1) d185_1 (k185_246 b) (sho s_h f_l0) f10_2 ?_
    refine pw_s (pc := 4) d185_4 rfl rfl ?_
    refine pw_ine (pc := 6) (t := 11) d185_6 (by decide) (fun c1 => ?_) (fun c1 => ?_)
    · rw [if_pos c1] at hm
      refine pw_l (pc := 11) d185_11 rfl rfl rfl ?_
      refine pw_l (pc := 12) d185_12 rfl rfl rfl ?_
      refine pw_gi (pc := 13) d185_13 (k185_246 b) (sho s_h f_l0) f10_2 ?_
      refine pw_pi (pc := 16) d185_16 (k185_138 b) (sho s_h f_l0) p185_10_11 ?_
      obtain ⟨h2, e_h2, hm⟩ := bd_x hm
      rw [e_h2]
      have s_h2 : h2.1 = tb_SH := by rw [← e_h2]; exact s_h
      refine pw_l (pc := 19) d185_19 rfl rfl rfl ?_
      obtain ⟨y3, e_y3, hm⟩ := ob_x hm
      have f_y3 := gA_x e_y3
      refine pw_gr (pc := 20) d185_20 (k185_23 b) (sho s_h2 f_l0) f10_6 f_y3.1 ?_
      refine pw_l (pc := 23) d185_23 rfl rfl rfl ?_
      refine pw_gi (pc := 24) d185_24 (k185_138 b) (sho s_h2 f_l0) f10_11 ?_
      refine pw_s (pc := 27) d185_27 rfl rfl ?_
      obtain ⟨g4, hm⟩ := gd_x hm
      refine pw_si (pc := 28) d185_28 (sha s_h2 f_y3.2) (mi_in_x g4) ?_
      obtain ⟨h5, e_h5, hm⟩ := bd_x hm
      rw [e_h5]
      have s_h5 : h5.1 = tb_SH := by rw [← e_h5]; exact s_h2
      refine pw_l (pc := 29) d185_29 rfl rfl rfl ?_
      obtain ⟨q6, e_q6, hm⟩ := ob_x hm
      refine pw_v (pc := 30) (k := l0) (by omega) d185_30 (k185_249 b) (by decide) m184 (by decide) rfl (sho s_h5 f_l0) (Nat.le_of_ble_eq_true rfl) (Nat.le_of_ble_eq_true rfl) rfl rfl (T_m_readsAll b L xs (d - 1) (by omega) h5 s_h5 l0 f_l0 e_q6) (fun v0 h0 hq => ?_)
      obtain ⟨rfl, hh0, s_q6⟩ := hq
      rw [hh0] at s_q6 ⊢
      simp only [Option.toList_some, List.cons_append, List.nil_append]
      refine pw_zne (pc := 33) (t := 44) d185_33 (by decide) (fun c7 => ?_) (fun c7 => ?_)
      · rw [if_pos c7] at hm
        refine pw_l (pc := 44) d185_44 rfl rfl rfl ?_
        refine pw_s (pc := 45) d185_45 rfl rfl ?_
        refine pw_gi (pc := 46) d185_46 (k185_246 b) (sho s_q6 f_l0) f10_2 ?_
        refine pw_s (pc := 49) d185_49 rfl rfl ?_
        refine pw_s (pc := 50) d185_50 rfl rfl ?_
        refine pw_pi (pc := 51) d185_51 (k185_246 b) (sho s_q6 f_l0) p185_10_2 ?_
        obtain ⟨h8, e_h8, hm⟩ := bd_x hm
        rw [e_h8]
        have s_h8 : h8.1 = tb_SH := by rw [← e_h8]; exact s_q6
        refine pw_l (pc := 54) d185_54 rfl rfl rfl ?_
        refine pw_gi (pc := 55) d185_55 (k185_246 b) (sho s_h8 f_l0) f10_2 ?_
        refine pw_s (pc := 58) d185_58 rfl rfl ?_
        refine pw_s (pc := 59) d185_59 rfl rfl ?_
        obtain rfl := Option.some.inj hm
        refine pw_ri (pc := 60) d185_60 t185 rfl ?_
        exact hE s_h8
      · rw [if_neg c7] at hm
        refine pw_s (pc := 36) d185_36 rfl rfl ?_
        refine pw_l (pc := 38) d185_38 rfl rfl rfl ?_
        refine pw_gi (pc := 39) d185_39 (k185_81 b) (sho s_q6 f_l0) f10_9 ?_
        refine pw_s (pc := 42) d185_42 rfl rfl ?_
        obtain rfl := Option.some.inj hm
        refine pw_ri (pc := 43) d185_43 t185 rfl ?_
        exact hE s_q6
    · rw [if_neg c1] at hm
      refine pw_s (pc := 9) d185_9 rfl rfl ?_
      obtain rfl := Option.some.inj hm
      refine pw_ri (pc := 10) d185_10 t185 rfl ?_
      exact hE s_h
  exact key _ (fun q => ⟨rfl, rfl, q⟩)
def E_m_ship_68 (b : Bool) (L : Nat) (xs : Nat → Int32) (d : Nat) (Q : Option Value → pm_H → Prop) (l0 : Nat) : ((Int32 × pm_H) ⊕ pm_H) → Prop
  | .inl s => s.2.1 = tb_SH → PW b L xs d 186 0 0 68 [(Value.ref l0), (Value.int s.1)] [] s.2 Q
  | .inr e => e.1 = tb_SH → ∀ w1 : Value, PW b L xs d 186 0 0 104 [(Value.ref l0), w1] [] e Q
def E_m_ship_29 (b : Bool) (L : Nat) (xs : Nat → Int32) (d : Nat) (Q : Option Value → pm_H → Prop) (l0 : Nat) : ((Int32 × pm_H) ⊕ pm_H) → Prop
  | .inl s => s.2.1 = tb_SH → PW b L xs d 186 0 0 29 [(Value.ref l0), (Value.int s.1)] [] s.2 Q
  | .inr e => e.1 = tb_SH → ∀ w1 : Value, PW b L xs d 186 0 0 51 [(Value.ref l0), w1] [] e Q
def E_m_ship_8 (b : Bool) (L : Nat) (xs : Nat → Int32) (d : Nat) (Q : Option Value → pm_H → Prop) (l0 : Nat) : ((Int32 × pm_H) ⊕ pm_H) → Prop
  | .inl s => s.2.1 = tb_SH → PW b L xs d 186 0 0 8 [(Value.ref l0), (Value.int s.1)] [] s.2 Q
  | .inr e => e.1 = tb_SH → ∀ w1 : Value, PW b L xs d 186 0 0 27 [(Value.ref l0), w1] [] e Q
noncomputable def m_ship_97 (l0 : Nat) (l1 : Int32) (z0 : Int32) (z1 : Int32) (z2 : Nat) (h : pm_H) : Option ((Int32 × pm_H) ⊕ pm_H) := if mi_in z1 (mi_n z2) = true then bd (pm_setI h z2 z1.toNatClampNeg z0) fun h2 => some (.inl ((l1 + Int32.ofInt 1), h2)) else none
theorem t_m_ship_97 (b : Bool) (L : Nat) (xs : Nat → Int32) (d : Nat) (hd : 12 ≤ d) {Q : Option Value → pm_H → Prop} (h : pm_H) (s_h : h.1 = tb_SH) (l0 : Nat) (l1 : Int32) (z0 : Int32) (z1 : Int32) (z2 : Nat) (f_l0 : mi_o l0 10 = true) (f_z2 : mi_a z2 .int = true) {r : ((Int32 × pm_H) ⊕ pm_H)} (hm : m_ship_97 l0 l1 z0 z1 z2 h = some r) (hE : E_m_ship_68 b L xs d Q l0 r) : PW b L xs d 186 0 0 97 [(Value.ref l0), (Value.int l1)] [(Value.int z0), (Value.int z1), (Value.ref z2)] h Q := by
  rw [m_ship_97] at hm
  obtain ⟨g1, hm⟩ := gd_x hm
  refine pw_si (pc := 97) d186_97 (sha s_h f_z2) (mi_in_x g1) ?_
  obtain ⟨h2, e_h2, hm⟩ := bd_x hm
  rw [e_h2]
  have s_h2 : h2.1 = tb_SH := by rw [← e_h2]; exact s_h
  refine pw_t (pc := 98) d186_98 rfl rfl rfl rfl ?_
  refine pw_go (pc := 101) (t := 68) d186_101 (by decide) ?_
  obtain rfl := Option.some.inj hm
  exact hE s_h2  
noncomputable def m_ship_68 (l0 : Nat) (l1 : Int32) (h : pm_H) : Option ((Int32 × pm_H) ⊕ pm_H) := if (Int16.ofInt 227).toInt32 ≤ l1 then (some (.inr h)) else ((gA h l0 20 .int).bind fun y2 => if (Int16.ofInt 206).toInt32 ≤ l1 then (m_ship_97 l0 l1 (Int32.ofInt 0) l1 y2 h) else ((gA h l0 7 .int).bind fun y4 => if mi_in l1 (mi_n y4) = true then m_ship_97 l0 l1 (h.2.1 y4 l1.toNatClampNeg) l1 y2 h else none))
theorem t_m_ship_68 (b : Bool) (L : Nat) (xs : Nat → Int32) (d : Nat) (hd : 12 ≤ d) {Q : Option Value → pm_H → Prop} (h : pm_H) (s_h : h.1 = tb_SH) (l0 : Nat) (l1 : Int32) (f_l0 : mi_o l0 10 = true) {r : ((Int32 × pm_H) ⊕ pm_H)} (hm : m_ship_68 l0 l1 h = some r) (hE : E_m_ship_68 b L xs d Q l0 r) : PW b L xs d 186 0 0 68 [(Value.ref l0), (Value.int l1)] [] h Q := by
  rw [m_ship_68] at hm
  refine pw_l (pc := 68) d186_68 rfl rfl rfl ?_
  refine pw_s (pc := 69) d186_69 rfl rfl ?_
  refine pw_ige (pc := 72) (t := 104) d186_72 (by decide) (fun c1 => ?_) (fun c1 => ?_)
  · rw [if_pos c1] at hm
    obtain rfl := Option.some.inj hm
    exact hE s_h  (Value.int l1)
  · rw [if_neg c1] at hm
    refine pw_l (pc := 75) d186_75 rfl rfl rfl ?_
    obtain ⟨y2, e_y2, hm⟩ := ob_x hm
    have f_y2 := gA_x e_y2
    refine pw_gr (pc := 76) d186_76 (k186_39 b) (sho s_h f_l0) f10_20 f_y2.1 ?_
    refine pw_l (pc := 79) d186_79 rfl rfl rfl ?_
    refine pw_l (pc := 80) d186_80 rfl rfl rfl ?_
    refine pw_s (pc := 81) d186_81 rfl rfl ?_
    refine pw_ige (pc := 84) (t := 96) d186_84 (by decide) (fun c3 => ?_) (fun c3 => ?_)
    · rw [if_pos c3] at hm
      refine pw_s (pc := 96) d186_96 rfl rfl ?_
      exact t_m_ship_97 b L xs d hd h s_h l0 l1 (Int32.ofInt 0) l1 y2  f_l0 f_y2.2 hm hE
    · rw [if_neg c3] at hm
      refine pw_l (pc := 87) d186_87 rfl rfl rfl ?_
      obtain ⟨y4, e_y4, hm⟩ := ob_x hm
      have f_y4 := gA_x e_y4
      refine pw_gr (pc := 88) d186_88 (k186_26 b) (sho s_h f_l0) f10_7 f_y4.1 ?_
      refine pw_l (pc := 91) d186_91 rfl rfl rfl ?_
      obtain ⟨g5, hm⟩ := gd_x hm
      refine pw_ai (pc := 92) d186_92 (sha s_h f_y4.2) (mi_in_x g5) ?_
      refine pw_go (pc := 93) (t := 97) d186_93 (by decide) ?_
      exact t_m_ship_97 b L xs d hd h s_h l0 l1 (h.2.1 y4 l1.toNatClampNeg) l1 y2  f_l0 f_y2.2 hm hE
noncomputable def m_ship_29 (l0 : Nat) (l1 : Int32) (h : pm_H) : Option ((Int32 × pm_H) ⊕ pm_H) := if (Int8.ofInt 100).toInt32 ≤ l1 then (some (.inr h)) else ((gA h l0 7 .int).bind fun y2 => if mi_in ((Int8.ofInt 106).toInt32 + l1) (mi_n y2) = true then bd (pm_setI h y2 ((Int8.ofInt 106).toInt32 + l1).toNatClampNeg (Int32.ofInt (-1))) fun h4 => some (.inl ((l1 + Int32.ofInt 1), h4)) else none)
theorem t_m_ship_29 (b : Bool) (L : Nat) (xs : Nat → Int32) (d : Nat) (hd : 12 ≤ d) {Q : Option Value → pm_H → Prop} (h : pm_H) (s_h : h.1 = tb_SH) (l0 : Nat) (l1 : Int32) (f_l0 : mi_o l0 10 = true) {r : ((Int32 × pm_H) ⊕ pm_H)} (hm : m_ship_29 l0 l1 h = some r) (hE : E_m_ship_29 b L xs d Q l0 r) : PW b L xs d 186 0 0 29 [(Value.ref l0), (Value.int l1)] [] h Q := by
  rw [m_ship_29] at hm
  refine pw_l (pc := 29) d186_29 rfl rfl rfl ?_
  refine pw_s (pc := 30) d186_30 rfl rfl ?_
  refine pw_ige (pc := 32) (t := 51) d186_32 (by decide) (fun c1 => ?_) (fun c1 => ?_)
  · rw [if_pos c1] at hm
    obtain rfl := Option.some.inj hm
    exact hE s_h  (Value.int l1)
  · rw [if_neg c1] at hm
    refine pw_l (pc := 35) d186_35 rfl rfl rfl ?_
    obtain ⟨y2, e_y2, hm⟩ := ob_x hm
    have f_y2 := gA_x e_y2
    refine pw_gr (pc := 36) d186_36 (k186_26 b) (sho s_h f_l0) f10_7 f_y2.1 ?_
    refine pw_s (pc := 39) d186_39 rfl rfl ?_
    refine pw_l (pc := 41) d186_41 rfl rfl rfl ?_
    refine pw_s (pc := 42) d186_42 rfl rfl ?_
    refine pw_s (pc := 43) d186_43 rfl rfl ?_
    obtain ⟨g3, hm⟩ := gd_x hm
    refine pw_si (pc := 44) d186_44 (sha s_h f_y2.2) (mi_in_x g3) ?_
    obtain ⟨h4, e_h4, hm⟩ := bd_x hm
    rw [e_h4]
    have s_h4 : h4.1 = tb_SH := by rw [← e_h4]; exact s_h
    refine pw_t (pc := 45) d186_45 rfl rfl rfl rfl ?_
    refine pw_go (pc := 48) (t := 29) d186_48 (by decide) ?_
    obtain rfl := Option.some.inj hm
    exact hE s_h4  
noncomputable def m_ship_8 (l0 : Nat) (l1 : Int32) (h : pm_H) : Option ((Int32 × pm_H) ⊕ pm_H) := if (Int8.ofInt 10).toInt32 ≤ l1 then (some (.inr h)) else ((gA h l0 7 .int).bind fun y2 => if mi_in l1 (mi_n y2) = true then bd (pm_setI h y2 l1.toNatClampNeg (Int32.ofInt 0)) fun h4 => some (.inl ((l1 + Int32.ofInt 1), h4)) else none)
theorem t_m_ship_8 (b : Bool) (L : Nat) (xs : Nat → Int32) (d : Nat) (hd : 12 ≤ d) {Q : Option Value → pm_H → Prop} (h : pm_H) (s_h : h.1 = tb_SH) (l0 : Nat) (l1 : Int32) (f_l0 : mi_o l0 10 = true) {r : ((Int32 × pm_H) ⊕ pm_H)} (hm : m_ship_8 l0 l1 h = some r) (hE : E_m_ship_8 b L xs d Q l0 r) : PW b L xs d 186 0 0 8 [(Value.ref l0), (Value.int l1)] [] h Q := by
  rw [m_ship_8] at hm
  refine pw_l (pc := 8) d186_8 rfl rfl rfl ?_
  refine pw_s (pc := 9) d186_9 rfl rfl ?_
  refine pw_ige (pc := 11) (t := 27) d186_11 (by decide) (fun c1 => ?_) (fun c1 => ?_)
  · rw [if_pos c1] at hm
    obtain rfl := Option.some.inj hm
    exact hE s_h  (Value.int l1)
  · rw [if_neg c1] at hm
    refine pw_l (pc := 14) d186_14 rfl rfl rfl ?_
    obtain ⟨y2, e_y2, hm⟩ := ob_x hm
    have f_y2 := gA_x e_y2
    refine pw_gr (pc := 15) d186_15 (k186_26 b) (sho s_h f_l0) f10_7 f_y2.1 ?_
    refine pw_l (pc := 18) d186_18 rfl rfl rfl ?_
    refine pw_s (pc := 19) d186_19 rfl rfl ?_
    obtain ⟨g3, hm⟩ := gd_x hm
    refine pw_si (pc := 20) d186_20 (sha s_h f_y2.2) (mi_in_x g3) ?_
    obtain ⟨h4, e_h4, hm⟩ := bd_x hm
    rw [e_h4]
    have s_h4 : h4.1 = tb_SH := by rw [← e_h4]; exact s_h
    refine pw_t (pc := 21) d186_21 rfl rfl rfl rfl ?_
    refine pw_go (pc := 24) (t := 8) d186_24 (by decide) ?_
    obtain rfl := Option.some.inj hm
    exact hE s_h4  
noncomputable def m_ship (l0 : Nat) (h : pm_H) : Option (Int32 × pm_H) := bd (pm_setI h l0 11 ((Int8.ofInt 6).toInt32)) fun h1 => (wh (fun s : (Int32 × pm_H) => m_ship_8 l0 s.1 s.2) ((Int32.ofInt 0), h1)).bind fun q2 => (wh (fun s : (Int32 × pm_H) => m_ship_29 l0 s.1 s.2) ((Int32.ofInt 0), q2)).bind fun q3 => (m_readsAll l0 q3).bind fun q4 => if ¬ q4.1 = 0 then ((wh (fun s : (Int32 × pm_H) => m_ship_68 l0 s.1 s.2) ((Int32.ofInt 0), q4.2)).bind fun q6 => (gA q6 l0 20 .int).bind fun y7 => if mi_in ((Int8.ofInt 6).toInt32) (mi_n y7) = true then bd (pm_setI q6 y7 ((Int8.ofInt 6).toInt32).toNatClampNeg (Int32.ofInt (-1))) fun h9 => bd (pm_setI h9 l0 28 (Int32.ofInt 0)) fun h10 => (gA h10 l0 20 .int).bind fun y11 => if mi_in (Int32.ofInt 1) (mi_n y11) = true then some ((h10.2.1 y11 (Int32.ofInt 1).toNatClampNeg), h10) else none else none) else (some (((Int8.ofInt (-2)).toInt32 - (q4.2.2.1 l0 9)), q4.2))
theorem T_m_ship (b : Bool) (L : Nat) (xs : Nat → Int32) (d : Nat) (hd : 12 ≤ d) (h : pm_H) (s_h : h.1 = tb_SH) (l0 : Nat) (f_l0 : mi_o l0 10 = true) {r : (Int32 × pm_H)} (hm : m_ship l0 h = some r) : PC b L xs d 186 [(Value.ref l0)] h (fun (v0 : Option Value) (h2 : pm_H) => v0 = (some (Value.int r.1)) ∧ h2 = r.2 ∧ h2.1 = tb_SH) := by
  refine pc_in e186 (ls0 := [(Value.ref l0), Value.retAddr 0]) rfl ?_
  have key : ∀ (Q : Option Value → pm_H → Prop), (r.2.1 = tb_SH → Q (some (Value.int r.1)) r.2) → PW b L xs d 186 0 0 0 [(Value.ref l0), Value.retAddr 0] [] h Q := by
    intro Q hE
    rw [m_ship] at hm
    refine pw_l (pc := 0) d186_0 rfl rfl rfl ?_
    refine pw_s (pc := 1) d186_1 rfl rfl ?_
    refine pw_pi (pc := 3) d186_3 (k186_138 b) (sho s_h f_l0) p186_10_11 ?_
    obtain ⟨h1, e_h1, hm⟩ := bd_x hm
    rw [e_h1]
    have s_h1 : h1.1 = tb_SH := by rw [← e_h1]; exact s_h
    refine pw_s (pc := 6) d186_6 rfl rfl ?_
    refine pw_t (pc := 7) d186_7 rfl rfl rfl rfl ?_
    obtain ⟨q2, e_q2, hm⟩ := ob_x hm
    refine wh_ind e_q2 (fun s : (Int32 × pm_H) => s.2.1 = tb_SH → PW b L xs d 186 0 0 8 [(Value.ref l0), (Value.int s.1)] [] s.2 Q) (fun s s2 hf ih sx => t_m_ship_8 b L xs d hd s.2 sx l0 s.1  f_l0 hf ih) (fun s hf sx => t_m_ship_8 b L xs d hd s.2 sx l0 s.1  f_l0 hf ?_) s_h1  
    intro s_q2_0 w1
    refine pw_s (pc := 27) d186_27 rfl rfl ?_
    refine pw_t (pc := 28) d186_28 rfl rfl rfl rfl ?_
    obtain ⟨q3, e_q3, hm⟩ := ob_x hm
    refine wh_ind e_q3 (fun s : (Int32 × pm_H) => s.2.1 = tb_SH → PW b L xs d 186 0 0 29 [(Value.ref l0), (Value.int s.1)] [] s.2 Q) (fun s s2 hf ih sx => t_m_ship_29 b L xs d hd s.2 sx l0 s.1  f_l0 hf ih) (fun s hf sx => t_m_ship_29 b L xs d hd s.2 sx l0 s.1  f_l0 hf ?_) s_q2_0  
    intro s_q3_0 w1
    refine pw_l (pc := 51) d186_51 rfl rfl rfl ?_
    obtain ⟨q4, e_q4, hm⟩ := ob_x hm
    refine pw_v (pc := 52) (k := l0) (by omega) d186_52 (k186_249 b) (by decide) m184 (by decide) rfl (sho s_q3_0 f_l0) (Nat.le_of_ble_eq_true rfl) (Nat.le_of_ble_eq_true rfl) rfl rfl (T_m_readsAll b L xs (d - 1) (by omega) q3 s_q3_0 l0 f_l0 e_q4) (fun v0 h0 hq => ?_)
    obtain ⟨rfl, hh0, s_q4⟩ := hq
    rw [hh0] at s_q4 ⊢
    simp only [Option.toList_some, List.cons_append, List.nil_append]
    refine pw_zne (pc := 55) (t := 66) d186_55 (by decide) (fun c5 => ?_) (fun c5 => ?_)
    · rw [if_pos c5] at hm
      refine pw_s (pc := 66) d186_66 rfl rfl ?_
      refine pw_t (pc := 67) d186_67 rfl rfl rfl rfl ?_
      obtain ⟨q6, e_q6, hm⟩ := ob_x hm
      refine wh_ind e_q6 (fun s : (Int32 × pm_H) => s.2.1 = tb_SH → PW b L xs d 186 0 0 68 [(Value.ref l0), (Value.int s.1)] [] s.2 Q) (fun s s2 hf ih sx => t_m_ship_68 b L xs d hd s.2 sx l0 s.1  f_l0 hf ih) (fun s hf sx => t_m_ship_68 b L xs d hd s.2 sx l0 s.1  f_l0 hf ?_) s_q4  
      intro s_q6_0 w1
      refine pw_l (pc := 104) d186_104 rfl rfl rfl ?_
      obtain ⟨y7, e_y7, hm⟩ := ob_x hm
      have f_y7 := gA_x e_y7
      refine pw_gr (pc := 105) d186_105 (k186_39 b) (sho s_q6_0 f_l0) f10_20 f_y7.1 ?_
      refine pw_s (pc := 108) d186_108 rfl rfl ?_
      refine pw_s (pc := 110) d186_110 rfl rfl ?_
      obtain ⟨g8, hm⟩ := gd_x hm
      refine pw_si (pc := 111) d186_111 (sha s_q6_0 f_y7.2) (mi_in_x g8) ?_
      obtain ⟨h9, e_h9, hm⟩ := bd_x hm
      rw [e_h9]
      have s_h9 : h9.1 = tb_SH := by rw [← e_h9]; exact s_q6_0
      refine pw_l (pc := 112) d186_112 rfl rfl rfl ?_
      refine pw_s (pc := 113) d186_113 rfl rfl ?_
      refine pw_pi (pc := 114) d186_114 (k186_252 b) (sho s_h9 f_l0) p186_10_28 ?_
      obtain ⟨h10, e_h10, hm⟩ := bd_x hm
      rw [e_h10]
      have s_h10 : h10.1 = tb_SH := by rw [← e_h10]; exact s_h9
      refine pw_l (pc := 117) d186_117 rfl rfl rfl ?_
      obtain ⟨y11, e_y11, hm⟩ := ob_x hm
      have f_y11 := gA_x e_y11
      refine pw_gr (pc := 118) d186_118 (k186_39 b) (sho s_h10 f_l0) f10_20 f_y11.1 ?_
      refine pw_s (pc := 121) d186_121 rfl rfl ?_
      obtain ⟨g12, hm⟩ := gd_x hm
      refine pw_ai (pc := 122) d186_122 (sha s_h10 f_y11.2) (mi_in_x g12) ?_
      obtain rfl := Option.some.inj hm
      refine pw_ri (pc := 123) d186_123 t186 rfl ?_
      exact hE s_h10
    · rw [if_neg c5] at hm
      refine pw_s (pc := 58) d186_58 rfl rfl ?_
      refine pw_l (pc := 60) d186_60 rfl rfl rfl ?_
      refine pw_gi (pc := 61) d186_61 (k186_81 b) (sho s_q4 f_l0) f10_9 ?_
      refine pw_s (pc := 64) d186_64 rfl rfl ?_
      obtain rfl := Option.some.inj hm
      refine pw_ri (pc := 65) d186_65 t186 rfl ?_
      exact hE s_q4
  exact key _ (fun q => ⟨rfl, rfl, q⟩)
noncomputable def m_isRule (l0 : Nat) (l1 : Int32) (h : pm_H) : Option Int32 := if l1 < 0 then (some (Int32.ofInt 0)) else (if (h.2.1 l0 2) ≤ l1 then (some (Int32.ofInt 0)) else (some (Int32.ofInt 1)))
theorem T_m_isRule (b : Bool) (L : Nat) (xs : Nat → Int32) (d : Nat) (hd : 0 ≤ d) (h : pm_H) (s_h : h.1 = tb_SH) (l0 : Nat) (l1 : Int32) (f_l0 : mi_o l0 10 = true) {r : Int32} (hm : m_isRule l0 l1 h = some r) : PC b L xs d 187 [(Value.ref l0), (Value.int l1)] h (fun (v0 : Option Value) (h2 : pm_H) => v0 = (some (Value.int r)) ∧ h2 = h ∧ h2.1 = tb_SH) := by
  refine pc_in e187 (ls0 := [(Value.ref l0), (Value.int l1)]) rfl ?_
  have key : ∀ (Q : Option Value → pm_H → Prop), (Q (some (Value.int r)) h) → PW b L xs d 187 0 0 0 [(Value.ref l0), (Value.int l1)] [] h Q := by
    intro Q hE
    rw [m_isRule] at hm
    refine pw_l (pc := 0) d187_0 rfl rfl rfl ?_
    refine pw_zlt (pc := 1) (t := 16) d187_1 (by decide) (fun c1 => ?_) (fun c1 => ?_)
    · rw [if_pos c1] at hm
      refine pw_s (pc := 16) d187_16 rfl rfl ?_
      obtain rfl := Option.some.inj hm
      refine pw_ri (pc := 17) d187_17 t187 rfl ?_
      exact hE
    · rw [if_neg c1] at hm
      refine pw_l (pc := 4) d187_4 rfl rfl rfl ?_
      refine pw_l (pc := 5) d187_5 rfl rfl rfl ?_
      refine pw_gi (pc := 6) d187_6 (k187_246 b) (sho s_h f_l0) f10_2 ?_
      refine pw_ige (pc := 9) (t := 16) d187_9 (by decide) (fun c2 => ?_) (fun c2 => ?_)
      · rw [if_pos c2] at hm
        refine pw_s (pc := 16) d187_16 rfl rfl ?_
        obtain rfl := Option.some.inj hm
        refine pw_ri (pc := 17) d187_17 t187 rfl ?_
        exact hE
      · rw [if_neg c2] at hm
        refine pw_s (pc := 12) d187_12 rfl rfl ?_
        refine pw_go (pc := 13) (t := 17) d187_13 (by decide) ?_
        obtain rfl := Option.some.inj hm
        refine pw_ri (pc := 17) d187_17 t187 rfl ?_
        exact hE
  exact key _ ⟨rfl, rfl, s_h⟩
noncomputable def m_push (l0 : Nat) (l1 : Int64) (h : pm_H) : Option pm_H := (gA h l0 17 .long).bind fun y1 => if mi_in (h.2.1 l0 18) (mi_n y1) = true then bd (pm_setL h y1 (h.2.1 l0 18).toNatClampNeg l1) fun h3 => bd (pm_setI h3 l0 18 ((h3.2.1 l0 18) + (Int32.ofInt 1))) fun h4 => some h4 else none
theorem T_m_push (b : Bool) (L : Nat) (xs : Nat → Int32) (d : Nat) (hd : 0 ≤ d) (h : pm_H) (s_h : h.1 = tb_SH) (l0 : Nat) (l1 : Int64) (f_l0 : mi_o l0 10 = true) {r : pm_H} (hm : m_push l0 l1 h = some r) : PC b L xs d 188 [(Value.ref l0), (Value.long l1)] h (fun (v0 : Option Value) (h2 : pm_H) => v0 = none ∧ h2 = r ∧ h2.1 = tb_SH) := by
  refine pc_in e188 (ls0 := [(Value.ref l0), (Value.long l1), Value.retAddr 0]) rfl ?_
  have key : ∀ (Q : Option Value → pm_H → Prop), (r.1 = tb_SH → Q none r) → PW b L xs d 188 0 0 0 [(Value.ref l0), (Value.long l1), Value.retAddr 0] [] h Q := by
    intro Q hE
    rw [m_push] at hm
    refine pw_l (pc := 0) d188_0 rfl rfl rfl ?_
    obtain ⟨y1, e_y1, hm⟩ := ob_x hm
    have f_y1 := gA_x e_y1
    refine pw_gr (pc := 1) d188_1 (k188_32 b) (sho s_h f_l0) f10_17 f_y1.1 ?_
    refine pw_l (pc := 4) d188_4 rfl rfl rfl ?_
    refine pw_gi (pc := 5) d188_5 (k188_255 b) (sho s_h f_l0) f10_18 ?_
    refine pw_l (pc := 8) d188_8 rfl rfl rfl ?_
    obtain ⟨g2, hm⟩ := gd_x hm
    refine pw_sl (pc := 9) d188_9 (sha s_h f_y1.2) (mi_in_x g2) ?_
    obtain ⟨h3, e_h3, hm⟩ := bd_x hm
    rw [e_h3]
    have s_h3 : h3.1 = tb_SH := by rw [← e_h3]; exact s_h
    refine pw_l (pc := 10) d188_10 rfl rfl rfl ?_
    refine pw_s (pc := 11) d188_11 rfl rfl ?_
    refine pw_gi (pc := 12) d188_12 (k188_255 b) (sho s_h3 f_l0) f10_18 ?_
    refine pw_s (pc := 15) d188_15 rfl rfl ?_
    refine pw_s (pc := 16) d188_16 rfl rfl ?_
    refine pw_pi (pc := 17) d188_17 (k188_255 b) (sho s_h3 f_l0) p188_10_18 ?_
    obtain ⟨h4, e_h4, hm⟩ := bd_x hm
    rw [e_h4]
    have s_h4 : h4.1 = tb_SH := by rw [← e_h4]; exact s_h3
    obtain rfl := Option.some.inj hm
    refine pw_rv (pc := 20) d188_20 t188 ?_
    exact hE s_h4
  exact key _ (fun q => ⟨rfl, rfl, q⟩)
noncomputable def m_pop (l0 : Nat) (h : pm_H) : Option (Int64 × pm_H) := bd (pm_setI h l0 18 ((h.2.1 l0 18) - (Int32.ofInt 1))) fun h1 => (gA h1 l0 17 .long).bind fun y2 => if mi_in (h1.2.1 l0 18) (mi_n y2) = true then some ((h1.2.2.1 y2 (h1.2.1 l0 18).toNatClampNeg), h1) else none
theorem T_m_pop (b : Bool) (L : Nat) (xs : Nat → Int32) (d : Nat) (hd : 0 ≤ d) (h : pm_H) (s_h : h.1 = tb_SH) (l0 : Nat) (f_l0 : mi_o l0 10 = true) {r : (Int64 × pm_H)} (hm : m_pop l0 h = some r) : PC b L xs d 189 [(Value.ref l0)] h (fun (v0 : Option Value) (h2 : pm_H) => v0 = (some (Value.long r.1)) ∧ h2 = r.2 ∧ h2.1 = tb_SH) := by
  refine pc_in e189 (ls0 := [(Value.ref l0)]) rfl ?_
  have key : ∀ (Q : Option Value → pm_H → Prop), (r.2.1 = tb_SH → Q (some (Value.long r.1)) r.2) → PW b L xs d 189 0 0 0 [(Value.ref l0)] [] h Q := by
    intro Q hE
    rw [m_pop] at hm
    refine pw_l (pc := 0) d189_0 rfl rfl rfl ?_
    refine pw_s (pc := 1) d189_1 rfl rfl ?_
    refine pw_gi (pc := 2) d189_2 (k189_255 b) (sho s_h f_l0) f10_18 ?_
    refine pw_s (pc := 5) d189_5 rfl rfl ?_
    refine pw_s (pc := 6) d189_6 rfl rfl ?_
    refine pw_pi (pc := 7) d189_7 (k189_255 b) (sho s_h f_l0) p189_10_18 ?_
    obtain ⟨h1, e_h1, hm⟩ := bd_x hm
    rw [e_h1]
    have s_h1 : h1.1 = tb_SH := by rw [← e_h1]; exact s_h
    refine pw_l (pc := 10) d189_10 rfl rfl rfl ?_
    obtain ⟨y2, e_y2, hm⟩ := ob_x hm
    have f_y2 := gA_x e_y2
    refine pw_gr (pc := 11) d189_11 (k189_32 b) (sho s_h1 f_l0) f10_17 f_y2.1 ?_
    refine pw_l (pc := 14) d189_14 rfl rfl rfl ?_
    refine pw_gi (pc := 15) d189_15 (k189_255 b) (sho s_h1 f_l0) f10_18 ?_
    obtain ⟨g3, hm⟩ := gd_x hm
    refine pw_al (pc := 18) d189_18 (sha s_h1 f_y2.2) (mi_in_x g3) ?_
    obtain rfl := Option.some.inj hm
    refine pw_rl (pc := 19) d189_19 t189 ?_
    exact hE s_h1
  exact key _ (fun q => ⟨rfl, rfl, q⟩)
noncomputable def m_one (l0 : Int32) (l1 : Int64) (l3 : Int64) (h : pm_H) : Option Int64 := if l0 = (2 : Int32) then (some (l1 + l3)) else (if l0 = (3 : Int32) then (some (l1 - l3)) else (if l0 = (4 : Int32) then (some (l1 * l3)) else (if l0 = (5 : Int32) then (if ¬ (lg_cmp l3 (Int64.ofNat 0)) = 0 then (if mi_nzl l3 = true then some (l1 / l3) else none) else (some (Int64.ofNat 0))) else (if l0 = (6 : Int32) then (if 0 ≤ (lg_cmp l1 l3) then (some (Int64.ofNat 0)) else (some (Int64.ofNat 1))) else (if l0 = (7 : Int32) then (if 0 < (lg_cmp l1 l3) then (some (Int64.ofNat 0)) else (some (Int64.ofNat 1))) else (if l0 = (8 : Int32) then (if ¬ (lg_cmp l1 l3) = 0 then (some (Int64.ofNat 0)) else (some (Int64.ofNat 1))) else (if l0 = (9 : Int32) then (if (lg_cmp l1 l3) < 0 then (some (Int64.ofNat 0)) else (some (Int64.ofNat 1))) else (if l0 = (10 : Int32) then (if (lg_cmp l1 l3) ≤ 0 then (some (Int64.ofNat 0)) else (some (Int64.ofNat 1))) else (if l0 = (11 : Int32) then (some (l1 ||| l3)) else (if l0 = (12 : Int32) then (some (l1 &&& l3)) else (if l0 = (13 : Int32) then (some (l1 ||| l3)) else (if l0 = (14 : Int32) then (if ¬ (lg_cmp l3 (Int64.ofNat 0)) = 0 then (if mi_nzl l3 = true then some (l1 - l1 / l3 * l3) else none) else (some (Int64.ofNat 0))) else (some (l1 ||| l3))))))))))))))
theorem T_m_one (b : Bool) (L : Nat) (xs : Nat → Int32) (d : Nat) (hd : 0 ≤ d) (h : pm_H) (s_h : h.1 = tb_SH) (l0 : Int32) (l1 : Int64) (l3 : Int64) {r : Int64} (hm : m_one l0 l1 l3 h = some r) : PC b L xs d 190 [(Value.int l0), (Value.long l1), (Value.long l3)] h (fun (v0 : Option Value) (h2 : pm_H) => v0 = (some (Value.long r)) ∧ h2 = h ∧ h2.1 = tb_SH) := by
  refine pc_in e190 (ls0 := [(Value.int l0), (Value.long l1), Value.retAddr 0, (Value.long l3), Value.retAddr 0]) rfl ?_
  have key : ∀ (Q : Option Value → pm_H → Prop), (Q (some (Value.long r)) h) → PW b L xs d 190 0 0 0 [(Value.int l0), (Value.long l1), Value.retAddr 0, (Value.long l3), Value.retAddr 0] [] h Q := by
    intro Q hE
    rw [m_one] at hm
    refine pw_l (pc := 0) d190_0 rfl rfl rfl ?_
    by_cases c1 : l0 = (2 : Int32)
    · rw [if_pos c1] at hm
      refine pw_tin (pc := 1) (t := 68) (off := 67) d190_1 (by rw [c1]; decide) (by rw [c1]; decide +kernel) (by decide) ?_
      refine pw_l (pc := 68) d190_68 rfl rfl rfl ?_
      refine pw_l (pc := 69) d190_69 rfl rfl rfl ?_
      refine pw_s (pc := 70) d190_70 rfl rfl ?_
      obtain rfl := Option.some.inj hm
      refine pw_rl (pc := 71) d190_71 t190 ?_
      exact hE
    rw [if_neg c1] at hm
    by_cases c2 : l0 = (3 : Int32)
    · rw [if_pos c2] at hm
      refine pw_tin (pc := 1) (t := 72) (off := 71) d190_1 (by rw [c2]; decide) (by rw [c2]; decide +kernel) (by decide) ?_
      refine pw_l (pc := 72) d190_72 rfl rfl rfl ?_
      refine pw_l (pc := 73) d190_73 rfl rfl rfl ?_
      refine pw_s (pc := 74) d190_74 rfl rfl ?_
      obtain rfl := Option.some.inj hm
      refine pw_rl (pc := 75) d190_75 t190 ?_
      exact hE
    rw [if_neg c2] at hm
    by_cases c3 : l0 = (4 : Int32)
    · rw [if_pos c3] at hm
      refine pw_tin (pc := 1) (t := 76) (off := 75) d190_1 (by rw [c3]; decide) (by rw [c3]; decide +kernel) (by decide) ?_
      refine pw_l (pc := 76) d190_76 rfl rfl rfl ?_
      refine pw_l (pc := 77) d190_77 rfl rfl rfl ?_
      refine pw_s (pc := 78) d190_78 rfl rfl ?_
      obtain rfl := Option.some.inj hm
      refine pw_rl (pc := 79) d190_79 t190 ?_
      exact hE
    rw [if_neg c3] at hm
    by_cases c4 : l0 = (5 : Int32)
    · rw [if_pos c4] at hm
      refine pw_tin (pc := 1) (t := 80) (off := 79) d190_1 (by rw [c4]; decide) (by rw [c4]; decide +kernel) (by decide) ?_
      refine pw_l (pc := 80) d190_80 rfl rfl rfl ?_
      refine pw_s (pc := 81) d190_81 rfl rfl ?_
      refine pw_s (pc := 82) d190_82 rfl rfl ?_
      refine pw_zne (pc := 83) (t := 90) d190_83 (by decide) (fun c5 => ?_) (fun c5 => ?_)
      · rw [if_pos (show ¬ (lg_cmp l3 (Int64.ofNat 0)) = 0 from c5)] at hm
        refine pw_l (pc := 90) d190_90 rfl rfl rfl ?_
        refine pw_l (pc := 91) d190_91 rfl rfl rfl ?_
        obtain ⟨g6, hm⟩ := gd_x hm
        refine pw_ldi (pc := 92) d190_92 (mi_nzl_x g6) ?_
        obtain rfl := Option.some.inj hm
        refine pw_rl (pc := 93) d190_93 t190 ?_
        exact hE
      · rw [if_neg (show ¬ (¬ (lg_cmp l3 (Int64.ofNat 0)) = 0) from c5)] at hm
        refine pw_s (pc := 86) d190_86 rfl rfl ?_
        refine pw_go (pc := 87) (t := 93) d190_87 (by decide) ?_
        obtain rfl := Option.some.inj hm
        refine pw_rl (pc := 93) d190_93 t190 ?_
        exact hE
    rw [if_neg c4] at hm
    by_cases c7 : l0 = (6 : Int32)
    · rw [if_pos c7] at hm
      refine pw_tin (pc := 1) (t := 108) (off := 107) d190_1 (by rw [c7]; decide) (by rw [c7]; decide +kernel) (by decide) ?_
      refine pw_l (pc := 108) d190_108 rfl rfl rfl ?_
      refine pw_l (pc := 109) d190_109 rfl rfl rfl ?_
      refine pw_s (pc := 110) d190_110 rfl rfl ?_
      refine pw_zge (pc := 111) (t := 118) d190_111 (by decide) (fun c8 => ?_) (fun c8 => ?_)
      · rw [if_pos (show 0 ≤ (lg_cmp l1 l3) from c8)] at hm
        refine pw_s (pc := 118) d190_118 rfl rfl ?_
        obtain rfl := Option.some.inj hm
        refine pw_rl (pc := 119) d190_119 t190 ?_
        exact hE
      · rw [if_neg (show ¬ (0 ≤ (lg_cmp l1 l3)) from c8)] at hm
        refine pw_s (pc := 114) d190_114 rfl rfl ?_
        refine pw_go (pc := 115) (t := 119) d190_115 (by decide) ?_
        obtain rfl := Option.some.inj hm
        refine pw_rl (pc := 119) d190_119 t190 ?_
        exact hE
    rw [if_neg c7] at hm
    by_cases c9 : l0 = (7 : Int32)
    · rw [if_pos c9] at hm
      refine pw_tin (pc := 1) (t := 120) (off := 119) d190_1 (by rw [c9]; decide) (by rw [c9]; decide +kernel) (by decide) ?_
      refine pw_l (pc := 120) d190_120 rfl rfl rfl ?_
      refine pw_l (pc := 121) d190_121 rfl rfl rfl ?_
      refine pw_s (pc := 122) d190_122 rfl rfl ?_
      refine pw_zgt (pc := 123) (t := 130) d190_123 (by decide) (fun c10 => ?_) (fun c10 => ?_)
      · rw [if_pos (show 0 < (lg_cmp l1 l3) from c10)] at hm
        refine pw_s (pc := 130) d190_130 rfl rfl ?_
        obtain rfl := Option.some.inj hm
        refine pw_rl (pc := 131) d190_131 t190 ?_
        exact hE
      · rw [if_neg (show ¬ (0 < (lg_cmp l1 l3)) from c10)] at hm
        refine pw_s (pc := 126) d190_126 rfl rfl ?_
        refine pw_go (pc := 127) (t := 131) d190_127 (by decide) ?_
        obtain rfl := Option.some.inj hm
        refine pw_rl (pc := 131) d190_131 t190 ?_
        exact hE
    rw [if_neg c9] at hm
    by_cases c11 : l0 = (8 : Int32)
    · rw [if_pos c11] at hm
      refine pw_tin (pc := 1) (t := 132) (off := 131) d190_1 (by rw [c11]; decide) (by rw [c11]; decide +kernel) (by decide) ?_
      refine pw_l (pc := 132) d190_132 rfl rfl rfl ?_
      refine pw_l (pc := 133) d190_133 rfl rfl rfl ?_
      refine pw_s (pc := 134) d190_134 rfl rfl ?_
      refine pw_zne (pc := 135) (t := 142) d190_135 (by decide) (fun c12 => ?_) (fun c12 => ?_)
      · rw [if_pos (show ¬ (lg_cmp l1 l3) = 0 from c12)] at hm
        refine pw_s (pc := 142) d190_142 rfl rfl ?_
        obtain rfl := Option.some.inj hm
        refine pw_rl (pc := 143) d190_143 t190 ?_
        exact hE
      · rw [if_neg (show ¬ (¬ (lg_cmp l1 l3) = 0) from c12)] at hm
        refine pw_s (pc := 138) d190_138 rfl rfl ?_
        refine pw_go (pc := 139) (t := 143) d190_139 (by decide) ?_
        obtain rfl := Option.some.inj hm
        refine pw_rl (pc := 143) d190_143 t190 ?_
        exact hE
    rw [if_neg c11] at hm
    by_cases c13 : l0 = (9 : Int32)
    · rw [if_pos c13] at hm
      refine pw_tin (pc := 1) (t := 144) (off := 143) d190_1 (by rw [c13]; decide) (by rw [c13]; decide +kernel) (by decide) ?_
      refine pw_l (pc := 144) d190_144 rfl rfl rfl ?_
      refine pw_l (pc := 145) d190_145 rfl rfl rfl ?_
      refine pw_s (pc := 146) d190_146 rfl rfl ?_
      refine pw_zlt (pc := 147) (t := 154) d190_147 (by decide) (fun c14 => ?_) (fun c14 => ?_)
      · rw [if_pos (show (lg_cmp l1 l3) < 0 from c14)] at hm
        refine pw_s (pc := 154) d190_154 rfl rfl ?_
        obtain rfl := Option.some.inj hm
        refine pw_rl (pc := 155) d190_155 t190 ?_
        exact hE
      · rw [if_neg (show ¬ ((lg_cmp l1 l3) < 0) from c14)] at hm
        refine pw_s (pc := 150) d190_150 rfl rfl ?_
        refine pw_go (pc := 151) (t := 155) d190_151 (by decide) ?_
        obtain rfl := Option.some.inj hm
        refine pw_rl (pc := 155) d190_155 t190 ?_
        exact hE
    rw [if_neg c13] at hm
    by_cases c15 : l0 = (10 : Int32)
    · rw [if_pos c15] at hm
      refine pw_tin (pc := 1) (t := 156) (off := 155) d190_1 (by rw [c15]; decide) (by rw [c15]; decide +kernel) (by decide) ?_
      refine pw_l (pc := 156) d190_156 rfl rfl rfl ?_
      refine pw_l (pc := 157) d190_157 rfl rfl rfl ?_
      refine pw_s (pc := 158) d190_158 rfl rfl ?_
      refine pw_zle (pc := 159) (t := 166) d190_159 (by decide) (fun c16 => ?_) (fun c16 => ?_)
      · rw [if_pos (show (lg_cmp l1 l3) ≤ 0 from c16)] at hm
        refine pw_s (pc := 166) d190_166 rfl rfl ?_
        obtain rfl := Option.some.inj hm
        refine pw_rl (pc := 167) d190_167 t190 ?_
        exact hE
      · rw [if_neg (show ¬ ((lg_cmp l1 l3) ≤ 0) from c16)] at hm
        refine pw_s (pc := 162) d190_162 rfl rfl ?_
        refine pw_go (pc := 163) (t := 167) d190_163 (by decide) ?_
        obtain rfl := Option.some.inj hm
        refine pw_rl (pc := 167) d190_167 t190 ?_
        exact hE
    rw [if_neg c15] at hm
    by_cases c17 : l0 = (11 : Int32)
    · rw [if_pos c17] at hm
      refine pw_tin (pc := 1) (t := 172) (off := 171) d190_1 (by rw [c17]; decide) (by rw [c17]; decide +kernel) (by decide) ?_
      refine pw_l (pc := 172) d190_172 rfl rfl rfl ?_
      refine pw_l (pc := 173) d190_173 rfl rfl rfl ?_
      refine pw_s (pc := 174) d190_174 rfl rfl ?_
      obtain rfl := Option.some.inj hm
      refine pw_rl (pc := 175) d190_175 t190 ?_
      exact hE
    rw [if_neg c17] at hm
    by_cases c18 : l0 = (12 : Int32)
    · rw [if_pos c18] at hm
      refine pw_tin (pc := 1) (t := 168) (off := 167) d190_1 (by rw [c18]; decide) (by rw [c18]; decide +kernel) (by decide) ?_
      refine pw_l (pc := 168) d190_168 rfl rfl rfl ?_
      refine pw_l (pc := 169) d190_169 rfl rfl rfl ?_
      refine pw_s (pc := 170) d190_170 rfl rfl ?_
      obtain rfl := Option.some.inj hm
      refine pw_rl (pc := 171) d190_171 t190 ?_
      exact hE
    rw [if_neg c18] at hm
    by_cases c19 : l0 = (13 : Int32)
    · rw [if_pos c19] at hm
      refine pw_tin (pc := 1) (t := 172) (off := 171) d190_1 (by rw [c19]; decide) (by rw [c19]; decide +kernel) (by decide) ?_
      refine pw_l (pc := 172) d190_172 rfl rfl rfl ?_
      refine pw_l (pc := 173) d190_173 rfl rfl rfl ?_
      refine pw_s (pc := 174) d190_174 rfl rfl ?_
      obtain rfl := Option.some.inj hm
      refine pw_rl (pc := 175) d190_175 t190 ?_
      exact hE
    rw [if_neg c19] at hm
    by_cases c20 : l0 = (14 : Int32)
    · rw [if_pos c20] at hm
      refine pw_tin (pc := 1) (t := 94) (off := 93) d190_1 (by rw [c20]; decide) (by rw [c20]; decide +kernel) (by decide) ?_
      refine pw_l (pc := 94) d190_94 rfl rfl rfl ?_
      refine pw_s (pc := 95) d190_95 rfl rfl ?_
      refine pw_s (pc := 96) d190_96 rfl rfl ?_
      refine pw_zne (pc := 97) (t := 104) d190_97 (by decide) (fun c21 => ?_) (fun c21 => ?_)
      · rw [if_pos (show ¬ (lg_cmp l3 (Int64.ofNat 0)) = 0 from c21)] at hm
        refine pw_l (pc := 104) d190_104 rfl rfl rfl ?_
        refine pw_l (pc := 105) d190_105 rfl rfl rfl ?_
        obtain ⟨g22, hm⟩ := gd_x hm
        refine pw_lre (pc := 106) d190_106 (mi_nzl_x g22) ?_
        obtain rfl := Option.some.inj hm
        refine pw_rl (pc := 107) d190_107 t190 ?_
        exact hE
      · rw [if_neg (show ¬ (¬ (lg_cmp l3 (Int64.ofNat 0)) = 0) from c21)] at hm
        refine pw_s (pc := 100) d190_100 rfl rfl ?_
        refine pw_go (pc := 101) (t := 107) d190_101 (by decide) ?_
        obtain rfl := Option.some.inj hm
        refine pw_rl (pc := 107) d190_107 t190 ?_
        exact hE
    rw [if_neg c20] at hm
    refine pw_tout (pc := 1) (t := 172) d190_1 (mi_sw (x := l0) (lo := 2) (n := 13) (by decide) (by decide) (fun j hj => match j, hj with | 0, _ => c1 | 1, _ => c2 | 2, _ => c3 | 3, _ => c4 | 4, _ => c7 | 5, _ => c9 | 6, _ => c11 | 7, _ => c13 | 8, _ => c15 | 9, _ => c17 | 10, _ => c18 | 11, _ => c19 | 12, _ => c20 | j + 13, h => absurd h (by omega))) (by decide) ?_
    refine pw_l (pc := 172) d190_172 rfl rfl rfl ?_
    refine pw_l (pc := 173) d190_173 rfl rfl rfl ?_
    refine pw_s (pc := 174) d190_174 rfl rfl ?_
    obtain rfl := Option.some.inj hm
    refine pw_rl (pc := 175) d190_175 t190 ?_
    exact hE
  exact key _ ⟨rfl, rfl, s_h⟩
def E_m_reckons_8 (b : Bool) (L : Nat) (xs : Nat → Int32) (d : Nat) (Q : Option Value → pm_H → Prop) (l0 : Nat) (l1 : Int32) (l3 : Int32) : ((Int32 × pm_H) ⊕ pm_H) → Prop
  | .inl s => s.2.1 = tb_SH → ∀ w2 w5 w6 w7 w8 w9 w10 : Value, PW b L xs d 191 0 0 8 [(Value.ref l0), (Value.int l1), w2, (Value.int l3), (Value.int s.1), w5, w6, w7, w8, w9, w10] [] s.2 Q
  | .inr e => e.1 = tb_SH → ∀ w1 w2 w3 w4 w5 w6 w7 w8 w9 w10 : Value, PW b L xs d 191 0 0 135 [(Value.ref l0), w1, w2, w3, w4, w5, w6, w7, w8, w9, w10] [] e Q
noncomputable def m_reckons_8 (l0 : Nat) (l1 : Int32) (l3 : Int32) (l4 : Int32) (h : pm_H) : Option ((Int32 × pm_H) ⊕ pm_H) := if l3 ≤ l4 then (some (.inr h)) else ((gA h l0 3 .int).bind fun y2 => if mi_in (((Int16.ofInt 400).toInt32 * l1) + l4) (mi_n y2) = true then (gA h l0 3 .int).bind fun y4 => if mi_in (((Int16.ofInt 400).toInt32 * l1) + l4) (mi_n y4) = true then if ¬ ((h.2.1 y2 (((Int16.ofInt 400).toInt32 * l1) + l4).toNatClampNeg) &&& (Int8.ofInt 15).toInt32) = 0 then (if ¬ ((h.2.1 y2 (((Int16.ofInt 400).toInt32 * l1) + l4).toNatClampNeg) &&& (Int8.ofInt 15).toInt32) = (Int32.ofInt 1) then (if ¬ ((h.2.1 y2 (((Int16.ofInt 400).toInt32 * l1) + l4).toNatClampNeg) &&& (Int8.ofInt 15).toInt32) = (Int8.ofInt 11).toInt32 then ((m_pop l0 h).bind fun q9 => (m_pop l0 q9.2).bind fun q10 => (m_one ((h.2.1 y2 (((Int16.ofInt 400).toInt32 * l1) + l4).toNatClampNeg) &&& (Int8.ofInt 15).toInt32) q10.1 q9.1 q10.2).bind fun q11 => (m_push l0 q11 q10.2).bind fun q12 => some (.inl ((l4 + Int32.ofInt 1), q12))) else ((m_pop l0 h).bind fun q13 => (m_push l0 ((Int64.ofNat 1) - q13.1) q13.2).bind fun q14 => some (.inl ((l4 + Int32.ofInt 1), q14)))) else ((gA h l0 19 .long).bind fun y15 => if mi_in ((h.2.1 y4 (((Int16.ofInt 400).toInt32 * l1) + l4).toNatClampNeg) >>> ((Int32.ofInt 4) &&& 31)) (mi_n y15) = true then (m_push l0 (h.2.2.1 y15 ((h.2.1 y4 (((Int16.ofInt 400).toInt32 * l1) + l4).toNatClampNeg) >>> ((Int32.ofInt 4) &&& 31)).toNatClampNeg) h).bind fun q17 => some (.inl ((l4 + Int32.ofInt 1), q17)) else none)) else ((m_push l0 (((h.2.1 y4 (((Int16.ofInt 400).toInt32 * l1) + l4).toNatClampNeg) >>> ((Int32.ofInt 4) &&& 31)).toInt64) h).bind fun q18 => some (.inl ((l4 + Int32.ofInt 1), q18))) else none else none)
theorem t_m_reckons_8 (b : Bool) (L : Nat) (xs : Nat → Int32) (d : Nat) (hd : 1 ≤ d) {Q : Option Value → pm_H → Prop} (h : pm_H) (s_h : h.1 = tb_SH) (l0 : Nat) (l1 : Int32) (l3 : Int32) (l4 : Int32) (w2 : Value) (w5 : Value) (w6 : Value) (w7 : Value) (w8 : Value) (w9 : Value) (w10 : Value) (f_l0 : mi_o l0 10 = true) {r : ((Int32 × pm_H) ⊕ pm_H)} (hm : m_reckons_8 l0 l1 l3 l4 h = some r) (hE : E_m_reckons_8 b L xs d Q l0 l1 l3 r) : PW b L xs d 191 0 0 8 [(Value.ref l0), (Value.int l1), w2, (Value.int l3), (Value.int l4), w5, w6, w7, w8, w9, w10] [] h Q := by
  rw [m_reckons_8] at hm
  refine pw_l (pc := 8) d191_8 rfl rfl rfl ?_
  refine pw_l (pc := 10) d191_10 rfl rfl rfl ?_
  refine pw_ige (pc := 11) (t := 135) d191_11 (by decide) (fun c1 => ?_) (fun c1 => ?_)
  · rw [if_pos c1] at hm
    obtain rfl := Option.some.inj hm
    exact hE s_h  (Value.int l1) w2 (Value.int l3) (Value.int l4) w5 w6 w7 w8 w9 w10
  · rw [if_neg c1] at hm
    refine pw_l (pc := 14) d191_14 rfl rfl rfl ?_
    obtain ⟨y2, e_y2, hm⟩ := ob_x hm
    have f_y2 := gA_x e_y2
    refine pw_gr (pc := 15) d191_15 (k191_13 b) (sho s_h f_l0) f10_3 f_y2.1 ?_
    refine pw_s (pc := 18) d191_18 rfl rfl ?_
    refine pw_l (pc := 21) d191_21 rfl rfl rfl ?_
    refine pw_s (pc := 22) d191_22 rfl rfl ?_
    refine pw_l (pc := 23) d191_23 rfl rfl rfl ?_
    refine pw_s (pc := 25) d191_25 rfl rfl ?_
    obtain ⟨g3, hm⟩ := gd_x hm
    refine pw_ai (pc := 26) d191_26 (sha s_h f_y2.2) (mi_in_x g3) ?_
    refine pw_s (pc := 27) d191_27 rfl rfl ?_
    refine pw_s (pc := 29) d191_29 rfl rfl ?_
    refine pw_t (pc := 30) d191_30 rfl rfl rfl rfl ?_
    refine pw_l (pc := 32) d191_32 rfl rfl rfl ?_
    obtain ⟨y4, e_y4, hm⟩ := ob_x hm
    have f_y4 := gA_x e_y4
    refine pw_gr (pc := 33) d191_33 (k191_13 b) (sho s_h f_l0) f10_3 f_y4.1 ?_
    refine pw_s (pc := 36) d191_36 rfl rfl ?_
    refine pw_l (pc := 39) d191_39 rfl rfl rfl ?_
    refine pw_s (pc := 40) d191_40 rfl rfl ?_
    refine pw_l (pc := 41) d191_41 rfl rfl rfl ?_
    refine pw_s (pc := 43) d191_43 rfl rfl ?_
    obtain ⟨g5, hm⟩ := gd_x hm
    refine pw_ai (pc := 44) d191_44 (sha s_h f_y4.2) (mi_in_x g5) ?_
    refine pw_s (pc := 45) d191_45 rfl rfl ?_
    refine pw_s (pc := 46) d191_46 rfl rfl ?_
    refine pw_t (pc := 47) d191_47 rfl rfl rfl rfl ?_
    refine pw_l (pc := 49) d191_49 rfl rfl rfl ?_
    refine pw_zne (pc := 51) (t := 64) d191_51 (by decide) (fun c6 => ?_) (fun c6 => ?_)
    · rw [if_pos c6] at hm
      refine pw_l (pc := 64) d191_64 rfl rfl rfl ?_
      refine pw_s (pc := 66) d191_66 rfl rfl ?_
      refine pw_ine (pc := 67) (t := 84) d191_67 (by decide) (fun c7 => ?_) (fun c7 => ?_)
      · rw [if_pos c7] at hm
        refine pw_l (pc := 84) d191_84 rfl rfl rfl ?_
        refine pw_s (pc := 86) d191_86 rfl rfl ?_
        refine pw_ine (pc := 88) (t := 104) d191_88 (by decide) (fun c8 => ?_) (fun c8 => ?_)
        · rw [if_pos c8] at hm
          refine pw_l (pc := 104) d191_104 rfl rfl rfl ?_
          obtain ⟨q9, e_q9, hm⟩ := ob_x hm
          refine pw_v (pc := 105) (k := l0) (by omega) d191_105 (k191_262 b) (by decide) m189 (by decide) rfl (sho s_h f_l0) (Nat.le_of_ble_eq_true rfl) (Nat.le_of_ble_eq_true rfl) rfl rfl (T_m_pop b L xs (d - 1) (by omega) h s_h l0 f_l0 e_q9) (fun v0 h0 hq => ?_)
          obtain ⟨rfl, hh0, s_q9⟩ := hq
          rw [hh0] at s_q9 ⊢
          simp only [Option.toList_some, List.cons_append, List.nil_append]
          refine pw_t (pc := 108) d191_108 rfl rfl rfl (ls' := [(Value.ref l0), (Value.int l1), w2, (Value.int l3), (Value.int l4), (Value.int ((h.2.1 y2 (((Int16.ofInt 400).toInt32 * l1) + l4).toNatClampNeg) &&& (Int8.ofInt 15).toInt32)), (Value.int ((h.2.1 y4 (((Int16.ofInt 400).toInt32 * l1) + l4).toNatClampNeg) >>> ((Int32.ofInt 4) &&& 31))), (Value.long q9.1), Value.retAddr 0, w9, w10]) rfl ?_
          refine pw_l (pc := 110) d191_110 rfl rfl rfl ?_
          obtain ⟨q10, e_q10, hm⟩ := ob_x hm
          refine pw_v (pc := 111) (k := l0) (by omega) d191_111 (k191_262 b) (by decide) m189 (by decide) rfl (sho s_q9 f_l0) (Nat.le_of_ble_eq_true rfl) (Nat.le_of_ble_eq_true rfl) rfl rfl (T_m_pop b L xs (d - 1) (by omega) q9.2 s_q9 l0 f_l0 e_q10) (fun v0 h0 hq => ?_)
          obtain ⟨rfl, hh0, s_q10⟩ := hq
          rw [hh0] at s_q10 ⊢
          simp only [Option.toList_some, List.cons_append, List.nil_append]
          refine pw_t (pc := 114) d191_114 rfl rfl rfl (ls' := [(Value.ref l0), (Value.int l1), w2, (Value.int l3), (Value.int l4), (Value.int ((h.2.1 y2 (((Int16.ofInt 400).toInt32 * l1) + l4).toNatClampNeg) &&& (Int8.ofInt 15).toInt32)), (Value.int ((h.2.1 y4 (((Int16.ofInt 400).toInt32 * l1) + l4).toNatClampNeg) >>> ((Int32.ofInt 4) &&& 31))), (Value.long q9.1), Value.retAddr 0, (Value.long q10.1), Value.retAddr 0]) rfl ?_
          refine pw_l (pc := 116) d191_116 rfl rfl rfl ?_
          refine pw_l (pc := 117) d191_117 rfl rfl rfl ?_
          refine pw_l (pc := 119) d191_119 rfl rfl rfl ?_
          refine pw_l (pc := 121) d191_121 rfl rfl rfl ?_
          obtain ⟨q11, e_q11, hm⟩ := ob_x hm
          refine pw_u (pc := 123) (by omega) d191_123 (k191_266 b) (by decide) m190 (Nat.le_of_ble_eq_true rfl) (Nat.le_of_ble_eq_true rfl) (Nat.le_of_ble_eq_true rfl) rfl rfl (T_m_one b L xs (d - 1) (by omega) q10.2 s_q10 ((h.2.1 y2 (((Int16.ofInt 400).toInt32 * l1) + l4).toNatClampNeg) &&& (Int8.ofInt 15).toInt32) q10.1 q9.1  e_q11) (fun v0 h0 hq => ?_)
          obtain ⟨rfl, hh0, s_q11⟩ := hq
          rw [hh0] at s_q11 ⊢
          simp only [Option.toList_some, List.cons_append, List.nil_append]
          obtain ⟨q12, e_q12, hm⟩ := ob_x hm
          refine pw_v (pc := 126) (k := l0) (by omega) d191_126 (k191_258 b) (by decide) m188 (by decide) rfl (sho s_q10 f_l0) (Nat.le_of_ble_eq_true rfl) (Nat.le_of_ble_eq_true rfl) rfl rfl (T_m_push b L xs (d - 1) (by omega) q10.2 s_q10 l0 q11 f_l0 e_q12) (fun v0 h0 hq => ?_)
          obtain ⟨rfl, hh0, s_q12⟩ := hq
          rw [hh0] at s_q12 ⊢
          simp only [Option.toList_none, List.nil_append]
          refine pw_t (pc := 129) d191_129 rfl rfl rfl (ls' := [(Value.ref l0), (Value.int l1), w2, (Value.int l3), (Value.int (l4 + Int32.ofInt 1)), (Value.int ((h.2.1 y2 (((Int16.ofInt 400).toInt32 * l1) + l4).toNatClampNeg) &&& (Int8.ofInt 15).toInt32)), (Value.int ((h.2.1 y4 (((Int16.ofInt 400).toInt32 * l1) + l4).toNatClampNeg) >>> ((Int32.ofInt 4) &&& 31))), (Value.long q9.1), Value.retAddr 0, (Value.long q10.1), Value.retAddr 0]) rfl ?_
          refine pw_go (pc := 132) (t := 8) d191_132 (by decide) ?_
          obtain rfl := Option.some.inj hm
          exact hE s_q12  w2 (Value.int ((h.2.1 y2 (((Int16.ofInt 400).toInt32 * l1) + l4).toNatClampNeg) &&& (Int8.ofInt 15).toInt32)) (Value.int ((h.2.1 y4 (((Int16.ofInt 400).toInt32 * l1) + l4).toNatClampNeg) >>> ((Int32.ofInt 4) &&& 31))) (Value.long q9.1) (Value.retAddr 0) (Value.long q10.1) (Value.retAddr 0)
        · rw [if_neg c8] at hm
          refine pw_l (pc := 91) d191_91 rfl rfl rfl ?_
          refine pw_s (pc := 92) d191_92 rfl rfl ?_
          refine pw_l (pc := 93) d191_93 rfl rfl rfl ?_
          obtain ⟨q13, e_q13, hm⟩ := ob_x hm
          refine pw_v (pc := 94) (k := l0) (by omega) d191_94 (k191_262 b) (by decide) m189 (by decide) rfl (sho s_h f_l0) (Nat.le_of_ble_eq_true rfl) (Nat.le_of_ble_eq_true rfl) rfl rfl (T_m_pop b L xs (d - 1) (by omega) h s_h l0 f_l0 e_q13) (fun v0 h0 hq => ?_)
          obtain ⟨rfl, hh0, s_q13⟩ := hq
          rw [hh0] at s_q13 ⊢
          simp only [Option.toList_some, List.cons_append, List.nil_append]
          refine pw_s (pc := 97) d191_97 rfl rfl ?_
          obtain ⟨q14, e_q14, hm⟩ := ob_x hm
          refine pw_v (pc := 98) (k := l0) (by omega) d191_98 (k191_258 b) (by decide) m188 (by decide) rfl (sho s_q13 f_l0) (Nat.le_of_ble_eq_true rfl) (Nat.le_of_ble_eq_true rfl) rfl rfl (T_m_push b L xs (d - 1) (by omega) q13.2 s_q13 l0 ((Int64.ofNat 1) - q13.1) f_l0 e_q14) (fun v0 h0 hq => ?_)
          obtain ⟨rfl, hh0, s_q14⟩ := hq
          rw [hh0] at s_q14 ⊢
          simp only [Option.toList_none, List.nil_append]
          refine pw_go (pc := 101) (t := 129) d191_101 (by decide) ?_
          refine pw_t (pc := 129) d191_129 rfl rfl rfl rfl ?_
          refine pw_go (pc := 132) (t := 8) d191_132 (by decide) ?_
          obtain rfl := Option.some.inj hm
          exact hE s_q14  w2 (Value.int ((h.2.1 y2 (((Int16.ofInt 400).toInt32 * l1) + l4).toNatClampNeg) &&& (Int8.ofInt 15).toInt32)) (Value.int ((h.2.1 y4 (((Int16.ofInt 400).toInt32 * l1) + l4).toNatClampNeg) >>> ((Int32.ofInt 4) &&& 31))) w7 w8 w9 w10
      · rw [if_neg c7] at hm
        refine pw_l (pc := 70) d191_70 rfl rfl rfl ?_
        refine pw_l (pc := 71) d191_71 rfl rfl rfl ?_
        obtain ⟨y15, e_y15, hm⟩ := ob_x hm
        have f_y15 := gA_x e_y15
        refine pw_gr (pc := 72) d191_72 (k191_36 b) (sho s_h f_l0) f10_19 f_y15.1 ?_
        refine pw_l (pc := 75) d191_75 rfl rfl rfl ?_
        obtain ⟨g16, hm⟩ := gd_x hm
        refine pw_al (pc := 77) d191_77 (sha s_h f_y15.2) (mi_in_x g16) ?_
        obtain ⟨q17, e_q17, hm⟩ := ob_x hm
        refine pw_v (pc := 78) (k := l0) (by omega) d191_78 (k191_258 b) (by decide) m188 (by decide) rfl (sho s_h f_l0) (Nat.le_of_ble_eq_true rfl) (Nat.le_of_ble_eq_true rfl) rfl rfl (T_m_push b L xs (d - 1) (by omega) h s_h l0 (h.2.2.1 y15 ((h.2.1 y4 (((Int16.ofInt 400).toInt32 * l1) + l4).toNatClampNeg) >>> ((Int32.ofInt 4) &&& 31)).toNatClampNeg) f_l0 e_q17) (fun v0 h0 hq => ?_)
        obtain ⟨rfl, hh0, s_q17⟩ := hq
        rw [hh0] at s_q17 ⊢
        simp only [Option.toList_none, List.nil_append]
        refine pw_go (pc := 81) (t := 129) d191_81 (by decide) ?_
        refine pw_t (pc := 129) d191_129 rfl rfl rfl rfl ?_
        refine pw_go (pc := 132) (t := 8) d191_132 (by decide) ?_
        obtain rfl := Option.some.inj hm
        exact hE s_q17  w2 (Value.int ((h.2.1 y2 (((Int16.ofInt 400).toInt32 * l1) + l4).toNatClampNeg) &&& (Int8.ofInt 15).toInt32)) (Value.int ((h.2.1 y4 (((Int16.ofInt 400).toInt32 * l1) + l4).toNatClampNeg) >>> ((Int32.ofInt 4) &&& 31))) w7 w8 w9 w10
    · rw [if_neg c6] at hm
      refine pw_l (pc := 54) d191_54 rfl rfl rfl ?_
      refine pw_l (pc := 55) d191_55 rfl rfl rfl ?_
      refine pw_s (pc := 57) d191_57 rfl rfl ?_
      obtain ⟨q18, e_q18, hm⟩ := ob_x hm
      refine pw_v (pc := 58) (k := l0) (by omega) d191_58 (k191_258 b) (by decide) m188 (by decide) rfl (sho s_h f_l0) (Nat.le_of_ble_eq_true rfl) (Nat.le_of_ble_eq_true rfl) rfl rfl (T_m_push b L xs (d - 1) (by omega) h s_h l0 (((h.2.1 y4 (((Int16.ofInt 400).toInt32 * l1) + l4).toNatClampNeg) >>> ((Int32.ofInt 4) &&& 31)).toInt64) f_l0 e_q18) (fun v0 h0 hq => ?_)
      obtain ⟨rfl, hh0, s_q18⟩ := hq
      rw [hh0] at s_q18 ⊢
      simp only [Option.toList_none, List.nil_append]
      refine pw_go (pc := 61) (t := 129) d191_61 (by decide) ?_
      refine pw_t (pc := 129) d191_129 rfl rfl rfl rfl ?_
      refine pw_go (pc := 132) (t := 8) d191_132 (by decide) ?_
      obtain rfl := Option.some.inj hm
      exact hE s_q18  w2 (Value.int ((h.2.1 y2 (((Int16.ofInt 400).toInt32 * l1) + l4).toNatClampNeg) &&& (Int8.ofInt 15).toInt32)) (Value.int ((h.2.1 y4 (((Int16.ofInt 400).toInt32 * l1) + l4).toNatClampNeg) >>> ((Int32.ofInt 4) &&& 31))) w7 w8 w9 w10
noncomputable def m_reckons (l0 : Nat) (l1 : Int32) (l2 : Int32) (l3 : Int32) (h : pm_H) : Option (Int64 × pm_H) := bd (pm_setI h l0 18 (Int32.ofInt 0)) fun h1 => (wh (fun s : (Int32 × pm_H) => m_reckons_8 l0 l1 l3 s.1 s.2) (l2, h1)).bind fun q2 => (m_pop l0 q2).bind fun q3 => some (q3.1, q3.2)
theorem T_m_reckons (b : Bool) (L : Nat) (xs : Nat → Int32) (d : Nat) (hd : 1 ≤ d) (h : pm_H) (s_h : h.1 = tb_SH) (l0 : Nat) (l1 : Int32) (l2 : Int32) (l3 : Int32) (f_l0 : mi_o l0 10 = true) {r : (Int64 × pm_H)} (hm : m_reckons l0 l1 l2 l3 h = some r) : PC b L xs d 191 [(Value.ref l0), (Value.int l1), (Value.int l2), (Value.int l3)] h (fun (v0 : Option Value) (h2 : pm_H) => v0 = (some (Value.long r.1)) ∧ h2 = r.2 ∧ h2.1 = tb_SH) := by
  refine pc_in e191 (ls0 := [(Value.ref l0), (Value.int l1), (Value.int l2), (Value.int l3), Value.retAddr 0, Value.retAddr 0, Value.retAddr 0, Value.retAddr 0, Value.retAddr 0, Value.retAddr 0, Value.retAddr 0]) rfl ?_
  have key : ∀ (Q : Option Value → pm_H → Prop), (r.2.1 = tb_SH → Q (some (Value.long r.1)) r.2) → PW b L xs d 191 0 0 0 [(Value.ref l0), (Value.int l1), (Value.int l2), (Value.int l3), Value.retAddr 0, Value.retAddr 0, Value.retAddr 0, Value.retAddr 0, Value.retAddr 0, Value.retAddr 0, Value.retAddr 0] [] h Q := by
    intro Q hE
    rw [m_reckons] at hm
    refine pw_l (pc := 0) d191_0 rfl rfl rfl ?_
    refine pw_s (pc := 1) d191_1 rfl rfl ?_
    refine pw_pi (pc := 2) d191_2 (k191_255 b) (sho s_h f_l0) p191_10_18 ?_
    obtain ⟨h1, e_h1, hm⟩ := bd_x hm
    rw [e_h1]
    have s_h1 : h1.1 = tb_SH := by rw [← e_h1]; exact s_h
    refine pw_l (pc := 5) d191_5 rfl rfl rfl ?_
    refine pw_t (pc := 6) d191_6 rfl rfl rfl rfl ?_
    obtain ⟨q2, e_q2, hm⟩ := ob_x hm
    refine wh_ind e_q2 (fun s : (Int32 × pm_H) => s.2.1 = tb_SH → ∀ w2 w5 w6 w7 w8 w9 w10 : Value, PW b L xs d 191 0 0 8 [(Value.ref l0), (Value.int l1), w2, (Value.int l3), (Value.int s.1), w5, w6, w7, w8, w9, w10] [] s.2 Q) (fun s s2 hf ih sx w2 w5 w6 w7 w8 w9 w10 => t_m_reckons_8 b L xs d hd s.2 sx l0 l1 l3 s.1 w2 w5 w6 w7 w8 w9 w10 f_l0 hf ih) (fun s hf sx w2 w5 w6 w7 w8 w9 w10 => t_m_reckons_8 b L xs d hd s.2 sx l0 l1 l3 s.1 w2 w5 w6 w7 w8 w9 w10 f_l0 hf ?_) s_h1  (Value.int l2) (Value.retAddr 0) (Value.retAddr 0) (Value.retAddr 0) (Value.retAddr 0) (Value.retAddr 0) (Value.retAddr 0)
    intro s_q2_0 w1 w2 w3 w4 w5 w6 w7 w8 w9 w10
    refine pw_l (pc := 135) d191_135 rfl rfl rfl ?_
    obtain ⟨q3, e_q3, hm⟩ := ob_x hm
    refine pw_v (pc := 136) (k := l0) (by omega) d191_136 (k191_262 b) (by decide) m189 (by decide) rfl (sho s_q2_0 f_l0) (Nat.le_of_ble_eq_true rfl) (Nat.le_of_ble_eq_true rfl) rfl rfl (T_m_pop b L xs (d - 1) (by omega) q2 s_q2_0 l0 f_l0 e_q3) (fun v0 h0 hq => ?_)
    obtain ⟨rfl, hh0, s_q3⟩ := hq
    rw [hh0] at s_q3 ⊢
    simp only [Option.toList_some, List.cons_append, List.nil_append]
    obtain rfl := Option.some.inj hm
    refine pw_rl (pc := 139) d191_139 t191 ?_
    exact hE s_q3
  exact key _ (fun q => ⟨rfl, rfl, q⟩)
noncomputable def m_isShip (l0 : Nat) (h : pm_H) : Option Int32 := (gA h l0 20 .int).bind fun y1 => if mi_in (Int32.ofInt 0) (mi_n y1) = true then if (h.2.1 y1 (Int32.ofInt 0).toNatClampNeg) ≤ 0 then (some (Int32.ofInt 0)) else (some (Int32.ofInt 1)) else none
theorem T_m_isShip (b : Bool) (L : Nat) (xs : Nat → Int32) (d : Nat) (hd : 0 ≤ d) (h : pm_H) (s_h : h.1 = tb_SH) (l0 : Nat) (f_l0 : mi_o l0 10 = true) {r : Int32} (hm : m_isShip l0 h = some r) : PC b L xs d 192 [(Value.ref l0)] h (fun (v0 : Option Value) (h2 : pm_H) => v0 = (some (Value.int r)) ∧ h2 = h ∧ h2.1 = tb_SH) := by
  refine pc_in e192 (ls0 := [(Value.ref l0)]) rfl ?_
  have key : ∀ (Q : Option Value → pm_H → Prop), (Q (some (Value.int r)) h) → PW b L xs d 192 0 0 0 [(Value.ref l0)] [] h Q := by
    intro Q hE
    rw [m_isShip] at hm
    refine pw_l (pc := 0) d192_0 rfl rfl rfl ?_
    obtain ⟨y1, e_y1, hm⟩ := ob_x hm
    have f_y1 := gA_x e_y1
    refine pw_gr (pc := 1) d192_1 (k192_39 b) (sho s_h f_l0) f10_20 f_y1.1 ?_
    refine pw_s (pc := 4) d192_4 rfl rfl ?_
    obtain ⟨g2, hm⟩ := gd_x hm
    refine pw_ai (pc := 5) d192_5 (sha s_h f_y1.2) (mi_in_x g2) ?_
    refine pw_zle (pc := 6) (t := 13) d192_6 (by decide) (fun c3 => ?_) (fun c3 => ?_)
    · rw [if_pos c3] at hm
      refine pw_s (pc := 13) d192_13 rfl rfl ?_
      obtain rfl := Option.some.inj hm
      refine pw_ri (pc := 14) d192_14 t192 rfl ?_
      exact hE
    · rw [if_neg c3] at hm
      refine pw_s (pc := 9) d192_9 rfl rfl ?_
      refine pw_go (pc := 10) (t := 14) d192_10 (by decide) ?_
      obtain rfl := Option.some.inj hm
      refine pw_ri (pc := 14) d192_14 t192 rfl ?_
      exact hE
  exact key _ ⟨rfl, rfl, s_h⟩
noncomputable def m_isMan (l0 : Nat) (l1 : Int32) (h : pm_H) : Option Int32 := if l1 < 0 then (some (Int32.ofInt 0)) else ((gA h l0 20 .int).bind fun y2 => if mi_in (Int32.ofInt 1) (mi_n y2) = true then if (h.2.1 y2 (Int32.ofInt 1).toNatClampNeg) ≤ l1 then (some (Int32.ofInt 0)) else (some (Int32.ofInt 1)) else none)
theorem T_m_isMan (b : Bool) (L : Nat) (xs : Nat → Int32) (d : Nat) (hd : 0 ≤ d) (h : pm_H) (s_h : h.1 = tb_SH) (l0 : Nat) (l1 : Int32) (f_l0 : mi_o l0 10 = true) {r : Int32} (hm : m_isMan l0 l1 h = some r) : PC b L xs d 193 [(Value.ref l0), (Value.int l1)] h (fun (v0 : Option Value) (h2 : pm_H) => v0 = (some (Value.int r)) ∧ h2 = h ∧ h2.1 = tb_SH) := by
  refine pc_in e193 (ls0 := [(Value.ref l0), (Value.int l1)]) rfl ?_
  have key : ∀ (Q : Option Value → pm_H → Prop), (Q (some (Value.int r)) h) → PW b L xs d 193 0 0 0 [(Value.ref l0), (Value.int l1)] [] h Q := by
    intro Q hE
    rw [m_isMan] at hm
    refine pw_l (pc := 0) d193_0 rfl rfl rfl ?_
    refine pw_zlt (pc := 1) (t := 18) d193_1 (by decide) (fun c1 => ?_) (fun c1 => ?_)
    · rw [if_pos c1] at hm
      refine pw_s (pc := 18) d193_18 rfl rfl ?_
      obtain rfl := Option.some.inj hm
      refine pw_ri (pc := 19) d193_19 t193 rfl ?_
      exact hE
    · rw [if_neg c1] at hm
      refine pw_l (pc := 4) d193_4 rfl rfl rfl ?_
      refine pw_l (pc := 5) d193_5 rfl rfl rfl ?_
      obtain ⟨y2, e_y2, hm⟩ := ob_x hm
      have f_y2 := gA_x e_y2
      refine pw_gr (pc := 6) d193_6 (k193_39 b) (sho s_h f_l0) f10_20 f_y2.1 ?_
      refine pw_s (pc := 9) d193_9 rfl rfl ?_
      obtain ⟨g3, hm⟩ := gd_x hm
      refine pw_ai (pc := 10) d193_10 (sha s_h f_y2.2) (mi_in_x g3) ?_
      refine pw_ige (pc := 11) (t := 18) d193_11 (by decide) (fun c4 => ?_) (fun c4 => ?_)
      · rw [if_pos c4] at hm
        refine pw_s (pc := 18) d193_18 rfl rfl ?_
        obtain rfl := Option.some.inj hm
        refine pw_ri (pc := 19) d193_19 t193 rfl ?_
        exact hE
      · rw [if_neg c4] at hm
        refine pw_s (pc := 14) d193_14 rfl rfl ?_
        refine pw_go (pc := 15) (t := 19) d193_15 (by decide) ?_
        obtain rfl := Option.some.inj hm
        refine pw_ri (pc := 19) d193_19 t193 rfl ?_
        exact hE
  exact key _ ⟨rfl, rfl, s_h⟩
noncomputable def m_isOrder (l0 : Nat) (l1 : Int32) (h : pm_H) : Option Int32 := if l1 < 0 then (some (Int32.ofInt 0)) else ((gA h l0 20 .int).bind fun y2 => if mi_in (Int32.ofInt 2) (mi_n y2) = true then if (h.2.1 y2 (Int32.ofInt 2).toNatClampNeg) ≤ l1 then (some (Int32.ofInt 0)) else (some (Int32.ofInt 1)) else none)
theorem T_m_isOrder (b : Bool) (L : Nat) (xs : Nat → Int32) (d : Nat) (hd : 0 ≤ d) (h : pm_H) (s_h : h.1 = tb_SH) (l0 : Nat) (l1 : Int32) (f_l0 : mi_o l0 10 = true) {r : Int32} (hm : m_isOrder l0 l1 h = some r) : PC b L xs d 194 [(Value.ref l0), (Value.int l1)] h (fun (v0 : Option Value) (h2 : pm_H) => v0 = (some (Value.int r)) ∧ h2 = h ∧ h2.1 = tb_SH) := by
  refine pc_in e194 (ls0 := [(Value.ref l0), (Value.int l1)]) rfl ?_
  have key : ∀ (Q : Option Value → pm_H → Prop), (Q (some (Value.int r)) h) → PW b L xs d 194 0 0 0 [(Value.ref l0), (Value.int l1)] [] h Q := by
    intro Q hE
    rw [m_isOrder] at hm
    refine pw_l (pc := 0) d194_0 rfl rfl rfl ?_
    refine pw_zlt (pc := 1) (t := 18) d194_1 (by decide) (fun c1 => ?_) (fun c1 => ?_)
    · rw [if_pos c1] at hm
      refine pw_s (pc := 18) d194_18 rfl rfl ?_
      obtain rfl := Option.some.inj hm
      refine pw_ri (pc := 19) d194_19 t194 rfl ?_
      exact hE
    · rw [if_neg c1] at hm
      refine pw_l (pc := 4) d194_4 rfl rfl rfl ?_
      refine pw_l (pc := 5) d194_5 rfl rfl rfl ?_
      obtain ⟨y2, e_y2, hm⟩ := ob_x hm
      have f_y2 := gA_x e_y2
      refine pw_gr (pc := 6) d194_6 (k194_39 b) (sho s_h f_l0) f10_20 f_y2.1 ?_
      refine pw_s (pc := 9) d194_9 rfl rfl ?_
      obtain ⟨g3, hm⟩ := gd_x hm
      refine pw_ai (pc := 10) d194_10 (sha s_h f_y2.2) (mi_in_x g3) ?_
      refine pw_ige (pc := 11) (t := 18) d194_11 (by decide) (fun c4 => ?_) (fun c4 => ?_)
      · rw [if_pos c4] at hm
        refine pw_s (pc := 18) d194_18 rfl rfl ?_
        obtain rfl := Option.some.inj hm
        refine pw_ri (pc := 19) d194_19 t194 rfl ?_
        exact hE
      · rw [if_neg c4] at hm
        refine pw_s (pc := 14) d194_14 rfl rfl ?_
        refine pw_go (pc := 15) (t := 19) d194_15 (by decide) ?_
        obtain rfl := Option.some.inj hm
        refine pw_ri (pc := 19) d194_19 t194 rfl ?_
        exact hE
  exact key _ ⟨rfl, rfl, s_h⟩
noncomputable def m_isWordOf (l0 : Nat) (l1 : Int32) (h : pm_H) : Option Int32 := if l1 < 0 then (some (Int32.ofInt 0)) else ((gA h l0 20 .int).bind fun y2 => if mi_in (Int32.ofInt 0) (mi_n y2) = true then if (h.2.1 y2 (Int32.ofInt 0).toNatClampNeg) ≤ l1 then (some (Int32.ofInt 0)) else (some (Int32.ofInt 1)) else none)
theorem T_m_isWordOf (b : Bool) (L : Nat) (xs : Nat → Int32) (d : Nat) (hd : 0 ≤ d) (h : pm_H) (s_h : h.1 = tb_SH) (l0 : Nat) (l1 : Int32) (f_l0 : mi_o l0 10 = true) {r : Int32} (hm : m_isWordOf l0 l1 h = some r) : PC b L xs d 195 [(Value.ref l0), (Value.int l1)] h (fun (v0 : Option Value) (h2 : pm_H) => v0 = (some (Value.int r)) ∧ h2 = h ∧ h2.1 = tb_SH) := by
  refine pc_in e195 (ls0 := [(Value.ref l0), (Value.int l1)]) rfl ?_
  have key : ∀ (Q : Option Value → pm_H → Prop), (Q (some (Value.int r)) h) → PW b L xs d 195 0 0 0 [(Value.ref l0), (Value.int l1)] [] h Q := by
    intro Q hE
    rw [m_isWordOf] at hm
    refine pw_l (pc := 0) d195_0 rfl rfl rfl ?_
    refine pw_zlt (pc := 1) (t := 18) d195_1 (by decide) (fun c1 => ?_) (fun c1 => ?_)
    · rw [if_pos c1] at hm
      refine pw_s (pc := 18) d195_18 rfl rfl ?_
      obtain rfl := Option.some.inj hm
      refine pw_ri (pc := 19) d195_19 t195 rfl ?_
      exact hE
    · rw [if_neg c1] at hm
      refine pw_l (pc := 4) d195_4 rfl rfl rfl ?_
      refine pw_l (pc := 5) d195_5 rfl rfl rfl ?_
      obtain ⟨y2, e_y2, hm⟩ := ob_x hm
      have f_y2 := gA_x e_y2
      refine pw_gr (pc := 6) d195_6 (k195_39 b) (sho s_h f_l0) f10_20 f_y2.1 ?_
      refine pw_s (pc := 9) d195_9 rfl rfl ?_
      obtain ⟨g3, hm⟩ := gd_x hm
      refine pw_ai (pc := 10) d195_10 (sha s_h f_y2.2) (mi_in_x g3) ?_
      refine pw_ige (pc := 11) (t := 18) d195_11 (by decide) (fun c4 => ?_) (fun c4 => ?_)
      · rw [if_pos c4] at hm
        refine pw_s (pc := 18) d195_18 rfl rfl ?_
        obtain rfl := Option.some.inj hm
        refine pw_ri (pc := 19) d195_19 t195 rfl ?_
        exact hE
      · rw [if_neg c4] at hm
        refine pw_s (pc := 14) d195_14 rfl rfl ?_
        refine pw_go (pc := 15) (t := 19) d195_15 (by decide) ?_
        obtain rfl := Option.some.inj hm
        refine pw_ri (pc := 19) d195_19 t195 rfl ?_
        exact hE
  exact key _ ⟨rfl, rfl, s_h⟩
noncomputable def m_manOf (l0 : Nat) (l1 : Int32) (l2 : Int32) (h : pm_H) : Option Int32 := (gA h l0 20 .int).bind fun y1 => if mi_in (((Int8.ofInt 10).toInt32 + ((Int8.ofInt 6).toInt32 * l1)) + l2) (mi_n y1) = true then some (h.2.1 y1 (((Int8.ofInt 10).toInt32 + ((Int8.ofInt 6).toInt32 * l1)) + l2).toNatClampNeg) else none
theorem T_m_manOf (b : Bool) (L : Nat) (xs : Nat → Int32) (d : Nat) (hd : 0 ≤ d) (h : pm_H) (s_h : h.1 = tb_SH) (l0 : Nat) (l1 : Int32) (l2 : Int32) (f_l0 : mi_o l0 10 = true) {r : Int32} (hm : m_manOf l0 l1 l2 h = some r) : PC b L xs d 196 [(Value.ref l0), (Value.int l1), (Value.int l2)] h (fun (v0 : Option Value) (h2 : pm_H) => v0 = (some (Value.int r)) ∧ h2 = h ∧ h2.1 = tb_SH) := by
  refine pc_in e196 (ls0 := [(Value.ref l0), (Value.int l1), (Value.int l2)]) rfl ?_
  have key : ∀ (Q : Option Value → pm_H → Prop), (Q (some (Value.int r)) h) → PW b L xs d 196 0 0 0 [(Value.ref l0), (Value.int l1), (Value.int l2)] [] h Q := by
    intro Q hE
    rw [m_manOf] at hm
    refine pw_l (pc := 0) d196_0 rfl rfl rfl ?_
    obtain ⟨y1, e_y1, hm⟩ := ob_x hm
    have f_y1 := gA_x e_y1
    refine pw_gr (pc := 1) d196_1 (k196_39 b) (sho s_h f_l0) f10_20 f_y1.1 ?_
    refine pw_s (pc := 4) d196_4 rfl rfl ?_
    refine pw_s (pc := 6) d196_6 rfl rfl ?_
    refine pw_l (pc := 8) d196_8 rfl rfl rfl ?_
    refine pw_s (pc := 9) d196_9 rfl rfl ?_
    refine pw_s (pc := 10) d196_10 rfl rfl ?_
    refine pw_l (pc := 11) d196_11 rfl rfl rfl ?_
    refine pw_s (pc := 12) d196_12 rfl rfl ?_
    obtain ⟨g2, hm⟩ := gd_x hm
    refine pw_ai (pc := 13) d196_13 (sha s_h f_y1.2) (mi_in_x g2) ?_
    obtain rfl := Option.some.inj hm
    refine pw_ri (pc := 14) d196_14 t196 rfl ?_
    exact hE
  exact key _ ⟨rfl, rfl, s_h⟩
noncomputable def m_isAlive (l0 : Nat) (l1 : Int32) (h : pm_H) : Option Int32 := (m_isMan l0 l1 h).bind fun q1 => if q1 = 0 then (some (Int32.ofInt 0)) else ((m_manOf l0 l1 (Int32.ofInt 4) h).bind fun q3 => if ¬ q3 = 0 then (some (Int32.ofInt 0)) else (some (Int32.ofInt 1)))
theorem T_m_isAlive (b : Bool) (L : Nat) (xs : Nat → Int32) (d : Nat) (hd : 1 ≤ d) (h : pm_H) (s_h : h.1 = tb_SH) (l0 : Nat) (l1 : Int32) (f_l0 : mi_o l0 10 = true) {r : Int32} (hm : m_isAlive l0 l1 h = some r) : PC b L xs d 197 [(Value.ref l0), (Value.int l1)] h (fun (v0 : Option Value) (h2 : pm_H) => v0 = (some (Value.int r)) ∧ h2 = h ∧ h2.1 = tb_SH) := by
  refine pc_in e197 (ls0 := [(Value.ref l0), (Value.int l1)]) rfl ?_
  have key : ∀ (Q : Option Value → pm_H → Prop), (Q (some (Value.int r)) h) → PW b L xs d 197 0 0 0 [(Value.ref l0), (Value.int l1)] [] h Q := by
    intro Q hE
    rw [m_isAlive] at hm
    refine pw_l (pc := 0) d197_0 rfl rfl rfl ?_
    refine pw_l (pc := 1) d197_1 rfl rfl rfl ?_
    obtain ⟨q1, e_q1, hm⟩ := ob_x hm
    refine pw_v (pc := 2) (k := l0) (by omega) d197_2 (k197_270 b) (by decide) m193 (by decide) rfl (sho s_h f_l0) (Nat.le_of_ble_eq_true rfl) (Nat.le_of_ble_eq_true rfl) rfl rfl (T_m_isMan b L xs (d - 1) (by omega) h s_h l0 l1 f_l0 e_q1) (fun v0 h0 hq => ?_)
    obtain ⟨rfl, hh0, s_q1⟩ := hq
    rw [hh0] at s_q1 ⊢
    simp only [Option.toList_some, List.cons_append, List.nil_append]
    refine pw_zeq (pc := 5) (t := 21) d197_5 (by decide) (fun c2 => ?_) (fun c2 => ?_)
    · rw [if_pos c2] at hm
      refine pw_s (pc := 21) d197_21 rfl rfl ?_
      obtain rfl := Option.some.inj hm
      refine pw_ri (pc := 22) d197_22 t197 rfl ?_
      exact hE
    · rw [if_neg c2] at hm
      refine pw_l (pc := 8) d197_8 rfl rfl rfl ?_
      refine pw_l (pc := 9) d197_9 rfl rfl rfl ?_
      refine pw_s (pc := 10) d197_10 rfl rfl ?_
      obtain ⟨q3, e_q3, hm⟩ := ob_x hm
      refine pw_v (pc := 11) (k := l0) (by omega) d197_11 (k197_273 b) (by decide) m196 (by decide) rfl (sho s_h f_l0) (Nat.le_of_ble_eq_true rfl) (Nat.le_of_ble_eq_true rfl) rfl rfl (T_m_manOf b L xs (d - 1) (by omega) h s_h l0 l1 (Int32.ofInt 4) f_l0 e_q3) (fun v0 h0 hq => ?_)
      obtain ⟨rfl, hh0, s_q3⟩ := hq
      rw [hh0] at s_q3 ⊢
      simp only [Option.toList_some, List.cons_append, List.nil_append]
      refine pw_zne (pc := 14) (t := 21) d197_14 (by decide) (fun c4 => ?_) (fun c4 => ?_)
      · rw [if_pos c4] at hm
        refine pw_s (pc := 21) d197_21 rfl rfl ?_
        obtain rfl := Option.some.inj hm
        refine pw_ri (pc := 22) d197_22 t197 rfl ?_
        exact hE
      · rw [if_neg c4] at hm
        refine pw_s (pc := 17) d197_17 rfl rfl ?_
        refine pw_go (pc := 18) (t := 22) d197_18 (by decide) ?_
        obtain rfl := Option.some.inj hm
        refine pw_ri (pc := 22) d197_22 t197 rfl ?_
        exact hE
  exact key _ ⟨rfl, rfl, s_h⟩
noncomputable def m_isLee (l0 : Nat) (l1 : Int32) (h : pm_H) : Option Int32 := (gA h l0 20 .int).bind fun y1 => if mi_in (Int32.ofInt 5) (mi_n y1) = true then if (h.2.1 y1 (Int32.ofInt 5).toNatClampNeg) ≤ 0 then (some (Int32.ofInt 0)) else ((m_manOf l0 l1 (Int32.ofInt 1) h).bind fun q4 => (gA h l0 20 .int).bind fun y5 => if mi_in (Int32.ofInt 5) (mi_n y5) = true then if ¬ q4 = (h.2.1 y5 (Int32.ofInt 5).toNatClampNeg) then (some (Int32.ofInt 0)) else (some (Int32.ofInt 1)) else none) else none
theorem T_m_isLee (b : Bool) (L : Nat) (xs : Nat → Int32) (d : Nat) (hd : 1 ≤ d) (h : pm_H) (s_h : h.1 = tb_SH) (l0 : Nat) (l1 : Int32) (f_l0 : mi_o l0 10 = true) {r : Int32} (hm : m_isLee l0 l1 h = some r) : PC b L xs d 198 [(Value.ref l0), (Value.int l1)] h (fun (v0 : Option Value) (h2 : pm_H) => v0 = (some (Value.int r)) ∧ h2 = h ∧ h2.1 = tb_SH) := by
  refine pc_in e198 (ls0 := [(Value.ref l0), (Value.int l1)]) rfl ?_
  have key : ∀ (Q : Option Value → pm_H → Prop), (Q (some (Value.int r)) h) → PW b L xs d 198 0 0 0 [(Value.ref l0), (Value.int l1)] [] h Q := by
    intro Q hE
    rw [m_isLee] at hm
    refine pw_l (pc := 0) d198_0 rfl rfl rfl ?_
    obtain ⟨y1, e_y1, hm⟩ := ob_x hm
    have f_y1 := gA_x e_y1
    refine pw_gr (pc := 1) d198_1 (k198_39 b) (sho s_h f_l0) f10_20 f_y1.1 ?_
    refine pw_s (pc := 4) d198_4 rfl rfl ?_
    obtain ⟨g2, hm⟩ := gd_x hm
    refine pw_ai (pc := 5) d198_5 (sha s_h f_y1.2) (mi_in_x g2) ?_
    refine pw_zle (pc := 6) (t := 28) d198_6 (by decide) (fun c3 => ?_) (fun c3 => ?_)
    · rw [if_pos c3] at hm
      refine pw_s (pc := 28) d198_28 rfl rfl ?_
      obtain rfl := Option.some.inj hm
      refine pw_ri (pc := 29) d198_29 t198 rfl ?_
      exact hE
    · rw [if_neg c3] at hm
      refine pw_l (pc := 9) d198_9 rfl rfl rfl ?_
      refine pw_l (pc := 10) d198_10 rfl rfl rfl ?_
      refine pw_s (pc := 11) d198_11 rfl rfl ?_
      obtain ⟨q4, e_q4, hm⟩ := ob_x hm
      refine pw_v (pc := 12) (k := l0) (by omega) d198_12 (k198_273 b) (by decide) m196 (by decide) rfl (sho s_h f_l0) (Nat.le_of_ble_eq_true rfl) (Nat.le_of_ble_eq_true rfl) rfl rfl (T_m_manOf b L xs (d - 1) (by omega) h s_h l0 l1 (Int32.ofInt 1) f_l0 e_q4) (fun v0 h0 hq => ?_)
      obtain ⟨rfl, hh0, s_q4⟩ := hq
      rw [hh0] at s_q4 ⊢
      simp only [Option.toList_some, List.cons_append, List.nil_append]
      refine pw_l (pc := 15) d198_15 rfl rfl rfl ?_
      obtain ⟨y5, e_y5, hm⟩ := ob_x hm
      have f_y5 := gA_x e_y5
      refine pw_gr (pc := 16) d198_16 (k198_39 b) (sho s_h f_l0) f10_20 f_y5.1 ?_
      refine pw_s (pc := 19) d198_19 rfl rfl ?_
      obtain ⟨g6, hm⟩ := gd_x hm
      refine pw_ai (pc := 20) d198_20 (sha s_h f_y5.2) (mi_in_x g6) ?_
      refine pw_ine (pc := 21) (t := 28) d198_21 (by decide) (fun c7 => ?_) (fun c7 => ?_)
      · rw [if_pos c7] at hm
        refine pw_s (pc := 28) d198_28 rfl rfl ?_
        obtain rfl := Option.some.inj hm
        refine pw_ri (pc := 29) d198_29 t198 rfl ?_
        exact hE
      · rw [if_neg c7] at hm
        refine pw_s (pc := 24) d198_24 rfl rfl ?_
        refine pw_go (pc := 25) (t := 29) d198_25 (by decide) ?_
        obtain rfl := Option.some.inj hm
        refine pw_ri (pc := 29) d198_29 t198 rfl ?_
        exact hE
  exact key _ ⟨rfl, rfl, s_h⟩
noncomputable def m_isHeard (l0 : Nat) (l1 : Int32) (h : pm_H) : Option Int32 := if ¬ l1 = (Int8.ofInt 8).toInt32 then ((m_isAlive l0 l1 h).bind fun q2 => if q2 = 0 then (some (Int32.ofInt 0)) else ((m_manOf l0 l1 (Int32.ofInt 2) h).bind fun q4 => if ¬ q4 = (Int32.ofInt 1) then (some (Int32.ofInt 0)) else ((m_manOf l0 l1 (Int32.ofInt 3) h).bind fun q6 => if ¬ q6 = 0 then (some (Int32.ofInt 0)) else ((m_isLee l0 l1 h).bind fun q8 => if ¬ q8 = 0 then (some (Int32.ofInt 0)) else (some (Int32.ofInt 1)))))) else ((gA h l0 20 .int).bind fun y10 => if mi_in ((Int8.ofInt 6).toInt32) (mi_n y10) = true then if (h.2.1 y10 ((Int8.ofInt 6).toInt32).toNatClampNeg) < 0 then (some (Int32.ofInt 0)) else (some (Int32.ofInt 1)) else none)
theorem T_m_isHeard (b : Bool) (L : Nat) (xs : Nat → Int32) (d : Nat) (hd : 2 ≤ d) (h : pm_H) (s_h : h.1 = tb_SH) (l0 : Nat) (l1 : Int32) (f_l0 : mi_o l0 10 = true) {r : Int32} (hm : m_isHeard l0 l1 h = some r) : PC b L xs d 199 [(Value.ref l0), (Value.int l1)] h (fun (v0 : Option Value) (h2 : pm_H) => v0 = (some (Value.int r)) ∧ h2 = h ∧ h2.1 = tb_SH) := by
  refine pc_in e199 (ls0 := [(Value.ref l0), (Value.int l1)]) rfl ?_
  have key : ∀ (Q : Option Value → pm_H → Prop), (Q (some (Value.int r)) h) → PW b L xs d 199 0 0 0 [(Value.ref l0), (Value.int l1)] [] h Q := by
    intro Q hE
    rw [m_isHeard] at hm
    refine pw_l (pc := 0) d199_0 rfl rfl rfl ?_
    refine pw_s (pc := 1) d199_1 rfl rfl ?_
    refine pw_ine (pc := 3) (t := 22) d199_3 (by decide) (fun c1 => ?_) (fun c1 => ?_)
    · rw [if_pos c1] at hm
      refine pw_l (pc := 22) d199_22 rfl rfl rfl ?_
      refine pw_l (pc := 23) d199_23 rfl rfl rfl ?_
      obtain ⟨q2, e_q2, hm⟩ := ob_x hm
      refine pw_v (pc := 24) (k := l0) (by omega) d199_24 (k199_277 b) (by decide) m197 (by decide) rfl (sho s_h f_l0) (Nat.le_of_ble_eq_true rfl) (Nat.le_of_ble_eq_true rfl) rfl rfl (T_m_isAlive b L xs (d - 1) (by omega) h s_h l0 l1 f_l0 e_q2) (fun v0 h0 hq => ?_)
      obtain ⟨rfl, hh0, s_q2⟩ := hq
      rw [hh0] at s_q2 ⊢
      simp only [Option.toList_some, List.cons_append, List.nil_append]
      refine pw_zeq (pc := 27) (t := 61) d199_27 (by decide) (fun c3 => ?_) (fun c3 => ?_)
      · rw [if_pos c3] at hm
        refine pw_s (pc := 61) d199_61 rfl rfl ?_
        obtain rfl := Option.some.inj hm
        refine pw_ri (pc := 62) d199_62 t199 rfl ?_
        exact hE
      · rw [if_neg c3] at hm
        refine pw_l (pc := 30) d199_30 rfl rfl rfl ?_
        refine pw_l (pc := 31) d199_31 rfl rfl rfl ?_
        refine pw_s (pc := 32) d199_32 rfl rfl ?_
        obtain ⟨q4, e_q4, hm⟩ := ob_x hm
        refine pw_v (pc := 33) (k := l0) (by omega) d199_33 (k199_273 b) (by decide) m196 (by decide) rfl (sho s_h f_l0) (Nat.le_of_ble_eq_true rfl) (Nat.le_of_ble_eq_true rfl) rfl rfl (T_m_manOf b L xs (d - 1) (by omega) h s_h l0 l1 (Int32.ofInt 2) f_l0 e_q4) (fun v0 h0 hq => ?_)
        obtain ⟨rfl, hh0, s_q4⟩ := hq
        rw [hh0] at s_q4 ⊢
        simp only [Option.toList_some, List.cons_append, List.nil_append]
        refine pw_s (pc := 36) d199_36 rfl rfl ?_
        refine pw_ine (pc := 37) (t := 61) d199_37 (by decide) (fun c5 => ?_) (fun c5 => ?_)
        · rw [if_pos c5] at hm
          refine pw_s (pc := 61) d199_61 rfl rfl ?_
          obtain rfl := Option.some.inj hm
          refine pw_ri (pc := 62) d199_62 t199 rfl ?_
          exact hE
        · rw [if_neg c5] at hm
          refine pw_l (pc := 40) d199_40 rfl rfl rfl ?_
          refine pw_l (pc := 41) d199_41 rfl rfl rfl ?_
          refine pw_s (pc := 42) d199_42 rfl rfl ?_
          obtain ⟨q6, e_q6, hm⟩ := ob_x hm
          refine pw_v (pc := 43) (k := l0) (by omega) d199_43 (k199_273 b) (by decide) m196 (by decide) rfl (sho s_h f_l0) (Nat.le_of_ble_eq_true rfl) (Nat.le_of_ble_eq_true rfl) rfl rfl (T_m_manOf b L xs (d - 1) (by omega) h s_h l0 l1 (Int32.ofInt 3) f_l0 e_q6) (fun v0 h0 hq => ?_)
          obtain ⟨rfl, hh0, s_q6⟩ := hq
          rw [hh0] at s_q6 ⊢
          simp only [Option.toList_some, List.cons_append, List.nil_append]
          refine pw_zne (pc := 46) (t := 61) d199_46 (by decide) (fun c7 => ?_) (fun c7 => ?_)
          · rw [if_pos c7] at hm
            refine pw_s (pc := 61) d199_61 rfl rfl ?_
            obtain rfl := Option.some.inj hm
            refine pw_ri (pc := 62) d199_62 t199 rfl ?_
            exact hE
          · rw [if_neg c7] at hm
            refine pw_l (pc := 49) d199_49 rfl rfl rfl ?_
            refine pw_l (pc := 50) d199_50 rfl rfl rfl ?_
            obtain ⟨q8, e_q8, hm⟩ := ob_x hm
            refine pw_v (pc := 51) (k := l0) (by omega) d199_51 (k199_280 b) (by decide) m198 (by decide) rfl (sho s_h f_l0) (Nat.le_of_ble_eq_true rfl) (Nat.le_of_ble_eq_true rfl) rfl rfl (T_m_isLee b L xs (d - 1) (by omega) h s_h l0 l1 f_l0 e_q8) (fun v0 h0 hq => ?_)
            obtain ⟨rfl, hh0, s_q8⟩ := hq
            rw [hh0] at s_q8 ⊢
            simp only [Option.toList_some, List.cons_append, List.nil_append]
            refine pw_zne (pc := 54) (t := 61) d199_54 (by decide) (fun c9 => ?_) (fun c9 => ?_)
            · rw [if_pos c9] at hm
              refine pw_s (pc := 61) d199_61 rfl rfl ?_
              obtain rfl := Option.some.inj hm
              refine pw_ri (pc := 62) d199_62 t199 rfl ?_
              exact hE
            · rw [if_neg c9] at hm
              refine pw_s (pc := 57) d199_57 rfl rfl ?_
              refine pw_go (pc := 58) (t := 62) d199_58 (by decide) ?_
              obtain rfl := Option.some.inj hm
              refine pw_ri (pc := 62) d199_62 t199 rfl ?_
              exact hE
    · rw [if_neg c1] at hm
      refine pw_l (pc := 6) d199_6 rfl rfl rfl ?_
      obtain ⟨y10, e_y10, hm⟩ := ob_x hm
      have f_y10 := gA_x e_y10
      refine pw_gr (pc := 7) d199_7 (k199_39 b) (sho s_h f_l0) f10_20 f_y10.1 ?_
      refine pw_s (pc := 10) d199_10 rfl rfl ?_
      obtain ⟨g11, hm⟩ := gd_x hm
      refine pw_ai (pc := 12) d199_12 (sha s_h f_y10.2) (mi_in_x g11) ?_
      refine pw_zlt (pc := 13) (t := 20) d199_13 (by decide) (fun c12 => ?_) (fun c12 => ?_)
      · rw [if_pos c12] at hm
        refine pw_s (pc := 20) d199_20 rfl rfl ?_
        obtain rfl := Option.some.inj hm
        refine pw_ri (pc := 21) d199_21 t199 rfl ?_
        exact hE
      · rw [if_neg c12] at hm
        refine pw_s (pc := 16) d199_16 rfl rfl ?_
        refine pw_go (pc := 17) (t := 21) d199_17 (by decide) ?_
        obtain rfl := Option.some.inj hm
        refine pw_ri (pc := 21) d199_21 t199 rfl ?_
        exact hE
  exact key _ ⟨rfl, rfl, s_h⟩
def E_m_heardSet_4 (b : Bool) (L : Nat) (xs : Nat → Int32) (d : Nat) (Q : Option Value → pm_H → Prop) (h : pm_H) (l0 : Nat) : ((Int32 × Int32) ⊕ Int32) → Prop
  | .inl s => PW b L xs d 200 0 0 4 [(Value.ref l0), (Value.int s.1), (Value.int s.2)] [] h Q
  | .inr e => ∀ w0 w2 : Value, PW b L xs d 200 0 0 34 [w0, (Value.int e), w2] [] h Q
noncomputable def m_heardSet_26 (l0 : Nat) (l2 : Int32) (z0 : Int32) (z1 : Int32) (h : pm_H) : Option ((Int32 × Int32) ⊕ Int32) := some (.inl ((z1 ||| z0), (l2 + Int32.ofInt 1)))
theorem t_m_heardSet_26 (b : Bool) (L : Nat) (xs : Nat → Int32) (d : Nat) (hd : 3 ≤ d) {Q : Option Value → pm_H → Prop} (h : pm_H) (s_h : h.1 = tb_SH) (l0 : Nat) (l2 : Int32) (z0 : Int32) (z1 : Int32) (w1 : Value) (f_l0 : mi_o l0 10 = true) {r : ((Int32 × Int32) ⊕ Int32)} (hm : m_heardSet_26 l0 l2 z0 z1 h = some r) (hE : E_m_heardSet_4 b L xs d Q h l0 r) : PW b L xs d 200 0 0 26 [(Value.ref l0), w1, (Value.int l2)] [(Value.int z0), (Value.int z1)] h Q := by
  rw [m_heardSet_26] at hm
  refine pw_s (pc := 26) d200_26 rfl rfl ?_
  refine pw_t (pc := 27) d200_27 rfl rfl rfl rfl ?_
  refine pw_t (pc := 28) d200_28 rfl rfl rfl rfl ?_
  refine pw_go (pc := 31) (t := 4) d200_31 (by decide) ?_
  obtain rfl := Option.some.inj hm
  exact hE   
noncomputable def m_heardSet_4 (l0 : Nat) (l1 : Int32) (l2 : Int32) (h : pm_H) : Option ((Int32 × Int32) ⊕ Int32) := if (Int8.ofInt 8).toInt32 < l2 then (some (.inr l1)) else ((m_isHeard l0 l2 h).bind fun q2 => if q2 = 0 then (m_heardSet_26 l0 l2 (Int32.ofInt 0) l1 h) else (m_heardSet_26 l0 l2 ((Int32.ofInt 1) <<< (l2 &&& 31)) l1 h))
theorem t_m_heardSet_4 (b : Bool) (L : Nat) (xs : Nat → Int32) (d : Nat) (hd : 3 ≤ d) {Q : Option Value → pm_H → Prop} (h : pm_H) (s_h : h.1 = tb_SH) (l0 : Nat) (l1 : Int32) (l2 : Int32) (f_l0 : mi_o l0 10 = true) {r : ((Int32 × Int32) ⊕ Int32)} (hm : m_heardSet_4 l0 l1 l2 h = some r) (hE : E_m_heardSet_4 b L xs d Q h l0 r) : PW b L xs d 200 0 0 4 [(Value.ref l0), (Value.int l1), (Value.int l2)] [] h Q := by
  rw [m_heardSet_4] at hm
  refine pw_l (pc := 4) d200_4 rfl rfl rfl ?_
  refine pw_s (pc := 5) d200_5 rfl rfl ?_
  refine pw_igt (pc := 7) (t := 34) d200_7 (by decide) (fun c1 => ?_) (fun c1 => ?_)
  · rw [if_pos c1] at hm
    obtain rfl := Option.some.inj hm
    exact hE   (Value.ref l0) (Value.int l2)
  · rw [if_neg c1] at hm
    refine pw_l (pc := 10) d200_10 rfl rfl rfl ?_
    refine pw_l (pc := 11) d200_11 rfl rfl rfl ?_
    refine pw_l (pc := 12) d200_12 rfl rfl rfl ?_
    obtain ⟨q2, e_q2, hm⟩ := ob_x hm
    refine pw_v (pc := 13) (k := l0) (by omega) d200_13 (k200_283 b) (by decide) m199 (by decide) rfl (sho s_h f_l0) (Nat.le_of_ble_eq_true rfl) (Nat.le_of_ble_eq_true rfl) rfl rfl (T_m_isHeard b L xs (d - 1) (by omega) h s_h l0 l2 f_l0 e_q2) (fun v0 h0 hq => ?_)
    obtain ⟨rfl, hh0, s_q2⟩ := hq
    rw [hh0] at s_q2 ⊢
    simp only [Option.toList_some, List.cons_append, List.nil_append]
    refine pw_zeq (pc := 16) (t := 25) d200_16 (by decide) (fun c3 => ?_) (fun c3 => ?_)
    · rw [if_pos c3] at hm
      refine pw_s (pc := 25) d200_25 rfl rfl ?_
      exact t_m_heardSet_26 b L xs d hd h s_h l0 l2 (Int32.ofInt 0) l1 (Value.int l1) f_l0  hm hE
    · rw [if_neg c3] at hm
      refine pw_s (pc := 19) d200_19 rfl rfl ?_
      refine pw_l (pc := 20) d200_20 rfl rfl rfl ?_
      refine pw_s (pc := 21) d200_21 rfl rfl ?_
      refine pw_go (pc := 22) (t := 26) d200_22 (by decide) ?_
      exact t_m_heardSet_26 b L xs d hd h s_h l0 l2 ((Int32.ofInt 1) <<< (l2 &&& 31)) l1 (Value.int l1) f_l0  hm hE
noncomputable def m_heardSet (l0 : Nat) (h : pm_H) : Option Int32 := (wh (fun s : (Int32 × Int32) => m_heardSet_4 l0 s.1 s.2 h) ((Int32.ofInt 0), (Int32.ofInt 0))).bind fun q1 => some q1
theorem T_m_heardSet (b : Bool) (L : Nat) (xs : Nat → Int32) (d : Nat) (hd : 3 ≤ d) (h : pm_H) (s_h : h.1 = tb_SH) (l0 : Nat) (f_l0 : mi_o l0 10 = true) {r : Int32} (hm : m_heardSet l0 h = some r) : PC b L xs d 200 [(Value.ref l0)] h (fun (v0 : Option Value) (h2 : pm_H) => v0 = (some (Value.int r)) ∧ h2 = h ∧ h2.1 = tb_SH) := by
  refine pc_in e200 (ls0 := [(Value.ref l0), Value.retAddr 0, Value.retAddr 0]) rfl ?_
  have key : ∀ (Q : Option Value → pm_H → Prop), (Q (some (Value.int r)) h) → PW b L xs d 200 0 0 0 [(Value.ref l0), Value.retAddr 0, Value.retAddr 0] [] h Q := by
    intro Q hE
    rw [m_heardSet] at hm
    refine pw_s (pc := 0) d200_0 rfl rfl ?_
    refine pw_t (pc := 1) d200_1 rfl rfl rfl rfl ?_
    refine pw_s (pc := 2) d200_2 rfl rfl ?_
    refine pw_t (pc := 3) d200_3 rfl rfl rfl rfl ?_
    obtain ⟨q1, e_q1, hm⟩ := ob_x hm
    refine wh_ind e_q1 (fun s : (Int32 × Int32) => PW b L xs d 200 0 0 4 [(Value.ref l0), (Value.int s.1), (Value.int s.2)] [] h Q) (fun s s2 hf ih  => t_m_heardSet_4 b L xs d hd h s_h l0 s.1 s.2  f_l0 hf ih) (fun s hf  => t_m_heardSet_4 b L xs d hd h s_h l0 s.1 s.2  f_l0 hf ?_)   
    intro w0 w2
    refine pw_l (pc := 34) d200_34 rfl rfl rfl ?_
    obtain rfl := Option.some.inj hm
    refine pw_ri (pc := 35) d200_35 t200 rfl ?_
    exact hE
  exact key _ ⟨rfl, rfl, s_h⟩
def E_m_aliveSet_4 (b : Bool) (L : Nat) (xs : Nat → Int32) (d : Nat) (Q : Option Value → pm_H → Prop) (h : pm_H) (l0 : Nat) : ((Int32 × Int32) ⊕ Int32) → Prop
  | .inl s => PW b L xs d 201 0 0 4 [(Value.ref l0), (Value.int s.1), (Value.int s.2)] [] h Q
  | .inr e => ∀ w0 w2 : Value, PW b L xs d 201 0 0 38 [w0, (Value.int e), w2] [] h Q
noncomputable def m_aliveSet_30 (l0 : Nat) (l2 : Int32) (z0 : Int32) (z1 : Int32) (h : pm_H) : Option ((Int32 × Int32) ⊕ Int32) := some (.inl ((z1 ||| z0), (l2 + Int32.ofInt 1)))
theorem t_m_aliveSet_30 (b : Bool) (L : Nat) (xs : Nat → Int32) (d : Nat) (hd : 2 ≤ d) {Q : Option Value → pm_H → Prop} (h : pm_H) (s_h : h.1 = tb_SH) (l0 : Nat) (l2 : Int32) (z0 : Int32) (z1 : Int32) (w1 : Value) (f_l0 : mi_o l0 10 = true) {r : ((Int32 × Int32) ⊕ Int32)} (hm : m_aliveSet_30 l0 l2 z0 z1 h = some r) (hE : E_m_aliveSet_4 b L xs d Q h l0 r) : PW b L xs d 201 0 0 30 [(Value.ref l0), w1, (Value.int l2)] [(Value.int z0), (Value.int z1)] h Q := by
  rw [m_aliveSet_30] at hm
  refine pw_s (pc := 30) d201_30 rfl rfl ?_
  refine pw_t (pc := 31) d201_31 rfl rfl rfl rfl ?_
  refine pw_t (pc := 32) d201_32 rfl rfl rfl rfl ?_
  refine pw_go (pc := 35) (t := 4) d201_35 (by decide) ?_
  obtain rfl := Option.some.inj hm
  exact hE   
noncomputable def m_aliveSet_4 (l0 : Nat) (l1 : Int32) (l2 : Int32) (h : pm_H) : Option ((Int32 × Int32) ⊕ Int32) := (gA h l0 20 .int).bind fun y1 => if mi_in (Int32.ofInt 1) (mi_n y1) = true then if (h.2.1 y1 (Int32.ofInt 1).toNatClampNeg) ≤ l2 then (some (.inr l1)) else ((m_isAlive l0 l2 h).bind fun q4 => if q4 = 0 then (m_aliveSet_30 l0 l2 (Int32.ofInt 0) l1 h) else (m_aliveSet_30 l0 l2 ((Int32.ofInt 1) <<< (l2 &&& 31)) l1 h)) else none
theorem t_m_aliveSet_4 (b : Bool) (L : Nat) (xs : Nat → Int32) (d : Nat) (hd : 2 ≤ d) {Q : Option Value → pm_H → Prop} (h : pm_H) (s_h : h.1 = tb_SH) (l0 : Nat) (l1 : Int32) (l2 : Int32) (f_l0 : mi_o l0 10 = true) {r : ((Int32 × Int32) ⊕ Int32)} (hm : m_aliveSet_4 l0 l1 l2 h = some r) (hE : E_m_aliveSet_4 b L xs d Q h l0 r) : PW b L xs d 201 0 0 4 [(Value.ref l0), (Value.int l1), (Value.int l2)] [] h Q := by
  rw [m_aliveSet_4] at hm
  refine pw_l (pc := 4) d201_4 rfl rfl rfl ?_
  refine pw_l (pc := 5) d201_5 rfl rfl rfl ?_
  obtain ⟨y1, e_y1, hm⟩ := ob_x hm
  have f_y1 := gA_x e_y1
  refine pw_gr (pc := 6) d201_6 (k201_39 b) (sho s_h f_l0) f10_20 f_y1.1 ?_
  refine pw_s (pc := 9) d201_9 rfl rfl ?_
  obtain ⟨g2, hm⟩ := gd_x hm
  refine pw_ai (pc := 10) d201_10 (sha s_h f_y1.2) (mi_in_x g2) ?_
  refine pw_ige (pc := 11) (t := 38) d201_11 (by decide) (fun c3 => ?_) (fun c3 => ?_)
  · rw [if_pos c3] at hm
    obtain rfl := Option.some.inj hm
    exact hE   (Value.ref l0) (Value.int l2)
  · rw [if_neg c3] at hm
    refine pw_l (pc := 14) d201_14 rfl rfl rfl ?_
    refine pw_l (pc := 15) d201_15 rfl rfl rfl ?_
    refine pw_l (pc := 16) d201_16 rfl rfl rfl ?_
    obtain ⟨q4, e_q4, hm⟩ := ob_x hm
    refine pw_v (pc := 17) (k := l0) (by omega) d201_17 (k201_277 b) (by decide) m197 (by decide) rfl (sho s_h f_l0) (Nat.le_of_ble_eq_true rfl) (Nat.le_of_ble_eq_true rfl) rfl rfl (T_m_isAlive b L xs (d - 1) (by omega) h s_h l0 l2 f_l0 e_q4) (fun v0 h0 hq => ?_)
    obtain ⟨rfl, hh0, s_q4⟩ := hq
    rw [hh0] at s_q4 ⊢
    simp only [Option.toList_some, List.cons_append, List.nil_append]
    refine pw_zeq (pc := 20) (t := 29) d201_20 (by decide) (fun c5 => ?_) (fun c5 => ?_)
    · rw [if_pos c5] at hm
      refine pw_s (pc := 29) d201_29 rfl rfl ?_
      exact t_m_aliveSet_30 b L xs d hd h s_h l0 l2 (Int32.ofInt 0) l1 (Value.int l1) f_l0  hm hE
    · rw [if_neg c5] at hm
      refine pw_s (pc := 23) d201_23 rfl rfl ?_
      refine pw_l (pc := 24) d201_24 rfl rfl rfl ?_
      refine pw_s (pc := 25) d201_25 rfl rfl ?_
      refine pw_go (pc := 26) (t := 30) d201_26 (by decide) ?_
      exact t_m_aliveSet_30 b L xs d hd h s_h l0 l2 ((Int32.ofInt 1) <<< (l2 &&& 31)) l1 (Value.int l1) f_l0  hm hE
noncomputable def m_aliveSet (l0 : Nat) (h : pm_H) : Option Int32 := (wh (fun s : (Int32 × Int32) => m_aliveSet_4 l0 s.1 s.2 h) ((Int32.ofInt 0), (Int32.ofInt 0))).bind fun q1 => some q1
theorem T_m_aliveSet (b : Bool) (L : Nat) (xs : Nat → Int32) (d : Nat) (hd : 2 ≤ d) (h : pm_H) (s_h : h.1 = tb_SH) (l0 : Nat) (f_l0 : mi_o l0 10 = true) {r : Int32} (hm : m_aliveSet l0 h = some r) : PC b L xs d 201 [(Value.ref l0)] h (fun (v0 : Option Value) (h2 : pm_H) => v0 = (some (Value.int r)) ∧ h2 = h ∧ h2.1 = tb_SH) := by
  refine pc_in e201 (ls0 := [(Value.ref l0), Value.retAddr 0, Value.retAddr 0]) rfl ?_
  have key : ∀ (Q : Option Value → pm_H → Prop), (Q (some (Value.int r)) h) → PW b L xs d 201 0 0 0 [(Value.ref l0), Value.retAddr 0, Value.retAddr 0] [] h Q := by
    intro Q hE
    rw [m_aliveSet] at hm
    refine pw_s (pc := 0) d201_0 rfl rfl ?_
    refine pw_t (pc := 1) d201_1 rfl rfl rfl rfl ?_
    refine pw_s (pc := 2) d201_2 rfl rfl ?_
    refine pw_t (pc := 3) d201_3 rfl rfl rfl rfl ?_
    obtain ⟨q1, e_q1, hm⟩ := ob_x hm
    refine wh_ind e_q1 (fun s : (Int32 × Int32) => PW b L xs d 201 0 0 4 [(Value.ref l0), (Value.int s.1), (Value.int s.2)] [] h Q) (fun s s2 hf ih  => t_m_aliveSet_4 b L xs d hd h s_h l0 s.1 s.2  f_l0 hf ih) (fun s hf  => t_m_aliveSet_4 b L xs d hd h s_h l0 s.1 s.2  f_l0 hf ?_)   
    intro w0 w2
    refine pw_l (pc := 38) d201_38 rfl rfl rfl ?_
    obtain rfl := Option.some.inj hm
    refine pw_ri (pc := 39) d201_39 t201 rfl ?_
    exact hE
  exact key _ ⟨rfl, rfl, s_h⟩
def E_m_awakeSet_4 (b : Bool) (L : Nat) (xs : Nat → Int32) (d : Nat) (Q : Option Value → pm_H → Prop) (h : pm_H) (l0 : Nat) : ((Int32 × Int32) ⊕ Int32) → Prop
  | .inl s => PW b L xs d 202 0 0 4 [(Value.ref l0), (Value.int s.1), (Value.int s.2)] [] h Q
  | .inr e => ∀ w0 w2 : Value, PW b L xs d 202 0 0 31 [w0, (Value.int e), w2] [] h Q
noncomputable def m_awakeSet_4 (l0 : Nat) (l1 : Int32) (l2 : Int32) (h : pm_H) : Option ((Int32 × Int32) ⊕ Int32) := (gA h l0 20 .int).bind fun y1 => if mi_in (Int32.ofInt 1) (mi_n y1) = true then if (h.2.1 y1 (Int32.ofInt 1).toNatClampNeg) ≤ l2 then (some (.inr l1)) else ((m_manOf l0 l2 (Int32.ofInt 2) h).bind fun q4 => some (.inl ((l1 ||| (q4 <<< (l2 &&& 31))), (l2 + Int32.ofInt 1)))) else none
theorem t_m_awakeSet_4 (b : Bool) (L : Nat) (xs : Nat → Int32) (d : Nat) (hd : 1 ≤ d) {Q : Option Value → pm_H → Prop} (h : pm_H) (s_h : h.1 = tb_SH) (l0 : Nat) (l1 : Int32) (l2 : Int32) (f_l0 : mi_o l0 10 = true) {r : ((Int32 × Int32) ⊕ Int32)} (hm : m_awakeSet_4 l0 l1 l2 h = some r) (hE : E_m_awakeSet_4 b L xs d Q h l0 r) : PW b L xs d 202 0 0 4 [(Value.ref l0), (Value.int l1), (Value.int l2)] [] h Q := by
  rw [m_awakeSet_4] at hm
  refine pw_l (pc := 4) d202_4 rfl rfl rfl ?_
  refine pw_l (pc := 5) d202_5 rfl rfl rfl ?_
  obtain ⟨y1, e_y1, hm⟩ := ob_x hm
  have f_y1 := gA_x e_y1
  refine pw_gr (pc := 6) d202_6 (k202_39 b) (sho s_h f_l0) f10_20 f_y1.1 ?_
  refine pw_s (pc := 9) d202_9 rfl rfl ?_
  obtain ⟨g2, hm⟩ := gd_x hm
  refine pw_ai (pc := 10) d202_10 (sha s_h f_y1.2) (mi_in_x g2) ?_
  refine pw_ige (pc := 11) (t := 31) d202_11 (by decide) (fun c3 => ?_) (fun c3 => ?_)
  · rw [if_pos c3] at hm
    obtain rfl := Option.some.inj hm
    exact hE   (Value.ref l0) (Value.int l2)
  · rw [if_neg c3] at hm
    refine pw_l (pc := 14) d202_14 rfl rfl rfl ?_
    refine pw_l (pc := 15) d202_15 rfl rfl rfl ?_
    refine pw_l (pc := 16) d202_16 rfl rfl rfl ?_
    refine pw_s (pc := 17) d202_17 rfl rfl ?_
    obtain ⟨q4, e_q4, hm⟩ := ob_x hm
    refine pw_v (pc := 18) (k := l0) (by omega) d202_18 (k202_273 b) (by decide) m196 (by decide) rfl (sho s_h f_l0) (Nat.le_of_ble_eq_true rfl) (Nat.le_of_ble_eq_true rfl) rfl rfl (T_m_manOf b L xs (d - 1) (by omega) h s_h l0 l2 (Int32.ofInt 2) f_l0 e_q4) (fun v0 h0 hq => ?_)
    obtain ⟨rfl, hh0, s_q4⟩ := hq
    rw [hh0] at s_q4 ⊢
    simp only [Option.toList_some, List.cons_append, List.nil_append]
    refine pw_l (pc := 21) d202_21 rfl rfl rfl ?_
    refine pw_s (pc := 22) d202_22 rfl rfl ?_
    refine pw_s (pc := 23) d202_23 rfl rfl ?_
    refine pw_t (pc := 24) d202_24 rfl rfl rfl rfl ?_
    refine pw_t (pc := 25) d202_25 rfl rfl rfl rfl ?_
    refine pw_go (pc := 28) (t := 4) d202_28 (by decide) ?_
    obtain rfl := Option.some.inj hm
    exact hE   
noncomputable def m_awakeSet (l0 : Nat) (h : pm_H) : Option Int32 := (wh (fun s : (Int32 × Int32) => m_awakeSet_4 l0 s.1 s.2 h) ((Int32.ofInt 0), (Int32.ofInt 0))).bind fun q1 => some q1
theorem T_m_awakeSet (b : Bool) (L : Nat) (xs : Nat → Int32) (d : Nat) (hd : 1 ≤ d) (h : pm_H) (s_h : h.1 = tb_SH) (l0 : Nat) (f_l0 : mi_o l0 10 = true) {r : Int32} (hm : m_awakeSet l0 h = some r) : PC b L xs d 202 [(Value.ref l0)] h (fun (v0 : Option Value) (h2 : pm_H) => v0 = (some (Value.int r)) ∧ h2 = h ∧ h2.1 = tb_SH) := by
  refine pc_in e202 (ls0 := [(Value.ref l0), Value.retAddr 0, Value.retAddr 0]) rfl ?_
  have key : ∀ (Q : Option Value → pm_H → Prop), (Q (some (Value.int r)) h) → PW b L xs d 202 0 0 0 [(Value.ref l0), Value.retAddr 0, Value.retAddr 0] [] h Q := by
    intro Q hE
    rw [m_awakeSet] at hm
    refine pw_s (pc := 0) d202_0 rfl rfl ?_
    refine pw_t (pc := 1) d202_1 rfl rfl rfl rfl ?_
    refine pw_s (pc := 2) d202_2 rfl rfl ?_
    refine pw_t (pc := 3) d202_3 rfl rfl rfl rfl ?_
    obtain ⟨q1, e_q1, hm⟩ := ob_x hm
    refine wh_ind e_q1 (fun s : (Int32 × Int32) => PW b L xs d 202 0 0 4 [(Value.ref l0), (Value.int s.1), (Value.int s.2)] [] h Q) (fun s s2 hf ih  => t_m_awakeSet_4 b L xs d hd h s_h l0 s.1 s.2  f_l0 hf ih) (fun s hf  => t_m_awakeSet_4 b L xs d hd h s_h l0 s.1 s.2  f_l0 hf ?_)   
    intro w0 w2
    refine pw_l (pc := 31) d202_31 rfl rfl rfl ?_
    obtain rfl := Option.some.inj hm
    refine pw_ri (pc := 32) d202_32 t202 rfl ?_
    exact hE
  exact key _ ⟨rfl, rfl, s_h⟩
noncomputable def m_orderOf (l0 : Nat) (l1 : Int32) (l2 : Int32) (h : pm_H) : Option Int32 := (gA h l0 20 .int).bind fun y1 => if mi_in (((Int8.ofInt 58).toInt32 + ((Int8.ofInt 6).toInt32 * l1)) + l2) (mi_n y1) = true then some (h.2.1 y1 (((Int8.ofInt 58).toInt32 + ((Int8.ofInt 6).toInt32 * l1)) + l2).toNatClampNeg) else none
theorem T_m_orderOf (b : Bool) (L : Nat) (xs : Nat → Int32) (d : Nat) (hd : 0 ≤ d) (h : pm_H) (s_h : h.1 = tb_SH) (l0 : Nat) (l1 : Int32) (l2 : Int32) (f_l0 : mi_o l0 10 = true) {r : Int32} (hm : m_orderOf l0 l1 l2 h = some r) : PC b L xs d 203 [(Value.ref l0), (Value.int l1), (Value.int l2)] h (fun (v0 : Option Value) (h2 : pm_H) => v0 = (some (Value.int r)) ∧ h2 = h ∧ h2.1 = tb_SH) := by
  refine pc_in e203 (ls0 := [(Value.ref l0), (Value.int l1), (Value.int l2)]) rfl ?_
  have key : ∀ (Q : Option Value → pm_H → Prop), (Q (some (Value.int r)) h) → PW b L xs d 203 0 0 0 [(Value.ref l0), (Value.int l1), (Value.int l2)] [] h Q := by
    intro Q hE
    rw [m_orderOf] at hm
    refine pw_l (pc := 0) d203_0 rfl rfl rfl ?_
    obtain ⟨y1, e_y1, hm⟩ := ob_x hm
    have f_y1 := gA_x e_y1
    refine pw_gr (pc := 1) d203_1 (k203_39 b) (sho s_h f_l0) f10_20 f_y1.1 ?_
    refine pw_s (pc := 4) d203_4 rfl rfl ?_
    refine pw_s (pc := 6) d203_6 rfl rfl ?_
    refine pw_l (pc := 8) d203_8 rfl rfl rfl ?_
    refine pw_s (pc := 9) d203_9 rfl rfl ?_
    refine pw_s (pc := 10) d203_10 rfl rfl ?_
    refine pw_l (pc := 11) d203_11 rfl rfl rfl ?_
    refine pw_s (pc := 12) d203_12 rfl rfl ?_
    obtain ⟨g2, hm⟩ := gd_x hm
    refine pw_ai (pc := 13) d203_13 (sha s_h f_y1.2) (mi_in_x g2) ?_
    obtain rfl := Option.some.inj hm
    refine pw_ri (pc := 14) d203_14 t203 rfl ?_
    exact hE
  exact key _ ⟨rfl, rfl, s_h⟩
noncomputable def m_man (l0 : Nat) (l1 : Int32) (l2 : Int32) (h : pm_H) : Option Int32 := (m_isMan l0 l1 h).bind fun q1 => if q1 = 0 then (some (Int32.ofInt (-1))) else ((m_in l2.toInt64 (Int64.ofNat 0) (6 : Int64) h).bind fun q3 => if ¬ q3 = 0 then (if (Int8.ofInt 6).toInt32 ≤ l2 then ((m_isHeard l0 l1 h).bind fun q6 => if q6 = 0 then (some (Int32.ofInt 0)) else (some (Int32.ofInt 1))) else ((m_manOf l0 l1 l2 h).bind fun q8 => some q8)) else (some (Int32.ofInt (-1))))
theorem T_m_man (b : Bool) (L : Nat) (xs : Nat → Int32) (d : Nat) (hd : 3 ≤ d) (h : pm_H) (s_h : h.1 = tb_SH) (l0 : Nat) (l1 : Int32) (l2 : Int32) (f_l0 : mi_o l0 10 = true) {r : Int32} (hm : m_man l0 l1 l2 h = some r) : PC b L xs d 204 [(Value.ref l0), (Value.int l1), (Value.int l2)] h (fun (v0 : Option Value) (h2 : pm_H) => v0 = (some (Value.int r)) ∧ h2 = h ∧ h2.1 = tb_SH) := by
  refine pc_in e204 (ls0 := [(Value.ref l0), (Value.int l1), (Value.int l2)]) rfl ?_
  have key : ∀ (Q : Option Value → pm_H → Prop), (Q (some (Value.int r)) h) → PW b L xs d 204 0 0 0 [(Value.ref l0), (Value.int l1), (Value.int l2)] [] h Q := by
    intro Q hE
    rw [m_man] at hm
    refine pw_l (pc := 0) d204_0 rfl rfl rfl ?_
    refine pw_l (pc := 1) d204_1 rfl rfl rfl ?_
    obtain ⟨q1, e_q1, hm⟩ := ob_x hm
    refine pw_v (pc := 2) (k := l0) (by omega) d204_2 (k204_270 b) (by decide) m193 (by decide) rfl (sho s_h f_l0) (Nat.le_of_ble_eq_true rfl) (Nat.le_of_ble_eq_true rfl) rfl rfl (T_m_isMan b L xs (d - 1) (by omega) h s_h l0 l1 f_l0 e_q1) (fun v0 h0 hq => ?_)
    obtain ⟨rfl, hh0, s_q1⟩ := hq
    rw [hh0] at s_q1 ⊢
    simp only [Option.toList_some, List.cons_append, List.nil_append]
    refine pw_zeq (pc := 5) (t := 20) d204_5 (by decide) (fun c2 => ?_) (fun c2 => ?_)
    · rw [if_pos c2] at hm
      refine pw_s (pc := 20) d204_20 rfl rfl ?_
      obtain rfl := Option.some.inj hm
      refine pw_ri (pc := 21) d204_21 t204 rfl ?_
      exact hE
    · rw [if_neg c2] at hm
      refine pw_l (pc := 8) d204_8 rfl rfl rfl ?_
      refine pw_s (pc := 9) d204_9 rfl rfl ?_
      refine pw_s (pc := 10) d204_10 rfl rfl ?_
      refine pw_cl (pc := 11) d204_11 (k204_286 b) ?_
      obtain ⟨q3, e_q3, hm⟩ := ob_x hm
      refine pw_u (pc := 14) (by omega) d204_14 (k204_112 b) (by decide) m148 (Nat.le_of_ble_eq_true rfl) (Nat.le_of_ble_eq_true rfl) (Nat.le_of_ble_eq_true rfl) rfl rfl (T_m_in b L xs (d - 1) (by omega) h s_h l2.toInt64 (Int64.ofNat 0) (6 : Int64)  e_q3) (fun v0 h0 hq => ?_)
      obtain ⟨rfl, hh0, s_q3⟩ := hq
      rw [hh0] at s_q3 ⊢
      simp only [Option.toList_some, List.cons_append, List.nil_append]
      refine pw_zne (pc := 17) (t := 22) d204_17 (by decide) (fun c4 => ?_) (fun c4 => ?_)
      · rw [if_pos c4] at hm
        refine pw_l (pc := 22) d204_22 rfl rfl rfl ?_
        refine pw_s (pc := 23) d204_23 rfl rfl ?_
        refine pw_ige (pc := 25) (t := 37) d204_25 (by decide) (fun c5 => ?_) (fun c5 => ?_)
        · rw [if_pos c5] at hm
          refine pw_l (pc := 37) d204_37 rfl rfl rfl ?_
          refine pw_l (pc := 38) d204_38 rfl rfl rfl ?_
          obtain ⟨q6, e_q6, hm⟩ := ob_x hm
          refine pw_v (pc := 39) (k := l0) (by omega) d204_39 (k204_283 b) (by decide) m199 (by decide) rfl (sho s_h f_l0) (Nat.le_of_ble_eq_true rfl) (Nat.le_of_ble_eq_true rfl) rfl rfl (T_m_isHeard b L xs (d - 1) (by omega) h s_h l0 l1 f_l0 e_q6) (fun v0 h0 hq => ?_)
          obtain ⟨rfl, hh0, s_q6⟩ := hq
          rw [hh0] at s_q6 ⊢
          simp only [Option.toList_some, List.cons_append, List.nil_append]
          refine pw_zeq (pc := 42) (t := 49) d204_42 (by decide) (fun c7 => ?_) (fun c7 => ?_)
          · rw [if_pos c7] at hm
            refine pw_s (pc := 49) d204_49 rfl rfl ?_
            obtain rfl := Option.some.inj hm
            refine pw_ri (pc := 50) d204_50 t204 rfl ?_
            exact hE
          · rw [if_neg c7] at hm
            refine pw_s (pc := 45) d204_45 rfl rfl ?_
            refine pw_go (pc := 46) (t := 50) d204_46 (by decide) ?_
            obtain rfl := Option.some.inj hm
            refine pw_ri (pc := 50) d204_50 t204 rfl ?_
            exact hE
        · rw [if_neg c5] at hm
          refine pw_l (pc := 28) d204_28 rfl rfl rfl ?_
          refine pw_l (pc := 29) d204_29 rfl rfl rfl ?_
          refine pw_l (pc := 30) d204_30 rfl rfl rfl ?_
          obtain ⟨q8, e_q8, hm⟩ := ob_x hm
          refine pw_v (pc := 31) (k := l0) (by omega) d204_31 (k204_273 b) (by decide) m196 (by decide) rfl (sho s_h f_l0) (Nat.le_of_ble_eq_true rfl) (Nat.le_of_ble_eq_true rfl) rfl rfl (T_m_manOf b L xs (d - 1) (by omega) h s_h l0 l1 l2 f_l0 e_q8) (fun v0 h0 hq => ?_)
          obtain ⟨rfl, hh0, s_q8⟩ := hq
          rw [hh0] at s_q8 ⊢
          simp only [Option.toList_some, List.cons_append, List.nil_append]
          refine pw_go (pc := 34) (t := 50) d204_34 (by decide) ?_
          obtain rfl := Option.some.inj hm
          refine pw_ri (pc := 50) d204_50 t204 rfl ?_
          exact hE
      · rw [if_neg c4] at hm
        refine pw_s (pc := 20) d204_20 rfl rfl ?_
        obtain rfl := Option.some.inj hm
        refine pw_ri (pc := 21) d204_21 t204 rfl ?_
        exact hE
  exact key _ ⟨rfl, rfl, s_h⟩
noncomputable def m_order_39 (l0 : Nat) (l1 : Int32) (l2 : Int32) (h : pm_H) : Option Int32 := (m_orderOf l0 l1 l2 h).bind fun q1 => some q1
theorem t_m_order_39 (b : Bool) (L : Nat) (xs : Nat → Int32) (d : Nat) (hd : 1 ≤ d) {Q : Option Value → pm_H → Prop} (h : pm_H) (s_h : h.1 = tb_SH) (l0 : Nat) (l1 : Int32) (l2 : Int32) (f_l0 : mi_o l0 10 = true) {r : Int32} (hm : m_order_39 l0 l1 l2 h = some r) (hE : Q (some (Value.int r)) h) : PW b L xs d 205 0 0 39 [(Value.ref l0), (Value.int l1), (Value.int l2)] [] h Q := by
  rw [m_order_39] at hm
  refine pw_l (pc := 39) d205_39 rfl rfl rfl ?_
  refine pw_l (pc := 40) d205_40 rfl rfl rfl ?_
  refine pw_l (pc := 41) d205_41 rfl rfl rfl ?_
  obtain ⟨q1, e_q1, hm⟩ := ob_x hm
  refine pw_v (pc := 42) (k := l0) (by omega) d205_42 (k205_293 b) (by decide) m203 (by decide) rfl (sho s_h f_l0) (Nat.le_of_ble_eq_true rfl) (Nat.le_of_ble_eq_true rfl) rfl rfl (T_m_orderOf b L xs (d - 1) (by omega) h s_h l0 l1 l2 f_l0 e_q1) (fun v0 h0 hq => ?_)
  obtain ⟨rfl, hh0, s_q1⟩ := hq
  rw [hh0] at s_q1 ⊢
  simp only [Option.toList_some, List.cons_append, List.nil_append]
  refine pw_go (pc := 45) (t := 50) d205_45 (by decide) ?_
  obtain rfl := Option.some.inj hm
  refine pw_ri (pc := 50) d205_50 t205 rfl ?_
  exact hE
noncomputable def m_order (l0 : Nat) (l1 : Int32) (l2 : Int32) (h : pm_H) : Option Int32 := (m_isOrder l0 l1 h).bind fun q1 => if q1 = 0 then (some (Int32.ofInt (-1))) else ((m_in l2.toInt64 (Int64.ofNat 0) (5 : Int64) h).bind fun q3 => if ¬ q3 = 0 then (if l2 < (Int32.ofInt 2) then (m_order_39 l0 l1 l2 h) else ((m_orderOf l0 l1 (Int32.ofInt 1) h).bind fun q6 => if q6 ≤ (l2 - (Int32.ofInt 2)) then (some ((Int8.ofInt (-2)).toInt32)) else (m_order_39 l0 l1 l2 h))) else (some (Int32.ofInt (-1))))
theorem T_m_order (b : Bool) (L : Nat) (xs : Nat → Int32) (d : Nat) (hd : 1 ≤ d) (h : pm_H) (s_h : h.1 = tb_SH) (l0 : Nat) (l1 : Int32) (l2 : Int32) (f_l0 : mi_o l0 10 = true) {r : Int32} (hm : m_order l0 l1 l2 h = some r) : PC b L xs d 205 [(Value.ref l0), (Value.int l1), (Value.int l2)] h (fun (v0 : Option Value) (h2 : pm_H) => v0 = (some (Value.int r)) ∧ h2 = h ∧ h2.1 = tb_SH) := by
  refine pc_in e205 (ls0 := [(Value.ref l0), (Value.int l1), (Value.int l2)]) rfl ?_
  have key : ∀ (Q : Option Value → pm_H → Prop), (Q (some (Value.int r)) h) → PW b L xs d 205 0 0 0 [(Value.ref l0), (Value.int l1), (Value.int l2)] [] h Q := by
    intro Q hE
    rw [m_order] at hm
    refine pw_l (pc := 0) d205_0 rfl rfl rfl ?_
    refine pw_l (pc := 1) d205_1 rfl rfl rfl ?_
    obtain ⟨q1, e_q1, hm⟩ := ob_x hm
    refine pw_v (pc := 2) (k := l0) (by omega) d205_2 (k205_288 b) (by decide) m194 (by decide) rfl (sho s_h f_l0) (Nat.le_of_ble_eq_true rfl) (Nat.le_of_ble_eq_true rfl) rfl rfl (T_m_isOrder b L xs (d - 1) (by omega) h s_h l0 l1 f_l0 e_q1) (fun v0 h0 hq => ?_)
    obtain ⟨rfl, hh0, s_q1⟩ := hq
    rw [hh0] at s_q1 ⊢
    simp only [Option.toList_some, List.cons_append, List.nil_append]
    refine pw_zeq (pc := 5) (t := 20) d205_5 (by decide) (fun c2 => ?_) (fun c2 => ?_)
    · rw [if_pos c2] at hm
      refine pw_s (pc := 20) d205_20 rfl rfl ?_
      obtain rfl := Option.some.inj hm
      refine pw_ri (pc := 21) d205_21 t205 rfl ?_
      exact hE
    · rw [if_neg c2] at hm
      refine pw_l (pc := 8) d205_8 rfl rfl rfl ?_
      refine pw_s (pc := 9) d205_9 rfl rfl ?_
      refine pw_s (pc := 10) d205_10 rfl rfl ?_
      refine pw_cl (pc := 11) d205_11 (k205_291 b) ?_
      obtain ⟨q3, e_q3, hm⟩ := ob_x hm
      refine pw_u (pc := 14) (by omega) d205_14 (k205_112 b) (by decide) m148 (Nat.le_of_ble_eq_true rfl) (Nat.le_of_ble_eq_true rfl) (Nat.le_of_ble_eq_true rfl) rfl rfl (T_m_in b L xs (d - 1) (by omega) h s_h l2.toInt64 (Int64.ofNat 0) (5 : Int64)  e_q3) (fun v0 h0 hq => ?_)
      obtain ⟨rfl, hh0, s_q3⟩ := hq
      rw [hh0] at s_q3 ⊢
      simp only [Option.toList_some, List.cons_append, List.nil_append]
      refine pw_zne (pc := 17) (t := 22) d205_17 (by decide) (fun c4 => ?_) (fun c4 => ?_)
      · rw [if_pos c4] at hm
        refine pw_l (pc := 22) d205_22 rfl rfl rfl ?_
        refine pw_s (pc := 23) d205_23 rfl rfl ?_
        refine pw_ilt (pc := 24) (t := 39) d205_24 (by decide) (fun c5 => ?_) (fun c5 => ?_)
        · rw [if_pos c5] at hm
          exact t_m_order_39 b L xs d hd h s_h l0 l1 l2  f_l0  hm hE
        · rw [if_neg c5] at hm
          refine pw_l (pc := 27) d205_27 rfl rfl rfl ?_
          refine pw_s (pc := 28) d205_28 rfl rfl ?_
          refine pw_s (pc := 29) d205_29 rfl rfl ?_
          refine pw_l (pc := 30) d205_30 rfl rfl rfl ?_
          refine pw_l (pc := 31) d205_31 rfl rfl rfl ?_
          refine pw_s (pc := 32) d205_32 rfl rfl ?_
          obtain ⟨q6, e_q6, hm⟩ := ob_x hm
          refine pw_v (pc := 33) (k := l0) (by omega) d205_33 (k205_293 b) (by decide) m203 (by decide) rfl (sho s_h f_l0) (Nat.le_of_ble_eq_true rfl) (Nat.le_of_ble_eq_true rfl) rfl rfl (T_m_orderOf b L xs (d - 1) (by omega) h s_h l0 l1 (Int32.ofInt 1) f_l0 e_q6) (fun v0 h0 hq => ?_)
          obtain ⟨rfl, hh0, s_q6⟩ := hq
          rw [hh0] at s_q6 ⊢
          simp only [Option.toList_some, List.cons_append, List.nil_append]
          refine pw_ige (pc := 36) (t := 48) d205_36 (by decide) (fun c7 => ?_) (fun c7 => ?_)
          · rw [if_pos c7] at hm
            refine pw_s (pc := 48) d205_48 rfl rfl ?_
            obtain rfl := Option.some.inj hm
            refine pw_ri (pc := 50) d205_50 t205 rfl ?_
            exact hE
          · rw [if_neg c7] at hm
            exact t_m_order_39 b L xs d hd h s_h l0 l1 l2  f_l0  hm hE
      · rw [if_neg c4] at hm
        refine pw_s (pc := 20) d205_20 rfl rfl ?_
        obtain rfl := Option.some.inj hm
        refine pw_ri (pc := 21) d205_21 t205 rfl ?_
        exact hE
  exact key _ ⟨rfl, rfl, s_h⟩
noncomputable def m_means (l0 : Nat) (l1 : Int32) (l2 : Int32) (h : pm_H) : Option Int32 := (m_isWordOf l0 l1 h).bind fun q1 => if q1 = 0 then (some (Int32.ofInt (-1))) else ((m_isWordOf l0 l2 h).bind fun q3 => if ¬ q3 = 0 then ((gA h l0 20 .int).bind fun y5 => if mi_in (((Int8.ofInt 106).toInt32 + ((Int8.ofInt 10).toInt32 * l1)) + l2) (mi_n y5) = true then if 0 ≤ (h.2.1 y5 (((Int8.ofInt 106).toInt32 + ((Int8.ofInt 10).toInt32 * l1)) + l2).toNatClampNeg) then (some (h.2.1 y5 (((Int8.ofInt 106).toInt32 + ((Int8.ofInt 10).toInt32 * l1)) + l2).toNatClampNeg)) else (some ((Int8.ofInt (-2)).toInt32)) else none) else (some (Int32.ofInt (-1))))
theorem T_m_means (b : Bool) (L : Nat) (xs : Nat → Int32) (d : Nat) (hd : 1 ≤ d) (h : pm_H) (s_h : h.1 = tb_SH) (l0 : Nat) (l1 : Int32) (l2 : Int32) (f_l0 : mi_o l0 10 = true) {r : Int32} (hm : m_means l0 l1 l2 h = some r) : PC b L xs d 206 [(Value.ref l0), (Value.int l1), (Value.int l2)] h (fun (v0 : Option Value) (h2 : pm_H) => v0 = (some (Value.int r)) ∧ h2 = h ∧ h2.1 = tb_SH) := by
  refine pc_in e206 (ls0 := [(Value.ref l0), (Value.int l1), (Value.int l2), Value.retAddr 0]) rfl ?_
  have key : ∀ (Q : Option Value → pm_H → Prop), (Q (some (Value.int r)) h) → PW b L xs d 206 0 0 0 [(Value.ref l0), (Value.int l1), (Value.int l2), Value.retAddr 0] [] h Q := by
    intro Q hE
    rw [m_means] at hm
    refine pw_l (pc := 0) d206_0 rfl rfl rfl ?_
    refine pw_l (pc := 1) d206_1 rfl rfl rfl ?_
    obtain ⟨q1, e_q1, hm⟩ := ob_x hm
    refine pw_v (pc := 2) (k := l0) (by omega) d206_2 (k206_296 b) (by decide) m195 (by decide) rfl (sho s_h f_l0) (Nat.le_of_ble_eq_true rfl) (Nat.le_of_ble_eq_true rfl) rfl rfl (T_m_isWordOf b L xs (d - 1) (by omega) h s_h l0 l1 f_l0 e_q1) (fun v0 h0 hq => ?_)
    obtain ⟨rfl, hh0, s_q1⟩ := hq
    rw [hh0] at s_q1 ⊢
    simp only [Option.toList_some, List.cons_append, List.nil_append]
    refine pw_zeq (pc := 5) (t := 16) d206_5 (by decide) (fun c2 => ?_) (fun c2 => ?_)
    · rw [if_pos c2] at hm
      refine pw_s (pc := 16) d206_16 rfl rfl ?_
      obtain rfl := Option.some.inj hm
      refine pw_ri (pc := 17) d206_17 t206 rfl ?_
      exact hE
    · rw [if_neg c2] at hm
      refine pw_l (pc := 8) d206_8 rfl rfl rfl ?_
      refine pw_l (pc := 9) d206_9 rfl rfl rfl ?_
      obtain ⟨q3, e_q3, hm⟩ := ob_x hm
      refine pw_v (pc := 10) (k := l0) (by omega) d206_10 (k206_296 b) (by decide) m195 (by decide) rfl (sho s_h f_l0) (Nat.le_of_ble_eq_true rfl) (Nat.le_of_ble_eq_true rfl) rfl rfl (T_m_isWordOf b L xs (d - 1) (by omega) h s_h l0 l2 f_l0 e_q3) (fun v0 h0 hq => ?_)
      obtain ⟨rfl, hh0, s_q3⟩ := hq
      rw [hh0] at s_q3 ⊢
      simp only [Option.toList_some, List.cons_append, List.nil_append]
      refine pw_zne (pc := 13) (t := 18) d206_13 (by decide) (fun c4 => ?_) (fun c4 => ?_)
      · rw [if_pos c4] at hm
        refine pw_l (pc := 18) d206_18 rfl rfl rfl ?_
        obtain ⟨y5, e_y5, hm⟩ := ob_x hm
        have f_y5 := gA_x e_y5
        refine pw_gr (pc := 19) d206_19 (k206_39 b) (sho s_h f_l0) f10_20 f_y5.1 ?_
        refine pw_s (pc := 22) d206_22 rfl rfl ?_
        refine pw_s (pc := 24) d206_24 rfl rfl ?_
        refine pw_l (pc := 26) d206_26 rfl rfl rfl ?_
        refine pw_s (pc := 27) d206_27 rfl rfl ?_
        refine pw_s (pc := 28) d206_28 rfl rfl ?_
        refine pw_l (pc := 29) d206_29 rfl rfl rfl ?_
        refine pw_s (pc := 30) d206_30 rfl rfl ?_
        obtain ⟨g6, hm⟩ := gd_x hm
        refine pw_ai (pc := 31) d206_31 (sha s_h f_y5.2) (mi_in_x g6) ?_
        refine pw_t (pc := 32) d206_32 rfl rfl rfl rfl ?_
        refine pw_l (pc := 33) d206_33 rfl rfl rfl ?_
        refine pw_zge (pc := 34) (t := 42) d206_34 (by decide) (fun c7 => ?_) (fun c7 => ?_)
        · rw [if_pos c7] at hm
          refine pw_l (pc := 42) d206_42 rfl rfl rfl ?_
          obtain rfl := Option.some.inj hm
          refine pw_ri (pc := 43) d206_43 t206 rfl ?_
          exact hE
        · rw [if_neg c7] at hm
          refine pw_s (pc := 37) d206_37 rfl rfl ?_
          refine pw_go (pc := 39) (t := 43) d206_39 (by decide) ?_
          obtain rfl := Option.some.inj hm
          refine pw_ri (pc := 43) d206_43 t206 rfl ?_
          exact hE
      · rw [if_neg c4] at hm
        refine pw_s (pc := 16) d206_16 rfl rfl ?_
        obtain rfl := Option.some.inj hm
        refine pw_ri (pc := 17) d206_17 t206 rfl ?_
        exact hE
  exact key _ ⟨rfl, rfl, s_h⟩
def E_m_becomesMeaning_60 (b : Bool) (L : Nat) (xs : Nat → Int32) (d : Nat) (Q : Option Value → pm_H → Prop) (l0 : Nat) : ((Int32 × pm_H) ⊕ pm_H) → Prop
  | .inl s => s.2.1 = tb_SH → ∀ w1 w2 : Value, PW b L xs d 207 0 0 60 [(Value.ref l0), w1, w2, (Value.int s.1)] [] s.2 Q
  | .inr e => e.1 = tb_SH → ∀ w1 w2 w3 : Value, PW b L xs d 207 0 0 90 [(Value.ref l0), w1, w2, w3] [] e Q
def E_m_becomesMeaning_2 (b : Bool) (L : Nat) (xs : Nat → Int32) (d : Nat) (Q : Option Value → pm_H → Prop) (l0 : Nat) : ((Int32 × pm_H) ⊕ pm_H) → Prop
  | .inl s => s.2.1 = tb_SH → ∀ w2 w3 : Value, PW b L xs d 207 0 0 2 [(Value.ref l0), (Value.int s.1), w2, w3] [] s.2 Q
  | .inr e => e.1 = tb_SH → ∀ w0 w1 w2 w3 : Value, PW b L xs d 207 0 0 105 [w0, w1, w2, w3] [] e Q
noncomputable def m_becomesMeaning_60 (l0 : Nat) (l3 : Int32) (h : pm_H) : Option ((Int32 × pm_H) ⊕ pm_H) := if (h.2.1 l0 23) ≤ (l3 + (Int32.ofInt 1)) then (some (.inr h)) else ((gA h l0 22 .int).bind fun y2 => (gA h l0 22 .int).bind fun y3 => if mi_in (l3 + (Int32.ofInt 1)) (mi_n y3) = true then if mi_in l3 (mi_n y2) = true then bd (pm_setI h y2 l3.toNatClampNeg (h.2.1 y3 (l3 + (Int32.ofInt 1)).toNatClampNeg)) fun h6 => some (.inl ((l3 + Int32.ofInt 1), h6)) else none else none)
theorem t_m_becomesMeaning_60 (b : Bool) (L : Nat) (xs : Nat → Int32) (d : Nat) (hd : 0 ≤ d) {Q : Option Value → pm_H → Prop} (h : pm_H) (s_h : h.1 = tb_SH) (l0 : Nat) (l3 : Int32) (w1 : Value) (w2 : Value) (f_l0 : mi_o l0 10 = true) {r : ((Int32 × pm_H) ⊕ pm_H)} (hm : m_becomesMeaning_60 l0 l3 h = some r) (hE : E_m_becomesMeaning_60 b L xs d Q l0 r) : PW b L xs d 207 0 0 60 [(Value.ref l0), w1, w2, (Value.int l3)] [] h Q := by
  rw [m_becomesMeaning_60] at hm
  refine pw_l (pc := 60) d207_60 rfl rfl rfl ?_
  refine pw_s (pc := 61) d207_61 rfl rfl ?_
  refine pw_s (pc := 62) d207_62 rfl rfl ?_
  refine pw_l (pc := 63) d207_63 rfl rfl rfl ?_
  refine pw_gi (pc := 64) d207_64 (k207_299 b) (sho s_h f_l0) f10_23 ?_
  refine pw_ige (pc := 67) (t := 90) d207_67 (by decide) (fun c1 => ?_) (fun c1 => ?_)
  · rw [if_pos c1] at hm
    obtain rfl := Option.some.inj hm
    exact hE s_h  w1 w2 (Value.int l3)
  · rw [if_neg c1] at hm
    refine pw_l (pc := 70) d207_70 rfl rfl rfl ?_
    obtain ⟨y2, e_y2, hm⟩ := ob_x hm
    have f_y2 := gA_x e_y2
    refine pw_gr (pc := 71) d207_71 (k207_42 b) (sho s_h f_l0) f10_22 f_y2.1 ?_
    refine pw_l (pc := 74) d207_74 rfl rfl rfl ?_
    refine pw_l (pc := 75) d207_75 rfl rfl rfl ?_
    obtain ⟨y3, e_y3, hm⟩ := ob_x hm
    have f_y3 := gA_x e_y3
    refine pw_gr (pc := 76) d207_76 (k207_42 b) (sho s_h f_l0) f10_22 f_y3.1 ?_
    refine pw_l (pc := 79) d207_79 rfl rfl rfl ?_
    refine pw_s (pc := 80) d207_80 rfl rfl ?_
    refine pw_s (pc := 81) d207_81 rfl rfl ?_
    obtain ⟨g4, hm⟩ := gd_x hm
    refine pw_ai (pc := 82) d207_82 (sha s_h f_y3.2) (mi_in_x g4) ?_
    obtain ⟨g5, hm⟩ := gd_x hm
    refine pw_si (pc := 83) d207_83 (sha s_h f_y2.2) (mi_in_x g5) ?_
    obtain ⟨h6, e_h6, hm⟩ := bd_x hm
    rw [e_h6]
    have s_h6 : h6.1 = tb_SH := by rw [← e_h6]; exact s_h
    refine pw_t (pc := 84) d207_84 rfl rfl rfl (n := 3) (ls' := [(Value.ref l0), w1, (mi_w w2), (Value.int (l3 + Int32.ofInt 1))]) (st' := []) (by by_cases hw : Value.category w2 = 2 <;> simp [pm_sto, pm_sI, pm_sL, pm_sA, pm_inc, pm_st1, pm_st2, pm_pre, mi_w, hw] <;> first | done | exact ⟨by decide, rfl⟩ | rfl) ?_
    refine pw_go (pc := 87) (t := 60) d207_87 (by decide) ?_
    obtain rfl := Option.some.inj hm
    exact hE s_h6  w1 (mi_w w2)
noncomputable def m_becomesMeaning_2 (l0 : Nat) (l1 : Int32) (h : pm_H) : Option ((Int32 × pm_H) ⊕ pm_H) := if (h.2.1 l0 23) ≤ (l1 + (Int32.ofInt 1)) then (some (.inr h)) else ((gA h l0 20 .int).bind fun y2 => (gA h l0 22 .int).bind fun y3 => if mi_in l1 (mi_n y3) = true then (gA h l0 22 .int).bind fun y5 => if mi_in (l1 + (Int32.ofInt 1)) (mi_n y5) = true then if mi_in (((Int8.ofInt 106).toInt32 + ((Int8.ofInt 10).toInt32 * (h.2.1 y3 l1.toNatClampNeg))) + (h.2.1 y5 (l1 + (Int32.ofInt 1)).toNatClampNeg)) (mi_n y2) = true then if 0 ≤ (h.2.1 y2 (((Int8.ofInt 106).toInt32 + ((Int8.ofInt 10).toInt32 * (h.2.1 y3 l1.toNatClampNeg))) + (h.2.1 y5 (l1 + (Int32.ofInt 1)).toNatClampNeg)).toNatClampNeg) then ((gA h l0 22 .int).bind fun y9 => if mi_in l1 (mi_n y9) = true then bd (pm_setI h y9 l1.toNatClampNeg (h.2.1 y2 (((Int8.ofInt 106).toInt32 + ((Int8.ofInt 10).toInt32 * (h.2.1 y3 l1.toNatClampNeg))) + (h.2.1 y5 (l1 + (Int32.ofInt 1)).toNatClampNeg)).toNatClampNeg)) fun h11 => (wh (fun s : (Int32 × pm_H) => m_becomesMeaning_60 l0 s.1 s.2) ((l1 + (Int32.ofInt 1)), h11)).bind fun q12 => bd (pm_setI q12 l0 23 ((q12.2.1 l0 23) - (Int32.ofInt 1))) fun h13 => some (.inl ((Int32.ofInt 0), h13)) else none) else (some (.inl ((l1 + Int32.ofInt 1), h))) else none else none else none)
theorem t_m_becomesMeaning_2 (b : Bool) (L : Nat) (xs : Nat → Int32) (d : Nat) (hd : 0 ≤ d) {Q : Option Value → pm_H → Prop} (h : pm_H) (s_h : h.1 = tb_SH) (l0 : Nat) (l1 : Int32) (w2 : Value) (w3 : Value) (f_l0 : mi_o l0 10 = true) {r : ((Int32 × pm_H) ⊕ pm_H)} (hm : m_becomesMeaning_2 l0 l1 h = some r) (hE : E_m_becomesMeaning_2 b L xs d Q l0 r) : PW b L xs d 207 0 0 2 [(Value.ref l0), (Value.int l1), w2, w3] [] h Q := by
  rw [m_becomesMeaning_2] at hm
  refine pw_l (pc := 2) d207_2 rfl rfl rfl ?_
  refine pw_s (pc := 3) d207_3 rfl rfl ?_
  refine pw_s (pc := 4) d207_4 rfl rfl ?_
  refine pw_l (pc := 5) d207_5 rfl rfl rfl ?_
  refine pw_gi (pc := 6) d207_6 (k207_299 b) (sho s_h f_l0) f10_23 ?_
  refine pw_ige (pc := 9) (t := 105) d207_9 (by decide) (fun c1 => ?_) (fun c1 => ?_)
  · rw [if_pos c1] at hm
    obtain rfl := Option.some.inj hm
    exact hE s_h  (Value.ref l0) (Value.int l1) w2 w3
  · rw [if_neg c1] at hm
    refine pw_l (pc := 12) d207_12 rfl rfl rfl ?_
    obtain ⟨y2, e_y2, hm⟩ := ob_x hm
    have f_y2 := gA_x e_y2
    refine pw_gr (pc := 13) d207_13 (k207_39 b) (sho s_h f_l0) f10_20 f_y2.1 ?_
    refine pw_s (pc := 16) d207_16 rfl rfl ?_
    refine pw_s (pc := 18) d207_18 rfl rfl ?_
    refine pw_l (pc := 20) d207_20 rfl rfl rfl ?_
    obtain ⟨y3, e_y3, hm⟩ := ob_x hm
    have f_y3 := gA_x e_y3
    refine pw_gr (pc := 21) d207_21 (k207_42 b) (sho s_h f_l0) f10_22 f_y3.1 ?_
    refine pw_l (pc := 24) d207_24 rfl rfl rfl ?_
    obtain ⟨g4, hm⟩ := gd_x hm
    refine pw_ai (pc := 25) d207_25 (sha s_h f_y3.2) (mi_in_x g4) ?_
    refine pw_s (pc := 26) d207_26 rfl rfl ?_
    refine pw_s (pc := 27) d207_27 rfl rfl ?_
    refine pw_l (pc := 28) d207_28 rfl rfl rfl ?_
    obtain ⟨y5, e_y5, hm⟩ := ob_x hm
    have f_y5 := gA_x e_y5
    refine pw_gr (pc := 29) d207_29 (k207_42 b) (sho s_h f_l0) f10_22 f_y5.1 ?_
    refine pw_l (pc := 32) d207_32 rfl rfl rfl ?_
    refine pw_s (pc := 33) d207_33 rfl rfl ?_
    refine pw_s (pc := 34) d207_34 rfl rfl ?_
    obtain ⟨g6, hm⟩ := gd_x hm
    refine pw_ai (pc := 35) d207_35 (sha s_h f_y5.2) (mi_in_x g6) ?_
    refine pw_s (pc := 36) d207_36 rfl rfl ?_
    obtain ⟨g7, hm⟩ := gd_x hm
    refine pw_ai (pc := 37) d207_37 (sha s_h f_y2.2) (mi_in_x g7) ?_
    refine pw_t (pc := 38) d207_38 rfl rfl rfl rfl ?_
    refine pw_l (pc := 39) d207_39 rfl rfl rfl ?_
    refine pw_zge (pc := 40) (t := 49) d207_40 (by decide) (fun c8 => ?_) (fun c8 => ?_)
    · rw [if_pos c8] at hm
      refine pw_l (pc := 49) d207_49 rfl rfl rfl ?_
      obtain ⟨y9, e_y9, hm⟩ := ob_x hm
      have f_y9 := gA_x e_y9
      refine pw_gr (pc := 50) d207_50 (k207_42 b) (sho s_h f_l0) f10_22 f_y9.1 ?_
      refine pw_l (pc := 53) d207_53 rfl rfl rfl ?_
      refine pw_l (pc := 54) d207_54 rfl rfl rfl ?_
      obtain ⟨g10, hm⟩ := gd_x hm
      refine pw_si (pc := 55) d207_55 (sha s_h f_y9.2) (mi_in_x g10) ?_
      obtain ⟨h11, e_h11, hm⟩ := bd_x hm
      rw [e_h11]
      have s_h11 : h11.1 = tb_SH := by rw [← e_h11]; exact s_h
      refine pw_l (pc := 56) d207_56 rfl rfl rfl ?_
      refine pw_s (pc := 57) d207_57 rfl rfl ?_
      refine pw_s (pc := 58) d207_58 rfl rfl ?_
      refine pw_t (pc := 59) d207_59 rfl rfl rfl rfl ?_
      obtain ⟨q12, e_q12, hm⟩ := ob_x hm
      refine wh_ind e_q12 (fun s : (Int32 × pm_H) => s.2.1 = tb_SH → ∀ w1 w2 : Value, PW b L xs d 207 0 0 60 [(Value.ref l0), w1, w2, (Value.int s.1)] [] s.2 Q) (fun s s2 hf ih sx w1 w2 => t_m_becomesMeaning_60 b L xs d hd s.2 sx l0 s.1 w1 w2 f_l0 hf ih) (fun s hf sx w1 w2 => t_m_becomesMeaning_60 b L xs d hd s.2 sx l0 s.1 w1 w2 f_l0 hf ?_) s_h11  (Value.int l1) (Value.int (h.2.1 y2 (((Int8.ofInt 106).toInt32 + ((Int8.ofInt 10).toInt32 * (h.2.1 y3 l1.toNatClampNeg))) + (h.2.1 y5 (l1 + (Int32.ofInt 1)).toNatClampNeg)).toNatClampNeg))
      intro s_q12_0 w1 w2 w3
      refine pw_l (pc := 90) d207_90 rfl rfl rfl ?_
      refine pw_s (pc := 91) d207_91 rfl rfl ?_
      refine pw_gi (pc := 92) d207_92 (k207_299 b) (sho s_q12_0 f_l0) f10_23 ?_
      refine pw_s (pc := 95) d207_95 rfl rfl ?_
      refine pw_s (pc := 96) d207_96 rfl rfl ?_
      refine pw_pi (pc := 97) d207_97 (k207_299 b) (sho s_q12_0 f_l0) p207_10_23 ?_
      obtain ⟨h13, e_h13, hm⟩ := bd_x hm
      rw [e_h13]
      have s_h13 : h13.1 = tb_SH := by rw [← e_h13]; exact s_q12_0
      refine pw_s (pc := 100) d207_100 rfl rfl ?_
      refine pw_t (pc := 101) d207_101 rfl rfl rfl rfl ?_
      refine pw_go (pc := 102) (t := 2) d207_102 (by decide) ?_
      obtain rfl := Option.some.inj hm
      exact hE s_h13  w2 w3
    · rw [if_neg c8] at hm
      refine pw_t (pc := 43) d207_43 rfl rfl rfl rfl ?_
      refine pw_go (pc := 46) (t := 2) d207_46 (by decide) ?_
      obtain rfl := Option.some.inj hm
      exact hE s_h  (Value.int (h.2.1 y2 (((Int8.ofInt 106).toInt32 + ((Int8.ofInt 10).toInt32 * (h.2.1 y3 l1.toNatClampNeg))) + (h.2.1 y5 (l1 + (Int32.ofInt 1)).toNatClampNeg)).toNatClampNeg)) w3
noncomputable def m_becomesMeaning (l0 : Nat) (h : pm_H) : Option pm_H := (wh (fun s : (Int32 × pm_H) => m_becomesMeaning_2 l0 s.1 s.2) ((Int32.ofInt 0), h)).bind fun q1 => some q1
theorem T_m_becomesMeaning (b : Bool) (L : Nat) (xs : Nat → Int32) (d : Nat) (hd : 0 ≤ d) (h : pm_H) (s_h : h.1 = tb_SH) (l0 : Nat) (f_l0 : mi_o l0 10 = true) {r : pm_H} (hm : m_becomesMeaning l0 h = some r) : PC b L xs d 207 [(Value.ref l0)] h (fun (v0 : Option Value) (h2 : pm_H) => v0 = none ∧ h2 = r ∧ h2.1 = tb_SH) := by
  refine pc_in e207 (ls0 := [(Value.ref l0), Value.retAddr 0, Value.retAddr 0, Value.retAddr 0]) rfl ?_
  have key : ∀ (Q : Option Value → pm_H → Prop), (r.1 = tb_SH → Q none r) → PW b L xs d 207 0 0 0 [(Value.ref l0), Value.retAddr 0, Value.retAddr 0, Value.retAddr 0] [] h Q := by
    intro Q hE
    rw [m_becomesMeaning] at hm
    refine pw_s (pc := 0) d207_0 rfl rfl ?_
    refine pw_t (pc := 1) d207_1 rfl rfl rfl rfl ?_
    obtain ⟨q1, e_q1, hm⟩ := ob_x hm
    refine wh_ind e_q1 (fun s : (Int32 × pm_H) => s.2.1 = tb_SH → ∀ w2 w3 : Value, PW b L xs d 207 0 0 2 [(Value.ref l0), (Value.int s.1), w2, w3] [] s.2 Q) (fun s s2 hf ih sx w2 w3 => t_m_becomesMeaning_2 b L xs d hd s.2 sx l0 s.1 w2 w3 f_l0 hf ih) (fun s hf sx w2 w3 => t_m_becomesMeaning_2 b L xs d hd s.2 sx l0 s.1 w2 w3 f_l0 hf ?_) s_h  (Value.retAddr 0) (Value.retAddr 0)
    intro s_q1_0 w0 w1 w2 w3
    obtain rfl := Option.some.inj hm
    refine pw_rv (pc := 105) d207_105 t207 ?_
    exact hE s_q1_0
  exact key _ (fun q => ⟨rfl, rfl, q⟩)
def E_m_orderHeard_33 (b : Bool) (L : Nat) (xs : Nat → Int32) (d : Nat) (Q : Option Value → pm_H → Prop) (h : pm_H) (l0 : Nat) (l1 : Int32) : ((Int32 × Int32) ⊕ Int32) → Prop
  | .inl s => PW b L xs d 208 0 0 33 [(Value.ref l0), (Value.int l1), (Value.int s.1), (Value.int s.2)] [] h Q
  | .inr e => ∀ w3 : Value, PW b L xs d 208 0 0 74 [(Value.ref l0), (Value.int l1), (Value.int e), w3] [] h Q
def E_m_orderHeard_2 (b : Bool) (L : Nat) (xs : Nat → Int32) (d : Nat) (Q : Option Value → pm_H → Prop) (h : pm_H) (l0 : Nat) : (Int32 ⊕ Int32 ⊕ Unit) → Prop
  | .inl s => ∀ w2 w3 : Value, PW b L xs d 208 0 0 2 [(Value.ref l0), (Value.int s), w2, w3] [] h Q
  | .inr (.inl e) => ∀ w0 w2 w3 : Value, PW b L xs d 208 0 0 78 [w0, (Value.int e), w2, w3] [] h Q
  | .inr (.inr e) => ∀ w0 w1 w2 w3 : Value, PW b L xs d 208 0 0 86 [w0, w1, w2, w3] [] h Q
noncomputable def m_orderHeard_74 (l0 : Nat) (l1 : Int32) (l2 : Int32) (h : pm_H) : Option (Int32 ⊕ Int32 ⊕ Unit) := if l2 = 0 then (some (.inl (l1 + Int32.ofInt 1))) else (some (.inr (.inl l1)))
theorem t_m_orderHeard_74 (b : Bool) (L : Nat) (xs : Nat → Int32) (d : Nat) (hd : 1 ≤ d) {Q : Option Value → pm_H → Prop} (h : pm_H) (s_h : h.1 = tb_SH) (l0 : Nat) (l1 : Int32) (l2 : Int32) (w3 : Value) (f_l0 : mi_o l0 10 = true) {r : (Int32 ⊕ Int32 ⊕ Unit)} (hm : m_orderHeard_74 l0 l1 l2 h = some r) (hE : E_m_orderHeard_2 b L xs d Q h l0 r) : PW b L xs d 208 0 0 74 [(Value.ref l0), (Value.int l1), (Value.int l2), w3] [] h Q := by
  rw [m_orderHeard_74] at hm
  refine pw_l (pc := 74) d208_74 rfl rfl rfl ?_
  refine pw_zeq (pc := 75) (t := 80) d208_75 (by decide) (fun c1 => ?_) (fun c1 => ?_)
  · rw [if_pos c1] at hm
    refine pw_t (pc := 80) d208_80 rfl rfl rfl rfl ?_
    refine pw_go (pc := 83) (t := 2) d208_83 (by decide) ?_
    obtain rfl := Option.some.inj hm
    exact hE   (Value.int l2) w3
  · rw [if_neg c1] at hm
    obtain rfl := Option.some.inj hm
    exact hE   (Value.ref l0) (Value.int l2) w3
noncomputable def m_orderHeard_67 (l0 : Nat) (l1 : Int32) (l3 : Int32) (z0 : Int32) (h : pm_H) : Option ((Int32 × Int32) ⊕ Int32) := some (.inl (z0, (l3 + Int32.ofInt 1)))
theorem t_m_orderHeard_67 (b : Bool) (L : Nat) (xs : Nat → Int32) (d : Nat) (hd : 1 ≤ d) {Q : Option Value → pm_H → Prop} (h : pm_H) (s_h : h.1 = tb_SH) (l0 : Nat) (l1 : Int32) (l3 : Int32) (z0 : Int32) (w2 : Value) (f_l0 : mi_o l0 10 = true) {r : ((Int32 × Int32) ⊕ Int32)} (hm : m_orderHeard_67 l0 l1 l3 z0 h = some r) (hE : E_m_orderHeard_33 b L xs d Q h l0 l1 r) : PW b L xs d 208 0 0 67 [(Value.ref l0), (Value.int l1), w2, (Value.int l3)] [(Value.int z0)] h Q := by
  rw [m_orderHeard_67] at hm
  refine pw_t (pc := 67) d208_67 rfl rfl rfl rfl ?_
  refine pw_t (pc := 68) d208_68 rfl rfl rfl rfl ?_
  refine pw_go (pc := 71) (t := 33) d208_71 (by decide) ?_
  obtain rfl := Option.some.inj hm
  exact hE   
noncomputable def m_orderHeard_33 (l0 : Nat) (l1 : Int32) (l2 : Int32) (l3 : Int32) (h : pm_H) : Option ((Int32 × Int32) ⊕ Int32) := if (h.2.1 l0 23) ≤ l3 then (some (.inr l2)) else (if l2 = 0 then (some (.inr l2)) else ((m_orderOf l0 l1 ((Int32.ofInt 2) + l3) h).bind fun q3 => (gA h l0 22 .int).bind fun y4 => if mi_in l3 (mi_n y4) = true then if ¬ q3 = (h.2.1 y4 l3.toNatClampNeg) then (m_orderHeard_67 l0 l1 l3 (Int32.ofInt 0) h) else (m_orderHeard_67 l0 l1 l3 (Int32.ofInt 1) h) else none))
theorem t_m_orderHeard_33 (b : Bool) (L : Nat) (xs : Nat → Int32) (d : Nat) (hd : 1 ≤ d) {Q : Option Value → pm_H → Prop} (h : pm_H) (s_h : h.1 = tb_SH) (l0 : Nat) (l1 : Int32) (l2 : Int32) (l3 : Int32) (f_l0 : mi_o l0 10 = true) {r : ((Int32 × Int32) ⊕ Int32)} (hm : m_orderHeard_33 l0 l1 l2 l3 h = some r) (hE : E_m_orderHeard_33 b L xs d Q h l0 l1 r) : PW b L xs d 208 0 0 33 [(Value.ref l0), (Value.int l1), (Value.int l2), (Value.int l3)] [] h Q := by
  rw [m_orderHeard_33] at hm
  refine pw_l (pc := 33) d208_33 rfl rfl rfl ?_
  refine pw_l (pc := 34) d208_34 rfl rfl rfl ?_
  refine pw_gi (pc := 35) d208_35 (k208_299 b) (sho s_h f_l0) f10_23 ?_
  refine pw_ige (pc := 38) (t := 74) d208_38 (by decide) (fun c1 => ?_) (fun c1 => ?_)
  · rw [if_pos c1] at hm
    obtain rfl := Option.some.inj hm
    exact hE   (Value.int l3)
  · rw [if_neg c1] at hm
    refine pw_l (pc := 41) d208_41 rfl rfl rfl ?_
    refine pw_zeq (pc := 42) (t := 74) d208_42 (by decide) (fun c2 => ?_) (fun c2 => ?_)
    · rw [if_pos c2] at hm
      obtain rfl := Option.some.inj hm
      exact hE   (Value.int l3)
    · rw [if_neg c2] at hm
      refine pw_l (pc := 45) d208_45 rfl rfl rfl ?_
      refine pw_l (pc := 46) d208_46 rfl rfl rfl ?_
      refine pw_s (pc := 47) d208_47 rfl rfl ?_
      refine pw_l (pc := 48) d208_48 rfl rfl rfl ?_
      refine pw_s (pc := 49) d208_49 rfl rfl ?_
      obtain ⟨q3, e_q3, hm⟩ := ob_x hm
      refine pw_v (pc := 50) (k := l0) (by omega) d208_50 (k208_293 b) (by decide) m203 (by decide) rfl (sho s_h f_l0) (Nat.le_of_ble_eq_true rfl) (Nat.le_of_ble_eq_true rfl) rfl rfl (T_m_orderOf b L xs (d - 1) (by omega) h s_h l0 l1 ((Int32.ofInt 2) + l3) f_l0 e_q3) (fun v0 h0 hq => ?_)
      obtain ⟨rfl, hh0, s_q3⟩ := hq
      rw [hh0] at s_q3 ⊢
      simp only [Option.toList_some, List.cons_append, List.nil_append]
      refine pw_l (pc := 53) d208_53 rfl rfl rfl ?_
      obtain ⟨y4, e_y4, hm⟩ := ob_x hm
      have f_y4 := gA_x e_y4
      refine pw_gr (pc := 54) d208_54 (k208_42 b) (sho s_h f_l0) f10_22 f_y4.1 ?_
      refine pw_l (pc := 57) d208_57 rfl rfl rfl ?_
      obtain ⟨g5, hm⟩ := gd_x hm
      refine pw_ai (pc := 58) d208_58 (sha s_h f_y4.2) (mi_in_x g5) ?_
      refine pw_ine (pc := 59) (t := 66) d208_59 (by decide) (fun c6 => ?_) (fun c6 => ?_)
      · rw [if_pos c6] at hm
        refine pw_s (pc := 66) d208_66 rfl rfl ?_
        exact t_m_orderHeard_67 b L xs d hd h s_h l0 l1 l3 (Int32.ofInt 0) (Value.int l2) f_l0  hm hE
      · rw [if_neg c6] at hm
        refine pw_s (pc := 62) d208_62 rfl rfl ?_
        refine pw_go (pc := 63) (t := 67) d208_63 (by decide) ?_
        exact t_m_orderHeard_67 b L xs d hd h s_h l0 l1 l3 (Int32.ofInt 1) (Value.int l2) f_l0  hm hE
noncomputable def m_orderHeard_30 (l0 : Nat) (l1 : Int32) (z0 : Int32) (h : pm_H) : Option (Int32 ⊕ Int32 ⊕ Unit) := (wh (fun s : (Int32 × Int32) => m_orderHeard_33 l0 l1 s.1 s.2 h) (z0, (Int32.ofInt 0))).bind fun q1 => m_orderHeard_74 l0 l1 q1 h
theorem t_m_orderHeard_30 (b : Bool) (L : Nat) (xs : Nat → Int32) (d : Nat) (hd : 1 ≤ d) {Q : Option Value → pm_H → Prop} (h : pm_H) (s_h : h.1 = tb_SH) (l0 : Nat) (l1 : Int32) (z0 : Int32) (w2 : Value) (w3 : Value) (f_l0 : mi_o l0 10 = true) {r : (Int32 ⊕ Int32 ⊕ Unit)} (hm : m_orderHeard_30 l0 l1 z0 h = some r) (hE : E_m_orderHeard_2 b L xs d Q h l0 r) : PW b L xs d 208 0 0 30 [(Value.ref l0), (Value.int l1), w2, w3] [(Value.int z0)] h Q := by
  rw [m_orderHeard_30] at hm
  refine pw_t (pc := 30) d208_30 rfl rfl rfl rfl ?_
  refine pw_s (pc := 31) d208_31 rfl rfl ?_
  refine pw_t (pc := 32) d208_32 rfl rfl rfl rfl ?_
  obtain ⟨q1, e_q1, hm⟩ := ob_x hm
  refine wh_ind e_q1 (fun s : (Int32 × Int32) => PW b L xs d 208 0 0 33 [(Value.ref l0), (Value.int l1), (Value.int s.1), (Value.int s.2)] [] h Q) (fun s s2 hf ih  => t_m_orderHeard_33 b L xs d hd h s_h l0 l1 s.1 s.2  f_l0 hf ih) (fun s hf  => t_m_orderHeard_33 b L xs d hd h s_h l0 l1 s.1 s.2  f_l0 hf ?_)   
  intro w3
  exact t_m_orderHeard_74 b L xs d hd h s_h l0 l1 q1 w3 f_l0  hm hE
noncomputable def m_orderHeard_2 (l0 : Nat) (l1 : Int32) (h : pm_H) : Option (Int32 ⊕ Int32 ⊕ Unit) := (gA h l0 20 .int).bind fun y1 => if mi_in (Int32.ofInt 2) (mi_n y1) = true then if (h.2.1 y1 (Int32.ofInt 2).toNatClampNeg) ≤ l1 then (some (.inr (.inr ()))) else ((m_orderOf l0 l1 (Int32.ofInt 1) h).bind fun q4 => if ¬ q4 = (h.2.1 l0 23) then (m_orderHeard_30 l0 l1 (Int32.ofInt 0) h) else (m_orderHeard_30 l0 l1 (Int32.ofInt 1) h)) else none
theorem t_m_orderHeard_2 (b : Bool) (L : Nat) (xs : Nat → Int32) (d : Nat) (hd : 1 ≤ d) {Q : Option Value → pm_H → Prop} (h : pm_H) (s_h : h.1 = tb_SH) (l0 : Nat) (l1 : Int32) (w2 : Value) (w3 : Value) (f_l0 : mi_o l0 10 = true) {r : (Int32 ⊕ Int32 ⊕ Unit)} (hm : m_orderHeard_2 l0 l1 h = some r) (hE : E_m_orderHeard_2 b L xs d Q h l0 r) : PW b L xs d 208 0 0 2 [(Value.ref l0), (Value.int l1), w2, w3] [] h Q := by
  rw [m_orderHeard_2] at hm
  refine pw_l (pc := 2) d208_2 rfl rfl rfl ?_
  refine pw_l (pc := 3) d208_3 rfl rfl rfl ?_
  obtain ⟨y1, e_y1, hm⟩ := ob_x hm
  have f_y1 := gA_x e_y1
  refine pw_gr (pc := 4) d208_4 (k208_39 b) (sho s_h f_l0) f10_20 f_y1.1 ?_
  refine pw_s (pc := 7) d208_7 rfl rfl ?_
  obtain ⟨g2, hm⟩ := gd_x hm
  refine pw_ai (pc := 8) d208_8 (sha s_h f_y1.2) (mi_in_x g2) ?_
  refine pw_ige (pc := 9) (t := 86) d208_9 (by decide) (fun c3 => ?_) (fun c3 => ?_)
  · rw [if_pos c3] at hm
    obtain rfl := Option.some.inj hm
    exact hE   (Value.ref l0) (Value.int l1) w2 w3
  · rw [if_neg c3] at hm
    refine pw_l (pc := 12) d208_12 rfl rfl rfl ?_
    refine pw_l (pc := 13) d208_13 rfl rfl rfl ?_
    refine pw_s (pc := 14) d208_14 rfl rfl ?_
    obtain ⟨q4, e_q4, hm⟩ := ob_x hm
    refine pw_v (pc := 15) (k := l0) (by omega) d208_15 (k208_293 b) (by decide) m203 (by decide) rfl (sho s_h f_l0) (Nat.le_of_ble_eq_true rfl) (Nat.le_of_ble_eq_true rfl) rfl rfl (T_m_orderOf b L xs (d - 1) (by omega) h s_h l0 l1 (Int32.ofInt 1) f_l0 e_q4) (fun v0 h0 hq => ?_)
    obtain ⟨rfl, hh0, s_q4⟩ := hq
    rw [hh0] at s_q4 ⊢
    simp only [Option.toList_some, List.cons_append, List.nil_append]
    refine pw_l (pc := 18) d208_18 rfl rfl rfl ?_
    refine pw_gi (pc := 19) d208_19 (k208_299 b) (sho s_h f_l0) f10_23 ?_
    refine pw_ine (pc := 22) (t := 29) d208_22 (by decide) (fun c5 => ?_) (fun c5 => ?_)
    · rw [if_pos c5] at hm
      refine pw_s (pc := 29) d208_29 rfl rfl ?_
      exact t_m_orderHeard_30 b L xs d hd h s_h l0 l1 (Int32.ofInt 0) w2 w3 f_l0  hm hE
    · rw [if_neg c5] at hm
      refine pw_s (pc := 25) d208_25 rfl rfl ?_
      refine pw_go (pc := 26) (t := 30) d208_26 (by decide) ?_
      exact t_m_orderHeard_30 b L xs d hd h s_h l0 l1 (Int32.ofInt 1) w2 w3 f_l0  hm hE
noncomputable def m_orderHeard (l0 : Nat) (h : pm_H) : Option Int32 := (wh (fun s : Int32 => m_orderHeard_2 l0 s h) (Int32.ofInt 0)).bind fun q1 => (match q1 with | (.inl eq1_0) => some eq1_0 | (.inr eq1_1) => some (Int32.ofInt (-1)))
theorem T_m_orderHeard (b : Bool) (L : Nat) (xs : Nat → Int32) (d : Nat) (hd : 1 ≤ d) (h : pm_H) (s_h : h.1 = tb_SH) (l0 : Nat) (f_l0 : mi_o l0 10 = true) {r : Int32} (hm : m_orderHeard l0 h = some r) : PC b L xs d 208 [(Value.ref l0)] h (fun (v0 : Option Value) (h2 : pm_H) => v0 = (some (Value.int r)) ∧ h2 = h ∧ h2.1 = tb_SH) := by
  refine pc_in e208 (ls0 := [(Value.ref l0), Value.retAddr 0, Value.retAddr 0, Value.retAddr 0]) rfl ?_
  have key : ∀ (Q : Option Value → pm_H → Prop), (Q (some (Value.int r)) h) → PW b L xs d 208 0 0 0 [(Value.ref l0), Value.retAddr 0, Value.retAddr 0, Value.retAddr 0] [] h Q := by
    intro Q hE
    rw [m_orderHeard] at hm
    refine pw_s (pc := 0) d208_0 rfl rfl ?_
    refine pw_t (pc := 1) d208_1 rfl rfl rfl rfl ?_
    obtain ⟨q1, e_q1, hm⟩ := ob_x hm
    refine wh_ind e_q1 (fun s : Int32 => ∀ w2 w3 : Value, PW b L xs d 208 0 0 2 [(Value.ref l0), (Value.int s), w2, w3] [] h Q) (fun s s2 hf ih w2 w3 => t_m_orderHeard_2 b L xs d hd h s_h l0 s w2 w3 f_l0 hf ih) (fun s hf w2 w3 => t_m_orderHeard_2 b L xs d hd h s_h l0 s w2 w3 f_l0 hf ?_)   (Value.retAddr 0) (Value.retAddr 0)
    rcases q1 with eq1_0 | eq1_1
    · dsimp only at hm
      intro w0 w2 w3
      refine pw_l (pc := 78) d208_78 rfl rfl rfl ?_
      obtain rfl := Option.some.inj hm
      refine pw_ri (pc := 79) d208_79 t208 rfl ?_
      exact hE
    · dsimp only at hm
      intro w0 w1 w2 w3
      refine pw_s (pc := 86) d208_86 rfl rfl ?_
      obtain rfl := Option.some.inj hm
      refine pw_ri (pc := 87) d208_87 t208 rfl ?_
      exact hE
  exact key _ ⟨rfl, rfl, s_h⟩
def E_m_ten_4 (b : Bool) (L : Nat) (xs : Nat → Int32) (d : Nat) (Q : Option Value → pm_H → Prop) (h : pm_H) (l0 : Int32) : ((Int32 × Int32) ⊕ Int32) → Prop
  | .inl s => PW b L xs d 209 0 0 4 [(Value.int l0), (Value.int s.1), (Value.int s.2)] [] h Q
  | .inr e => ∀ w0 w2 : Value, PW b L xs d 209 0 0 20 [w0, (Value.int e), w2] [] h Q
noncomputable def m_ten_4 (l0 : Int32) (l1 : Int32) (l2 : Int32) (h : pm_H) : Option ((Int32 × Int32) ⊕ Int32) := if l0 ≤ l2 then (some (.inr l1)) else (some (.inl ((l1 * (Int8.ofInt 10).toInt32), (l2 + Int32.ofInt 1))))
theorem t_m_ten_4 (b : Bool) (L : Nat) (xs : Nat → Int32) (d : Nat) (hd : 0 ≤ d) {Q : Option Value → pm_H → Prop} (h : pm_H) (s_h : h.1 = tb_SH) (l0 : Int32) (l1 : Int32) (l2 : Int32) {r : ((Int32 × Int32) ⊕ Int32)} (hm : m_ten_4 l0 l1 l2 h = some r) (hE : E_m_ten_4 b L xs d Q h l0 r) : PW b L xs d 209 0 0 4 [(Value.int l0), (Value.int l1), (Value.int l2)] [] h Q := by
  rw [m_ten_4] at hm
  refine pw_l (pc := 4) d209_4 rfl rfl rfl ?_
  refine pw_l (pc := 5) d209_5 rfl rfl rfl ?_
  refine pw_ige (pc := 6) (t := 20) d209_6 (by decide) (fun c1 => ?_) (fun c1 => ?_)
  · rw [if_pos c1] at hm
    obtain rfl := Option.some.inj hm
    exact hE   (Value.int l0) (Value.int l2)
  · rw [if_neg c1] at hm
    refine pw_l (pc := 9) d209_9 rfl rfl rfl ?_
    refine pw_s (pc := 10) d209_10 rfl rfl ?_
    refine pw_s (pc := 12) d209_12 rfl rfl ?_
    refine pw_t (pc := 13) d209_13 rfl rfl rfl rfl ?_
    refine pw_t (pc := 14) d209_14 rfl rfl rfl rfl ?_
    refine pw_go (pc := 17) (t := 4) d209_17 (by decide) ?_
    obtain rfl := Option.some.inj hm
    exact hE   
noncomputable def m_ten (l0 : Int32) (h : pm_H) : Option Int32 := (wh (fun s : (Int32 × Int32) => m_ten_4 l0 s.1 s.2 h) ((Int32.ofInt 1), (Int32.ofInt 0))).bind fun q1 => some q1
theorem T_m_ten (b : Bool) (L : Nat) (xs : Nat → Int32) (d : Nat) (hd : 0 ≤ d) (h : pm_H) (s_h : h.1 = tb_SH) (l0 : Int32) {r : Int32} (hm : m_ten l0 h = some r) : PC b L xs d 209 [(Value.int l0)] h (fun (v0 : Option Value) (h2 : pm_H) => v0 = (some (Value.int r)) ∧ h2 = h ∧ h2.1 = tb_SH) := by
  refine pc_in e209 (ls0 := [(Value.int l0), Value.retAddr 0, Value.retAddr 0]) rfl ?_
  have key : ∀ (Q : Option Value → pm_H → Prop), (Q (some (Value.int r)) h) → PW b L xs d 209 0 0 0 [(Value.int l0), Value.retAddr 0, Value.retAddr 0] [] h Q := by
    intro Q hE
    rw [m_ten] at hm
    refine pw_s (pc := 0) d209_0 rfl rfl ?_
    refine pw_t (pc := 1) d209_1 rfl rfl rfl rfl ?_
    refine pw_s (pc := 2) d209_2 rfl rfl ?_
    refine pw_t (pc := 3) d209_3 rfl rfl rfl rfl ?_
    obtain ⟨q1, e_q1, hm⟩ := ob_x hm
    refine wh_ind e_q1 (fun s : (Int32 × Int32) => PW b L xs d 209 0 0 4 [(Value.int l0), (Value.int s.1), (Value.int s.2)] [] h Q) (fun s s2 hf ih  => t_m_ten_4 b L xs d hd h s_h l0 s.1 s.2   hf ih) (fun s hf  => t_m_ten_4 b L xs d hd h s_h l0 s.1 s.2   hf ?_)   
    intro w0 w2
    refine pw_l (pc := 20) d209_20 rfl rfl rfl ?_
    obtain rfl := Option.some.inj hm
    refine pw_ri (pc := 21) d209_21 t209 rfl ?_
    exact hE
  exact key _ ⟨rfl, rfl, s_h⟩
noncomputable def m_isRowOf (l0 : Int32) (l1 : Int32) (h : pm_H) : Option Int32 := (m_in l1.toInt64 (Int64.ofNat 1) (5 : Int64) h).bind fun q1 => if q1 = 0 then (some (Int32.ofInt 0)) else (if l0 < 0 then (some (Int32.ofInt 0)) else ((m_ten l1 h).bind fun q4 => if q4 ≤ l0 then (some (Int32.ofInt 0)) else (some (Int32.ofInt 1))))
theorem T_m_isRowOf (b : Bool) (L : Nat) (xs : Nat → Int32) (d : Nat) (hd : 1 ≤ d) (h : pm_H) (s_h : h.1 = tb_SH) (l0 : Int32) (l1 : Int32) {r : Int32} (hm : m_isRowOf l0 l1 h = some r) : PC b L xs d 210 [(Value.int l0), (Value.int l1)] h (fun (v0 : Option Value) (h2 : pm_H) => v0 = (some (Value.int r)) ∧ h2 = h ∧ h2.1 = tb_SH) := by
  refine pc_in e210 (ls0 := [(Value.int l0), (Value.int l1)]) rfl ?_
  have key : ∀ (Q : Option Value → pm_H → Prop), (Q (some (Value.int r)) h) → PW b L xs d 210 0 0 0 [(Value.int l0), (Value.int l1)] [] h Q := by
    intro Q hE
    rw [m_isRowOf] at hm
    refine pw_l (pc := 0) d210_0 rfl rfl rfl ?_
    refine pw_s (pc := 1) d210_1 rfl rfl ?_
    refine pw_s (pc := 2) d210_2 rfl rfl ?_
    refine pw_cl (pc := 3) d210_3 (k210_291 b) ?_
    obtain ⟨q1, e_q1, hm⟩ := ob_x hm
    refine pw_u (pc := 6) (by omega) d210_6 (k210_112 b) (by decide) m148 (Nat.le_of_ble_eq_true rfl) (Nat.le_of_ble_eq_true rfl) (Nat.le_of_ble_eq_true rfl) rfl rfl (T_m_in b L xs (d - 1) (by omega) h s_h l1.toInt64 (Int64.ofNat 1) (5 : Int64)  e_q1) (fun v0 h0 hq => ?_)
    obtain ⟨rfl, hh0, s_q1⟩ := hq
    rw [hh0] at s_q1 ⊢
    simp only [Option.toList_some, List.cons_append, List.nil_append]
    refine pw_zeq (pc := 9) (t := 28) d210_9 (by decide) (fun c2 => ?_) (fun c2 => ?_)
    · rw [if_pos c2] at hm
      refine pw_s (pc := 28) d210_28 rfl rfl ?_
      obtain rfl := Option.some.inj hm
      refine pw_ri (pc := 29) d210_29 t210 rfl ?_
      exact hE
    · rw [if_neg c2] at hm
      refine pw_l (pc := 12) d210_12 rfl rfl rfl ?_
      refine pw_zlt (pc := 13) (t := 28) d210_13 (by decide) (fun c3 => ?_) (fun c3 => ?_)
      · rw [if_pos c3] at hm
        refine pw_s (pc := 28) d210_28 rfl rfl ?_
        obtain rfl := Option.some.inj hm
        refine pw_ri (pc := 29) d210_29 t210 rfl ?_
        exact hE
      · rw [if_neg c3] at hm
        refine pw_l (pc := 16) d210_16 rfl rfl rfl ?_
        refine pw_l (pc := 17) d210_17 rfl rfl rfl ?_
        obtain ⟨q4, e_q4, hm⟩ := ob_x hm
        refine pw_u (pc := 18) (by omega) d210_18 (k210_302 b) (by decide) m209 (Nat.le_of_ble_eq_true rfl) (Nat.le_of_ble_eq_true rfl) (Nat.le_of_ble_eq_true rfl) rfl rfl (T_m_ten b L xs (d - 1) (by omega) h s_h l1  e_q4) (fun v0 h0 hq => ?_)
        obtain ⟨rfl, hh0, s_q4⟩ := hq
        rw [hh0] at s_q4 ⊢
        simp only [Option.toList_some, List.cons_append, List.nil_append]
        refine pw_ige (pc := 21) (t := 28) d210_21 (by decide) (fun c5 => ?_) (fun c5 => ?_)
        · rw [if_pos c5] at hm
          refine pw_s (pc := 28) d210_28 rfl rfl ?_
          obtain rfl := Option.some.inj hm
          refine pw_ri (pc := 29) d210_29 t210 rfl ?_
          exact hE
        · rw [if_neg c5] at hm
          refine pw_s (pc := 24) d210_24 rfl rfl ?_
          refine pw_go (pc := 25) (t := 29) d210_25 (by decide) ?_
          obtain rfl := Option.some.inj hm
          refine pw_ri (pc := 29) d210_29 t210 rfl ?_
          exact hE
  exact key _ ⟨rfl, rfl, s_h⟩
noncomputable def m_digit (l0 : Int32) (l1 : Int32) (l2 : Int32) (h : pm_H) : Option Int32 := (m_ten ((l1 - (Int32.ofInt 1)) - l2) h).bind fun q1 => if mi_nz q1 = true then some ((l0 / q1) - (l0 / q1) / (Int8.ofInt 10).toInt32 * (Int8.ofInt 10).toInt32) else none
theorem T_m_digit (b : Bool) (L : Nat) (xs : Nat → Int32) (d : Nat) (hd : 1 ≤ d) (h : pm_H) (s_h : h.1 = tb_SH) (l0 : Int32) (l1 : Int32) (l2 : Int32) {r : Int32} (hm : m_digit l0 l1 l2 h = some r) : PC b L xs d 211 [(Value.int l0), (Value.int l1), (Value.int l2)] h (fun (v0 : Option Value) (h2 : pm_H) => v0 = (some (Value.int r)) ∧ h2 = h ∧ h2.1 = tb_SH) := by
  refine pc_in e211 (ls0 := [(Value.int l0), (Value.int l1), (Value.int l2)]) rfl ?_
  have key : ∀ (Q : Option Value → pm_H → Prop), (Q (some (Value.int r)) h) → PW b L xs d 211 0 0 0 [(Value.int l0), (Value.int l1), (Value.int l2)] [] h Q := by
    intro Q hE
    rw [m_digit] at hm
    refine pw_l (pc := 0) d211_0 rfl rfl rfl ?_
    refine pw_l (pc := 1) d211_1 rfl rfl rfl ?_
    refine pw_s (pc := 2) d211_2 rfl rfl ?_
    refine pw_s (pc := 3) d211_3 rfl rfl ?_
    refine pw_l (pc := 4) d211_4 rfl rfl rfl ?_
    refine pw_s (pc := 5) d211_5 rfl rfl ?_
    obtain ⟨q1, e_q1, hm⟩ := ob_x hm
    refine pw_u (pc := 6) (by omega) d211_6 (k211_302 b) (by decide) m209 (Nat.le_of_ble_eq_true rfl) (Nat.le_of_ble_eq_true rfl) (Nat.le_of_ble_eq_true rfl) rfl rfl (T_m_ten b L xs (d - 1) (by omega) h s_h ((l1 - (Int32.ofInt 1)) - l2)  e_q1) (fun v0 h0 hq => ?_)
    obtain ⟨rfl, hh0, s_q1⟩ := hq
    rw [hh0] at s_q1 ⊢
    simp only [Option.toList_some, List.cons_append, List.nil_append]
    obtain ⟨g2, hm⟩ := gd_x hm
    refine pw_di (pc := 9) d211_9 (mi_nz_x g2) ?_
    refine pw_s (pc := 10) d211_10 rfl rfl ?_
    refine pw_re (pc := 12) d211_12 (by decide) ?_
    obtain rfl := Option.some.inj hm
    refine pw_ri (pc := 13) d211_13 t211 rfl ?_
    exact hE
  exact key _ ⟨rfl, rfl, s_h⟩
def E_m_meaning_71 (b : Bool) (L : Nat) (xs : Nat → Int32) (d : Nat) (Q : Option Value → pm_H → Prop) (l0 : Nat) : ((Int32 × Int32 × pm_H) ⊕ (Int32 × pm_H)) → Prop
  | .inl s => s.2.2.1 = tb_SH → ∀ w1 w2 : Value, PW b L xs d 212 0 0 71 [(Value.ref l0), w1, w2, (Value.int s.1), (Value.int s.2.1)] [] s.2.2 Q
  | .inr e => e.2.1 = tb_SH → ∀ w0 w1 w2 w4 : Value, PW b L xs d 212 0 0 99 [w0, w1, w2, (Value.int e.1), w4] [] e.2 Q
def E_m_meaning_19 (b : Bool) (L : Nat) (xs : Nat → Int32) (d : Nat) (Q : Option Value → pm_H → Prop) (l0 : Nat) (l1 : Int32) (l2 : Int32) : ((Int32 × pm_H) ⊕ pm_H ⊕ pm_H) → Prop
  | .inl s => s.2.1 = tb_SH → ∀ w4 : Value, PW b L xs d 212 0 0 19 [(Value.ref l0), (Value.int l1), (Value.int l2), (Value.int s.1), w4] [] s.2 Q
  | .inr (.inl e) => e.1 = tb_SH → ∀ w0 w1 w2 w3 w4 : Value, PW b L xs d 212 0 0 49 [w0, w1, w2, w3, w4] [] e Q
  | .inr (.inr e) => e.1 = tb_SH → ∀ w1 w3 w4 : Value, PW b L xs d 212 0 0 57 [(Value.ref l0), w1, (Value.int l2), w3, w4] [] e Q
noncomputable def m_meaning_71 (l0 : Nat) (l3 : Int32) (l4 : Int32) (h : pm_H) : Option ((Int32 × Int32 × pm_H) ⊕ (Int32 × pm_H)) := if (h.2.1 l0 23) ≤ l4 then (some (.inr (l3, h))) else ((gA h l0 22 .int).bind fun y2 => if mi_in l4 (mi_n y2) = true then some (.inl ((((Int8.ofInt 10).toInt32 * l3) + (h.2.1 y2 l4.toNatClampNeg)), (l4 + Int32.ofInt 1), h)) else none)
theorem t_m_meaning_71 (b : Bool) (L : Nat) (xs : Nat → Int32) (d : Nat) (hd : 2 ≤ d) {Q : Option Value → pm_H → Prop} (h : pm_H) (s_h : h.1 = tb_SH) (l0 : Nat) (l3 : Int32) (l4 : Int32) (w1 : Value) (w2 : Value) (f_l0 : mi_o l0 10 = true) {r : ((Int32 × Int32 × pm_H) ⊕ (Int32 × pm_H))} (hm : m_meaning_71 l0 l3 l4 h = some r) (hE : E_m_meaning_71 b L xs d Q l0 r) : PW b L xs d 212 0 0 71 [(Value.ref l0), w1, w2, (Value.int l3), (Value.int l4)] [] h Q := by
  rw [m_meaning_71] at hm
  refine pw_l (pc := 71) d212_71 rfl rfl rfl ?_
  refine pw_l (pc := 73) d212_73 rfl rfl rfl ?_
  refine pw_gi (pc := 74) d212_74 (k212_299 b) (sho s_h f_l0) f10_23 ?_
  refine pw_ige (pc := 77) (t := 99) d212_77 (by decide) (fun c1 => ?_) (fun c1 => ?_)
  · rw [if_pos c1] at hm
    obtain rfl := Option.some.inj hm
    exact hE s_h  (Value.ref l0) w1 w2 (Value.int l4)
  · rw [if_neg c1] at hm
    refine pw_s (pc := 80) d212_80 rfl rfl ?_
    refine pw_l (pc := 82) d212_82 rfl rfl rfl ?_
    refine pw_s (pc := 83) d212_83 rfl rfl ?_
    refine pw_l (pc := 84) d212_84 rfl rfl rfl ?_
    obtain ⟨y2, e_y2, hm⟩ := ob_x hm
    have f_y2 := gA_x e_y2
    refine pw_gr (pc := 85) d212_85 (k212_42 b) (sho s_h f_l0) f10_22 f_y2.1 ?_
    refine pw_l (pc := 88) d212_88 rfl rfl rfl ?_
    obtain ⟨g3, hm⟩ := gd_x hm
    refine pw_ai (pc := 90) d212_90 (sha s_h f_y2.2) (mi_in_x g3) ?_
    refine pw_s (pc := 91) d212_91 rfl rfl ?_
    refine pw_t (pc := 92) d212_92 rfl rfl rfl (n := 1) (ls' := [(Value.ref l0), w1, (mi_w w2), (Value.int (((Int8.ofInt 10).toInt32 * l3) + (h.2.1 y2 l4.toNatClampNeg))), (Value.int l4)]) (st' := []) (by by_cases hw : Value.category w2 = 2 <;> simp [pm_sto, pm_sI, pm_sL, pm_sA, pm_inc, pm_st1, pm_st2, pm_pre, mi_w, hw] <;> first | done | exact ⟨by decide, rfl⟩ | rfl) ?_
    refine pw_t (pc := 93) d212_93 rfl rfl rfl rfl ?_
    refine pw_go (pc := 96) (t := 71) d212_96 (by decide) ?_
    obtain rfl := Option.some.inj hm
    exact hE s_h  w1 (mi_w w2)
noncomputable def m_meaning_19 (l0 : Nat) (l1 : Int32) (l2 : Int32) (l3 : Int32) (h : pm_H) : Option ((Int32 × pm_H) ⊕ pm_H ⊕ pm_H) := if l2 ≤ l3 then (some (.inr (.inr h))) else ((gA h l0 22 .int).bind fun y2 => (m_digit l1 l2 l3 h).bind fun q3 => if mi_in l3 (mi_n y2) = true then bd (pm_setI h y2 l3.toNatClampNeg q3) fun h5 => (gA h5 l0 22 .int).bind fun y6 => if mi_in l3 (mi_n y6) = true then (m_isWordOf l0 (h5.2.1 y6 l3.toNatClampNeg) h5).bind fun q8 => if ¬ q8 = 0 then (some (.inl ((l3 + Int32.ofInt 1), h5))) else (some (.inr (.inl h5))) else none else none)
theorem t_m_meaning_19 (b : Bool) (L : Nat) (xs : Nat → Int32) (d : Nat) (hd : 2 ≤ d) {Q : Option Value → pm_H → Prop} (h : pm_H) (s_h : h.1 = tb_SH) (l0 : Nat) (l1 : Int32) (l2 : Int32) (l3 : Int32) (w4 : Value) (f_l0 : mi_o l0 10 = true) {r : ((Int32 × pm_H) ⊕ pm_H ⊕ pm_H)} (hm : m_meaning_19 l0 l1 l2 l3 h = some r) (hE : E_m_meaning_19 b L xs d Q l0 l1 l2 r) : PW b L xs d 212 0 0 19 [(Value.ref l0), (Value.int l1), (Value.int l2), (Value.int l3), w4] [] h Q := by
  rw [m_meaning_19] at hm
  refine pw_l (pc := 19) d212_19 rfl rfl rfl ?_
  refine pw_l (pc := 20) d212_20 rfl rfl rfl ?_
  refine pw_ige (pc := 21) (t := 57) d212_21 (by decide) (fun c1 => ?_) (fun c1 => ?_)
  · rw [if_pos c1] at hm
    obtain rfl := Option.some.inj hm
    exact hE s_h  (Value.int l1) (Value.int l3) w4
  · rw [if_neg c1] at hm
    refine pw_l (pc := 24) d212_24 rfl rfl rfl ?_
    obtain ⟨y2, e_y2, hm⟩ := ob_x hm
    have f_y2 := gA_x e_y2
    refine pw_gr (pc := 25) d212_25 (k212_42 b) (sho s_h f_l0) f10_22 f_y2.1 ?_
    refine pw_l (pc := 28) d212_28 rfl rfl rfl ?_
    refine pw_l (pc := 29) d212_29 rfl rfl rfl ?_
    refine pw_l (pc := 30) d212_30 rfl rfl rfl ?_
    refine pw_l (pc := 31) d212_31 rfl rfl rfl ?_
    obtain ⟨q3, e_q3, hm⟩ := ob_x hm
    refine pw_u (pc := 32) (by omega) d212_32 (k212_311 b) (by decide) m211 (Nat.le_of_ble_eq_true rfl) (Nat.le_of_ble_eq_true rfl) (Nat.le_of_ble_eq_true rfl) rfl rfl (T_m_digit b L xs (d - 1) (by omega) h s_h l1 l2 l3  e_q3) (fun v0 h0 hq => ?_)
    obtain ⟨rfl, hh0, s_q3⟩ := hq
    rw [hh0] at s_q3 ⊢
    simp only [Option.toList_some, List.cons_append, List.nil_append]
    obtain ⟨g4, hm⟩ := gd_x hm
    refine pw_si (pc := 35) d212_35 (sha s_h f_y2.2) (mi_in_x g4) ?_
    obtain ⟨h5, e_h5, hm⟩ := bd_x hm
    rw [e_h5]
    have s_h5 : h5.1 = tb_SH := by rw [← e_h5]; exact s_h
    refine pw_l (pc := 36) d212_36 rfl rfl rfl ?_
    refine pw_l (pc := 37) d212_37 rfl rfl rfl ?_
    obtain ⟨y6, e_y6, hm⟩ := ob_x hm
    have f_y6 := gA_x e_y6
    refine pw_gr (pc := 38) d212_38 (k212_42 b) (sho s_h5 f_l0) f10_22 f_y6.1 ?_
    refine pw_l (pc := 41) d212_41 rfl rfl rfl ?_
    obtain ⟨g7, hm⟩ := gd_x hm
    refine pw_ai (pc := 42) d212_42 (sha s_h5 f_y6.2) (mi_in_x g7) ?_
    obtain ⟨q8, e_q8, hm⟩ := ob_x hm
    refine pw_v (pc := 43) (k := l0) (by omega) d212_43 (k212_296 b) (by decide) m195 (by decide) rfl (sho s_h5 f_l0) (Nat.le_of_ble_eq_true rfl) (Nat.le_of_ble_eq_true rfl) rfl rfl (T_m_isWordOf b L xs (d - 1) (by omega) h5 s_h5 l0 (h5.2.1 y6 l3.toNatClampNeg) f_l0 e_q8) (fun v0 h0 hq => ?_)
    obtain ⟨rfl, hh0, s_q8⟩ := hq
    rw [hh0] at s_q8 ⊢
    simp only [Option.toList_some, List.cons_append, List.nil_append]
    refine pw_zne (pc := 46) (t := 51) d212_46 (by decide) (fun c9 => ?_) (fun c9 => ?_)
    · rw [if_pos c9] at hm
      refine pw_t (pc := 51) d212_51 rfl rfl rfl rfl ?_
      refine pw_go (pc := 54) (t := 19) d212_54 (by decide) ?_
      obtain rfl := Option.some.inj hm
      exact hE s_h5  w4
    · rw [if_neg c9] at hm
      obtain rfl := Option.some.inj hm
      exact hE s_h5  (Value.ref l0) (Value.int l1) (Value.int l2) (Value.int l3) w4
noncomputable def m_meaning (l0 : Nat) (l1 : Int32) (l2 : Int32) (h : pm_H) : Option (Int32 × pm_H) := (m_isShip l0 h).bind fun q1 => if q1 = 0 then (some ((Int32.ofInt (-1)), h)) else ((m_isRowOf l1 l2 h).bind fun q3 => if ¬ q3 = 0 then ((wh (fun s : (Int32 × pm_H) => m_meaning_19 l0 l1 l2 s.1 s.2) ((Int32.ofInt 0), h)).bind fun q5 => (match q5 with | (.inl eq5_0) => some ((Int32.ofInt (-1)), eq5_0) | (.inr eq5_1) => bd (pm_setI eq5_1 l0 23 l2) fun h6 => (m_becomesMeaning l0 h6).bind fun q7 => (wh (fun s : (Int32 × Int32 × pm_H) => m_meaning_71 l0 s.1 s.2.1 s.2.2) ((Int32.ofInt 1), (Int32.ofInt 0), q7)).bind fun q8 => some (q8.1, q8.2))) else (some ((Int32.ofInt (-1)), h)))
theorem T_m_meaning (b : Bool) (L : Nat) (xs : Nat → Int32) (d : Nat) (hd : 2 ≤ d) (h : pm_H) (s_h : h.1 = tb_SH) (l0 : Nat) (l1 : Int32) (l2 : Int32) (f_l0 : mi_o l0 10 = true) {r : (Int32 × pm_H)} (hm : m_meaning l0 l1 l2 h = some r) : PC b L xs d 212 [(Value.ref l0), (Value.int l1), (Value.int l2)] h (fun (v0 : Option Value) (h2 : pm_H) => v0 = (some (Value.int r.1)) ∧ h2 = r.2 ∧ h2.1 = tb_SH) := by
  refine pc_in e212 (ls0 := [(Value.ref l0), (Value.int l1), (Value.int l2), Value.retAddr 0, Value.retAddr 0]) rfl ?_
  have key : ∀ (Q : Option Value → pm_H → Prop), (r.2.1 = tb_SH → Q (some (Value.int r.1)) r.2) → PW b L xs d 212 0 0 0 [(Value.ref l0), (Value.int l1), (Value.int l2), Value.retAddr 0, Value.retAddr 0] [] h Q := by
    intro Q hE
    rw [m_meaning] at hm
    refine pw_l (pc := 0) d212_0 rfl rfl rfl ?_
    obtain ⟨q1, e_q1, hm⟩ := ob_x hm
    refine pw_v (pc := 1) (k := l0) (by omega) d212_1 (k212_305 b) (by decide) m192 (by decide) rfl (sho s_h f_l0) (Nat.le_of_ble_eq_true rfl) (Nat.le_of_ble_eq_true rfl) rfl rfl (T_m_isShip b L xs (d - 1) (by omega) h s_h l0 f_l0 e_q1) (fun v0 h0 hq => ?_)
    obtain ⟨rfl, hh0, s_q1⟩ := hq
    rw [hh0] at s_q1 ⊢
    simp only [Option.toList_some, List.cons_append, List.nil_append]
    refine pw_zeq (pc := 4) (t := 15) d212_4 (by decide) (fun c2 => ?_) (fun c2 => ?_)
    · rw [if_pos c2] at hm
      refine pw_s (pc := 15) d212_15 rfl rfl ?_
      obtain rfl := Option.some.inj hm
      refine pw_ri (pc := 16) d212_16 t212 rfl ?_
      exact hE s_h
    · rw [if_neg c2] at hm
      refine pw_l (pc := 7) d212_7 rfl rfl rfl ?_
      refine pw_l (pc := 8) d212_8 rfl rfl rfl ?_
      obtain ⟨q3, e_q3, hm⟩ := ob_x hm
      refine pw_u (pc := 9) (by omega) d212_9 (k212_308 b) (by decide) m210 (Nat.le_of_ble_eq_true rfl) (Nat.le_of_ble_eq_true rfl) (Nat.le_of_ble_eq_true rfl) rfl rfl (T_m_isRowOf b L xs (d - 1) (by omega) h s_h l1 l2  e_q3) (fun v0 h0 hq => ?_)
      obtain ⟨rfl, hh0, s_q3⟩ := hq
      rw [hh0] at s_q3 ⊢
      simp only [Option.toList_some, List.cons_append, List.nil_append]
      refine pw_zne (pc := 12) (t := 17) d212_12 (by decide) (fun c4 => ?_) (fun c4 => ?_)
      · rw [if_pos c4] at hm
        refine pw_s (pc := 17) d212_17 rfl rfl ?_
        refine pw_t (pc := 18) d212_18 rfl rfl rfl rfl ?_
        obtain ⟨q5, e_q5, hm⟩ := ob_x hm
        refine wh_ind e_q5 (fun s : (Int32 × pm_H) => s.2.1 = tb_SH → ∀ w4 : Value, PW b L xs d 212 0 0 19 [(Value.ref l0), (Value.int l1), (Value.int l2), (Value.int s.1), w4] [] s.2 Q) (fun s s2 hf ih sx w4 => t_m_meaning_19 b L xs d hd s.2 sx l0 l1 l2 s.1 w4 f_l0 hf ih) (fun s hf sx w4 => t_m_meaning_19 b L xs d hd s.2 sx l0 l1 l2 s.1 w4 f_l0 hf ?_) s_h  (Value.retAddr 0)
        rcases q5 with eq5_0 | eq5_1
        · dsimp only at hm
          intro s_q5_0 w0 w1 w2 w3 w4
          refine pw_s (pc := 49) d212_49 rfl rfl ?_
          obtain rfl := Option.some.inj hm
          refine pw_ri (pc := 50) d212_50 t212 rfl ?_
          exact hE s_q5_0
        · dsimp only at hm
          intro s_q5_1 w1 w3 w4
          refine pw_l (pc := 57) d212_57 rfl rfl rfl ?_
          refine pw_l (pc := 58) d212_58 rfl rfl rfl ?_
          refine pw_pi (pc := 59) d212_59 (k212_299 b) (sho s_q5_1 f_l0) p212_10_23 ?_
          obtain ⟨h6, e_h6, hm⟩ := bd_x hm
          rw [e_h6]
          have s_h6 : h6.1 = tb_SH := by rw [← e_h6]; exact s_q5_1
          refine pw_l (pc := 62) d212_62 rfl rfl rfl ?_
          obtain ⟨q7, e_q7, hm⟩ := ob_x hm
          refine pw_v (pc := 63) (k := l0) (by omega) d212_63 (k212_315 b) (by decide) m207 (by decide) rfl (sho s_h6 f_l0) (Nat.le_of_ble_eq_true rfl) (Nat.le_of_ble_eq_true rfl) rfl rfl (T_m_becomesMeaning b L xs (d - 1) (by omega) h6 s_h6 l0 f_l0 e_q7) (fun v0 h0 hq => ?_)
          obtain ⟨rfl, hh0, s_q7⟩ := hq
          rw [hh0] at s_q7 ⊢
          simp only [Option.toList_none, List.nil_append]
          refine pw_s (pc := 66) d212_66 rfl rfl ?_
          refine pw_t (pc := 67) d212_67 rfl rfl rfl rfl ?_
          refine pw_s (pc := 68) d212_68 rfl rfl ?_
          refine pw_t (pc := 69) d212_69 rfl rfl rfl rfl ?_
          obtain ⟨q8, e_q8, hm⟩ := ob_x hm
          refine wh_ind e_q8 (fun s : (Int32 × Int32 × pm_H) => s.2.2.1 = tb_SH → ∀ w1 w2 : Value, PW b L xs d 212 0 0 71 [(Value.ref l0), w1, w2, (Value.int s.1), (Value.int s.2.1)] [] s.2.2 Q) (fun s s2 hf ih sx w1 w2 => t_m_meaning_71 b L xs d hd s.2.2 sx l0 s.1 s.2.1 w1 w2 f_l0 hf ih) (fun s hf sx w1 w2 => t_m_meaning_71 b L xs d hd s.2.2 sx l0 s.1 s.2.1 w1 w2 f_l0 hf ?_) s_q7  w1 (Value.int l2)
          intro s_q8_0 w0 w1 w2 w4
          refine pw_l (pc := 99) d212_99 rfl rfl rfl ?_
          obtain rfl := Option.some.inj hm
          refine pw_ri (pc := 100) d212_100 t212 rfl ?_
          exact hE s_q8_0
      · rw [if_neg c4] at hm
        refine pw_s (pc := 15) d212_15 rfl rfl ?_
        obtain rfl := Option.some.inj hm
        refine pw_ri (pc := 16) d212_16 t212 rfl ?_
        exact hE s_h
  exact key _ (fun q => ⟨rfl, rfl, q⟩)
noncomputable def m_wordOfMan (l0 : Nat) (l1 : Int32) (h : pm_H) : Option Int32 := if ¬ l1 = (Int8.ofInt 8).toInt32 then ((m_manOf l0 l1 (Int32.ofInt 0) h).bind fun q2 => some q2) else ((gA h l0 20 .int).bind fun y3 => if mi_in ((Int8.ofInt 6).toInt32) (mi_n y3) = true then some (h.2.1 y3 ((Int8.ofInt 6).toInt32).toNatClampNeg) else none)
theorem T_m_wordOfMan (b : Bool) (L : Nat) (xs : Nat → Int32) (d : Nat) (hd : 1 ≤ d) (h : pm_H) (s_h : h.1 = tb_SH) (l0 : Nat) (l1 : Int32) (f_l0 : mi_o l0 10 = true) {r : Int32} (hm : m_wordOfMan l0 l1 h = some r) : PC b L xs d 213 [(Value.ref l0), (Value.int l1)] h (fun (v0 : Option Value) (h2 : pm_H) => v0 = (some (Value.int r)) ∧ h2 = h ∧ h2.1 = tb_SH) := by
  refine pc_in e213 (ls0 := [(Value.ref l0), (Value.int l1)]) rfl ?_
  have key : ∀ (Q : Option Value → pm_H → Prop), (Q (some (Value.int r)) h) → PW b L xs d 213 0 0 0 [(Value.ref l0), (Value.int l1)] [] h Q := by
    intro Q hE
    rw [m_wordOfMan] at hm
    refine pw_l (pc := 0) d213_0 rfl rfl rfl ?_
    refine pw_s (pc := 1) d213_1 rfl rfl ?_
    refine pw_ine (pc := 3) (t := 16) d213_3 (by decide) (fun c1 => ?_) (fun c1 => ?_)
    · rw [if_pos c1] at hm
      refine pw_l (pc := 16) d213_16 rfl rfl rfl ?_
      refine pw_l (pc := 17) d213_17 rfl rfl rfl ?_
      refine pw_s (pc := 18) d213_18 rfl rfl ?_
      obtain ⟨q2, e_q2, hm⟩ := ob_x hm
      refine pw_v (pc := 19) (k := l0) (by omega) d213_19 (k213_273 b) (by decide) m196 (by decide) rfl (sho s_h f_l0) (Nat.le_of_ble_eq_true rfl) (Nat.le_of_ble_eq_true rfl) rfl rfl (T_m_manOf b L xs (d - 1) (by omega) h s_h l0 l1 (Int32.ofInt 0) f_l0 e_q2) (fun v0 h0 hq => ?_)
      obtain ⟨rfl, hh0, s_q2⟩ := hq
      rw [hh0] at s_q2 ⊢
      simp only [Option.toList_some, List.cons_append, List.nil_append]
      obtain rfl := Option.some.inj hm
      refine pw_ri (pc := 22) d213_22 t213 rfl ?_
      exact hE
    · rw [if_neg c1] at hm
      refine pw_l (pc := 6) d213_6 rfl rfl rfl ?_
      obtain ⟨y3, e_y3, hm⟩ := ob_x hm
      have f_y3 := gA_x e_y3
      refine pw_gr (pc := 7) d213_7 (k213_39 b) (sho s_h f_l0) f10_20 f_y3.1 ?_
      refine pw_s (pc := 10) d213_10 rfl rfl ?_
      obtain ⟨g4, hm⟩ := gd_x hm
      refine pw_ai (pc := 12) d213_12 (sha s_h f_y3.2) (mi_in_x g4) ?_
      refine pw_go (pc := 13) (t := 22) d213_13 (by decide) ?_
      obtain rfl := Option.some.inj hm
      refine pw_ri (pc := 22) d213_22 t213 rfl ?_
      exact hE
  exact key _ ⟨rfl, rfl, s_h⟩
def E_m_areMen_22 (b : Bool) (L : Nat) (xs : Nat → Int32) (d : Nat) (Q : Option Value → pm_H → Prop) (h : pm_H) (l0 : Nat) (l1 : Int32) (l2 : Int32) : ((Int32 × Int32) ⊕ Unit ⊕ Unit) → Prop
  | .inl s => ∀ w5 : Value, PW b L xs d 214 0 0 22 [(Value.ref l0), (Value.int l1), (Value.int l2), (Value.int s.1), (Value.int s.2), w5] [] h Q
  | .inr (.inl e) => ∀ w0 w1 w2 w3 w4 w5 : Value, PW b L xs d 214 0 0 72 [w0, w1, w2, w3, w4, w5] [] h Q
  | .inr (.inr e) => ∀ w0 w1 w2 w3 w4 w5 : Value, PW b L xs d 214 0 0 87 [w0, w1, w2, w3, w4, w5] [] h Q
noncomputable def m_areMen_74 (l0 : Nat) (l1 : Int32) (l2 : Int32) (l3 : Int32) (l4 : Int32) (l5 : Int32) (h : pm_H) : Option ((Int32 × Int32) ⊕ Unit ⊕ Unit) := some (.inl ((l3 ||| ((Int32.ofInt 1) <<< (l5 &&& 31))), (l4 + Int32.ofInt 1)))
theorem t_m_areMen_74 (b : Bool) (L : Nat) (xs : Nat → Int32) (d : Nat) (hd : 2 ≤ d) {Q : Option Value → pm_H → Prop} (h : pm_H) (s_h : h.1 = tb_SH) (l0 : Nat) (l1 : Int32) (l2 : Int32) (l3 : Int32) (l4 : Int32) (l5 : Int32) (f_l0 : mi_o l0 10 = true) {r : ((Int32 × Int32) ⊕ Unit ⊕ Unit)} (hm : m_areMen_74 l0 l1 l2 l3 l4 l5 h = some r) (hE : E_m_areMen_22 b L xs d Q h l0 l1 l2 r) : PW b L xs d 214 0 0 74 [(Value.ref l0), (Value.int l1), (Value.int l2), (Value.int l3), (Value.int l4), (Value.int l5)] [] h Q := by
  rw [m_areMen_74] at hm
  refine pw_l (pc := 74) d214_74 rfl rfl rfl ?_
  refine pw_s (pc := 75) d214_75 rfl rfl ?_
  refine pw_l (pc := 76) d214_76 rfl rfl rfl ?_
  refine pw_s (pc := 78) d214_78 rfl rfl ?_
  refine pw_s (pc := 79) d214_79 rfl rfl ?_
  refine pw_t (pc := 80) d214_80 rfl rfl rfl rfl ?_
  refine pw_t (pc := 81) d214_81 rfl rfl rfl rfl ?_
  refine pw_go (pc := 84) (t := 22) d214_84 (by decide) ?_
  obtain rfl := Option.some.inj hm
  exact hE   (Value.int l5)
noncomputable def m_areMen_22 (l0 : Nat) (l1 : Int32) (l2 : Int32) (l3 : Int32) (l4 : Int32) (h : pm_H) : Option ((Int32 × Int32) ⊕ Unit ⊕ Unit) := if l2 ≤ l4 then (some (.inr (.inr ()))) else ((m_digit l1 l2 l4 h).bind fun q2 => (m_isOf l3 q2 h).bind fun q3 => if ¬ q3 = 0 then (some (.inr (.inl ()))) else ((m_isMan l0 q2 h).bind fun q5 => if ¬ q5 = 0 then (m_areMen_74 l0 l1 l2 l3 l4 q2 h) else (if ¬ q2 = (Int8.ofInt 8).toInt32 then (some (.inr (.inl ()))) else ((gA h l0 20 .int).bind fun y8 => if mi_in ((Int8.ofInt 6).toInt32) (mi_n y8) = true then if 0 ≤ (h.2.1 y8 ((Int8.ofInt 6).toInt32).toNatClampNeg) then (m_areMen_74 l0 l1 l2 l3 l4 q2 h) else (some (.inr (.inl ()))) else none))))
theorem t_m_areMen_22 (b : Bool) (L : Nat) (xs : Nat → Int32) (d : Nat) (hd : 2 ≤ d) {Q : Option Value → pm_H → Prop} (h : pm_H) (s_h : h.1 = tb_SH) (l0 : Nat) (l1 : Int32) (l2 : Int32) (l3 : Int32) (l4 : Int32) (w5 : Value) (f_l0 : mi_o l0 10 = true) {r : ((Int32 × Int32) ⊕ Unit ⊕ Unit)} (hm : m_areMen_22 l0 l1 l2 l3 l4 h = some r) (hE : E_m_areMen_22 b L xs d Q h l0 l1 l2 r) : PW b L xs d 214 0 0 22 [(Value.ref l0), (Value.int l1), (Value.int l2), (Value.int l3), (Value.int l4), w5] [] h Q := by
  rw [m_areMen_22] at hm
  refine pw_l (pc := 22) d214_22 rfl rfl rfl ?_
  refine pw_l (pc := 24) d214_24 rfl rfl rfl ?_
  refine pw_ige (pc := 25) (t := 87) d214_25 (by decide) (fun c1 => ?_) (fun c1 => ?_)
  · rw [if_pos c1] at hm
    obtain rfl := Option.some.inj hm
    exact hE   (Value.ref l0) (Value.int l1) (Value.int l2) (Value.int l3) (Value.int l4) w5
  · rw [if_neg c1] at hm
    refine pw_l (pc := 28) d214_28 rfl rfl rfl ?_
    refine pw_l (pc := 29) d214_29 rfl rfl rfl ?_
    refine pw_l (pc := 30) d214_30 rfl rfl rfl ?_
    obtain ⟨q2, e_q2, hm⟩ := ob_x hm
    refine pw_u (pc := 32) (by omega) d214_32 (k214_311 b) (by decide) m211 (Nat.le_of_ble_eq_true rfl) (Nat.le_of_ble_eq_true rfl) (Nat.le_of_ble_eq_true rfl) rfl rfl (T_m_digit b L xs (d - 1) (by omega) h s_h l1 l2 l4  e_q2) (fun v0 h0 hq => ?_)
    obtain ⟨rfl, hh0, s_q2⟩ := hq
    rw [hh0] at s_q2 ⊢
    simp only [Option.toList_some, List.cons_append, List.nil_append]
    refine pw_t (pc := 35) d214_35 rfl rfl rfl rfl ?_
    refine pw_l (pc := 37) d214_37 rfl rfl rfl ?_
    refine pw_l (pc := 38) d214_38 rfl rfl rfl ?_
    obtain ⟨q3, e_q3, hm⟩ := ob_x hm
    refine pw_u (pc := 40) (by omega) d214_40 (k214_318 b) (by decide) m149 (Nat.le_of_ble_eq_true rfl) (Nat.le_of_ble_eq_true rfl) (Nat.le_of_ble_eq_true rfl) rfl rfl (T_m_isOf b L xs (d - 1) (by omega) h s_h l3 q2  e_q3) (fun v0 h0 hq => ?_)
    obtain ⟨rfl, hh0, s_q3⟩ := hq
    rw [hh0] at s_q3 ⊢
    simp only [Option.toList_some, List.cons_append, List.nil_append]
    refine pw_zne (pc := 43) (t := 72) d214_43 (by decide) (fun c4 => ?_) (fun c4 => ?_)
    · rw [if_pos c4] at hm
      obtain rfl := Option.some.inj hm
      exact hE   (Value.ref l0) (Value.int l1) (Value.int l2) (Value.int l3) (Value.int l4) (Value.int q2)
    · rw [if_neg c4] at hm
      refine pw_l (pc := 46) d214_46 rfl rfl rfl ?_
      refine pw_l (pc := 47) d214_47 rfl rfl rfl ?_
      obtain ⟨q5, e_q5, hm⟩ := ob_x hm
      refine pw_v (pc := 49) (k := l0) (by omega) d214_49 (k214_270 b) (by decide) m193 (by decide) rfl (sho s_h f_l0) (Nat.le_of_ble_eq_true rfl) (Nat.le_of_ble_eq_true rfl) rfl rfl (T_m_isMan b L xs (d - 1) (by omega) h s_h l0 q2 f_l0 e_q5) (fun v0 h0 hq => ?_)
      obtain ⟨rfl, hh0, s_q5⟩ := hq
      rw [hh0] at s_q5 ⊢
      simp only [Option.toList_some, List.cons_append, List.nil_append]
      refine pw_zne (pc := 52) (t := 74) d214_52 (by decide) (fun c6 => ?_) (fun c6 => ?_)
      · rw [if_pos c6] at hm
        exact t_m_areMen_74 b L xs d hd h s_h l0 l1 l2 l3 l4 q2  f_l0  hm hE
      · rw [if_neg c6] at hm
        refine pw_l (pc := 55) d214_55 rfl rfl rfl ?_
        refine pw_s (pc := 57) d214_57 rfl rfl ?_
        refine pw_ine (pc := 59) (t := 72) d214_59 (by decide) (fun c7 => ?_) (fun c7 => ?_)
        · rw [if_pos c7] at hm
          obtain rfl := Option.some.inj hm
          exact hE   (Value.ref l0) (Value.int l1) (Value.int l2) (Value.int l3) (Value.int l4) (Value.int q2)
        · rw [if_neg c7] at hm
          refine pw_l (pc := 62) d214_62 rfl rfl rfl ?_
          obtain ⟨y8, e_y8, hm⟩ := ob_x hm
          have f_y8 := gA_x e_y8
          refine pw_gr (pc := 63) d214_63 (k214_39 b) (sho s_h f_l0) f10_20 f_y8.1 ?_
          refine pw_s (pc := 66) d214_66 rfl rfl ?_
          obtain ⟨g9, hm⟩ := gd_x hm
          refine pw_ai (pc := 68) d214_68 (sha s_h f_y8.2) (mi_in_x g9) ?_
          refine pw_zge (pc := 69) (t := 74) d214_69 (by decide) (fun c10 => ?_) (fun c10 => ?_)
          · rw [if_pos c10] at hm
            exact t_m_areMen_74 b L xs d hd h s_h l0 l1 l2 l3 l4 q2  f_l0  hm hE
          · rw [if_neg c10] at hm
            obtain rfl := Option.some.inj hm
            exact hE   (Value.ref l0) (Value.int l1) (Value.int l2) (Value.int l3) (Value.int l4) (Value.int q2)
noncomputable def m_areMen (l0 : Nat) (l1 : Int32) (l2 : Int32) (h : pm_H) : Option Int32 := (m_isShip l0 h).bind fun q1 => if q1 = 0 then (some (Int32.ofInt 0)) else ((m_isRowOf l1 l2 h).bind fun q3 => if ¬ q3 = 0 then ((wh (fun s : (Int32 × Int32) => m_areMen_22 l0 l1 l2 s.1 s.2 h) ((Int32.ofInt 0), (Int32.ofInt 0))).bind fun q5 => (match q5 with | (.inl eq5_0) => some (Int32.ofInt 0) | (.inr eq5_1) => some (Int32.ofInt 1))) else (some (Int32.ofInt 0)))
theorem T_m_areMen (b : Bool) (L : Nat) (xs : Nat → Int32) (d : Nat) (hd : 2 ≤ d) (h : pm_H) (s_h : h.1 = tb_SH) (l0 : Nat) (l1 : Int32) (l2 : Int32) (f_l0 : mi_o l0 10 = true) {r : Int32} (hm : m_areMen l0 l1 l2 h = some r) : PC b L xs d 214 [(Value.ref l0), (Value.int l1), (Value.int l2)] h (fun (v0 : Option Value) (h2 : pm_H) => v0 = (some (Value.int r)) ∧ h2 = h ∧ h2.1 = tb_SH) := by
  refine pc_in e214 (ls0 := [(Value.ref l0), (Value.int l1), (Value.int l2), Value.retAddr 0, Value.retAddr 0, Value.retAddr 0]) rfl ?_
  have key : ∀ (Q : Option Value → pm_H → Prop), (Q (some (Value.int r)) h) → PW b L xs d 214 0 0 0 [(Value.ref l0), (Value.int l1), (Value.int l2), Value.retAddr 0, Value.retAddr 0, Value.retAddr 0] [] h Q := by
    intro Q hE
    rw [m_areMen] at hm
    refine pw_l (pc := 0) d214_0 rfl rfl rfl ?_
    obtain ⟨q1, e_q1, hm⟩ := ob_x hm
    refine pw_v (pc := 1) (k := l0) (by omega) d214_1 (k214_305 b) (by decide) m192 (by decide) rfl (sho s_h f_l0) (Nat.le_of_ble_eq_true rfl) (Nat.le_of_ble_eq_true rfl) rfl rfl (T_m_isShip b L xs (d - 1) (by omega) h s_h l0 f_l0 e_q1) (fun v0 h0 hq => ?_)
    obtain ⟨rfl, hh0, s_q1⟩ := hq
    rw [hh0] at s_q1 ⊢
    simp only [Option.toList_some, List.cons_append, List.nil_append]
    refine pw_zeq (pc := 4) (t := 15) d214_4 (by decide) (fun c2 => ?_) (fun c2 => ?_)
    · rw [if_pos c2] at hm
      refine pw_s (pc := 15) d214_15 rfl rfl ?_
      obtain rfl := Option.some.inj hm
      refine pw_ri (pc := 16) d214_16 t214 rfl ?_
      exact hE
    · rw [if_neg c2] at hm
      refine pw_l (pc := 7) d214_7 rfl rfl rfl ?_
      refine pw_l (pc := 8) d214_8 rfl rfl rfl ?_
      obtain ⟨q3, e_q3, hm⟩ := ob_x hm
      refine pw_u (pc := 9) (by omega) d214_9 (k214_308 b) (by decide) m210 (Nat.le_of_ble_eq_true rfl) (Nat.le_of_ble_eq_true rfl) (Nat.le_of_ble_eq_true rfl) rfl rfl (T_m_isRowOf b L xs (d - 1) (by omega) h s_h l1 l2  e_q3) (fun v0 h0 hq => ?_)
      obtain ⟨rfl, hh0, s_q3⟩ := hq
      rw [hh0] at s_q3 ⊢
      simp only [Option.toList_some, List.cons_append, List.nil_append]
      refine pw_zne (pc := 12) (t := 17) d214_12 (by decide) (fun c4 => ?_) (fun c4 => ?_)
      · rw [if_pos c4] at hm
        refine pw_s (pc := 17) d214_17 rfl rfl ?_
        refine pw_t (pc := 18) d214_18 rfl rfl rfl rfl ?_
        refine pw_s (pc := 19) d214_19 rfl rfl ?_
        refine pw_t (pc := 20) d214_20 rfl rfl rfl rfl ?_
        obtain ⟨q5, e_q5, hm⟩ := ob_x hm
        refine wh_ind e_q5 (fun s : (Int32 × Int32) => ∀ w5 : Value, PW b L xs d 214 0 0 22 [(Value.ref l0), (Value.int l1), (Value.int l2), (Value.int s.1), (Value.int s.2), w5] [] h Q) (fun s s2 hf ih w5 => t_m_areMen_22 b L xs d hd h s_h l0 l1 l2 s.1 s.2 w5 f_l0 hf ih) (fun s hf w5 => t_m_areMen_22 b L xs d hd h s_h l0 l1 l2 s.1 s.2 w5 f_l0 hf ?_)   (Value.retAddr 0)
        rcases q5 with eq5_0 | eq5_1
        · dsimp only at hm
          intro w0 w1 w2 w3 w4 w5
          refine pw_s (pc := 72) d214_72 rfl rfl ?_
          obtain rfl := Option.some.inj hm
          refine pw_ri (pc := 73) d214_73 t214 rfl ?_
          exact hE
        · dsimp only at hm
          intro w0 w1 w2 w3 w4 w5
          refine pw_s (pc := 87) d214_87 rfl rfl ?_
          obtain rfl := Option.some.inj hm
          refine pw_ri (pc := 88) d214_88 t214 rfl ?_
          exact hE
      · rw [if_neg c4] at hm
        refine pw_s (pc := 15) d214_15 rfl rfl ?_
        obtain rfl := Option.some.inj hm
        refine pw_ri (pc := 16) d214_16 t214 rfl ?_
        exact hE
  exact key _ ⟨rfl, rfl, s_h⟩
noncomputable def m_wordIn (l0 : Nat) (l1 : Int32) (h : pm_H) : Option Int32 := if l1 < (Int8.ofInt 9).toInt32 then ((m_wordOfMan l0 l1 h).bind fun q2 => some q2) else ((gA h l0 25 .int).bind fun y3 => if mi_in (l1 - (Int8.ofInt 9).toInt32) (mi_n y3) = true then some (h.2.1 y3 (l1 - (Int8.ofInt 9).toInt32).toNatClampNeg) else none)
theorem T_m_wordIn (b : Bool) (L : Nat) (xs : Nat → Int32) (d : Nat) (hd : 2 ≤ d) (h : pm_H) (s_h : h.1 = tb_SH) (l0 : Nat) (l1 : Int32) (f_l0 : mi_o l0 10 = true) {r : Int32} (hm : m_wordIn l0 l1 h = some r) : PC b L xs d 215 [(Value.ref l0), (Value.int l1)] h (fun (v0 : Option Value) (h2 : pm_H) => v0 = (some (Value.int r)) ∧ h2 = h ∧ h2.1 = tb_SH) := by
  refine pc_in e215 (ls0 := [(Value.ref l0), (Value.int l1)]) rfl ?_
  have key : ∀ (Q : Option Value → pm_H → Prop), (Q (some (Value.int r)) h) → PW b L xs d 215 0 0 0 [(Value.ref l0), (Value.int l1)] [] h Q := by
    intro Q hE
    rw [m_wordIn] at hm
    refine pw_l (pc := 0) d215_0 rfl rfl rfl ?_
    refine pw_s (pc := 1) d215_1 rfl rfl ?_
    refine pw_ilt (pc := 3) (t := 18) d215_3 (by decide) (fun c1 => ?_) (fun c1 => ?_)
    · rw [if_pos c1] at hm
      refine pw_l (pc := 18) d215_18 rfl rfl rfl ?_
      refine pw_l (pc := 19) d215_19 rfl rfl rfl ?_
      obtain ⟨q2, e_q2, hm⟩ := ob_x hm
      refine pw_v (pc := 20) (k := l0) (by omega) d215_20 (k215_321 b) (by decide) m213 (by decide) rfl (sho s_h f_l0) (Nat.le_of_ble_eq_true rfl) (Nat.le_of_ble_eq_true rfl) rfl rfl (T_m_wordOfMan b L xs (d - 1) (by omega) h s_h l0 l1 f_l0 e_q2) (fun v0 h0 hq => ?_)
      obtain ⟨rfl, hh0, s_q2⟩ := hq
      rw [hh0] at s_q2 ⊢
      simp only [Option.toList_some, List.cons_append, List.nil_append]
      obtain rfl := Option.some.inj hm
      refine pw_ri (pc := 23) d215_23 t215 rfl ?_
      exact hE
    · rw [if_neg c1] at hm
      refine pw_l (pc := 6) d215_6 rfl rfl rfl ?_
      obtain ⟨y3, e_y3, hm⟩ := ob_x hm
      have f_y3 := gA_x e_y3
      refine pw_gr (pc := 7) d215_7 (k215_48 b) (sho s_h f_l0) f10_25 f_y3.1 ?_
      refine pw_l (pc := 10) d215_10 rfl rfl rfl ?_
      refine pw_s (pc := 11) d215_11 rfl rfl ?_
      refine pw_s (pc := 13) d215_13 rfl rfl ?_
      obtain ⟨g4, hm⟩ := gd_x hm
      refine pw_ai (pc := 14) d215_14 (sha s_h f_y3.2) (mi_in_x g4) ?_
      refine pw_go (pc := 15) (t := 23) d215_15 (by decide) ?_
      obtain rfl := Option.some.inj hm
      refine pw_ri (pc := 23) d215_23 t215 rfl ?_
      exact hE
  exact key _ ⟨rfl, rfl, s_h⟩
def E_m_saysRow_2 (b : Bool) (L : Nat) (xs : Nat → Int32) (d : Nat) (Q : Option Value → pm_H → Prop) (l0 : Nat) (l1 : Int32) : ((Int32 × pm_H) ⊕ pm_H) → Prop
  | .inl s => s.2.1 = tb_SH → PW b L xs d 216 0 0 2 [(Value.ref l0), (Value.int l1), (Value.int s.1)] [] s.2 Q
  | .inr e => e.1 = tb_SH → ∀ w2 : Value, PW b L xs d 216 0 0 29 [(Value.ref l0), (Value.int l1), w2] [] e Q
noncomputable def m_saysRow_2 (l0 : Nat) (l1 : Int32) (l2 : Int32) (h : pm_H) : Option ((Int32 × pm_H) ⊕ pm_H) := if l1 ≤ l2 then (some (.inr h)) else ((gA h l0 22 .int).bind fun y2 => (gA h l0 24 .int).bind fun y3 => if mi_in l2 (mi_n y3) = true then (m_wordIn l0 (h.2.1 y3 l2.toNatClampNeg) h).bind fun q5 => if mi_in l2 (mi_n y2) = true then bd (pm_setI h y2 l2.toNatClampNeg q5) fun h7 => some (.inl ((l2 + Int32.ofInt 1), h7)) else none else none)
theorem t_m_saysRow_2 (b : Bool) (L : Nat) (xs : Nat → Int32) (d : Nat) (hd : 3 ≤ d) {Q : Option Value → pm_H → Prop} (h : pm_H) (s_h : h.1 = tb_SH) (l0 : Nat) (l1 : Int32) (l2 : Int32) (f_l0 : mi_o l0 10 = true) {r : ((Int32 × pm_H) ⊕ pm_H)} (hm : m_saysRow_2 l0 l1 l2 h = some r) (hE : E_m_saysRow_2 b L xs d Q l0 l1 r) : PW b L xs d 216 0 0 2 [(Value.ref l0), (Value.int l1), (Value.int l2)] [] h Q := by
  rw [m_saysRow_2] at hm
  refine pw_l (pc := 2) d216_2 rfl rfl rfl ?_
  refine pw_l (pc := 3) d216_3 rfl rfl rfl ?_
  refine pw_ige (pc := 4) (t := 29) d216_4 (by decide) (fun c1 => ?_) (fun c1 => ?_)
  · rw [if_pos c1] at hm
    obtain rfl := Option.some.inj hm
    exact hE s_h  (Value.int l2)
  · rw [if_neg c1] at hm
    refine pw_l (pc := 7) d216_7 rfl rfl rfl ?_
    obtain ⟨y2, e_y2, hm⟩ := ob_x hm
    have f_y2 := gA_x e_y2
    refine pw_gr (pc := 8) d216_8 (k216_42 b) (sho s_h f_l0) f10_22 f_y2.1 ?_
    refine pw_l (pc := 11) d216_11 rfl rfl rfl ?_
    refine pw_l (pc := 12) d216_12 rfl rfl rfl ?_
    refine pw_l (pc := 13) d216_13 rfl rfl rfl ?_
    obtain ⟨y3, e_y3, hm⟩ := ob_x hm
    have f_y3 := gA_x e_y3
    refine pw_gr (pc := 14) d216_14 (k216_45 b) (sho s_h f_l0) f10_24 f_y3.1 ?_
    refine pw_l (pc := 17) d216_17 rfl rfl rfl ?_
    obtain ⟨g4, hm⟩ := gd_x hm
    refine pw_ai (pc := 18) d216_18 (sha s_h f_y3.2) (mi_in_x g4) ?_
    obtain ⟨q5, e_q5, hm⟩ := ob_x hm
    refine pw_v (pc := 19) (k := l0) (by omega) d216_19 (k216_324 b) (by decide) m215 (by decide) rfl (sho s_h f_l0) (Nat.le_of_ble_eq_true rfl) (Nat.le_of_ble_eq_true rfl) rfl rfl (T_m_wordIn b L xs (d - 1) (by omega) h s_h l0 (h.2.1 y3 l2.toNatClampNeg) f_l0 e_q5) (fun v0 h0 hq => ?_)
    obtain ⟨rfl, hh0, s_q5⟩ := hq
    rw [hh0] at s_q5 ⊢
    simp only [Option.toList_some, List.cons_append, List.nil_append]
    obtain ⟨g6, hm⟩ := gd_x hm
    refine pw_si (pc := 22) d216_22 (sha s_h f_y2.2) (mi_in_x g6) ?_
    obtain ⟨h7, e_h7, hm⟩ := bd_x hm
    rw [e_h7]
    have s_h7 : h7.1 = tb_SH := by rw [← e_h7]; exact s_h
    refine pw_t (pc := 23) d216_23 rfl rfl rfl rfl ?_
    refine pw_go (pc := 26) (t := 2) d216_26 (by decide) ?_
    obtain rfl := Option.some.inj hm
    exact hE s_h7  
noncomputable def m_saysRow (l0 : Nat) (l1 : Int32) (h : pm_H) : Option (Int32 × pm_H) := (wh (fun s : (Int32 × pm_H) => m_saysRow_2 l0 l1 s.1 s.2) ((Int32.ofInt 0), h)).bind fun q1 => bd (pm_setI q1 l0 23 l1) fun h2 => (m_becomesMeaning l0 h2).bind fun q3 => (m_orderHeard l0 q3).bind fun q4 => some (q4, q3)
theorem T_m_saysRow (b : Bool) (L : Nat) (xs : Nat → Int32) (d : Nat) (hd : 3 ≤ d) (h : pm_H) (s_h : h.1 = tb_SH) (l0 : Nat) (l1 : Int32) (f_l0 : mi_o l0 10 = true) {r : (Int32 × pm_H)} (hm : m_saysRow l0 l1 h = some r) : PC b L xs d 216 [(Value.ref l0), (Value.int l1)] h (fun (v0 : Option Value) (h2 : pm_H) => v0 = (some (Value.int r.1)) ∧ h2 = r.2 ∧ h2.1 = tb_SH) := by
  refine pc_in e216 (ls0 := [(Value.ref l0), (Value.int l1), Value.retAddr 0]) rfl ?_
  have key : ∀ (Q : Option Value → pm_H → Prop), (r.2.1 = tb_SH → Q (some (Value.int r.1)) r.2) → PW b L xs d 216 0 0 0 [(Value.ref l0), (Value.int l1), Value.retAddr 0] [] h Q := by
    intro Q hE
    rw [m_saysRow] at hm
    refine pw_s (pc := 0) d216_0 rfl rfl ?_
    refine pw_t (pc := 1) d216_1 rfl rfl rfl rfl ?_
    obtain ⟨q1, e_q1, hm⟩ := ob_x hm
    refine wh_ind e_q1 (fun s : (Int32 × pm_H) => s.2.1 = tb_SH → PW b L xs d 216 0 0 2 [(Value.ref l0), (Value.int l1), (Value.int s.1)] [] s.2 Q) (fun s s2 hf ih sx => t_m_saysRow_2 b L xs d hd s.2 sx l0 l1 s.1  f_l0 hf ih) (fun s hf sx => t_m_saysRow_2 b L xs d hd s.2 sx l0 l1 s.1  f_l0 hf ?_) s_h  
    intro s_q1_0 w2
    refine pw_l (pc := 29) d216_29 rfl rfl rfl ?_
    refine pw_l (pc := 30) d216_30 rfl rfl rfl ?_
    refine pw_pi (pc := 31) d216_31 (k216_299 b) (sho s_q1_0 f_l0) p216_10_23 ?_
    obtain ⟨h2, e_h2, hm⟩ := bd_x hm
    rw [e_h2]
    have s_h2 : h2.1 = tb_SH := by rw [← e_h2]; exact s_q1_0
    refine pw_l (pc := 34) d216_34 rfl rfl rfl ?_
    obtain ⟨q3, e_q3, hm⟩ := ob_x hm
    refine pw_v (pc := 35) (k := l0) (by omega) d216_35 (k216_315 b) (by decide) m207 (by decide) rfl (sho s_h2 f_l0) (Nat.le_of_ble_eq_true rfl) (Nat.le_of_ble_eq_true rfl) rfl rfl (T_m_becomesMeaning b L xs (d - 1) (by omega) h2 s_h2 l0 f_l0 e_q3) (fun v0 h0 hq => ?_)
    obtain ⟨rfl, hh0, s_q3⟩ := hq
    rw [hh0] at s_q3 ⊢
    simp only [Option.toList_none, List.nil_append]
    refine pw_l (pc := 38) d216_38 rfl rfl rfl ?_
    obtain ⟨q4, e_q4, hm⟩ := ob_x hm
    refine pw_v (pc := 39) (k := l0) (by omega) d216_39 (k216_327 b) (by decide) m208 (by decide) rfl (sho s_q3 f_l0) (Nat.le_of_ble_eq_true rfl) (Nat.le_of_ble_eq_true rfl) rfl rfl (T_m_orderHeard b L xs (d - 1) (by omega) q3 s_q3 l0 f_l0 e_q4) (fun v0 h0 hq => ?_)
    obtain ⟨rfl, hh0, s_q4⟩ := hq
    rw [hh0] at s_q4 ⊢
    simp only [Option.toList_some, List.cons_append, List.nil_append]
    obtain rfl := Option.some.inj hm
    refine pw_ri (pc := 42) d216_42 t216 rfl ?_
    exact hE s_q3
  exact key _ (fun q => ⟨rfl, rfl, q⟩)
def E_m_nextOf_2 (b : Bool) (L : Nat) (xs : Nat → Int32) (d : Nat) (Q : Option Value → pm_H → Prop) (h : pm_H) (l0 : Int32) (l1 : Int32) : (Int32 ⊕ Int32) → Prop
  | .inl s => ∀ w2 : Value, PW b L xs d 217 0 0 2 [(Value.int l0), (Value.int l1), w2, (Value.int s)] [] h Q
  | .inr e => ∀ w0 w1 w2 : Value, PW b L xs d 217 0 0 30 [w0, w1, w2, (Value.int e)] [] h Q
noncomputable def m_nextOf_2 (l0 : Int32) (l1 : Int32) (l3 : Int32) (h : pm_H) : Option (Int32 ⊕ Int32) := if (Int8.ofInt 11).toInt32 ≤ l3 then (some (.inr l3)) else ((m_isOf l0 l3 h).bind fun q2 => if q2 = 0 then (some (.inl (l3 + Int32.ofInt 1))) else ((m_isOf l1 l3 h).bind fun q4 => if q4 = 0 then (some (.inr l3)) else (some (.inl (l3 + Int32.ofInt 1)))))
theorem t_m_nextOf_2 (b : Bool) (L : Nat) (xs : Nat → Int32) (d : Nat) (hd : 1 ≤ d) {Q : Option Value → pm_H → Prop} (h : pm_H) (s_h : h.1 = tb_SH) (l0 : Int32) (l1 : Int32) (l3 : Int32) (w2 : Value) {r : (Int32 ⊕ Int32)} (hm : m_nextOf_2 l0 l1 l3 h = some r) (hE : E_m_nextOf_2 b L xs d Q h l0 l1 r) : PW b L xs d 217 0 0 2 [(Value.int l0), (Value.int l1), w2, (Value.int l3)] [] h Q := by
  rw [m_nextOf_2] at hm
  refine pw_l (pc := 2) d217_2 rfl rfl rfl ?_
  refine pw_s (pc := 3) d217_3 rfl rfl ?_
  refine pw_ige (pc := 5) (t := 30) d217_5 (by decide) (fun c1 => ?_) (fun c1 => ?_)
  · rw [if_pos c1] at hm
    obtain rfl := Option.some.inj hm
    exact hE   (Value.int l0) (Value.int l1) w2
  · rw [if_neg c1] at hm
    refine pw_l (pc := 8) d217_8 rfl rfl rfl ?_
    refine pw_l (pc := 9) d217_9 rfl rfl rfl ?_
    obtain ⟨q2, e_q2, hm⟩ := ob_x hm
    refine pw_u (pc := 10) (by omega) d217_10 (k217_318 b) (by decide) m149 (Nat.le_of_ble_eq_true rfl) (Nat.le_of_ble_eq_true rfl) (Nat.le_of_ble_eq_true rfl) rfl rfl (T_m_isOf b L xs (d - 1) (by omega) h s_h l0 l3  e_q2) (fun v0 h0 hq => ?_)
    obtain ⟨rfl, hh0, s_q2⟩ := hq
    rw [hh0] at s_q2 ⊢
    simp only [Option.toList_some, List.cons_append, List.nil_append]
    refine pw_zeq (pc := 13) (t := 24) d217_13 (by decide) (fun c3 => ?_) (fun c3 => ?_)
    · rw [if_pos c3] at hm
      refine pw_t (pc := 24) d217_24 rfl rfl rfl (n := 3) (ls' := [(Value.int l0), (Value.int l1), (mi_w w2), (Value.int (l3 + Int32.ofInt 1))]) (st' := []) (by by_cases hw : Value.category w2 = 2 <;> simp [pm_sto, pm_sI, pm_sL, pm_sA, pm_inc, pm_st1, pm_st2, pm_pre, mi_w, hw] <;> first | done | exact ⟨by decide, rfl⟩ | rfl) ?_
      refine pw_go (pc := 27) (t := 2) d217_27 (by decide) ?_
      obtain rfl := Option.some.inj hm
      exact hE   (mi_w w2)
    · rw [if_neg c3] at hm
      refine pw_l (pc := 16) d217_16 rfl rfl rfl ?_
      refine pw_l (pc := 17) d217_17 rfl rfl rfl ?_
      obtain ⟨q4, e_q4, hm⟩ := ob_x hm
      refine pw_u (pc := 18) (by omega) d217_18 (k217_318 b) (by decide) m149 (Nat.le_of_ble_eq_true rfl) (Nat.le_of_ble_eq_true rfl) (Nat.le_of_ble_eq_true rfl) rfl rfl (T_m_isOf b L xs (d - 1) (by omega) h s_h l1 l3  e_q4) (fun v0 h0 hq => ?_)
      obtain ⟨rfl, hh0, s_q4⟩ := hq
      rw [hh0] at s_q4 ⊢
      simp only [Option.toList_some, List.cons_append, List.nil_append]
      refine pw_zeq (pc := 21) (t := 30) d217_21 (by decide) (fun c5 => ?_) (fun c5 => ?_)
      · rw [if_pos c5] at hm
        obtain rfl := Option.some.inj hm
        exact hE   (Value.int l0) (Value.int l1) w2
      · rw [if_neg c5] at hm
        refine pw_t (pc := 24) d217_24 rfl rfl rfl (n := 3) (ls' := [(Value.int l0), (Value.int l1), (mi_w w2), (Value.int (l3 + Int32.ofInt 1))]) (st' := []) (by by_cases hw : Value.category w2 = 2 <;> simp [pm_sto, pm_sI, pm_sL, pm_sA, pm_inc, pm_st1, pm_st2, pm_pre, mi_w, hw] <;> first | done | exact ⟨by decide, rfl⟩ | rfl) ?_
        refine pw_go (pc := 27) (t := 2) d217_27 (by decide) ?_
        obtain rfl := Option.some.inj hm
        exact hE   (mi_w w2)
noncomputable def m_nextOf (l0 : Int32) (l1 : Int32) (l2 : Int32) (h : pm_H) : Option Int32 := (wh (fun s : Int32 => m_nextOf_2 l0 l1 s h) l2).bind fun q1 => some q1
theorem T_m_nextOf (b : Bool) (L : Nat) (xs : Nat → Int32) (d : Nat) (hd : 1 ≤ d) (h : pm_H) (s_h : h.1 = tb_SH) (l0 : Int32) (l1 : Int32) (l2 : Int32) {r : Int32} (hm : m_nextOf l0 l1 l2 h = some r) : PC b L xs d 217 [(Value.int l0), (Value.int l1), (Value.int l2)] h (fun (v0 : Option Value) (h2 : pm_H) => v0 = (some (Value.int r)) ∧ h2 = h ∧ h2.1 = tb_SH) := by
  refine pc_in e217 (ls0 := [(Value.int l0), (Value.int l1), (Value.int l2), Value.retAddr 0]) rfl ?_
  have key : ∀ (Q : Option Value → pm_H → Prop), (Q (some (Value.int r)) h) → PW b L xs d 217 0 0 0 [(Value.int l0), (Value.int l1), (Value.int l2), Value.retAddr 0] [] h Q := by
    intro Q hE
    rw [m_nextOf] at hm
    refine pw_l (pc := 0) d217_0 rfl rfl rfl ?_
    refine pw_t (pc := 1) d217_1 rfl rfl rfl rfl ?_
    obtain ⟨q1, e_q1, hm⟩ := ob_x hm
    refine wh_ind e_q1 (fun s : Int32 => ∀ w2 : Value, PW b L xs d 217 0 0 2 [(Value.int l0), (Value.int l1), w2, (Value.int s)] [] h Q) (fun s s2 hf ih w2 => t_m_nextOf_2 b L xs d hd h s_h l0 l1 s w2  hf ih) (fun s hf w2 => t_m_nextOf_2 b L xs d hd h s_h l0 l1 s w2  hf ?_)   (Value.int l2)
    intro w0 w1 w2
    refine pw_l (pc := 30) d217_30 rfl rfl rfl ?_
    obtain rfl := Option.some.inj hm
    refine pw_ri (pc := 31) d217_31 t217 rfl ?_
    exact hE
  exact key _ ⟨rfl, rfl, s_h⟩
def E_m_findsRow_13 (b : Bool) (L : Nat) (xs : Nat → Int32) (d : Nat) (Q : Option Value → pm_H → Prop) (l0 : Nat) (l1 : Int32) (l2 : Int32) (l3 : Int32) (l4 : Int32) : ((Int32 × Int32 × pm_H) ⊕ pm_H ⊕ pm_H) → Prop
  | .inl s => s.2.2.1 = tb_SH → ∀ w7 : Value, PW b L xs d 218 0 0 13 [(Value.ref l0), (Value.int l1), (Value.int l2), (Value.int l3), (Value.int l4), (Value.int s.1), (Value.int s.2.1), w7] [] s.2.2 Q
  | .inr (.inl e) => e.1 = tb_SH → ∀ w0 w1 w2 w3 w4 w5 w6 w7 : Value, PW b L xs d 218 0 0 64 [w0, w1, w2, w3, w4, w5, w6, w7] [] e Q
  | .inr (.inr e) => e.1 = tb_SH → ∀ w0 w1 w2 w3 w4 w5 w6 w7 : Value, PW b L xs d 218 0 0 168 [w0, w1, w2, w3, w4, w5, w6, w7] [] e Q
noncomputable def m_findsRow_66 (l0 : Nat) (l1 : Int32) (l2 : Int32) (l3 : Int32) (l4 : Int32) (l5 : Int32) (l6 : Int32) (l7 : Int32) (h : pm_H) : Option ((Int32 × Int32 × pm_H) ⊕ pm_H ⊕ pm_H) := if ¬ l7 = (Int8.ofInt 11).toInt32 then ((gA h l0 24 .int).bind fun y2 => if mi_in l6 (mi_n y2) = true then bd (pm_setI h y2 l6.toNatClampNeg l7) fun h4 => (m_bits ((l2 &&& (l5 ^^^ (Int32.ofInt (-1)))) &&& (((Int32.ofInt 1) <<< (l7 &&& 31)) ^^^ (Int32.ofInt (-1)))) h4).bind fun q5 => if q5 ≤ ((l4 - l6) - (Int32.ofInt 1)) then (if l4 ≤ (l6 + Int32.ofInt 1) then (some (.inl ((l5 ||| ((Int32.ofInt 1) <<< (l7 &&& 31))), (l6 + Int32.ofInt 1), h4))) else ((gA h4 l0 24 .int).bind fun y8 => if mi_in (l6 + Int32.ofInt 1) (mi_n y8) = true then bd (pm_setI h4 y8 (l6 + Int32.ofInt 1).toNatClampNeg (Int32.ofInt (-1))) fun h10 => some (.inl ((l5 ||| ((Int32.ofInt 1) <<< (l7 &&& 31))), (l6 + Int32.ofInt 1), h10)) else none)) else (some (.inl (l5, l6, h4))) else none) else (if (l6 + Int32.ofInt (-1)) < 0 then (some (.inl (l5, (l6 + Int32.ofInt (-1)), h))) else ((gA h l0 24 .int).bind fun y12 => if mi_in (l6 + Int32.ofInt (-1)) (mi_n y12) = true then some (.inl ((l5 &&& (((Int32.ofInt 1) <<< ((h.2.1 y12 (l6 + Int32.ofInt (-1)).toNatClampNeg) &&& 31)) ^^^ (Int32.ofInt (-1)))), (l6 + Int32.ofInt (-1)), h)) else none))
theorem t_m_findsRow_66 (b : Bool) (L : Nat) (xs : Nat → Int32) (d : Nat) (hd : 4 ≤ d) {Q : Option Value → pm_H → Prop} (h : pm_H) (s_h : h.1 = tb_SH) (l0 : Nat) (l1 : Int32) (l2 : Int32) (l3 : Int32) (l4 : Int32) (l5 : Int32) (l6 : Int32) (l7 : Int32) (f_l0 : mi_o l0 10 = true) {r : ((Int32 × Int32 × pm_H) ⊕ pm_H ⊕ pm_H)} (hm : m_findsRow_66 l0 l1 l2 l3 l4 l5 l6 l7 h = some r) (hE : E_m_findsRow_13 b L xs d Q l0 l1 l2 l3 l4 r) : PW b L xs d 218 0 0 66 [(Value.ref l0), (Value.int l1), (Value.int l2), (Value.int l3), (Value.int l4), (Value.int l5), (Value.int l6), (Value.int l7)] [] h Q := by
  rw [m_findsRow_66] at hm
  refine pw_l (pc := 66) d218_66 rfl rfl rfl ?_
  refine pw_s (pc := 68) d218_68 rfl rfl ?_
  refine pw_ine (pc := 70) (t := 100) d218_70 (by decide) (fun c1 => ?_) (fun c1 => ?_)
  · rw [if_pos c1] at hm
    refine pw_l (pc := 100) d218_100 rfl rfl rfl ?_
    obtain ⟨y2, e_y2, hm⟩ := ob_x hm
    have f_y2 := gA_x e_y2
    refine pw_gr (pc := 101) d218_101 (k218_45 b) (sho s_h f_l0) f10_24 f_y2.1 ?_
    refine pw_l (pc := 104) d218_104 rfl rfl rfl ?_
    refine pw_l (pc := 106) d218_106 rfl rfl rfl ?_
    obtain ⟨g3, hm⟩ := gd_x hm
    refine pw_si (pc := 108) d218_108 (sha s_h f_y2.2) (mi_in_x g3) ?_
    obtain ⟨h4, e_h4, hm⟩ := bd_x hm
    rw [e_h4]
    have s_h4 : h4.1 = tb_SH := by rw [← e_h4]; exact s_h
    refine pw_l (pc := 109) d218_109 rfl rfl rfl ?_
    refine pw_l (pc := 110) d218_110 rfl rfl rfl ?_
    refine pw_s (pc := 112) d218_112 rfl rfl ?_
    refine pw_s (pc := 113) d218_113 rfl rfl ?_
    refine pw_s (pc := 114) d218_114 rfl rfl ?_
    refine pw_s (pc := 115) d218_115 rfl rfl ?_
    refine pw_l (pc := 116) d218_116 rfl rfl rfl ?_
    refine pw_s (pc := 118) d218_118 rfl rfl ?_
    refine pw_s (pc := 119) d218_119 rfl rfl ?_
    refine pw_s (pc := 120) d218_120 rfl rfl ?_
    refine pw_s (pc := 121) d218_121 rfl rfl ?_
    obtain ⟨q5, e_q5, hm⟩ := ob_x hm
    refine pw_u (pc := 122) (by omega) d218_122 (k218_336 b) (by decide) m150 (Nat.le_of_ble_eq_true rfl) (Nat.le_of_ble_eq_true rfl) (Nat.le_of_ble_eq_true rfl) rfl rfl (T_m_bits b L xs (d - 1) (by omega) h4 s_h4 ((l2 &&& (l5 ^^^ (Int32.ofInt (-1)))) &&& (((Int32.ofInt 1) <<< (l7 &&& 31)) ^^^ (Int32.ofInt (-1))))  e_q5) (fun v0 h0 hq => ?_)
    obtain ⟨rfl, hh0, s_q5⟩ := hq
    rw [hh0] at s_q5 ⊢
    simp only [Option.toList_some, List.cons_append, List.nil_append]
    refine pw_l (pc := 125) d218_125 rfl rfl rfl ?_
    refine pw_l (pc := 127) d218_127 rfl rfl rfl ?_
    refine pw_s (pc := 129) d218_129 rfl rfl ?_
    refine pw_s (pc := 130) d218_130 rfl rfl ?_
    refine pw_s (pc := 131) d218_131 rfl rfl ?_
    refine pw_ile (pc := 132) (t := 138) d218_132 (by decide) (fun c6 => ?_) (fun c6 => ?_)
    · rw [if_pos c6] at hm
      refine pw_l (pc := 138) d218_138 rfl rfl rfl ?_
      refine pw_s (pc := 140) d218_140 rfl rfl ?_
      refine pw_l (pc := 141) d218_141 rfl rfl rfl ?_
      refine pw_s (pc := 143) d218_143 rfl rfl ?_
      refine pw_s (pc := 144) d218_144 rfl rfl ?_
      refine pw_t (pc := 145) d218_145 rfl rfl rfl rfl ?_
      refine pw_t (pc := 147) d218_147 rfl rfl rfl rfl ?_
      refine pw_l (pc := 150) d218_150 rfl rfl rfl ?_
      refine pw_l (pc := 152) d218_152 rfl rfl rfl ?_
      refine pw_ige (pc := 154) (t := 165) d218_154 (by decide) (fun c7 => ?_) (fun c7 => ?_)
      · rw [if_pos c7] at hm
        refine pw_go (pc := 165) (t := 13) d218_165 (by decide) ?_
        obtain rfl := Option.some.inj hm
        exact hE s_h4  (Value.int l7)
      · rw [if_neg c7] at hm
        refine pw_l (pc := 157) d218_157 rfl rfl rfl ?_
        obtain ⟨y8, e_y8, hm⟩ := ob_x hm
        have f_y8 := gA_x e_y8
        refine pw_gr (pc := 158) d218_158 (k218_45 b) (sho s_h4 f_l0) f10_24 f_y8.1 ?_
        refine pw_l (pc := 161) d218_161 rfl rfl rfl ?_
        refine pw_s (pc := 163) d218_163 rfl rfl ?_
        obtain ⟨g9, hm⟩ := gd_x hm
        refine pw_si (pc := 164) d218_164 (sha s_h4 f_y8.2) (mi_in_x g9) ?_
        obtain ⟨h10, e_h10, hm⟩ := bd_x hm
        rw [e_h10]
        have s_h10 : h10.1 = tb_SH := by rw [← e_h10]; exact s_h4
        refine pw_go (pc := 165) (t := 13) d218_165 (by decide) ?_
        obtain rfl := Option.some.inj hm
        exact hE s_h10  (Value.int l7)
    · rw [if_neg c6] at hm
      refine pw_go (pc := 135) (t := 13) d218_135 (by decide) ?_
      obtain rfl := Option.some.inj hm
      exact hE s_h4  (Value.int l7)
  · rw [if_neg c1] at hm
    refine pw_t (pc := 73) d218_73 rfl rfl rfl rfl ?_
    refine pw_l (pc := 76) d218_76 rfl rfl rfl ?_
    refine pw_zlt (pc := 78) (t := 13) d218_78 (by decide) (fun c11 => ?_) (fun c11 => ?_)
    · rw [if_pos c11] at hm
      obtain rfl := Option.some.inj hm
      exact hE s_h  (Value.int l7)
    · rw [if_neg c11] at hm
      refine pw_l (pc := 81) d218_81 rfl rfl rfl ?_
      refine pw_s (pc := 83) d218_83 rfl rfl ?_
      refine pw_l (pc := 84) d218_84 rfl rfl rfl ?_
      obtain ⟨y12, e_y12, hm⟩ := ob_x hm
      have f_y12 := gA_x e_y12
      refine pw_gr (pc := 85) d218_85 (k218_45 b) (sho s_h f_l0) f10_24 f_y12.1 ?_
      refine pw_l (pc := 88) d218_88 rfl rfl rfl ?_
      obtain ⟨g13, hm⟩ := gd_x hm
      refine pw_ai (pc := 90) d218_90 (sha s_h f_y12.2) (mi_in_x g13) ?_
      refine pw_s (pc := 91) d218_91 rfl rfl ?_
      refine pw_s (pc := 92) d218_92 rfl rfl ?_
      refine pw_s (pc := 93) d218_93 rfl rfl ?_
      refine pw_s (pc := 94) d218_94 rfl rfl ?_
      refine pw_t (pc := 95) d218_95 rfl rfl rfl rfl ?_
      refine pw_go (pc := 97) (t := 13) d218_97 (by decide) ?_
      obtain rfl := Option.some.inj hm
      exact hE s_h  (Value.int l7)
noncomputable def m_findsRow_45 (l0 : Nat) (l1 : Int32) (l2 : Int32) (l3 : Int32) (l4 : Int32) (l5 : Int32) (l6 : Int32) (z0 : Int32) (h : pm_H) : Option ((Int32 × Int32 × pm_H) ⊕ pm_H ⊕ pm_H) := if ¬ l6 = l4 then (m_findsRow_66 l0 l1 l2 l3 l4 l5 l6 z0 h) else ((m_saysRow l0 l4 h).bind fun q2 => if ¬ q2.1 = l3 then (m_findsRow_66 l0 l1 l2 l3 l4 l5 l6 z0 q2.2) else (some (.inr (.inl q2.2))))
theorem t_m_findsRow_45 (b : Bool) (L : Nat) (xs : Nat → Int32) (d : Nat) (hd : 4 ≤ d) {Q : Option Value → pm_H → Prop} (h : pm_H) (s_h : h.1 = tb_SH) (l0 : Nat) (l1 : Int32) (l2 : Int32) (l3 : Int32) (l4 : Int32) (l5 : Int32) (l6 : Int32) (z0 : Int32) (w7 : Value) (f_l0 : mi_o l0 10 = true) {r : ((Int32 × Int32 × pm_H) ⊕ pm_H ⊕ pm_H)} (hm : m_findsRow_45 l0 l1 l2 l3 l4 l5 l6 z0 h = some r) (hE : E_m_findsRow_13 b L xs d Q l0 l1 l2 l3 l4 r) : PW b L xs d 218 0 0 45 [(Value.ref l0), (Value.int l1), (Value.int l2), (Value.int l3), (Value.int l4), (Value.int l5), (Value.int l6), w7] [(Value.int z0)] h Q := by
  rw [m_findsRow_45] at hm
  refine pw_t (pc := 45) d218_45 rfl rfl rfl rfl ?_
  refine pw_l (pc := 47) d218_47 rfl rfl rfl ?_
  refine pw_l (pc := 49) d218_49 rfl rfl rfl ?_
  refine pw_ine (pc := 51) (t := 66) d218_51 (by decide) (fun c1 => ?_) (fun c1 => ?_)
  · rw [if_pos c1] at hm
    exact t_m_findsRow_66 b L xs d hd h s_h l0 l1 l2 l3 l4 l5 l6 z0  f_l0  hm hE
  · rw [if_neg c1] at hm
    refine pw_l (pc := 54) d218_54 rfl rfl rfl ?_
    refine pw_l (pc := 55) d218_55 rfl rfl rfl ?_
    obtain ⟨q2, e_q2, hm⟩ := ob_x hm
    refine pw_v (pc := 57) (k := l0) (by omega) d218_57 (k218_333 b) (by decide) m216 (by decide) rfl (sho s_h f_l0) (Nat.le_of_ble_eq_true rfl) (Nat.le_of_ble_eq_true rfl) rfl rfl (T_m_saysRow b L xs (d - 1) (by omega) h s_h l0 l4 f_l0 e_q2) (fun v0 h0 hq => ?_)
    obtain ⟨rfl, hh0, s_q2⟩ := hq
    rw [hh0] at s_q2 ⊢
    simp only [Option.toList_some, List.cons_append, List.nil_append]
    refine pw_l (pc := 60) d218_60 rfl rfl rfl ?_
    refine pw_ine (pc := 61) (t := 66) d218_61 (by decide) (fun c3 => ?_) (fun c3 => ?_)
    · rw [if_pos c3] at hm
      exact t_m_findsRow_66 b L xs d hd q2.2 s_q2 l0 l1 l2 l3 l4 l5 l6 z0  f_l0  hm hE
    · rw [if_neg c3] at hm
      obtain rfl := Option.some.inj hm
      exact hE s_q2  (Value.ref l0) (Value.int l1) (Value.int l2) (Value.int l3) (Value.int l4) (Value.int l5) (Value.int l6) (Value.int z0)
noncomputable def m_findsRow_13 (l0 : Nat) (l1 : Int32) (l2 : Int32) (l3 : Int32) (l4 : Int32) (l5 : Int32) (l6 : Int32) (h : pm_H) : Option ((Int32 × Int32 × pm_H) ⊕ pm_H ⊕ pm_H) := if l6 < 0 then (some (.inr (.inr h))) else (if ¬ l6 = l4 then ((gA h l0 24 .int).bind fun y3 => if mi_in l6 (mi_n y3) = true then (m_nextOf l1 l5 ((h.2.1 y3 l6.toNatClampNeg) + (Int32.ofInt 1)) h).bind fun q5 => m_findsRow_45 l0 l1 l2 l3 l4 l5 l6 q5 h else none) else (m_findsRow_45 l0 l1 l2 l3 l4 l5 l6 ((Int8.ofInt 11).toInt32) h))
theorem t_m_findsRow_13 (b : Bool) (L : Nat) (xs : Nat → Int32) (d : Nat) (hd : 4 ≤ d) {Q : Option Value → pm_H → Prop} (h : pm_H) (s_h : h.1 = tb_SH) (l0 : Nat) (l1 : Int32) (l2 : Int32) (l3 : Int32) (l4 : Int32) (l5 : Int32) (l6 : Int32) (w7 : Value) (f_l0 : mi_o l0 10 = true) {r : ((Int32 × Int32 × pm_H) ⊕ pm_H ⊕ pm_H)} (hm : m_findsRow_13 l0 l1 l2 l3 l4 l5 l6 h = some r) (hE : E_m_findsRow_13 b L xs d Q l0 l1 l2 l3 l4 r) : PW b L xs d 218 0 0 13 [(Value.ref l0), (Value.int l1), (Value.int l2), (Value.int l3), (Value.int l4), (Value.int l5), (Value.int l6), w7] [] h Q := by
  rw [m_findsRow_13] at hm
  refine pw_l (pc := 13) d218_13 rfl rfl rfl ?_
  refine pw_zlt (pc := 15) (t := 168) d218_15 (by decide) (fun c1 => ?_) (fun c1 => ?_)
  · rw [if_pos c1] at hm
    obtain rfl := Option.some.inj hm
    exact hE s_h  (Value.ref l0) (Value.int l1) (Value.int l2) (Value.int l3) (Value.int l4) (Value.int l5) (Value.int l6) w7
  · rw [if_neg c1] at hm
    refine pw_l (pc := 18) d218_18 rfl rfl rfl ?_
    refine pw_l (pc := 20) d218_20 rfl rfl rfl ?_
    refine pw_ine (pc := 22) (t := 30) d218_22 (by decide) (fun c2 => ?_) (fun c2 => ?_)
    · rw [if_pos c2] at hm
      refine pw_l (pc := 30) d218_30 rfl rfl rfl ?_
      refine pw_l (pc := 31) d218_31 rfl rfl rfl ?_
      refine pw_l (pc := 33) d218_33 rfl rfl rfl ?_
      obtain ⟨y3, e_y3, hm⟩ := ob_x hm
      have f_y3 := gA_x e_y3
      refine pw_gr (pc := 34) d218_34 (k218_45 b) (sho s_h f_l0) f10_24 f_y3.1 ?_
      refine pw_l (pc := 37) d218_37 rfl rfl rfl ?_
      obtain ⟨g4, hm⟩ := gd_x hm
      refine pw_ai (pc := 39) d218_39 (sha s_h f_y3.2) (mi_in_x g4) ?_
      refine pw_s (pc := 40) d218_40 rfl rfl ?_
      refine pw_s (pc := 41) d218_41 rfl rfl ?_
      obtain ⟨q5, e_q5, hm⟩ := ob_x hm
      refine pw_u (pc := 42) (by omega) d218_42 (k218_330 b) (by decide) m217 (Nat.le_of_ble_eq_true rfl) (Nat.le_of_ble_eq_true rfl) (Nat.le_of_ble_eq_true rfl) rfl rfl (T_m_nextOf b L xs (d - 1) (by omega) h s_h l1 l5 ((h.2.1 y3 l6.toNatClampNeg) + (Int32.ofInt 1))  e_q5) (fun v0 h0 hq => ?_)
      obtain ⟨rfl, hh0, s_q5⟩ := hq
      rw [hh0] at s_q5 ⊢
      simp only [Option.toList_some, List.cons_append, List.nil_append]
      exact t_m_findsRow_45 b L xs d hd h s_h l0 l1 l2 l3 l4 l5 l6 q5 w7 f_l0  hm hE
    · rw [if_neg c2] at hm
      refine pw_s (pc := 25) d218_25 rfl rfl ?_
      refine pw_go (pc := 27) (t := 45) d218_27 (by decide) ?_
      exact t_m_findsRow_45 b L xs d hd h s_h l0 l1 l2 l3 l4 l5 l6 ((Int8.ofInt 11).toInt32) w7 f_l0  hm hE
noncomputable def m_findsRow (l0 : Nat) (l1 : Int32) (l2 : Int32) (l3 : Int32) (l4 : Int32) (h : pm_H) : Option (Int32 × pm_H) := (gA h l0 24 .int).bind fun y1 => if mi_in (Int32.ofInt 0) (mi_n y1) = true then bd (pm_setI h y1 (Int32.ofInt 0).toNatClampNeg (Int32.ofInt (-1))) fun h3 => (wh (fun s : (Int32 × Int32 × pm_H) => m_findsRow_13 l0 l1 l2 l3 l4 s.1 s.2.1 s.2.2) ((Int32.ofInt 0), (Int32.ofInt 0), h3)).bind fun q4 => (match q4 with | (.inl eq4_0) => some ((Int32.ofInt 1), eq4_0) | (.inr eq4_1) => some ((Int32.ofInt 0), eq4_1)) else none
theorem T_m_findsRow (b : Bool) (L : Nat) (xs : Nat → Int32) (d : Nat) (hd : 4 ≤ d) (h : pm_H) (s_h : h.1 = tb_SH) (l0 : Nat) (l1 : Int32) (l2 : Int32) (l3 : Int32) (l4 : Int32) (f_l0 : mi_o l0 10 = true) {r : (Int32 × pm_H)} (hm : m_findsRow l0 l1 l2 l3 l4 h = some r) : PC b L xs d 218 [(Value.ref l0), (Value.int l1), (Value.int l2), (Value.int l3), (Value.int l4)] h (fun (v0 : Option Value) (h2 : pm_H) => v0 = (some (Value.int r.1)) ∧ h2 = r.2 ∧ h2.1 = tb_SH) := by
  refine pc_in e218 (ls0 := [(Value.ref l0), (Value.int l1), (Value.int l2), (Value.int l3), (Value.int l4), Value.retAddr 0, Value.retAddr 0, Value.retAddr 0]) rfl ?_
  have key : ∀ (Q : Option Value → pm_H → Prop), (r.2.1 = tb_SH → Q (some (Value.int r.1)) r.2) → PW b L xs d 218 0 0 0 [(Value.ref l0), (Value.int l1), (Value.int l2), (Value.int l3), (Value.int l4), Value.retAddr 0, Value.retAddr 0, Value.retAddr 0] [] h Q := by
    intro Q hE
    rw [m_findsRow] at hm
    refine pw_s (pc := 0) d218_0 rfl rfl ?_
    refine pw_t (pc := 1) d218_1 rfl rfl rfl rfl ?_
    refine pw_s (pc := 3) d218_3 rfl rfl ?_
    refine pw_t (pc := 4) d218_4 rfl rfl rfl rfl ?_
    refine pw_l (pc := 6) d218_6 rfl rfl rfl ?_
    obtain ⟨y1, e_y1, hm⟩ := ob_x hm
    have f_y1 := gA_x e_y1
    refine pw_gr (pc := 7) d218_7 (k218_45 b) (sho s_h f_l0) f10_24 f_y1.1 ?_
    refine pw_s (pc := 10) d218_10 rfl rfl ?_
    refine pw_s (pc := 11) d218_11 rfl rfl ?_
    obtain ⟨g2, hm⟩ := gd_x hm
    refine pw_si (pc := 12) d218_12 (sha s_h f_y1.2) (mi_in_x g2) ?_
    obtain ⟨h3, e_h3, hm⟩ := bd_x hm
    rw [e_h3]
    have s_h3 : h3.1 = tb_SH := by rw [← e_h3]; exact s_h
    obtain ⟨q4, e_q4, hm⟩ := ob_x hm
    refine wh_ind e_q4 (fun s : (Int32 × Int32 × pm_H) => s.2.2.1 = tb_SH → ∀ w7 : Value, PW b L xs d 218 0 0 13 [(Value.ref l0), (Value.int l1), (Value.int l2), (Value.int l3), (Value.int l4), (Value.int s.1), (Value.int s.2.1), w7] [] s.2.2 Q) (fun s s2 hf ih sx w7 => t_m_findsRow_13 b L xs d hd s.2.2 sx l0 l1 l2 l3 l4 s.1 s.2.1 w7 f_l0 hf ih) (fun s hf sx w7 => t_m_findsRow_13 b L xs d hd s.2.2 sx l0 l1 l2 l3 l4 s.1 s.2.1 w7 f_l0 hf ?_) s_h3  (Value.retAddr 0)
    rcases q4 with eq4_0 | eq4_1
    · dsimp only at hm
      intro s_q4_0 w0 w1 w2 w3 w4 w5 w6 w7
      refine pw_s (pc := 64) d218_64 rfl rfl ?_
      obtain rfl := Option.some.inj hm
      refine pw_ri (pc := 65) d218_65 t218 rfl ?_
      exact hE s_q4_0
    · dsimp only at hm
      intro s_q4_1 w0 w1 w2 w3 w4 w5 w6 w7
      refine pw_s (pc := 168) d218_168 rfl rfl ?_
      obtain rfl := Option.some.inj hm
      refine pw_ri (pc := 169) d218_169 t218 rfl ?_
      exact hE s_q4_1
  exact key _ (fun q => ⟨rfl, rfl, q⟩)
def E_m_marksRows_12 (b : Bool) (L : Nat) (xs : Nat → Int32) (d : Nat) (Q : Option Value → pm_H → Prop) (l0 : Nat) (l1 : Int32) (l2 : Int32) : ((Int32 × Int32 × pm_H) ⊕ pm_H) → Prop
  | .inl s => s.2.2.1 = tb_SH → ∀ w5 w6 : Value, PW b L xs d 219 0 0 12 [(Value.ref l0), (Value.int l1), (Value.int l2), (Value.int s.1), (Value.int s.2.1), w5, w6] [] s.2.2 Q
  | .inr e => e.1 = tb_SH → ∀ w0 w1 w2 w3 w4 w5 w6 : Value, PW b L xs d 219 0 0 147 [w0, w1, w2, w3, w4, w5, w6] [] e Q
noncomputable def m_marksRows_79 (l0 : Nat) (l1 : Int32) (l2 : Int32) (l3 : Int32) (l4 : Int32) (l5 : Int32) (h : pm_H) : Option ((Int32 × Int32 × pm_H) ⊕ pm_H) := if ¬ l5 = (Int8.ofInt 11).toInt32 then ((gA h l0 24 .int).bind fun y2 => if mi_in l4 (mi_n y2) = true then bd (pm_setI h y2 l4.toNatClampNeg l5) fun h4 => if l2 ≤ (l4 + Int32.ofInt 1) then (some (.inl ((l3 ||| ((Int32.ofInt 1) <<< (l5 &&& 31))), (l4 + Int32.ofInt 1), h4))) else ((gA h4 l0 24 .int).bind fun y6 => if mi_in (l4 + Int32.ofInt 1) (mi_n y6) = true then bd (pm_setI h4 y6 (l4 + Int32.ofInt 1).toNatClampNeg (Int32.ofInt (-1))) fun h8 => some (.inl ((l3 ||| ((Int32.ofInt 1) <<< (l5 &&& 31))), (l4 + Int32.ofInt 1), h8)) else none) else none) else (if (l4 + Int32.ofInt (-1)) < 0 then (some (.inl (l3, (l4 + Int32.ofInt (-1)), h))) else ((gA h l0 24 .int).bind fun y10 => if mi_in (l4 + Int32.ofInt (-1)) (mi_n y10) = true then some (.inl ((l3 &&& (((Int32.ofInt 1) <<< ((h.2.1 y10 (l4 + Int32.ofInt (-1)).toNatClampNeg) &&& 31)) ^^^ (Int32.ofInt (-1)))), (l4 + Int32.ofInt (-1)), h)) else none))
theorem t_m_marksRows_79 (b : Bool) (L : Nat) (xs : Nat → Int32) (d : Nat) (hd : 4 ≤ d) {Q : Option Value → pm_H → Prop} (h : pm_H) (s_h : h.1 = tb_SH) (l0 : Nat) (l1 : Int32) (l2 : Int32) (l3 : Int32) (l4 : Int32) (l5 : Int32) (w6 : Value) (f_l0 : mi_o l0 10 = true) {r : ((Int32 × Int32 × pm_H) ⊕ pm_H)} (hm : m_marksRows_79 l0 l1 l2 l3 l4 l5 h = some r) (hE : E_m_marksRows_12 b L xs d Q l0 l1 l2 r) : PW b L xs d 219 0 0 79 [(Value.ref l0), (Value.int l1), (Value.int l2), (Value.int l3), (Value.int l4), (Value.int l5), w6] [] h Q := by
  rw [m_marksRows_79] at hm
  refine pw_l (pc := 79) d219_79 rfl rfl rfl ?_
  refine pw_s (pc := 81) d219_81 rfl rfl ?_
  refine pw_ine (pc := 83) (t := 111) d219_83 (by decide) (fun c1 => ?_) (fun c1 => ?_)
  · rw [if_pos c1] at hm
    refine pw_l (pc := 111) d219_111 rfl rfl rfl ?_
    obtain ⟨y2, e_y2, hm⟩ := ob_x hm
    have f_y2 := gA_x e_y2
    refine pw_gr (pc := 112) d219_112 (k219_45 b) (sho s_h f_l0) f10_24 f_y2.1 ?_
    refine pw_l (pc := 115) d219_115 rfl rfl rfl ?_
    refine pw_l (pc := 117) d219_117 rfl rfl rfl ?_
    obtain ⟨g3, hm⟩ := gd_x hm
    refine pw_si (pc := 119) d219_119 (sha s_h f_y2.2) (mi_in_x g3) ?_
    obtain ⟨h4, e_h4, hm⟩ := bd_x hm
    rw [e_h4]
    have s_h4 : h4.1 = tb_SH := by rw [← e_h4]; exact s_h
    refine pw_l (pc := 120) d219_120 rfl rfl rfl ?_
    refine pw_s (pc := 121) d219_121 rfl rfl ?_
    refine pw_l (pc := 122) d219_122 rfl rfl rfl ?_
    refine pw_s (pc := 124) d219_124 rfl rfl ?_
    refine pw_s (pc := 125) d219_125 rfl rfl ?_
    refine pw_t (pc := 126) d219_126 rfl rfl rfl rfl ?_
    refine pw_t (pc := 127) d219_127 rfl rfl rfl rfl ?_
    refine pw_l (pc := 130) d219_130 rfl rfl rfl ?_
    refine pw_l (pc := 132) d219_132 rfl rfl rfl ?_
    refine pw_ige (pc := 133) (t := 144) d219_133 (by decide) (fun c5 => ?_) (fun c5 => ?_)
    · rw [if_pos c5] at hm
      refine pw_go (pc := 144) (t := 12) d219_144 (by decide) ?_
      obtain rfl := Option.some.inj hm
      exact hE s_h4  (Value.int l5) w6
    · rw [if_neg c5] at hm
      refine pw_l (pc := 136) d219_136 rfl rfl rfl ?_
      obtain ⟨y6, e_y6, hm⟩ := ob_x hm
      have f_y6 := gA_x e_y6
      refine pw_gr (pc := 137) d219_137 (k219_45 b) (sho s_h4 f_l0) f10_24 f_y6.1 ?_
      refine pw_l (pc := 140) d219_140 rfl rfl rfl ?_
      refine pw_s (pc := 142) d219_142 rfl rfl ?_
      obtain ⟨g7, hm⟩ := gd_x hm
      refine pw_si (pc := 143) d219_143 (sha s_h4 f_y6.2) (mi_in_x g7) ?_
      obtain ⟨h8, e_h8, hm⟩ := bd_x hm
      rw [e_h8]
      have s_h8 : h8.1 = tb_SH := by rw [← e_h8]; exact s_h4
      refine pw_go (pc := 144) (t := 12) d219_144 (by decide) ?_
      obtain rfl := Option.some.inj hm
      exact hE s_h8  (Value.int l5) w6
  · rw [if_neg c1] at hm
    refine pw_t (pc := 86) d219_86 rfl rfl rfl rfl ?_
    refine pw_l (pc := 89) d219_89 rfl rfl rfl ?_
    refine pw_zlt (pc := 91) (t := 12) d219_91 (by decide) (fun c9 => ?_) (fun c9 => ?_)
    · rw [if_pos c9] at hm
      obtain rfl := Option.some.inj hm
      exact hE s_h  (Value.int l5) w6
    · rw [if_neg c9] at hm
      refine pw_l (pc := 94) d219_94 rfl rfl rfl ?_
      refine pw_s (pc := 95) d219_95 rfl rfl ?_
      refine pw_l (pc := 96) d219_96 rfl rfl rfl ?_
      obtain ⟨y10, e_y10, hm⟩ := ob_x hm
      have f_y10 := gA_x e_y10
      refine pw_gr (pc := 97) d219_97 (k219_45 b) (sho s_h f_l0) f10_24 f_y10.1 ?_
      refine pw_l (pc := 100) d219_100 rfl rfl rfl ?_
      obtain ⟨g11, hm⟩ := gd_x hm
      refine pw_ai (pc := 102) d219_102 (sha s_h f_y10.2) (mi_in_x g11) ?_
      refine pw_s (pc := 103) d219_103 rfl rfl ?_
      refine pw_s (pc := 104) d219_104 rfl rfl ?_
      refine pw_s (pc := 105) d219_105 rfl rfl ?_
      refine pw_s (pc := 106) d219_106 rfl rfl ?_
      refine pw_t (pc := 107) d219_107 rfl rfl rfl rfl ?_
      refine pw_go (pc := 108) (t := 12) d219_108 (by decide) ?_
      obtain rfl := Option.some.inj hm
      exact hE s_h  (Value.int l5) w6
noncomputable def m_marksRows_77 (l0 : Nat) (l1 : Int32) (l2 : Int32) (l3 : Int32) (l4 : Int32) (l5 : Int32) (z0 : Int32) (z1 : Int32) (z2 : Int32) (z3 : Nat) (h : pm_H) : Option ((Int32 × Int32 × pm_H) ⊕ pm_H) := if mi_in z2 (mi_n z3) = true then bd (pm_setI h z3 z2.toNatClampNeg (z1 ||| z0)) fun h2 => m_marksRows_79 l0 l1 l2 l3 l4 l5 h2 else none
theorem t_m_marksRows_77 (b : Bool) (L : Nat) (xs : Nat → Int32) (d : Nat) (hd : 4 ≤ d) {Q : Option Value → pm_H → Prop} (h : pm_H) (s_h : h.1 = tb_SH) (l0 : Nat) (l1 : Int32) (l2 : Int32) (l3 : Int32) (l4 : Int32) (l5 : Int32) (z0 : Int32) (z1 : Int32) (z2 : Int32) (z3 : Nat) (w6 : Value) (f_l0 : mi_o l0 10 = true) (f_z3 : mi_a z3 .int = true) {r : ((Int32 × Int32 × pm_H) ⊕ pm_H)} (hm : m_marksRows_77 l0 l1 l2 l3 l4 l5 z0 z1 z2 z3 h = some r) (hE : E_m_marksRows_12 b L xs d Q l0 l1 l2 r) : PW b L xs d 219 0 0 77 [(Value.ref l0), (Value.int l1), (Value.int l2), (Value.int l3), (Value.int l4), (Value.int l5), w6] [(Value.int z0), (Value.int z1), (Value.int z2), (Value.ref z3)] h Q := by
  rw [m_marksRows_77] at hm
  refine pw_s (pc := 77) d219_77 rfl rfl ?_
  obtain ⟨g1, hm⟩ := gd_x hm
  refine pw_si (pc := 78) d219_78 (sha s_h f_z3) (mi_in_x g1) ?_
  obtain ⟨h2, e_h2, hm⟩ := bd_x hm
  rw [e_h2]
  have s_h2 : h2.1 = tb_SH := by rw [← e_h2]; exact s_h
  exact t_m_marksRows_79 b L xs d hd h2 s_h2 l0 l1 l2 l3 l4 l5 w6 f_l0  hm hE
noncomputable def m_marksRows_42 (l0 : Nat) (l1 : Int32) (l2 : Int32) (l3 : Int32) (l4 : Int32) (z0 : Int32) (h : pm_H) : Option ((Int32 × Int32 × pm_H) ⊕ pm_H) := if ¬ l4 = l2 then (m_marksRows_79 l0 l1 l2 l3 l4 z0 h) else ((m_saysRow l0 l2 h).bind fun q2 => (gA q2.2 l0 26 .int).bind fun y3 => if mi_in l3 (mi_n y3) = true then if 0 ≤ q2.1 then (m_marksRows_77 l0 l1 l2 l3 l4 z0 ((Int32.ofInt 1) <<< (q2.1 &&& 31)) (q2.2.2.1 y3 l3.toNatClampNeg) l3 y3 q2.2) else (m_marksRows_77 l0 l1 l2 l3 l4 z0 (Int32.ofInt 0) (q2.2.2.1 y3 l3.toNatClampNeg) l3 y3 q2.2) else none)
theorem t_m_marksRows_42 (b : Bool) (L : Nat) (xs : Nat → Int32) (d : Nat) (hd : 4 ≤ d) {Q : Option Value → pm_H → Prop} (h : pm_H) (s_h : h.1 = tb_SH) (l0 : Nat) (l1 : Int32) (l2 : Int32) (l3 : Int32) (l4 : Int32) (z0 : Int32) (w5 : Value) (w6 : Value) (f_l0 : mi_o l0 10 = true) {r : ((Int32 × Int32 × pm_H) ⊕ pm_H)} (hm : m_marksRows_42 l0 l1 l2 l3 l4 z0 h = some r) (hE : E_m_marksRows_12 b L xs d Q l0 l1 l2 r) : PW b L xs d 219 0 0 42 [(Value.ref l0), (Value.int l1), (Value.int l2), (Value.int l3), (Value.int l4), w5, w6] [(Value.int z0)] h Q := by
  rw [m_marksRows_42] at hm
  refine pw_t (pc := 42) d219_42 rfl rfl rfl rfl ?_
  refine pw_l (pc := 44) d219_44 rfl rfl rfl ?_
  refine pw_l (pc := 46) d219_46 rfl rfl rfl ?_
  refine pw_ine (pc := 47) (t := 79) d219_47 (by decide) (fun c1 => ?_) (fun c1 => ?_)
  · rw [if_pos c1] at hm
    exact t_m_marksRows_79 b L xs d hd h s_h l0 l1 l2 l3 l4 z0 w6 f_l0  hm hE
  · rw [if_neg c1] at hm
    refine pw_l (pc := 50) d219_50 rfl rfl rfl ?_
    refine pw_l (pc := 51) d219_51 rfl rfl rfl ?_
    obtain ⟨q2, e_q2, hm⟩ := ob_x hm
    refine pw_v (pc := 52) (k := l0) (by omega) d219_52 (k219_333 b) (by decide) m216 (by decide) rfl (sho s_h f_l0) (Nat.le_of_ble_eq_true rfl) (Nat.le_of_ble_eq_true rfl) rfl rfl (T_m_saysRow b L xs (d - 1) (by omega) h s_h l0 l2 f_l0 e_q2) (fun v0 h0 hq => ?_)
    obtain ⟨rfl, hh0, s_q2⟩ := hq
    rw [hh0] at s_q2 ⊢
    simp only [Option.toList_some, List.cons_append, List.nil_append]
    refine pw_t (pc := 55) d219_55 rfl rfl rfl rfl ?_
    refine pw_l (pc := 57) d219_57 rfl rfl rfl ?_
    obtain ⟨y3, e_y3, hm⟩ := ob_x hm
    have f_y3 := gA_x e_y3
    refine pw_gr (pc := 58) d219_58 (k219_51 b) (sho s_q2 f_l0) f10_26 f_y3.1 ?_
    refine pw_l (pc := 61) d219_61 rfl rfl rfl ?_
    refine pw_s (pc := 62) d219_62 rfl rfl ?_
    obtain ⟨g4, hm⟩ := gd_x hm
    refine pw_ai (pc := 63) d219_63 (sha s_q2 f_y3.2) (mi_in_x g4) ?_
    refine pw_l (pc := 64) d219_64 rfl rfl rfl ?_
    refine pw_zge (pc := 66) (t := 73) d219_66 (by decide) (fun c5 => ?_) (fun c5 => ?_)
    · rw [if_pos c5] at hm
      refine pw_s (pc := 73) d219_73 rfl rfl ?_
      refine pw_l (pc := 74) d219_74 rfl rfl rfl ?_
      refine pw_s (pc := 76) d219_76 rfl rfl ?_
      exact t_m_marksRows_77 b L xs d hd q2.2 s_q2 l0 l1 l2 l3 l4 z0 ((Int32.ofInt 1) <<< (q2.1 &&& 31)) (q2.2.2.1 y3 l3.toNatClampNeg) l3 y3 (Value.int q2.1) f_l0 f_y3.2 hm hE
    · rw [if_neg c5] at hm
      refine pw_s (pc := 69) d219_69 rfl rfl ?_
      refine pw_go (pc := 70) (t := 77) d219_70 (by decide) ?_
      exact t_m_marksRows_77 b L xs d hd q2.2 s_q2 l0 l1 l2 l3 l4 z0 (Int32.ofInt 0) (q2.2.2.1 y3 l3.toNatClampNeg) l3 y3 (Value.int q2.1) f_l0 f_y3.2 hm hE
noncomputable def m_marksRows_12 (l0 : Nat) (l1 : Int32) (l2 : Int32) (l3 : Int32) (l4 : Int32) (h : pm_H) : Option ((Int32 × Int32 × pm_H) ⊕ pm_H) := if l4 < 0 then (some (.inr h)) else (if ¬ l4 = l2 then ((gA h l0 24 .int).bind fun y3 => if mi_in l4 (mi_n y3) = true then (m_nextOf l1 l3 ((h.2.1 y3 l4.toNatClampNeg) + (Int32.ofInt 1)) h).bind fun q5 => m_marksRows_42 l0 l1 l2 l3 l4 q5 h else none) else (m_marksRows_42 l0 l1 l2 l3 l4 ((Int8.ofInt 11).toInt32) h))
theorem t_m_marksRows_12 (b : Bool) (L : Nat) (xs : Nat → Int32) (d : Nat) (hd : 4 ≤ d) {Q : Option Value → pm_H → Prop} (h : pm_H) (s_h : h.1 = tb_SH) (l0 : Nat) (l1 : Int32) (l2 : Int32) (l3 : Int32) (l4 : Int32) (w5 : Value) (w6 : Value) (f_l0 : mi_o l0 10 = true) {r : ((Int32 × Int32 × pm_H) ⊕ pm_H)} (hm : m_marksRows_12 l0 l1 l2 l3 l4 h = some r) (hE : E_m_marksRows_12 b L xs d Q l0 l1 l2 r) : PW b L xs d 219 0 0 12 [(Value.ref l0), (Value.int l1), (Value.int l2), (Value.int l3), (Value.int l4), w5, w6] [] h Q := by
  rw [m_marksRows_12] at hm
  refine pw_l (pc := 12) d219_12 rfl rfl rfl ?_
  refine pw_zlt (pc := 14) (t := 147) d219_14 (by decide) (fun c1 => ?_) (fun c1 => ?_)
  · rw [if_pos c1] at hm
    obtain rfl := Option.some.inj hm
    exact hE s_h  (Value.ref l0) (Value.int l1) (Value.int l2) (Value.int l3) (Value.int l4) w5 w6
  · rw [if_neg c1] at hm
    refine pw_l (pc := 17) d219_17 rfl rfl rfl ?_
    refine pw_l (pc := 19) d219_19 rfl rfl rfl ?_
    refine pw_ine (pc := 20) (t := 28) d219_20 (by decide) (fun c2 => ?_) (fun c2 => ?_)
    · rw [if_pos c2] at hm
      refine pw_l (pc := 28) d219_28 rfl rfl rfl ?_
      refine pw_l (pc := 29) d219_29 rfl rfl rfl ?_
      refine pw_l (pc := 30) d219_30 rfl rfl rfl ?_
      obtain ⟨y3, e_y3, hm⟩ := ob_x hm
      have f_y3 := gA_x e_y3
      refine pw_gr (pc := 31) d219_31 (k219_45 b) (sho s_h f_l0) f10_24 f_y3.1 ?_
      refine pw_l (pc := 34) d219_34 rfl rfl rfl ?_
      obtain ⟨g4, hm⟩ := gd_x hm
      refine pw_ai (pc := 36) d219_36 (sha s_h f_y3.2) (mi_in_x g4) ?_
      refine pw_s (pc := 37) d219_37 rfl rfl ?_
      refine pw_s (pc := 38) d219_38 rfl rfl ?_
      obtain ⟨q5, e_q5, hm⟩ := ob_x hm
      refine pw_u (pc := 39) (by omega) d219_39 (k219_330 b) (by decide) m217 (Nat.le_of_ble_eq_true rfl) (Nat.le_of_ble_eq_true rfl) (Nat.le_of_ble_eq_true rfl) rfl rfl (T_m_nextOf b L xs (d - 1) (by omega) h s_h l1 l3 ((h.2.1 y3 l4.toNatClampNeg) + (Int32.ofInt 1))  e_q5) (fun v0 h0 hq => ?_)
      obtain ⟨rfl, hh0, s_q5⟩ := hq
      rw [hh0] at s_q5 ⊢
      simp only [Option.toList_some, List.cons_append, List.nil_append]
      exact t_m_marksRows_42 b L xs d hd h s_h l0 l1 l2 l3 l4 q5 w5 w6 f_l0  hm hE
    · rw [if_neg c2] at hm
      refine pw_s (pc := 23) d219_23 rfl rfl ?_
      refine pw_go (pc := 25) (t := 42) d219_25 (by decide) ?_
      exact t_m_marksRows_42 b L xs d hd h s_h l0 l1 l2 l3 l4 ((Int8.ofInt 11).toInt32) w5 w6 f_l0  hm hE
noncomputable def m_marksRows (l0 : Nat) (l1 : Int32) (l2 : Int32) (h : pm_H) : Option pm_H := (gA h l0 24 .int).bind fun y1 => if mi_in (Int32.ofInt 0) (mi_n y1) = true then bd (pm_setI h y1 (Int32.ofInt 0).toNatClampNeg (Int32.ofInt (-1))) fun h3 => (wh (fun s : (Int32 × Int32 × pm_H) => m_marksRows_12 l0 l1 l2 s.1 s.2.1 s.2.2) ((Int32.ofInt 0), (Int32.ofInt 0), h3)).bind fun q4 => some q4 else none
theorem T_m_marksRows (b : Bool) (L : Nat) (xs : Nat → Int32) (d : Nat) (hd : 4 ≤ d) (h : pm_H) (s_h : h.1 = tb_SH) (l0 : Nat) (l1 : Int32) (l2 : Int32) (f_l0 : mi_o l0 10 = true) {r : pm_H} (hm : m_marksRows l0 l1 l2 h = some r) : PC b L xs d 219 [(Value.ref l0), (Value.int l1), (Value.int l2)] h (fun (v0 : Option Value) (h2 : pm_H) => v0 = none ∧ h2 = r ∧ h2.1 = tb_SH) := by
  refine pc_in e219 (ls0 := [(Value.ref l0), (Value.int l1), (Value.int l2), Value.retAddr 0, Value.retAddr 0, Value.retAddr 0, Value.retAddr 0]) rfl ?_
  have key : ∀ (Q : Option Value → pm_H → Prop), (r.1 = tb_SH → Q none r) → PW b L xs d 219 0 0 0 [(Value.ref l0), (Value.int l1), (Value.int l2), Value.retAddr 0, Value.retAddr 0, Value.retAddr 0, Value.retAddr 0] [] h Q := by
    intro Q hE
    rw [m_marksRows] at hm
    refine pw_s (pc := 0) d219_0 rfl rfl ?_
    refine pw_t (pc := 1) d219_1 rfl rfl rfl rfl ?_
    refine pw_s (pc := 2) d219_2 rfl rfl ?_
    refine pw_t (pc := 3) d219_3 rfl rfl rfl rfl ?_
    refine pw_l (pc := 5) d219_5 rfl rfl rfl ?_
    obtain ⟨y1, e_y1, hm⟩ := ob_x hm
    have f_y1 := gA_x e_y1
    refine pw_gr (pc := 6) d219_6 (k219_45 b) (sho s_h f_l0) f10_24 f_y1.1 ?_
    refine pw_s (pc := 9) d219_9 rfl rfl ?_
    refine pw_s (pc := 10) d219_10 rfl rfl ?_
    obtain ⟨g2, hm⟩ := gd_x hm
    refine pw_si (pc := 11) d219_11 (sha s_h f_y1.2) (mi_in_x g2) ?_
    obtain ⟨h3, e_h3, hm⟩ := bd_x hm
    rw [e_h3]
    have s_h3 : h3.1 = tb_SH := by rw [← e_h3]; exact s_h
    obtain ⟨q4, e_q4, hm⟩ := ob_x hm
    refine wh_ind e_q4 (fun s : (Int32 × Int32 × pm_H) => s.2.2.1 = tb_SH → ∀ w5 w6 : Value, PW b L xs d 219 0 0 12 [(Value.ref l0), (Value.int l1), (Value.int l2), (Value.int s.1), (Value.int s.2.1), w5, w6] [] s.2.2 Q) (fun s s2 hf ih sx w5 w6 => t_m_marksRows_12 b L xs d hd s.2.2 sx l0 l1 l2 s.1 s.2.1 w5 w6 f_l0 hf ih) (fun s hf sx w5 w6 => t_m_marksRows_12 b L xs d hd s.2.2 sx l0 l1 l2 s.1 s.2.1 w5 w6 f_l0 hf ?_) s_h3  (Value.retAddr 0) (Value.retAddr 0)
    intro s_q4_0 w0 w1 w2 w3 w4 w5 w6
    obtain rfl := Option.some.inj hm
    refine pw_rv (pc := 147) d219_147 t219 ?_
    exact hE s_q4_0
  exact key _ (fun q => ⟨rfl, rfl, q⟩)
def E_m_gathersSays_52 (b : Bool) (L : Nat) (xs : Nat → Int32) (d : Nat) (Q : Option Value → pm_H → Prop) (l0 : Nat) (l2 : Int32) : ((Int32 × pm_H) ⊕ pm_H) → Prop
  | .inl s => s.2.1 = tb_SH → ∀ w1 : Value, PW b L xs d 220 0 0 52 [(Value.ref l0), w1, (Value.int l2), (Value.int s.1)] [] s.2 Q
  | .inr e => e.1 = tb_SH → ∀ w1 w3 : Value, PW b L xs d 220 0 0 93 [(Value.ref l0), w1, (Value.int l2), w3] [] e Q
def E_m_gathersSays_43 (b : Bool) (L : Nat) (xs : Nat → Int32) (d : Nat) (Q : Option Value → pm_H → Prop) (l0 : Nat) : ((Int32 × pm_H) ⊕ pm_H) → Prop
  | .inl s => s.2.1 = tb_SH → ∀ w1 w3 : Value, PW b L xs d 220 0 0 43 [(Value.ref l0), w1, (Value.int s.1), w3] [] s.2 Q
  | .inr e => e.1 = tb_SH → ∀ w0 w1 w2 w3 : Value, PW b L xs d 220 0 0 99 [w0, w1, w2, w3] [] e Q
def E_m_gathersSays_24 (b : Bool) (L : Nat) (xs : Nat → Int32) (d : Nat) (Q : Option Value → pm_H → Prop) (l0 : Nat) (l1 : Int32) : ((Int32 × pm_H) ⊕ pm_H) → Prop
  | .inl s => s.2.1 = tb_SH → ∀ w3 : Value, PW b L xs d 220 0 0 24 [(Value.ref l0), (Value.int l1), (Value.int s.1), w3] [] s.2 Q
  | .inr e => e.1 = tb_SH → ∀ w1 w2 w3 : Value, PW b L xs d 220 0 0 41 [(Value.ref l0), w1, w2, w3] [] e Q
def E_m_gathersSays_2 (b : Bool) (L : Nat) (xs : Nat → Int32) (d : Nat) (Q : Option Value → pm_H → Prop) (l0 : Nat) (l1 : Int32) : ((Int32 × pm_H) ⊕ pm_H) → Prop
  | .inl s => s.2.1 = tb_SH → ∀ w3 : Value, PW b L xs d 220 0 0 2 [(Value.ref l0), (Value.int l1), (Value.int s.1), w3] [] s.2 Q
  | .inr e => e.1 = tb_SH → ∀ w2 w3 : Value, PW b L xs d 220 0 0 22 [(Value.ref l0), (Value.int l1), w2, w3] [] e Q
noncomputable def m_gathersSays_52 (l0 : Nat) (l2 : Int32) (l3 : Int32) (h : pm_H) : Option ((Int32 × pm_H) ⊕ pm_H) := if (Int8.ofInt 8).toInt32 < l3 then (some (.inr h)) else ((m_isOf l2 l3 h).bind fun q2 => if q2 = 0 then (some (.inl ((l3 + Int32.ofInt 1), h))) else ((gA h l0 26 .int).bind fun y4 => if mi_in l2 (mi_n y4) = true then (gA h l0 26 .int).bind fun y6 => if mi_in (l2 &&& (((Int32.ofInt 1) <<< (l3 &&& 31)) ^^^ (Int32.ofInt (-1)))) (mi_n y6) = true then if mi_in l2 (mi_n y4) = true then bd (pm_setI h y4 l2.toNatClampNeg ((h.2.1 y4 l2.toNatClampNeg) ||| (h.2.1 y6 (l2 &&& (((Int32.ofInt 1) <<< (l3 &&& 31)) ^^^ (Int32.ofInt (-1)))).toNatClampNeg))) fun h9 => some (.inl ((l3 + Int32.ofInt 1), h9)) else none else none else none))
theorem t_m_gathersSays_52 (b : Bool) (L : Nat) (xs : Nat → Int32) (d : Nat) (hd : 5 ≤ d) {Q : Option Value → pm_H → Prop} (h : pm_H) (s_h : h.1 = tb_SH) (l0 : Nat) (l2 : Int32) (l3 : Int32) (w1 : Value) (f_l0 : mi_o l0 10 = true) {r : ((Int32 × pm_H) ⊕ pm_H)} (hm : m_gathersSays_52 l0 l2 l3 h = some r) (hE : E_m_gathersSays_52 b L xs d Q l0 l2 r) : PW b L xs d 220 0 0 52 [(Value.ref l0), w1, (Value.int l2), (Value.int l3)] [] h Q := by
  rw [m_gathersSays_52] at hm
  refine pw_l (pc := 52) d220_52 rfl rfl rfl ?_
  refine pw_s (pc := 53) d220_53 rfl rfl ?_
  refine pw_igt (pc := 55) (t := 93) d220_55 (by decide) (fun c1 => ?_) (fun c1 => ?_)
  · rw [if_pos c1] at hm
    obtain rfl := Option.some.inj hm
    exact hE s_h  w1 (Value.int l3)
  · rw [if_neg c1] at hm
    refine pw_l (pc := 58) d220_58 rfl rfl rfl ?_
    refine pw_l (pc := 59) d220_59 rfl rfl rfl ?_
    obtain ⟨q2, e_q2, hm⟩ := ob_x hm
    refine pw_u (pc := 60) (by omega) d220_60 (k220_318 b) (by decide) m149 (Nat.le_of_ble_eq_true rfl) (Nat.le_of_ble_eq_true rfl) (Nat.le_of_ble_eq_true rfl) rfl rfl (T_m_isOf b L xs (d - 1) (by omega) h s_h l2 l3  e_q2) (fun v0 h0 hq => ?_)
    obtain ⟨rfl, hh0, s_q2⟩ := hq
    rw [hh0] at s_q2 ⊢
    simp only [Option.toList_some, List.cons_append, List.nil_append]
    refine pw_zeq (pc := 63) (t := 87) d220_63 (by decide) (fun c3 => ?_) (fun c3 => ?_)
    · rw [if_pos c3] at hm
      refine pw_t (pc := 87) d220_87 rfl rfl rfl rfl ?_
      refine pw_go (pc := 90) (t := 52) d220_90 (by decide) ?_
      obtain rfl := Option.some.inj hm
      exact hE s_h  w1
    · rw [if_neg c3] at hm
      refine pw_l (pc := 66) d220_66 rfl rfl rfl ?_
      obtain ⟨y4, e_y4, hm⟩ := ob_x hm
      have f_y4 := gA_x e_y4
      refine pw_gr (pc := 67) d220_67 (k220_51 b) (sho s_h f_l0) f10_26 f_y4.1 ?_
      refine pw_l (pc := 70) d220_70 rfl rfl rfl ?_
      refine pw_s (pc := 71) d220_71 rfl rfl ?_
      obtain ⟨g5, hm⟩ := gd_x hm
      refine pw_ai (pc := 72) d220_72 (sha s_h f_y4.2) (mi_in_x g5) ?_
      refine pw_l (pc := 73) d220_73 rfl rfl rfl ?_
      obtain ⟨y6, e_y6, hm⟩ := ob_x hm
      have f_y6 := gA_x e_y6
      refine pw_gr (pc := 74) d220_74 (k220_51 b) (sho s_h f_l0) f10_26 f_y6.1 ?_
      refine pw_l (pc := 77) d220_77 rfl rfl rfl ?_
      refine pw_s (pc := 78) d220_78 rfl rfl ?_
      refine pw_l (pc := 79) d220_79 rfl rfl rfl ?_
      refine pw_s (pc := 80) d220_80 rfl rfl ?_
      refine pw_s (pc := 81) d220_81 rfl rfl ?_
      refine pw_s (pc := 82) d220_82 rfl rfl ?_
      refine pw_s (pc := 83) d220_83 rfl rfl ?_
      obtain ⟨g7, hm⟩ := gd_x hm
      refine pw_ai (pc := 84) d220_84 (sha s_h f_y6.2) (mi_in_x g7) ?_
      refine pw_s (pc := 85) d220_85 rfl rfl ?_
      obtain ⟨g8, hm⟩ := gd_x hm
      refine pw_si (pc := 86) d220_86 (sha s_h f_y4.2) (mi_in_x g8) ?_
      obtain ⟨h9, e_h9, hm⟩ := bd_x hm
      rw [e_h9]
      have s_h9 : h9.1 = tb_SH := by rw [← e_h9]; exact s_h
      refine pw_t (pc := 87) d220_87 rfl rfl rfl rfl ?_
      refine pw_go (pc := 90) (t := 52) d220_90 (by decide) ?_
      obtain rfl := Option.some.inj hm
      exact hE s_h9  w1
noncomputable def m_gathersSays_43 (l0 : Nat) (l2 : Int32) (h : pm_H) : Option ((Int32 × pm_H) ⊕ pm_H) := if (Int16.ofInt 512).toInt32 ≤ l2 then (some (.inr h)) else ((wh (fun s : (Int32 × pm_H) => m_gathersSays_52 l0 l2 s.1 s.2) ((Int32.ofInt 0), h)).bind fun q2 => some (.inl ((l2 + Int32.ofInt 1), q2)))
theorem t_m_gathersSays_43 (b : Bool) (L : Nat) (xs : Nat → Int32) (d : Nat) (hd : 5 ≤ d) {Q : Option Value → pm_H → Prop} (h : pm_H) (s_h : h.1 = tb_SH) (l0 : Nat) (l2 : Int32) (w1 : Value) (w3 : Value) (f_l0 : mi_o l0 10 = true) {r : ((Int32 × pm_H) ⊕ pm_H)} (hm : m_gathersSays_43 l0 l2 h = some r) (hE : E_m_gathersSays_43 b L xs d Q l0 r) : PW b L xs d 220 0 0 43 [(Value.ref l0), w1, (Value.int l2), w3] [] h Q := by
  rw [m_gathersSays_43] at hm
  refine pw_l (pc := 43) d220_43 rfl rfl rfl ?_
  refine pw_s (pc := 44) d220_44 rfl rfl ?_
  refine pw_ige (pc := 47) (t := 99) d220_47 (by decide) (fun c1 => ?_) (fun c1 => ?_)
  · rw [if_pos c1] at hm
    obtain rfl := Option.some.inj hm
    exact hE s_h  (Value.ref l0) w1 (Value.int l2) w3
  · rw [if_neg c1] at hm
    refine pw_s (pc := 50) d220_50 rfl rfl ?_
    refine pw_t (pc := 51) d220_51 rfl rfl rfl rfl ?_
    obtain ⟨q2, e_q2, hm⟩ := ob_x hm
    refine wh_ind e_q2 (fun s : (Int32 × pm_H) => s.2.1 = tb_SH → ∀ w1 : Value, PW b L xs d 220 0 0 52 [(Value.ref l0), w1, (Value.int l2), (Value.int s.1)] [] s.2 Q) (fun s s2 hf ih sx w1 => t_m_gathersSays_52 b L xs d hd s.2 sx l0 l2 s.1 w1 f_l0 hf ih) (fun s hf sx w1 => t_m_gathersSays_52 b L xs d hd s.2 sx l0 l2 s.1 w1 f_l0 hf ?_) s_h  w1
    intro s_q2_0 w1 w3
    refine pw_t (pc := 93) d220_93 rfl rfl rfl (n := 3) (ls' := [(Value.ref l0), (mi_w w1), (Value.int (l2 + Int32.ofInt 1)), w3]) (st' := []) (by by_cases hw : Value.category w1 = 2 <;> simp [pm_sto, pm_sI, pm_sL, pm_sA, pm_inc, pm_st1, pm_st2, pm_pre, mi_w, hw] <;> first | done | exact ⟨by decide, rfl⟩ | rfl) ?_
    refine pw_go (pc := 96) (t := 43) d220_96 (by decide) ?_
    obtain rfl := Option.some.inj hm
    exact hE s_q2_0  (mi_w w1) w3
noncomputable def m_gathersSays_24 (l0 : Nat) (l1 : Int32) (l2 : Int32) (h : pm_H) : Option ((Int32 × pm_H) ⊕ pm_H) := if (Int32.ofInt 5) < l2 then (some (.inr h)) else ((m_marksRows l0 l1 l2 h).bind fun q2 => some (.inl ((l2 + Int32.ofInt 1), q2)))
theorem t_m_gathersSays_24 (b : Bool) (L : Nat) (xs : Nat → Int32) (d : Nat) (hd : 5 ≤ d) {Q : Option Value → pm_H → Prop} (h : pm_H) (s_h : h.1 = tb_SH) (l0 : Nat) (l1 : Int32) (l2 : Int32) (w3 : Value) (f_l0 : mi_o l0 10 = true) {r : ((Int32 × pm_H) ⊕ pm_H)} (hm : m_gathersSays_24 l0 l1 l2 h = some r) (hE : E_m_gathersSays_24 b L xs d Q l0 l1 r) : PW b L xs d 220 0 0 24 [(Value.ref l0), (Value.int l1), (Value.int l2), w3] [] h Q := by
  rw [m_gathersSays_24] at hm
  refine pw_l (pc := 24) d220_24 rfl rfl rfl ?_
  refine pw_s (pc := 25) d220_25 rfl rfl ?_
  refine pw_igt (pc := 26) (t := 41) d220_26 (by decide) (fun c1 => ?_) (fun c1 => ?_)
  · rw [if_pos c1] at hm
    obtain rfl := Option.some.inj hm
    exact hE s_h  (Value.int l1) (Value.int l2) w3
  · rw [if_neg c1] at hm
    refine pw_l (pc := 29) d220_29 rfl rfl rfl ?_
    refine pw_l (pc := 30) d220_30 rfl rfl rfl ?_
    refine pw_l (pc := 31) d220_31 rfl rfl rfl ?_
    obtain ⟨q2, e_q2, hm⟩ := ob_x hm
    refine pw_v (pc := 32) (k := l0) (by omega) d220_32 (k220_339 b) (by decide) m219 (by decide) rfl (sho s_h f_l0) (Nat.le_of_ble_eq_true rfl) (Nat.le_of_ble_eq_true rfl) rfl rfl (T_m_marksRows b L xs (d - 1) (by omega) h s_h l0 l1 l2 f_l0 e_q2) (fun v0 h0 hq => ?_)
    obtain ⟨rfl, hh0, s_q2⟩ := hq
    rw [hh0] at s_q2 ⊢
    simp only [Option.toList_none, List.nil_append]
    refine pw_t (pc := 35) d220_35 rfl rfl rfl rfl ?_
    refine pw_go (pc := 38) (t := 24) d220_38 (by decide) ?_
    obtain rfl := Option.some.inj hm
    exact hE s_q2  w3
noncomputable def m_gathersSays_2 (l0 : Nat) (l1 : Int32) (l2 : Int32) (h : pm_H) : Option ((Int32 × pm_H) ⊕ pm_H) := if (Int16.ofInt 512).toInt32 ≤ l2 then (some (.inr h)) else ((gA h l0 26 .int).bind fun y2 => if mi_in l2 (mi_n y2) = true then bd (pm_setI h y2 l2.toNatClampNeg (Int32.ofInt 0)) fun h4 => some (.inl ((l2 + Int32.ofInt 1), h4)) else none)
theorem t_m_gathersSays_2 (b : Bool) (L : Nat) (xs : Nat → Int32) (d : Nat) (hd : 5 ≤ d) {Q : Option Value → pm_H → Prop} (h : pm_H) (s_h : h.1 = tb_SH) (l0 : Nat) (l1 : Int32) (l2 : Int32) (w3 : Value) (f_l0 : mi_o l0 10 = true) {r : ((Int32 × pm_H) ⊕ pm_H)} (hm : m_gathersSays_2 l0 l1 l2 h = some r) (hE : E_m_gathersSays_2 b L xs d Q l0 l1 r) : PW b L xs d 220 0 0 2 [(Value.ref l0), (Value.int l1), (Value.int l2), w3] [] h Q := by
  rw [m_gathersSays_2] at hm
  refine pw_l (pc := 2) d220_2 rfl rfl rfl ?_
  refine pw_s (pc := 3) d220_3 rfl rfl ?_
  refine pw_ige (pc := 6) (t := 22) d220_6 (by decide) (fun c1 => ?_) (fun c1 => ?_)
  · rw [if_pos c1] at hm
    obtain rfl := Option.some.inj hm
    exact hE s_h  (Value.int l2) w3
  · rw [if_neg c1] at hm
    refine pw_l (pc := 9) d220_9 rfl rfl rfl ?_
    obtain ⟨y2, e_y2, hm⟩ := ob_x hm
    have f_y2 := gA_x e_y2
    refine pw_gr (pc := 10) d220_10 (k220_51 b) (sho s_h f_l0) f10_26 f_y2.1 ?_
    refine pw_l (pc := 13) d220_13 rfl rfl rfl ?_
    refine pw_s (pc := 14) d220_14 rfl rfl ?_
    obtain ⟨g3, hm⟩ := gd_x hm
    refine pw_si (pc := 15) d220_15 (sha s_h f_y2.2) (mi_in_x g3) ?_
    obtain ⟨h4, e_h4, hm⟩ := bd_x hm
    rw [e_h4]
    have s_h4 : h4.1 = tb_SH := by rw [← e_h4]; exact s_h
    refine pw_t (pc := 16) d220_16 rfl rfl rfl rfl ?_
    refine pw_go (pc := 19) (t := 2) d220_19 (by decide) ?_
    obtain rfl := Option.some.inj hm
    exact hE s_h4  w3
noncomputable def m_gathersSays (l0 : Nat) (l1 : Int32) (h : pm_H) : Option pm_H := (wh (fun s : (Int32 × pm_H) => m_gathersSays_2 l0 l1 s.1 s.2) ((Int32.ofInt 0), h)).bind fun q1 => (wh (fun s : (Int32 × pm_H) => m_gathersSays_24 l0 l1 s.1 s.2) ((Int32.ofInt 1), q1)).bind fun q2 => (wh (fun s : (Int32 × pm_H) => m_gathersSays_43 l0 s.1 s.2) ((Int32.ofInt 0), q2)).bind fun q3 => some q3
theorem T_m_gathersSays (b : Bool) (L : Nat) (xs : Nat → Int32) (d : Nat) (hd : 5 ≤ d) (h : pm_H) (s_h : h.1 = tb_SH) (l0 : Nat) (l1 : Int32) (f_l0 : mi_o l0 10 = true) {r : pm_H} (hm : m_gathersSays l0 l1 h = some r) : PC b L xs d 220 [(Value.ref l0), (Value.int l1)] h (fun (v0 : Option Value) (h2 : pm_H) => v0 = none ∧ h2 = r ∧ h2.1 = tb_SH) := by
  refine pc_in e220 (ls0 := [(Value.ref l0), (Value.int l1), Value.retAddr 0, Value.retAddr 0]) rfl ?_
  have key : ∀ (Q : Option Value → pm_H → Prop), (r.1 = tb_SH → Q none r) → PW b L xs d 220 0 0 0 [(Value.ref l0), (Value.int l1), Value.retAddr 0, Value.retAddr 0] [] h Q := by
    intro Q hE
    rw [m_gathersSays] at hm
    refine pw_s (pc := 0) d220_0 rfl rfl ?_
    refine pw_t (pc := 1) d220_1 rfl rfl rfl rfl ?_
    obtain ⟨q1, e_q1, hm⟩ := ob_x hm
    refine wh_ind e_q1 (fun s : (Int32 × pm_H) => s.2.1 = tb_SH → ∀ w3 : Value, PW b L xs d 220 0 0 2 [(Value.ref l0), (Value.int l1), (Value.int s.1), w3] [] s.2 Q) (fun s s2 hf ih sx w3 => t_m_gathersSays_2 b L xs d hd s.2 sx l0 l1 s.1 w3 f_l0 hf ih) (fun s hf sx w3 => t_m_gathersSays_2 b L xs d hd s.2 sx l0 l1 s.1 w3 f_l0 hf ?_) s_h  (Value.retAddr 0)
    intro s_q1_0 w2 w3
    refine pw_s (pc := 22) d220_22 rfl rfl ?_
    refine pw_t (pc := 23) d220_23 rfl rfl rfl rfl ?_
    obtain ⟨q2, e_q2, hm⟩ := ob_x hm
    refine wh_ind e_q2 (fun s : (Int32 × pm_H) => s.2.1 = tb_SH → ∀ w3 : Value, PW b L xs d 220 0 0 24 [(Value.ref l0), (Value.int l1), (Value.int s.1), w3] [] s.2 Q) (fun s s2 hf ih sx w3 => t_m_gathersSays_24 b L xs d hd s.2 sx l0 l1 s.1 w3 f_l0 hf ih) (fun s hf sx w3 => t_m_gathersSays_24 b L xs d hd s.2 sx l0 l1 s.1 w3 f_l0 hf ?_) s_q1_0  w3
    intro s_q2_0 w1 w2 w3
    refine pw_s (pc := 41) d220_41 rfl rfl ?_
    refine pw_t (pc := 42) d220_42 rfl rfl rfl (n := 1) (ls' := [(Value.ref l0), (mi_w w1), (Value.int (Int32.ofInt 0)), w3]) (st' := []) (by by_cases hw : Value.category w1 = 2 <;> simp [pm_sto, pm_sI, pm_sL, pm_sA, pm_inc, pm_st1, pm_st2, pm_pre, mi_w, hw] <;> first | done | exact ⟨by decide, rfl⟩ | rfl) ?_
    obtain ⟨q3, e_q3, hm⟩ := ob_x hm
    refine wh_ind e_q3 (fun s : (Int32 × pm_H) => s.2.1 = tb_SH → ∀ w1 w3 : Value, PW b L xs d 220 0 0 43 [(Value.ref l0), w1, (Value.int s.1), w3] [] s.2 Q) (fun s s2 hf ih sx w1 w3 => t_m_gathersSays_43 b L xs d hd s.2 sx l0 s.1 w1 w3 f_l0 hf ih) (fun s hf sx w1 w3 => t_m_gathersSays_43 b L xs d hd s.2 sx l0 s.1 w1 w3 f_l0 hf ?_) s_q2_0  (mi_w w1) w3
    intro s_q3_0 w0 w1 w2 w3
    obtain rfl := Option.some.inj hm
    refine pw_rv (pc := 99) d220_99 t220 ?_
    exact hE s_q3_0
  exact key _ (fun q => ⟨rfl, rfl, q⟩)
noncomputable def m_sayableBy (l0 : Nat) (l1 : Int32) (h : pm_H) : Option (Int32 × pm_H) := (m_gathersSays l0 l1 h).bind fun q1 => (gA q1 l0 26 .int).bind fun y2 => if mi_in l1 (mi_n y2) = true then some ((q1.2.1 y2 l1.toNatClampNeg), q1) else none
theorem T_m_sayableBy (b : Bool) (L : Nat) (xs : Nat → Int32) (d : Nat) (hd : 6 ≤ d) (h : pm_H) (s_h : h.1 = tb_SH) (l0 : Nat) (l1 : Int32) (f_l0 : mi_o l0 10 = true) {r : (Int32 × pm_H)} (hm : m_sayableBy l0 l1 h = some r) : PC b L xs d 221 [(Value.ref l0), (Value.int l1)] h (fun (v0 : Option Value) (h2 : pm_H) => v0 = (some (Value.int r.1)) ∧ h2 = r.2 ∧ h2.1 = tb_SH) := by
  refine pc_in e221 (ls0 := [(Value.ref l0), (Value.int l1)]) rfl ?_
  have key : ∀ (Q : Option Value → pm_H → Prop), (r.2.1 = tb_SH → Q (some (Value.int r.1)) r.2) → PW b L xs d 221 0 0 0 [(Value.ref l0), (Value.int l1)] [] h Q := by
    intro Q hE
    rw [m_sayableBy] at hm
    refine pw_l (pc := 0) d221_0 rfl rfl rfl ?_
    refine pw_l (pc := 1) d221_1 rfl rfl rfl ?_
    obtain ⟨q1, e_q1, hm⟩ := ob_x hm
    refine pw_v (pc := 2) (k := l0) (by omega) d221_2 (k221_342 b) (by decide) m220 (by decide) rfl (sho s_h f_l0) (Nat.le_of_ble_eq_true rfl) (Nat.le_of_ble_eq_true rfl) rfl rfl (T_m_gathersSays b L xs (d - 1) (by omega) h s_h l0 l1 f_l0 e_q1) (fun v0 h0 hq => ?_)
    obtain ⟨rfl, hh0, s_q1⟩ := hq
    rw [hh0] at s_q1 ⊢
    simp only [Option.toList_none, List.nil_append]
    refine pw_l (pc := 5) d221_5 rfl rfl rfl ?_
    obtain ⟨y2, e_y2, hm⟩ := ob_x hm
    have f_y2 := gA_x e_y2
    refine pw_gr (pc := 6) d221_6 (k221_51 b) (sho s_q1 f_l0) f10_26 f_y2.1 ?_
    refine pw_l (pc := 9) d221_9 rfl rfl rfl ?_
    obtain ⟨g3, hm⟩ := gd_x hm
    refine pw_ai (pc := 10) d221_10 (sha s_q1 f_y2.2) (mi_in_x g3) ?_
    obtain rfl := Option.some.inj hm
    refine pw_ri (pc := 11) d221_11 t221 rfl ?_
    exact hE s_q1
  exact key _ (fun q => ⟨rfl, rfl, q⟩)
