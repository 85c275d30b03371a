/-! Walked by wip/walk.py. -/
theorem d173_21 : decode (tb_me 173).1.2.1 21 = .ok (.iconst 1, 1) := by decide +kernel
theorem d173_22 : decode (tb_me 173).1.2.1 22 = .ok (.ireturn, 1) := by decide +kernel
theorem d200_19 : decode (tb_me 200).1.2.1 19 = .ok (.iconst 1, 1) := by decide +kernel
theorem d200_20 : decode (tb_me 200).1.2.1 20 = .ok (.iload_n 2, 1) := by decide +kernel
theorem d200_21 : decode (tb_me 200).1.2.1 21 = .ok (.ishl, 1) := by decide +kernel
theorem d200_22 : decode (tb_me 200).1.2.1 22 = .ok (.goto 4, 3) := by decide +kernel
theorem d201_23 : decode (tb_me 201).1.2.1 23 = .ok (.iconst 1, 1) := by decide +kernel
theorem d201_24 : decode (tb_me 201).1.2.1 24 = .ok (.iload_n 2, 1) := by decide +kernel
theorem d201_25 : decode (tb_me 201).1.2.1 25 = .ok (.ishl, 1) := by decide +kernel
theorem d201_26 : decode (tb_me 201).1.2.1 26 = .ok (.goto 4, 3) := by decide +kernel
theorem d207_43 : decode (tb_me 207).1.2.1 43 = .ok (.iinc 1 1, 3) := by decide +kernel
theorem d207_46 : decode (tb_me 207).1.2.1 46 = .ok (.goto (-44), 3) := by decide +kernel
theorem d207_70 : decode (tb_me 207).1.2.1 70 = .ok (.aload_n 0, 1) := by decide +kernel
theorem d207_71 : decode (tb_me 207).1.2.1 71 = .ok (.getfield 42, 3) := by decide +kernel
theorem d207_74 : decode (tb_me 207).1.2.1 74 = .ok (.iload_n 3, 1) := by decide +kernel
theorem d207_75 : decode (tb_me 207).1.2.1 75 = .ok (.aload_n 0, 1) := by decide +kernel
theorem d207_76 : decode (tb_me 207).1.2.1 76 = .ok (.getfield 42, 3) := by decide +kernel
theorem d207_79 : decode (tb_me 207).1.2.1 79 = .ok (.iload_n 3, 1) := by decide +kernel
theorem d207_80 : decode (tb_me 207).1.2.1 80 = .ok (.iconst 1, 1) := by decide +kernel
theorem d207_81 : decode (tb_me 207).1.2.1 81 = .ok (.iadd, 1) := by decide +kernel
theorem d207_82 : decode (tb_me 207).1.2.1 82 = .ok (.iaload, 1) := by decide +kernel
theorem d207_83 : decode (tb_me 207).1.2.1 83 = .ok (.iastore, 1) := by decide +kernel
theorem d207_84 : decode (tb_me 207).1.2.1 84 = .ok (.iinc 3 1, 3) := by decide +kernel
theorem d207_87 : decode (tb_me 207).1.2.1 87 = .ok (.goto (-27), 3) := by decide +kernel
theorem d208_25 : decode (tb_me 208).1.2.1 25 = .ok (.iconst 1, 1) := by decide +kernel
theorem d208_26 : decode (tb_me 208).1.2.1 26 = .ok (.goto 4, 3) := by decide +kernel
theorem d208_78 : decode (tb_me 208).1.2.1 78 = .ok (.iload_n 1, 1) := by decide +kernel
theorem d208_79 : decode (tb_me 208).1.2.1 79 = .ok (.ireturn, 1) := by decide +kernel
theorem d208_41 : decode (tb_me 208).1.2.1 41 = .ok (.iload_n 2, 1) := by decide +kernel
theorem d208_42 : decode (tb_me 208).1.2.1 42 = .ok (.ifCond .eq 32, 3) := by decide +kernel
theorem d208_45 : decode (tb_me 208).1.2.1 45 = .ok (.aload_n 0, 1) := by decide +kernel
theorem d208_46 : decode (tb_me 208).1.2.1 46 = .ok (.iload_n 1, 1) := by decide +kernel
theorem d208_47 : decode (tb_me 208).1.2.1 47 = .ok (.iconst 2, 1) := by decide +kernel
theorem d208_48 : decode (tb_me 208).1.2.1 48 = .ok (.iload_n 3, 1) := by decide +kernel
theorem d208_49 : decode (tb_me 208).1.2.1 49 = .ok (.iadd, 1) := by decide +kernel
theorem d208_50 : decode (tb_me 208).1.2.1 50 = .ok (.invokevirtual 293, 3) := by decide +kernel
theorem d208_53 : decode (tb_me 208).1.2.1 53 = .ok (.aload_n 0, 1) := by decide +kernel
theorem d208_54 : decode (tb_me 208).1.2.1 54 = .ok (.getfield 42, 3) := by decide +kernel
theorem k208_42 (b : Bool) : tb_lk b 208 42 = (1, 10, 22, 0, 0) := by cases b <;> decide +kernel
theorem d208_57 : decode (tb_me 208).1.2.1 57 = .ok (.iload_n 3, 1) := by decide +kernel
theorem d208_58 : decode (tb_me 208).1.2.1 58 = .ok (.iaload, 1) := by decide +kernel
theorem d208_59 : decode (tb_me 208).1.2.1 59 = .ok (.if_icmp .ne 7, 3) := by decide +kernel
theorem d208_66 : decode (tb_me 208).1.2.1 66 = .ok (.iconst 0, 1) := by decide +kernel
theorem d208_67 : decode (tb_me 208).1.2.1 67 = .ok (.istore_n 2, 1) := by decide +kernel
theorem d208_68 : decode (tb_me 208).1.2.1 68 = .ok (.iinc 3 1, 3) := by decide +kernel
theorem d208_71 : decode (tb_me 208).1.2.1 71 = .ok (.goto (-38), 3) := by decide +kernel
theorem d208_62 : decode (tb_me 208).1.2.1 62 = .ok (.iconst 1, 1) := by decide +kernel
theorem d208_63 : decode (tb_me 208).1.2.1 63 = .ok (.goto 4, 3) := by decide +kernel
theorem d217_16 : decode (tb_me 217).1.2.1 16 = .ok (.iload_n 1, 1) := by decide +kernel
theorem d217_17 : decode (tb_me 217).1.2.1 17 = .ok (.iload_n 3, 1) := by decide +kernel
theorem d217_18 : decode (tb_me 217).1.2.1 18 = .ok (.invokestatic 318, 3) := by decide +kernel
theorem d217_21 : decode (tb_me 217).1.2.1 21 = .ok (.ifCond .eq 9, 3) := by decide +kernel
theorem d222_23 : decode (tb_me 222).1.2.1 23 = .ok (.aload_n 0, 1) := by decide +kernel
theorem d222_24 : decode (tb_me 222).1.2.1 24 = .ok (.iload_n 3, 1) := by decide +kernel
theorem d222_25 : decode (tb_me 222).1.2.1 25 = .ok (.iconst 0, 1) := by decide +kernel
theorem d222_26 : decode (tb_me 222).1.2.1 26 = .ok (.invokevirtual 293, 3) := by decide +kernel
theorem k222_293 (b : Bool) : tb_lk b 222 293 = (2, 203, 0, 0, 0) := by cases b <;> decide +kernel
theorem d222_29 : decode (tb_me 222).1.2.1 29 = .ok (.goto 4, 3) := by decide +kernel
theorem d224_9 : decode (tb_me 224).1.2.1 9 = .ok (.bipush 58, 2) := by decide +kernel
theorem d224_11 : decode (tb_me 224).1.2.1 11 = .ok (.istore_n 1, 1) := by decide +kernel
theorem d224_12 : decode (tb_me 224).1.2.1 12 = .ok (.iload_n 1, 1) := by decide +kernel
theorem d224_13 : decode (tb_me 224).1.2.1 13 = .ok (.sipush 1160, 3) := by decide +kernel
theorem d224_16 : decode (tb_me 224).1.2.1 16 = .ok (.if_icmp .ge 24, 3) := by decide +kernel
theorem d224_40 : decode (tb_me 224).1.2.1 40 = .ok (.aload_n 0, 1) := by decide +kernel
theorem d224_41 : decode (tb_me 224).1.2.1 41 = .ok (.dup, 1) := by decide +kernel
theorem d224_42 : decode (tb_me 224).1.2.1 42 = .ok (.getfield 252, 3) := by decide +kernel
theorem d224_45 : decode (tb_me 224).1.2.1 45 = .ok (.iconst 1, 1) := by decide +kernel
theorem d224_46 : decode (tb_me 224).1.2.1 46 = .ok (.isub, 1) := by decide +kernel
theorem d224_47 : decode (tb_me 224).1.2.1 47 = .ok (.putfield 252, 3) := by decide +kernel
theorem d224_19 : decode (tb_me 224).1.2.1 19 = .ok (.aload_n 0, 1) := by decide +kernel
theorem d224_20 : decode (tb_me 224).1.2.1 20 = .ok (.getfield 54, 3) := by decide +kernel
theorem d224_23 : decode (tb_me 224).1.2.1 23 = .ok (.iload_n 1, 1) := by decide +kernel
theorem d224_24 : decode (tb_me 224).1.2.1 24 = .ok (.bipush 58, 2) := by decide +kernel
theorem d224_26 : decode (tb_me 224).1.2.1 26 = .ok (.isub, 1) := by decide +kernel
theorem d224_27 : decode (tb_me 224).1.2.1 27 = .ok (.aload_n 0, 1) := by decide +kernel
theorem d224_28 : decode (tb_me 224).1.2.1 28 = .ok (.getfield 54, 3) := by decide +kernel
theorem d224_31 : decode (tb_me 224).1.2.1 31 = .ok (.iload_n 1, 1) := by decide +kernel
theorem d224_32 : decode (tb_me 224).1.2.1 32 = .ok (.iaload, 1) := by decide +kernel
theorem d224_33 : decode (tb_me 224).1.2.1 33 = .ok (.iastore, 1) := by decide +kernel
theorem d224_34 : decode (tb_me 224).1.2.1 34 = .ok (.iinc 1 1, 3) := by decide +kernel
theorem d224_37 : decode (tb_me 224).1.2.1 37 = .ok (.goto (-25), 3) := by decide +kernel
theorem d225_7 : decode (tb_me 225).1.2.1 7 = .ok (.iconst (-1), 1) := by decide +kernel
theorem d225_8 : decode (tb_me 225).1.2.1 8 = .ok (.ireturn, 1) := by decide +kernel
theorem d227_62 : decode (tb_me 227).1.2.1 62 = .ok (.aload_n 0, 1) := by decide +kernel
theorem d227_63 : decode (tb_me 227).1.2.1 63 = .ok (.getfield 39, 3) := by decide +kernel
theorem d227_66 : decode (tb_me 227).1.2.1 66 = .ok (.iload_n 2, 1) := by decide +kernel
theorem d227_67 : decode (tb_me 227).1.2.1 67 = .ok (.iconst 5, 1) := by decide +kernel
theorem d227_68 : decode (tb_me 227).1.2.1 68 = .ok (.iadd, 1) := by decide +kernel
theorem d227_69 : decode (tb_me 227).1.2.1 69 = .ok (.iaload, 1) := by decide +kernel
theorem d227_70 : decode (tb_me 227).1.2.1 70 = .ok (.iconst 1, 1) := by decide +kernel
theorem d227_71 : decode (tb_me 227).1.2.1 71 = .ok (.iadd, 1) := by decide +kernel
theorem d227_72 : decode (tb_me 227).1.2.1 72 = .ok (.goto 4, 3) := by decide +kernel
theorem d227_31 : decode (tb_me 227).1.2.1 31 = .ok (.aload_n 0, 1) := by decide +kernel
theorem d227_32 : decode (tb_me 227).1.2.1 32 = .ok (.getfield 39, 3) := by decide +kernel
theorem d227_35 : decode (tb_me 227).1.2.1 35 = .ok (.iload_n 2, 1) := by decide +kernel
theorem d227_36 : decode (tb_me 227).1.2.1 36 = .ok (.iconst 3, 1) := by decide +kernel
theorem d227_37 : decode (tb_me 227).1.2.1 37 = .ok (.iadd, 1) := by decide +kernel
theorem d227_38 : decode (tb_me 227).1.2.1 38 = .ok (.dup2, 1) := by decide +kernel
theorem d227_39 : decode (tb_me 227).1.2.1 39 = .ok (.iaload, 1) := by decide +kernel
theorem d227_40 : decode (tb_me 227).1.2.1 40 = .ok (.iconst 1, 1) := by decide +kernel
theorem d227_41 : decode (tb_me 227).1.2.1 41 = .ok (.isub, 1) := by decide +kernel
theorem d227_42 : decode (tb_me 227).1.2.1 42 = .ok (.iastore, 1) := by decide +kernel
theorem d234_67 : decode (tb_me 234).1.2.1 67 = .ok (.aload_n 0, 1) := by decide +kernel
theorem d234_68 : decode (tb_me 234).1.2.1 68 = .ok (.iload_n 3, 1) := by decide +kernel
theorem d234_69 : decode (tb_me 234).1.2.1 69 = .ok (.iconst 0, 1) := by decide +kernel
theorem d234_70 : decode (tb_me 234).1.2.1 70 = .ok (.invokevirtual 293, 3) := by decide +kernel
theorem d234_73 : decode (tb_me 234).1.2.1 73 = .ok (.iload_n 2, 1) := by decide +kernel
theorem d234_74 : decode (tb_me 234).1.2.1 74 = .ok (.if_icmp .le 12, 3) := by decide +kernel
theorem d234_77 : decode (tb_me 234).1.2.1 77 = .ok (.aload_n 0, 1) := by decide +kernel
theorem d234_78 : decode (tb_me 234).1.2.1 78 = .ok (.iload_n 3, 1) := by decide +kernel
theorem d234_79 : decode (tb_me 234).1.2.1 79 = .ok (.iconst 0, 1) := by decide +kernel
theorem d234_80 : decode (tb_me 234).1.2.1 80 = .ok (.invokevirtual 293, 3) := by decide +kernel
theorem d234_83 : decode (tb_me 234).1.2.1 83 = .ok (.goto 4, 3) := by decide +kernel
theorem d234_31 : decode (tb_me 234).1.2.1 31 = .ok (.iload 4, 2) := by decide +kernel
theorem d234_33 : decode (tb_me 234).1.2.1 33 = .ok (.ifCond .ne 16, 3) := by decide +kernel
theorem d234_49 : decode (tb_me 234).1.2.1 49 = .ok (.iconst 1, 1) := by decide +kernel
theorem d234_50 : decode (tb_me 234).1.2.1 50 = .ok (.goto 4, 3) := by decide +kernel
theorem d234_54 : decode (tb_me 234).1.2.1 54 = .ok (.istore 4, 2) := by decide +kernel
theorem d234_56 : decode (tb_me 234).1.2.1 56 = .ok (.iinc 5 1, 3) := by decide +kernel
theorem d234_59 : decode (tb_me 234).1.2.1 59 = .ok (.goto (-39), 3) := by decide +kernel
theorem d234_36 : decode (tb_me 234).1.2.1 36 = .ok (.aload_n 0, 1) := by decide +kernel
theorem d234_37 : decode (tb_me 234).1.2.1 37 = .ok (.iload_n 3, 1) := by decide +kernel
theorem d234_38 : decode (tb_me 234).1.2.1 38 = .ok (.iconst 2, 1) := by decide +kernel
theorem d234_39 : decode (tb_me 234).1.2.1 39 = .ok (.iload 5, 2) := by decide +kernel
theorem d234_41 : decode (tb_me 234).1.2.1 41 = .ok (.iadd, 1) := by decide +kernel
theorem d234_42 : decode (tb_me 234).1.2.1 42 = .ok (.invokevirtual 293, 3) := by decide +kernel
theorem d234_45 : decode (tb_me 234).1.2.1 45 = .ok (.iload_n 1, 1) := by decide +kernel
theorem d234_46 : decode (tb_me 234).1.2.1 46 = .ok (.if_icmp .ne 7, 3) := by decide +kernel
theorem d234_53 : decode (tb_me 234).1.2.1 53 = .ok (.iconst 0, 1) := by decide +kernel
theorem d247_26 : decode (tb_me 247).1.2.1 26 = .ok (.iconst 5, 1) := by decide +kernel
theorem d247_27 : decode (tb_me 247).1.2.1 27 = .ok (.iload_n 3, 1) := by decide +kernel
theorem d247_28 : decode (tb_me 247).1.2.1 28 = .ok (.imul, 1) := by decide +kernel
theorem d247_29 : decode (tb_me 247).1.2.1 29 = .ok (.iload 4, 2) := by decide +kernel
theorem d247_31 : decode (tb_me 247).1.2.1 31 = .ok (.iadd, 1) := by decide +kernel
theorem d247_32 : decode (tb_me 247).1.2.1 32 = .ok (.istore 5, 2) := by decide +kernel
theorem d247_34 : decode (tb_me 247).1.2.1 34 = .ok (.iload_n 3, 1) := by decide +kernel
theorem d247_35 : decode (tb_me 247).1.2.1 35 = .ok (.ifCond .eq 8, 3) := by decide +kernel
theorem d247_43 : decode (tb_me 247).1.2.1 43 = .ok (.aload_n 0, 1) := by decide +kernel
theorem d247_44 : decode (tb_me 247).1.2.1 44 = .ok (.getfield 57, 3) := by decide +kernel
theorem d247_47 : decode (tb_me 247).1.2.1 47 = .ok (.iload 5, 2) := by decide +kernel
theorem d247_49 : decode (tb_me 247).1.2.1 49 = .ok (.iload_n 3, 1) := by decide +kernel
theorem d247_50 : decode (tb_me 247).1.2.1 50 = .ok (.iload 4, 2) := by decide +kernel
theorem d247_52 : decode (tb_me 247).1.2.1 52 = .ok (.iadd, 1) := by decide +kernel
theorem d247_53 : decode (tb_me 247).1.2.1 53 = .ok (.iastore, 1) := by decide +kernel
theorem d247_54 : decode (tb_me 247).1.2.1 54 = .ok (.goto 76, 3) := by decide +kernel
theorem d247_130 : decode (tb_me 247).1.2.1 130 = .ok (.iinc 4 1, 3) := by decide +kernel
theorem d247_133 : decode (tb_me 247).1.2.1 133 = .ok (.goto (-113), 3) := by decide +kernel
theorem d247_38 : decode (tb_me 247).1.2.1 38 = .ok (.iload 4, 2) := by decide +kernel
theorem d247_40 : decode (tb_me 247).1.2.1 40 = .ok (.ifCond .ne 17, 3) := by decide +kernel
theorem d247_57 : decode (tb_me 247).1.2.1 57 = .ok (.aload_n 0, 1) := by decide +kernel
theorem d247_58 : decode (tb_me 247).1.2.1 58 = .ok (.getfield 57, 3) := by decide +kernel
theorem d247_61 : decode (tb_me 247).1.2.1 61 = .ok (.iload 5, 2) := by decide +kernel
theorem d247_63 : decode (tb_me 247).1.2.1 63 = .ok (.bipush 6, 2) := by decide +kernel
theorem d247_65 : decode (tb_me 247).1.2.1 65 = .ok (.isub, 1) := by decide +kernel
theorem d247_66 : decode (tb_me 247).1.2.1 66 = .ok (.iaload, 1) := by decide +kernel
theorem d247_67 : decode (tb_me 247).1.2.1 67 = .ok (.aload_n 0, 1) := by decide +kernel
theorem d247_68 : decode (tb_me 247).1.2.1 68 = .ok (.getfield 42, 3) := by decide +kernel
theorem k247_42 (b : Bool) : tb_lk b 247 42 = (1, 10, 22, 0, 0) := by cases b <;> decide +kernel
theorem d247_71 : decode (tb_me 247).1.2.1 71 = .ok (.iload_n 3, 1) := by decide +kernel
theorem d247_72 : decode (tb_me 247).1.2.1 72 = .ok (.iconst 1, 1) := by decide +kernel
theorem d247_73 : decode (tb_me 247).1.2.1 73 = .ok (.isub, 1) := by decide +kernel
theorem d247_74 : decode (tb_me 247).1.2.1 74 = .ok (.iaload, 1) := by decide +kernel
theorem d247_75 : decode (tb_me 247).1.2.1 75 = .ok (.aload_n 0, 1) := by decide +kernel
theorem d247_76 : decode (tb_me 247).1.2.1 76 = .ok (.iload_n 1, 1) := by decide +kernel
theorem d247_77 : decode (tb_me 247).1.2.1 77 = .ok (.iconst 1, 1) := by decide +kernel
theorem d247_78 : decode (tb_me 247).1.2.1 78 = .ok (.iload 4, 2) := by decide +kernel
theorem d247_80 : decode (tb_me 247).1.2.1 80 = .ok (.iadd, 1) := by decide +kernel
theorem d247_81 : decode (tb_me 247).1.2.1 81 = .ok (.invokevirtual 293, 3) := by decide +kernel
theorem d247_84 : decode (tb_me 247).1.2.1 84 = .ok (.if_icmp .ne 7, 3) := by decide +kernel
theorem d247_91 : decode (tb_me 247).1.2.1 91 = .ok (.iconst 1, 1) := by decide +kernel
theorem d247_92 : decode (tb_me 247).1.2.1 92 = .ok (.iadd, 1) := by decide +kernel
theorem d247_93 : decode (tb_me 247).1.2.1 93 = .ok (.istore 6, 2) := by decide +kernel
theorem d247_95 : decode (tb_me 247).1.2.1 95 = .ok (.aload_n 0, 1) := by decide +kernel
theorem d247_96 : decode (tb_me 247).1.2.1 96 = .ok (.getfield 57, 3) := by decide +kernel
theorem d247_99 : decode (tb_me 247).1.2.1 99 = .ok (.iload 5, 2) := by decide +kernel
theorem d247_101 : decode (tb_me 247).1.2.1 101 = .ok (.iload 6, 2) := by decide +kernel
theorem d247_103 : decode (tb_me 247).1.2.1 103 = .ok (.aload_n 0, 1) := by decide +kernel
theorem d247_104 : decode (tb_me 247).1.2.1 104 = .ok (.getfield 57, 3) := by decide +kernel
theorem d247_107 : decode (tb_me 247).1.2.1 107 = .ok (.iload 5, 2) := by decide +kernel
theorem d247_109 : decode (tb_me 247).1.2.1 109 = .ok (.iconst 5, 1) := by decide +kernel
theorem d247_110 : decode (tb_me 247).1.2.1 110 = .ok (.isub, 1) := by decide +kernel
theorem d247_111 : decode (tb_me 247).1.2.1 111 = .ok (.iaload, 1) := by decide +kernel
theorem d247_112 : decode (tb_me 247).1.2.1 112 = .ok (.aload_n 0, 1) := by decide +kernel
theorem d247_113 : decode (tb_me 247).1.2.1 113 = .ok (.getfield 57, 3) := by decide +kernel
theorem d247_116 : decode (tb_me 247).1.2.1 116 = .ok (.iload 5, 2) := by decide +kernel
theorem d247_118 : decode (tb_me 247).1.2.1 118 = .ok (.iconst 1, 1) := by decide +kernel
theorem d247_119 : decode (tb_me 247).1.2.1 119 = .ok (.isub, 1) := by decide +kernel
theorem d247_120 : decode (tb_me 247).1.2.1 120 = .ok (.iaload, 1) := by decide +kernel
theorem d247_121 : decode (tb_me 247).1.2.1 121 = .ok (.invokestatic 407, 3) := by decide +kernel
theorem k247_407 (b : Bool) : tb_lk b 247 407 = (4, 246, 0, 0, 0) := by cases b <;> decide +kernel
theorem m246 : (tb_me 246).2 = ((0, 0), (2, 999)) ∧ (tb_me 246).1.2.2.1 = 2 := by decide +kernel
theorem d247_124 : decode (tb_me 247).1.2.1 124 = .ok (.iconst 1, 1) := by decide +kernel
theorem d247_125 : decode (tb_me 247).1.2.1 125 = .ok (.iadd, 1) := by decide +kernel
theorem d247_126 : decode (tb_me 247).1.2.1 126 = .ok (.invokestatic 407, 3) := by decide +kernel
theorem d247_129 : decode (tb_me 247).1.2.1 129 = .ok (.iastore, 1) := by decide +kernel
theorem d247_87 : decode (tb_me 247).1.2.1 87 = .ok (.iconst 0, 1) := by decide +kernel
theorem d247_88 : decode (tb_me 247).1.2.1 88 = .ok (.goto 4, 3) := by decide +kernel
theorem d250_52 : decode (tb_me 250).1.2.1 52 = .ok (.iconst 0, 1) := by decide +kernel
theorem d250_53 : decode (tb_me 250).1.2.1 53 = .ok (.ireturn, 1) := by decide +kernel
theorem d257_12 : decode (tb_me 257).1.2.1 12 = .ok (.iconst (-1), 1) := by decide +kernel
theorem d257_13 : decode (tb_me 257).1.2.1 13 = .ok (.ireturn, 1) := by decide +kernel
theorem l_bits_0 (b : Bool) (L : Nat) (xs : Nat → Int32) (d : Nat) (hd : 0 ≤ d) (h : pm_H) (hI : IM h) (a0 : Int32) {Q : Option Value → pm_H → Prop} (k0 : PW b L xs d 150 0 0 4 [.int a0, .int (Int32.ofInt 0), .int a0] [] h Q) : PW b L xs d 150 0 0 0 [.int a0, .retAddr 0, .retAddr 0] [] h Q := by
  refine pw_s (pc := 0) d150_0 rfl rfl ?_
  refine pw_t (pc := 1) d150_1 rfl rfl rfl rfl ?_
  refine pw_l (pc := 2) d150_2 rfl rfl rfl ?_
  refine pw_t (pc := 3) d150_3 rfl rfl rfl rfl ?_
  exact k0 
theorem l_bits_4 (b : Bool) (L : Nat) (xs : Nat → Int32) (d : Nat) (hd : 0 ≤ d) (h : pm_H) (hI : IM h) (l0 : Int32) (l1 : Int32) (l2 : Int32) {Q : Option Value → pm_H → Prop} (k0 : (¬ (l2 = 0)) → PW b L xs d 150 0 0 4 [.int l0, .int (l1 + Int32.ofInt 1), .int (l2 &&& (l2 - (Int32.ofInt 1)))] [] h Q) (r0 : (l2 = 0) → Q (some (.int l1)) h) : PW b L xs d 150 0 0 4 [.int l0, .int l1, .int l2] [] h Q := by
  refine pw_l (pc := 4) d150_4 rfl rfl rfl ?_
  refine pw_zeq (pc := 5) (t := 20) d150_5 (by decide) (fun c1 => ?_) (fun c1 => ?_)
  · refine pw_l (pc := 20) d150_20 rfl rfl rfl ?_
    refine pw_ri (pc := 21) d150_21 t150 rfl ?_
    exact r0 c1
  · refine pw_t (pc := 8) d150_8 rfl rfl rfl rfl ?_
    refine pw_l (pc := 11) d150_11 rfl rfl rfl ?_
    refine pw_l (pc := 12) d150_12 rfl rfl rfl ?_
    refine pw_s (pc := 13) d150_13 rfl rfl ?_
    refine pw_s (pc := 14) d150_14 rfl rfl ?_
    refine pw_s (pc := 15) d150_15 rfl rfl ?_
    refine pw_t (pc := 16) d150_16 rfl rfl rfl rfl ?_
    refine pw_go (pc := 17) (t := 4) d150_17 (by decide) ?_
    exact k0 c1
theorem l_four_0 (b : Bool) (L : Nat) (xs : Nat → Int32) (d : Nat) (hd : 0 ≤ d) (h : pm_H) (hI : IM h) (a0 : Int32) {Q : Option Value → pm_H → Prop} (k0 : PW b L xs d 151 0 0 3 [.ref 193, .int a0, .int ((Int8.ofInt 24).toInt32)] [] h Q) : PW b L xs d 151 0 0 0 [.ref 193, .int a0, .retAddr 0] [] h Q := by
  refine pw_s (pc := 0) d151_0 rfl rfl ?_
  refine pw_t (pc := 2) d151_2 rfl rfl rfl rfl ?_
  exact k0 
theorem l_four_3 (b : Bool) (L : Nat) (xs : Nat → Int32) (d : Nat) (hd : 0 ≤ d) (h : pm_H) (hI : IM h) (l1 : Int32) (l2 : Int32) {Q : Option Value → pm_H → Prop} (b0 : (¬ (l2 < 0)) → vp_in (h.2.1 193 1) 400) (k0 : (¬ (l2 < 0)) → PW b L xs d 151 0 0 3 [.ref 193, .int l1, .int (l2 + Int32.ofInt (-8))] [] (pm_setI (pm_setI h 194 (h.2.1 193 1).toNatClampNeg (vp_nar .byte (l1 >>> (l2 &&& 31)).toInt8.toInt32)) 193 1 (((pm_setI h 194 (h.2.1 193 1).toNatClampNeg (vp_nar .byte (l1 >>> (l2 &&& 31)).toInt8.toInt32)).2.1 193 1) + (Int32.ofInt 1))) Q) (r0 : (l2 < 0) → Q none h) : PW b L xs d 151 0 0 3 [.ref 193, .int l1, .int l2] [] h Q := by
  refine pw_l (pc := 3) d151_3 rfl rfl rfl ?_
  refine pw_zlt (pc := 4) (t := 36) d151_4 (by decide) (fun c1 => ?_) (fun c1 => ?_)
  · refine pw_rv (pc := 36) d151_36 t151 ?_
    exact r0 c1
  · refine pw_l (pc := 7) d151_7 rfl rfl rfl ?_
    refine pw_gr (pc := 8) d151_8 (k151_7 b) (sh_at hI.1 s193) f10_0 hI.r0 ?_
    refine pw_l (pc := 11) d151_11 rfl rfl rfl ?_
    refine pw_gi (pc := 12) d151_12 (k151_73 b) (sh_at hI.1 s193) f10_1 ?_
    refine pw_l (pc := 15) d151_15 rfl rfl rfl ?_
    refine pw_l (pc := 16) d151_16 rfl rfl rfl ?_
    refine pw_s (pc := 17) d151_17 rfl rfl ?_
    refine pw_s (pc := 18) d151_18 rfl rfl ?_
    refine pw_sb (pc := 19) d151_19 (sh_at hI.1 s194) (by decide) (b0 c1) ?_
    refine pw_l (pc := 20) d151_20 rfl rfl rfl ?_
    refine pw_s (pc := 21) d151_21 rfl rfl ?_
    refine pw_gi (pc := 22) d151_22 (k151_73 b) (sh_at hI.1 s193) f10_1 ?_
    refine pw_s (pc := 25) d151_25 rfl rfl ?_
    refine pw_s (pc := 26) d151_26 rfl rfl ?_
    refine pw_pi (pc := 27) d151_27 (k151_73 b) (sh_at hI.1 s193) p151_10_1 ?_
    refine pw_t (pc := 30) d151_30 rfl rfl rfl rfl ?_
    refine pw_go (pc := 33) (t := 3) d151_33 (by decide) ?_
    exact k0 c1
theorem l_see_0 (b : Bool) (L : Nat) (xs : Nat → Int32) (d : Nat) (hd : 0 ≤ d) (h : pm_H) (hI : IM h) {Q : Option Value → pm_H → Prop} (b0 : ((h.2.1 193 1) ≤ (h.2.1 193 8)) → (¬ ((h.2.1 193 1) ≤ (h.2.1 193 8))) → vp_in (h.2.1 193 8) 400) (b1 : (¬ ((h.2.1 193 1) ≤ (h.2.1 193 8))) → vp_in (h.2.1 193 8) 400) (b2 : (¬ ((h.2.1 193 1) ≤ (h.2.1 193 8))) → (¬ (h.2.1 194 (h.2.1 193 8).toNatClampNeg) = (Int8.ofInt 32).toInt32) → (¬ ((h.2.1 193 1) ≤ (h.2.1 193 8))) → vp_in (h.2.1 193 8) 400) (k0 : (¬ ((h.2.1 193 1) ≤ (h.2.1 193 8))) → (¬ (¬ (h.2.1 194 (h.2.1 193 8).toNatClampNeg) = (Int8.ofInt 32).toInt32)) → PW b L xs d 155 0 0 0 [.ref 193] [] (pm_setI h 193 8 ((h.2.1 193 8) + (Int32.ofInt 1))) Q) (r0 : ((h.2.1 193 1) ≤ (h.2.1 193 8)) → ((h.2.1 193 1) ≤ (h.2.1 193 8)) → Q (some (.int (Int32.ofInt (-1)))) h) (r1 : ((h.2.1 193 1) ≤ (h.2.1 193 8)) → (¬ ((h.2.1 193 1) ≤ (h.2.1 193 8))) → Q (some (.int ((h.2.1 194 (h.2.1 193 8).toNatClampNeg) &&& (Int16.ofInt 255).toInt32))) h) (r2 : (¬ ((h.2.1 193 1) ≤ (h.2.1 193 8))) → (¬ (h.2.1 194 (h.2.1 193 8).toNatClampNeg) = (Int8.ofInt 32).toInt32) → ((h.2.1 193 1) ≤ (h.2.1 193 8)) → Q (some (.int (Int32.ofInt (-1)))) h) (r3 : (¬ ((h.2.1 193 1) ≤ (h.2.1 193 8))) → (¬ (h.2.1 194 (h.2.1 193 8).toNatClampNeg) = (Int8.ofInt 32).toInt32) → (¬ ((h.2.1 193 1) ≤ (h.2.1 193 8))) → Q (some (.int ((h.2.1 194 (h.2.1 193 8).toNatClampNeg) &&& (Int16.ofInt 255).toInt32))) h) : PW b L xs d 155 0 0 0 [.ref 193] [] h Q := by
  refine pw_l (pc := 0) d155_0 rfl rfl rfl ?_
  refine pw_gi (pc := 1) d155_1 (k155_84 b) (sh_at hI.1 s193) f10_8 ?_
  refine pw_l (pc := 4) d155_4 rfl rfl rfl ?_
  refine pw_gi (pc := 5) d155_5 (k155_73 b) (sh_at hI.1 s193) f10_1 ?_
  refine pw_ige (pc := 8) (t := 38) d155_8 (by decide) (fun c1 => ?_) (fun c1 => ?_)
  · refine pw_l (pc := 38) d155_38 rfl rfl rfl ?_
    refine pw_gi (pc := 39) d155_39 (k155_84 b) (sh_at hI.1 s193) f10_8 ?_
    refine pw_l (pc := 42) d155_42 rfl rfl rfl ?_
    refine pw_gi (pc := 43) d155_43 (k155_73 b) (sh_at hI.1 s193) f10_1 ?_
    refine pw_ige (pc := 46) (t := 65) d155_46 (by decide) (fun c2 => ?_) (fun c2 => ?_)
    · refine pw_s (pc := 65) d155_65 rfl rfl ?_
      refine pw_ri (pc := 66) d155_66 t155 rfl ?_
      exact r0 c1 c2
    · refine pw_l (pc := 49) d155_49 rfl rfl rfl ?_
      refine pw_gr (pc := 50) d155_50 (k155_7 b) (sh_at hI.1 s193) f10_0 hI.r0 ?_
      refine pw_l (pc := 53) d155_53 rfl rfl rfl ?_
      refine pw_gi (pc := 54) d155_54 (k155_84 b) (sh_at hI.1 s193) f10_8 ?_
      refine pw_ab (pc := 57) d155_57 (sh_at hI.1 s194) (by decide) (b0 c1 c2) ?_
      refine pw_s (pc := 58) d155_58 rfl rfl ?_
      refine pw_s (pc := 61) d155_61 rfl rfl ?_
      refine pw_go (pc := 62) (t := 66) d155_62 (by decide) ?_
      refine pw_ri (pc := 66) d155_66 t155 rfl ?_
      exact r1 c1 c2
  · refine pw_l (pc := 11) d155_11 rfl rfl rfl ?_
    refine pw_gr (pc := 12) d155_12 (k155_7 b) (sh_at hI.1 s193) f10_0 hI.r0 ?_
    refine pw_l (pc := 15) d155_15 rfl rfl rfl ?_
    refine pw_gi (pc := 16) d155_16 (k155_84 b) (sh_at hI.1 s193) f10_8 ?_
    refine pw_ab (pc := 19) d155_19 (sh_at hI.1 s194) (by decide) (b1 c1) ?_
    refine pw_s (pc := 20) d155_20 rfl rfl ?_
    refine pw_ine (pc := 22) (t := 38) d155_22 (by decide) (fun c3 => ?_) (fun c3 => ?_)
    · refine pw_l (pc := 38) d155_38 rfl rfl rfl ?_
      refine pw_gi (pc := 39) d155_39 (k155_84 b) (sh_at hI.1 s193) f10_8 ?_
      refine pw_l (pc := 42) d155_42 rfl rfl rfl ?_
      refine pw_gi (pc := 43) d155_43 (k155_73 b) (sh_at hI.1 s193) f10_1 ?_
      refine pw_ige (pc := 46) (t := 65) d155_46 (by decide) (fun c4 => ?_) (fun c4 => ?_)
      · refine pw_s (pc := 65) d155_65 rfl rfl ?_
        refine pw_ri (pc := 66) d155_66 t155 rfl ?_
        exact r2 c1 c3 c4
      · refine pw_l (pc := 49) d155_49 rfl rfl rfl ?_
        refine pw_gr (pc := 50) d155_50 (k155_7 b) (sh_at hI.1 s193) f10_0 hI.r0 ?_
        refine pw_l (pc := 53) d155_53 rfl rfl rfl ?_
        refine pw_gi (pc := 54) d155_54 (k155_84 b) (sh_at hI.1 s193) f10_8 ?_
        refine pw_ab (pc := 57) d155_57 (sh_at hI.1 s194) (by decide) (b2 c1 c3 c4) ?_
        refine pw_s (pc := 58) d155_58 rfl rfl ?_
        refine pw_s (pc := 61) d155_61 rfl rfl ?_
        refine pw_go (pc := 62) (t := 66) d155_62 (by decide) ?_
        refine pw_ri (pc := 66) d155_66 t155 rfl ?_
        exact r3 c1 c3 c4
    · refine pw_l (pc := 25) d155_25 rfl rfl rfl ?_
      refine pw_s (pc := 26) d155_26 rfl rfl ?_
      refine pw_gi (pc := 27) d155_27 (k155_84 b) (sh_at hI.1 s193) f10_8 ?_
      refine pw_s (pc := 30) d155_30 rfl rfl ?_
      refine pw_s (pc := 31) d155_31 rfl rfl ?_
      refine pw_pi (pc := 32) d155_32 (k155_84 b) (sh_at hI.1 s193) p155_10_8 ?_
      refine pw_go (pc := 35) (t := 0) d155_35 (by decide) ?_
      exact k0 c1 c3
theorem l_passWord_0 (b : Bool) (L : Nat) (xs : Nat → Int32) (d : Nat) (hd : 1 ≤ d) (h : pm_H) (hI : IM h) {Q : Option Value → pm_H → Prop} (b0 : ((¬ ((h.2.1 193 1) ≤ ((h.2.1 193 8)))) → vp_in ((h.2.1 193 8)) 400)) (b1 : ((¬ ((h.2.1 193 1) ≤ ((h.2.1 193 8)))) → (¬ ((h.2.1 194 ((h.2.1 193 8)).toNatClampNeg) < (Int8.ofInt 97).toInt32)) → vp_in ((h.2.1 193 8)) 400)) (k0 : (¬ ((v_isLetter (h.2.1 193 8) h) = 0)) → PW b L xs d 159 0 0 0 [.ref 193] [] (pm_setI h 193 8 ((h.2.1 193 8) + (Int32.ofInt 1))) Q) (r0 : ((v_isLetter (h.2.1 193 8) h) = 0) → Q none h) : PW b L xs d 159 0 0 0 [.ref 193] [] h Q := by
  refine pw_l (pc := 0) d159_0 rfl rfl rfl ?_
  refine pw_l (pc := 1) d159_1 rfl rfl rfl ?_
  refine pw_gi (pc := 2) d159_2 (k159_84 b) (sh_at hI.1 s193) f10_8 ?_
  refine pw_v (pc := 5) (k := 193) (by omega) d159_5 (k159_91 b) (by decide) m157 (by decide) rfl (sh_at hI.1 s193) (Nat.le_of_ble_eq_true rfl) (Nat.le_of_ble_eq_true rfl) rfl rfl (c_isLetter b L xs (d - 1) (by omega) h hI (h.2.1 193 8) (b0 ) (b1 )) (fun v h2 hq => ?_)
  obtain ⟨rfl, hq2⟩ := hq
  rw [hq2]
  simp only [Option.toList_some, List.cons_append, List.nil_append]
  refine pw_zeq (pc := 8) (t := 24) d159_8 (by decide) (fun c1 => ?_) (fun c1 => ?_)
  · refine pw_rv (pc := 24) d159_24 t159 ?_
    exact r0 c1
  · refine pw_l (pc := 11) d159_11 rfl rfl rfl ?_
    refine pw_s (pc := 12) d159_12 rfl rfl ?_
    refine pw_gi (pc := 13) d159_13 (k159_84 b) (sh_at hI.1 s193) f10_8 ?_
    refine pw_s (pc := 16) d159_16 rfl rfl ?_
    refine pw_s (pc := 17) d159_17 rfl rfl ?_
    refine pw_pi (pc := 18) d159_18 (k159_84 b) (sh_at hI.1 s193) p159_10_8 ?_
    refine pw_go (pc := 21) (t := 0) d159_21 (by decide) ?_
    exact k0 c1
theorem l_isInside_0 (b : Bool) (L : Nat) (xs : Nat → Int32) (d : Nat) (hd : 0 ≤ d) (h : pm_H) (hI : IM h) {Q : Option Value → pm_H → Prop} (k0 : PW b L xs d 173 0 0 2 [.ref 193, .int (Int32.ofInt 0)] [] h Q) : PW b L xs d 173 0 0 0 [.ref 193, .retAddr 0] [] h Q := by
  refine pw_s (pc := 0) d173_0 rfl rfl ?_
  refine pw_t (pc := 1) d173_1 rfl rfl rfl rfl ?_
  exact k0 
theorem l_isInside_2 (b : Bool) (L : Nat) (xs : Nat → Int32) (d : Nat) (hd : 0 ≤ d) (h : pm_H) (hI : IM h) (l1 : Int32) {Q : Option Value → pm_H → Prop} (b0 : (¬ ((h.2.1 193 16) ≤ l1)) → vp_in l1 400) (k0 : (¬ ((h.2.1 193 16) ≤ l1)) → (¬ (h.2.1 200 l1.toNatClampNeg) = (Int8.ofInt 91).toInt32) → PW b L xs d 173 0 0 2 [.ref 193, .int (l1 + Int32.ofInt 1)] [] h Q) (r0 : ((h.2.1 193 16) ≤ l1) → Q (some (.int (Int32.ofInt 0))) h) (r1 : (¬ ((h.2.1 193 16) ≤ l1)) → (¬ (¬ (h.2.1 200 l1.toNatClampNeg) = (Int8.ofInt 91).toInt32)) → Q (some (.int (Int32.ofInt 1))) h) : PW b L xs d 173 0 0 2 [.ref 193, .int l1] [] h Q := by
  refine pw_l (pc := 2) d173_2 rfl rfl rfl ?_
  refine pw_l (pc := 3) d173_3 rfl rfl rfl ?_
  refine pw_gi (pc := 4) d173_4 (k173_147 b) (sh_at hI.1 s193) f10_16 ?_
  refine pw_ige (pc := 7) (t := 29) d173_7 (by decide) (fun c1 => ?_) (fun c1 => ?_)
  · refine pw_s (pc := 29) d173_29 rfl rfl ?_
    refine pw_ri (pc := 30) d173_30 t173 rfl ?_
    exact r0 c1
  · refine pw_l (pc := 10) d173_10 rfl rfl rfl ?_
    refine pw_gr (pc := 11) d173_11 (k173_29 b) (sh_at hI.1 s193) f10_15 hI.r15 ?_
    refine pw_l (pc := 14) d173_14 rfl rfl rfl ?_
    refine pw_ai (pc := 15) d173_15 (sh_at hI.1 s200) (b0 c1) ?_
    refine pw_s (pc := 16) d173_16 rfl rfl ?_
    refine pw_ine (pc := 18) (t := 23) d173_18 (by decide) (fun c2 => ?_) (fun c2 => ?_)
    · refine pw_t (pc := 23) d173_23 rfl rfl rfl rfl ?_
      refine pw_go (pc := 26) (t := 2) d173_26 (by decide) ?_
      exact k0 c1 c2
    · refine pw_s (pc := 21) d173_21 rfl rfl ?_
      refine pw_ri (pc := 22) d173_22 t173 rfl ?_
      exact r1 c1 c2
theorem l_heardSet_0 (b : Bool) (L : Nat) (xs : Nat → Int32) (d : Nat) (hd : 0 ≤ d) (h : pm_H) (hI : IM h) {Q : Option Value → pm_H → Prop} (k0 : PW b L xs d 200 0 0 4 [.ref 193, .int (Int32.ofInt 0), .int (Int32.ofInt 0)] [] h Q) : PW b L xs d 200 0 0 0 [.ref 193, .retAddr 0, .retAddr 0] [] h Q := by
  refine pw_s (pc := 0) d200_0 rfl rfl ?_
  refine pw_t (pc := 1) d200_1 rfl rfl rfl rfl ?_
  refine pw_s (pc := 2) d200_2 rfl rfl ?_
  refine pw_t (pc := 3) d200_3 rfl rfl rfl rfl ?_
  exact k0 
theorem l_heardSet_4 (b : Bool) (L : Nat) (xs : Nat → Int32) (d : Nat) (hd : 3 ≤ d) (h : pm_H) (hI : IM h) (l1 : Int32) (l2 : Int32) {Q : Option Value → pm_H → Prop} (b0 : (¬ ((Int8.ofInt 8).toInt32 < l2)) → ((¬ l2 = (Int8.ofInt 8).toInt32) → ((¬ ((v_isMan l2 h) = 0)) → (vp_in (((Int8.ofInt 10).toInt32 + ((Int8.ofInt 6).toInt32 * l2)) + ((Int32.ofInt 4))) 227)))) (b1 : (¬ ((Int8.ofInt 8).toInt32 < l2)) → ((¬ l2 = (Int8.ofInt 8).toInt32) → (¬ ((v_isAlive l2 h) = 0)) → (vp_in (((Int8.ofInt 10).toInt32 + ((Int8.ofInt 6).toInt32 * l2)) + ((Int32.ofInt 2))) 227))) (b2 : (¬ ((Int8.ofInt 8).toInt32 < l2)) → ((¬ l2 = (Int8.ofInt 8).toInt32) → (¬ ((v_isAlive l2 h) = 0)) → (¬ (¬ (v_manOf l2 (Int32.ofInt 2) h) = (Int32.ofInt 1))) → (vp_in (((Int8.ofInt 10).toInt32 + ((Int8.ofInt 6).toInt32 * l2)) + ((Int32.ofInt 3))) 227))) (b3 : (¬ ((Int8.ofInt 8).toInt32 < l2)) → ((¬ l2 = (Int8.ofInt 8).toInt32) → (¬ ((v_isAlive l2 h) = 0)) → (¬ (¬ (v_manOf l2 (Int32.ofInt 2) h) = (Int32.ofInt 1))) → (¬ (¬ (v_manOf l2 (Int32.ofInt 3) h) = 0)) → ((¬ ((h.2.1 203 (Int32.ofInt 5).toNatClampNeg) ≤ 0)) → (vp_in (((Int8.ofInt 10).toInt32 + ((Int8.ofInt 6).toInt32 * l2)) + ((Int32.ofInt 1))) 227)))) (k0 : (¬ ((Int8.ofInt 8).toInt32 < l2)) → ((v_isHeard l2 h) = 0) → PW b L xs d 200 0 0 4 [.ref 193, .int (l1 ||| (Int32.ofInt 0)), .int (l2 + Int32.ofInt 1)] [] h Q) (k1 : (¬ ((Int8.ofInt 8).toInt32 < l2)) → (¬ ((v_isHeard l2 h) = 0)) → PW b L xs d 200 0 0 4 [.ref 193, .int (l1 ||| ((Int32.ofInt 1) <<< (l2 &&& 31))), .int (l2 + Int32.ofInt 1)] [] h Q) (r0 : ((Int8.ofInt 8).toInt32 < l2) → Q (some (.int l1)) h) : PW b L xs d 200 0 0 4 [.ref 193, .int l1, .int l2] [] h Q := by
  refine pw_l (pc := 4) d200_4 rfl rfl rfl ?_
  refine pw_s (pc := 5) d200_5 rfl rfl ?_
  refine pw_igt (pc := 7) (t := 34) d200_7 (by decide) (fun c1 => ?_) (fun c1 => ?_)
  · refine pw_l (pc := 34) d200_34 rfl rfl rfl ?_
    refine pw_ri (pc := 35) d200_35 t200 rfl ?_
    exact r0 c1
  · refine pw_l (pc := 10) d200_10 rfl rfl rfl ?_
    refine pw_l (pc := 11) d200_11 rfl rfl rfl ?_
    refine pw_l (pc := 12) d200_12 rfl rfl rfl ?_
    refine pw_v (pc := 13) (k := 193) (by omega) d200_13 (k200_283 b) (by decide) m199 (by decide) rfl (sh_at hI.1 s193) (Nat.le_of_ble_eq_true rfl) (Nat.le_of_ble_eq_true rfl) rfl rfl (c_isHeard b L xs (d - 1) (by omega) h hI l2 (b0 c1) (b1 c1) (b2 c1) (b3 c1)) (fun v h2 hq => ?_)
    obtain ⟨rfl, hq2⟩ := hq
    rw [hq2]
    simp only [Option.toList_some, List.cons_append, List.nil_append]
    refine pw_zeq (pc := 16) (t := 25) d200_16 (by decide) (fun c2 => ?_) (fun c2 => ?_)
    · refine pw_s (pc := 25) d200_25 rfl rfl ?_
      refine pw_s (pc := 26) d200_26 rfl rfl ?_
      refine pw_t (pc := 27) d200_27 rfl rfl rfl rfl ?_
      refine pw_t (pc := 28) d200_28 rfl rfl rfl rfl ?_
      refine pw_go (pc := 31) (t := 4) d200_31 (by decide) ?_
      exact k0 c1 c2
    · refine pw_s (pc := 19) d200_19 rfl rfl ?_
      refine pw_l (pc := 20) d200_20 rfl rfl rfl ?_
      refine pw_s (pc := 21) d200_21 rfl rfl ?_
      refine pw_go (pc := 22) (t := 26) d200_22 (by decide) ?_
      refine pw_s (pc := 26) d200_26 rfl rfl ?_
      refine pw_t (pc := 27) d200_27 rfl rfl rfl rfl ?_
      refine pw_t (pc := 28) d200_28 rfl rfl rfl rfl ?_
      refine pw_go (pc := 31) (t := 4) d200_31 (by decide) ?_
      exact k1 c1 c2
theorem l_aliveSet_0 (b : Bool) (L : Nat) (xs : Nat → Int32) (d : Nat) (hd : 0 ≤ d) (h : pm_H) (hI : IM h) {Q : Option Value → pm_H → Prop} (k0 : PW b L xs d 201 0 0 4 [.ref 193, .int (Int32.ofInt 0), .int (Int32.ofInt 0)] [] h Q) : PW b L xs d 201 0 0 0 [.ref 193, .retAddr 0, .retAddr 0] [] h Q := by
  refine pw_s (pc := 0) d201_0 rfl rfl ?_
  refine pw_t (pc := 1) d201_1 rfl rfl rfl rfl ?_
  refine pw_s (pc := 2) d201_2 rfl rfl ?_
  refine pw_t (pc := 3) d201_3 rfl rfl rfl rfl ?_
  exact k0 
theorem l_aliveSet_4 (b : Bool) (L : Nat) (xs : Nat → Int32) (d : Nat) (hd : 2 ≤ d) (h : pm_H) (hI : IM h) (l1 : Int32) (l2 : Int32) {Q : Option Value → pm_H → Prop} (b0 : (¬ ((h.2.1 203 (Int32.ofInt 1).toNatClampNeg) ≤ l2)) → ((¬ ((v_isMan l2 h) = 0)) → (vp_in (((Int8.ofInt 10).toInt32 + ((Int8.ofInt 6).toInt32 * l2)) + ((Int32.ofInt 4))) 227))) (k0 : (¬ ((h.2.1 203 (Int32.ofInt 1).toNatClampNeg) ≤ l2)) → ((v_isAlive l2 h) = 0) → PW b L xs d 201 0 0 4 [.ref 193, .int (l1 ||| (Int32.ofInt 0)), .int (l2 + Int32.ofInt 1)] [] h Q) (k1 : (¬ ((h.2.1 203 (Int32.ofInt 1).toNatClampNeg) ≤ l2)) → (¬ ((v_isAlive l2 h) = 0)) → PW b L xs d 201 0 0 4 [.ref 193, .int (l1 ||| ((Int32.ofInt 1) <<< (l2 &&& 31))), .int (l2 + Int32.ofInt 1)] [] h Q) (r0 : ((h.2.1 203 (Int32.ofInt 1).toNatClampNeg) ≤ l2) → Q (some (.int l1)) h) : PW b L xs d 201 0 0 4 [.ref 193, .int l1, .int l2] [] h Q := by
  refine pw_l (pc := 4) d201_4 rfl rfl rfl ?_
  refine pw_l (pc := 5) d201_5 rfl rfl rfl ?_
  refine pw_gr (pc := 6) d201_6 (k201_39 b) (sh_at hI.1 s193) f10_20 hI.r20 ?_
  refine pw_s (pc := 9) d201_9 rfl rfl ?_
  refine pw_ai (pc := 10) d201_10 (sh_at hI.1 s203) (by unfold vp_in; decide) ?_
  refine pw_ige (pc := 11) (t := 38) d201_11 (by decide) (fun c1 => ?_) (fun c1 => ?_)
  · refine pw_l (pc := 38) d201_38 rfl rfl rfl ?_
    refine pw_ri (pc := 39) d201_39 t201 rfl ?_
    exact r0 c1
  · refine pw_l (pc := 14) d201_14 rfl rfl rfl ?_
    refine pw_l (pc := 15) d201_15 rfl rfl rfl ?_
    refine pw_l (pc := 16) d201_16 rfl rfl rfl ?_
    refine pw_v (pc := 17) (k := 193) (by omega) d201_17 (k201_277 b) (by decide) m197 (by decide) rfl (sh_at hI.1 s193) (Nat.le_of_ble_eq_true rfl) (Nat.le_of_ble_eq_true rfl) rfl rfl (c_isAlive b L xs (d - 1) (by omega) h hI l2 (b0 c1)) (fun v h2 hq => ?_)
    obtain ⟨rfl, hq2⟩ := hq
    rw [hq2]
    simp only [Option.toList_some, List.cons_append, List.nil_append]
    refine pw_zeq (pc := 20) (t := 29) d201_20 (by decide) (fun c2 => ?_) (fun c2 => ?_)
    · refine pw_s (pc := 29) d201_29 rfl rfl ?_
      refine pw_s (pc := 30) d201_30 rfl rfl ?_
      refine pw_t (pc := 31) d201_31 rfl rfl rfl rfl ?_
      refine pw_t (pc := 32) d201_32 rfl rfl rfl rfl ?_
      refine pw_go (pc := 35) (t := 4) d201_35 (by decide) ?_
      exact k0 c1 c2
    · refine pw_s (pc := 23) d201_23 rfl rfl ?_
      refine pw_l (pc := 24) d201_24 rfl rfl rfl ?_
      refine pw_s (pc := 25) d201_25 rfl rfl ?_
      refine pw_go (pc := 26) (t := 30) d201_26 (by decide) ?_
      refine pw_s (pc := 30) d201_30 rfl rfl ?_
      refine pw_t (pc := 31) d201_31 rfl rfl rfl rfl ?_
      refine pw_t (pc := 32) d201_32 rfl rfl rfl rfl ?_
      refine pw_go (pc := 35) (t := 4) d201_35 (by decide) ?_
      exact k1 c1 c2
theorem l_awakeSet_0 (b : Bool) (L : Nat) (xs : Nat → Int32) (d : Nat) (hd : 0 ≤ d) (h : pm_H) (hI : IM h) {Q : Option Value → pm_H → Prop} (k0 : PW b L xs d 202 0 0 4 [.ref 193, .int (Int32.ofInt 0), .int (Int32.ofInt 0)] [] h Q) : PW b L xs d 202 0 0 0 [.ref 193, .retAddr 0, .retAddr 0] [] h Q := by
  refine pw_s (pc := 0) d202_0 rfl rfl ?_
  refine pw_t (pc := 1) d202_1 rfl rfl rfl rfl ?_
  refine pw_s (pc := 2) d202_2 rfl rfl ?_
  refine pw_t (pc := 3) d202_3 rfl rfl rfl rfl ?_
  exact k0 
theorem l_awakeSet_4 (b : Bool) (L : Nat) (xs : Nat → Int32) (d : Nat) (hd : 1 ≤ d) (h : pm_H) (hI : IM h) (l1 : Int32) (l2 : Int32) {Q : Option Value → pm_H → Prop} (b0 : (¬ ((h.2.1 203 (Int32.ofInt 1).toNatClampNeg) ≤ l2)) → (vp_in (((Int8.ofInt 10).toInt32 + ((Int8.ofInt 6).toInt32 * l2)) + ((Int32.ofInt 2))) 227)) (k0 : (¬ ((h.2.1 203 (Int32.ofInt 1).toNatClampNeg) ≤ l2)) → PW b L xs d 202 0 0 4 [.ref 193, .int (l1 ||| ((v_manOf l2 (Int32.ofInt 2) h) <<< (l2 &&& 31))), .int (l2 + Int32.ofInt 1)] [] h Q) (r0 : ((h.2.1 203 (Int32.ofInt 1).toNatClampNeg) ≤ l2) → Q (some (.int l1)) h) : PW b L xs d 202 0 0 4 [.ref 193, .int l1, .int l2] [] h Q := by
  refine pw_l (pc := 4) d202_4 rfl rfl rfl ?_
  refine pw_l (pc := 5) d202_5 rfl rfl rfl ?_
  refine pw_gr (pc := 6) d202_6 (k202_39 b) (sh_at hI.1 s193) f10_20 hI.r20 ?_
  refine pw_s (pc := 9) d202_9 rfl rfl ?_
  refine pw_ai (pc := 10) d202_10 (sh_at hI.1 s203) (by unfold vp_in; decide) ?_
  refine pw_ige (pc := 11) (t := 31) d202_11 (by decide) (fun c1 => ?_) (fun c1 => ?_)
  · refine pw_l (pc := 31) d202_31 rfl rfl rfl ?_
    refine pw_ri (pc := 32) d202_32 t202 rfl ?_
    exact r0 c1
  · refine pw_l (pc := 14) d202_14 rfl rfl rfl ?_
    refine pw_l (pc := 15) d202_15 rfl rfl rfl ?_
    refine pw_l (pc := 16) d202_16 rfl rfl rfl ?_
    refine pw_s (pc := 17) d202_17 rfl rfl ?_
    refine pw_v (pc := 18) (k := 193) (by omega) d202_18 (k202_273 b) (by decide) m196 (by decide) rfl (sh_at hI.1 s193) (Nat.le_of_ble_eq_true rfl) (Nat.le_of_ble_eq_true rfl) rfl rfl (c_manOf b L xs (d - 1) (by omega) h hI l2 (Int32.ofInt 2) (b0 c1)) (fun v h2 hq => ?_)
    obtain ⟨rfl, hq2⟩ := hq
    rw [hq2]
    simp only [Option.toList_some, List.cons_append, List.nil_append]
    refine pw_l (pc := 21) d202_21 rfl rfl rfl ?_
    refine pw_s (pc := 22) d202_22 rfl rfl ?_
    refine pw_s (pc := 23) d202_23 rfl rfl ?_
    refine pw_t (pc := 24) d202_24 rfl rfl rfl rfl ?_
    refine pw_t (pc := 25) d202_25 rfl rfl rfl rfl ?_
    refine pw_go (pc := 28) (t := 4) d202_28 (by decide) ?_
    exact k0 c1
theorem l_becomesMeaning_0 (b : Bool) (L : Nat) (xs : Nat → Int32) (d : Nat) (hd : 0 ≤ d) (h : pm_H) (hI : IM h) {Q : Option Value → pm_H → Prop} (k0 : PW b L xs d 207 0 0 2 [.ref 193, .int (Int32.ofInt 0), .retAddr 0, .retAddr 0] [] h Q) : PW b L xs d 207 0 0 0 [.ref 193, .retAddr 0, .retAddr 0, .retAddr 0] [] h Q := by
  refine pw_s (pc := 0) d207_0 rfl rfl ?_
  refine pw_t (pc := 1) d207_1 rfl rfl rfl rfl ?_
  exact k0 
theorem l_becomesMeaning_2 (b : Bool) (L : Nat) (xs : Nat → Int32) (d : Nat) (hd : 0 ≤ d) (h : pm_H) (hI : IM h) (l1 : Int32) {Q : Option Value → pm_H → Prop} (b0 : (¬ ((h.2.1 193 23) ≤ (l1 + (Int32.ofInt 1)))) → vp_in l1 5) (b1 : (¬ ((h.2.1 193 23) ≤ (l1 + (Int32.ofInt 1)))) → vp_in (l1 + (Int32.ofInt 1)) 5) (b2 : (¬ ((h.2.1 193 23) ≤ (l1 + (Int32.ofInt 1)))) → vp_in (((Int8.ofInt 106).toInt32 + ((Int8.ofInt 10).toInt32 * (h.2.1 204 l1.toNatClampNeg))) + (h.2.1 204 (l1 + (Int32.ofInt 1)).toNatClampNeg)) 227) (b3 : (¬ ((h.2.1 193 23) ≤ (l1 + (Int32.ofInt 1)))) → (0 ≤ (h.2.1 203 (((Int8.ofInt 106).toInt32 + ((Int8.ofInt 10).toInt32 * (h.2.1 204 l1.toNatClampNeg))) + (h.2.1 204 (l1 + (Int32.ofInt 1)).toNatClampNeg)).toNatClampNeg)) → vp_in l1 5) (k0 : (¬ ((h.2.1 193 23) ≤ (l1 + (Int32.ofInt 1)))) → (0 ≤ (h.2.1 203 (((Int8.ofInt 106).toInt32 + ((Int8.ofInt 10).toInt32 * (h.2.1 204 l1.toNatClampNeg))) + (h.2.1 204 (l1 + (Int32.ofInt 1)).toNatClampNeg)).toNatClampNeg)) → PW b L xs d 207 0 0 60 [.ref 193, .int l1, .int (h.2.1 203 (((Int8.ofInt 106).toInt32 + ((Int8.ofInt 10).toInt32 * (h.2.1 204 l1.toNatClampNeg))) + (h.2.1 204 (l1 + (Int32.ofInt 1)).toNatClampNeg)).toNatClampNeg), .int (l1 + (Int32.ofInt 1))] [] (pm_setI h 204 l1.toNatClampNeg (h.2.1 203 (((Int8.ofInt 106).toInt32 + ((Int8.ofInt 10).toInt32 * (h.2.1 204 l1.toNatClampNeg))) + (h.2.1 204 (l1 + (Int32.ofInt 1)).toNatClampNeg)).toNatClampNeg)) Q) (k1 : (¬ ((h.2.1 193 23) ≤ (l1 + (Int32.ofInt 1)))) → (¬ (0 ≤ (h.2.1 203 (((Int8.ofInt 106).toInt32 + ((Int8.ofInt 10).toInt32 * (h.2.1 204 l1.toNatClampNeg))) + (h.2.1 204 (l1 + (Int32.ofInt 1)).toNatClampNeg)).toNatClampNeg))) → PW b L xs d 207 0 0 2 [.ref 193, .int (l1 + Int32.ofInt 1), .int (h.2.1 203 (((Int8.ofInt 106).toInt32 + ((Int8.ofInt 10).toInt32 * (h.2.1 204 l1.toNatClampNeg))) + (h.2.1 204 (l1 + (Int32.ofInt 1)).toNatClampNeg)).toNatClampNeg), .retAddr 0] [] h Q) (r0 : ((h.2.1 193 23) ≤ (l1 + (Int32.ofInt 1))) → Q none h) : PW b L xs d 207 0 0 2 [.ref 193, .int l1, .retAddr 0, .retAddr 0] [] h Q := by
  refine pw_l (pc := 2) d207_2 rfl rfl rfl ?_
  refine pw_s (pc := 3) d207_3 rfl rfl ?_
  refine pw_s (pc := 4) d207_4 rfl rfl ?_
  refine pw_l (pc := 5) d207_5 rfl rfl rfl ?_
  refine pw_gi (pc := 6) d207_6 (k207_299 b) (sh_at hI.1 s193) f10_23 ?_
  refine pw_ige (pc := 9) (t := 105) d207_9 (by decide) (fun c1 => ?_) (fun c1 => ?_)
  · refine pw_rv (pc := 105) d207_105 t207 ?_
    exact r0 c1
  · refine pw_l (pc := 12) d207_12 rfl rfl rfl ?_
    refine pw_gr (pc := 13) d207_13 (k207_39 b) (sh_at hI.1 s193) f10_20 hI.r20 ?_
    refine pw_s (pc := 16) d207_16 rfl rfl ?_
    refine pw_s (pc := 18) d207_18 rfl rfl ?_
    refine pw_l (pc := 20) d207_20 rfl rfl rfl ?_
    refine pw_gr (pc := 21) d207_21 (k207_42 b) (sh_at hI.1 s193) f10_22 hI.r22 ?_
    refine pw_l (pc := 24) d207_24 rfl rfl rfl ?_
    refine pw_ai (pc := 25) d207_25 (sh_at hI.1 s204) (b0 c1) ?_
    refine pw_s (pc := 26) d207_26 rfl rfl ?_
    refine pw_s (pc := 27) d207_27 rfl rfl ?_
    refine pw_l (pc := 28) d207_28 rfl rfl rfl ?_
    refine pw_gr (pc := 29) d207_29 (k207_42 b) (sh_at hI.1 s193) f10_22 hI.r22 ?_
    refine pw_l (pc := 32) d207_32 rfl rfl rfl ?_
    refine pw_s (pc := 33) d207_33 rfl rfl ?_
    refine pw_s (pc := 34) d207_34 rfl rfl ?_
    refine pw_ai (pc := 35) d207_35 (sh_at hI.1 s204) (b1 c1) ?_
    refine pw_s (pc := 36) d207_36 rfl rfl ?_
    refine pw_ai (pc := 37) d207_37 (sh_at hI.1 s203) (b2 c1) ?_
    refine pw_t (pc := 38) d207_38 rfl rfl rfl rfl ?_
    refine pw_l (pc := 39) d207_39 rfl rfl rfl ?_
    refine pw_zge (pc := 40) (t := 49) d207_40 (by decide) (fun c2 => ?_) (fun c2 => ?_)
    · refine pw_l (pc := 49) d207_49 rfl rfl rfl ?_
      refine pw_gr (pc := 50) d207_50 (k207_42 b) (sh_at hI.1 s193) f10_22 hI.r22 ?_
      refine pw_l (pc := 53) d207_53 rfl rfl rfl ?_
      refine pw_l (pc := 54) d207_54 rfl rfl rfl ?_
      refine pw_si (pc := 55) d207_55 (sh_at hI.1 s204) (b3 c1 c2) ?_
      refine pw_l (pc := 56) d207_56 rfl rfl rfl ?_
      refine pw_s (pc := 57) d207_57 rfl rfl ?_
      refine pw_s (pc := 58) d207_58 rfl rfl ?_
      refine pw_t (pc := 59) d207_59 rfl rfl rfl rfl ?_
      exact k0 c1 c2
    · refine pw_t (pc := 43) d207_43 rfl rfl rfl rfl ?_
      refine pw_go (pc := 46) (t := 2) d207_46 (by decide) ?_
      exact k1 c1 c2
theorem l_becomesMeaning_60 (b : Bool) (L : Nat) (xs : Nat → Int32) (d : Nat) (hd : 0 ≤ d) (h : pm_H) (hI : IM h) (l1 : Int32) (l2 : Int32) (l3 : Int32) {Q : Option Value → pm_H → Prop} (b0 : (¬ ((h.2.1 193 23) ≤ (l3 + (Int32.ofInt 1)))) → vp_in (l3 + (Int32.ofInt 1)) 5) (b1 : (¬ ((h.2.1 193 23) ≤ (l3 + (Int32.ofInt 1)))) → vp_in l3 5) (k0 : ((h.2.1 193 23) ≤ (l3 + (Int32.ofInt 1))) → PW b L xs d 207 0 0 2 [.ref 193, .int (Int32.ofInt 0), .int l2, .int l3] [] (pm_setI h 193 23 ((h.2.1 193 23) - (Int32.ofInt 1))) Q) (k1 : (¬ ((h.2.1 193 23) ≤ (l3 + (Int32.ofInt 1)))) → PW b L xs d 207 0 0 60 [.ref 193, .int l1, .int l2, .int (l3 + Int32.ofInt 1)] [] (pm_setI h 204 l3.toNatClampNeg (h.2.1 204 (l3 + (Int32.ofInt 1)).toNatClampNeg)) Q) : PW b L xs d 207 0 0 60 [.ref 193, .int l1, .int l2, .int l3] [] h Q := by
  refine pw_l (pc := 60) d207_60 rfl rfl rfl ?_
  refine pw_s (pc := 61) d207_61 rfl rfl ?_
  refine pw_s (pc := 62) d207_62 rfl rfl ?_
  refine pw_l (pc := 63) d207_63 rfl rfl rfl ?_
  refine pw_gi (pc := 64) d207_64 (k207_299 b) (sh_at hI.1 s193) f10_23 ?_
  refine pw_ige (pc := 67) (t := 90) d207_67 (by decide) (fun c1 => ?_) (fun c1 => ?_)
  · refine pw_l (pc := 90) d207_90 rfl rfl rfl ?_
    refine pw_s (pc := 91) d207_91 rfl rfl ?_
    refine pw_gi (pc := 92) d207_92 (k207_299 b) (sh_at hI.1 s193) f10_23 ?_
    refine pw_s (pc := 95) d207_95 rfl rfl ?_
    refine pw_s (pc := 96) d207_96 rfl rfl ?_
    refine pw_pi (pc := 97) d207_97 (k207_299 b) (sh_at hI.1 s193) p207_10_23 ?_
    refine pw_s (pc := 100) d207_100 rfl rfl ?_
    refine pw_t (pc := 101) d207_101 rfl rfl rfl rfl ?_
    refine pw_go (pc := 102) (t := 2) d207_102 (by decide) ?_
    exact k0 c1
  · refine pw_l (pc := 70) d207_70 rfl rfl rfl ?_
    refine pw_gr (pc := 71) d207_71 (k207_42 b) (sh_at hI.1 s193) f10_22 hI.r22 ?_
    refine pw_l (pc := 74) d207_74 rfl rfl rfl ?_
    refine pw_l (pc := 75) d207_75 rfl rfl rfl ?_
    refine pw_gr (pc := 76) d207_76 (k207_42 b) (sh_at hI.1 s193) f10_22 hI.r22 ?_
    refine pw_l (pc := 79) d207_79 rfl rfl rfl ?_
    refine pw_s (pc := 80) d207_80 rfl rfl ?_
    refine pw_s (pc := 81) d207_81 rfl rfl ?_
    refine pw_ai (pc := 82) d207_82 (sh_at hI.1 s204) (b0 c1) ?_
    refine pw_si (pc := 83) d207_83 (sh_at hI.1 s204) (b1 c1) ?_
    refine pw_t (pc := 84) d207_84 rfl rfl rfl rfl ?_
    refine pw_go (pc := 87) (t := 60) d207_87 (by decide) ?_
    exact k1 c1
theorem l_orderHeard_0 (b : Bool) (L : Nat) (xs : Nat → Int32) (d : Nat) (hd : 0 ≤ d) (h : pm_H) (hI : IM h) {Q : Option Value → pm_H → Prop} (k0 : PW b L xs d 208 0 0 2 [.ref 193, .int (Int32.ofInt 0), .retAddr 0, .retAddr 0] [] h Q) : PW b L xs d 208 0 0 0 [.ref 193, .retAddr 0, .retAddr 0, .retAddr 0] [] h Q := by
  refine pw_s (pc := 0) d208_0 rfl rfl ?_
  refine pw_t (pc := 1) d208_1 rfl rfl rfl rfl ?_
  exact k0 
theorem l_orderHeard_2 (b : Bool) (L : Nat) (xs : Nat → Int32) (d : Nat) (hd : 1 ≤ d) (h : pm_H) (hI : IM h) (l1 : Int32) {Q : Option Value → pm_H → Prop} (b0 : (¬ ((h.2.1 203 (Int32.ofInt 2).toNatClampNeg) ≤ l1)) → (vp_in (((Int8.ofInt 58).toInt32 + ((Int8.ofInt 6).toInt32 * l1)) + ((Int32.ofInt 1))) 227)) (k0 : (¬ ((h.2.1 203 (Int32.ofInt 2).toNatClampNeg) ≤ l1)) → (¬ (v_orderOf l1 (Int32.ofInt 1) h) = (h.2.1 193 23)) → PW b L xs d 208 0 0 33 [.ref 193, .int l1, .int (Int32.ofInt 0), .int (Int32.ofInt 0)] [] h Q) (k1 : (¬ ((h.2.1 203 (Int32.ofInt 2).toNatClampNeg) ≤ l1)) → (¬ (¬ (v_orderOf l1 (Int32.ofInt 1) h) = (h.2.1 193 23))) → PW b L xs d 208 0 0 33 [.ref 193, .int l1, .int (Int32.ofInt 1), .int (Int32.ofInt 0)] [] h Q) (r0 : ((h.2.1 203 (Int32.ofInt 2).toNatClampNeg) ≤ l1) → Q (some (.int (Int32.ofInt (-1)))) h) : PW b L xs d 208 0 0 2 [.ref 193, .int l1, .retAddr 0, .retAddr 0] [] h Q := by
  refine pw_l (pc := 2) d208_2 rfl rfl rfl ?_
  refine pw_l (pc := 3) d208_3 rfl rfl rfl ?_
  refine pw_gr (pc := 4) d208_4 (k208_39 b) (sh_at hI.1 s193) f10_20 hI.r20 ?_
  refine pw_s (pc := 7) d208_7 rfl rfl ?_
  refine pw_ai (pc := 8) d208_8 (sh_at hI.1 s203) (by unfold vp_in; decide) ?_
  refine pw_ige (pc := 9) (t := 86) d208_9 (by decide) (fun c1 => ?_) (fun c1 => ?_)
  · refine pw_s (pc := 86) d208_86 rfl rfl ?_
    refine pw_ri (pc := 87) d208_87 t208 rfl ?_
    exact r0 c1
  · refine pw_l (pc := 12) d208_12 rfl rfl rfl ?_
    refine pw_l (pc := 13) d208_13 rfl rfl rfl ?_
    refine pw_s (pc := 14) d208_14 rfl rfl ?_
    refine pw_v (pc := 15) (k := 193) (by omega) d208_15 (k208_293 b) (by decide) m203 (by decide) rfl (sh_at hI.1 s193) (Nat.le_of_ble_eq_true rfl) (Nat.le_of_ble_eq_true rfl) rfl rfl (c_orderOf b L xs (d - 1) (by omega) h hI l1 (Int32.ofInt 1) (b0 c1)) (fun v h2 hq => ?_)
    obtain ⟨rfl, hq2⟩ := hq
    rw [hq2]
    simp only [Option.toList_some, List.cons_append, List.nil_append]
    refine pw_l (pc := 18) d208_18 rfl rfl rfl ?_
    refine pw_gi (pc := 19) d208_19 (k208_299 b) (sh_at hI.1 s193) f10_23 ?_
    refine pw_ine (pc := 22) (t := 29) d208_22 (by decide) (fun c2 => ?_) (fun c2 => ?_)
    · refine pw_s (pc := 29) d208_29 rfl rfl ?_
      refine pw_t (pc := 30) d208_30 rfl rfl rfl rfl ?_
      refine pw_s (pc := 31) d208_31 rfl rfl ?_
      refine pw_t (pc := 32) d208_32 rfl rfl rfl rfl ?_
      exact k0 c1 c2
    · refine pw_s (pc := 25) d208_25 rfl rfl ?_
      refine pw_go (pc := 26) (t := 30) d208_26 (by decide) ?_
      refine pw_t (pc := 30) d208_30 rfl rfl rfl rfl ?_
      refine pw_s (pc := 31) d208_31 rfl rfl ?_
      refine pw_t (pc := 32) d208_32 rfl rfl rfl rfl ?_
      exact k1 c1 c2
theorem l_orderHeard_33 (b : Bool) (L : Nat) (xs : Nat → Int32) (d : Nat) (hd : 1 ≤ d) (h : pm_H) (hI : IM h) (l1 : Int32) (l2 : Int32) (l3 : Int32) {Q : Option Value → pm_H → Prop} (b0 : (¬ ((h.2.1 193 23) ≤ l3)) → (¬ (l2 = 0)) → (vp_in (((Int8.ofInt 58).toInt32 + ((Int8.ofInt 6).toInt32 * l1)) + (((Int32.ofInt 2) + l3))) 227)) (b1 : (¬ ((h.2.1 193 23) ≤ l3)) → (¬ (l2 = 0)) → vp_in l3 5) (k0 : ((h.2.1 193 23) ≤ l3) → (l2 = 0) → PW b L xs d 208 0 0 2 [.ref 193, .int (l1 + Int32.ofInt 1), .int l2, .int l3] [] h Q) (k1 : (¬ ((h.2.1 193 23) ≤ l3)) → (l2 = 0) → (l2 = 0) → PW b L xs d 208 0 0 2 [.ref 193, .int (l1 + Int32.ofInt 1), .int l2, .int l3] [] h Q) (k2 : (¬ ((h.2.1 193 23) ≤ l3)) → (¬ (l2 = 0)) → (¬ (v_orderOf l1 ((Int32.ofInt 2) + l3) h) = (h.2.1 204 l3.toNatClampNeg)) → PW b L xs d 208 0 0 33 [.ref 193, .int l1, .int (Int32.ofInt 0), .int (l3 + Int32.ofInt 1)] [] h Q) (k3 : (¬ ((h.2.1 193 23) ≤ l3)) → (¬ (l2 = 0)) → (¬ (¬ (v_orderOf l1 ((Int32.ofInt 2) + l3) h) = (h.2.1 204 l3.toNatClampNeg))) → PW b L xs d 208 0 0 33 [.ref 193, .int l1, .int (Int32.ofInt 1), .int (l3 + Int32.ofInt 1)] [] h Q) (r0 : ((h.2.1 193 23) ≤ l3) → (¬ (l2 = 0)) → Q (some (.int l1)) h) (r1 : (¬ ((h.2.1 193 23) ≤ l3)) → (l2 = 0) → (¬ (l2 = 0)) → Q (some (.int l1)) h) : PW b L xs d 208 0 0 33 [.ref 193, .int l1, .int l2, .int l3] [] h Q := by
  refine pw_l (pc := 33) d208_33 rfl rfl rfl ?_
  refine pw_l (pc := 34) d208_34 rfl rfl rfl ?_
  refine pw_gi (pc := 35) d208_35 (k208_299 b) (sh_at hI.1 s193) f10_23 ?_
  refine pw_ige (pc := 38) (t := 74) d208_38 (by decide) (fun c1 => ?_) (fun c1 => ?_)
  · refine pw_l (pc := 74) d208_74 rfl rfl rfl ?_
    refine pw_zeq (pc := 75) (t := 80) d208_75 (by decide) (fun c2 => ?_) (fun c2 => ?_)
    · refine pw_t (pc := 80) d208_80 rfl rfl rfl rfl ?_
      refine pw_go (pc := 83) (t := 2) d208_83 (by decide) ?_
      exact k0 c1 c2
    · refine pw_l (pc := 78) d208_78 rfl rfl rfl ?_
      refine pw_ri (pc := 79) d208_79 t208 rfl ?_
      exact r0 c1 c2
  · refine pw_l (pc := 41) d208_41 rfl rfl rfl ?_
    refine pw_zeq (pc := 42) (t := 74) d208_42 (by decide) (fun c3 => ?_) (fun c3 => ?_)
    · refine pw_l (pc := 74) d208_74 rfl rfl rfl ?_
      refine pw_zeq (pc := 75) (t := 80) d208_75 (by decide) (fun c4 => ?_) (fun c4 => ?_)
      · refine pw_t (pc := 80) d208_80 rfl rfl rfl rfl ?_
        refine pw_go (pc := 83) (t := 2) d208_83 (by decide) ?_
        exact k1 c1 c3 c4
      · refine pw_l (pc := 78) d208_78 rfl rfl rfl ?_
        refine pw_ri (pc := 79) d208_79 t208 rfl ?_
        exact r1 c1 c3 c4
    · refine pw_l (pc := 45) d208_45 rfl rfl rfl ?_
      refine pw_l (pc := 46) d208_46 rfl rfl rfl ?_
      refine pw_s (pc := 47) d208_47 rfl rfl ?_
      refine pw_l (pc := 48) d208_48 rfl rfl rfl ?_
      refine pw_s (pc := 49) d208_49 rfl rfl ?_
      refine pw_v (pc := 50) (k := 193) (by omega) d208_50 (k208_293 b) (by decide) m203 (by decide) rfl (sh_at hI.1 s193) (Nat.le_of_ble_eq_true rfl) (Nat.le_of_ble_eq_true rfl) rfl rfl (c_orderOf b L xs (d - 1) (by omega) h hI l1 ((Int32.ofInt 2) + l3) (b0 c1 c3)) (fun v h2 hq => ?_)
      obtain ⟨rfl, hq2⟩ := hq
      rw [hq2]
      simp only [Option.toList_some, List.cons_append, List.nil_append]
      refine pw_l (pc := 53) d208_53 rfl rfl rfl ?_
      refine pw_gr (pc := 54) d208_54 (k208_42 b) (sh_at hI.1 s193) f10_22 hI.r22 ?_
      refine pw_l (pc := 57) d208_57 rfl rfl rfl ?_
      refine pw_ai (pc := 58) d208_58 (sh_at hI.1 s204) (b1 c1 c3) ?_
      refine pw_ine (pc := 59) (t := 66) d208_59 (by decide) (fun c5 => ?_) (fun c5 => ?_)
      · refine pw_s (pc := 66) d208_66 rfl rfl ?_
        refine pw_t (pc := 67) d208_67 rfl rfl rfl rfl ?_
        refine pw_t (pc := 68) d208_68 rfl rfl rfl rfl ?_
        refine pw_go (pc := 71) (t := 33) d208_71 (by decide) ?_
        exact k2 c1 c3 c5
      · refine pw_s (pc := 62) d208_62 rfl rfl ?_
        refine pw_go (pc := 63) (t := 67) d208_63 (by decide) ?_
        refine pw_t (pc := 67) d208_67 rfl rfl rfl rfl ?_
        refine pw_t (pc := 68) d208_68 rfl rfl rfl rfl ?_
        refine pw_go (pc := 71) (t := 33) d208_71 (by decide) ?_
        exact k3 c1 c3 c5
theorem l_ten_0 (b : Bool) (L : Nat) (xs : Nat → Int32) (d : Nat) (hd : 0 ≤ d) (h : pm_H) (hI : IM h) (a0 : Int32) {Q : Option Value → pm_H → Prop} (k0 : PW b L xs d 209 0 0 4 [.int a0, .int (Int32.ofInt 1), .int (Int32.ofInt 0)] [] h Q) : PW b L xs d 209 0 0 0 [.int a0, .retAddr 0, .retAddr 0] [] h Q := by
  refine pw_s (pc := 0) d209_0 rfl rfl ?_
  refine pw_t (pc := 1) d209_1 rfl rfl rfl rfl ?_
  refine pw_s (pc := 2) d209_2 rfl rfl ?_
  refine pw_t (pc := 3) d209_3 rfl rfl rfl rfl ?_
  exact k0 
theorem l_ten_4 (b : Bool) (L : Nat) (xs : Nat → Int32) (d : Nat) (hd : 0 ≤ d) (h : pm_H) (hI : IM h) (l0 : Int32) (l1 : Int32) (l2 : Int32) {Q : Option Value → pm_H → Prop} (k0 : (¬ (l0 ≤ l2)) → PW b L xs d 209 0 0 4 [.int l0, .int (l1 * (Int8.ofInt 10).toInt32), .int (l2 + Int32.ofInt 1)] [] h Q) (r0 : (l0 ≤ l2) → Q (some (.int l1)) h) : PW b L xs d 209 0 0 4 [.int l0, .int l1, .int l2] [] h Q := by
  refine pw_l (pc := 4) d209_4 rfl rfl rfl ?_
  refine pw_l (pc := 5) d209_5 rfl rfl rfl ?_
  refine pw_ige (pc := 6) (t := 20) d209_6 (by decide) (fun c1 => ?_) (fun c1 => ?_)
  · refine pw_l (pc := 20) d209_20 rfl rfl rfl ?_
    refine pw_ri (pc := 21) d209_21 t209 rfl ?_
    exact r0 c1
  · refine pw_l (pc := 9) d209_9 rfl rfl rfl ?_
    refine pw_s (pc := 10) d209_10 rfl rfl ?_
    refine pw_s (pc := 12) d209_12 rfl rfl ?_
    refine pw_t (pc := 13) d209_13 rfl rfl rfl rfl ?_
    refine pw_t (pc := 14) d209_14 rfl rfl rfl rfl ?_
    refine pw_go (pc := 17) (t := 4) d209_17 (by decide) ?_
    exact k0 c1
theorem l_nextOf_0 (b : Bool) (L : Nat) (xs : Nat → Int32) (d : Nat) (hd : 0 ≤ d) (h : pm_H) (hI : IM h) (a0 : Int32) (a1 : Int32) (a2 : Int32) {Q : Option Value → pm_H → Prop} (k0 : PW b L xs d 217 0 0 2 [.int a0, .int a1, .int a2, .int a2] [] h Q) : PW b L xs d 217 0 0 0 [.int a0, .int a1, .int a2, .retAddr 0] [] h Q := by
  refine pw_l (pc := 0) d217_0 rfl rfl rfl ?_
  refine pw_t (pc := 1) d217_1 rfl rfl rfl rfl ?_
  exact k0 
theorem l_nextOf_2 (b : Bool) (L : Nat) (xs : Nat → Int32) (d : Nat) (hd : 1 ≤ d) (h : pm_H) (hI : IM h) (l0 : Int32) (l1 : Int32) (l2 : Int32) (l3 : Int32) {Q : Option Value → pm_H → Prop} (k0 : (¬ ((Int8.ofInt 11).toInt32 ≤ l3)) → ((v_isOf l0 l3 h) = 0) → PW b L xs d 217 0 0 2 [.int l0, .int l1, .int l2, .int (l3 + Int32.ofInt 1)] [] h Q) (k1 : (¬ ((Int8.ofInt 11).toInt32 ≤ l3)) → (¬ ((v_isOf l0 l3 h) = 0)) → (¬ ((v_isOf l1 l3 h) = 0)) → PW b L xs d 217 0 0 2 [.int l0, .int l1, .int l2, .int (l3 + Int32.ofInt 1)] [] h Q) (r0 : ((Int8.ofInt 11).toInt32 ≤ l3) → Q (some (.int l3)) h) (r1 : (¬ ((Int8.ofInt 11).toInt32 ≤ l3)) → (¬ ((v_isOf l0 l3 h) = 0)) → ((v_isOf l1 l3 h) = 0) → Q (some (.int l3)) h) : PW b L xs d 217 0 0 2 [.int l0, .int l1, .int l2, .int l3] [] h Q := by
  refine pw_l (pc := 2) d217_2 rfl rfl rfl ?_
  refine pw_s (pc := 3) d217_3 rfl rfl ?_
  refine pw_ige (pc := 5) (t := 30) d217_5 (by decide) (fun c1 => ?_) (fun c1 => ?_)
  · refine pw_l (pc := 30) d217_30 rfl rfl rfl ?_
    refine pw_ri (pc := 31) d217_31 t217 rfl ?_
    exact r0 c1
  · refine pw_l (pc := 8) d217_8 rfl rfl rfl ?_
    refine pw_l (pc := 9) d217_9 rfl rfl rfl ?_
    refine pw_u (pc := 10) (by omega) d217_10 (k217_318 b) (by decide) m149 (Nat.le_of_ble_eq_true rfl) (Nat.le_of_ble_eq_true rfl) (Nat.le_of_ble_eq_true rfl) rfl rfl (c_isOf b L xs (d - 1) (by omega) h hI l0 l3 ) (fun v h2 hq => ?_)
    obtain ⟨rfl, hq2⟩ := hq
    rw [hq2]
    simp only [Option.toList_some, List.cons_append, List.nil_append]
    refine pw_zeq (pc := 13) (t := 24) d217_13 (by decide) (fun c2 => ?_) (fun c2 => ?_)
    · refine pw_t (pc := 24) d217_24 rfl rfl rfl rfl ?_
      refine pw_go (pc := 27) (t := 2) d217_27 (by decide) ?_
      exact k0 c1 c2
    · refine pw_l (pc := 16) d217_16 rfl rfl rfl ?_
      refine pw_l (pc := 17) d217_17 rfl rfl rfl ?_
      refine pw_u (pc := 18) (by omega) d217_18 (k217_318 b) (by decide) m149 (Nat.le_of_ble_eq_true rfl) (Nat.le_of_ble_eq_true rfl) (Nat.le_of_ble_eq_true rfl) rfl rfl (c_isOf b L xs (d - 1) (by omega) h hI l1 l3 ) (fun v h2 hq => ?_)
      obtain ⟨rfl, hq2⟩ := hq
      rw [hq2]
      simp only [Option.toList_some, List.cons_append, List.nil_append]
      refine pw_zeq (pc := 21) (t := 30) d217_21 (by decide) (fun c3 => ?_) (fun c3 => ?_)
      · refine pw_l (pc := 30) d217_30 rfl rfl rfl ?_
        refine pw_ri (pc := 31) d217_31 t217 rfl ?_
        exact r1 c1 c2 c3
      · refine pw_t (pc := 24) d217_24 rfl rfl rfl rfl ?_
        refine pw_go (pc := 27) (t := 2) d217_27 (by decide) ?_
        exact k1 c1 c2 c3
theorem l_needOf_0 (b : Bool) (L : Nat) (xs : Nat → Int32) (d : Nat) (hd : 0 ≤ d) (h : pm_H) (hI : IM h) (a0 : Int32) {Q : Option Value → pm_H → Prop} (k0 : PW b L xs d 222 0 0 4 [.ref 193, .int a0, .int (Int32.ofInt 0), .int (Int32.ofInt 0)] [] h Q) : PW b L xs d 222 0 0 0 [.ref 193, .int a0, .retAddr 0, .retAddr 0] [] h Q := by
  refine pw_s (pc := 0) d222_0 rfl rfl ?_
  refine pw_t (pc := 1) d222_1 rfl rfl rfl rfl ?_
  refine pw_s (pc := 2) d222_2 rfl rfl ?_
  refine pw_t (pc := 3) d222_3 rfl rfl rfl rfl ?_
  exact k0 
theorem l_needOf_4 (b : Bool) (L : Nat) (xs : Nat → Int32) (d : Nat) (hd : 1 ≤ d) (h : pm_H) (hI : IM h) (l1 : Int32) (l2 : Int32) (l3 : Int32) {Q : Option Value → pm_H → Prop} (b0 : (¬ ((h.2.1 203 (Int32.ofInt 2).toNatClampNeg) ≤ l3)) → (¬ ((v_isOf l1 l3 h) = 0)) → (vp_in (((Int8.ofInt 58).toInt32 + ((Int8.ofInt 6).toInt32 * l3)) + ((Int32.ofInt 0))) 227)) (k0 : (¬ ((h.2.1 203 (Int32.ofInt 2).toNatClampNeg) ≤ l3)) → ((v_isOf l1 l3 h) = 0) → PW b L xs d 222 0 0 4 [.ref 193, .int l1, .int (l2 + (Int32.ofInt 0)), .int (l3 + Int32.ofInt 1)] [] h Q) (k1 : (¬ ((h.2.1 203 (Int32.ofInt 2).toNatClampNeg) ≤ l3)) → (¬ ((v_isOf l1 l3 h) = 0)) → PW b L xs d 222 0 0 4 [.ref 193, .int l1, .int (l2 + (v_orderOf l3 (Int32.ofInt 0) h)), .int (l3 + Int32.ofInt 1)] [] h Q) (r0 : ((h.2.1 203 (Int32.ofInt 2).toNatClampNeg) ≤ l3) → Q (some (.int l2)) h) : PW b L xs d 222 0 0 4 [.ref 193, .int l1, .int l2, .int l3] [] h Q := by
  refine pw_l (pc := 4) d222_4 rfl rfl rfl ?_
  refine pw_l (pc := 5) d222_5 rfl rfl rfl ?_
  refine pw_gr (pc := 6) d222_6 (k222_39 b) (sh_at hI.1 s193) f10_20 hI.r20 ?_
  refine pw_s (pc := 9) d222_9 rfl rfl ?_
  refine pw_ai (pc := 10) d222_10 (sh_at hI.1 s203) (by unfold vp_in; decide) ?_
  refine pw_ige (pc := 11) (t := 41) d222_11 (by decide) (fun c1 => ?_) (fun c1 => ?_)
  · refine pw_l (pc := 41) d222_41 rfl rfl rfl ?_
    refine pw_ri (pc := 42) d222_42 t222 rfl ?_
    exact r0 c1
  · refine pw_l (pc := 14) d222_14 rfl rfl rfl ?_
    refine pw_l (pc := 15) d222_15 rfl rfl rfl ?_
    refine pw_l (pc := 16) d222_16 rfl rfl rfl ?_
    refine pw_u (pc := 17) (by omega) d222_17 (k222_318 b) (by decide) m149 (Nat.le_of_ble_eq_true rfl) (Nat.le_of_ble_eq_true rfl) (Nat.le_of_ble_eq_true rfl) rfl rfl (c_isOf b L xs (d - 1) (by omega) h hI l1 l3 ) (fun v h2 hq => ?_)
    obtain ⟨rfl, hq2⟩ := hq
    rw [hq2]
    simp only [Option.toList_some, List.cons_append, List.nil_append]
    refine pw_zeq (pc := 20) (t := 32) d222_20 (by decide) (fun c2 => ?_) (fun c2 => ?_)
    · refine pw_s (pc := 32) d222_32 rfl rfl ?_
      refine pw_s (pc := 33) d222_33 rfl rfl ?_
      refine pw_t (pc := 34) d222_34 rfl rfl rfl rfl ?_
      refine pw_t (pc := 35) d222_35 rfl rfl rfl rfl ?_
      refine pw_go (pc := 38) (t := 4) d222_38 (by decide) ?_
      exact k0 c1 c2
    · refine pw_l (pc := 23) d222_23 rfl rfl rfl ?_
      refine pw_l (pc := 24) d222_24 rfl rfl rfl ?_
      refine pw_s (pc := 25) d222_25 rfl rfl ?_
      refine pw_v (pc := 26) (k := 193) (by omega) d222_26 (k222_293 b) (by decide) m203 (by decide) rfl (sh_at hI.1 s193) (Nat.le_of_ble_eq_true rfl) (Nat.le_of_ble_eq_true rfl) rfl rfl (c_orderOf b L xs (d - 1) (by omega) h hI l3 (Int32.ofInt 0) (b0 c1 c2)) (fun v h2 hq => ?_)
      obtain ⟨rfl, hq2⟩ := hq
      rw [hq2]
      simp only [Option.toList_some, List.cons_append, List.nil_append]
      refine pw_go (pc := 29) (t := 33) d222_29 (by decide) ?_
      refine pw_s (pc := 33) d222_33 rfl rfl ?_
      refine pw_t (pc := 34) d222_34 rfl rfl rfl rfl ?_
      refine pw_t (pc := 35) d222_35 rfl rfl rfl rfl ?_
      refine pw_go (pc := 38) (t := 4) d222_38 (by decide) ?_
      exact k1 c1 c2
theorem l_keepsAct_0 (b : Bool) (L : Nat) (xs : Nat → Int32) (d : Nat) (hd : 0 ≤ d) (h : pm_H) (hI : IM h) {Q : Option Value → pm_H → Prop} (k0 : (¬ (h.2.1 193 28) = (Int8.ofInt 20).toInt32) → PW b L xs d 224 0 0 52 [.ref 193, .int (Int32.ofInt 0)] [] h Q) (k1 : (¬ (¬ (h.2.1 193 28) = (Int8.ofInt 20).toInt32)) → PW b L xs d 224 0 0 12 [.ref 193, .int ((Int8.ofInt 58).toInt32)] [] h Q) : PW b L xs d 224 0 0 0 [.ref 193, .retAddr 0] [] h Q := by
  refine pw_l (pc := 0) d224_0 rfl rfl rfl ?_
  refine pw_gi (pc := 1) d224_1 (k224_252 b) (sh_at hI.1 s193) f10_28 ?_
  refine pw_s (pc := 4) d224_4 rfl rfl ?_
  refine pw_ine (pc := 6) (t := 50) d224_6 (by decide) (fun c1 => ?_) (fun c1 => ?_)
  · refine pw_s (pc := 50) d224_50 rfl rfl ?_
    refine pw_t (pc := 51) d224_51 rfl rfl rfl rfl ?_
    exact k0 c1
  · refine pw_s (pc := 9) d224_9 rfl rfl ?_
    refine pw_t (pc := 11) d224_11 rfl rfl rfl rfl ?_
    exact k1 c1
theorem l_keepsAct_12 (b : Bool) (L : Nat) (xs : Nat → Int32) (d : Nat) (hd : 0 ≤ d) (h : pm_H) (hI : IM h) (l1 : Int32) {Q : Option Value → pm_H → Prop} (b0 : (¬ ((Int16.ofInt 1160).toInt32 ≤ l1)) → vp_in l1 1160) (b1 : (¬ ((Int16.ofInt 1160).toInt32 ≤ l1)) → vp_in (l1 - (Int8.ofInt 58).toInt32) 1160) (k0 : ((Int16.ofInt 1160).toInt32 ≤ l1) → PW b L xs d 224 0 0 52 [.ref 193, .int (Int32.ofInt 0)] [] (pm_setI h 193 28 ((h.2.1 193 28) - (Int32.ofInt 1))) Q) (k1 : (¬ ((Int16.ofInt 1160).toInt32 ≤ l1)) → PW b L xs d 224 0 0 12 [.ref 193, .int (l1 + Int32.ofInt 1)] [] (pm_setI h 208 (l1 - (Int8.ofInt 58).toInt32).toNatClampNeg (h.2.1 208 l1.toNatClampNeg)) Q) : PW b L xs d 224 0 0 12 [.ref 193, .int l1] [] h Q := by
  refine pw_l (pc := 12) d224_12 rfl rfl rfl ?_
  refine pw_s (pc := 13) d224_13 rfl rfl ?_
  refine pw_ige (pc := 16) (t := 40) d224_16 (by decide) (fun c1 => ?_) (fun c1 => ?_)
  · refine pw_l (pc := 40) d224_40 rfl rfl rfl ?_
    refine pw_s (pc := 41) d224_41 rfl rfl ?_
    refine pw_gi (pc := 42) d224_42 (k224_252 b) (sh_at hI.1 s193) f10_28 ?_
    refine pw_s (pc := 45) d224_45 rfl rfl ?_
    refine pw_s (pc := 46) d224_46 rfl rfl ?_
    refine pw_pi (pc := 47) d224_47 (k224_252 b) (sh_at hI.1 s193) p224_10_28 ?_
    refine pw_s (pc := 50) d224_50 rfl rfl ?_
    refine pw_t (pc := 51) d224_51 rfl rfl rfl rfl ?_
    exact k0 c1
  · refine pw_l (pc := 19) d224_19 rfl rfl rfl ?_
    refine pw_gr (pc := 20) d224_20 (k224_54 b) (sh_at hI.1 s193) f10_27 hI.r27 ?_
    refine pw_l (pc := 23) d224_23 rfl rfl rfl ?_
    refine pw_s (pc := 24) d224_24 rfl rfl ?_
    refine pw_s (pc := 26) d224_26 rfl rfl ?_
    refine pw_l (pc := 27) d224_27 rfl rfl rfl ?_
    refine pw_gr (pc := 28) d224_28 (k224_54 b) (sh_at hI.1 s193) f10_27 hI.r27 ?_
    refine pw_l (pc := 31) d224_31 rfl rfl rfl ?_
    refine pw_ai (pc := 32) d224_32 (sh_at hI.1 s208) (b0 c1) ?_
    refine pw_si (pc := 33) d224_33 (sh_at hI.1 s208) (b1 c1) ?_
    refine pw_t (pc := 34) d224_34 rfl rfl rfl rfl ?_
    refine pw_go (pc := 37) (t := 12) d224_37 (by decide) ?_
    exact k1 c1
theorem l_keepsAct_52 (b : Bool) (L : Nat) (xs : Nat → Int32) (d : Nat) (hd : 0 ≤ d) (h : pm_H) (hI : IM h) (l1 : Int32) {Q : Option Value → pm_H → Prop} (b0 : (¬ ((Int8.ofInt 58).toInt32 ≤ l1)) → vp_in l1 227) (b1 : (¬ ((Int8.ofInt 58).toInt32 ≤ l1)) → vp_in (((Int8.ofInt 58).toInt32 * (h.2.1 193 28)) + l1) 1160) (k0 : (¬ ((Int8.ofInt 58).toInt32 ≤ l1)) → PW b L xs d 224 0 0 52 [.ref 193, .int (l1 + Int32.ofInt 1)] [] (pm_setI h 208 (((Int8.ofInt 58).toInt32 * (h.2.1 193 28)) + l1).toNatClampNeg (h.2.1 203 l1.toNatClampNeg)) Q) (r0 : ((Int8.ofInt 58).toInt32 ≤ l1) → Q none (pm_setI h 193 28 ((h.2.1 193 28) + (Int32.ofInt 1)))) : PW b L xs d 224 0 0 52 [.ref 193, .int l1] [] h Q := by
  refine pw_l (pc := 52) d224_52 rfl rfl rfl ?_
  refine pw_s (pc := 53) d224_53 rfl rfl ?_
  refine pw_ige (pc := 55) (t := 84) d224_55 (by decide) (fun c1 => ?_) (fun c1 => ?_)
  · refine pw_l (pc := 84) d224_84 rfl rfl rfl ?_
    refine pw_s (pc := 85) d224_85 rfl rfl ?_
    refine pw_gi (pc := 86) d224_86 (k224_252 b) (sh_at hI.1 s193) f10_28 ?_
    refine pw_s (pc := 89) d224_89 rfl rfl ?_
    refine pw_s (pc := 90) d224_90 rfl rfl ?_
    refine pw_pi (pc := 91) d224_91 (k224_252 b) (sh_at hI.1 s193) p224_10_28 ?_
    refine pw_rv (pc := 94) d224_94 t224 ?_
    exact r0 c1
  · refine pw_l (pc := 58) d224_58 rfl rfl rfl ?_
    refine pw_gr (pc := 59) d224_59 (k224_54 b) (sh_at hI.1 s193) f10_27 hI.r27 ?_
    refine pw_s (pc := 62) d224_62 rfl rfl ?_
    refine pw_l (pc := 64) d224_64 rfl rfl rfl ?_
    refine pw_gi (pc := 65) d224_65 (k224_252 b) (sh_at hI.1 s193) f10_28 ?_
    refine pw_s (pc := 68) d224_68 rfl rfl ?_
    refine pw_l (pc := 69) d224_69 rfl rfl rfl ?_
    refine pw_s (pc := 70) d224_70 rfl rfl ?_
    refine pw_l (pc := 71) d224_71 rfl rfl rfl ?_
    refine pw_gr (pc := 72) d224_72 (k224_39 b) (sh_at hI.1 s193) f10_20 hI.r20 ?_
    refine pw_l (pc := 75) d224_75 rfl rfl rfl ?_
    refine pw_ai (pc := 76) d224_76 (sh_at hI.1 s203) (b0 c1) ?_
    refine pw_si (pc := 77) d224_77 (sh_at hI.1 s208) (b1 c1) ?_
    refine pw_t (pc := 78) d224_78 rfl rfl rfl rfl ?_
    refine pw_go (pc := 81) (t := 52) d224_81 (by decide) ?_
    exact k0 c1
theorem l_undo_0 (b : Bool) (L : Nat) (xs : Nat → Int32) (d : Nat) (hd : 0 ≤ d) (h : pm_H) (hI : IM h) {Q : Option Value → pm_H → Prop} (k0 : (¬ (h.2.1 193 28) = 0) → PW b L xs d 225 0 0 21 [.ref 193, .int (Int32.ofInt 0)] [] (pm_setI h 193 28 ((h.2.1 193 28) - (Int32.ofInt 1))) Q) (r0 : (¬ (¬ (h.2.1 193 28) = 0)) → Q (some (.int (Int32.ofInt (-1)))) h) : PW b L xs d 225 0 0 0 [.ref 193, .retAddr 0] [] h Q := by
  refine pw_l (pc := 0) d225_0 rfl rfl rfl ?_
  refine pw_gi (pc := 1) d225_1 (k225_252 b) (sh_at hI.1 s193) f10_28 ?_
  refine pw_zne (pc := 4) (t := 9) d225_4 (by decide) (fun c1 => ?_) (fun c1 => ?_)
  · refine pw_l (pc := 9) d225_9 rfl rfl rfl ?_
    refine pw_s (pc := 10) d225_10 rfl rfl ?_
    refine pw_gi (pc := 11) d225_11 (k225_252 b) (sh_at hI.1 s193) f10_28 ?_
    refine pw_s (pc := 14) d225_14 rfl rfl ?_
    refine pw_s (pc := 15) d225_15 rfl rfl ?_
    refine pw_pi (pc := 16) d225_16 (k225_252 b) (sh_at hI.1 s193) p225_10_28 ?_
    refine pw_s (pc := 19) d225_19 rfl rfl ?_
    refine pw_t (pc := 20) d225_20 rfl rfl rfl rfl ?_
    exact k0 c1
  · refine pw_s (pc := 7) d225_7 rfl rfl ?_
    refine pw_ri (pc := 8) d225_8 t225 rfl ?_
    exact r0 c1
theorem l_undo_21 (b : Bool) (L : Nat) (xs : Nat → Int32) (d : Nat) (hd : 0 ≤ d) (h : pm_H) (hI : IM h) (l1 : Int32) {Q : Option Value → pm_H → Prop} (b0 : (¬ ((Int8.ofInt 58).toInt32 ≤ l1)) → vp_in (((Int8.ofInt 58).toInt32 * (h.2.1 193 28)) + l1) 1160) (b1 : (¬ ((Int8.ofInt 58).toInt32 ≤ l1)) → vp_in l1 227) (k0 : (¬ ((Int8.ofInt 58).toInt32 ≤ l1)) → PW b L xs d 225 0 0 21 [.ref 193, .int (l1 + Int32.ofInt 1)] [] (pm_setI h 203 l1.toNatClampNeg (h.2.1 208 (((Int8.ofInt 58).toInt32 * (h.2.1 193 28)) + l1).toNatClampNeg)) Q) (r0 : ((Int8.ofInt 58).toInt32 ≤ l1) → Q (some (.int (h.2.1 193 28))) h) : PW b L xs d 225 0 0 21 [.ref 193, .int l1] [] h Q := by
  refine pw_l (pc := 21) d225_21 rfl rfl rfl ?_
  refine pw_s (pc := 22) d225_22 rfl rfl ?_
  refine pw_ige (pc := 24) (t := 53) d225_24 (by decide) (fun c1 => ?_) (fun c1 => ?_)
  · refine pw_l (pc := 53) d225_53 rfl rfl rfl ?_
    refine pw_gi (pc := 54) d225_54 (k225_252 b) (sh_at hI.1 s193) f10_28 ?_
    refine pw_ri (pc := 57) d225_57 t225 rfl ?_
    exact r0 c1
  · refine pw_l (pc := 27) d225_27 rfl rfl rfl ?_
    refine pw_gr (pc := 28) d225_28 (k225_39 b) (sh_at hI.1 s193) f10_20 hI.r20 ?_
    refine pw_l (pc := 31) d225_31 rfl rfl rfl ?_
    refine pw_l (pc := 32) d225_32 rfl rfl rfl ?_
    refine pw_gr (pc := 33) d225_33 (k225_54 b) (sh_at hI.1 s193) f10_27 hI.r27 ?_
    refine pw_s (pc := 36) d225_36 rfl rfl ?_
    refine pw_l (pc := 38) d225_38 rfl rfl rfl ?_
    refine pw_gi (pc := 39) d225_39 (k225_252 b) (sh_at hI.1 s193) f10_28 ?_
    refine pw_s (pc := 42) d225_42 rfl rfl ?_
    refine pw_l (pc := 43) d225_43 rfl rfl rfl ?_
    refine pw_s (pc := 44) d225_44 rfl rfl ?_
    refine pw_ai (pc := 45) d225_45 (sh_at hI.1 s208) (b0 c1) ?_
    refine pw_si (pc := 46) d225_46 (sh_at hI.1 s203) (b1 c1) ?_
    refine pw_t (pc := 47) d225_47 rfl rfl rfl rfl ?_
    refine pw_go (pc := 50) (t := 21) d225_50 (by decide) ?_
    exact k0 c1
theorem l_passes_0 (b : Bool) (L : Nat) (xs : Nat → Int32) (d : Nat) (hd : 0 ≤ d) (h : pm_H) (hI : IM h) {Q : Option Value → pm_H → Prop} (k0 : PW b L xs d 227 0 0 2 [.ref 193, .int (Int32.ofInt 0), .retAddr 0] [] h Q) : PW b L xs d 227 0 0 0 [.ref 193, .retAddr 0, .retAddr 0] [] h Q := by
  refine pw_s (pc := 0) d227_0 rfl rfl ?_
  refine pw_t (pc := 1) d227_1 rfl rfl rfl rfl ?_
  exact k0 
theorem l_passes_2 (b : Bool) (L : Nat) (xs : Nat → Int32) (d : Nat) (hd : 0 ≤ d) (h : pm_H) (hI : IM h) (l1 : Int32) {Q : Option Value → pm_H → Prop} (b0 : (¬ ((h.2.1 203 (Int32.ofInt 1).toNatClampNeg) ≤ l1)) → vp_in (((Int8.ofInt 10).toInt32 + ((Int8.ofInt 6).toInt32 * l1)) + (Int32.ofInt 3)) 227) (b1 : (¬ ((h.2.1 203 (Int32.ofInt 1).toNatClampNeg) ≤ l1)) → ((h.2.1 203 (((Int8.ofInt 10).toInt32 + ((Int8.ofInt 6).toInt32 * l1)) + (Int32.ofInt 3)).toNatClampNeg) ≤ 0) → vp_in (((Int8.ofInt 10).toInt32 + ((Int8.ofInt 6).toInt32 * l1)) + (Int32.ofInt 2)) 227) (b2 : (¬ ((h.2.1 203 (Int32.ofInt 1).toNatClampNeg) ≤ l1)) → ((h.2.1 203 (((Int8.ofInt 10).toInt32 + ((Int8.ofInt 6).toInt32 * l1)) + (Int32.ofInt 3)).toNatClampNeg) ≤ 0) → (¬ (h.2.1 203 (((Int8.ofInt 10).toInt32 + ((Int8.ofInt 6).toInt32 * l1)) + (Int32.ofInt 2)).toNatClampNeg) = (Int32.ofInt 1)) → vp_in (((Int8.ofInt 10).toInt32 + ((Int8.ofInt 6).toInt32 * l1)) + (Int32.ofInt 5)) 227) (b3 : (¬ ((h.2.1 203 (Int32.ofInt 1).toNatClampNeg) ≤ l1)) → ((h.2.1 203 (((Int8.ofInt 10).toInt32 + ((Int8.ofInt 6).toInt32 * l1)) + (Int32.ofInt 3)).toNatClampNeg) ≤ 0) → (¬ (¬ (h.2.1 203 (((Int8.ofInt 10).toInt32 + ((Int8.ofInt 6).toInt32 * l1)) + (Int32.ofInt 2)).toNatClampNeg) = (Int32.ofInt 1))) → vp_in (((Int8.ofInt 10).toInt32 + ((Int8.ofInt 6).toInt32 * l1)) + (Int32.ofInt 5)) 227) (b4 : (¬ ((h.2.1 203 (Int32.ofInt 1).toNatClampNeg) ≤ l1)) → (¬ ((h.2.1 203 (((Int8.ofInt 10).toInt32 + ((Int8.ofInt 6).toInt32 * l1)) + (Int32.ofInt 3)).toNatClampNeg) ≤ 0)) → vp_in (((Int8.ofInt 10).toInt32 + ((Int8.ofInt 6).toInt32 * l1)) + (Int32.ofInt 3)) 227) (b5 : (¬ ((h.2.1 203 (Int32.ofInt 1).toNatClampNeg) ≤ l1)) → (¬ ((h.2.1 203 (((Int8.ofInt 10).toInt32 + ((Int8.ofInt 6).toInt32 * l1)) + (Int32.ofInt 3)).toNatClampNeg) ≤ 0)) → vp_in (((Int8.ofInt 10).toInt32 + ((Int8.ofInt 6).toInt32 * l1)) + (Int32.ofInt 2)) 227) (b6 : (¬ ((h.2.1 203 (Int32.ofInt 1).toNatClampNeg) ≤ l1)) → (¬ ((h.2.1 203 (((Int8.ofInt 10).toInt32 + ((Int8.ofInt 6).toInt32 * l1)) + (Int32.ofInt 3)).toNatClampNeg) ≤ 0)) → (¬ ((pm_setI h 203 (((Int8.ofInt 10).toInt32 + ((Int8.ofInt 6).toInt32 * l1)) + (Int32.ofInt 3)).toNatClampNeg ((h.2.1 203 (((Int8.ofInt 10).toInt32 + ((Int8.ofInt 6).toInt32 * l1)) + (Int32.ofInt 3)).toNatClampNeg) - (Int32.ofInt 1))).2.1 203 (((Int8.ofInt 10).toInt32 + ((Int8.ofInt 6).toInt32 * l1)) + (Int32.ofInt 2)).toNatClampNeg) = (Int32.ofInt 1)) → vp_in (((Int8.ofInt 10).toInt32 + ((Int8.ofInt 6).toInt32 * l1)) + (Int32.ofInt 5)) 227) (b7 : (¬ ((h.2.1 203 (Int32.ofInt 1).toNatClampNeg) ≤ l1)) → (¬ ((h.2.1 203 (((Int8.ofInt 10).toInt32 + ((Int8.ofInt 6).toInt32 * l1)) + (Int32.ofInt 3)).toNatClampNeg) ≤ 0)) → (¬ (¬ ((pm_setI h 203 (((Int8.ofInt 10).toInt32 + ((Int8.ofInt 6).toInt32 * l1)) + (Int32.ofInt 3)).toNatClampNeg ((h.2.1 203 (((Int8.ofInt 10).toInt32 + ((Int8.ofInt 6).toInt32 * l1)) + (Int32.ofInt 3)).toNatClampNeg) - (Int32.ofInt 1))).2.1 203 (((Int8.ofInt 10).toInt32 + ((Int8.ofInt 6).toInt32 * l1)) + (Int32.ofInt 2)).toNatClampNeg) = (Int32.ofInt 1))) → vp_in (((Int8.ofInt 10).toInt32 + ((Int8.ofInt 6).toInt32 * l1)) + (Int32.ofInt 5)) 227) (k0 : (¬ ((h.2.1 203 (Int32.ofInt 1).toNatClampNeg) ≤ l1)) → ((h.2.1 203 (((Int8.ofInt 10).toInt32 + ((Int8.ofInt 6).toInt32 * l1)) + (Int32.ofInt 3)).toNatClampNeg) ≤ 0) → (¬ (h.2.1 203 (((Int8.ofInt 10).toInt32 + ((Int8.ofInt 6).toInt32 * l1)) + (Int32.ofInt 2)).toNatClampNeg) = (Int32.ofInt 1)) → PW b L xs d 227 0 0 2 [.ref 193, .int (l1 + Int32.ofInt 1), .int ((Int8.ofInt 10).toInt32 + ((Int8.ofInt 6).toInt32 * l1))] [] (pm_setI h 203 (((Int8.ofInt 10).toInt32 + ((Int8.ofInt 6).toInt32 * l1)) + (Int32.ofInt 5)).toNatClampNeg (Int32.ofInt 0)) Q) (k1 : (¬ ((h.2.1 203 (Int32.ofInt 1).toNatClampNeg) ≤ l1)) → ((h.2.1 203 (((Int8.ofInt 10).toInt32 + ((Int8.ofInt 6).toInt32 * l1)) + (Int32.ofInt 3)).toNatClampNeg) ≤ 0) → (¬ (¬ (h.2.1 203 (((Int8.ofInt 10).toInt32 + ((Int8.ofInt 6).toInt32 * l1)) + (Int32.ofInt 2)).toNatClampNeg) = (Int32.ofInt 1))) → PW b L xs d 227 0 0 2 [.ref 193, .int (l1 + Int32.ofInt 1), .int ((Int8.ofInt 10).toInt32 + ((Int8.ofInt 6).toInt32 * l1))] [] (pm_setI h 203 (((Int8.ofInt 10).toInt32 + ((Int8.ofInt 6).toInt32 * l1)) + (Int32.ofInt 5)).toNatClampNeg ((h.2.1 203 (((Int8.ofInt 10).toInt32 + ((Int8.ofInt 6).toInt32 * l1)) + (Int32.ofInt 5)).toNatClampNeg) + (Int32.ofInt 1))) Q) (k2 : (¬ ((h.2.1 203 (Int32.ofInt 1).toNatClampNeg) ≤ l1)) → (¬ ((h.2.1 203 (((Int8.ofInt 10).toInt32 + ((Int8.ofInt 6).toInt32 * l1)) + (Int32.ofInt 3)).toNatClampNeg) ≤ 0)) → (¬ ((pm_setI h 203 (((Int8.ofInt 10).toInt32 + ((Int8.ofInt 6).toInt32 * l1)) + (Int32.ofInt 3)).toNatClampNeg ((h.2.1 203 (((Int8.ofInt 10).toInt32 + ((Int8.ofInt 6).toInt32 * l1)) + (Int32.ofInt 3)).toNatClampNeg) - (Int32.ofInt 1))).2.1 203 (((Int8.ofInt 10).toInt32 + ((Int8.ofInt 6).toInt32 * l1)) + (Int32.ofInt 2)).toNatClampNeg) = (Int32.ofInt 1)) → PW b L xs d 227 0 0 2 [.ref 193, .int (l1 + Int32.ofInt 1), .int ((Int8.ofInt 10).toInt32 + ((Int8.ofInt 6).toInt32 * l1))] [] (pm_setI (pm_setI h 203 (((Int8.ofInt 10).toInt32 + ((Int8.ofInt 6).toInt32 * l1)) + (Int32.ofInt 3)).toNatClampNeg ((h.2.1 203 (((Int8.ofInt 10).toInt32 + ((Int8.ofInt 6).toInt32 * l1)) + (Int32.ofInt 3)).toNatClampNeg) - (Int32.ofInt 1))) 203 (((Int8.ofInt 10).toInt32 + ((Int8.ofInt 6).toInt32 * l1)) + (Int32.ofInt 5)).toNatClampNeg (Int32.ofInt 0)) Q) (k3 : (¬ ((h.2.1 203 (Int32.ofInt 1).toNatClampNeg) ≤ l1)) → (¬ ((h.2.1 203 (((Int8.ofInt 10).toInt32 + ((Int8.ofInt 6).toInt32 * l1)) + (Int32.ofInt 3)).toNatClampNeg) ≤ 0)) → (¬ (¬ ((pm_setI h 203 (((Int8.ofInt 10).toInt32 + ((Int8.ofInt 6).toInt32 * l1)) + (Int32.ofInt 3)).toNatClampNeg ((h.2.1 203 (((Int8.ofInt 10).toInt32 + ((Int8.ofInt 6).toInt32 * l1)) + (Int32.ofInt 3)).toNatClampNeg) - (Int32.ofInt 1))).2.1 203 (((Int8.ofInt 10).toInt32 + ((Int8.ofInt 6).toInt32 * l1)) + (Int32.ofInt 2)).toNatClampNeg) = (Int32.ofInt 1))) → PW b L xs d 227 0 0 2 [.ref 193, .int (l1 + Int32.ofInt 1), .int ((Int8.ofInt 10).toInt32 + ((Int8.ofInt 6).toInt32 * l1))] [] (pm_setI (pm_setI h 203 (((Int8.ofInt 10).toInt32 + ((Int8.ofInt 6).toInt32 * l1)) + (Int32.ofInt 3)).toNatClampNeg ((h.2.1 203 (((Int8.ofInt 10).toInt32 + ((Int8.ofInt 6).toInt32 * l1)) + (Int32.ofInt 3)).toNatClampNeg) - (Int32.ofInt 1))) 203 (((Int8.ofInt 10).toInt32 + ((Int8.ofInt 6).toInt32 * l1)) + (Int32.ofInt 5)).toNatClampNeg (((pm_setI h 203 (((Int8.ofInt 10).toInt32 + ((Int8.ofInt 6).toInt32 * l1)) + (Int32.ofInt 3)).toNatClampNeg ((h.2.1 203 (((Int8.ofInt 10).toInt32 + ((Int8.ofInt 6).toInt32 * l1)) + (Int32.ofInt 3)).toNatClampNeg) - (Int32.ofInt 1))).2.1 203 (((Int8.ofInt 10).toInt32 + ((Int8.ofInt 6).toInt32 * l1)) + (Int32.ofInt 5)).toNatClampNeg) + (Int32.ofInt 1))) Q) (r0 : ((h.2.1 203 (Int32.ofInt 1).toNatClampNeg) ≤ l1) → Q none (pm_setI h 203 (Int32.ofInt 4).toNatClampNeg ((h.2.1 203 (Int32.ofInt 4).toNatClampNeg) + (Int32.ofInt 1)))) : PW b L xs d 227 0 0 2 [.ref 193, .int l1, .retAddr 0] [] h Q := by
  refine pw_l (pc := 2) d227_2 rfl rfl rfl ?_
  refine pw_l (pc := 3) d227_3 rfl rfl rfl ?_
  refine pw_gr (pc := 4) d227_4 (k227_39 b) (sh_at hI.1 s193) f10_20 hI.r20 ?_
  refine pw_s (pc := 7) d227_7 rfl rfl ?_
  refine pw_ai (pc := 8) d227_8 (sh_at hI.1 s203) (by unfold vp_in; decide) ?_
  refine pw_ige (pc := 9) (t := 83) d227_9 (by decide) (fun c1 => ?_) (fun c1 => ?_)
  · refine pw_l (pc := 83) d227_83 rfl rfl rfl ?_
    refine pw_gr (pc := 84) d227_84 (k227_39 b) (sh_at hI.1 s193) f10_20 hI.r20 ?_
    refine pw_s (pc := 87) d227_87 rfl rfl ?_
    refine pw_s (pc := 88) d227_88 rfl rfl ?_
    refine pw_ai (pc := 89) d227_89 (sh_at hI.1 s203) (by unfold vp_in; decide) ?_
    refine pw_s (pc := 90) d227_90 rfl rfl ?_
    refine pw_s (pc := 91) d227_91 rfl rfl ?_
    refine pw_si (pc := 92) d227_92 (sh_at hI.1 s203) (by unfold vp_in; decide) ?_
    refine pw_rv (pc := 93) d227_93 t227 ?_
    exact r0 c1
  · refine pw_s (pc := 12) d227_12 rfl rfl ?_
    refine pw_s (pc := 14) d227_14 rfl rfl ?_
    refine pw_l (pc := 16) d227_16 rfl rfl rfl ?_
    refine pw_s (pc := 17) d227_17 rfl rfl ?_
    refine pw_s (pc := 18) d227_18 rfl rfl ?_
    refine pw_t (pc := 19) d227_19 rfl rfl rfl rfl ?_
    refine pw_l (pc := 20) d227_20 rfl rfl rfl ?_
    refine pw_gr (pc := 21) d227_21 (k227_39 b) (sh_at hI.1 s193) f10_20 hI.r20 ?_
    refine pw_l (pc := 24) d227_24 rfl rfl rfl ?_
    refine pw_s (pc := 25) d227_25 rfl rfl ?_
    refine pw_s (pc := 26) d227_26 rfl rfl ?_
    refine pw_ai (pc := 27) d227_27 (sh_at hI.1 s203) (b0 c1) ?_
    refine pw_zle (pc := 28) (t := 43) d227_28 (by decide) (fun c2 => ?_) (fun c2 => ?_)
    · refine pw_l (pc := 43) d227_43 rfl rfl rfl ?_
      refine pw_gr (pc := 44) d227_44 (k227_39 b) (sh_at hI.1 s193) f10_20 hI.r20 ?_
      refine pw_l (pc := 47) d227_47 rfl rfl rfl ?_
      refine pw_s (pc := 48) d227_48 rfl rfl ?_
      refine pw_s (pc := 49) d227_49 rfl rfl ?_
      refine pw_l (pc := 50) d227_50 rfl rfl rfl ?_
      refine pw_gr (pc := 51) d227_51 (k227_39 b) (sh_at hI.1 s193) f10_20 hI.r20 ?_
      refine pw_l (pc := 54) d227_54 rfl rfl rfl ?_
      refine pw_s (pc := 55) d227_55 rfl rfl ?_
      refine pw_s (pc := 56) d227_56 rfl rfl ?_
      refine pw_ai (pc := 57) d227_57 (sh_at hI.1 s203) (b1 c1 c2) ?_
      refine pw_s (pc := 58) d227_58 rfl rfl ?_
      refine pw_ine (pc := 59) (t := 75) d227_59 (by decide) (fun c3 => ?_) (fun c3 => ?_)
      · refine pw_s (pc := 75) d227_75 rfl rfl ?_
        refine pw_si (pc := 76) d227_76 (sh_at hI.1 s203) (b2 c1 c2 c3) ?_
        refine pw_t (pc := 77) d227_77 rfl rfl rfl rfl ?_
        refine pw_go (pc := 80) (t := 2) d227_80 (by decide) ?_
        exact k0 c1 c2 c3
      · refine pw_l (pc := 62) d227_62 rfl rfl rfl ?_
        refine pw_gr (pc := 63) d227_63 (k227_39 b) (sh_at hI.1 s193) f10_20 hI.r20 ?_
        refine pw_l (pc := 66) d227_66 rfl rfl rfl ?_
        refine pw_s (pc := 67) d227_67 rfl rfl ?_
        refine pw_s (pc := 68) d227_68 rfl rfl ?_
        refine pw_ai (pc := 69) d227_69 (sh_at hI.1 s203) (b3 c1 c2 c3) ?_
        refine pw_s (pc := 70) d227_70 rfl rfl ?_
        refine pw_s (pc := 71) d227_71 rfl rfl ?_
        refine pw_go (pc := 72) (t := 76) d227_72 (by decide) ?_
        refine pw_si (pc := 76) d227_76 (sh_at hI.1 s203) (b3 c1 c2 c3) ?_
        refine pw_t (pc := 77) d227_77 rfl rfl rfl rfl ?_
        refine pw_go (pc := 80) (t := 2) d227_80 (by decide) ?_
        exact k1 c1 c2 c3
    · refine pw_l (pc := 31) d227_31 rfl rfl rfl ?_
      refine pw_gr (pc := 32) d227_32 (k227_39 b) (sh_at hI.1 s193) f10_20 hI.r20 ?_
      refine pw_l (pc := 35) d227_35 rfl rfl rfl ?_
      refine pw_s (pc := 36) d227_36 rfl rfl ?_
      refine pw_s (pc := 37) d227_37 rfl rfl ?_
      refine pw_s (pc := 38) d227_38 rfl rfl ?_
      refine pw_ai (pc := 39) d227_39 (sh_at hI.1 s203) (b4 c1 c2) ?_
      refine pw_s (pc := 40) d227_40 rfl rfl ?_
      refine pw_s (pc := 41) d227_41 rfl rfl ?_
      refine pw_si (pc := 42) d227_42 (sh_at hI.1 s203) (b4 c1 c2) ?_
      refine pw_l (pc := 43) d227_43 rfl rfl rfl ?_
      refine pw_gr (pc := 44) d227_44 (k227_39 b) (sh_at hI.1 s193) f10_20 hI.r20 ?_
      refine pw_l (pc := 47) d227_47 rfl rfl rfl ?_
      refine pw_s (pc := 48) d227_48 rfl rfl ?_
      refine pw_s (pc := 49) d227_49 rfl rfl ?_
      refine pw_l (pc := 50) d227_50 rfl rfl rfl ?_
      refine pw_gr (pc := 51) d227_51 (k227_39 b) (sh_at hI.1 s193) f10_20 hI.r20 ?_
      refine pw_l (pc := 54) d227_54 rfl rfl rfl ?_
      refine pw_s (pc := 55) d227_55 rfl rfl ?_
      refine pw_s (pc := 56) d227_56 rfl rfl ?_
      refine pw_ai (pc := 57) d227_57 (sh_at hI.1 s203) (b5 c1 c2) ?_
      refine pw_s (pc := 58) d227_58 rfl rfl ?_
      refine pw_ine (pc := 59) (t := 75) d227_59 (by decide) (fun c4 => ?_) (fun c4 => ?_)
      · refine pw_s (pc := 75) d227_75 rfl rfl ?_
        refine pw_si (pc := 76) d227_76 (sh_at hI.1 s203) (b6 c1 c2 c4) ?_
        refine pw_t (pc := 77) d227_77 rfl rfl rfl rfl ?_
        refine pw_go (pc := 80) (t := 2) d227_80 (by decide) ?_
        exact k2 c1 c2 c4
      · refine pw_l (pc := 62) d227_62 rfl rfl rfl ?_
        refine pw_gr (pc := 63) d227_63 (k227_39 b) (sh_at hI.1 s193) f10_20 hI.r20 ?_
        refine pw_l (pc := 66) d227_66 rfl rfl rfl ?_
        refine pw_s (pc := 67) d227_67 rfl rfl ?_
        refine pw_s (pc := 68) d227_68 rfl rfl ?_
        refine pw_ai (pc := 69) d227_69 (sh_at hI.1 s203) (b7 c1 c2 c4) ?_
        refine pw_s (pc := 70) d227_70 rfl rfl ?_
        refine pw_s (pc := 71) d227_71 rfl rfl ?_
        refine pw_go (pc := 72) (t := 76) d227_72 (by decide) ?_
        refine pw_si (pc := 76) d227_76 (sh_at hI.1 s203) (b7 c1 c2 c4) ?_
        refine pw_t (pc := 77) d227_77 rfl rfl rfl rfl ?_
        refine pw_go (pc := 80) (t := 2) d227_80 (by decide) ?_
        exact k3 c1 c2 c4
theorem l_needOfWord_0 (b : Bool) (L : Nat) (xs : Nat → Int32) (d : Nat) (hd : 0 ≤ d) (h : pm_H) (hI : IM h) (a0 : Int32) {Q : Option Value → pm_H → Prop} (k0 : PW b L xs d 234 0 0 4 [.ref 193, .int a0, .int (Int32.ofInt 0), .int (Int32.ofInt 0), .retAddr 0, .retAddr 0] [] h Q) : PW b L xs d 234 0 0 0 [.ref 193, .int a0, .retAddr 0, .retAddr 0, .retAddr 0, .retAddr 0] [] h Q := by
  refine pw_s (pc := 0) d234_0 rfl rfl ?_
  refine pw_t (pc := 1) d234_1 rfl rfl rfl rfl ?_
  refine pw_s (pc := 2) d234_2 rfl rfl ?_
  refine pw_t (pc := 3) d234_3 rfl rfl rfl rfl ?_
  exact k0 
theorem l_needOfWord_4 (b : Bool) (L : Nat) (xs : Nat → Int32) (d : Nat) (hd : 0 ≤ d) (h : pm_H) (hI : IM h) (l1 : Int32) (l2 : Int32) (l3 : Int32) {Q : Option Value → pm_H → Prop} (k0 : (¬ ((h.2.1 203 (Int32.ofInt 2).toNatClampNeg) ≤ l3)) → PW b L xs d 234 0 0 20 [.ref 193, .int l1, .int l2, .int l3, .int (Int32.ofInt 0), .int (Int32.ofInt 0)] [] h Q) (r0 : ((h.2.1 203 (Int32.ofInt 2).toNatClampNeg) ≤ l3) → Q (some (.int l2)) h) : PW b L xs d 234 0 0 4 [.ref 193, .int l1, .int l2, .int l3, .retAddr 0, .retAddr 0] [] h Q := by
  refine pw_l (pc := 4) d234_4 rfl rfl rfl ?_
  refine pw_l (pc := 5) d234_5 rfl rfl rfl ?_
  refine pw_gr (pc := 6) d234_6 (k234_39 b) (sh_at hI.1 s193) f10_20 hI.r20 ?_
  refine pw_s (pc := 9) d234_9 rfl rfl ?_
  refine pw_ai (pc := 10) d234_10 (sh_at hI.1 s203) (by unfold vp_in; decide) ?_
  refine pw_ige (pc := 11) (t := 94) d234_11 (by decide) (fun c1 => ?_) (fun c1 => ?_)
  · refine pw_l (pc := 94) d234_94 rfl rfl rfl ?_
    refine pw_ri (pc := 95) d234_95 t234 rfl ?_
    exact r0 c1
  · refine pw_s (pc := 14) d234_14 rfl rfl ?_
    refine pw_t (pc := 15) d234_15 rfl rfl rfl rfl ?_
    refine pw_s (pc := 17) d234_17 rfl rfl ?_
    refine pw_t (pc := 18) d234_18 rfl rfl rfl rfl ?_
    exact k0 c1
theorem l_needOfWord_20 (b : Bool) (L : Nat) (xs : Nat → Int32) (d : Nat) (hd : 1 ≤ d) (h : pm_H) (hI : IM h) (l1 : Int32) (l2 : Int32) (l3 : Int32) (l4 : Int32) (l5 : Int32) {Q : Option Value → pm_H → Prop} (b0 : (vp_in (((Int8.ofInt 58).toInt32 + ((Int8.ofInt 6).toInt32 * l3)) + ((Int32.ofInt 1))) 227)) (b1 : ((v_orderOf l3 (Int32.ofInt 1) h) ≤ l5) → (¬ (l4 = 0)) → (vp_in (((Int8.ofInt 58).toInt32 + ((Int8.ofInt 6).toInt32 * l3)) + ((Int32.ofInt 0))) 227)) (b2 : ((v_orderOf l3 (Int32.ofInt 1) h) ≤ l5) → (¬ (l4 = 0)) → (¬ ((v_orderOf l3 (Int32.ofInt 0) h) ≤ l2)) → (vp_in (((Int8.ofInt 58).toInt32 + ((Int8.ofInt 6).toInt32 * l3)) + ((Int32.ofInt 0))) 227)) (b3 : (¬ ((v_orderOf l3 (Int32.ofInt 1) h) ≤ l5)) → (¬ (¬ l4 = 0)) → (vp_in (((Int8.ofInt 58).toInt32 + ((Int8.ofInt 6).toInt32 * l3)) + (((Int32.ofInt 2) + l5))) 227)) (k0 : ((v_orderOf l3 (Int32.ofInt 1) h) ≤ l5) → (l4 = 0) → PW b L xs d 234 0 0 4 [.ref 193, .int l1, .int l2, .int (l3 + Int32.ofInt 1), .int l4, .int l5] [] h Q) (k1 : ((v_orderOf l3 (Int32.ofInt 1) h) ≤ l5) → (¬ (l4 = 0)) → ((v_orderOf l3 (Int32.ofInt 0) h) ≤ l2) → PW b L xs d 234 0 0 4 [.ref 193, .int l1, .int l2, .int (l3 + Int32.ofInt 1), .int l4, .int l5] [] h Q) (k2 : ((v_orderOf l3 (Int32.ofInt 1) h) ≤ l5) → (¬ (l4 = 0)) → (¬ ((v_orderOf l3 (Int32.ofInt 0) h) ≤ l2)) → PW b L xs d 234 0 0 4 [.ref 193, .int l1, .int (v_orderOf l3 (Int32.ofInt 0) h), .int (l3 + Int32.ofInt 1), .int l4, .int l5] [] h Q) (k3 : (¬ ((v_orderOf l3 (Int32.ofInt 1) h) ≤ l5)) → (¬ l4 = 0) → PW b L xs d 234 0 0 20 [.ref 193, .int l1, .int l2, .int l3, .int (Int32.ofInt 1), .int (l5 + Int32.ofInt 1)] [] h Q) (k4 : (¬ ((v_orderOf l3 (Int32.ofInt 1) h) ≤ l5)) → (¬ (¬ l4 = 0)) → (¬ (v_orderOf l3 ((Int32.ofInt 2) + l5) h) = l1) → PW b L xs d 234 0 0 20 [.ref 193, .int l1, .int l2, .int l3, .int (Int32.ofInt 0), .int (l5 + Int32.ofInt 1)] [] h Q) (k5 : (¬ ((v_orderOf l3 (Int32.ofInt 1) h) ≤ l5)) → (¬ (¬ l4 = 0)) → (¬ (¬ (v_orderOf l3 ((Int32.ofInt 2) + l5) h) = l1)) → PW b L xs d 234 0 0 20 [.ref 193, .int l1, .int l2, .int l3, .int (Int32.ofInt 1), .int (l5 + Int32.ofInt 1)] [] h Q) : PW b L xs d 234 0 0 20 [.ref 193, .int l1, .int l2, .int l3, .int l4, .int l5] [] h Q := by
  refine pw_l (pc := 20) d234_20 rfl rfl rfl ?_
  refine pw_l (pc := 22) d234_22 rfl rfl rfl ?_
  refine pw_l (pc := 23) d234_23 rfl rfl rfl ?_
  refine pw_s (pc := 24) d234_24 rfl rfl ?_
  refine pw_v (pc := 25) (k := 193) (by omega) d234_25 (k234_293 b) (by decide) m203 (by decide) rfl (sh_at hI.1 s193) (Nat.le_of_ble_eq_true rfl) (Nat.le_of_ble_eq_true rfl) rfl rfl (c_orderOf b L xs (d - 1) (by omega) h hI l3 (Int32.ofInt 1) (b0 )) (fun v h2 hq => ?_)
  obtain ⟨rfl, hq2⟩ := hq
  rw [hq2]
  simp only [Option.toList_some, List.cons_append, List.nil_append]
  refine pw_ige (pc := 28) (t := 62) d234_28 (by decide) (fun c1 => ?_) (fun c1 => ?_)
  · refine pw_l (pc := 62) d234_62 rfl rfl rfl ?_
    refine pw_zeq (pc := 64) (t := 86) d234_64 (by decide) (fun c2 => ?_) (fun c2 => ?_)
    · refine pw_l (pc := 86) d234_86 rfl rfl rfl ?_
      refine pw_t (pc := 87) d234_87 rfl rfl rfl rfl ?_
      refine pw_t (pc := 88) d234_88 rfl rfl rfl rfl ?_
      refine pw_go (pc := 91) (t := 4) d234_91 (by decide) ?_
      exact k0 c1 c2
    · refine pw_l (pc := 67) d234_67 rfl rfl rfl ?_
      refine pw_l (pc := 68) d234_68 rfl rfl rfl ?_
      refine pw_s (pc := 69) d234_69 rfl rfl ?_
      refine pw_v (pc := 70) (k := 193) (by omega) d234_70 (k234_293 b) (by decide) m203 (by decide) rfl (sh_at hI.1 s193) (Nat.le_of_ble_eq_true rfl) (Nat.le_of_ble_eq_true rfl) rfl rfl (c_orderOf b L xs (d - 1) (by omega) h hI l3 (Int32.ofInt 0) (b1 c1 c2)) (fun v h2 hq => ?_)
      obtain ⟨rfl, hq2⟩ := hq
      rw [hq2]
      simp only [Option.toList_some, List.cons_append, List.nil_append]
      refine pw_l (pc := 73) d234_73 rfl rfl rfl ?_
      refine pw_ile (pc := 74) (t := 86) d234_74 (by decide) (fun c3 => ?_) (fun c3 => ?_)
      · refine pw_l (pc := 86) d234_86 rfl rfl rfl ?_
        refine pw_t (pc := 87) d234_87 rfl rfl rfl rfl ?_
        refine pw_t (pc := 88) d234_88 rfl rfl rfl rfl ?_
        refine pw_go (pc := 91) (t := 4) d234_91 (by decide) ?_
        exact k1 c1 c2 c3
      · refine pw_l (pc := 77) d234_77 rfl rfl rfl ?_
        refine pw_l (pc := 78) d234_78 rfl rfl rfl ?_
        refine pw_s (pc := 79) d234_79 rfl rfl ?_
        refine pw_v (pc := 80) (k := 193) (by omega) d234_80 (k234_293 b) (by decide) m203 (by decide) rfl (sh_at hI.1 s193) (Nat.le_of_ble_eq_true rfl) (Nat.le_of_ble_eq_true rfl) rfl rfl (c_orderOf b L xs (d - 1) (by omega) h hI l3 (Int32.ofInt 0) (b2 c1 c2 c3)) (fun v h2 hq => ?_)
        obtain ⟨rfl, hq2⟩ := hq
        rw [hq2]
        simp only [Option.toList_some, List.cons_append, List.nil_append]
        refine pw_go (pc := 83) (t := 87) d234_83 (by decide) ?_
        refine pw_t (pc := 87) d234_87 rfl rfl rfl rfl ?_
        refine pw_t (pc := 88) d234_88 rfl rfl rfl rfl ?_
        refine pw_go (pc := 91) (t := 4) d234_91 (by decide) ?_
        exact k2 c1 c2 c3
  · refine pw_l (pc := 31) d234_31 rfl rfl rfl ?_
    refine pw_zne (pc := 33) (t := 49) d234_33 (by decide) (fun c4 => ?_) (fun c4 => ?_)
    · refine pw_s (pc := 49) d234_49 rfl rfl ?_
      refine pw_go (pc := 50) (t := 54) d234_50 (by decide) ?_
      refine pw_t (pc := 54) d234_54 rfl rfl rfl rfl ?_
      refine pw_t (pc := 56) d234_56 rfl rfl rfl rfl ?_
      refine pw_go (pc := 59) (t := 20) d234_59 (by decide) ?_
      exact k3 c1 c4
    · refine pw_l (pc := 36) d234_36 rfl rfl rfl ?_
      refine pw_l (pc := 37) d234_37 rfl rfl rfl ?_
      refine pw_s (pc := 38) d234_38 rfl rfl ?_
      refine pw_l (pc := 39) d234_39 rfl rfl rfl ?_
      refine pw_s (pc := 41) d234_41 rfl rfl ?_
      refine pw_v (pc := 42) (k := 193) (by omega) d234_42 (k234_293 b) (by decide) m203 (by decide) rfl (sh_at hI.1 s193) (Nat.le_of_ble_eq_true rfl) (Nat.le_of_ble_eq_true rfl) rfl rfl (c_orderOf b L xs (d - 1) (by omega) h hI l3 ((Int32.ofInt 2) + l5) (b3 c1 c4)) (fun v h2 hq => ?_)
      obtain ⟨rfl, hq2⟩ := hq
      rw [hq2]
      simp only [Option.toList_some, List.cons_append, List.nil_append]
      refine pw_l (pc := 45) d234_45 rfl rfl rfl ?_
      refine pw_ine (pc := 46) (t := 53) d234_46 (by decide) (fun c5 => ?_) (fun c5 => ?_)
      · refine pw_s (pc := 53) d234_53 rfl rfl ?_
        refine pw_t (pc := 54) d234_54 rfl rfl rfl rfl ?_
        refine pw_t (pc := 56) d234_56 rfl rfl rfl rfl ?_
        refine pw_go (pc := 59) (t := 20) d234_59 (by decide) ?_
        exact k4 c1 c4 c5
      · refine pw_s (pc := 49) d234_49 rfl rfl ?_
        refine pw_go (pc := 50) (t := 54) d234_50 (by decide) ?_
        refine pw_t (pc := 54) d234_54 rfl rfl rfl rfl ?_
        refine pw_t (pc := 56) d234_56 rfl rfl rfl rfl ?_
        refine pw_go (pc := 59) (t := 20) d234_59 (by decide) ?_
        exact k5 c1 c4 c5
theorem l_changesTo_0 (b : Bool) (L : Nat) (xs : Nat → Int32) (d : Nat) (hd : 1 ≤ d) (h : pm_H) (hI : IM h) (a0 : Int32) {Q : Option Value → pm_H → Prop} (b0 : (vp_in (((Int8.ofInt 58).toInt32 + ((Int8.ofInt 6).toInt32 * a0)) + ((Int32.ofInt 1))) 227)) (k0 : PW b L xs d 247 0 0 9 [.ref 193, .int a0, .int (v_orderOf a0 (Int32.ofInt 1) h), .int (Int32.ofInt 0), .retAddr 0, .retAddr 0, .retAddr 0] [] h Q) : PW b L xs d 247 0 0 0 [.ref 193, .int a0, .retAddr 0, .retAddr 0, .retAddr 0, .retAddr 0, .retAddr 0] [] h Q := by
  refine pw_l (pc := 0) d247_0 rfl rfl rfl ?_
  refine pw_l (pc := 1) d247_1 rfl rfl rfl ?_
  refine pw_s (pc := 2) d247_2 rfl rfl ?_
  refine pw_v (pc := 3) (k := 193) (by omega) d247_3 (k247_293 b) (by decide) m203 (by decide) rfl (sh_at hI.1 s193) (Nat.le_of_ble_eq_true rfl) (Nat.le_of_ble_eq_true rfl) rfl rfl (c_orderOf b L xs (d - 1) (by omega) h hI a0 (Int32.ofInt 1) (b0 )) (fun v h2 hq => ?_)
  obtain ⟨rfl, hq2⟩ := hq
  rw [hq2]
  simp only [Option.toList_some, List.cons_append, List.nil_append]
  refine pw_t (pc := 6) d247_6 rfl rfl rfl rfl ?_
  refine pw_s (pc := 7) d247_7 rfl rfl ?_
  refine pw_t (pc := 8) d247_8 rfl rfl rfl rfl ?_
  exact k0 
theorem l_changesTo_9 (b : Bool) (L : Nat) (xs : Nat → Int32) (d : Nat) (hd : 0 ≤ d) (h : pm_H) (hI : IM h) (l1 : Int32) (l2 : Int32) (l3 : Int32) {Q : Option Value → pm_H → Prop} (b0 : ((h.2.1 193 23) < l3) → vp_in (((Int32.ofInt 5) * (h.2.1 193 23)) + l2) 30) (k0 : (¬ ((h.2.1 193 23) < l3)) → PW b L xs d 247 0 0 20 [.ref 193, .int l1, .int l2, .int l3, .int (Int32.ofInt 0), .retAddr 0, .retAddr 0] [] h Q) (r0 : ((h.2.1 193 23) < l3) → Q (some (.int (h.2.1 209 (((Int32.ofInt 5) * (h.2.1 193 23)) + l2).toNatClampNeg))) h) : PW b L xs d 247 0 0 9 [.ref 193, .int l1, .int l2, .int l3, .retAddr 0, .retAddr 0, .retAddr 0] [] h Q := by
  refine pw_l (pc := 9) d247_9 rfl rfl rfl ?_
  refine pw_l (pc := 10) d247_10 rfl rfl rfl ?_
  refine pw_gi (pc := 11) d247_11 (k247_299 b) (sh_at hI.1 s193) f10_23 ?_
  refine pw_igt (pc := 14) (t := 142) d247_14 (by decide) (fun c1 => ?_) (fun c1 => ?_)
  · refine pw_l (pc := 142) d247_142 rfl rfl rfl ?_
    refine pw_gr (pc := 143) d247_143 (k247_57 b) (sh_at hI.1 s193) f10_29 hI.r29 ?_
    refine pw_s (pc := 146) d247_146 rfl rfl ?_
    refine pw_l (pc := 147) d247_147 rfl rfl rfl ?_
    refine pw_gi (pc := 148) d247_148 (k247_299 b) (sh_at hI.1 s193) f10_23 ?_
    refine pw_s (pc := 151) d247_151 rfl rfl ?_
    refine pw_l (pc := 152) d247_152 rfl rfl rfl ?_
    refine pw_s (pc := 153) d247_153 rfl rfl ?_
    refine pw_ai (pc := 154) d247_154 (sh_at hI.1 s209) (b0 c1) ?_
    refine pw_ri (pc := 155) d247_155 t247 rfl ?_
    exact r0 c1
  · refine pw_s (pc := 17) d247_17 rfl rfl ?_
    refine pw_t (pc := 18) d247_18 rfl rfl rfl rfl ?_
    exact k0 c1
theorem l_changesTo_20 (b : Bool) (L : Nat) (xs : Nat → Int32) (d : Nat) (hd : 1 ≤ d) (h : pm_H) (hI : IM h) (l1 : Int32) (l2 : Int32) (l3 : Int32) (l4 : Int32) {Q : Option Value → pm_H → Prop} (b0 : (¬ (l2 < l4)) → (l3 = 0) → vp_in (((Int32.ofInt 5) * l3) + l4) 30) (b1 : (¬ (l2 < l4)) → (¬ (l3 = 0)) → (¬ l4 = 0) → vp_in ((((Int32.ofInt 5) * l3) + l4) - (Int8.ofInt 6).toInt32) 30) (b2 : (¬ (l2 < l4)) → (¬ (l3 = 0)) → (¬ l4 = 0) → vp_in (l3 - (Int32.ofInt 1)) 5) (b3 : (¬ (l2 < l4)) → (¬ (l3 = 0)) → (¬ l4 = 0) → (vp_in (((Int8.ofInt 58).toInt32 + ((Int8.ofInt 6).toInt32 * l1)) + (((Int32.ofInt 1) + l4))) 227)) (b4 : (¬ (l2 < l4)) → (¬ (l3 = 0)) → (¬ l4 = 0) → (¬ (h.2.1 204 (l3 - (Int32.ofInt 1)).toNatClampNeg) = (v_orderOf l1 ((Int32.ofInt 1) + l4) h)) → vp_in ((((Int32.ofInt 5) * l3) + l4) - (Int32.ofInt 5)) 30) (b5 : (¬ (l2 < l4)) → (¬ (l3 = 0)) → (¬ l4 = 0) → (¬ (h.2.1 204 (l3 - (Int32.ofInt 1)).toNatClampNeg) = (v_orderOf l1 ((Int32.ofInt 1) + l4) h)) → vp_in ((((Int32.ofInt 5) * l3) + l4) - (Int32.ofInt 1)) 30) (b6 : (¬ (l2 < l4)) → (¬ (l3 = 0)) → (¬ l4 = 0) → (¬ (h.2.1 204 (l3 - (Int32.ofInt 1)).toNatClampNeg) = (v_orderOf l1 ((Int32.ofInt 1) + l4) h)) → vp_in (((Int32.ofInt 5) * l3) + l4) 30) (b7 : (¬ (l2 < l4)) → (¬ (l3 = 0)) → (¬ l4 = 0) → (¬ (¬ (h.2.1 204 (l3 - (Int32.ofInt 1)).toNatClampNeg) = (v_orderOf l1 ((Int32.ofInt 1) + l4) h))) → vp_in ((((Int32.ofInt 5) * l3) + l4) - (Int32.ofInt 5)) 30) (b8 : (¬ (l2 < l4)) → (¬ (l3 = 0)) → (¬ l4 = 0) → (¬ (¬ (h.2.1 204 (l3 - (Int32.ofInt 1)).toNatClampNeg) = (v_orderOf l1 ((Int32.ofInt 1) + l4) h))) → vp_in ((((Int32.ofInt 5) * l3) + l4) - (Int32.ofInt 1)) 30) (b9 : (¬ (l2 < l4)) → (¬ (l3 = 0)) → (¬ l4 = 0) → (¬ (¬ (h.2.1 204 (l3 - (Int32.ofInt 1)).toNatClampNeg) = (v_orderOf l1 ((Int32.ofInt 1) + l4) h))) → vp_in (((Int32.ofInt 5) * l3) + l4) 30) (b10 : (¬ (l2 < l4)) → (¬ (l3 = 0)) → (¬ (¬ l4 = 0)) → vp_in (((Int32.ofInt 5) * l3) + l4) 30) (k0 : (l2 < l4) → PW b L xs d 247 0 0 9 [.ref 193, .int l1, .int l2, .int (l3 + Int32.ofInt 1), .int l4, .retAddr 0, .retAddr 0] [] h Q) (k1 : (¬ (l2 < l4)) → (l3 = 0) → PW b L xs d 247 0 0 20 [.ref 193, .int l1, .int l2, .int l3, .int (l4 + Int32.ofInt 1), .int (((Int32.ofInt 5) * l3) + l4), .retAddr 0] [] (pm_setI h 209 (((Int32.ofInt 5) * l3) + l4).toNatClampNeg (l3 + l4)) Q) (k2 : (¬ (l2 < l4)) → (¬ (l3 = 0)) → (¬ l4 = 0) → (¬ (h.2.1 204 (l3 - (Int32.ofInt 1)).toNatClampNeg) = (v_orderOf l1 ((Int32.ofInt 1) + l4) h)) → PW b L xs d 247 0 0 20 [.ref 193, .int l1, .int l2, .int l3, .int (l4 + Int32.ofInt 1), .int (((Int32.ofInt 5) * l3) + l4), .int ((h.2.1 209 ((((Int32.ofInt 5) * l3) + l4) - (Int8.ofInt 6).toInt32).toNatClampNeg) + (Int32.ofInt 1))] [] (pm_setI h 209 (((Int32.ofInt 5) * l3) + l4).toNatClampNeg (v_lesser ((h.2.1 209 ((((Int32.ofInt 5) * l3) + l4) - (Int8.ofInt 6).toInt32).toNatClampNeg) + (Int32.ofInt 1)) ((v_lesser (h.2.1 209 ((((Int32.ofInt 5) * l3) + l4) - (Int32.ofInt 5)).toNatClampNeg) (h.2.1 209 ((((Int32.ofInt 5) * l3) + l4) - (Int32.ofInt 1)).toNatClampNeg) h) + (Int32.ofInt 1)) h)) Q) (k3 : (¬ (l2 < l4)) → (¬ (l3 = 0)) → (¬ l4 = 0) → (¬ (¬ (h.2.1 204 (l3 - (Int32.ofInt 1)).toNatClampNeg) = (v_orderOf l1 ((Int32.ofInt 1) + l4) h))) → PW b L xs d 247 0 0 20 [.ref 193, .int l1, .int l2, .int l3, .int (l4 + Int32.ofInt 1), .int (((Int32.ofInt 5) * l3) + l4), .int ((h.2.1 209 ((((Int32.ofInt 5) * l3) + l4) - (Int8.ofInt 6).toInt32).toNatClampNeg) + (Int32.ofInt 0))] [] (pm_setI h 209 (((Int32.ofInt 5) * l3) + l4).toNatClampNeg (v_lesser ((h.2.1 209 ((((Int32.ofInt 5) * l3) + l4) - (Int8.ofInt 6).toInt32).toNatClampNeg) + (Int32.ofInt 0)) ((v_lesser (h.2.1 209 ((((Int32.ofInt 5) * l3) + l4) - (Int32.ofInt 5)).toNatClampNeg) (h.2.1 209 ((((Int32.ofInt 5) * l3) + l4) - (Int32.ofInt 1)).toNatClampNeg) h) + (Int32.ofInt 1)) h)) Q) (k4 : (¬ (l2 < l4)) → (¬ (l3 = 0)) → (¬ (¬ l4 = 0)) → PW b L xs d 247 0 0 20 [.ref 193, .int l1, .int l2, .int l3, .int (l4 + Int32.ofInt 1), .int (((Int32.ofInt 5) * l3) + l4), .retAddr 0] [] (pm_setI h 209 (((Int32.ofInt 5) * l3) + l4).toNatClampNeg (l3 + l4)) Q) : PW b L xs d 247 0 0 20 [.ref 193, .int l1, .int l2, .int l3, .int l4, .retAddr 0, .retAddr 0] [] h Q := by
  refine pw_l (pc := 20) d247_20 rfl rfl rfl ?_
  refine pw_l (pc := 22) d247_22 rfl rfl rfl ?_
  refine pw_igt (pc := 23) (t := 136) d247_23 (by decide) (fun c1 => ?_) (fun c1 => ?_)
  · refine pw_t (pc := 136) d247_136 rfl rfl rfl rfl ?_
    refine pw_go (pc := 139) (t := 9) d247_139 (by decide) ?_
    exact k0 c1
  · refine pw_s (pc := 26) d247_26 rfl rfl ?_
    refine pw_l (pc := 27) d247_27 rfl rfl rfl ?_
    refine pw_s (pc := 28) d247_28 rfl rfl ?_
    refine pw_l (pc := 29) d247_29 rfl rfl rfl ?_
    refine pw_s (pc := 31) d247_31 rfl rfl ?_
    refine pw_t (pc := 32) d247_32 rfl rfl rfl rfl ?_
    refine pw_l (pc := 34) d247_34 rfl rfl rfl ?_
    refine pw_zeq (pc := 35) (t := 43) d247_35 (by decide) (fun c2 => ?_) (fun c2 => ?_)
    · refine pw_l (pc := 43) d247_43 rfl rfl rfl ?_
      refine pw_gr (pc := 44) d247_44 (k247_57 b) (sh_at hI.1 s193) f10_29 hI.r29 ?_
      refine pw_l (pc := 47) d247_47 rfl rfl rfl ?_
      refine pw_l (pc := 49) d247_49 rfl rfl rfl ?_
      refine pw_l (pc := 50) d247_50 rfl rfl rfl ?_
      refine pw_s (pc := 52) d247_52 rfl rfl ?_
      refine pw_si (pc := 53) d247_53 (sh_at hI.1 s209) (b0 c1 c2) ?_
      refine pw_go (pc := 54) (t := 130) d247_54 (by decide) ?_
      refine pw_t (pc := 130) d247_130 rfl rfl rfl rfl ?_
      refine pw_go (pc := 133) (t := 20) d247_133 (by decide) ?_
      exact k1 c1 c2
    · refine pw_l (pc := 38) d247_38 rfl rfl rfl ?_
      refine pw_zne (pc := 40) (t := 57) d247_40 (by decide) (fun c3 => ?_) (fun c3 => ?_)
      · refine pw_l (pc := 57) d247_57 rfl rfl rfl ?_
        refine pw_gr (pc := 58) d247_58 (k247_57 b) (sh_at hI.1 s193) f10_29 hI.r29 ?_
        refine pw_l (pc := 61) d247_61 rfl rfl rfl ?_
        refine pw_s (pc := 63) d247_63 rfl rfl ?_
        refine pw_s (pc := 65) d247_65 rfl rfl ?_
        refine pw_ai (pc := 66) d247_66 (sh_at hI.1 s209) (b1 c1 c2 c3) ?_
        refine pw_l (pc := 67) d247_67 rfl rfl rfl ?_
        refine pw_gr (pc := 68) d247_68 (k247_42 b) (sh_at hI.1 s193) f10_22 hI.r22 ?_
        refine pw_l (pc := 71) d247_71 rfl rfl rfl ?_
        refine pw_s (pc := 72) d247_72 rfl rfl ?_
        refine pw_s (pc := 73) d247_73 rfl rfl ?_
        refine pw_ai (pc := 74) d247_74 (sh_at hI.1 s204) (b2 c1 c2 c3) ?_
        refine pw_l (pc := 75) d247_75 rfl rfl rfl ?_
        refine pw_l (pc := 76) d247_76 rfl rfl rfl ?_
        refine pw_s (pc := 77) d247_77 rfl rfl ?_
        refine pw_l (pc := 78) d247_78 rfl rfl rfl ?_
        refine pw_s (pc := 80) d247_80 rfl rfl ?_
        refine pw_v (pc := 81) (k := 193) (by omega) d247_81 (k247_293 b) (by decide) m203 (by decide) rfl (sh_at hI.1 s193) (Nat.le_of_ble_eq_true rfl) (Nat.le_of_ble_eq_true rfl) rfl rfl (c_orderOf b L xs (d - 1) (by omega) h hI l1 ((Int32.ofInt 1) + l4) (b3 c1 c2 c3)) (fun v h2 hq => ?_)
        obtain ⟨rfl, hq2⟩ := hq
        rw [hq2]
        simp only [Option.toList_some, List.cons_append, List.nil_append]
        refine pw_ine (pc := 84) (t := 91) d247_84 (by decide) (fun c4 => ?_) (fun c4 => ?_)
        · refine pw_s (pc := 91) d247_91 rfl rfl ?_
          refine pw_s (pc := 92) d247_92 rfl rfl ?_
          refine pw_t (pc := 93) d247_93 rfl rfl rfl rfl ?_
          refine pw_l (pc := 95) d247_95 rfl rfl rfl ?_
          refine pw_gr (pc := 96) d247_96 (k247_57 b) (sh_at hI.1 s193) f10_29 hI.r29 ?_
          refine pw_l (pc := 99) d247_99 rfl rfl rfl ?_
          refine pw_l (pc := 101) d247_101 rfl rfl rfl ?_
          refine pw_l (pc := 103) d247_103 rfl rfl rfl ?_
          refine pw_gr (pc := 104) d247_104 (k247_57 b) (sh_at hI.1 s193) f10_29 hI.r29 ?_
          refine pw_l (pc := 107) d247_107 rfl rfl rfl ?_
          refine pw_s (pc := 109) d247_109 rfl rfl ?_
          refine pw_s (pc := 110) d247_110 rfl rfl ?_
          refine pw_ai (pc := 111) d247_111 (sh_at hI.1 s209) (b4 c1 c2 c3 c4) ?_
          refine pw_l (pc := 112) d247_112 rfl rfl rfl ?_
          refine pw_gr (pc := 113) d247_113 (k247_57 b) (sh_at hI.1 s193) f10_29 hI.r29 ?_
          refine pw_l (pc := 116) d247_116 rfl rfl rfl ?_
          refine pw_s (pc := 118) d247_118 rfl rfl ?_
          refine pw_s (pc := 119) d247_119 rfl rfl ?_
          refine pw_ai (pc := 120) d247_120 (sh_at hI.1 s209) (b5 c1 c2 c3 c4) ?_
          refine pw_u (pc := 121) (by omega) d247_121 (k247_407 b) (by decide) m246 (Nat.le_of_ble_eq_true rfl) (Nat.le_of_ble_eq_true rfl) (Nat.le_of_ble_eq_true rfl) rfl rfl (c_lesser b L xs (d - 1) (by omega) h hI (h.2.1 209 ((((Int32.ofInt 5) * l3) + l4) - (Int32.ofInt 5)).toNatClampNeg) (h.2.1 209 ((((Int32.ofInt 5) * l3) + l4) - (Int32.ofInt 1)).toNatClampNeg) ) (fun v h2 hq => ?_)
          obtain ⟨rfl, hq2⟩ := hq
          rw [hq2]
          simp only [Option.toList_some, List.cons_append, List.nil_append]
          refine pw_s (pc := 124) d247_124 rfl rfl ?_
          refine pw_s (pc := 125) d247_125 rfl rfl ?_
          refine pw_u (pc := 126) (by omega) d247_126 (k247_407 b) (by decide) m246 (Nat.le_of_ble_eq_true rfl) (Nat.le_of_ble_eq_true rfl) (Nat.le_of_ble_eq_true rfl) rfl rfl (c_lesser b L xs (d - 1) (by omega) h hI ((h.2.1 209 ((((Int32.ofInt 5) * l3) + l4) - (Int8.ofInt 6).toInt32).toNatClampNeg) + (Int32.ofInt 1)) ((v_lesser (h.2.1 209 ((((Int32.ofInt 5) * l3) + l4) - (Int32.ofInt 5)).toNatClampNeg) (h.2.1 209 ((((Int32.ofInt 5) * l3) + l4) - (Int32.ofInt 1)).toNatClampNeg) h) + (Int32.ofInt 1)) ) (fun v h2 hq => ?_)
          obtain ⟨rfl, hq2⟩ := hq
          rw [hq2]
          simp only [Option.toList_some, List.cons_append, List.nil_append]
          refine pw_si (pc := 129) d247_129 (sh_at hI.1 s209) (b6 c1 c2 c3 c4) ?_
          refine pw_t (pc := 130) d247_130 rfl rfl rfl rfl ?_
          refine pw_go (pc := 133) (t := 20) d247_133 (by decide) ?_
          exact k2 c1 c2 c3 c4
        · refine pw_s (pc := 87) d247_87 rfl rfl ?_
          refine pw_go (pc := 88) (t := 92) d247_88 (by decide) ?_
          refine pw_s (pc := 92) d247_92 rfl rfl ?_
          refine pw_t (pc := 93) d247_93 rfl rfl rfl rfl ?_
          refine pw_l (pc := 95) d247_95 rfl rfl rfl ?_
          refine pw_gr (pc := 96) d247_96 (k247_57 b) (sh_at hI.1 s193) f10_29 hI.r29 ?_
          refine pw_l (pc := 99) d247_99 rfl rfl rfl ?_
          refine pw_l (pc := 101) d247_101 rfl rfl rfl ?_
          refine pw_l (pc := 103) d247_103 rfl rfl rfl ?_
          refine pw_gr (pc := 104) d247_104 (k247_57 b) (sh_at hI.1 s193) f10_29 hI.r29 ?_
          refine pw_l (pc := 107) d247_107 rfl rfl rfl ?_
          refine pw_s (pc := 109) d247_109 rfl rfl ?_
          refine pw_s (pc := 110) d247_110 rfl rfl ?_
          refine pw_ai (pc := 111) d247_111 (sh_at hI.1 s209) (b7 c1 c2 c3 c4) ?_
          refine pw_l (pc := 112) d247_112 rfl rfl rfl ?_
          refine pw_gr (pc := 113) d247_113 (k247_57 b) (sh_at hI.1 s193) f10_29 hI.r29 ?_
          refine pw_l (pc := 116) d247_116 rfl rfl rfl ?_
          refine pw_s (pc := 118) d247_118 rfl rfl ?_
          refine pw_s (pc := 119) d247_119 rfl rfl ?_
          refine pw_ai (pc := 120) d247_120 (sh_at hI.1 s209) (b8 c1 c2 c3 c4) ?_
          refine pw_u (pc := 121) (by omega) d247_121 (k247_407 b) (by decide) m246 (Nat.le_of_ble_eq_true rfl) (Nat.le_of_ble_eq_true rfl) (Nat.le_of_ble_eq_true rfl) rfl rfl (c_lesser b L xs (d - 1) (by omega) h hI (h.2.1 209 ((((Int32.ofInt 5) * l3) + l4) - (Int32.ofInt 5)).toNatClampNeg) (h.2.1 209 ((((Int32.ofInt 5) * l3) + l4) - (Int32.ofInt 1)).toNatClampNeg) ) (fun v h2 hq => ?_)
          obtain ⟨rfl, hq2⟩ := hq
          rw [hq2]
          simp only [Option.toList_some, List.cons_append, List.nil_append]
          refine pw_s (pc := 124) d247_124 rfl rfl ?_
          refine pw_s (pc := 125) d247_125 rfl rfl ?_
          refine pw_u (pc := 126) (by omega) d247_126 (k247_407 b) (by decide) m246 (Nat.le_of_ble_eq_true rfl) (Nat.le_of_ble_eq_true rfl) (Nat.le_of_ble_eq_true rfl) rfl rfl (c_lesser b L xs (d - 1) (by omega) h hI ((h.2.1 209 ((((Int32.ofInt 5) * l3) + l4) - (Int8.ofInt 6).toInt32).toNatClampNeg) + (Int32.ofInt 0)) ((v_lesser (h.2.1 209 ((((Int32.ofInt 5) * l3) + l4) - (Int32.ofInt 5)).toNatClampNeg) (h.2.1 209 ((((Int32.ofInt 5) * l3) + l4) - (Int32.ofInt 1)).toNatClampNeg) h) + (Int32.ofInt 1)) ) (fun v h2 hq => ?_)
          obtain ⟨rfl, hq2⟩ := hq
          rw [hq2]
          simp only [Option.toList_some, List.cons_append, List.nil_append]
          refine pw_si (pc := 129) d247_129 (sh_at hI.1 s209) (b9 c1 c2 c3 c4) ?_
          refine pw_t (pc := 130) d247_130 rfl rfl rfl rfl ?_
          refine pw_go (pc := 133) (t := 20) d247_133 (by decide) ?_
          exact k3 c1 c2 c3 c4
      · refine pw_l (pc := 43) d247_43 rfl rfl rfl ?_
        refine pw_gr (pc := 44) d247_44 (k247_57 b) (sh_at hI.1 s193) f10_29 hI.r29 ?_
        refine pw_l (pc := 47) d247_47 rfl rfl rfl ?_
        refine pw_l (pc := 49) d247_49 rfl rfl rfl ?_
        refine pw_l (pc := 50) d247_50 rfl rfl rfl ?_
        refine pw_s (pc := 52) d247_52 rfl rfl ?_
        refine pw_si (pc := 53) d247_53 (sh_at hI.1 s209) (b10 c1 c2 c3) ?_
        refine pw_go (pc := 54) (t := 130) d247_54 (by decide) ?_
        refine pw_t (pc := 130) d247_130 rfl rfl rfl rfl ?_
        refine pw_go (pc := 133) (t := 20) d247_133 (by decide) ?_
        exact k4 c1 c2 c3
theorem l_isDoneSo_0 (b : Bool) (L : Nat) (xs : Nat → Int32) (d : Nat) (hd : 0 ≤ d) (h : pm_H) (hI : IM h) (a0 : Int32) {Q : Option Value → pm_H → Prop} (k0 : PW b L xs d 250 0 0 2 [.ref 193, .int a0, .int (Int32.ofInt 0)] [] h Q) : PW b L xs d 250 0 0 0 [.ref 193, .int a0, .retAddr 0] [] h Q := by
  refine pw_s (pc := 0) d250_0 rfl rfl ?_
  refine pw_t (pc := 1) d250_1 rfl rfl rfl rfl ?_
  exact k0 
theorem l_isDoneSo_2 (b : Bool) (L : Nat) (xs : Nat → Int32) (d : Nat) (hd : 0 ≤ d) (h : pm_H) (hI : IM h) (l1 : Int32) (l2 : Int32) {Q : Option Value → pm_H → Prop} (b0 : (¬ ((h.2.1 203 (Int16.ofInt 226).toInt32.toNatClampNeg) ≤ l2)) → vp_in l1 512) (b1 : (¬ ((h.2.1 203 (Int16.ofInt 226).toInt32.toNatClampNeg) ≤ l2)) → vp_in ((Int16.ofInt 206).toInt32 + ((Int32.ofInt 2) * l2)) 227) (b2 : (¬ ((h.2.1 203 (Int16.ofInt 226).toInt32.toNatClampNeg) ≤ l2)) → vp_in (((Int16.ofInt 206).toInt32 + ((Int32.ofInt 2) * l2)) + (Int32.ofInt 1)) 227) (k0 : (¬ ((h.2.1 203 (Int16.ofInt 226).toInt32.toNatClampNeg) ≤ l2)) → ((((h.2.1 207 l1.toNatClampNeg) >>> ((h.2.1 203 ((Int16.ofInt 206).toInt32 + ((Int32.ofInt 2) * l2)).toNatClampNeg) &&& 31)) &&& (Int32.ofInt 1)) = (h.2.1 203 (((Int16.ofInt 206).toInt32 + ((Int32.ofInt 2) * l2)) + (Int32.ofInt 1)).toNatClampNeg)) → PW b L xs d 250 0 0 2 [.ref 193, .int l1, .int (l2 + Int32.ofInt 1)] [] h Q) (r0 : ((h.2.1 203 (Int16.ofInt 226).toInt32.toNatClampNeg) ≤ l2) → Q (some (.int (Int32.ofInt 1))) h) (r1 : (¬ ((h.2.1 203 (Int16.ofInt 226).toInt32.toNatClampNeg) ≤ l2)) → (¬ ((((h.2.1 207 l1.toNatClampNeg) >>> ((h.2.1 203 ((Int16.ofInt 206).toInt32 + ((Int32.ofInt 2) * l2)).toNatClampNeg) &&& 31)) &&& (Int32.ofInt 1)) = (h.2.1 203 (((Int16.ofInt 206).toInt32 + ((Int32.ofInt 2) * l2)) + (Int32.ofInt 1)).toNatClampNeg))) → Q (some (.int (Int32.ofInt 0))) h) : PW b L xs d 250 0 0 2 [.ref 193, .int l1, .int l2] [] h Q := by
  refine pw_l (pc := 2) d250_2 rfl rfl rfl ?_
  refine pw_l (pc := 3) d250_3 rfl rfl rfl ?_
  refine pw_gr (pc := 4) d250_4 (k250_39 b) (sh_at hI.1 s193) f10_20 hI.r20 ?_
  refine pw_s (pc := 7) d250_7 rfl rfl ?_
  refine pw_ai (pc := 10) d250_10 (sh_at hI.1 s203) (by unfold vp_in; decide) ?_
  refine pw_ige (pc := 11) (t := 60) d250_11 (by decide) (fun c1 => ?_) (fun c1 => ?_)
  · refine pw_s (pc := 60) d250_60 rfl rfl ?_
    refine pw_ri (pc := 61) d250_61 t250 rfl ?_
    exact r0 c1
  · refine pw_l (pc := 14) d250_14 rfl rfl rfl ?_
    refine pw_gr (pc := 15) d250_15 (k250_51 b) (sh_at hI.1 s193) f10_26 hI.r26 ?_
    refine pw_l (pc := 18) d250_18 rfl rfl rfl ?_
    refine pw_ai (pc := 19) d250_19 (sh_at hI.1 s207) (b0 c1) ?_
    refine pw_l (pc := 20) d250_20 rfl rfl rfl ?_
    refine pw_gr (pc := 21) d250_21 (k250_39 b) (sh_at hI.1 s193) f10_20 hI.r20 ?_
    refine pw_s (pc := 24) d250_24 rfl rfl ?_
    refine pw_s (pc := 27) d250_27 rfl rfl ?_
    refine pw_l (pc := 28) d250_28 rfl rfl rfl ?_
    refine pw_s (pc := 29) d250_29 rfl rfl ?_
    refine pw_s (pc := 30) d250_30 rfl rfl ?_
    refine pw_ai (pc := 31) d250_31 (sh_at hI.1 s203) (b1 c1) ?_
    refine pw_s (pc := 32) d250_32 rfl rfl ?_
    refine pw_s (pc := 33) d250_33 rfl rfl ?_
    refine pw_s (pc := 34) d250_34 rfl rfl ?_
    refine pw_l (pc := 35) d250_35 rfl rfl rfl ?_
    refine pw_gr (pc := 36) d250_36 (k250_39 b) (sh_at hI.1 s193) f10_20 hI.r20 ?_
    refine pw_s (pc := 39) d250_39 rfl rfl ?_
    refine pw_s (pc := 42) d250_42 rfl rfl ?_
    refine pw_l (pc := 43) d250_43 rfl rfl rfl ?_
    refine pw_s (pc := 44) d250_44 rfl rfl ?_
    refine pw_s (pc := 45) d250_45 rfl rfl ?_
    refine pw_s (pc := 46) d250_46 rfl rfl ?_
    refine pw_s (pc := 47) d250_47 rfl rfl ?_
    refine pw_ai (pc := 48) d250_48 (sh_at hI.1 s203) (b2 c1) ?_
    refine pw_ieq (pc := 49) (t := 54) d250_49 (by decide) (fun c2 => ?_) (fun c2 => ?_)
    · refine pw_t (pc := 54) d250_54 rfl rfl rfl rfl ?_
      refine pw_go (pc := 57) (t := 2) d250_57 (by decide) ?_
      exact k0 c1 c2
    · refine pw_s (pc := 52) d250_52 rfl rfl ?_
      refine pw_ri (pc := 53) d250_53 t250 rfl ?_
      exact r1 c1 c2
theorem l_image_0 (b : Bool) (L : Nat) (xs : Nat → Int32) (d : Nat) (hd : 1 ≤ d) (h : pm_H) (hI : IM h) (a0 : Int32) {Q : Option Value → pm_H → Prop} (b0 : (¬ (v_in a0.toInt64 (Int64.ofNat 0) (3 : Int64) h) = 0) → vp_in a0 4) (k0 : (¬ (v_in a0.toInt64 (Int64.ofNat 0) (3 : Int64) h) = 0) → PW b L xs d 257 0 0 33 [.ref 193, .int a0, .int (Int32.ofInt 0)] [] (pm_setI (pm_setI h 213 a0.toNatClampNeg (vp_nar .boolean (Int32.ofInt 1))) 212 a0.toNatClampNeg ((pm_setI h 213 a0.toNatClampNeg (vp_nar .boolean (Int32.ofInt 1))).2.1 193 21)) Q) (r0 : (¬ (¬ (v_in a0.toInt64 (Int64.ofNat 0) (3 : Int64) h) = 0)) → Q (some (.int (Int32.ofInt (-1)))) h) : PW b L xs d 257 0 0 0 [.ref 193, .int a0, .retAddr 0] [] h Q := by
  refine pw_l (pc := 0) d257_0 rfl rfl rfl ?_
  refine pw_s (pc := 1) d257_1 rfl rfl ?_
  refine pw_s (pc := 2) d257_2 rfl rfl ?_
  refine pw_cl (pc := 3) d257_3 (k257_440 b) ?_
  refine pw_u (pc := 6) (by omega) d257_6 (k257_112 b) (by decide) m148 (Nat.le_of_ble_eq_true rfl) (Nat.le_of_ble_eq_true rfl) (Nat.le_of_ble_eq_true rfl) rfl rfl (c_in b L xs (d - 1) (by omega) h hI a0.toInt64 (Int64.ofNat 0) (3 : Int64) ) (fun v h2 hq => ?_)
  obtain ⟨rfl, hq2⟩ := hq
  rw [hq2]
  simp only [Option.toList_some, List.cons_append, List.nil_append]
  refine pw_zne (pc := 9) (t := 14) d257_9 (by decide) (fun c1 => ?_) (fun c1 => ?_)
  · refine pw_l (pc := 14) d257_14 rfl rfl rfl ?_
    refine pw_gr (pc := 15) d257_15 (k257_69 b) (sh_at hI.1 s193) f10_34 hI.r34 ?_
    refine pw_l (pc := 18) d257_18 rfl rfl rfl ?_
    refine pw_s (pc := 19) d257_19 rfl rfl ?_
    refine pw_sb (pc := 20) d257_20 (sh_at hI.1 s213) (by decide) (b0 c1) ?_
    refine pw_l (pc := 21) d257_21 rfl rfl rfl ?_
    refine pw_gr (pc := 22) d257_22 (k257_66 b) (sh_at hI.1 s193) f10_33 hI.r33 ?_
    refine pw_l (pc := 25) d257_25 rfl rfl rfl ?_
    refine pw_l (pc := 26) d257_26 rfl rfl rfl ?_
    refine pw_gi (pc := 27) d257_27 (k257_416 b) (sh_at hI.1 s193) f10_21 ?_
    refine pw_si (pc := 30) d257_30 (sh_at hI.1 s212) (b0 c1) ?_
    refine pw_s (pc := 31) d257_31 rfl rfl ?_
    refine pw_t (pc := 32) d257_32 rfl rfl rfl rfl ?_
    exact k0 c1
  · refine pw_s (pc := 12) d257_12 rfl rfl ?_
    refine pw_ri (pc := 13) d257_13 t257 rfl ?_
    exact r0 c1
theorem l_image_33 (b : Bool) (L : Nat) (xs : Nat → Int32) (d : Nat) (hd : 0 ≤ d) (h : pm_H) (hI : IM h) (l1 : Int32) (l2 : Int32) {Q : Option Value → pm_H → Prop} (b0 : (¬ ((Int16.ofInt 227).toInt32 ≤ l2)) → vp_in l2 227) (b1 : (¬ ((Int16.ofInt 227).toInt32 ≤ l2)) → vp_in (((Int16.ofInt 227).toInt32 * l1) + l2) 908) (k0 : (¬ ((Int16.ofInt 227).toInt32 ≤ l2)) → PW b L xs d 257 0 0 33 [.ref 193, .int l1, .int (l2 + Int32.ofInt 1)] [] (pm_setI h 211 (((Int16.ofInt 227).toInt32 * l1) + l2).toNatClampNeg (h.2.1 203 l2.toNatClampNeg)) Q) (r0 : ((Int16.ofInt 227).toInt32 ≤ l2) → Q (some (.int (h.2.1 203 (Int32.ofInt 4).toNatClampNeg))) h) : PW b L xs d 257 0 0 33 [.ref 193, .int l1, .int l2] [] h Q := by
  refine pw_l (pc := 33) d257_33 rfl rfl rfl ?_
  refine pw_s (pc := 34) d257_34 rfl rfl ?_
  refine pw_ige (pc := 37) (t := 64) d257_37 (by decide) (fun c1 => ?_) (fun c1 => ?_)
  · refine pw_l (pc := 64) d257_64 rfl rfl rfl ?_
    refine pw_gr (pc := 65) d257_65 (k257_39 b) (sh_at hI.1 s193) f10_20 hI.r20 ?_
    refine pw_s (pc := 68) d257_68 rfl rfl ?_
    refine pw_ai (pc := 69) d257_69 (sh_at hI.1 s203) (by unfold vp_in; decide) ?_
    refine pw_ri (pc := 70) d257_70 t257 rfl ?_
    exact r0 c1
  · refine pw_l (pc := 40) d257_40 rfl rfl rfl ?_
    refine pw_gr (pc := 41) d257_41 (k257_63 b) (sh_at hI.1 s193) f10_32 hI.r32 ?_
    refine pw_s (pc := 44) d257_44 rfl rfl ?_
    refine pw_l (pc := 47) d257_47 rfl rfl rfl ?_
    refine pw_s (pc := 48) d257_48 rfl rfl ?_
    refine pw_l (pc := 49) d257_49 rfl rfl rfl ?_
    refine pw_s (pc := 50) d257_50 rfl rfl ?_
    refine pw_l (pc := 51) d257_51 rfl rfl rfl ?_
    refine pw_gr (pc := 52) d257_52 (k257_39 b) (sh_at hI.1 s193) f10_20 hI.r20 ?_
    refine pw_l (pc := 55) d257_55 rfl rfl rfl ?_
    refine pw_ai (pc := 56) d257_56 (sh_at hI.1 s203) (b0 c1) ?_
    refine pw_si (pc := 57) d257_57 (sh_at hI.1 s211) (b1 c1) ?_
    refine pw_t (pc := 58) d257_58 rfl rfl rfl rfl ?_
    refine pw_go (pc := 61) (t := 33) d257_61 (by decide) ?_
    exact k0 c1
theorem l_back_0 (b : Bool) (L : Nat) (xs : Nat → Int32) (d : Nat) (hd : 1 ≤ d) (h : pm_H) (hI : IM h) (a0 : Int32) {Q : Option Value → pm_H → Prop} (b0 : (¬ ((v_in a0.toInt64 (Int64.ofNat 0) (3 : Int64) h) = 0)) → vp_in a0 4) (b1 : (¬ ((v_in a0.toInt64 (Int64.ofNat 0) (3 : Int64) h) = 0)) → (¬ (h.2.1 213 a0.toNatClampNeg) = 0) → vp_in a0 4) (k0 : (¬ ((v_in a0.toInt64 (Int64.ofNat 0) (3 : Int64) h) = 0)) → (¬ (h.2.1 213 a0.toNatClampNeg) = 0) → PW b L xs d 258 0 0 40 [.ref 193, .int a0, .int (Int32.ofInt 0)] [] (pm_setI (pm_setI h 193 21 (h.2.1 212 a0.toNatClampNeg)) 193 28 (Int32.ofInt 0)) Q) (r0 : ((v_in a0.toInt64 (Int64.ofNat 0) (3 : Int64) h) = 0) → Q (some (.int (Int32.ofInt (-1)))) h) (r1 : (¬ ((v_in a0.toInt64 (Int64.ofNat 0) (3 : Int64) h) = 0)) → (¬ (¬ (h.2.1 213 a0.toNatClampNeg) = 0)) → Q (some (.int (Int32.ofInt (-1)))) h) : PW b L xs d 258 0 0 0 [.ref 193, .int a0, .retAddr 0] [] h Q := by
  refine pw_l (pc := 0) d258_0 rfl rfl rfl ?_
  refine pw_s (pc := 1) d258_1 rfl rfl ?_
  refine pw_s (pc := 2) d258_2 rfl rfl ?_
  refine pw_cl (pc := 3) d258_3 (k258_440 b) ?_
  refine pw_u (pc := 6) (by omega) d258_6 (k258_112 b) (by decide) m148 (Nat.le_of_ble_eq_true rfl) (Nat.le_of_ble_eq_true rfl) (Nat.le_of_ble_eq_true rfl) rfl rfl (c_in b L xs (d - 1) (by omega) h hI a0.toInt64 (Int64.ofNat 0) (3 : Int64) ) (fun v h2 hq => ?_)
  obtain ⟨rfl, hq2⟩ := hq
  rw [hq2]
  simp only [Option.toList_some, List.cons_append, List.nil_append]
  refine pw_zeq (pc := 9) (t := 21) d258_9 (by decide) (fun c1 => ?_) (fun c1 => ?_)
  · refine pw_s (pc := 21) d258_21 rfl rfl ?_
    refine pw_ri (pc := 22) d258_22 t258 rfl ?_
    exact r0 c1
  · refine pw_l (pc := 12) d258_12 rfl rfl rfl ?_
    refine pw_gr (pc := 13) d258_13 (k258_69 b) (sh_at hI.1 s193) f10_34 hI.r34 ?_
    refine pw_l (pc := 16) d258_16 rfl rfl rfl ?_
    refine pw_ab (pc := 17) d258_17 (sh_at hI.1 s213) (by decide) (b0 c1) ?_
    refine pw_zne (pc := 18) (t := 23) d258_18 (by decide) (fun c2 => ?_) (fun c2 => ?_)
    · refine pw_l (pc := 23) d258_23 rfl rfl rfl ?_
      refine pw_l (pc := 24) d258_24 rfl rfl rfl ?_
      refine pw_gr (pc := 25) d258_25 (k258_66 b) (sh_at hI.1 s193) f10_33 hI.r33 ?_
      refine pw_l (pc := 28) d258_28 rfl rfl rfl ?_
      refine pw_ai (pc := 29) d258_29 (sh_at hI.1 s212) (b1 c1 c2) ?_
      refine pw_pi (pc := 30) d258_30 (k258_416 b) (sh_at hI.1 s193) p258_10_21 ?_
      refine pw_l (pc := 33) d258_33 rfl rfl rfl ?_
      refine pw_s (pc := 34) d258_34 rfl rfl ?_
      refine pw_pi (pc := 35) d258_35 (k258_252 b) (sh_at hI.1 s193) p258_10_28 ?_
      refine pw_s (pc := 38) d258_38 rfl rfl ?_
      refine pw_t (pc := 39) d258_39 rfl rfl rfl rfl ?_
      exact k0 c1 c2
    · refine pw_s (pc := 21) d258_21 rfl rfl ?_
      refine pw_ri (pc := 22) d258_22 t258 rfl ?_
      exact r1 c1 c2
theorem l_back_40 (b : Bool) (L : Nat) (xs : Nat → Int32) (d : Nat) (hd : 0 ≤ d) (h : pm_H) (hI : IM h) (l1 : Int32) (l2 : Int32) {Q : Option Value → pm_H → Prop} (b0 : (¬ ((Int16.ofInt 227).toInt32 ≤ l2)) → vp_in (((Int16.ofInt 227).toInt32 * l1) + l2) 908) (b1 : (¬ ((Int16.ofInt 227).toInt32 ≤ l2)) → vp_in l2 227) (k0 : (¬ ((Int16.ofInt 227).toInt32 ≤ l2)) → PW b L xs d 258 0 0 40 [.ref 193, .int l1, .int (l2 + Int32.ofInt 1)] [] (pm_setI h 203 l2.toNatClampNeg (h.2.1 211 (((Int16.ofInt 227).toInt32 * l1) + l2).toNatClampNeg)) Q) (r0 : ((Int16.ofInt 227).toInt32 ≤ l2) → Q (some (.int (h.2.1 203 (Int32.ofInt 4).toNatClampNeg))) h) : PW b L xs d 258 0 0 40 [.ref 193, .int l1, .int l2] [] h Q := by
  refine pw_l (pc := 40) d258_40 rfl rfl rfl ?_
  refine pw_s (pc := 41) d258_41 rfl rfl ?_
  refine pw_ige (pc := 44) (t := 71) d258_44 (by decide) (fun c1 => ?_) (fun c1 => ?_)
  · refine pw_l (pc := 71) d258_71 rfl rfl rfl ?_
    refine pw_gr (pc := 72) d258_72 (k258_39 b) (sh_at hI.1 s193) f10_20 hI.r20 ?_
    refine pw_s (pc := 75) d258_75 rfl rfl ?_
    refine pw_ai (pc := 76) d258_76 (sh_at hI.1 s203) (by unfold vp_in; decide) ?_
    refine pw_ri (pc := 77) d258_77 t258 rfl ?_
    exact r0 c1
  · refine pw_l (pc := 47) d258_47 rfl rfl rfl ?_
    refine pw_gr (pc := 48) d258_48 (k258_39 b) (sh_at hI.1 s193) f10_20 hI.r20 ?_
    refine pw_l (pc := 51) d258_51 rfl rfl rfl ?_
    refine pw_l (pc := 52) d258_52 rfl rfl rfl ?_
    refine pw_gr (pc := 53) d258_53 (k258_63 b) (sh_at hI.1 s193) f10_32 hI.r32 ?_
    refine pw_s (pc := 56) d258_56 rfl rfl ?_
    refine pw_l (pc := 59) d258_59 rfl rfl rfl ?_
    refine pw_s (pc := 60) d258_60 rfl rfl ?_
    refine pw_l (pc := 61) d258_61 rfl rfl rfl ?_
    refine pw_s (pc := 62) d258_62 rfl rfl ?_
    refine pw_ai (pc := 63) d258_63 (sh_at hI.1 s211) (b0 c1) ?_
    refine pw_si (pc := 64) d258_64 (sh_at hI.1 s203) (b1 c1) ?_
    refine pw_t (pc := 65) d258_65 rfl rfl rfl rfl ?_
    refine pw_go (pc := 68) (t := 40) d258_68 (by decide) ?_
    exact k0 c1
