/-! Mirrors, written by wip/mir.py. -/
theorem d43_0 : decode (tb_me 43).1.2.1 0 = .ok (.aload_n 0, 1) := by decide +kernel
theorem d43_1 : decode (tb_me 43).1.2.1 1 = .ok (.getfield 12, 3) := by decide +kernel
theorem k43_12 (b : Bool) : tb_lk b 43 12 = (1, 1, 0, 0, 0) := by cases b <;> decide +kernel
theorem f1_0 : (0 < pm_nf tb_cl 1) ∧ tb_ft 1 0 ≠ .long ∧ pm_isR (tb_ft 1 0) = true := by decide +kernel
theorem d43_4 : decode (tb_me 43).1.2.1 4 = .ok (.aload_n 1, 1) := by decide +kernel
theorem d43_5 : decode (tb_me 43).1.2.1 5 = .ok (.invokevirtual 85, 3) := by decide +kernel
theorem k43_85 (b : Bool) : tb_lk b 43 85 = (2, 68, 0, 0, 0) := by cases b <;> decide +kernel
theorem m68 : (tb_me 68).2 = ((0, 0), (1, 2)) ∧ (tb_me 68).1.2.2.1 = 5 := by decide +kernel
theorem d43_8 : decode (tb_me 43).1.2.1 8 = .ok (.return_, 1) := by decide +kernel
theorem t43 : (tb_me 43).1.2.2.2 = none := by decide +kernel
theorem e43 : (tb_me 43).2.1 = (0, 0) ∧ (tb_me 43).1.2.2.1 = 2 := by decide +kernel
theorem d44_0 : decode (tb_me 44).1.2.1 0 = .ok (.aload_n 0, 1) := by decide +kernel
theorem d44_1 : decode (tb_me 44).1.2.1 1 = .ok (.getfield 12, 3) := by decide +kernel
theorem k44_12 (b : Bool) : tb_lk b 44 12 = (1, 1, 0, 0, 0) := by cases b <;> decide +kernel
theorem d44_4 : decode (tb_me 44).1.2.1 4 = .ok (.aload_n 2, 1) := by decide +kernel
theorem d44_5 : decode (tb_me 44).1.2.1 5 = .ok (.getfield 89, 3) := by decide +kernel
theorem k44_89 (b : Bool) : tb_lk b 44 89 = (1, 3, 4, 0, 0) := by cases b <;> decide +kernel
theorem d44_8 : decode (tb_me 44).1.2.1 8 = .ok (.aload_n 2, 1) := by decide +kernel
theorem d44_9 : decode (tb_me 44).1.2.1 9 = .ok (.aload_n 1, 1) := by decide +kernel
theorem d44_10 : decode (tb_me 44).1.2.1 10 = .ok (.invokevirtual 92, 3) := by decide +kernel
theorem k44_92 (b : Bool) : tb_lk b 44 92 = (2, 81, 0, 0, 0) := by cases b <;> decide +kernel
theorem m81 : (tb_me 81).2 = ((0, 0), (1, 3)) ∧ (tb_me 81).1.2.2.1 = 3 := by decide +kernel
theorem d44_13 : decode (tb_me 44).1.2.1 13 = .ok (.invokevirtual 96, 3) := by decide +kernel
theorem k44_96 (b : Bool) : tb_lk b 44 96 = (2, 69, 0, 0, 0) := by cases b <;> decide +kernel
theorem m69 : (tb_me 69).2 = ((0, 0), (2, 2)) ∧ (tb_me 69).1.2.2.1 = 3 := by decide +kernel
theorem d44_16 : decode (tb_me 44).1.2.1 16 = .ok (.ireturn, 1) := by decide +kernel
theorem t44 : (tb_me 44).1.2.2.2 = some .int := by decide +kernel
theorem e44 : (tb_me 44).2.1 = (0, 0) ∧ (tb_me 44).1.2.2.1 = 3 := by decide +kernel
theorem d47_3 : decode (tb_me 47).1.2.1 3 = .ok (.iload 4, 2) := by decide +kernel
theorem d47_5 : decode (tb_me 47).1.2.1 5 = .ok (.aload_n 0, 1) := by decide +kernel
theorem d47_6 : decode (tb_me 47).1.2.1 6 = .ok (.getfield 140, 3) := by decide +kernel
theorem k47_140 (b : Bool) : tb_lk b 47 140 = (1, 7, 1, 0, 0) := by cases b <;> decide +kernel
theorem d47_9 : decode (tb_me 47).1.2.1 9 = .ok (.if_icmp .ge 32, 3) := by decide +kernel
theorem d47_12 : decode (tb_me 47).1.2.1 12 = .ok (.iload_n 1, 1) := by decide +kernel
theorem d47_13 : decode (tb_me 47).1.2.1 13 = .ok (.iload 4, 2) := by decide +kernel
theorem d47_15 : decode (tb_me 47).1.2.1 15 = .ok (.invokestatic 104, 3) := by decide +kernel
theorem k47_104 (b : Bool) : tb_lk b 47 104 = (5, 34, 0, 0, 0) := by cases b <;> decide +kernel
theorem d47_18 : decode (tb_me 47).1.2.1 18 = .ok (.iconst 1, 1) := by decide +kernel
theorem d47_19 : decode (tb_me 47).1.2.1 19 = .ok (.if_icmp .ne 16, 3) := by decide +kernel
theorem d47_35 : decode (tb_me 47).1.2.1 35 = .ok (.iinc 4 1, 3) := by decide +kernel
theorem d47_38 : decode (tb_me 47).1.2.1 38 = .ok (.goto (-35), 3) := by decide +kernel
theorem d47_22 : decode (tb_me 47).1.2.1 22 = .ok (.aload_n 0, 1) := by decide +kernel
theorem d47_23 : decode (tb_me 47).1.2.1 23 = .ok (.iload 4, 2) := by decide +kernel
theorem d47_25 : decode (tb_me 47).1.2.1 25 = .ok (.invokevirtual 145, 3) := by decide +kernel
theorem k47_145 (b : Bool) : tb_lk b 47 145 = (2, 115, 0, 0, 0) := by cases b <;> decide +kernel
theorem d47_28 : decode (tb_me 47).1.2.1 28 = .ok (.iload_n 3, 1) := by decide +kernel
theorem d47_29 : decode (tb_me 47).1.2.1 29 = .ok (.if_icmp .ne 6, 3) := by decide +kernel
theorem d47_0 : decode (tb_me 47).1.2.1 0 = .ok (.iconst 0, 1) := by decide +kernel
theorem d47_1 : decode (tb_me 47).1.2.1 1 = .ok (.istore 4, 2) := by decide +kernel
theorem d47_32 : decode (tb_me 47).1.2.1 32 = .ok (.iload 4, 2) := by decide +kernel
theorem d47_34 : decode (tb_me 47).1.2.1 34 = .ok (.ireturn, 1) := by decide +kernel
theorem t47 : (tb_me 47).1.2.2.2 = some .int := by decide +kernel
theorem d47_41 : decode (tb_me 47).1.2.1 41 = .ok (.iload_n 1, 1) := by decide +kernel
theorem d47_42 : decode (tb_me 47).1.2.1 42 = .ok (.bipush 8, 2) := by decide +kernel
theorem d47_44 : decode (tb_me 47).1.2.1 44 = .ok (.invokestatic 104, 3) := by decide +kernel
theorem d47_47 : decode (tb_me 47).1.2.1 47 = .ok (.iconst 1, 1) := by decide +kernel
theorem d47_48 : decode (tb_me 47).1.2.1 48 = .ok (.if_icmp .ne 13, 3) := by decide +kernel
theorem d47_61 : decode (tb_me 47).1.2.1 61 = .ok (.iconst (-1), 1) := by decide +kernel
theorem d47_62 : decode (tb_me 47).1.2.1 62 = .ok (.ireturn, 1) := by decide +kernel
theorem d47_51 : decode (tb_me 47).1.2.1 51 = .ok (.iload_n 2, 1) := by decide +kernel
theorem d47_52 : decode (tb_me 47).1.2.1 52 = .ok (.iload_n 3, 1) := by decide +kernel
theorem d47_53 : decode (tb_me 47).1.2.1 53 = .ok (.if_icmp .ne 8, 3) := by decide +kernel
theorem d47_56 : decode (tb_me 47).1.2.1 56 = .ok (.bipush 8, 2) := by decide +kernel
theorem d47_58 : decode (tb_me 47).1.2.1 58 = .ok (.goto 4, 3) := by decide +kernel
theorem e47 : (tb_me 47).2.1 = (0, 0) ∧ (tb_me 47).1.2.2.1 = 5 := by decide +kernel
theorem d48_50 : decode (tb_me 48).1.2.1 50 = .ok (.iload_n 1, 1) := by decide +kernel
theorem d48_51 : decode (tb_me 48).1.2.1 51 = .ok (.aload_n 0, 1) := by decide +kernel
theorem d48_52 : decode (tb_me 48).1.2.1 52 = .ok (.getfield 29, 3) := by decide +kernel
theorem k48_29 (b : Bool) : tb_lk b 48 29 = (1, 1, 3, 0, 0) := by cases b <;> decide +kernel
theorem f1_3 : (3 < pm_nf tb_cl 1) ∧ tb_ft 1 3 ≠ .long ∧ pm_isR (tb_ft 1 3) = false := by decide +kernel
theorem d48_55 : decode (tb_me 48).1.2.1 55 = .ok (.if_icmp .ge 54, 3) := by decide +kernel
theorem d48_58 : decode (tb_me 48).1.2.1 58 = .ok (.iload_n 1, 1) := by decide +kernel
theorem d48_59 : decode (tb_me 48).1.2.1 59 = .ok (.aload_n 0, 1) := by decide +kernel
theorem d48_60 : decode (tb_me 48).1.2.1 60 = .ok (.getfield 33, 3) := by decide +kernel
theorem k48_33 (b : Bool) : tb_lk b 48 33 = (1, 1, 4, 0, 0) := by cases b <;> decide +kernel
theorem f1_4 : (4 < pm_nf tb_cl 1) ∧ tb_ft 1 4 ≠ .long ∧ pm_isR (tb_ft 1 4) = true := by decide +kernel
theorem d48_63 : decode (tb_me 48).1.2.1 63 = .ok (.arraylength, 1) := by decide +kernel
theorem d48_64 : decode (tb_me 48).1.2.1 64 = .ok (.if_icmp .ge 45, 3) := by decide +kernel
theorem d48_67 : decode (tb_me 48).1.2.1 67 = .ok (.aload_n 0, 1) := by decide +kernel
theorem d48_68 : decode (tb_me 48).1.2.1 68 = .ok (.getfield 33, 3) := by decide +kernel
theorem d48_71 : decode (tb_me 48).1.2.1 71 = .ok (.iload_n 1, 1) := by decide +kernel
theorem d48_72 : decode (tb_me 48).1.2.1 72 = .ok (.iaload, 1) := by decide +kernel
theorem d48_73 : decode (tb_me 48).1.2.1 73 = .ok (.aload_n 0, 1) := by decide +kernel
theorem d48_74 : decode (tb_me 48).1.2.1 74 = .ok (.getfield 25, 3) := by decide +kernel
theorem k48_25 (b : Bool) : tb_lk b 48 25 = (1, 1, 2, 0, 0) := by cases b <;> decide +kernel
theorem f1_2 : (2 < pm_nf tb_cl 1) ∧ tb_ft 1 2 ≠ .long ∧ pm_isR (tb_ft 1 2) = true := by decide +kernel
theorem d48_77 : decode (tb_me 48).1.2.1 77 = .ok (.iload_n 1, 1) := by decide +kernel
theorem d48_78 : decode (tb_me 48).1.2.1 78 = .ok (.iaload, 1) := by decide +kernel
theorem d48_79 : decode (tb_me 48).1.2.1 79 = .ok (.if_icmp .eq 24, 3) := by decide +kernel
theorem d48_103 : decode (tb_me 48).1.2.1 103 = .ok (.iinc 1 1, 3) := by decide +kernel
theorem d48_106 : decode (tb_me 48).1.2.1 106 = .ok (.goto (-56), 3) := by decide +kernel
theorem d48_42 : decode (tb_me 48).1.2.1 42 = .ok (.iconst 1, 1) := by decide +kernel
theorem d48_43 : decode (tb_me 48).1.2.1 43 = .ok (.goto 4, 3) := by decide +kernel
theorem d48_47 : decode (tb_me 48).1.2.1 47 = .ok (.ireturn, 1) := by decide +kernel
theorem t48 : (tb_me 48).1.2.2.2 = some .boolean := by decide +kernel
theorem d48_21 : decode (tb_me 48).1.2.1 21 = .ok (.aload_n 0, 1) := by decide +kernel
theorem d48_22 : decode (tb_me 48).1.2.1 22 = .ok (.getfield 29, 3) := by decide +kernel
theorem d48_25 : decode (tb_me 48).1.2.1 25 = .ok (.ifCond .eq 17, 3) := by decide +kernel
theorem d48_28 : decode (tb_me 48).1.2.1 28 = .ok (.aload_n 0, 1) := by decide +kernel
theorem d48_29 : decode (tb_me 48).1.2.1 29 = .ok (.getfield 21, 3) := by decide +kernel
theorem k48_21 (b : Bool) : tb_lk b 48 21 = (1, 1, 1, 0, 0) := by cases b <;> decide +kernel
theorem f1_1 : (1 < pm_nf tb_cl 1) ∧ tb_ft 1 1 ≠ .long ∧ pm_isR (tb_ft 1 1) = true := by decide +kernel
theorem d48_32 : decode (tb_me 48).1.2.1 32 = .ok (.getfield 116, 3) := by decide +kernel
theorem k48_116 (b : Bool) : tb_lk b 48 116 = (1, 5, 6, 0, 0) := by cases b <;> decide +kernel
theorem d48_35 : decode (tb_me 48).1.2.1 35 = .ok (.aload_n 0, 1) := by decide +kernel
theorem d48_36 : decode (tb_me 48).1.2.1 36 = .ok (.getfield 29, 3) := by decide +kernel
theorem d48_39 : decode (tb_me 48).1.2.1 39 = .ok (.if_icmp .ge 7, 3) := by decide +kernel
theorem d48_46 : decode (tb_me 48).1.2.1 46 = .ok (.iconst 0, 1) := by decide +kernel
theorem d48_0 : decode (tb_me 48).1.2.1 0 = .ok (.aload_n 0, 1) := by decide +kernel
theorem d48_1 : decode (tb_me 48).1.2.1 1 = .ok (.getfield 29, 3) := by decide +kernel
theorem d48_4 : decode (tb_me 48).1.2.1 4 = .ok (.ifCond .eq 17, 3) := by decide +kernel
theorem d48_7 : decode (tb_me 48).1.2.1 7 = .ok (.aload_n 0, 1) := by decide +kernel
theorem d48_8 : decode (tb_me 48).1.2.1 8 = .ok (.getfield 21, 3) := by decide +kernel
theorem d48_11 : decode (tb_me 48).1.2.1 11 = .ok (.getfield 116, 3) := by decide +kernel
theorem d48_14 : decode (tb_me 48).1.2.1 14 = .ok (.aload_n 0, 1) := by decide +kernel
theorem d48_15 : decode (tb_me 48).1.2.1 15 = .ok (.getfield 29, 3) := by decide +kernel
theorem d48_18 : decode (tb_me 48).1.2.1 18 = .ok (.if_icmp .eq 30, 3) := by decide +kernel
theorem d48_48 : decode (tb_me 48).1.2.1 48 = .ok (.iconst 0, 1) := by decide +kernel
theorem d48_49 : decode (tb_me 48).1.2.1 49 = .ok (.istore_n 1, 1) := by decide +kernel
theorem d48_82 : decode (tb_me 48).1.2.1 82 = .ok (.aload_n 0, 1) := by decide +kernel
theorem d48_83 : decode (tb_me 48).1.2.1 83 = .ok (.getfield 33, 3) := by decide +kernel
theorem d48_86 : decode (tb_me 48).1.2.1 86 = .ok (.iload_n 1, 1) := by decide +kernel
theorem d48_87 : decode (tb_me 48).1.2.1 87 = .ok (.iaload, 1) := by decide +kernel
theorem d48_88 : decode (tb_me 48).1.2.1 88 = .ok (.aload_n 0, 1) := by decide +kernel
theorem d48_89 : decode (tb_me 48).1.2.1 89 = .ok (.getfield 25, 3) := by decide +kernel
theorem d48_92 : decode (tb_me 48).1.2.1 92 = .ok (.iload_n 1, 1) := by decide +kernel
theorem d48_93 : decode (tb_me 48).1.2.1 93 = .ok (.iaload, 1) := by decide +kernel
theorem d48_94 : decode (tb_me 48).1.2.1 94 = .ok (.if_icmp .ge 7, 3) := by decide +kernel
theorem d48_101 : decode (tb_me 48).1.2.1 101 = .ok (.iconst 0, 1) := by decide +kernel
theorem d48_102 : decode (tb_me 48).1.2.1 102 = .ok (.ireturn, 1) := by decide +kernel
theorem d48_97 : decode (tb_me 48).1.2.1 97 = .ok (.iconst 1, 1) := by decide +kernel
theorem d48_98 : decode (tb_me 48).1.2.1 98 = .ok (.goto 4, 3) := by decide +kernel
theorem d48_109 : decode (tb_me 48).1.2.1 109 = .ok (.iconst 0, 1) := by decide +kernel
theorem d48_110 : decode (tb_me 48).1.2.1 110 = .ok (.ireturn, 1) := by decide +kernel
theorem e48 : (tb_me 48).2.1 = (0, 0) ∧ (tb_me 48).1.2.2.1 = 2 := by decide +kernel
theorem d49_67 : decode (tb_me 49).1.2.1 67 = .ok (.istore 8, 2) := by decide +kernel
theorem d49_69 : decode (tb_me 49).1.2.1 69 = .ok (.iload 8, 2) := by decide +kernel
theorem d49_71 : decode (tb_me 49).1.2.1 71 = .ok (.ifCond .eq 27, 3) := by decide +kernel
theorem d49_98 : decode (tb_me 49).1.2.1 98 = .ok (.iinc 6 1, 3) := by decide +kernel
theorem d49_101 : decode (tb_me 49).1.2.1 101 = .ok (.goto (-87), 3) := by decide +kernel
theorem d49_74 : decode (tb_me 49).1.2.1 74 = .ok (.iload_n 3, 1) := by decide +kernel
theorem d49_75 : decode (tb_me 49).1.2.1 75 = .ok (.aload_n 0, 1) := by decide +kernel
theorem d49_76 : decode (tb_me 49).1.2.1 76 = .ok (.getfield 12, 3) := by decide +kernel
theorem k49_12 (b : Bool) : tb_lk b 49 12 = (1, 1, 0, 0, 0) := by cases b <;> decide +kernel
theorem d49_79 : decode (tb_me 49).1.2.1 79 = .ok (.aload_n 2, 1) := by decide +kernel
theorem d49_80 : decode (tb_me 49).1.2.1 80 = .ok (.getfield 89, 3) := by decide +kernel
theorem k49_89 (b : Bool) : tb_lk b 49 89 = (1, 3, 4, 0, 0) := by cases b <;> decide +kernel
theorem d49_83 : decode (tb_me 49).1.2.1 83 = .ok (.iload 6, 2) := by decide +kernel
theorem d49_85 : decode (tb_me 49).1.2.1 85 = .ok (.invokevirtual 96, 3) := by decide +kernel
theorem k49_96 (b : Bool) : tb_lk b 49 96 = (2, 69, 0, 0, 0) := by cases b <;> decide +kernel
theorem d49_88 : decode (tb_me 49).1.2.1 88 = .ok (.iconst (-1), 1) := by decide +kernel
theorem d49_89 : decode (tb_me 49).1.2.1 89 = .ok (.ixor, 1) := by decide +kernel
theorem d49_90 : decode (tb_me 49).1.2.1 90 = .ok (.iand, 1) := by decide +kernel
theorem d49_91 : decode (tb_me 49).1.2.1 91 = .ok (.ifCond .ne 7, 3) := by decide +kernel
theorem d49_94 : decode (tb_me 49).1.2.1 94 = .ok (.iload 6, 2) := by decide +kernel
theorem d49_96 : decode (tb_me 49).1.2.1 96 = .ok (.istore 5, 2) := by decide +kernel
theorem d49_45 : decode (tb_me 49).1.2.1 45 = .ok (.istore 7, 2) := by decide +kernel
theorem d49_47 : decode (tb_me 49).1.2.1 47 = .ok (.iload 7, 2) := by decide +kernel
theorem d49_49 : decode (tb_me 49).1.2.1 49 = .ok (.ifCond .eq 17, 3) := by decide +kernel
theorem d49_66 : decode (tb_me 49).1.2.1 66 = .ok (.iconst 0, 1) := by decide +kernel
theorem d49_52 : decode (tb_me 49).1.2.1 52 = .ok (.iload 6, 2) := by decide +kernel
theorem d49_54 : decode (tb_me 49).1.2.1 54 = .ok (.iload 4, 2) := by decide +kernel
theorem d49_56 : decode (tb_me 49).1.2.1 56 = .ok (.iconst (-1), 1) := by decide +kernel
theorem d49_57 : decode (tb_me 49).1.2.1 57 = .ok (.ixor, 1) := by decide +kernel
theorem d49_58 : decode (tb_me 49).1.2.1 58 = .ok (.iand, 1) := by decide +kernel
theorem d49_59 : decode (tb_me 49).1.2.1 59 = .ok (.ifCond .ne 7, 3) := by decide +kernel
theorem d49_62 : decode (tb_me 49).1.2.1 62 = .ok (.iconst 1, 1) := by decide +kernel
theorem d49_63 : decode (tb_me 49).1.2.1 63 = .ok (.goto 4, 3) := by decide +kernel
theorem d49_40 : decode (tb_me 49).1.2.1 40 = .ok (.iconst 1, 1) := by decide +kernel
theorem d49_41 : decode (tb_me 49).1.2.1 41 = .ok (.goto 4, 3) := by decide +kernel
theorem d49_14 : decode (tb_me 49).1.2.1 14 = .ok (.iload 6, 2) := by decide +kernel
theorem d49_16 : decode (tb_me 49).1.2.1 16 = .ok (.sipush 256, 3) := by decide +kernel
theorem d49_19 : decode (tb_me 49).1.2.1 19 = .ok (.if_icmp .ge 85, 3) := by decide +kernel
theorem d49_22 : decode (tb_me 49).1.2.1 22 = .ok (.iload 5, 2) := by decide +kernel
theorem d49_24 : decode (tb_me 49).1.2.1 24 = .ok (.ifCond .lt 16, 3) := by decide +kernel
theorem d49_27 : decode (tb_me 49).1.2.1 27 = .ok (.iload 6, 2) := by decide +kernel
theorem d49_29 : decode (tb_me 49).1.2.1 29 = .ok (.invokestatic 151, 3) := by decide +kernel
theorem k49_151 (b : Bool) : tb_lk b 49 151 = (4, 259, 0, 0, 0) := by cases b <;> decide +kernel
theorem d49_32 : decode (tb_me 49).1.2.1 32 = .ok (.iload 5, 2) := by decide +kernel
theorem d49_34 : decode (tb_me 49).1.2.1 34 = .ok (.invokestatic 151, 3) := by decide +kernel
theorem d49_37 : decode (tb_me 49).1.2.1 37 = .ok (.if_icmp .ge 7, 3) := by decide +kernel
theorem d49_44 : decode (tb_me 49).1.2.1 44 = .ok (.iconst 0, 1) := by decide +kernel
theorem d49_0 : decode (tb_me 49).1.2.1 0 = .ok (.aload_n 2, 1) := by decide +kernel
theorem d49_1 : decode (tb_me 49).1.2.1 1 = .ok (.aload_n 1, 1) := by decide +kernel
theorem d49_2 : decode (tb_me 49).1.2.1 2 = .ok (.invokevirtual 148, 3) := by decide +kernel
theorem k49_148 (b : Bool) : tb_lk b 49 148 = (2, 80, 0, 0, 0) := by cases b <;> decide +kernel
theorem d49_5 : decode (tb_me 49).1.2.1 5 = .ok (.istore 4, 2) := by decide +kernel
theorem d49_7 : decode (tb_me 49).1.2.1 7 = .ok (.bipush (-2), 2) := by decide +kernel
theorem d49_9 : decode (tb_me 49).1.2.1 9 = .ok (.istore 5, 2) := by decide +kernel
theorem d49_11 : decode (tb_me 49).1.2.1 11 = .ok (.iconst 0, 1) := by decide +kernel
theorem d49_12 : decode (tb_me 49).1.2.1 12 = .ok (.istore 6, 2) := by decide +kernel
theorem d49_104 : decode (tb_me 49).1.2.1 104 = .ok (.iload 5, 2) := by decide +kernel
theorem d49_106 : decode (tb_me 49).1.2.1 106 = .ok (.ireturn, 1) := by decide +kernel
theorem t49 : (tb_me 49).1.2.2.2 = some .int := by decide +kernel
theorem e49 : (tb_me 49).2.1 = (0, 0) ∧ (tb_me 49).1.2.2.1 = 9 := by decide +kernel
theorem d50_70 : decode (tb_me 50).1.2.1 70 = .ok (.iload 7, 2) := by decide +kernel
theorem d50_72 : decode (tb_me 50).1.2.1 72 = .ok (.sipush 256, 3) := by decide +kernel
theorem d50_75 : decode (tb_me 50).1.2.1 75 = .ok (.if_icmp .ge 68, 3) := by decide +kernel
theorem d50_78 : decode (tb_me 50).1.2.1 78 = .ok (.iload 7, 2) := by decide +kernel
theorem d50_80 : decode (tb_me 50).1.2.1 80 = .ok (.iload 5, 2) := by decide +kernel
theorem d50_82 : decode (tb_me 50).1.2.1 82 = .ok (.iconst (-1), 1) := by decide +kernel
theorem d50_83 : decode (tb_me 50).1.2.1 83 = .ok (.ixor, 1) := by decide +kernel
theorem d50_84 : decode (tb_me 50).1.2.1 84 = .ok (.iand, 1) := by decide +kernel
theorem d50_85 : decode (tb_me 50).1.2.1 85 = .ok (.ifCond .ne 52, 3) := by decide +kernel
theorem d50_137 : decode (tb_me 50).1.2.1 137 = .ok (.iinc 7 1, 3) := by decide +kernel
theorem d50_140 : decode (tb_me 50).1.2.1 140 = .ok (.goto (-70), 3) := by decide +kernel
theorem d50_88 : decode (tb_me 50).1.2.1 88 = .ok (.iload 7, 2) := by decide +kernel
theorem d50_90 : decode (tb_me 50).1.2.1 90 = .ok (.iload 6, 2) := by decide +kernel
theorem d50_92 : decode (tb_me 50).1.2.1 92 = .ok (.iand, 1) := by decide +kernel
theorem d50_93 : decode (tb_me 50).1.2.1 93 = .ok (.ifCond .eq 44, 3) := by decide +kernel
theorem d50_96 : decode (tb_me 50).1.2.1 96 = .ok (.aload_n 0, 1) := by decide +kernel
theorem d50_97 : decode (tb_me 50).1.2.1 97 = .ok (.getfield 12, 3) := by decide +kernel
theorem k50_12 (b : Bool) : tb_lk b 50 12 = (1, 1, 0, 0, 0) := by cases b <;> decide +kernel
theorem d50_100 : decode (tb_me 50).1.2.1 100 = .ok (.iconst (-1), 1) := by decide +kernel
theorem d50_101 : decode (tb_me 50).1.2.1 101 = .ok (.iload 7, 2) := by decide +kernel
theorem d50_103 : decode (tb_me 50).1.2.1 103 = .ok (.invokevirtual 96, 3) := by decide +kernel
theorem k50_96 (b : Bool) : tb_lk b 50 96 = (2, 69, 0, 0, 0) := by cases b <;> decide +kernel
theorem d50_106 : decode (tb_me 50).1.2.1 106 = .ok (.aload_n 0, 1) := by decide +kernel
theorem d50_107 : decode (tb_me 50).1.2.1 107 = .ok (.getfield 12, 3) := by decide +kernel
theorem d50_110 : decode (tb_me 50).1.2.1 110 = .ok (.iconst (-1), 1) := by decide +kernel
theorem d50_111 : decode (tb_me 50).1.2.1 111 = .ok (.iload 5, 2) := by decide +kernel
theorem d50_113 : decode (tb_me 50).1.2.1 113 = .ok (.iload 7, 2) := by decide +kernel
theorem d50_115 : decode (tb_me 50).1.2.1 115 = .ok (.iconst (-1), 1) := by decide +kernel
theorem d50_116 : decode (tb_me 50).1.2.1 116 = .ok (.ixor, 1) := by decide +kernel
theorem d50_117 : decode (tb_me 50).1.2.1 117 = .ok (.iand, 1) := by decide +kernel
theorem d50_118 : decode (tb_me 50).1.2.1 118 = .ok (.invokevirtual 96, 3) := by decide +kernel
theorem d50_121 : decode (tb_me 50).1.2.1 121 = .ok (.iand, 1) := by decide +kernel
theorem d50_122 : decode (tb_me 50).1.2.1 122 = .ok (.istore 8, 2) := by decide +kernel
theorem d50_124 : decode (tb_me 50).1.2.1 124 = .ok (.iload 4, 2) := by decide +kernel
theorem d50_126 : decode (tb_me 50).1.2.1 126 = .ok (.iload 8, 2) := by decide +kernel
theorem d50_128 : decode (tb_me 50).1.2.1 128 = .ok (.iconst (-1), 1) := by decide +kernel
theorem d50_129 : decode (tb_me 50).1.2.1 129 = .ok (.ixor, 1) := by decide +kernel
theorem d50_130 : decode (tb_me 50).1.2.1 130 = .ok (.iand, 1) := by decide +kernel
theorem d50_131 : decode (tb_me 50).1.2.1 131 = .ok (.ifCond .ne 6, 3) := by decide +kernel
theorem d50_52 : decode (tb_me 50).1.2.1 52 = .ok (.aload_n 2, 1) := by decide +kernel
theorem d50_53 : decode (tb_me 50).1.2.1 53 = .ok (.aload_n 1, 1) := by decide +kernel
theorem d50_54 : decode (tb_me 50).1.2.1 54 = .ok (.invokevirtual 161, 3) := by decide +kernel
theorem k50_161 (b : Bool) : tb_lk b 50 161 = (2, 79, 0, 0, 0) := by cases b <;> decide +kernel
theorem d50_57 : decode (tb_me 50).1.2.1 57 = .ok (.istore 5, 2) := by decide +kernel
theorem d50_59 : decode (tb_me 50).1.2.1 59 = .ok (.iload 5, 2) := by decide +kernel
theorem d50_61 : decode (tb_me 50).1.2.1 61 = .ok (.iload 5, 2) := by decide +kernel
theorem d50_63 : decode (tb_me 50).1.2.1 63 = .ok (.ineg, 1) := by decide +kernel
theorem d50_64 : decode (tb_me 50).1.2.1 64 = .ok (.iand, 1) := by decide +kernel
theorem d50_65 : decode (tb_me 50).1.2.1 65 = .ok (.istore 6, 2) := by decide +kernel
theorem d50_67 : decode (tb_me 50).1.2.1 67 = .ok (.iconst 0, 1) := by decide +kernel
theorem d50_68 : decode (tb_me 50).1.2.1 68 = .ok (.istore 7, 2) := by decide +kernel
theorem d50_134 : decode (tb_me 50).1.2.1 134 = .ok (.iload 7, 2) := by decide +kernel
theorem d50_136 : decode (tb_me 50).1.2.1 136 = .ok (.ireturn, 1) := by decide +kernel
theorem t50 : (tb_me 50).1.2.2.2 = some .int := by decide +kernel
theorem d50_143 : decode (tb_me 50).1.2.1 143 = .ok (.bipush (-2), 2) := by decide +kernel
theorem d50_145 : decode (tb_me 50).1.2.1 145 = .ok (.ireturn, 1) := by decide +kernel
theorem d50_43 : decode (tb_me 50).1.2.1 43 = .ok (.ior, 1) := by decide +kernel
theorem d50_44 : decode (tb_me 50).1.2.1 44 = .ok (.istore 4, 2) := by decide +kernel
theorem d50_46 : decode (tb_me 50).1.2.1 46 = .ok (.iinc 5 1, 3) := by decide +kernel
theorem d50_49 : decode (tb_me 50).1.2.1 49 = .ok (.goto (-43), 3) := by decide +kernel
theorem d50_6 : decode (tb_me 50).1.2.1 6 = .ok (.iload 5, 2) := by decide +kernel
theorem d50_8 : decode (tb_me 50).1.2.1 8 = .ok (.aload_n 1, 1) := by decide +kernel
theorem d50_9 : decode (tb_me 50).1.2.1 9 = .ok (.getfield 156, 3) := by decide +kernel
theorem k50_156 (b : Bool) : tb_lk b 50 156 = (1, 7, 2, 0, 0) := by cases b <;> decide +kernel
theorem d50_12 : decode (tb_me 50).1.2.1 12 = .ok (.if_icmp .ge 40, 3) := by decide +kernel
theorem d50_15 : decode (tb_me 50).1.2.1 15 = .ok (.iload 5, 2) := by decide +kernel
theorem d50_17 : decode (tb_me 50).1.2.1 17 = .ok (.bipush 8, 2) := by decide +kernel
theorem d50_19 : decode (tb_me 50).1.2.1 19 = .ok (.if_icmp .ge 33, 3) := by decide +kernel
theorem d50_22 : decode (tb_me 50).1.2.1 22 = .ok (.iload 4, 2) := by decide +kernel
theorem d50_24 : decode (tb_me 50).1.2.1 24 = .ok (.aload_n 1, 1) := by decide +kernel
theorem d50_25 : decode (tb_me 50).1.2.1 25 = .ok (.getfield 158, 3) := by decide +kernel
theorem k50_158 (b : Bool) : tb_lk b 50 158 = (1, 7, 6, 0, 0) := by cases b <;> decide +kernel
theorem d50_28 : decode (tb_me 50).1.2.1 28 = .ok (.iload 5, 2) := by decide +kernel
theorem d50_30 : decode (tb_me 50).1.2.1 30 = .ok (.iaload, 1) := by decide +kernel
theorem d50_31 : decode (tb_me 50).1.2.1 31 = .ok (.iload_n 3, 1) := by decide +kernel
theorem d50_32 : decode (tb_me 50).1.2.1 32 = .ok (.if_icmp .lt 10, 3) := by decide +kernel
theorem d50_42 : decode (tb_me 50).1.2.1 42 = .ok (.iconst 0, 1) := by decide +kernel
theorem d50_35 : decode (tb_me 50).1.2.1 35 = .ok (.iconst 1, 1) := by decide +kernel
theorem d50_36 : decode (tb_me 50).1.2.1 36 = .ok (.iload 5, 2) := by decide +kernel
theorem d50_38 : decode (tb_me 50).1.2.1 38 = .ok (.ishl, 1) := by decide +kernel
theorem d50_39 : decode (tb_me 50).1.2.1 39 = .ok (.goto 4, 3) := by decide +kernel
theorem d50_0 : decode (tb_me 50).1.2.1 0 = .ok (.iconst 0, 1) := by decide +kernel
theorem d50_1 : decode (tb_me 50).1.2.1 1 = .ok (.istore 4, 2) := by decide +kernel
theorem d50_3 : decode (tb_me 50).1.2.1 3 = .ok (.iconst 0, 1) := by decide +kernel
theorem d50_4 : decode (tb_me 50).1.2.1 4 = .ok (.istore 5, 2) := by decide +kernel
theorem e50 : (tb_me 50).2.1 = (0, 0) ∧ (tb_me 50).1.2.2.1 = 9 := by decide +kernel
theorem d52_4 : decode (tb_me 52).1.2.1 4 = .ok (.iload_n 3, 1) := by decide +kernel
theorem d52_5 : decode (tb_me 52).1.2.1 5 = .ok (.aload_n 0, 1) := by decide +kernel
theorem d52_6 : decode (tb_me 52).1.2.1 6 = .ok (.getfield 156, 3) := by decide +kernel
theorem k52_156 (b : Bool) : tb_lk b 52 156 = (1, 7, 2, 0, 0) := by cases b <;> decide +kernel
theorem d52_9 : decode (tb_me 52).1.2.1 9 = .ok (.if_icmp .ge 30, 3) := by decide +kernel
theorem d52_12 : decode (tb_me 52).1.2.1 12 = .ok (.iload_n 3, 1) := by decide +kernel
theorem d52_13 : decode (tb_me 52).1.2.1 13 = .ok (.bipush 8, 2) := by decide +kernel
theorem d52_15 : decode (tb_me 52).1.2.1 15 = .ok (.if_icmp .ge 24, 3) := by decide +kernel
theorem d52_18 : decode (tb_me 52).1.2.1 18 = .ok (.iload_n 2, 1) := by decide +kernel
theorem d52_19 : decode (tb_me 52).1.2.1 19 = .ok (.iload_n 1, 1) := by decide +kernel
theorem d52_20 : decode (tb_me 52).1.2.1 20 = .ok (.iload_n 3, 1) := by decide +kernel
theorem d52_21 : decode (tb_me 52).1.2.1 21 = .ok (.invokestatic 104, 3) := by decide +kernel
theorem k52_104 (b : Bool) : tb_lk b 52 104 = (5, 34, 0, 0, 0) := by cases b <;> decide +kernel
theorem d52_24 : decode (tb_me 52).1.2.1 24 = .ok (.aload_n 0, 1) := by decide +kernel
theorem d52_25 : decode (tb_me 52).1.2.1 25 = .ok (.getfield 158, 3) := by decide +kernel
theorem k52_158 (b : Bool) : tb_lk b 52 158 = (1, 7, 6, 0, 0) := by cases b <;> decide +kernel
theorem d52_28 : decode (tb_me 52).1.2.1 28 = .ok (.iload_n 3, 1) := by decide +kernel
theorem d52_29 : decode (tb_me 52).1.2.1 29 = .ok (.iaload, 1) := by decide +kernel
theorem d52_30 : decode (tb_me 52).1.2.1 30 = .ok (.imul, 1) := by decide +kernel
theorem d52_31 : decode (tb_me 52).1.2.1 31 = .ok (.iadd, 1) := by decide +kernel
theorem d52_32 : decode (tb_me 52).1.2.1 32 = .ok (.istore_n 2, 1) := by decide +kernel
theorem d52_33 : decode (tb_me 52).1.2.1 33 = .ok (.iinc 3 1, 3) := by decide +kernel
theorem d52_36 : decode (tb_me 52).1.2.1 36 = .ok (.goto (-32), 3) := by decide +kernel
theorem d52_0 : decode (tb_me 52).1.2.1 0 = .ok (.iconst 0, 1) := by decide +kernel
theorem d52_1 : decode (tb_me 52).1.2.1 1 = .ok (.istore_n 2, 1) := by decide +kernel
theorem d52_2 : decode (tb_me 52).1.2.1 2 = .ok (.iconst 0, 1) := by decide +kernel
theorem d52_3 : decode (tb_me 52).1.2.1 3 = .ok (.istore_n 3, 1) := by decide +kernel
theorem d52_39 : decode (tb_me 52).1.2.1 39 = .ok (.iload_n 2, 1) := by decide +kernel
theorem d52_40 : decode (tb_me 52).1.2.1 40 = .ok (.ireturn, 1) := by decide +kernel
theorem t52 : (tb_me 52).1.2.2.2 = some .int := by decide +kernel
theorem e52 : (tb_me 52).2.1 = (0, 0) ∧ (tb_me 52).1.2.2.1 = 4 := by decide +kernel
theorem d55_0 : decode (tb_me 55).1.2.1 0 = .ok (.iload_n 1, 1) := by decide +kernel
theorem d55_1 : decode (tb_me 55).1.2.1 1 = .ok (.ifCond .lt 22, 3) := by decide +kernel
theorem d55_23 : decode (tb_me 55).1.2.1 23 = .ok (.return_, 1) := by decide +kernel
theorem t55 : (tb_me 55).1.2.2.2 = none := by decide +kernel
theorem d55_4 : decode (tb_me 55).1.2.1 4 = .ok (.iload_n 1, 1) := by decide +kernel
theorem d55_5 : decode (tb_me 55).1.2.1 5 = .ok (.aload_n 0, 1) := by decide +kernel
theorem d55_6 : decode (tb_me 55).1.2.1 6 = .ok (.getfield 45, 3) := by decide +kernel
theorem k55_45 (b : Bool) : tb_lk b 55 45 = (1, 1, 8, 0, 0) := by cases b <;> decide +kernel
theorem f1_8 : (8 < pm_nf tb_cl 1) ∧ tb_ft 1 8 ≠ .long ∧ pm_isR (tb_ft 1 8) = true := by decide +kernel
theorem d55_9 : decode (tb_me 55).1.2.1 9 = .ok (.arraylength, 1) := by decide +kernel
theorem d55_10 : decode (tb_me 55).1.2.1 10 = .ok (.if_icmp .ge 13, 3) := by decide +kernel
theorem d55_13 : decode (tb_me 55).1.2.1 13 = .ok (.aload_n 0, 1) := by decide +kernel
theorem d55_14 : decode (tb_me 55).1.2.1 14 = .ok (.getfield 45, 3) := by decide +kernel
theorem d55_17 : decode (tb_me 55).1.2.1 17 = .ok (.iload_n 1, 1) := by decide +kernel
theorem d55_18 : decode (tb_me 55).1.2.1 18 = .ok (.dup2, 1) := by decide +kernel
theorem d55_19 : decode (tb_me 55).1.2.1 19 = .ok (.iaload, 1) := by decide +kernel
theorem d55_20 : decode (tb_me 55).1.2.1 20 = .ok (.iload_n 2, 1) := by decide +kernel
theorem d55_21 : decode (tb_me 55).1.2.1 21 = .ok (.iadd, 1) := by decide +kernel
theorem d55_22 : decode (tb_me 55).1.2.1 22 = .ok (.iastore, 1) := by decide +kernel
theorem e55 : (tb_me 55).2.1 = (0, 0) ∧ (tb_me 55).1.2.2.1 = 3 := by decide +kernel
theorem d56_178 : decode (tb_me 56).1.2.1 178 = .ok (.aload_n 0, 1) := by decide +kernel
theorem d56_179 : decode (tb_me 56).1.2.1 179 = .ok (.iload_n 1, 1) := by decide +kernel
theorem d56_180 : decode (tb_me 56).1.2.1 180 = .ok (.putfield 36, 3) := by decide +kernel
theorem k56_36 (b : Bool) : tb_lk b 56 36 = (1, 1, 5, 0, 0) := by cases b <;> decide +kernel
theorem p56_1_5 : (5 < pm_nf tb_cl 1) ∧ tb_ft 1 5 = .int ∧ pm_fin tb_cl (tb_me 56).1.1 1 5 = true := by decide +kernel
theorem d56_183 : decode (tb_me 56).1.2.1 183 = .ok (.aload_n 0, 1) := by decide +kernel
theorem d56_184 : decode (tb_me 56).1.2.1 184 = .ok (.iload_n 2, 1) := by decide +kernel
theorem d56_185 : decode (tb_me 56).1.2.1 185 = .ok (.putfield 39, 3) := by decide +kernel
theorem k56_39 (b : Bool) : tb_lk b 56 39 = (1, 1, 6, 0, 0) := by cases b <;> decide +kernel
theorem p56_1_6 : (6 < pm_nf tb_cl 1) ∧ tb_ft 1 6 = .int ∧ pm_fin tb_cl (tb_me 56).1.1 1 6 = true := by decide +kernel
theorem d56_188 : decode (tb_me 56).1.2.1 188 = .ok (.aload_n 0, 1) := by decide +kernel
theorem d56_189 : decode (tb_me 56).1.2.1 189 = .ok (.iload_n 3, 1) := by decide +kernel
theorem d56_190 : decode (tb_me 56).1.2.1 190 = .ok (.putfield 42, 3) := by decide +kernel
theorem k56_42 (b : Bool) : tb_lk b 56 42 = (1, 1, 7, 0, 0) := by cases b <;> decide +kernel
theorem p56_1_7 : (7 < pm_nf tb_cl 1) ∧ tb_ft 1 7 = .int ∧ pm_fin tb_cl (tb_me 56).1.1 1 7 = true := by decide +kernel
theorem d56_193 : decode (tb_me 56).1.2.1 193 = .ok (.return_, 1) := by decide +kernel
theorem t56 : (tb_me 56).1.2.2.2 = none := by decide +kernel
theorem d56_158 : decode (tb_me 56).1.2.1 158 = .ok (.istore 5, 2) := by decide +kernel
theorem d56_160 : decode (tb_me 56).1.2.1 160 = .ok (.iload_n 1, 1) := by decide +kernel
theorem d56_161 : decode (tb_me 56).1.2.1 161 = .ok (.aload_n 0, 1) := by decide +kernel
theorem d56_162 : decode (tb_me 56).1.2.1 162 = .ok (.getfield 36, 3) := by decide +kernel
theorem f1_5 : (5 < pm_nf tb_cl 1) ∧ tb_ft 1 5 ≠ .long ∧ pm_isR (tb_ft 1 5) = false := by decide +kernel
theorem d56_165 : decode (tb_me 56).1.2.1 165 = .ok (.if_icmp .lt 13, 3) := by decide +kernel
theorem d56_168 : decode (tb_me 56).1.2.1 168 = .ok (.iload 4, 2) := by decide +kernel
theorem d56_170 : decode (tb_me 56).1.2.1 170 = .ok (.ifCond .eq 23, 3) := by decide +kernel
theorem d56_173 : decode (tb_me 56).1.2.1 173 = .ok (.iload 5, 2) := by decide +kernel
theorem d56_175 : decode (tb_me 56).1.2.1 175 = .ok (.ifCond .eq 18, 3) := by decide +kernel
theorem d56_153 : decode (tb_me 56).1.2.1 153 = .ok (.iconst 1, 1) := by decide +kernel
theorem d56_154 : decode (tb_me 56).1.2.1 154 = .ok (.goto 4, 3) := by decide +kernel
theorem d56_127 : decode (tb_me 56).1.2.1 127 = .ok (.istore 4, 2) := by decide +kernel
theorem d56_129 : decode (tb_me 56).1.2.1 129 = .ok (.iload_n 2, 1) := by decide +kernel
theorem d56_130 : decode (tb_me 56).1.2.1 130 = .ok (.aload_n 0, 1) := by decide +kernel
theorem d56_131 : decode (tb_me 56).1.2.1 131 = .ok (.getfield 39, 3) := by decide +kernel
theorem f1_6 : (6 < pm_nf tb_cl 1) ∧ tb_ft 1 6 ≠ .long ∧ pm_isR (tb_ft 1 6) = false := by decide +kernel
theorem d56_134 : decode (tb_me 56).1.2.1 134 = .ok (.if_icmp .lt 19, 3) := by decide +kernel
theorem d56_137 : decode (tb_me 56).1.2.1 137 = .ok (.iload_n 2, 1) := by decide +kernel
theorem d56_138 : decode (tb_me 56).1.2.1 138 = .ok (.aload_n 0, 1) := by decide +kernel
theorem d56_139 : decode (tb_me 56).1.2.1 139 = .ok (.getfield 39, 3) := by decide +kernel
theorem d56_142 : decode (tb_me 56).1.2.1 142 = .ok (.if_icmp .ne 15, 3) := by decide +kernel
theorem d56_157 : decode (tb_me 56).1.2.1 157 = .ok (.iconst 0, 1) := by decide +kernel
theorem d56_145 : decode (tb_me 56).1.2.1 145 = .ok (.iload_n 3, 1) := by decide +kernel
theorem d56_146 : decode (tb_me 56).1.2.1 146 = .ok (.aload_n 0, 1) := by decide +kernel
theorem d56_147 : decode (tb_me 56).1.2.1 147 = .ok (.getfield 42, 3) := by decide +kernel
theorem f1_7 : (7 < pm_nf tb_cl 1) ∧ tb_ft 1 7 ≠ .long ∧ pm_isR (tb_ft 1 7) = false := by decide +kernel
theorem d56_150 : decode (tb_me 56).1.2.1 150 = .ok (.if_icmp .ge 7, 3) := by decide +kernel
theorem d56_102 : decode (tb_me 56).1.2.1 102 = .ok (.istore_n 2, 1) := by decide +kernel
theorem d56_103 : decode (tb_me 56).1.2.1 103 = .ok (.iinc 4 1, 3) := by decide +kernel
theorem d56_106 : decode (tb_me 56).1.2.1 106 = .ok (.goto (-95), 3) := by decide +kernel
theorem d56_85 : decode (tb_me 56).1.2.1 85 = .ok (.istore_n 3, 1) := by decide +kernel
theorem d56_86 : decode (tb_me 56).1.2.1 86 = .ok (.iload_n 1, 1) := by decide +kernel
theorem d56_87 : decode (tb_me 56).1.2.1 87 = .ok (.iconst 1, 1) := by decide +kernel
theorem d56_88 : decode (tb_me 56).1.2.1 88 = .ok (.if_icmp .ne 8, 3) := by decide +kernel
theorem d56_96 : decode (tb_me 56).1.2.1 96 = .ok (.iload_n 2, 1) := by decide +kernel
theorem d56_97 : decode (tb_me 56).1.2.1 97 = .ok (.iload 5, 2) := by decide +kernel
theorem d56_99 : decode (tb_me 56).1.2.1 99 = .ok (.invokestatic 193, 3) := by decide +kernel
theorem k56_193 (b : Bool) : tb_lk b 56 193 = (17, 0, 0, 0, 0) := by cases b <;> decide +kernel
theorem d56_91 : decode (tb_me 56).1.2.1 91 = .ok (.iload 5, 2) := by decide +kernel
theorem d56_93 : decode (tb_me 56).1.2.1 93 = .ok (.goto 9, 3) := by decide +kernel
theorem d56_11 : decode (tb_me 56).1.2.1 11 = .ok (.iload 4, 2) := by decide +kernel
theorem d56_13 : decode (tb_me 56).1.2.1 13 = .ok (.aload_n 0, 1) := by decide +kernel
theorem d56_14 : decode (tb_me 56).1.2.1 14 = .ok (.getfield 21, 3) := by decide +kernel
theorem k56_21 (b : Bool) : tb_lk b 56 21 = (1, 1, 1, 0, 0) := by cases b <;> decide +kernel
theorem d56_17 : decode (tb_me 56).1.2.1 17 = .ok (.getfield 116, 3) := by decide +kernel
theorem k56_116 (b : Bool) : tb_lk b 56 116 = (1, 5, 6, 0, 0) := by cases b <;> decide +kernel
theorem d56_20 : decode (tb_me 56).1.2.1 20 = .ok (.if_icmp .ge 89, 3) := by decide +kernel
theorem d56_23 : decode (tb_me 56).1.2.1 23 = .ok (.aload_n 0, 1) := by decide +kernel
theorem d56_24 : decode (tb_me 56).1.2.1 24 = .ok (.getfield 21, 3) := by decide +kernel
theorem d56_27 : decode (tb_me 56).1.2.1 27 = .ok (.iload 4, 2) := by decide +kernel
theorem d56_29 : decode (tb_me 56).1.2.1 29 = .ok (.invokevirtual 132, 3) := by decide +kernel
theorem k56_132 (b : Bool) : tb_lk b 56 132 = (2, 88, 0, 0, 0) := by cases b <;> decide +kernel
theorem d56_32 : decode (tb_me 56).1.2.1 32 = .ok (.istore 5, 2) := by decide +kernel
theorem d56_34 : decode (tb_me 56).1.2.1 34 = .ok (.aload_n 0, 1) := by decide +kernel
theorem d56_35 : decode (tb_me 56).1.2.1 35 = .ok (.iload 5, 2) := by decide +kernel
theorem d56_37 : decode (tb_me 56).1.2.1 37 = .ok (.iconst (-1), 1) := by decide +kernel
theorem d56_38 : decode (tb_me 56).1.2.1 38 = .ok (.invokevirtual 181, 3) := by decide +kernel
theorem k56_181 (b : Bool) : tb_lk b 56 181 = (2, 55, 0, 0, 0) := by cases b <;> decide +kernel
theorem m55 : (tb_me 55).2 = ((0, 0), (2, 1)) ∧ (tb_me 55).1.2.2.1 = 3 := by decide +kernel
theorem d56_41 : decode (tb_me 56).1.2.1 41 = .ok (.iload 5, 2) := by decide +kernel
theorem d56_43 : decode (tb_me 56).1.2.1 43 = .ok (.ifCond .lt 60, 3) := by decide +kernel
theorem d56_46 : decode (tb_me 56).1.2.1 46 = .ok (.iload 5, 2) := by decide +kernel
theorem d56_48 : decode (tb_me 56).1.2.1 48 = .ok (.aload_n 0, 1) := by decide +kernel
theorem d56_49 : decode (tb_me 56).1.2.1 49 = .ok (.getfield 45, 3) := by decide +kernel
theorem k56_45 (b : Bool) : tb_lk b 56 45 = (1, 1, 8, 0, 0) := by cases b <;> decide +kernel
theorem d56_52 : decode (tb_me 56).1.2.1 52 = .ok (.arraylength, 1) := by decide +kernel
theorem d56_53 : decode (tb_me 56).1.2.1 53 = .ok (.if_icmp .ge 50, 3) := by decide +kernel
theorem d56_56 : decode (tb_me 56).1.2.1 56 = .ok (.aload_n 0, 1) := by decide +kernel
theorem d56_57 : decode (tb_me 56).1.2.1 57 = .ok (.getfield 45, 3) := by decide +kernel
theorem d56_60 : decode (tb_me 56).1.2.1 60 = .ok (.iload 5, 2) := by decide +kernel
theorem d56_62 : decode (tb_me 56).1.2.1 62 = .ok (.iaload, 1) := by decide +kernel
theorem d56_63 : decode (tb_me 56).1.2.1 63 = .ok (.ifCond .ge 40, 3) := by decide +kernel
theorem d56_66 : decode (tb_me 56).1.2.1 66 = .ok (.iinc 1 1, 3) := by decide +kernel
theorem d56_69 : decode (tb_me 56).1.2.1 69 = .ok (.iload_n 1, 1) := by decide +kernel
theorem d56_70 : decode (tb_me 56).1.2.1 70 = .ok (.iconst 1, 1) := by decide +kernel
theorem d56_71 : decode (tb_me 56).1.2.1 71 = .ok (.if_icmp .ne 8, 3) := by decide +kernel
theorem d56_79 : decode (tb_me 56).1.2.1 79 = .ok (.iload_n 2, 1) := by decide +kernel
theorem d56_80 : decode (tb_me 56).1.2.1 80 = .ok (.iload 5, 2) := by decide +kernel
theorem d56_82 : decode (tb_me 56).1.2.1 82 = .ok (.invokestatic 188, 3) := by decide +kernel
theorem k56_188 (b : Bool) : tb_lk b 56 188 = (16, 0, 0, 0, 0) := by cases b <;> decide +kernel
theorem d56_74 : decode (tb_me 56).1.2.1 74 = .ok (.bipush (-2), 2) := by decide +kernel
theorem d56_76 : decode (tb_me 56).1.2.1 76 = .ok (.goto 9, 3) := by decide +kernel
theorem d56_0 : decode (tb_me 56).1.2.1 0 = .ok (.iconst 0, 1) := by decide +kernel
theorem d56_1 : decode (tb_me 56).1.2.1 1 = .ok (.istore_n 1, 1) := by decide +kernel
theorem d56_2 : decode (tb_me 56).1.2.1 2 = .ok (.bipush (-2), 2) := by decide +kernel
theorem d56_4 : decode (tb_me 56).1.2.1 4 = .ok (.istore_n 2, 1) := by decide +kernel
theorem d56_5 : decode (tb_me 56).1.2.1 5 = .ok (.bipush (-2), 2) := by decide +kernel
theorem d56_7 : decode (tb_me 56).1.2.1 7 = .ok (.istore_n 3, 1) := by decide +kernel
theorem d56_8 : decode (tb_me 56).1.2.1 8 = .ok (.iconst 0, 1) := by decide +kernel
theorem d56_9 : decode (tb_me 56).1.2.1 9 = .ok (.istore 4, 2) := by decide +kernel
theorem d56_109 : decode (tb_me 56).1.2.1 109 = .ok (.iload_n 1, 1) := by decide +kernel
theorem d56_110 : decode (tb_me 56).1.2.1 110 = .ok (.aload_n 0, 1) := by decide +kernel
theorem d56_111 : decode (tb_me 56).1.2.1 111 = .ok (.getfield 36, 3) := by decide +kernel
theorem d56_114 : decode (tb_me 56).1.2.1 114 = .ok (.if_icmp .ne 12, 3) := by decide +kernel
theorem d56_126 : decode (tb_me 56).1.2.1 126 = .ok (.iconst 0, 1) := by decide +kernel
theorem d56_117 : decode (tb_me 56).1.2.1 117 = .ok (.iload_n 1, 1) := by decide +kernel
theorem d56_118 : decode (tb_me 56).1.2.1 118 = .ok (.iconst 2, 1) := by decide +kernel
theorem d56_119 : decode (tb_me 56).1.2.1 119 = .ok (.if_icmp .gt 7, 3) := by decide +kernel
theorem d56_122 : decode (tb_me 56).1.2.1 122 = .ok (.iconst 1, 1) := by decide +kernel
theorem d56_123 : decode (tb_me 56).1.2.1 123 = .ok (.goto 4, 3) := by decide +kernel
theorem e56 : (tb_me 56).2.1 = (0, 0) ∧ (tb_me 56).1.2.2.1 = 6 := by decide +kernel
theorem d57_0 : decode (tb_me 57).1.2.1 0 = .ok (.iload_n 1, 1) := by decide +kernel
theorem d57_1 : decode (tb_me 57).1.2.1 1 = .ok (.ifCond .ne 10, 3) := by decide +kernel
theorem d57_11 : decode (tb_me 57).1.2.1 11 = .ok (.aload_n 0, 1) := by decide +kernel
theorem d57_12 : decode (tb_me 57).1.2.1 12 = .ok (.getfield 42, 3) := by decide +kernel
theorem k57_42 (b : Bool) : tb_lk b 57 42 = (1, 1, 7, 0, 0) := by cases b <;> decide +kernel
theorem d57_15 : decode (tb_me 57).1.2.1 15 = .ok (.ireturn, 1) := by decide +kernel
theorem t57 : (tb_me 57).1.2.2.2 = some .int := by decide +kernel
theorem d57_4 : decode (tb_me 57).1.2.1 4 = .ok (.aload_n 0, 1) := by decide +kernel
theorem d57_5 : decode (tb_me 57).1.2.1 5 = .ok (.getfield 39, 3) := by decide +kernel
theorem k57_39 (b : Bool) : tb_lk b 57 39 = (1, 1, 6, 0, 0) := by cases b <;> decide +kernel
theorem d57_8 : decode (tb_me 57).1.2.1 8 = .ok (.goto 7, 3) := by decide +kernel
theorem e57 : (tb_me 57).2.1 = (0, 0) ∧ (tb_me 57).1.2.2.1 = 2 := by decide +kernel
theorem d59_118 : decode (tb_me 59).1.2.1 118 = .ok (.istore 11, 2) := by decide +kernel
theorem d59_120 : decode (tb_me 59).1.2.1 120 = .ok (.aload_n 0, 1) := by decide +kernel
theorem d59_121 : decode (tb_me 59).1.2.1 121 = .ok (.getfield 54, 3) := by decide +kernel
theorem k59_54 (b : Bool) : tb_lk b 59 54 = (1, 1, 11, 0, 0) := by cases b <;> decide +kernel
theorem f1_11 : (11 < pm_nf tb_cl 1) ∧ tb_ft 1 11 ≠ .long ∧ pm_isR (tb_ft 1 11) = true := by decide +kernel
theorem d59_124 : decode (tb_me 59).1.2.1 124 = .ok (.iload 10, 2) := by decide +kernel
theorem d59_126 : decode (tb_me 59).1.2.1 126 = .ok (.iload 5, 2) := by decide +kernel
theorem d59_128 : decode (tb_me 59).1.2.1 128 = .ok (.isub, 1) := by decide +kernel
theorem d59_129 : decode (tb_me 59).1.2.1 129 = .ok (.iaload, 1) := by decide +kernel
theorem d59_130 : decode (tb_me 59).1.2.1 130 = .ok (.aload_n 0, 1) := by decide +kernel
theorem d59_131 : decode (tb_me 59).1.2.1 131 = .ok (.getfield 54, 3) := by decide +kernel
theorem d59_134 : decode (tb_me 59).1.2.1 134 = .ok (.iload 10, 2) := by decide +kernel
theorem d59_136 : decode (tb_me 59).1.2.1 136 = .ok (.iconst 1, 1) := by decide +kernel
theorem d59_137 : decode (tb_me 59).1.2.1 137 = .ok (.isub, 1) := by decide +kernel
theorem d59_138 : decode (tb_me 59).1.2.1 138 = .ok (.iaload, 1) := by decide +kernel
theorem d59_139 : decode (tb_me 59).1.2.1 139 = .ok (.invokestatic 193, 3) := by decide +kernel
theorem k59_193 (b : Bool) : tb_lk b 59 193 = (17, 0, 0, 0, 0) := by cases b <;> decide +kernel
theorem d59_142 : decode (tb_me 59).1.2.1 142 = .ok (.iconst 1, 1) := by decide +kernel
theorem d59_143 : decode (tb_me 59).1.2.1 143 = .ok (.iadd, 1) := by decide +kernel
theorem d59_144 : decode (tb_me 59).1.2.1 144 = .ok (.istore 12, 2) := by decide +kernel
theorem d59_146 : decode (tb_me 59).1.2.1 146 = .ok (.aload_n 0, 1) := by decide +kernel
theorem d59_147 : decode (tb_me 59).1.2.1 147 = .ok (.getfield 54, 3) := by decide +kernel
theorem d59_150 : decode (tb_me 59).1.2.1 150 = .ok (.iload 10, 2) := by decide +kernel
theorem d59_152 : decode (tb_me 59).1.2.1 152 = .ok (.iload 12, 2) := by decide +kernel
theorem d59_154 : decode (tb_me 59).1.2.1 154 = .ok (.aload_n 0, 1) := by decide +kernel
theorem d59_155 : decode (tb_me 59).1.2.1 155 = .ok (.getfield 54, 3) := by decide +kernel
theorem d59_158 : decode (tb_me 59).1.2.1 158 = .ok (.iload 10, 2) := by decide +kernel
theorem d59_160 : decode (tb_me 59).1.2.1 160 = .ok (.iload 5, 2) := by decide +kernel
theorem d59_162 : decode (tb_me 59).1.2.1 162 = .ok (.isub, 1) := by decide +kernel
theorem d59_163 : decode (tb_me 59).1.2.1 163 = .ok (.iconst 1, 1) := by decide +kernel
theorem d59_164 : decode (tb_me 59).1.2.1 164 = .ok (.isub, 1) := by decide +kernel
theorem d59_165 : decode (tb_me 59).1.2.1 165 = .ok (.iaload, 1) := by decide +kernel
theorem d59_166 : decode (tb_me 59).1.2.1 166 = .ok (.iload 11, 2) := by decide +kernel
theorem d59_168 : decode (tb_me 59).1.2.1 168 = .ok (.iadd, 1) := by decide +kernel
theorem d59_169 : decode (tb_me 59).1.2.1 169 = .ok (.invokestatic 193, 3) := by decide +kernel
theorem d59_172 : decode (tb_me 59).1.2.1 172 = .ok (.iastore, 1) := by decide +kernel
theorem d59_173 : decode (tb_me 59).1.2.1 173 = .ok (.iinc 9 1, 3) := by decide +kernel
theorem d59_176 : decode (tb_me 59).1.2.1 176 = .ok (.goto (-123), 3) := by decide +kernel
theorem d59_80 : decode (tb_me 59).1.2.1 80 = .ok (.aload_n 0, 1) := by decide +kernel
theorem d59_81 : decode (tb_me 59).1.2.1 81 = .ok (.getfield 54, 3) := by decide +kernel
theorem d59_84 : decode (tb_me 59).1.2.1 84 = .ok (.iload 10, 2) := by decide +kernel
theorem d59_86 : decode (tb_me 59).1.2.1 86 = .ok (.iload 8, 2) := by decide +kernel
theorem d59_88 : decode (tb_me 59).1.2.1 88 = .ok (.iload 9, 2) := by decide +kernel
theorem d59_90 : decode (tb_me 59).1.2.1 90 = .ok (.iadd, 1) := by decide +kernel
theorem d59_91 : decode (tb_me 59).1.2.1 91 = .ok (.iastore, 1) := by decide +kernel
theorem d59_92 : decode (tb_me 59).1.2.1 92 = .ok (.goto 81, 3) := by decide +kernel
theorem d59_53 : decode (tb_me 59).1.2.1 53 = .ok (.iload 9, 2) := by decide +kernel
theorem d59_55 : decode (tb_me 59).1.2.1 55 = .ok (.iload 6, 2) := by decide +kernel
theorem d59_57 : decode (tb_me 59).1.2.1 57 = .ok (.if_icmp .gt 122, 3) := by decide +kernel
theorem d59_60 : decode (tb_me 59).1.2.1 60 = .ok (.iload 8, 2) := by decide +kernel
theorem d59_62 : decode (tb_me 59).1.2.1 62 = .ok (.iload 5, 2) := by decide +kernel
theorem d59_64 : decode (tb_me 59).1.2.1 64 = .ok (.imul, 1) := by decide +kernel
theorem d59_65 : decode (tb_me 59).1.2.1 65 = .ok (.iload 9, 2) := by decide +kernel
theorem d59_67 : decode (tb_me 59).1.2.1 67 = .ok (.iadd, 1) := by decide +kernel
theorem d59_68 : decode (tb_me 59).1.2.1 68 = .ok (.istore 10, 2) := by decide +kernel
theorem d59_70 : decode (tb_me 59).1.2.1 70 = .ok (.iload 8, 2) := by decide +kernel
theorem d59_72 : decode (tb_me 59).1.2.1 72 = .ok (.ifCond .eq 8, 3) := by decide +kernel
theorem d59_75 : decode (tb_me 59).1.2.1 75 = .ok (.iload 9, 2) := by decide +kernel
theorem d59_77 : decode (tb_me 59).1.2.1 77 = .ok (.ifCond .ne 18, 3) := by decide +kernel
theorem d59_95 : decode (tb_me 59).1.2.1 95 = .ok (.aload_n 3, 1) := by decide +kernel
theorem d59_96 : decode (tb_me 59).1.2.1 96 = .ok (.iload 8, 2) := by decide +kernel
theorem d59_98 : decode (tb_me 59).1.2.1 98 = .ok (.iconst 1, 1) := by decide +kernel
theorem d59_99 : decode (tb_me 59).1.2.1 99 = .ok (.isub, 1) := by decide +kernel
theorem d59_100 : decode (tb_me 59).1.2.1 100 = .ok (.iaload, 1) := by decide +kernel
theorem d59_101 : decode (tb_me 59).1.2.1 101 = .ok (.aload_n 1, 1) := by decide +kernel
theorem d59_102 : decode (tb_me 59).1.2.1 102 = .ok (.iload_n 2, 1) := by decide +kernel
theorem d59_103 : decode (tb_me 59).1.2.1 103 = .ok (.iload 9, 2) := by decide +kernel
theorem d59_105 : decode (tb_me 59).1.2.1 105 = .ok (.iconst 1, 1) := by decide +kernel
theorem d59_106 : decode (tb_me 59).1.2.1 106 = .ok (.isub, 1) := by decide +kernel
theorem d59_107 : decode (tb_me 59).1.2.1 107 = .ok (.invokevirtual 206, 3) := by decide +kernel
theorem k59_206 (b : Bool) : tb_lk b 59 206 = (2, 116, 0, 0, 0) := by cases b <;> decide +kernel
theorem d59_110 : decode (tb_me 59).1.2.1 110 = .ok (.if_icmp .ne 7, 3) := by decide +kernel
theorem d59_117 : decode (tb_me 59).1.2.1 117 = .ok (.iconst 1, 1) := by decide +kernel
theorem d59_113 : decode (tb_me 59).1.2.1 113 = .ok (.iconst 0, 1) := by decide +kernel
theorem d59_114 : decode (tb_me 59).1.2.1 114 = .ok (.goto 4, 3) := by decide +kernel
theorem d59_43 : decode (tb_me 59).1.2.1 43 = .ok (.iload 8, 2) := by decide +kernel
theorem d59_45 : decode (tb_me 59).1.2.1 45 = .ok (.iload 7, 2) := by decide +kernel
theorem d59_47 : decode (tb_me 59).1.2.1 47 = .ok (.if_icmp .gt 138, 3) := by decide +kernel
theorem d59_50 : decode (tb_me 59).1.2.1 50 = .ok (.iconst 0, 1) := by decide +kernel
theorem d59_51 : decode (tb_me 59).1.2.1 51 = .ok (.istore 9, 2) := by decide +kernel
theorem d59_179 : decode (tb_me 59).1.2.1 179 = .ok (.iinc 8 1, 3) := by decide +kernel
theorem d59_182 : decode (tb_me 59).1.2.1 182 = .ok (.goto (-139), 3) := by decide +kernel
theorem d59_25 : decode (tb_me 59).1.2.1 25 = .ok (.istore 6, 2) := by decide +kernel
theorem d59_27 : decode (tb_me 59).1.2.1 27 = .ok (.iload 4, 2) := by decide +kernel
theorem d59_29 : decode (tb_me 59).1.2.1 29 = .ok (.aload_n 3, 1) := by decide +kernel
theorem d59_30 : decode (tb_me 59).1.2.1 30 = .ok (.arraylength, 1) := by decide +kernel
theorem d59_31 : decode (tb_me 59).1.2.1 31 = .ok (.invokestatic 193, 3) := by decide +kernel
theorem d59_34 : decode (tb_me 59).1.2.1 34 = .ok (.iconst 5, 1) := by decide +kernel
theorem d59_35 : decode (tb_me 59).1.2.1 35 = .ok (.invokestatic 193, 3) := by decide +kernel
theorem d59_38 : decode (tb_me 59).1.2.1 38 = .ok (.istore 7, 2) := by decide +kernel
theorem d59_40 : decode (tb_me 59).1.2.1 40 = .ok (.iconst 0, 1) := by decide +kernel
theorem d59_41 : decode (tb_me 59).1.2.1 41 = .ok (.istore 8, 2) := by decide +kernel
theorem d59_185 : decode (tb_me 59).1.2.1 185 = .ok (.iload 7, 2) := by decide +kernel
theorem d59_187 : decode (tb_me 59).1.2.1 187 = .ok (.ifCond .ge 8, 3) := by decide +kernel
theorem d59_195 : decode (tb_me 59).1.2.1 195 = .ok (.aload_n 0, 1) := by decide +kernel
theorem d59_196 : decode (tb_me 59).1.2.1 196 = .ok (.getfield 54, 3) := by decide +kernel
theorem d59_199 : decode (tb_me 59).1.2.1 199 = .ok (.iload 7, 2) := by decide +kernel
theorem d59_201 : decode (tb_me 59).1.2.1 201 = .ok (.iload 5, 2) := by decide +kernel
theorem d59_203 : decode (tb_me 59).1.2.1 203 = .ok (.imul, 1) := by decide +kernel
theorem d59_204 : decode (tb_me 59).1.2.1 204 = .ok (.iload 6, 2) := by decide +kernel
theorem d59_206 : decode (tb_me 59).1.2.1 206 = .ok (.iadd, 1) := by decide +kernel
theorem d59_207 : decode (tb_me 59).1.2.1 207 = .ok (.iaload, 1) := by decide +kernel
theorem d59_208 : decode (tb_me 59).1.2.1 208 = .ok (.ireturn, 1) := by decide +kernel
theorem t59 : (tb_me 59).1.2.2.2 = some .int := by decide +kernel
theorem d59_190 : decode (tb_me 59).1.2.1 190 = .ok (.iload 6, 2) := by decide +kernel
theorem d59_192 : decode (tb_me 59).1.2.1 192 = .ok (.goto 16, 3) := by decide +kernel
theorem d59_0 : decode (tb_me 59).1.2.1 0 = .ok (.iconst 5, 1) := by decide +kernel
theorem d59_1 : decode (tb_me 59).1.2.1 1 = .ok (.istore 5, 2) := by decide +kernel
theorem d59_3 : decode (tb_me 59).1.2.1 3 = .ok (.aload_n 1, 1) := by decide +kernel
theorem d59_4 : decode (tb_me 59).1.2.1 4 = .ok (.iload_n 2, 1) := by decide +kernel
theorem d59_5 : decode (tb_me 59).1.2.1 5 = .ok (.invokevirtual 200, 3) := by decide +kernel
theorem k59_200 (b : Bool) : tb_lk b 59 200 = (2, 113, 0, 0, 0) := by cases b <;> decide +kernel
theorem d59_8 : decode (tb_me 59).1.2.1 8 = .ok (.ifCond .eq 16, 3) := by decide +kernel
theorem d59_24 : decode (tb_me 59).1.2.1 24 = .ok (.iconst 0, 1) := by decide +kernel
theorem d59_11 : decode (tb_me 59).1.2.1 11 = .ok (.aload_n 1, 1) := by decide +kernel
theorem d59_12 : decode (tb_me 59).1.2.1 12 = .ok (.getfield 204, 3) := by decide +kernel
theorem k59_204 (b : Bool) : tb_lk b 59 204 = (1, 7, 7, 0, 0) := by cases b <;> decide +kernel
theorem d59_15 : decode (tb_me 59).1.2.1 15 = .ok (.iload_n 2, 1) := by decide +kernel
theorem d59_16 : decode (tb_me 59).1.2.1 16 = .ok (.iaload, 1) := by decide +kernel
theorem d59_17 : decode (tb_me 59).1.2.1 17 = .ok (.iconst 4, 1) := by decide +kernel
theorem d59_18 : decode (tb_me 59).1.2.1 18 = .ok (.invokestatic 193, 3) := by decide +kernel
theorem d59_21 : decode (tb_me 59).1.2.1 21 = .ok (.goto 4, 3) := by decide +kernel
theorem e59 : (tb_me 59).2.1 = (0, 0) ∧ (tb_me 59).1.2.2.1 = 13 := by decide +kernel
theorem d61_2 : decode (tb_me 61).1.2.1 2 = .ok (.iload_n 2, 1) := by decide +kernel
theorem d61_3 : decode (tb_me 61).1.2.1 3 = .ok (.aload_n 0, 1) := by decide +kernel
theorem d61_4 : decode (tb_me 61).1.2.1 4 = .ok (.getfield 66, 3) := by decide +kernel
theorem k61_66 (b : Bool) : tb_lk b 61 66 = (1, 1, 15, 0, 0) := by cases b <;> decide +kernel
theorem f1_15 : (15 < pm_nf tb_cl 1) ∧ tb_ft 1 15 ≠ .long ∧ pm_isR (tb_ft 1 15) = true := by decide +kernel
theorem d61_7 : decode (tb_me 61).1.2.1 7 = .ok (.arraylength, 1) := by decide +kernel
theorem d61_8 : decode (tb_me 61).1.2.1 8 = .ok (.if_icmp .ge 23, 3) := by decide +kernel
theorem d61_11 : decode (tb_me 61).1.2.1 11 = .ok (.aload_n 0, 1) := by decide +kernel
theorem d61_12 : decode (tb_me 61).1.2.1 12 = .ok (.getfield 66, 3) := by decide +kernel
theorem d61_15 : decode (tb_me 61).1.2.1 15 = .ok (.iload_n 2, 1) := by decide +kernel
theorem d61_16 : decode (tb_me 61).1.2.1 16 = .ok (.dup2, 1) := by decide +kernel
theorem d61_17 : decode (tb_me 61).1.2.1 17 = .ok (.iaload, 1) := by decide +kernel
theorem d61_18 : decode (tb_me 61).1.2.1 18 = .ok (.iload_n 1, 1) := by decide +kernel
theorem d61_19 : decode (tb_me 61).1.2.1 19 = .ok (.iload_n 2, 1) := by decide +kernel
theorem d61_20 : decode (tb_me 61).1.2.1 20 = .ok (.invokestatic 104, 3) := by decide +kernel
theorem k61_104 (b : Bool) : tb_lk b 61 104 = (5, 34, 0, 0, 0) := by cases b <;> decide +kernel
theorem d61_23 : decode (tb_me 61).1.2.1 23 = .ok (.iadd, 1) := by decide +kernel
theorem d61_24 : decode (tb_me 61).1.2.1 24 = .ok (.iastore, 1) := by decide +kernel
theorem d61_25 : decode (tb_me 61).1.2.1 25 = .ok (.iinc 2 1, 3) := by decide +kernel
theorem d61_28 : decode (tb_me 61).1.2.1 28 = .ok (.goto (-26), 3) := by decide +kernel
theorem d61_0 : decode (tb_me 61).1.2.1 0 = .ok (.iconst 0, 1) := by decide +kernel
theorem d61_1 : decode (tb_me 61).1.2.1 1 = .ok (.istore_n 2, 1) := by decide +kernel
theorem d61_31 : decode (tb_me 61).1.2.1 31 = .ok (.return_, 1) := by decide +kernel
theorem t61 : (tb_me 61).1.2.2.2 = none := by decide +kernel
theorem e61 : (tb_me 61).2.1 = (0, 0) ∧ (tb_me 61).1.2.2.1 = 3 := by decide +kernel
theorem d62_23 : decode (tb_me 62).1.2.1 23 = .ok (.istore_n 2, 1) := by decide +kernel
theorem d62_24 : decode (tb_me 62).1.2.1 24 = .ok (.iload_n 2, 1) := by decide +kernel
theorem d62_25 : decode (tb_me 62).1.2.1 25 = .ok (.aload_n 0, 1) := by decide +kernel
theorem d62_26 : decode (tb_me 62).1.2.1 26 = .ok (.getfield 57, 3) := by decide +kernel
theorem k62_57 (b : Bool) : tb_lk b 62 57 = (1, 1, 12, 0, 0) := by cases b <;> decide +kernel
theorem f1_12 : (12 < pm_nf tb_cl 1) ∧ tb_ft 1 12 ≠ .long ∧ pm_isR (tb_ft 1 12) = false := by decide +kernel
theorem d62_29 : decode (tb_me 62).1.2.1 29 = .ok (.iload_n 2, 1) := by decide +kernel
theorem d62_30 : decode (tb_me 62).1.2.1 30 = .ok (.isub, 1) := by decide +kernel
theorem d62_31 : decode (tb_me 62).1.2.1 31 = .ok (.invokestatic 188, 3) := by decide +kernel
theorem k62_188 (b : Bool) : tb_lk b 62 188 = (16, 0, 0, 0, 0) := by cases b <;> decide +kernel
theorem d62_34 : decode (tb_me 62).1.2.1 34 = .ok (.ireturn, 1) := by decide +kernel
theorem t62 : (tb_me 62).1.2.2.2 = some .int := by decide +kernel
theorem d62_0 : decode (tb_me 62).1.2.1 0 = .ok (.iload_n 1, 1) := by decide +kernel
theorem d62_1 : decode (tb_me 62).1.2.1 1 = .ok (.ifCond .lt 21, 3) := by decide +kernel
theorem d62_22 : decode (tb_me 62).1.2.1 22 = .ok (.iconst 0, 1) := by decide +kernel
theorem d62_4 : decode (tb_me 62).1.2.1 4 = .ok (.iload_n 1, 1) := by decide +kernel
theorem d62_5 : decode (tb_me 62).1.2.1 5 = .ok (.aload_n 0, 1) := by decide +kernel
theorem d62_6 : decode (tb_me 62).1.2.1 6 = .ok (.getfield 66, 3) := by decide +kernel
theorem k62_66 (b : Bool) : tb_lk b 62 66 = (1, 1, 15, 0, 0) := by cases b <;> decide +kernel
theorem d62_9 : decode (tb_me 62).1.2.1 9 = .ok (.arraylength, 1) := by decide +kernel
theorem d62_10 : decode (tb_me 62).1.2.1 10 = .ok (.if_icmp .ge 12, 3) := by decide +kernel
theorem d62_13 : decode (tb_me 62).1.2.1 13 = .ok (.aload_n 0, 1) := by decide +kernel
theorem d62_14 : decode (tb_me 62).1.2.1 14 = .ok (.getfield 66, 3) := by decide +kernel
theorem d62_17 : decode (tb_me 62).1.2.1 17 = .ok (.iload_n 1, 1) := by decide +kernel
theorem d62_18 : decode (tb_me 62).1.2.1 18 = .ok (.iaload, 1) := by decide +kernel
theorem d62_19 : decode (tb_me 62).1.2.1 19 = .ok (.goto 4, 3) := by decide +kernel
theorem e62 : (tb_me 62).2.1 = (0, 0) ∧ (tb_me 62).1.2.2.1 = 3 := by decide +kernel
theorem d63_4 : decode (tb_me 63).1.2.1 4 = .ok (.iload_n 3, 1) := by decide +kernel
theorem d63_5 : decode (tb_me 63).1.2.1 5 = .ok (.iload_n 1, 1) := by decide +kernel
theorem d63_6 : decode (tb_me 63).1.2.1 6 = .ok (.if_icmp .ge 24, 3) := by decide +kernel
theorem d63_9 : decode (tb_me 63).1.2.1 9 = .ok (.aload_n 0, 1) := by decide +kernel
theorem d63_10 : decode (tb_me 63).1.2.1 10 = .ok (.iload_n 3, 1) := by decide +kernel
theorem d63_11 : decode (tb_me 63).1.2.1 11 = .ok (.invokevirtual 225, 3) := by decide +kernel
theorem k63_225 (b : Bool) : tb_lk b 63 225 = (2, 62, 0, 0, 0) := by cases b <;> decide +kernel
theorem m62 : (tb_me 62).2 = ((0, 0), (1, 1)) ∧ (tb_me 62).1.2.2.1 = 3 := by decide +kernel
theorem d63_14 : decode (tb_me 63).1.2.1 14 = .ok (.aload_n 0, 1) := by decide +kernel
theorem d63_15 : decode (tb_me 63).1.2.1 15 = .ok (.iload_n 2, 1) := by decide +kernel
theorem d63_16 : decode (tb_me 63).1.2.1 16 = .ok (.invokevirtual 225, 3) := by decide +kernel
theorem d63_19 : decode (tb_me 63).1.2.1 19 = .ok (.if_icmp .ge 5, 3) := by decide +kernel
theorem d63_24 : decode (tb_me 63).1.2.1 24 = .ok (.iinc 3 1, 3) := by decide +kernel
theorem d63_27 : decode (tb_me 63).1.2.1 27 = .ok (.goto (-23), 3) := by decide +kernel
theorem d63_22 : decode (tb_me 63).1.2.1 22 = .ok (.iload_n 3, 1) := by decide +kernel
theorem d63_23 : decode (tb_me 63).1.2.1 23 = .ok (.istore_n 2, 1) := by decide +kernel
theorem d63_0 : decode (tb_me 63).1.2.1 0 = .ok (.iconst 0, 1) := by decide +kernel
theorem d63_1 : decode (tb_me 63).1.2.1 1 = .ok (.istore_n 2, 1) := by decide +kernel
theorem d63_2 : decode (tb_me 63).1.2.1 2 = .ok (.iconst 1, 1) := by decide +kernel
theorem d63_3 : decode (tb_me 63).1.2.1 3 = .ok (.istore_n 3, 1) := by decide +kernel
theorem d63_30 : decode (tb_me 63).1.2.1 30 = .ok (.iload_n 2, 1) := by decide +kernel
theorem d63_31 : decode (tb_me 63).1.2.1 31 = .ok (.ireturn, 1) := by decide +kernel
theorem t63 : (tb_me 63).1.2.2.2 = some .int := by decide +kernel
theorem e63 : (tb_me 63).2.1 = (0, 0) ∧ (tb_me 63).1.2.2.1 = 4 := by decide +kernel
theorem d66_0 : decode (tb_me 66).1.2.1 0 = .ok (.aload_n 0, 1) := by decide +kernel
theorem d66_1 : decode (tb_me 66).1.2.1 1 = .ok (.aload_n 0, 1) := by decide +kernel
theorem d66_2 : decode (tb_me 66).1.2.1 2 = .ok (.getfield 75, 3) := by decide +kernel
theorem k66_75 (b : Bool) : tb_lk b 66 75 = (1, 1, 18, 0, 0) := by cases b <;> decide +kernel
theorem f1_18 : (18 < pm_nf tb_cl 1) ∧ tb_ft 1 18 ≠ .long ∧ pm_isR (tb_ft 1 18) = false := by decide +kernel
theorem d66_5 : decode (tb_me 66).1.2.1 5 = .ok (.i2l, 1) := by decide +kernel
theorem d66_6 : decode (tb_me 66).1.2.1 6 = .ok (.ldc2_w 253, 3) := by decide +kernel
theorem k66_253 (b : Bool) : tb_lk b 66 253 = (12, 0, 0, 0, 1103515245) := by cases b <;> decide +kernel
theorem d66_9 : decode (tb_me 66).1.2.1 9 = .ok (.lmul, 1) := by decide +kernel
theorem d66_10 : decode (tb_me 66).1.2.1 10 = .ok (.ldc2_w 255, 3) := by decide +kernel
theorem k66_255 (b : Bool) : tb_lk b 66 255 = (12, 0, 0, 0, 12345) := by cases b <;> decide +kernel
theorem d66_13 : decode (tb_me 66).1.2.1 13 = .ok (.ladd, 1) := by decide +kernel
theorem d66_14 : decode (tb_me 66).1.2.1 14 = .ok (.ldc2_w 257, 3) := by decide +kernel
theorem k66_257 (b : Bool) : tb_lk b 66 257 = (12, 0, 0, 0, 2147483647) := by cases b <;> decide +kernel
theorem d66_17 : decode (tb_me 66).1.2.1 17 = .ok (.land, 1) := by decide +kernel
theorem d66_18 : decode (tb_me 66).1.2.1 18 = .ok (.l2i, 1) := by decide +kernel
theorem d66_19 : decode (tb_me 66).1.2.1 19 = .ok (.putfield 75, 3) := by decide +kernel
theorem p66_1_18 : (18 < pm_nf tb_cl 1) ∧ tb_ft 1 18 = .int ∧ pm_fin tb_cl (tb_me 66).1.1 1 18 = true := by decide +kernel
theorem d66_22 : decode (tb_me 66).1.2.1 22 = .ok (.aload_n 0, 1) := by decide +kernel
theorem d66_23 : decode (tb_me 66).1.2.1 23 = .ok (.getfield 75, 3) := by decide +kernel
theorem d66_26 : decode (tb_me 66).1.2.1 26 = .ok (.ldc_w 259, 3) := by decide +kernel
theorem k66_259 (b : Bool) : tb_lk b 66 259 = (11, 0, 0, 65536, 0) := by cases b <;> decide +kernel
theorem d66_29 : decode (tb_me 66).1.2.1 29 = .ok (.idiv, 1) := by decide +kernel
theorem d66_30 : decode (tb_me 66).1.2.1 30 = .ok (.ireturn, 1) := by decide +kernel
theorem t66 : (tb_me 66).1.2.2.2 = some .int := by decide +kernel
theorem e66 : (tb_me 66).2.1 = (0, 0) ∧ (tb_me 66).1.2.2.1 = 1 := by decide +kernel
theorem d46_6 : decode (tb_me 46).1.2.1 6 = .ok (.iload 5, 2) := by decide +kernel
theorem d46_8 : decode (tb_me 46).1.2.1 8 = .ok (.aload_n 0, 1) := by decide +kernel
theorem d46_9 : decode (tb_me 46).1.2.1 9 = .ok (.getfield 21, 3) := by decide +kernel
theorem k46_21 (b : Bool) : tb_lk b 46 21 = (1, 1, 1, 0, 0) := by cases b <;> decide +kernel
theorem d46_12 : decode (tb_me 46).1.2.1 12 = .ok (.getfield 116, 3) := by decide +kernel
theorem k46_116 (b : Bool) : tb_lk b 46 116 = (1, 5, 6, 0, 0) := by cases b <;> decide +kernel
theorem d46_15 : decode (tb_me 46).1.2.1 15 = .ok (.if_icmp .ge 64, 3) := by decide +kernel
theorem d46_18 : decode (tb_me 46).1.2.1 18 = .ok (.iload 5, 2) := by decide +kernel
theorem d46_20 : decode (tb_me 46).1.2.1 20 = .ok (.aload_n 0, 1) := by decide +kernel
theorem d46_21 : decode (tb_me 46).1.2.1 21 = .ok (.getfield 33, 3) := by decide +kernel
theorem k46_33 (b : Bool) : tb_lk b 46 33 = (1, 1, 4, 0, 0) := by cases b <;> decide +kernel
theorem d46_24 : decode (tb_me 46).1.2.1 24 = .ok (.arraylength, 1) := by decide +kernel
theorem d46_25 : decode (tb_me 46).1.2.1 25 = .ok (.if_icmp .ge 54, 3) := by decide +kernel
theorem d46_28 : decode (tb_me 46).1.2.1 28 = .ok (.aload_n 1, 1) := by decide +kernel
theorem d46_29 : decode (tb_me 46).1.2.1 29 = .ok (.iload 4, 2) := by decide +kernel
theorem d46_31 : decode (tb_me 46).1.2.1 31 = .ok (.iload_n 3, 1) := by decide +kernel
theorem d46_32 : decode (tb_me 46).1.2.1 32 = .ok (.aload_n 0, 1) := by decide +kernel
theorem d46_33 : decode (tb_me 46).1.2.1 33 = .ok (.getfield 21, 3) := by decide +kernel
theorem d46_36 : decode (tb_me 46).1.2.1 36 = .ok (.iload 5, 2) := by decide +kernel
theorem d46_38 : decode (tb_me 46).1.2.1 38 = .ok (.invokevirtual 132, 3) := by decide +kernel
theorem k46_132 (b : Bool) : tb_lk b 46 132 = (2, 88, 0, 0, 0) := by cases b <;> decide +kernel
theorem d46_41 : decode (tb_me 46).1.2.1 41 = .ok (.invokestatic 136, 3) := by decide +kernel
theorem k46_136 (b : Bool) : tb_lk b 46 136 = (4, 47, 0, 0, 0) := by cases b <;> decide +kernel
theorem m47 : (tb_me 47).2 = ((0, 0), (4, 999)) ∧ (tb_me 47).1.2.2.1 = 5 := by decide +kernel
theorem d46_44 : decode (tb_me 46).1.2.1 44 = .ok (.istore 6, 2) := by decide +kernel
theorem d46_46 : decode (tb_me 46).1.2.1 46 = .ok (.iload 6, 2) := by decide +kernel
theorem d46_48 : decode (tb_me 46).1.2.1 48 = .ok (.ifCond .ge 5, 3) := by decide +kernel
theorem d46_53 : decode (tb_me 46).1.2.1 53 = .ok (.aload_n 0, 1) := by decide +kernel
theorem d46_54 : decode (tb_me 46).1.2.1 54 = .ok (.getfield 33, 3) := by decide +kernel
theorem d46_57 : decode (tb_me 46).1.2.1 57 = .ok (.iload 5, 2) := by decide +kernel
theorem d46_59 : decode (tb_me 46).1.2.1 59 = .ok (.iload 6, 2) := by decide +kernel
theorem d46_61 : decode (tb_me 46).1.2.1 61 = .ok (.iastore, 1) := by decide +kernel
theorem d46_62 : decode (tb_me 46).1.2.1 62 = .ok (.iload 4, 2) := by decide +kernel
theorem d46_64 : decode (tb_me 46).1.2.1 64 = .ok (.iconst 1, 1) := by decide +kernel
theorem d46_65 : decode (tb_me 46).1.2.1 65 = .ok (.iload 6, 2) := by decide +kernel
theorem d46_67 : decode (tb_me 46).1.2.1 67 = .ok (.ishl, 1) := by decide +kernel
theorem d46_68 : decode (tb_me 46).1.2.1 68 = .ok (.iconst (-1), 1) := by decide +kernel
theorem d46_69 : decode (tb_me 46).1.2.1 69 = .ok (.ixor, 1) := by decide +kernel
theorem d46_70 : decode (tb_me 46).1.2.1 70 = .ok (.iand, 1) := by decide +kernel
theorem d46_71 : decode (tb_me 46).1.2.1 71 = .ok (.istore 4, 2) := by decide +kernel
theorem d46_73 : decode (tb_me 46).1.2.1 73 = .ok (.iinc 5 1, 3) := by decide +kernel
theorem d46_76 : decode (tb_me 46).1.2.1 76 = .ok (.goto (-70), 3) := by decide +kernel
theorem d46_0 : decode (tb_me 46).1.2.1 0 = .ok (.iload_n 2, 1) := by decide +kernel
theorem d46_1 : decode (tb_me 46).1.2.1 1 = .ok (.istore 4, 2) := by decide +kernel
theorem d46_3 : decode (tb_me 46).1.2.1 3 = .ok (.iconst 0, 1) := by decide +kernel
theorem d46_4 : decode (tb_me 46).1.2.1 4 = .ok (.istore 5, 2) := by decide +kernel
theorem d46_51 : decode (tb_me 46).1.2.1 51 = .ok (.iconst 0, 1) := by decide +kernel
theorem d46_52 : decode (tb_me 46).1.2.1 52 = .ok (.ireturn, 1) := by decide +kernel
theorem t46 : (tb_me 46).1.2.2.2 = some .boolean := by decide +kernel
theorem d46_79 : decode (tb_me 46).1.2.1 79 = .ok (.iconst 1, 1) := by decide +kernel
theorem d46_80 : decode (tb_me 46).1.2.1 80 = .ok (.ireturn, 1) := by decide +kernel
theorem e46 : (tb_me 46).2.1 = (0, 0) ∧ (tb_me 46).1.2.2.1 = 7 := by decide +kernel
theorem d51_0 : decode (tb_me 51).1.2.1 0 = .ok (.aload_n 1, 1) := by decide +kernel
theorem d51_1 : decode (tb_me 51).1.2.1 1 = .ok (.aload_n 0, 1) := by decide +kernel
theorem d51_2 : decode (tb_me 51).1.2.1 2 = .ok (.getfield 12, 3) := by decide +kernel
theorem k51_12 (b : Bool) : tb_lk b 51 12 = (1, 1, 0, 0, 0) := by cases b <;> decide +kernel
theorem d51_5 : decode (tb_me 51).1.2.1 5 = .ok (.iload_n 3, 1) := by decide +kernel
theorem d51_6 : decode (tb_me 51).1.2.1 6 = .ok (.aload_n 2, 1) := by decide +kernel
theorem d51_7 : decode (tb_me 51).1.2.1 7 = .ok (.aload_n 1, 1) := by decide +kernel
theorem d51_8 : decode (tb_me 51).1.2.1 8 = .ok (.invokevirtual 92, 3) := by decide +kernel
theorem k51_92 (b : Bool) : tb_lk b 51 92 = (2, 81, 0, 0, 0) := by cases b <;> decide +kernel
theorem d51_11 : decode (tb_me 51).1.2.1 11 = .ok (.invokevirtual 96, 3) := by decide +kernel
theorem k51_96 (b : Bool) : tb_lk b 51 96 = (2, 69, 0, 0, 0) := by cases b <;> decide +kernel
theorem d51_14 : decode (tb_me 51).1.2.1 14 = .ok (.invokestatic 164, 3) := by decide +kernel
theorem k51_164 (b : Bool) : tb_lk b 51 164 = (4, 52, 0, 0, 0) := by cases b <;> decide +kernel
theorem m52 : (tb_me 52).2 = ((0, 0), (2, 999)) ∧ (tb_me 52).1.2.2.1 = 4 := by decide +kernel
theorem d51_17 : decode (tb_me 51).1.2.1 17 = .ok (.ireturn, 1) := by decide +kernel
theorem t51 : (tb_me 51).1.2.2.2 = some .int := by decide +kernel
theorem e51 : (tb_me 51).2.1 = (0, 0) ∧ (tb_me 51).1.2.2.1 = 4 := by decide +kernel
theorem d53_8 : decode (tb_me 53).1.2.1 8 = .ok (.iload 5, 2) := by decide +kernel
theorem d53_10 : decode (tb_me 53).1.2.1 10 = .ok (.aload_n 1, 1) := by decide +kernel
theorem d53_11 : decode (tb_me 53).1.2.1 11 = .ok (.getfield 168, 3) := by decide +kernel
theorem k53_168 (b : Bool) : tb_lk b 53 168 = (1, 7, 0, 0, 0) := by cases b <;> decide +kernel
theorem d53_14 : decode (tb_me 53).1.2.1 14 = .ok (.if_icmp .ge 33, 3) := by decide +kernel
theorem d53_17 : decode (tb_me 53).1.2.1 17 = .ok (.aload_n 0, 1) := by decide +kernel
theorem d53_18 : decode (tb_me 53).1.2.1 18 = .ok (.aload_n 1, 1) := by decide +kernel
theorem d53_19 : decode (tb_me 53).1.2.1 19 = .ok (.aload_n 2, 1) := by decide +kernel
theorem d53_20 : decode (tb_me 53).1.2.1 20 = .ok (.iload 5, 2) := by decide +kernel
theorem d53_22 : decode (tb_me 53).1.2.1 22 = .ok (.invokevirtual 171, 3) := by decide +kernel
theorem k53_171 (b : Bool) : tb_lk b 53 171 = (2, 51, 0, 0, 0) := by cases b <;> decide +kernel
theorem m51 : (tb_me 51).2 = ((0, 0), (3, 1)) ∧ (tb_me 51).1.2.2.1 = 4 := by decide +kernel
theorem d53_25 : decode (tb_me 53).1.2.1 25 = .ok (.istore 6, 2) := by decide +kernel
theorem d53_27 : decode (tb_me 53).1.2.1 27 = .ok (.iload 6, 2) := by decide +kernel
theorem d53_29 : decode (tb_me 53).1.2.1 29 = .ok (.iload 4, 2) := by decide +kernel
theorem d53_31 : decode (tb_me 53).1.2.1 31 = .ok (.if_icmp .le 10, 3) := by decide +kernel
theorem d53_41 : decode (tb_me 53).1.2.1 41 = .ok (.iinc 5 1, 3) := by decide +kernel
theorem d53_44 : decode (tb_me 53).1.2.1 44 = .ok (.goto (-36), 3) := by decide +kernel
theorem d53_34 : decode (tb_me 53).1.2.1 34 = .ok (.iload 6, 2) := by decide +kernel
theorem d53_36 : decode (tb_me 53).1.2.1 36 = .ok (.istore 4, 2) := by decide +kernel
theorem d53_38 : decode (tb_me 53).1.2.1 38 = .ok (.iload 5, 2) := by decide +kernel
theorem d53_40 : decode (tb_me 53).1.2.1 40 = .ok (.istore_n 3, 1) := by decide +kernel
theorem d53_0 : decode (tb_me 53).1.2.1 0 = .ok (.iconst 0, 1) := by decide +kernel
theorem d53_1 : decode (tb_me 53).1.2.1 1 = .ok (.istore_n 3, 1) := by decide +kernel
theorem d53_2 : decode (tb_me 53).1.2.1 2 = .ok (.iconst (-1), 1) := by decide +kernel
theorem d53_3 : decode (tb_me 53).1.2.1 3 = .ok (.istore 4, 2) := by decide +kernel
theorem d53_5 : decode (tb_me 53).1.2.1 5 = .ok (.iconst 0, 1) := by decide +kernel
theorem d53_6 : decode (tb_me 53).1.2.1 6 = .ok (.istore 5, 2) := by decide +kernel
theorem d53_47 : decode (tb_me 53).1.2.1 47 = .ok (.iload_n 3, 1) := by decide +kernel
theorem d53_48 : decode (tb_me 53).1.2.1 48 = .ok (.ireturn, 1) := by decide +kernel
theorem t53 : (tb_me 53).1.2.2.2 = some .int := by decide +kernel
theorem e53 : (tb_me 53).2.1 = (0, 0) ∧ (tb_me 53).1.2.2.1 = 7 := by decide +kernel
theorem d54_52 : decode (tb_me 54).1.2.1 52 = .ok (.iload 6, 2) := by decide +kernel
theorem d54_54 : decode (tb_me 54).1.2.1 54 = .ok (.aload_n 1, 1) := by decide +kernel
theorem d54_55 : decode (tb_me 54).1.2.1 55 = .ok (.getfield 140, 3) := by decide +kernel
theorem k54_140 (b : Bool) : tb_lk b 54 140 = (1, 7, 1, 0, 0) := by cases b <;> decide +kernel
theorem d54_58 : decode (tb_me 54).1.2.1 58 = .ok (.if_icmp .ge 26, 3) := by decide +kernel
theorem d54_61 : decode (tb_me 54).1.2.1 61 = .ok (.aload_n 0, 1) := by decide +kernel
theorem d54_62 : decode (tb_me 54).1.2.1 62 = .ok (.aload_n 1, 1) := by decide +kernel
theorem d54_63 : decode (tb_me 54).1.2.1 63 = .ok (.iload 6, 2) := by decide +kernel
theorem d54_65 : decode (tb_me 54).1.2.1 65 = .ok (.invokevirtual 145, 3) := by decide +kernel
theorem k54_145 (b : Bool) : tb_lk b 54 145 = (2, 115, 0, 0, 0) := by cases b <;> decide +kernel
theorem d54_68 : decode (tb_me 54).1.2.1 68 = .ok (.iload 4, 2) := by decide +kernel
theorem d54_70 : decode (tb_me 54).1.2.1 70 = .ok (.iload 6, 2) := by decide +kernel
theorem d54_72 : decode (tb_me 54).1.2.1 72 = .ok (.invokestatic 104, 3) := by decide +kernel
theorem k54_104 (b : Bool) : tb_lk b 54 104 = (5, 34, 0, 0, 0) := by cases b <;> decide +kernel
theorem d54_75 : decode (tb_me 54).1.2.1 75 = .ok (.invokevirtual 181, 3) := by decide +kernel
theorem k54_181 (b : Bool) : tb_lk b 54 181 = (2, 55, 0, 0, 0) := by cases b <;> decide +kernel
theorem d54_78 : decode (tb_me 54).1.2.1 78 = .ok (.iinc 6 1, 3) := by decide +kernel
theorem d54_81 : decode (tb_me 54).1.2.1 81 = .ok (.goto (-29), 3) := by decide +kernel
theorem d54_24 : decode (tb_me 54).1.2.1 24 = .ok (.iload 5, 2) := by decide +kernel
theorem d54_26 : decode (tb_me 54).1.2.1 26 = .ok (.ldc 111, 2) := by decide +kernel
theorem k54_111 (b : Bool) : tb_lk b 54 111 = (11, 0, 0, 1000000, 0) := by cases b <;> decide +kernel
theorem d54_28 : decode (tb_me 54).1.2.1 28 = .ok (.if_icmp .ge 81, 3) := by decide +kernel
theorem d54_31 : decode (tb_me 54).1.2.1 31 = .ok (.aload_n 0, 1) := by decide +kernel
theorem d54_32 : decode (tb_me 54).1.2.1 32 = .ok (.getfield 21, 3) := by decide +kernel
theorem k54_21 (b : Bool) : tb_lk b 54 21 = (1, 1, 1, 0, 0) := by cases b <;> decide +kernel
theorem d54_35 : decode (tb_me 54).1.2.1 35 = .ok (.invokevirtual 112, 3) := by decide +kernel
theorem k54_112 (b : Bool) : tb_lk b 54 112 = (2, 90, 0, 0, 0) := by cases b <;> decide +kernel
theorem d54_38 : decode (tb_me 54).1.2.1 38 = .ok (.ifCond .eq 71, 3) := by decide +kernel
theorem d54_41 : decode (tb_me 54).1.2.1 41 = .ok (.aload_n 0, 1) := by decide +kernel
theorem d54_42 : decode (tb_me 54).1.2.1 42 = .ok (.getfield 45, 3) := by decide +kernel
theorem k54_45 (b : Bool) : tb_lk b 54 45 = (1, 1, 8, 0, 0) := by cases b <;> decide +kernel
theorem d54_45 : decode (tb_me 54).1.2.1 45 = .ok (.iconst 0, 1) := by decide +kernel
theorem d54_46 : decode (tb_me 54).1.2.1 46 = .ok (.invokestatic 175, 3) := by decide +kernel
theorem k54_175 (b : Bool) : tb_lk b 54 175 = (4, 270, 0, 0, 0) := by cases b <;> decide +kernel
theorem d54_49 : decode (tb_me 54).1.2.1 49 = .ok (.iconst 0, 1) := by decide +kernel
theorem d54_50 : decode (tb_me 54).1.2.1 50 = .ok (.istore 6, 2) := by decide +kernel
theorem d54_84 : decode (tb_me 54).1.2.1 84 = .ok (.aload_n 0, 1) := by decide +kernel
theorem d54_85 : decode (tb_me 54).1.2.1 85 = .ok (.aload_n 2, 1) := by decide +kernel
theorem d54_86 : decode (tb_me 54).1.2.1 86 = .ok (.getfield 89, 3) := by decide +kernel
theorem k54_89 (b : Bool) : tb_lk b 54 89 = (1, 3, 4, 0, 0) := by cases b <;> decide +kernel
theorem d54_89 : decode (tb_me 54).1.2.1 89 = .ok (.iload 4, 2) := by decide +kernel
theorem d54_91 : decode (tb_me 54).1.2.1 91 = .ok (.bipush 8, 2) := by decide +kernel
theorem d54_93 : decode (tb_me 54).1.2.1 93 = .ok (.invokestatic 104, 3) := by decide +kernel
theorem d54_96 : decode (tb_me 54).1.2.1 96 = .ok (.invokevirtual 181, 3) := by decide +kernel
theorem d54_99 : decode (tb_me 54).1.2.1 99 = .ok (.aload_n 0, 1) := by decide +kernel
theorem d54_100 : decode (tb_me 54).1.2.1 100 = .ok (.invokevirtual 185, 3) := by decide +kernel
theorem k54_185 (b : Bool) : tb_lk b 54 185 = (2, 56, 0, 0, 0) := by cases b <;> decide +kernel
theorem m56 : (tb_me 56).2 = ((0, 0), (0, 1)) ∧ (tb_me 56).1.2.2.1 = 6 := by decide +kernel
theorem d54_103 : decode (tb_me 54).1.2.1 103 = .ok (.iinc 5 1, 3) := by decide +kernel
theorem d54_106 : decode (tb_me 54).1.2.1 106 = .ok (.goto (-82), 3) := by decide +kernel
theorem d54_0 : decode (tb_me 54).1.2.1 0 = .ok (.aload_n 0, 1) := by decide +kernel
theorem d54_1 : decode (tb_me 54).1.2.1 1 = .ok (.iconst 3, 1) := by decide +kernel
theorem d54_2 : decode (tb_me 54).1.2.1 2 = .ok (.putfield 36, 3) := by decide +kernel
theorem k54_36 (b : Bool) : tb_lk b 54 36 = (1, 1, 5, 0, 0) := by cases b <;> decide +kernel
theorem p54_1_5 : (5 < pm_nf tb_cl 1) ∧ tb_ft 1 5 = .int ∧ pm_fin tb_cl (tb_me 54).1.1 1 5 = true := by decide +kernel
theorem d54_5 : decode (tb_me 54).1.2.1 5 = .ok (.aload_n 2, 1) := by decide +kernel
theorem d54_6 : decode (tb_me 54).1.2.1 6 = .ok (.aload_n 1, 1) := by decide +kernel
theorem d54_7 : decode (tb_me 54).1.2.1 7 = .ok (.invokevirtual 92, 3) := by decide +kernel
theorem k54_92 (b : Bool) : tb_lk b 54 92 = (2, 81, 0, 0, 0) := by cases b <;> decide +kernel
theorem d54_10 : decode (tb_me 54).1.2.1 10 = .ok (.istore 4, 2) := by decide +kernel
theorem d54_12 : decode (tb_me 54).1.2.1 12 = .ok (.aload_n 0, 1) := by decide +kernel
theorem d54_13 : decode (tb_me 54).1.2.1 13 = .ok (.getfield 21, 3) := by decide +kernel
theorem d54_16 : decode (tb_me 54).1.2.1 16 = .ok (.aload_n 1, 1) := by decide +kernel
theorem d54_17 : decode (tb_me 54).1.2.1 17 = .ok (.iload_n 3, 1) := by decide +kernel
theorem d54_18 : decode (tb_me 54).1.2.1 18 = .ok (.invokevirtual 107, 3) := by decide +kernel
theorem k54_107 (b : Bool) : tb_lk b 54 107 = (2, 87, 0, 0, 0) := by cases b <;> decide +kernel
theorem d54_21 : decode (tb_me 54).1.2.1 21 = .ok (.iconst 0, 1) := by decide +kernel
theorem d54_22 : decode (tb_me 54).1.2.1 22 = .ok (.istore 5, 2) := by decide +kernel
theorem d54_109 : decode (tb_me 54).1.2.1 109 = .ok (.return_, 1) := by decide +kernel
theorem t54 : (tb_me 54).1.2.2.2 = none := by decide +kernel
theorem e54 : (tb_me 54).2.1 = (0, 0) ∧ (tb_me 54).1.2.2.1 = 7 := by decide +kernel
theorem d58_51 : decode (tb_me 58).1.2.1 51 = .ok (.aload_n 0, 1) := by decide +kernel
theorem d58_52 : decode (tb_me 58).1.2.1 52 = .ok (.iload 4, 2) := by decide +kernel
theorem d58_54 : decode (tb_me 58).1.2.1 54 = .ok (.putfield 48, 3) := by decide +kernel
theorem k58_48 (b : Bool) : tb_lk b 58 48 = (1, 1, 9, 0, 0) := by cases b <;> decide +kernel
theorem p58_1_9 : (9 < pm_nf tb_cl 1) ∧ tb_ft 1 9 = .int ∧ pm_fin tb_cl (tb_me 58).1.1 1 9 = true := by decide +kernel
theorem d58_57 : decode (tb_me 58).1.2.1 57 = .ok (.aload_n 0, 1) := by decide +kernel
theorem d58_58 : decode (tb_me 58).1.2.1 58 = .ok (.iload 5, 2) := by decide +kernel
theorem d58_60 : decode (tb_me 58).1.2.1 60 = .ok (.putfield 51, 3) := by decide +kernel
theorem k58_51 (b : Bool) : tb_lk b 58 51 = (1, 1, 10, 0, 0) := by cases b <;> decide +kernel
theorem p58_1_10 : (10 < pm_nf tb_cl 1) ∧ tb_ft 1 10 = .int ∧ pm_fin tb_cl (tb_me 58).1.1 1 10 = true := by decide +kernel
theorem d58_63 : decode (tb_me 58).1.2.1 63 = .ok (.iinc 4 1, 3) := by decide +kernel
theorem d58_66 : decode (tb_me 58).1.2.1 66 = .ok (.goto (-51), 3) := by decide +kernel
theorem d58_15 : decode (tb_me 58).1.2.1 15 = .ok (.iload 4, 2) := by decide +kernel
theorem d58_17 : decode (tb_me 58).1.2.1 17 = .ok (.aload_n 1, 1) := by decide +kernel
theorem d58_18 : decode (tb_me 58).1.2.1 18 = .ok (.getfield 156, 3) := by decide +kernel
theorem k58_156 (b : Bool) : tb_lk b 58 156 = (1, 7, 2, 0, 0) := by cases b <;> decide +kernel
theorem d58_21 : decode (tb_me 58).1.2.1 21 = .ok (.if_icmp .ge 48, 3) := by decide +kernel
theorem d58_24 : decode (tb_me 58).1.2.1 24 = .ok (.aload_n 0, 1) := by decide +kernel
theorem d58_25 : decode (tb_me 58).1.2.1 25 = .ok (.aload_n 1, 1) := by decide +kernel
theorem d58_26 : decode (tb_me 58).1.2.1 26 = .ok (.iload 4, 2) := by decide +kernel
theorem d58_28 : decode (tb_me 58).1.2.1 28 = .ok (.aload_n 2, 1) := by decide +kernel
theorem d58_29 : decode (tb_me 58).1.2.1 29 = .ok (.iload_n 3, 1) := by decide +kernel
theorem d58_30 : decode (tb_me 58).1.2.1 30 = .ok (.invokevirtual 196, 3) := by decide +kernel
theorem k58_196 (b : Bool) : tb_lk b 58 196 = (2, 59, 0, 0, 0) := by cases b <;> decide +kernel
theorem m59 : (tb_me 59).2 = ((0, 0), (4, 1)) ∧ (tb_me 59).1.2.2.1 = 13 := by decide +kernel
theorem d58_33 : decode (tb_me 58).1.2.1 33 = .ok (.istore 5, 2) := by decide +kernel
theorem d58_35 : decode (tb_me 58).1.2.1 35 = .ok (.aload_n 0, 1) := by decide +kernel
theorem d58_36 : decode (tb_me 58).1.2.1 36 = .ok (.getfield 48, 3) := by decide +kernel
theorem f1_9 : (9 < pm_nf tb_cl 1) ∧ tb_ft 1 9 ≠ .long ∧ pm_isR (tb_ft 1 9) = false := by decide +kernel
theorem d58_39 : decode (tb_me 58).1.2.1 39 = .ok (.ifCond .lt 12, 3) := by decide +kernel
theorem d58_42 : decode (tb_me 58).1.2.1 42 = .ok (.iload 5, 2) := by decide +kernel
theorem d58_44 : decode (tb_me 58).1.2.1 44 = .ok (.aload_n 0, 1) := by decide +kernel
theorem d58_45 : decode (tb_me 58).1.2.1 45 = .ok (.getfield 51, 3) := by decide +kernel
theorem f1_10 : (10 < pm_nf tb_cl 1) ∧ tb_ft 1 10 ≠ .long ∧ pm_isR (tb_ft 1 10) = false := by decide +kernel
theorem d58_48 : decode (tb_me 58).1.2.1 48 = .ok (.if_icmp .ge 15, 3) := by decide +kernel
theorem d58_0 : decode (tb_me 58).1.2.1 0 = .ok (.aload_n 0, 1) := by decide +kernel
theorem d58_1 : decode (tb_me 58).1.2.1 1 = .ok (.bipush (-2), 2) := by decide +kernel
theorem d58_3 : decode (tb_me 58).1.2.1 3 = .ok (.putfield 48, 3) := by decide +kernel
theorem d58_6 : decode (tb_me 58).1.2.1 6 = .ok (.aload_n 0, 1) := by decide +kernel
theorem d58_7 : decode (tb_me 58).1.2.1 7 = .ok (.bipush (-2), 2) := by decide +kernel
theorem d58_9 : decode (tb_me 58).1.2.1 9 = .ok (.putfield 51, 3) := by decide +kernel
theorem d58_12 : decode (tb_me 58).1.2.1 12 = .ok (.iconst 0, 1) := by decide +kernel
theorem d58_13 : decode (tb_me 58).1.2.1 13 = .ok (.istore 4, 2) := by decide +kernel
theorem d58_69 : decode (tb_me 58).1.2.1 69 = .ok (.return_, 1) := by decide +kernel
theorem t58 : (tb_me 58).1.2.2.2 = none := by decide +kernel
theorem e58 : (tb_me 58).2.1 = (0, 0) ∧ (tb_me 58).1.2.2.1 = 6 := by decide +kernel
theorem d60_153 : decode (tb_me 60).1.2.1 153 = .ok (.putfield 60, 3) := by decide +kernel
theorem k60_60 (b : Bool) : tb_lk b 60 60 = (1, 1, 13, 0, 0) := by cases b <;> decide +kernel
theorem p60_1_13 : (13 < pm_nf tb_cl 1) ∧ tb_ft 1 13 = .int ∧ pm_fin tb_cl (tb_me 60).1.1 1 13 = true := by decide +kernel
theorem d60_156 : decode (tb_me 60).1.2.1 156 = .ok (.return_, 1) := by decide +kernel
theorem t60 : (tb_me 60).1.2.2.2 = none := by decide +kernel
theorem d60_134 : decode (tb_me 60).1.2.1 134 = .ok (.putfield 63, 3) := by decide +kernel
theorem k60_63 (b : Bool) : tb_lk b 60 63 = (1, 1, 14, 0, 0) := by cases b <;> decide +kernel
theorem p60_1_14 : (14 < pm_nf tb_cl 1) ∧ tb_ft 1 14 = .int ∧ pm_fin tb_cl (tb_me 60).1.1 1 14 = true := by decide +kernel
theorem d60_137 : decode (tb_me 60).1.2.1 137 = .ok (.aload_n 0, 1) := by decide +kernel
theorem d60_138 : decode (tb_me 60).1.2.1 138 = .ok (.aload_n 0, 1) := by decide +kernel
theorem d60_139 : decode (tb_me 60).1.2.1 139 = .ok (.getfield 57, 3) := by decide +kernel
theorem k60_57 (b : Bool) : tb_lk b 60 57 = (1, 1, 12, 0, 0) := by cases b <;> decide +kernel
theorem d60_142 : decode (tb_me 60).1.2.1 142 = .ok (.ifCond .ne 7, 3) := by decide +kernel
theorem d60_149 : decode (tb_me 60).1.2.1 149 = .ok (.aload_n 0, 1) := by decide +kernel
theorem d60_150 : decode (tb_me 60).1.2.1 150 = .ok (.getfield 60, 3) := by decide +kernel
theorem f1_13 : (13 < pm_nf tb_cl 1) ∧ tb_ft 1 13 ≠ .long ∧ pm_isR (tb_ft 1 13) = false := by decide +kernel
theorem d60_145 : decode (tb_me 60).1.2.1 145 = .ok (.iconst 0, 1) := by decide +kernel
theorem d60_146 : decode (tb_me 60).1.2.1 146 = .ok (.goto 7, 3) := by decide +kernel
theorem d60_38 : decode (tb_me 60).1.2.1 38 = .ok (.iload 5, 2) := by decide +kernel
theorem d60_40 : decode (tb_me 60).1.2.1 40 = .ok (.sipush 256, 3) := by decide +kernel
theorem d60_43 : decode (tb_me 60).1.2.1 43 = .ok (.if_icmp .ge 73, 3) := by decide +kernel
theorem d60_46 : decode (tb_me 60).1.2.1 46 = .ok (.iload 5, 2) := by decide +kernel
theorem d60_48 : decode (tb_me 60).1.2.1 48 = .ok (.iload_n 3, 1) := by decide +kernel
theorem d60_49 : decode (tb_me 60).1.2.1 49 = .ok (.iconst (-1), 1) := by decide +kernel
theorem d60_50 : decode (tb_me 60).1.2.1 50 = .ok (.ixor, 1) := by decide +kernel
theorem d60_51 : decode (tb_me 60).1.2.1 51 = .ok (.iand, 1) := by decide +kernel
theorem d60_52 : decode (tb_me 60).1.2.1 52 = .ok (.ifCond .ne 58, 3) := by decide +kernel
theorem d60_110 : decode (tb_me 60).1.2.1 110 = .ok (.iinc 5 1, 3) := by decide +kernel
theorem d60_113 : decode (tb_me 60).1.2.1 113 = .ok (.goto (-75), 3) := by decide +kernel
theorem d60_55 : decode (tb_me 60).1.2.1 55 = .ok (.aload_n 0, 1) := by decide +kernel
theorem d60_56 : decode (tb_me 60).1.2.1 56 = .ok (.getfield 12, 3) := by decide +kernel
theorem k60_12 (b : Bool) : tb_lk b 60 12 = (1, 1, 0, 0, 0) := by cases b <;> decide +kernel
theorem d60_59 : decode (tb_me 60).1.2.1 59 = .ok (.iconst (-1), 1) := by decide +kernel
theorem d60_60 : decode (tb_me 60).1.2.1 60 = .ok (.iload 5, 2) := by decide +kernel
theorem d60_62 : decode (tb_me 60).1.2.1 62 = .ok (.invokevirtual 96, 3) := by decide +kernel
theorem k60_96 (b : Bool) : tb_lk b 60 96 = (2, 69, 0, 0, 0) := by cases b <;> decide +kernel
theorem d60_65 : decode (tb_me 60).1.2.1 65 = .ok (.istore 6, 2) := by decide +kernel
theorem d60_67 : decode (tb_me 60).1.2.1 67 = .ok (.aload_n 1, 1) := by decide +kernel
theorem d60_68 : decode (tb_me 60).1.2.1 68 = .ok (.iload 6, 2) := by decide +kernel
theorem d60_70 : decode (tb_me 60).1.2.1 70 = .ok (.invokevirtual 218, 3) := by decide +kernel
theorem k60_218 (b : Bool) : tb_lk b 60 218 = (2, 146, 0, 0, 0) := by cases b <;> decide +kernel
theorem m146 : (tb_me 146).2 = ((0, 0), (1, 9)) ∧ (tb_me 146).1.2.2.1 = 3 := by decide +kernel
theorem d60_73 : decode (tb_me 60).1.2.1 73 = .ok (.ifCond .eq 37, 3) := by decide +kernel
theorem d60_76 : decode (tb_me 60).1.2.1 76 = .ok (.aload_n 0, 1) := by decide +kernel
theorem d60_77 : decode (tb_me 60).1.2.1 77 = .ok (.dup, 1) := by decide +kernel
theorem d60_78 : decode (tb_me 60).1.2.1 78 = .ok (.getfield 57, 3) := by decide +kernel
theorem d60_81 : decode (tb_me 60).1.2.1 81 = .ok (.iconst 1, 1) := by decide +kernel
theorem d60_82 : decode (tb_me 60).1.2.1 82 = .ok (.iadd, 1) := by decide +kernel
theorem d60_83 : decode (tb_me 60).1.2.1 83 = .ok (.putfield 57, 3) := by decide +kernel
theorem p60_1_12 : (12 < pm_nf tb_cl 1) ∧ tb_ft 1 12 = .int ∧ pm_fin tb_cl (tb_me 60).1.1 1 12 = true := by decide +kernel
theorem d60_86 : decode (tb_me 60).1.2.1 86 = .ok (.aload_n 0, 1) := by decide +kernel
theorem d60_87 : decode (tb_me 60).1.2.1 87 = .ok (.dup, 1) := by decide +kernel
theorem d60_88 : decode (tb_me 60).1.2.1 88 = .ok (.getfield 60, 3) := by decide +kernel
theorem d60_91 : decode (tb_me 60).1.2.1 91 = .ok (.iload 5, 2) := by decide +kernel
theorem d60_93 : decode (tb_me 60).1.2.1 93 = .ok (.iand, 1) := by decide +kernel
theorem d60_94 : decode (tb_me 60).1.2.1 94 = .ok (.putfield 60, 3) := by decide +kernel
theorem d60_97 : decode (tb_me 60).1.2.1 97 = .ok (.iload 4, 2) := by decide +kernel
theorem d60_99 : decode (tb_me 60).1.2.1 99 = .ok (.iload 5, 2) := by decide +kernel
theorem d60_101 : decode (tb_me 60).1.2.1 101 = .ok (.ior, 1) := by decide +kernel
theorem d60_102 : decode (tb_me 60).1.2.1 102 = .ok (.istore 4, 2) := by decide +kernel
theorem d60_104 : decode (tb_me 60).1.2.1 104 = .ok (.aload_n 0, 1) := by decide +kernel
theorem d60_105 : decode (tb_me 60).1.2.1 105 = .ok (.iload 6, 2) := by decide +kernel
theorem d60_107 : decode (tb_me 60).1.2.1 107 = .ok (.invokevirtual 221, 3) := by decide +kernel
theorem k60_221 (b : Bool) : tb_lk b 60 221 = (2, 61, 0, 0, 0) := by cases b <;> decide +kernel
theorem m61 : (tb_me 61).2 = ((0, 0), (1, 1)) ∧ (tb_me 61).1.2.2.1 = 3 := by decide +kernel
theorem d60_0 : decode (tb_me 60).1.2.1 0 = .ok (.aload_n 1, 1) := by decide +kernel
theorem d60_1 : decode (tb_me 60).1.2.1 1 = .ok (.getfield 209, 3) := by decide +kernel
theorem k60_209 (b : Bool) : tb_lk b 60 209 = (1, 9, 0, 0, 0) := by cases b <;> decide +kernel
theorem d60_4 : decode (tb_me 60).1.2.1 4 = .ok (.astore_n 2, 1) := by decide +kernel
theorem d60_5 : decode (tb_me 60).1.2.1 5 = .ok (.aload_n 1, 1) := by decide +kernel
theorem d60_6 : decode (tb_me 60).1.2.1 6 = .ok (.getfield 215, 3) := by decide +kernel
theorem k60_215 (b : Bool) : tb_lk b 60 215 = (1, 9, 1, 0, 0) := by cases b <;> decide +kernel
theorem d60_9 : decode (tb_me 60).1.2.1 9 = .ok (.aload_n 2, 1) := by decide +kernel
theorem d60_10 : decode (tb_me 60).1.2.1 10 = .ok (.invokevirtual 161, 3) := by decide +kernel
theorem k60_161 (b : Bool) : tb_lk b 60 161 = (2, 79, 0, 0, 0) := by cases b <;> decide +kernel
theorem d60_13 : decode (tb_me 60).1.2.1 13 = .ok (.istore_n 3, 1) := by decide +kernel
theorem d60_14 : decode (tb_me 60).1.2.1 14 = .ok (.iconst 0, 1) := by decide +kernel
theorem d60_15 : decode (tb_me 60).1.2.1 15 = .ok (.istore 4, 2) := by decide +kernel
theorem d60_17 : decode (tb_me 60).1.2.1 17 = .ok (.aload_n 0, 1) := by decide +kernel
theorem d60_18 : decode (tb_me 60).1.2.1 18 = .ok (.iconst 0, 1) := by decide +kernel
theorem d60_19 : decode (tb_me 60).1.2.1 19 = .ok (.putfield 57, 3) := by decide +kernel
theorem d60_22 : decode (tb_me 60).1.2.1 22 = .ok (.aload_n 0, 1) := by decide +kernel
theorem d60_23 : decode (tb_me 60).1.2.1 23 = .ok (.iload_n 3, 1) := by decide +kernel
theorem d60_24 : decode (tb_me 60).1.2.1 24 = .ok (.putfield 60, 3) := by decide +kernel
theorem d60_27 : decode (tb_me 60).1.2.1 27 = .ok (.aload_n 0, 1) := by decide +kernel
theorem d60_28 : decode (tb_me 60).1.2.1 28 = .ok (.getfield 66, 3) := by decide +kernel
theorem k60_66 (b : Bool) : tb_lk b 60 66 = (1, 1, 15, 0, 0) := by cases b <;> decide +kernel
theorem d60_31 : decode (tb_me 60).1.2.1 31 = .ok (.iconst 0, 1) := by decide +kernel
theorem d60_32 : decode (tb_me 60).1.2.1 32 = .ok (.invokestatic 175, 3) := by decide +kernel
theorem k60_175 (b : Bool) : tb_lk b 60 175 = (4, 270, 0, 0, 0) := by cases b <;> decide +kernel
theorem d60_35 : decode (tb_me 60).1.2.1 35 = .ok (.iconst 0, 1) := by decide +kernel
theorem d60_36 : decode (tb_me 60).1.2.1 36 = .ok (.istore 5, 2) := by decide +kernel
theorem d60_116 : decode (tb_me 60).1.2.1 116 = .ok (.aload_n 0, 1) := by decide +kernel
theorem d60_117 : decode (tb_me 60).1.2.1 117 = .ok (.aload_n 0, 1) := by decide +kernel
theorem d60_118 : decode (tb_me 60).1.2.1 118 = .ok (.getfield 57, 3) := by decide +kernel
theorem d60_121 : decode (tb_me 60).1.2.1 121 = .ok (.ifCond .ne 7, 3) := by decide +kernel
theorem d60_128 : decode (tb_me 60).1.2.1 128 = .ok (.iload_n 3, 1) := by decide +kernel
theorem d60_129 : decode (tb_me 60).1.2.1 129 = .ok (.iload 4, 2) := by decide +kernel
theorem d60_131 : decode (tb_me 60).1.2.1 131 = .ok (.iconst (-1), 1) := by decide +kernel
theorem d60_132 : decode (tb_me 60).1.2.1 132 = .ok (.ixor, 1) := by decide +kernel
theorem d60_133 : decode (tb_me 60).1.2.1 133 = .ok (.iand, 1) := by decide +kernel
theorem d60_124 : decode (tb_me 60).1.2.1 124 = .ok (.iconst 0, 1) := by decide +kernel
theorem d60_125 : decode (tb_me 60).1.2.1 125 = .ok (.goto 9, 3) := by decide +kernel
theorem e60 : (tb_me 60).2.1 = (0, 0) ∧ (tb_me 60).1.2.2.1 = 7 := by decide +kernel
theorem d65_58 : decode (tb_me 65).1.2.1 58 = .ok (.invokevirtual 246, 3) := by decide +kernel
theorem k65_246 (b : Bool) : tb_lk b 65 246 = (2, 77, 0, 0, 0) := by cases b <;> decide +kernel
theorem m77 : (tb_me 77).2 = ((0, 0), (2, 3)) ∧ (tb_me 77).1.2.2.1 = 3 := by decide +kernel
theorem d65_61 : decode (tb_me 65).1.2.1 61 = .ok (.iinc 3 1, 3) := by decide +kernel
theorem d65_64 : decode (tb_me 65).1.2.1 64 = .ok (.goto (-49), 3) := by decide +kernel
theorem d65_15 : decode (tb_me 65).1.2.1 15 = .ok (.iload_n 3, 1) := by decide +kernel
theorem d65_16 : decode (tb_me 65).1.2.1 16 = .ok (.aload_n 1, 1) := by decide +kernel
theorem d65_17 : decode (tb_me 65).1.2.1 17 = .ok (.getfield 140, 3) := by decide +kernel
theorem k65_140 (b : Bool) : tb_lk b 65 140 = (1, 7, 1, 0, 0) := by cases b <;> decide +kernel
theorem d65_20 : decode (tb_me 65).1.2.1 20 = .ok (.if_icmp .ge 47, 3) := by decide +kernel
theorem d65_23 : decode (tb_me 65).1.2.1 23 = .ok (.aload_n 0, 1) := by decide +kernel
theorem d65_24 : decode (tb_me 65).1.2.1 24 = .ok (.getfield 81, 3) := by decide +kernel
theorem k65_81 (b : Bool) : tb_lk b 65 81 = (1, 1, 19, 0, 0) := by cases b <;> decide +kernel
theorem f1_19 : (19 < pm_nf tb_cl 1) ∧ tb_ft 1 19 ≠ .long ∧ pm_isR (tb_ft 1 19) = true := by decide +kernel
theorem d65_27 : decode (tb_me 65).1.2.1 27 = .ok (.getfield 243, 3) := by decide +kernel
theorem k65_243 (b : Bool) : tb_lk b 65 243 = (1, 3, 1, 0, 0) := by cases b <;> decide +kernel
theorem d65_30 : decode (tb_me 65).1.2.1 30 = .ok (.iload_n 3, 1) := by decide +kernel
theorem d65_31 : decode (tb_me 65).1.2.1 31 = .ok (.invokestatic 104, 3) := by decide +kernel
theorem k65_104 (b : Bool) : tb_lk b 65 104 = (5, 34, 0, 0, 0) := by cases b <;> decide +kernel
theorem d65_34 : decode (tb_me 65).1.2.1 34 = .ok (.ifCond .ne 27, 3) := by decide +kernel
theorem d65_37 : decode (tb_me 65).1.2.1 37 = .ok (.aload_n 0, 1) := by decide +kernel
theorem d65_38 : decode (tb_me 65).1.2.1 38 = .ok (.getfield 81, 3) := by decide +kernel
theorem d65_41 : decode (tb_me 65).1.2.1 41 = .ok (.iload_n 3, 1) := by decide +kernel
theorem d65_42 : decode (tb_me 65).1.2.1 42 = .ok (.aload_n 0, 1) := by decide +kernel
theorem d65_43 : decode (tb_me 65).1.2.1 43 = .ok (.invokevirtual 236, 3) := by decide +kernel
theorem k65_236 (b : Bool) : tb_lk b 65 236 = (2, 66, 0, 0, 0) := by cases b <;> decide +kernel
theorem m66 : (tb_me 66).2 = ((0, 0), (0, 1)) ∧ (tb_me 66).1.2.2.1 = 1 := by decide +kernel
theorem d65_46 : decode (tb_me 65).1.2.1 46 = .ok (.bipush 100, 2) := by decide +kernel
theorem d65_48 : decode (tb_me 65).1.2.1 48 = .ok (.irem, 1) := by decide +kernel
theorem d65_49 : decode (tb_me 65).1.2.1 49 = .ok (.iload_n 2, 1) := by decide +kernel
theorem d65_50 : decode (tb_me 65).1.2.1 50 = .ok (.if_icmp .lt 7, 3) := by decide +kernel
theorem d65_57 : decode (tb_me 65).1.2.1 57 = .ok (.iconst 0, 1) := by decide +kernel
theorem d65_53 : decode (tb_me 65).1.2.1 53 = .ok (.iconst 1, 1) := by decide +kernel
theorem d65_54 : decode (tb_me 65).1.2.1 54 = .ok (.goto 4, 3) := by decide +kernel
theorem d65_0 : decode (tb_me 65).1.2.1 0 = .ok (.aload_n 0, 1) := by decide +kernel
theorem d65_1 : decode (tb_me 65).1.2.1 1 = .ok (.getfield 81, 3) := by decide +kernel
theorem d65_4 : decode (tb_me 65).1.2.1 4 = .ok (.aload_n 0, 1) := by decide +kernel
theorem d65_5 : decode (tb_me 65).1.2.1 5 = .ok (.invokevirtual 236, 3) := by decide +kernel
theorem d65_8 : decode (tb_me 65).1.2.1 8 = .ok (.iconst 3, 1) := by decide +kernel
theorem d65_9 : decode (tb_me 65).1.2.1 9 = .ok (.irem, 1) := by decide +kernel
theorem d65_10 : decode (tb_me 65).1.2.1 10 = .ok (.putfield 240, 3) := by decide +kernel
theorem k65_240 (b : Bool) : tb_lk b 65 240 = (1, 3, 3, 0, 0) := by cases b <;> decide +kernel
theorem p65_3_3 : (3 < pm_nf tb_cl 3) ∧ tb_ft 3 3 = .int ∧ pm_fin tb_cl (tb_me 65).1.1 3 3 = true := by decide +kernel
theorem d65_13 : decode (tb_me 65).1.2.1 13 = .ok (.iconst 0, 1) := by decide +kernel
theorem d65_14 : decode (tb_me 65).1.2.1 14 = .ok (.istore_n 3, 1) := by decide +kernel
theorem d65_67 : decode (tb_me 65).1.2.1 67 = .ok (.aload_n 0, 1) := by decide +kernel
theorem d65_68 : decode (tb_me 65).1.2.1 68 = .ok (.getfield 12, 3) := by decide +kernel
theorem k65_12 (b : Bool) : tb_lk b 65 12 = (1, 1, 0, 0, 0) := by cases b <;> decide +kernel
theorem d65_71 : decode (tb_me 65).1.2.1 71 = .ok (.aload_n 0, 1) := by decide +kernel
theorem d65_72 : decode (tb_me 65).1.2.1 72 = .ok (.getfield 81, 3) := by decide +kernel
theorem d65_75 : decode (tb_me 65).1.2.1 75 = .ok (.getfield 89, 3) := by decide +kernel
theorem k65_89 (b : Bool) : tb_lk b 65 89 = (1, 3, 4, 0, 0) := by cases b <;> decide +kernel
theorem d65_78 : decode (tb_me 65).1.2.1 78 = .ok (.aload_n 0, 1) := by decide +kernel
theorem d65_79 : decode (tb_me 65).1.2.1 79 = .ok (.getfield 81, 3) := by decide +kernel
theorem d65_82 : decode (tb_me 65).1.2.1 82 = .ok (.aload_n 1, 1) := by decide +kernel
theorem d65_83 : decode (tb_me 65).1.2.1 83 = .ok (.invokevirtual 92, 3) := by decide +kernel
theorem k65_92 (b : Bool) : tb_lk b 65 92 = (2, 81, 0, 0, 0) := by cases b <;> decide +kernel
theorem d65_86 : decode (tb_me 65).1.2.1 86 = .ok (.invokevirtual 96, 3) := by decide +kernel
theorem k65_96 (b : Bool) : tb_lk b 65 96 = (2, 69, 0, 0, 0) := by cases b <;> decide +kernel
theorem d65_89 : decode (tb_me 65).1.2.1 89 = .ok (.istore_n 3, 1) := by decide +kernel
theorem d65_90 : decode (tb_me 65).1.2.1 90 = .ok (.iconst 1, 1) := by decide +kernel
theorem d65_91 : decode (tb_me 65).1.2.1 91 = .ok (.aload_n 1, 1) := by decide +kernel
theorem d65_92 : decode (tb_me 65).1.2.1 92 = .ok (.getfield 156, 3) := by decide +kernel
theorem k65_156 (b : Bool) : tb_lk b 65 156 = (1, 7, 2, 0, 0) := by cases b <;> decide +kernel
theorem d65_95 : decode (tb_me 65).1.2.1 95 = .ok (.ishl, 1) := by decide +kernel
theorem d65_96 : decode (tb_me 65).1.2.1 96 = .ok (.iconst 1, 1) := by decide +kernel
theorem d65_97 : decode (tb_me 65).1.2.1 97 = .ok (.isub, 1) := by decide +kernel
theorem d65_98 : decode (tb_me 65).1.2.1 98 = .ok (.iload_n 3, 1) := by decide +kernel
theorem d65_99 : decode (tb_me 65).1.2.1 99 = .ok (.iconst (-1), 1) := by decide +kernel
theorem d65_100 : decode (tb_me 65).1.2.1 100 = .ok (.ixor, 1) := by decide +kernel
theorem d65_101 : decode (tb_me 65).1.2.1 101 = .ok (.iand, 1) := by decide +kernel
theorem d65_102 : decode (tb_me 65).1.2.1 102 = .ok (.istore 4, 2) := by decide +kernel
theorem d65_104 : decode (tb_me 65).1.2.1 104 = .ok (.aload_n 0, 1) := by decide +kernel
theorem d65_105 : decode (tb_me 65).1.2.1 105 = .ok (.dup, 1) := by decide +kernel
theorem d65_106 : decode (tb_me 65).1.2.1 106 = .ok (.getfield 69, 3) := by decide +kernel
theorem k65_69 (b : Bool) : tb_lk b 65 69 = (1, 1, 16, 0, 0) := by cases b <;> decide +kernel
theorem f1_16 : (16 < pm_nf tb_cl 1) ∧ tb_ft 1 16 ≠ .long ∧ pm_isR (tb_ft 1 16) = false := by decide +kernel
theorem d65_109 : decode (tb_me 65).1.2.1 109 = .ok (.iload 4, 2) := by decide +kernel
theorem d65_111 : decode (tb_me 65).1.2.1 111 = .ok (.invokestatic 151, 3) := by decide +kernel
theorem k65_151 (b : Bool) : tb_lk b 65 151 = (4, 259, 0, 0, 0) := by cases b <;> decide +kernel
theorem d65_114 : decode (tb_me 65).1.2.1 114 = .ok (.iadd, 1) := by decide +kernel
theorem d65_115 : decode (tb_me 65).1.2.1 115 = .ok (.putfield 69, 3) := by decide +kernel
theorem p65_1_16 : (16 < pm_nf tb_cl 1) ∧ tb_ft 1 16 = .int ∧ pm_fin tb_cl (tb_me 65).1.1 1 16 = true := by decide +kernel
theorem d65_118 : decode (tb_me 65).1.2.1 118 = .ok (.aload_n 0, 1) := by decide +kernel
theorem d65_119 : decode (tb_me 65).1.2.1 119 = .ok (.dup, 1) := by decide +kernel
theorem d65_120 : decode (tb_me 65).1.2.1 120 = .ok (.getfield 72, 3) := by decide +kernel
theorem k65_72 (b : Bool) : tb_lk b 65 72 = (1, 1, 17, 0, 0) := by cases b <;> decide +kernel
theorem f1_17 : (17 < pm_nf tb_cl 1) ∧ tb_ft 1 17 ≠ .long ∧ pm_isR (tb_ft 1 17) = false := by decide +kernel
theorem d65_123 : decode (tb_me 65).1.2.1 123 = .ok (.aload_n 1, 1) := by decide +kernel
theorem d65_124 : decode (tb_me 65).1.2.1 124 = .ok (.iload 4, 2) := by decide +kernel
theorem d65_126 : decode (tb_me 65).1.2.1 126 = .ok (.invokestatic 164, 3) := by decide +kernel
theorem k65_164 (b : Bool) : tb_lk b 65 164 = (4, 52, 0, 0, 0) := by cases b <;> decide +kernel
theorem d65_129 : decode (tb_me 65).1.2.1 129 = .ok (.iadd, 1) := by decide +kernel
theorem d65_130 : decode (tb_me 65).1.2.1 130 = .ok (.putfield 72, 3) := by decide +kernel
theorem p65_1_17 : (17 < pm_nf tb_cl 1) ∧ tb_ft 1 17 = .int ∧ pm_fin tb_cl (tb_me 65).1.1 1 17 = true := by decide +kernel
theorem d65_133 : decode (tb_me 65).1.2.1 133 = .ok (.aload_n 0, 1) := by decide +kernel
theorem d65_134 : decode (tb_me 65).1.2.1 134 = .ok (.getfield 81, 3) := by decide +kernel
theorem d65_137 : decode (tb_me 65).1.2.1 137 = .ok (.invokevirtual 250, 3) := by decide +kernel
theorem k65_250 (b : Bool) : tb_lk b 65 250 = (2, 78, 0, 0, 0) := by cases b <;> decide +kernel
theorem m78 : (tb_me 78).2 = ((0, 0), (0, 3)) ∧ (tb_me 78).1.2.2.1 = 2 := by decide +kernel
theorem d65_140 : decode (tb_me 65).1.2.1 140 = .ok (.return_, 1) := by decide +kernel
theorem t65 : (tb_me 65).1.2.2.2 = none := by decide +kernel
theorem e65 : (tb_me 65).2.1 = (0, 0) ∧ (tb_me 65).1.2.2.1 = 5 := by decide +kernel
theorem d45_81 : decode (tb_me 45).1.2.1 81 = .ok (.istore 6, 2) := by decide +kernel
theorem d45_83 : decode (tb_me 45).1.2.1 83 = .ok (.iload 6, 2) := by decide +kernel
theorem d45_85 : decode (tb_me 45).1.2.1 85 = .ok (.ifCond .ne 49, 3) := by decide +kernel
theorem d45_134 : decode (tb_me 45).1.2.1 134 = .ok (.iinc 5 1, 3) := by decide +kernel
theorem d45_137 : decode (tb_me 45).1.2.1 137 = .ok (.goto (-99), 3) := by decide +kernel
theorem d45_88 : decode (tb_me 45).1.2.1 88 = .ok (.aload_n 0, 1) := by decide +kernel
theorem d45_89 : decode (tb_me 45).1.2.1 89 = .ok (.aload_n 1, 1) := by decide +kernel
theorem d45_90 : decode (tb_me 45).1.2.1 90 = .ok (.iload 4, 2) := by decide +kernel
theorem d45_92 : decode (tb_me 45).1.2.1 92 = .ok (.aload_n 2, 1) := by decide +kernel
theorem d45_93 : decode (tb_me 45).1.2.1 93 = .ok (.getfield 89, 3) := by decide +kernel
theorem k45_89 (b : Bool) : tb_lk b 45 89 = (1, 3, 4, 0, 0) := by cases b <;> decide +kernel
theorem d45_96 : decode (tb_me 45).1.2.1 96 = .ok (.invokevirtual 119, 3) := by decide +kernel
theorem k45_119 (b : Bool) : tb_lk b 45 119 = (2, 46, 0, 0, 0) := by cases b <;> decide +kernel
theorem m46 : (tb_me 46).2 = ((0, 0), (3, 1)) ∧ (tb_me 46).1.2.2.1 = 7 := by decide +kernel
theorem d45_99 : decode (tb_me 45).1.2.1 99 = .ok (.ifCond .eq 35, 3) := by decide +kernel
theorem d45_102 : decode (tb_me 45).1.2.1 102 = .ok (.aload_n 0, 1) := by decide +kernel
theorem d45_103 : decode (tb_me 45).1.2.1 103 = .ok (.invokevirtual 123, 3) := by decide +kernel
theorem k45_123 (b : Bool) : tb_lk b 45 123 = (2, 48, 0, 0, 0) := by cases b <;> decide +kernel
theorem m48 : (tb_me 48).2 = ((0, 0), (0, 1)) ∧ (tb_me 48).1.2.2.1 = 2 := by decide +kernel
theorem d45_106 : decode (tb_me 45).1.2.1 106 = .ok (.ifCond .eq 28, 3) := by decide +kernel
theorem d45_109 : decode (tb_me 45).1.2.1 109 = .ok (.aload_n 0, 1) := by decide +kernel
theorem d45_110 : decode (tb_me 45).1.2.1 110 = .ok (.aload_n 0, 1) := by decide +kernel
theorem d45_111 : decode (tb_me 45).1.2.1 111 = .ok (.getfield 21, 3) := by decide +kernel
theorem k45_21 (b : Bool) : tb_lk b 45 21 = (1, 1, 1, 0, 0) := by cases b <;> decide +kernel
theorem d45_114 : decode (tb_me 45).1.2.1 114 = .ok (.getfield 116, 3) := by decide +kernel
theorem k45_116 (b : Bool) : tb_lk b 45 116 = (1, 5, 6, 0, 0) := by cases b <;> decide +kernel
theorem d45_117 : decode (tb_me 45).1.2.1 117 = .ok (.putfield 29, 3) := by decide +kernel
theorem k45_29 (b : Bool) : tb_lk b 45 29 = (1, 1, 3, 0, 0) := by cases b <;> decide +kernel
theorem p45_1_3 : (3 < pm_nf tb_cl 1) ∧ tb_ft 1 3 = .int ∧ pm_fin tb_cl (tb_me 45).1.1 1 3 = true := by decide +kernel
theorem d45_120 : decode (tb_me 45).1.2.1 120 = .ok (.aload_n 0, 1) := by decide +kernel
theorem d45_121 : decode (tb_me 45).1.2.1 121 = .ok (.getfield 33, 3) := by decide +kernel
theorem k45_33 (b : Bool) : tb_lk b 45 33 = (1, 1, 4, 0, 0) := by cases b <;> decide +kernel
theorem d45_124 : decode (tb_me 45).1.2.1 124 = .ok (.iconst 0, 1) := by decide +kernel
theorem d45_125 : decode (tb_me 45).1.2.1 125 = .ok (.aload_n 0, 1) := by decide +kernel
theorem d45_126 : decode (tb_me 45).1.2.1 126 = .ok (.getfield 25, 3) := by decide +kernel
theorem k45_25 (b : Bool) : tb_lk b 45 25 = (1, 1, 2, 0, 0) := by cases b <;> decide +kernel
theorem d45_129 : decode (tb_me 45).1.2.1 129 = .ok (.iconst 0, 1) := by decide +kernel
theorem d45_130 : decode (tb_me 45).1.2.1 130 = .ok (.iconst 5, 1) := by decide +kernel
theorem d45_131 : decode (tb_me 45).1.2.1 131 = .ok (.invokestatic 126, 3) := by decide +kernel
theorem k45_126 (b : Bool) : tb_lk b 45 126 = (14, 0, 0, 0, 0) := by cases b <;> decide +kernel
theorem d45_38 : decode (tb_me 45).1.2.1 38 = .ok (.iload 5, 2) := by decide +kernel
theorem d45_40 : decode (tb_me 45).1.2.1 40 = .ok (.ldc 111, 2) := by decide +kernel
theorem k45_111 (b : Bool) : tb_lk b 45 111 = (11, 0, 0, 1000000, 0) := by cases b <;> decide +kernel
theorem d45_42 : decode (tb_me 45).1.2.1 42 = .ok (.if_icmp .ge 98, 3) := by decide +kernel
theorem d45_45 : decode (tb_me 45).1.2.1 45 = .ok (.aload_n 0, 1) := by decide +kernel
theorem d45_46 : decode (tb_me 45).1.2.1 46 = .ok (.getfield 21, 3) := by decide +kernel
theorem d45_49 : decode (tb_me 45).1.2.1 49 = .ok (.invokevirtual 112, 3) := by decide +kernel
theorem k45_112 (b : Bool) : tb_lk b 45 112 = (2, 90, 0, 0, 0) := by cases b <;> decide +kernel
theorem d45_52 : decode (tb_me 45).1.2.1 52 = .ok (.ifCond .eq 88, 3) := by decide +kernel
theorem d45_55 : decode (tb_me 45).1.2.1 55 = .ok (.aload_n 0, 1) := by decide +kernel
theorem d45_56 : decode (tb_me 45).1.2.1 56 = .ok (.getfield 29, 3) := by decide +kernel
theorem d45_59 : decode (tb_me 45).1.2.1 59 = .ok (.ifCond .le 21, 3) := by decide +kernel
theorem d45_80 : decode (tb_me 45).1.2.1 80 = .ok (.iconst 0, 1) := by decide +kernel
theorem d45_62 : decode (tb_me 45).1.2.1 62 = .ok (.aload_n 0, 1) := by decide +kernel
theorem d45_63 : decode (tb_me 45).1.2.1 63 = .ok (.getfield 21, 3) := by decide +kernel
theorem d45_66 : decode (tb_me 45).1.2.1 66 = .ok (.getfield 116, 3) := by decide +kernel
theorem d45_69 : decode (tb_me 45).1.2.1 69 = .ok (.aload_n 0, 1) := by decide +kernel
theorem d45_70 : decode (tb_me 45).1.2.1 70 = .ok (.getfield 29, 3) := by decide +kernel
theorem d45_73 : decode (tb_me 45).1.2.1 73 = .ok (.if_icmp .le 7, 3) := by decide +kernel
theorem d45_76 : decode (tb_me 45).1.2.1 76 = .ok (.iconst 1, 1) := by decide +kernel
theorem d45_77 : decode (tb_me 45).1.2.1 77 = .ok (.goto 4, 3) := by decide +kernel
theorem d45_0 : decode (tb_me 45).1.2.1 0 = .ok (.aload_n 0, 1) := by decide +kernel
theorem d45_1 : decode (tb_me 45).1.2.1 1 = .ok (.iconst 0, 1) := by decide +kernel
theorem d45_2 : decode (tb_me 45).1.2.1 2 = .ok (.putfield 29, 3) := by decide +kernel
theorem d45_5 : decode (tb_me 45).1.2.1 5 = .ok (.aload_n 0, 1) := by decide +kernel
theorem d45_6 : decode (tb_me 45).1.2.1 6 = .ok (.aload_n 1, 1) := by decide +kernel
theorem d45_7 : decode (tb_me 45).1.2.1 7 = .ok (.aload_n 2, 1) := by decide +kernel
theorem d45_8 : decode (tb_me 45).1.2.1 8 = .ok (.invokevirtual 100, 3) := by decide +kernel
theorem k45_100 (b : Bool) : tb_lk b 45 100 = (2, 44, 0, 0, 0) := by cases b <;> decide +kernel
theorem m44 : (tb_me 44).2 = ((0, 0), (2, 1)) ∧ (tb_me 44).1.2.2.1 = 3 := by decide +kernel
theorem d45_11 : decode (tb_me 45).1.2.1 11 = .ok (.iload_n 3, 1) := by decide +kernel
theorem d45_12 : decode (tb_me 45).1.2.1 12 = .ok (.invokestatic 104, 3) := by decide +kernel
theorem k45_104 (b : Bool) : tb_lk b 45 104 = (5, 34, 0, 0, 0) := by cases b <;> decide +kernel
theorem d45_15 : decode (tb_me 45).1.2.1 15 = .ok (.ifCond .ne 4, 3) := by decide +kernel
theorem d45_19 : decode (tb_me 45).1.2.1 19 = .ok (.aload_n 2, 1) := by decide +kernel
theorem d45_20 : decode (tb_me 45).1.2.1 20 = .ok (.aload_n 1, 1) := by decide +kernel
theorem d45_21 : decode (tb_me 45).1.2.1 21 = .ok (.invokevirtual 92, 3) := by decide +kernel
theorem k45_92 (b : Bool) : tb_lk b 45 92 = (2, 81, 0, 0, 0) := by cases b <;> decide +kernel
theorem d45_24 : decode (tb_me 45).1.2.1 24 = .ok (.istore 4, 2) := by decide +kernel
theorem d45_26 : decode (tb_me 45).1.2.1 26 = .ok (.aload_n 0, 1) := by decide +kernel
theorem d45_27 : decode (tb_me 45).1.2.1 27 = .ok (.getfield 21, 3) := by decide +kernel
theorem d45_30 : decode (tb_me 45).1.2.1 30 = .ok (.aload_n 1, 1) := by decide +kernel
theorem d45_31 : decode (tb_me 45).1.2.1 31 = .ok (.iload_n 3, 1) := by decide +kernel
theorem d45_32 : decode (tb_me 45).1.2.1 32 = .ok (.invokevirtual 107, 3) := by decide +kernel
theorem k45_107 (b : Bool) : tb_lk b 45 107 = (2, 87, 0, 0, 0) := by cases b <;> decide +kernel
theorem d45_35 : decode (tb_me 45).1.2.1 35 = .ok (.iconst 0, 1) := by decide +kernel
theorem d45_36 : decode (tb_me 45).1.2.1 36 = .ok (.istore 5, 2) := by decide +kernel
theorem d45_140 : decode (tb_me 45).1.2.1 140 = .ok (.return_, 1) := by decide +kernel
theorem t45 : (tb_me 45).1.2.2.2 = none := by decide +kernel
theorem d45_18 : decode (tb_me 45).1.2.1 18 = .ok (.return_, 1) := by decide +kernel
theorem e45 : (tb_me 45).2.1 = (0, 0) ∧ (tb_me 45).1.2.2.1 = 7 := by decide +kernel
theorem d64_41 : decode (tb_me 64).1.2.1 41 = .ok (.iload 6, 2) := by decide +kernel
theorem d64_43 : decode (tb_me 64).1.2.1 43 = .ok (.iload_n 3, 1) := by decide +kernel
theorem d64_44 : decode (tb_me 64).1.2.1 44 = .ok (.if_icmp .ge 19, 3) := by decide +kernel
theorem d64_47 : decode (tb_me 64).1.2.1 47 = .ok (.aload_n 0, 1) := by decide +kernel
theorem d64_48 : decode (tb_me 64).1.2.1 48 = .ok (.aload_n 1, 1) := by decide +kernel
theorem d64_49 : decode (tb_me 64).1.2.1 49 = .ok (.getfield 209, 3) := by decide +kernel
theorem k64_209 (b : Bool) : tb_lk b 64 209 = (1, 9, 0, 0, 0) := by cases b <;> decide +kernel
theorem d64_52 : decode (tb_me 64).1.2.1 52 = .ok (.iload 4, 2) := by decide +kernel
theorem d64_54 : decode (tb_me 64).1.2.1 54 = .ok (.invokevirtual 233, 3) := by decide +kernel
theorem k64_233 (b : Bool) : tb_lk b 64 233 = (2, 65, 0, 0, 0) := by cases b <;> decide +kernel
theorem m65 : (tb_me 65).2 = ((0, 0), (2, 1)) ∧ (tb_me 65).1.2.2.1 = 5 := by decide +kernel
theorem d64_57 : decode (tb_me 64).1.2.1 57 = .ok (.iinc 6 1, 3) := by decide +kernel
theorem d64_60 : decode (tb_me 64).1.2.1 60 = .ok (.goto (-19), 3) := by decide +kernel
theorem d64_21 : decode (tb_me 64).1.2.1 21 = .ok (.iload 5, 2) := by decide +kernel
theorem d64_23 : decode (tb_me 64).1.2.1 23 = .ok (.iload_n 2, 1) := by decide +kernel
theorem d64_24 : decode (tb_me 64).1.2.1 24 = .ok (.if_icmp .ge 45, 3) := by decide +kernel
theorem d64_27 : decode (tb_me 64).1.2.1 27 = .ok (.aload_n 0, 1) := by decide +kernel
theorem d64_28 : decode (tb_me 64).1.2.1 28 = .ok (.getfield 81, 3) := by decide +kernel
theorem k64_81 (b : Bool) : tb_lk b 64 81 = (1, 1, 19, 0, 0) := by cases b <;> decide +kernel
theorem d64_31 : decode (tb_me 64).1.2.1 31 = .ok (.aload_n 1, 1) := by decide +kernel
theorem d64_32 : decode (tb_me 64).1.2.1 32 = .ok (.getfield 215, 3) := by decide +kernel
theorem k64_215 (b : Bool) : tb_lk b 64 215 = (1, 9, 1, 0, 0) := by cases b <;> decide +kernel
theorem d64_35 : decode (tb_me 64).1.2.1 35 = .ok (.invokevirtual 229, 3) := by decide +kernel
theorem k64_229 (b : Bool) : tb_lk b 64 229 = (2, 76, 0, 0, 0) := by cases b <;> decide +kernel
theorem d64_38 : decode (tb_me 64).1.2.1 38 = .ok (.iconst 0, 1) := by decide +kernel
theorem d64_39 : decode (tb_me 64).1.2.1 39 = .ok (.istore 6, 2) := by decide +kernel
theorem d64_63 : decode (tb_me 64).1.2.1 63 = .ok (.iinc 5 1, 3) := by decide +kernel
theorem d64_66 : decode (tb_me 64).1.2.1 66 = .ok (.goto (-45), 3) := by decide +kernel
theorem d64_0 : decode (tb_me 64).1.2.1 0 = .ok (.aload_n 0, 1) := by decide +kernel
theorem d64_1 : decode (tb_me 64).1.2.1 1 = .ok (.iconst 0, 1) := by decide +kernel
theorem d64_2 : decode (tb_me 64).1.2.1 2 = .ok (.putfield 69, 3) := by decide +kernel
theorem k64_69 (b : Bool) : tb_lk b 64 69 = (1, 1, 16, 0, 0) := by cases b <;> decide +kernel
theorem p64_1_16 : (16 < pm_nf tb_cl 1) ∧ tb_ft 1 16 = .int ∧ pm_fin tb_cl (tb_me 64).1.1 1 16 = true := by decide +kernel
theorem d64_5 : decode (tb_me 64).1.2.1 5 = .ok (.aload_n 0, 1) := by decide +kernel
theorem d64_6 : decode (tb_me 64).1.2.1 6 = .ok (.iconst 0, 1) := by decide +kernel
theorem d64_7 : decode (tb_me 64).1.2.1 7 = .ok (.putfield 72, 3) := by decide +kernel
theorem k64_72 (b : Bool) : tb_lk b 64 72 = (1, 1, 17, 0, 0) := by cases b <;> decide +kernel
theorem p64_1_17 : (17 < pm_nf tb_cl 1) ∧ tb_ft 1 17 = .int ∧ pm_fin tb_cl (tb_me 64).1.1 1 17 = true := by decide +kernel
theorem d64_10 : decode (tb_me 64).1.2.1 10 = .ok (.aload_n 0, 1) := by decide +kernel
theorem d64_11 : decode (tb_me 64).1.2.1 11 = .ok (.aload_n 1, 1) := by decide +kernel
theorem d64_12 : decode (tb_me 64).1.2.1 12 = .ok (.getfield 228, 3) := by decide +kernel
theorem k64_228 (b : Bool) : tb_lk b 64 228 = (1, 9, 5, 0, 0) := by cases b <;> decide +kernel
theorem d64_15 : decode (tb_me 64).1.2.1 15 = .ok (.putfield 75, 3) := by decide +kernel
theorem k64_75 (b : Bool) : tb_lk b 64 75 = (1, 1, 18, 0, 0) := by cases b <;> decide +kernel
theorem p64_1_18 : (18 < pm_nf tb_cl 1) ∧ tb_ft 1 18 = .int ∧ pm_fin tb_cl (tb_me 64).1.1 1 18 = true := by decide +kernel
theorem d64_18 : decode (tb_me 64).1.2.1 18 = .ok (.iconst 0, 1) := by decide +kernel
theorem d64_19 : decode (tb_me 64).1.2.1 19 = .ok (.istore 5, 2) := by decide +kernel
theorem d64_69 : decode (tb_me 64).1.2.1 69 = .ok (.return_, 1) := by decide +kernel
theorem t64 : (tb_me 64).1.2.2.2 = none := by decide +kernel
theorem e64 : (tb_me 64).2.1 = (0, 0) ∧ (tb_me 64).1.2.2.1 = 7 := by decide +kernel
noncomputable def a_learn (l0 : Nat) (l1 : Nat) (h : pm_H) : Option pm_H := (gO h l0 0 2).bind fun y1 => (c_learn y1 l1 h).bind fun q2 => some q2
theorem T_a_learn (b : Bool) (L : Nat) (xs : Nat → Int32) (d : Nat) (hd : 6 ≤ d) (h : pm_H) (s_h : h.1 = tb_SH) (l0 : Nat) (l1 : Nat) (f_l0 : mi_o l0 1 = true) (f_l1 : mi_o l1 7 = true) {r : pm_H} (hm : a_learn l0 l1 h = some r) : PC b L xs d 43 [(Value.ref l0), (Value.ref l1)] h (fun (v0 : Option Value) (h2 : pm_H) => v0 = none ∧ h2 = r ∧ h2.1 = tb_SH) := by
  refine pc_in e43 (ls0 := [(Value.ref l0), (Value.ref l1)]) rfl ?_
  have key : ∀ (Q : Option Value → pm_H → Prop), (r.1 = tb_SH → Q none r) → PW b L xs d 43 0 0 0 [(Value.ref l0), (Value.ref l1)] [] h Q := by
    intro Q hE
    rw [a_learn] at hm
    refine pw_l (pc := 0) d43_0 rfl rfl rfl ?_
    obtain ⟨y1, e_y1, hm⟩ := ob_x hm
    have f_y1 := gO_x e_y1
    refine pw_gr (pc := 1) d43_1 (k43_12 b) (sho s_h f_l0) f1_0 f_y1.1 ?_
    refine pw_l (pc := 4) d43_4 rfl rfl rfl ?_
    obtain ⟨q2, e_q2, hm⟩ := ob_x hm
    refine pw_v (pc := 5) (k := y1) (by omega) d43_5 (k43_85 b) (by decide) m68 (by decide) rfl (sho s_h f_y1.2) (Nat.le_of_ble_eq_true rfl) (Nat.le_of_ble_eq_true rfl) rfl rfl (T_c_learn b L xs (d - 1) (by omega) h s_h y1 l1 f_y1.2 f_l1 e_q2) (fun v0 h0 hq => ?_)
    obtain ⟨rfl, hh0, s_q2⟩ := hq
    rw [hh0] at s_q2 ⊢
    simp only [Option.toList_none, List.nil_append]
    obtain rfl := Option.some.inj hm
    refine pw_rv (pc := 8) d43_8 t43 ?_
    exact hE s_q2
  exact key _ (fun q => ⟨rfl, rfl, q⟩)
noncomputable def a_canSay (l0 : Nat) (l1 : Nat) (l2 : Nat) (h : pm_H) : Option (Int32 × pm_H) := (gO h l0 0 2).bind fun y1 => (n_heard l2 l1 h).bind fun q2 => (c_orders y1 (h.2.1 l2 4) q2 h).bind fun q3 => some (q3.1, q3.2)
theorem T_a_canSay (b : Bool) (L : Nat) (xs : Nat → Int32) (d : Nat) (hd : 4 ≤ d) (h : pm_H) (s_h : h.1 = tb_SH) (l0 : Nat) (l1 : Nat) (l2 : Nat) (f_l0 : mi_o l0 1 = true) (f_l1 : mi_o l1 7 = true) (f_l2 : mi_o l2 3 = true) {r : (Int32 × pm_H)} (hm : a_canSay l0 l1 l2 h = some r) : PC b L xs d 44 [(Value.ref l0), (Value.ref l1), (Value.ref l2)] h (fun (v0 : Option Value) (h2 : pm_H) => v0 = (some (Value.int r.1)) ∧ h2 = r.2 ∧ h2.1 = tb_SH) := by
  refine pc_in e44 (ls0 := [(Value.ref l0), (Value.ref l1), (Value.ref l2)]) rfl ?_
  have key : ∀ (Q : Option Value → pm_H → Prop), (r.2.1 = tb_SH → Q (some (Value.int r.1)) r.2) → PW b L xs d 44 0 0 0 [(Value.ref l0), (Value.ref l1), (Value.ref l2)] [] h Q := by
    intro Q hE
    rw [a_canSay] at hm
    refine pw_l (pc := 0) d44_0 rfl rfl rfl ?_
    obtain ⟨y1, e_y1, hm⟩ := ob_x hm
    have f_y1 := gO_x e_y1
    refine pw_gr (pc := 1) d44_1 (k44_12 b) (sho s_h f_l0) f1_0 f_y1.1 ?_
    refine pw_l (pc := 4) d44_4 rfl rfl rfl ?_
    refine pw_gi (pc := 5) d44_5 (k44_89 b) (sho s_h f_l2) f3_4 ?_
    refine pw_l (pc := 8) d44_8 rfl rfl rfl ?_
    refine pw_l (pc := 9) d44_9 rfl rfl rfl ?_
    obtain ⟨q2, e_q2, hm⟩ := ob_x hm
    refine pw_v (pc := 10) (k := l2) (by omega) d44_10 (k44_92 b) (by decide) m81 (by decide) rfl (sho s_h f_l2) (Nat.le_of_ble_eq_true rfl) (Nat.le_of_ble_eq_true rfl) rfl rfl (T_n_heard b L xs (d - 1) (by omega) h s_h l2 l1 f_l2 f_l1 e_q2) (fun v0 h0 hq => ?_)
    obtain ⟨rfl, hh0, s_q2⟩ := hq
    rw [hh0] at s_q2 ⊢
    simp only [Option.toList_some, List.cons_append, List.nil_append]
    obtain ⟨q3, e_q3, hm⟩ := ob_x hm
    refine pw_v (pc := 13) (k := y1) (by omega) d44_13 (k44_96 b) (by decide) m69 (by decide) rfl (sho s_h f_y1.2) (Nat.le_of_ble_eq_true rfl) (Nat.le_of_ble_eq_true rfl) rfl rfl (T_c_orders b L xs (d - 1) (by omega) h s_h y1 (h.2.1 l2 4) q2 f_y1.2 e_q3) (fun v0 h0 hq => ?_)
    obtain ⟨rfl, hh0, s_q3⟩ := hq
    rw [hh0] at s_q3 ⊢
    simp only [Option.toList_some, List.cons_append, List.nil_append]
    obtain rfl := Option.some.inj hm
    refine pw_ri (pc := 16) d44_16 t44 rfl ?_
    exact hE s_q3
  exact key _ (fun q => ⟨rfl, rfl, q⟩)
def E_a_leastWith_3 (b : Bool) (L : Nat) (xs : Nat → Int32) (d : Nat) (Q : Option Value → pm_H → Prop) (h : pm_H) (l0 : Nat) (l1 : Int32) (l2 : Int32) (l3 : Int32) : (Int32 ⊕ Int32 ⊕ Unit) → Prop
  | .inl s => PW b L xs d 47 0 0 3 [(Value.ref l0), (Value.int l1), (Value.int l2), (Value.int l3), (Value.int s)] [] h Q
  | .inr (.inl e) => ∀ w0 w1 w2 w3 : Value, PW b L xs d 47 0 0 32 [w0, w1, w2, w3, (Value.int e)] [] h Q
  | .inr (.inr e) => ∀ w0 w4 : Value, PW b L xs d 47 0 0 41 [w0, (Value.int l1), (Value.int l2), (Value.int l3), w4] [] h Q
noncomputable def a_leastWith_3 (l0 : Nat) (l1 : Int32) (l2 : Int32) (l3 : Int32) (l4 : Int32) (h : pm_H) : Option (Int32 ⊕ Int32 ⊕ Unit) := if (h.2.1 l0 1) ≤ l4 then (some (.inr (.inr ()))) else ((x_bit l1 l4 h).bind fun q2 => if ¬ q2 = (Int32.ofInt 1) then (some (.inl (l4 + Int32.ofInt 1))) else ((s_wordOf l0 l4 h).bind fun q4 => if ¬ q4 = l3 then (some (.inl (l4 + Int32.ofInt 1))) else (some (.inr (.inl l4)))))
theorem t_a_leastWith_3 (b : Bool) (L : Nat) (xs : Nat → Int32) (d : Nat) (hd : 1 ≤ d) {Q : Option Value → pm_H → Prop} (h : pm_H) (s_h : h.1 = tb_SH) (l0 : Nat) (l1 : Int32) (l2 : Int32) (l3 : Int32) (l4 : Int32) (f_l0 : mi_o l0 7 = true) {r : (Int32 ⊕ Int32 ⊕ Unit)} (hm : a_leastWith_3 l0 l1 l2 l3 l4 h = some r) (hE : E_a_leastWith_3 b L xs d Q h l0 l1 l2 l3 r) : PW b L xs d 47 0 0 3 [(Value.ref l0), (Value.int l1), (Value.int l2), (Value.int l3), (Value.int l4)] [] h Q := by
  rw [a_leastWith_3] at hm
  refine pw_l (pc := 3) d47_3 rfl rfl rfl ?_
  refine pw_l (pc := 5) d47_5 rfl rfl rfl ?_
  refine pw_gi (pc := 6) d47_6 (k47_140 b) (sho s_h f_l0) f7_1 ?_
  refine pw_ige (pc := 9) (t := 41) d47_9 (by decide) (fun c1 => ?_) (fun c1 => ?_)
  · rw [if_pos c1] at hm
    obtain rfl := Option.some.inj hm
    exact hE   (Value.ref l0) (Value.int l4)
  · rw [if_neg c1] at hm
    refine pw_l (pc := 12) d47_12 rfl rfl rfl ?_
    refine pw_l (pc := 13) d47_13 rfl rfl rfl ?_
    obtain ⟨q2, e_q2, hm⟩ := ob_x hm
    refine pw_u (pc := 15) (by omega) d47_15 (k47_104 b) (by decide) m34 (Nat.le_of_ble_eq_true rfl) (Nat.le_of_ble_eq_true rfl) (Nat.le_of_ble_eq_true rfl) rfl rfl (T_x_bit b L xs (d - 1) (by omega) h s_h l1 l4  e_q2) (fun v0 h0 hq => ?_)
    obtain ⟨rfl, hh0, s_q2⟩ := hq
    rw [hh0] at s_q2 ⊢
    simp only [Option.toList_some, List.cons_append, List.nil_append]
    refine pw_s (pc := 18) d47_18 rfl rfl ?_
    refine pw_ine (pc := 19) (t := 35) d47_19 (by decide) (fun c3 => ?_) (fun c3 => ?_)
    · rw [if_pos c3] at hm
      refine pw_t (pc := 35) d47_35 rfl rfl rfl rfl ?_
      refine pw_go (pc := 38) (t := 3) d47_38 (by decide) ?_
      obtain rfl := Option.some.inj hm
      exact hE   
    · rw [if_neg c3] at hm
      refine pw_l (pc := 22) d47_22 rfl rfl rfl ?_
      refine pw_l (pc := 23) d47_23 rfl rfl rfl ?_
      obtain ⟨q4, e_q4, hm⟩ := ob_x hm
      refine pw_v (pc := 25) (k := l0) (by omega) d47_25 (k47_145 b) (by decide) m115 (by decide) rfl (sho s_h f_l0) (Nat.le_of_ble_eq_true rfl) (Nat.le_of_ble_eq_true rfl) rfl rfl (T_s_wordOf b L xs (d - 1) (by omega) h s_h l0 l4 f_l0 e_q4) (fun v0 h0 hq => ?_)
      obtain ⟨rfl, hh0, s_q4⟩ := hq
      rw [hh0] at s_q4 ⊢
      simp only [Option.toList_some, List.cons_append, List.nil_append]
      refine pw_l (pc := 28) d47_28 rfl rfl rfl ?_
      refine pw_ine (pc := 29) (t := 35) d47_29 (by decide) (fun c5 => ?_) (fun c5 => ?_)
      · rw [if_pos c5] at hm
        refine pw_t (pc := 35) d47_35 rfl rfl rfl rfl ?_
        refine pw_go (pc := 38) (t := 3) d47_38 (by decide) ?_
        obtain rfl := Option.some.inj hm
        exact hE   
      · rw [if_neg c5] at hm
        obtain rfl := Option.some.inj hm
        exact hE   (Value.ref l0) (Value.int l1) (Value.int l2) (Value.int l3)
noncomputable def a_leastWith (l0 : Nat) (l1 : Int32) (l2 : Int32) (l3 : Int32) (h : pm_H) : Option Int32 := (wh (fun s : Int32 => a_leastWith_3 l0 l1 l2 l3 s h) (Int32.ofInt 0)).bind fun q1 => (match q1 with | (.inl eq1_0) => some eq1_0 | (.inr eq1_1) => (x_bit l1 ((Int8.ofInt 8).toInt32) h).bind fun q2 => if ¬ q2 = (Int32.ofInt 1) then (some (Int32.ofInt (-1))) else (if ¬ l2 = l3 then (some (Int32.ofInt (-1))) else (some ((Int8.ofInt 8).toInt32))))
theorem T_a_leastWith (b : Bool) (L : Nat) (xs : Nat → Int32) (d : Nat) (hd : 1 ≤ d) (h : pm_H) (s_h : h.1 = tb_SH) (l0 : Nat) (l1 : Int32) (l2 : Int32) (l3 : Int32) (f_l0 : mi_o l0 7 = true) {r : Int32} (hm : a_leastWith l0 l1 l2 l3 h = some r) : PC b L xs d 47 [(Value.ref l0), (Value.int l1), (Value.int l2), (Value.int l3)] h (fun (v0 : Option Value) (h2 : pm_H) => v0 = (some (Value.int r)) ∧ h2 = h ∧ h2.1 = tb_SH) := by
  refine pc_in e47 (ls0 := [(Value.ref l0), (Value.int l1), (Value.int l2), (Value.int l3), Value.retAddr 0]) rfl ?_
  have key : ∀ (Q : Option Value → pm_H → Prop), (Q (some (Value.int r)) h) → PW b L xs d 47 0 0 0 [(Value.ref l0), (Value.int l1), (Value.int l2), (Value.int l3), Value.retAddr 0] [] h Q := by
    intro Q hE
    rw [a_leastWith] at hm
    refine pw_s (pc := 0) d47_0 rfl rfl ?_
    refine pw_t (pc := 1) d47_1 rfl rfl rfl rfl ?_
    obtain ⟨q1, e_q1, hm⟩ := ob_x hm
    refine wh_ind e_q1 (fun s : Int32 => PW b L xs d 47 0 0 3 [(Value.ref l0), (Value.int l1), (Value.int l2), (Value.int l3), (Value.int s)] [] h Q) (fun s s2 hf ih  => t_a_leastWith_3 b L xs d hd h s_h l0 l1 l2 l3 s  f_l0 hf ih) (fun s hf  => t_a_leastWith_3 b L xs d hd h s_h l0 l1 l2 l3 s  f_l0 hf ?_)   
    rcases q1 with eq1_0 | eq1_1
    · dsimp only at hm
      intro w0 w1 w2 w3
      refine pw_l (pc := 32) d47_32 rfl rfl rfl ?_
      obtain rfl := Option.some.inj hm
      refine pw_ri (pc := 34) d47_34 t47 rfl ?_
      exact hE
    · dsimp only at hm
      intro w0 w4
      refine pw_l (pc := 41) d47_41 rfl rfl rfl ?_
      refine pw_s (pc := 42) d47_42 rfl rfl ?_
      obtain ⟨q2, e_q2, hm⟩ := ob_x hm
      refine pw_u (pc := 44) (by omega) d47_44 (k47_104 b) (by decide) m34 (Nat.le_of_ble_eq_true rfl) (Nat.le_of_ble_eq_true rfl) (Nat.le_of_ble_eq_true rfl) rfl rfl (T_x_bit b L xs (d - 1) (by omega) h s_h l1 ((Int8.ofInt 8).toInt32)  e_q2) (fun v0 h0 hq => ?_)
      obtain ⟨rfl, hh0, s_q2⟩ := hq
      rw [hh0] at s_q2 ⊢
      simp only [Option.toList_some, List.cons_append, List.nil_append]
      refine pw_s (pc := 47) d47_47 rfl rfl ?_
      refine pw_ine (pc := 48) (t := 61) d47_48 (by decide) (fun c3 => ?_) (fun c3 => ?_)
      · rw [if_pos c3] at hm
        refine pw_s (pc := 61) d47_61 rfl rfl ?_
        obtain rfl := Option.some.inj hm
        refine pw_ri (pc := 62) d47_62 t47 rfl ?_
        exact hE
      · rw [if_neg c3] at hm
        refine pw_l (pc := 51) d47_51 rfl rfl rfl ?_
        refine pw_l (pc := 52) d47_52 rfl rfl rfl ?_
        refine pw_ine (pc := 53) (t := 61) d47_53 (by decide) (fun c4 => ?_) (fun c4 => ?_)
        · rw [if_pos c4] at hm
          refine pw_s (pc := 61) d47_61 rfl rfl ?_
          obtain rfl := Option.some.inj hm
          refine pw_ri (pc := 62) d47_62 t47 rfl ?_
          exact hE
        · rw [if_neg c4] at hm
          refine pw_s (pc := 56) d47_56 rfl rfl ?_
          refine pw_go (pc := 58) (t := 62) d47_58 (by decide) ?_
          obtain rfl := Option.some.inj hm
          refine pw_ri (pc := 62) d47_62 t47 rfl ?_
          exact hE
  exact key _ ⟨rfl, rfl, s_h⟩
def E_a_isBetter_50 (b : Bool) (L : Nat) (xs : Nat → Int32) (d : Nat) (Q : Option Value → pm_H → Prop) (h : pm_H) (l0 : Nat) : (Int32 ⊕ Int32 ⊕ Unit) → Prop
  | .inl s => PW b L xs d 48 0 0 50 [(Value.ref l0), (Value.int s)] [] h Q
  | .inr (.inl e) => PW b L xs d 48 0 0 82 [(Value.ref l0), (Value.int e)] [] h Q
  | .inr (.inr e) => ∀ w0 w1 : Value, PW b L xs d 48 0 0 109 [w0, w1] [] h Q
noncomputable def a_isBetter_50 (l0 : Nat) (l1 : Int32) (h : pm_H) : Option (Int32 ⊕ Int32 ⊕ Unit) := if (h.2.1 l0 3) ≤ l1 then (some (.inr (.inr ()))) else ((gA h l0 4 .int).bind fun y2 => if (Int32.ofNat (mi_n y2)) ≤ l1 then (some (.inr (.inr ()))) else ((gA h l0 4 .int).bind fun y4 => if mi_in l1 (mi_n y4) = true then (gA h l0 2 .int).bind fun y6 => if mi_in l1 (mi_n y6) = true then if (h.2.1 y4 l1.toNatClampNeg) = (h.2.1 y6 l1.toNatClampNeg) then (some (.inl (l1 + Int32.ofInt 1))) else (some (.inr (.inl l1))) else none else none))
theorem t_a_isBetter_50 (b : Bool) (L : Nat) (xs : Nat → Int32) (d : Nat) (hd : 0 ≤ d) {Q : Option Value → pm_H → Prop} (h : pm_H) (s_h : h.1 = tb_SH) (l0 : Nat) (l1 : Int32) (f_l0 : mi_o l0 1 = true) {r : (Int32 ⊕ Int32 ⊕ Unit)} (hm : a_isBetter_50 l0 l1 h = some r) (hE : E_a_isBetter_50 b L xs d Q h l0 r) : PW b L xs d 48 0 0 50 [(Value.ref l0), (Value.int l1)] [] h Q := by
  rw [a_isBetter_50] at hm
  refine pw_l (pc := 50) d48_50 rfl rfl rfl ?_
  refine pw_l (pc := 51) d48_51 rfl rfl rfl ?_
  refine pw_gi (pc := 52) d48_52 (k48_29 b) (sho s_h f_l0) f1_3 ?_
  refine pw_ige (pc := 55) (t := 109) d48_55 (by decide) (fun c1 => ?_) (fun c1 => ?_)
  · rw [if_pos c1] at hm
    obtain rfl := Option.some.inj hm
    exact hE   (Value.ref l0) (Value.int l1)
  · rw [if_neg c1] at hm
    refine pw_l (pc := 58) d48_58 rfl rfl rfl ?_
    refine pw_l (pc := 59) d48_59 rfl rfl rfl ?_
    obtain ⟨y2, e_y2, hm⟩ := ob_x hm
    have f_y2 := gA_x e_y2
    refine pw_gr (pc := 60) d48_60 (k48_33 b) (sho s_h f_l0) f1_4 f_y2.1 ?_
    refine pw_an (pc := 63) d48_63 (sha s_h f_y2.2) ?_
    refine pw_ige (pc := 64) (t := 109) d48_64 (by decide) (fun c3 => ?_) (fun c3 => ?_)
    · rw [if_pos c3] at hm
      obtain rfl := Option.some.inj hm
      exact hE   (Value.ref l0) (Value.int l1)
    · rw [if_neg c3] at hm
      refine pw_l (pc := 67) d48_67 rfl rfl rfl ?_
      obtain ⟨y4, e_y4, hm⟩ := ob_x hm
      have f_y4 := gA_x e_y4
      refine pw_gr (pc := 68) d48_68 (k48_33 b) (sho s_h f_l0) f1_4 f_y4.1 ?_
      refine pw_l (pc := 71) d48_71 rfl rfl rfl ?_
      obtain ⟨g5, hm⟩ := gd_x hm
      refine pw_ai (pc := 72) d48_72 (sha s_h f_y4.2) (mi_in_x g5) ?_
      refine pw_l (pc := 73) d48_73 rfl rfl rfl ?_
      obtain ⟨y6, e_y6, hm⟩ := ob_x hm
      have f_y6 := gA_x e_y6
      refine pw_gr (pc := 74) d48_74 (k48_25 b) (sho s_h f_l0) f1_2 f_y6.1 ?_
      refine pw_l (pc := 77) d48_77 rfl rfl rfl ?_
      obtain ⟨g7, hm⟩ := gd_x hm
      refine pw_ai (pc := 78) d48_78 (sha s_h f_y6.2) (mi_in_x g7) ?_
      refine pw_ieq (pc := 79) (t := 103) d48_79 (by decide) (fun c8 => ?_) (fun c8 => ?_)
      · rw [if_pos c8] at hm
        refine pw_t (pc := 103) d48_103 rfl rfl rfl rfl ?_
        refine pw_go (pc := 106) (t := 50) d48_106 (by decide) ?_
        obtain rfl := Option.some.inj hm
        exact hE   
      · rw [if_neg c8] at hm
        obtain rfl := Option.some.inj hm
        exact hE   
noncomputable def a_isBetter_42 (h : pm_H) : Option Int32 := some (Int32.ofInt 1)
theorem t_a_isBetter_42 (b : Bool) (L : Nat) (xs : Nat → Int32) (d : Nat) (hd : 0 ≤ d) {Q : Option Value → pm_H → Prop} (h : pm_H) (s_h : h.1 = tb_SH) (w0 : Value) (w1 : Value) {r : Int32} (hm : a_isBetter_42 h = some r) (hE : Q (some (Value.int r)) h) : PW b L xs d 48 0 0 42 [w0, w1] [] h Q := by
  rw [a_isBetter_42] at hm
  refine pw_s (pc := 42) d48_42 rfl rfl ?_
  refine pw_go (pc := 43) (t := 47) d48_43 (by decide) ?_
  obtain rfl := Option.some.inj hm
  refine pw_ri (pc := 47) d48_47 t48 rfl ?_
  exact hE
noncomputable def a_isBetter_21 (l0 : Nat) (h : pm_H) : Option Int32 := if (h.2.1 l0 3) = 0 then (a_isBetter_42 h) else ((gO h l0 1 5).bind fun y2 => if (h.2.1 l0 3) ≤ (h.2.1 y2 6) then (some (Int32.ofInt 0)) else (a_isBetter_42 h))
theorem t_a_isBetter_21 (b : Bool) (L : Nat) (xs : Nat → Int32) (d : Nat) (hd : 0 ≤ d) {Q : Option Value → pm_H → Prop} (h : pm_H) (s_h : h.1 = tb_SH) (l0 : Nat) (w1 : Value) (f_l0 : mi_o l0 1 = true) {r : Int32} (hm : a_isBetter_21 l0 h = some r) (hE : Q (some (Value.int r)) h) : PW b L xs d 48 0 0 21 [(Value.ref l0), w1] [] h Q := by
  rw [a_isBetter_21] at hm
  refine pw_l (pc := 21) d48_21 rfl rfl rfl ?_
  refine pw_gi (pc := 22) d48_22 (k48_29 b) (sho s_h f_l0) f1_3 ?_
  refine pw_zeq (pc := 25) (t := 42) d48_25 (by decide) (fun c1 => ?_) (fun c1 => ?_)
  · rw [if_pos c1] at hm
    exact t_a_isBetter_42 b L xs d hd h s_h (Value.ref l0) w1   hm hE
  · rw [if_neg c1] at hm
    refine pw_l (pc := 28) d48_28 rfl rfl rfl ?_
    obtain ⟨y2, e_y2, hm⟩ := ob_x hm
    have f_y2 := gO_x e_y2
    refine pw_gr (pc := 29) d48_29 (k48_21 b) (sho s_h f_l0) f1_1 f_y2.1 ?_
    refine pw_gi (pc := 32) d48_32 (k48_116 b) (sho s_h f_y2.2) f5_6 ?_
    refine pw_l (pc := 35) d48_35 rfl rfl rfl ?_
    refine pw_gi (pc := 36) d48_36 (k48_29 b) (sho s_h f_l0) f1_3 ?_
    refine pw_ige (pc := 39) (t := 46) d48_39 (by decide) (fun c3 => ?_) (fun c3 => ?_)
    · rw [if_pos c3] at hm
      refine pw_s (pc := 46) d48_46 rfl rfl ?_
      obtain rfl := Option.some.inj hm
      refine pw_ri (pc := 47) d48_47 t48 rfl ?_
      exact hE
    · rw [if_neg c3] at hm
      exact t_a_isBetter_42 b L xs d hd h s_h (Value.ref l0) w1   hm hE
noncomputable def a_isBetter (l0 : Nat) (h : pm_H) : Option Int32 := if (h.2.1 l0 3) = 0 then (a_isBetter_21 l0 h) else ((gO h l0 1 5).bind fun y2 => if (h.2.1 y2 6) = (h.2.1 l0 3) then ((wh (fun s : Int32 => a_isBetter_50 l0 s h) (Int32.ofInt 0)).bind fun q4 => (match q4 with | (.inl eq4_0) => (gA h l0 4 .int).bind fun y5 => if mi_in eq4_0 (mi_n y5) = true then (gA h l0 2 .int).bind fun y7 => if mi_in eq4_0 (mi_n y7) = true then if (h.2.1 y7 eq4_0.toNatClampNeg) ≤ (h.2.1 y5 eq4_0.toNatClampNeg) then (some (Int32.ofInt 0)) else (some (Int32.ofInt 1)) else none else none | (.inr eq4_1) => some (Int32.ofInt 0))) else (a_isBetter_21 l0 h))
theorem T_a_isBetter (b : Bool) (L : Nat) (xs : Nat → Int32) (d : Nat) (hd : 0 ≤ d) (h : pm_H) (s_h : h.1 = tb_SH) (l0 : Nat) (f_l0 : mi_o l0 1 = true) {r : Int32} (hm : a_isBetter l0 h = some r) : PC b L xs d 48 [(Value.ref l0)] h (fun (v0 : Option Value) (h2 : pm_H) => v0 = (some (Value.int r)) ∧ h2 = h ∧ h2.1 = tb_SH) := by
  refine pc_in e48 (ls0 := [(Value.ref l0), Value.retAddr 0]) rfl ?_
  have key : ∀ (Q : Option Value → pm_H → Prop), (Q (some (Value.int r)) h) → PW b L xs d 48 0 0 0 [(Value.ref l0), Value.retAddr 0] [] h Q := by
    intro Q hE
    rw [a_isBetter] at hm
    refine pw_l (pc := 0) d48_0 rfl rfl rfl ?_
    refine pw_gi (pc := 1) d48_1 (k48_29 b) (sho s_h f_l0) f1_3 ?_
    refine pw_zeq (pc := 4) (t := 21) d48_4 (by decide) (fun c1 => ?_) (fun c1 => ?_)
    · rw [if_pos c1] at hm
      exact t_a_isBetter_21 b L xs d hd h s_h l0 (Value.retAddr 0) f_l0  hm hE
    · rw [if_neg c1] at hm
      refine pw_l (pc := 7) d48_7 rfl rfl rfl ?_
      obtain ⟨y2, e_y2, hm⟩ := ob_x hm
      have f_y2 := gO_x e_y2
      refine pw_gr (pc := 8) d48_8 (k48_21 b) (sho s_h f_l0) f1_1 f_y2.1 ?_
      refine pw_gi (pc := 11) d48_11 (k48_116 b) (sho s_h f_y2.2) f5_6 ?_
      refine pw_l (pc := 14) d48_14 rfl rfl rfl ?_
      refine pw_gi (pc := 15) d48_15 (k48_29 b) (sho s_h f_l0) f1_3 ?_
      refine pw_ieq (pc := 18) (t := 48) d48_18 (by decide) (fun c3 => ?_) (fun c3 => ?_)
      · rw [if_pos c3] at hm
        refine pw_s (pc := 48) d48_48 rfl rfl ?_
        refine pw_t (pc := 49) d48_49 rfl rfl rfl rfl ?_
        obtain ⟨q4, e_q4, hm⟩ := ob_x hm
        refine wh_ind e_q4 (fun s : Int32 => PW b L xs d 48 0 0 50 [(Value.ref l0), (Value.int s)] [] h Q) (fun s s2 hf ih  => t_a_isBetter_50 b L xs d hd h s_h l0 s  f_l0 hf ih) (fun s hf  => t_a_isBetter_50 b L xs d hd h s_h l0 s  f_l0 hf ?_)   
        rcases q4 with eq4_0 | eq4_1
        · dsimp only at hm
          refine pw_l (pc := 82) d48_82 rfl rfl rfl ?_
          obtain ⟨y5, e_y5, hm⟩ := ob_x hm
          have f_y5 := gA_x e_y5
          refine pw_gr (pc := 83) d48_83 (k48_33 b) (sho s_h f_l0) f1_4 f_y5.1 ?_
          refine pw_l (pc := 86) d48_86 rfl rfl rfl ?_
          obtain ⟨g6, hm⟩ := gd_x hm
          refine pw_ai (pc := 87) d48_87 (sha s_h f_y5.2) (mi_in_x g6) ?_
          refine pw_l (pc := 88) d48_88 rfl rfl rfl ?_
          obtain ⟨y7, e_y7, hm⟩ := ob_x hm
          have f_y7 := gA_x e_y7
          refine pw_gr (pc := 89) d48_89 (k48_25 b) (sho s_h f_l0) f1_2 f_y7.1 ?_
          refine pw_l (pc := 92) d48_92 rfl rfl rfl ?_
          obtain ⟨g8, hm⟩ := gd_x hm
          refine pw_ai (pc := 93) d48_93 (sha s_h f_y7.2) (mi_in_x g8) ?_
          refine pw_ige (pc := 94) (t := 101) d48_94 (by decide) (fun c9 => ?_) (fun c9 => ?_)
          · rw [if_pos c9] at hm
            refine pw_s (pc := 101) d48_101 rfl rfl ?_
            obtain rfl := Option.some.inj hm
            refine pw_ri (pc := 102) d48_102 t48 rfl ?_
            exact hE
          · rw [if_neg c9] at hm
            refine pw_s (pc := 97) d48_97 rfl rfl ?_
            refine pw_go (pc := 98) (t := 102) d48_98 (by decide) ?_
            obtain rfl := Option.some.inj hm
            refine pw_ri (pc := 102) d48_102 t48 rfl ?_
            exact hE
        · dsimp only at hm
          intro w0 w1
          refine pw_s (pc := 109) d48_109 rfl rfl ?_
          obtain rfl := Option.some.inj hm
          refine pw_ri (pc := 110) d48_110 t48 rfl ?_
          exact hE
      · rw [if_neg c3] at hm
        exact t_a_isBetter_21 b L xs d hd h s_h l0 (Value.retAddr 0) f_l0  hm hE
  exact key _ ⟨rfl, rfl, s_h⟩
def E_a_fewestMen_14 (b : Bool) (L : Nat) (xs : Nat → Int32) (d : Nat) (Q : Option Value → pm_H → Prop) (l0 : Nat) (l2 : Nat) (l3 : Int32) (l4 : Int32) : ((Int32 × Int32 × pm_H) ⊕ (Int32 × pm_H)) → Prop
  | .inl s => s.2.2.1 = tb_SH → ∀ w1 w7 w8 : Value, PW b L xs d 49 0 0 14 [(Value.ref l0), w1, (Value.ref l2), (Value.int l3), (Value.int l4), (Value.int s.1), (Value.int s.2.1), w7, w8] [] s.2.2 Q
  | .inr e => e.2.1 = tb_SH → ∀ w0 w1 w2 w3 w4 w6 w7 w8 : Value, PW b L xs d 49 0 0 104 [w0, w1, w2, w3, w4, (Value.int e.1), w6, w7, w8] [] e.2 Q
noncomputable def a_fewestMen_67 (l0 : Nat) (l2 : Nat) (l3 : Int32) (l4 : Int32) (l5 : Int32) (l6 : Int32) (z0 : Int32) (h : pm_H) : Option ((Int32 × Int32 × pm_H) ⊕ (Int32 × pm_H)) := if z0 = 0 then (some (.inl (l5, (l6 + Int32.ofInt 1), h))) else ((gO h l0 0 2).bind fun y2 => (c_orders y2 (h.2.1 l2 4) l6 h).bind fun q3 => if ¬ (l3 &&& (q3.1 ^^^ (Int32.ofInt (-1)))) = 0 then (some (.inl (l5, (l6 + Int32.ofInt 1), q3.2))) else (some (.inl (l6, (l6 + Int32.ofInt 1), q3.2))))
theorem t_a_fewestMen_67 (b : Bool) (L : Nat) (xs : Nat → Int32) (d : Nat) (hd : 4 ≤ d) {Q : Option Value → pm_H → Prop} (h : pm_H) (s_h : h.1 = tb_SH) (l0 : Nat) (l2 : Nat) (l3 : Int32) (l4 : Int32) (l5 : Int32) (l6 : Int32) (z0 : Int32) (w1 : Value) (w7 : Value) (w8 : Value) (f_l0 : mi_o l0 1 = true) (f_l2 : mi_o l2 3 = true) {r : ((Int32 × Int32 × pm_H) ⊕ (Int32 × pm_H))} (hm : a_fewestMen_67 l0 l2 l3 l4 l5 l6 z0 h = some r) (hE : E_a_fewestMen_14 b L xs d Q l0 l2 l3 l4 r) : PW b L xs d 49 0 0 67 [(Value.ref l0), w1, (Value.ref l2), (Value.int l3), (Value.int l4), (Value.int l5), (Value.int l6), w7, w8] [(Value.int z0)] h Q := by
  rw [a_fewestMen_67] at hm
  refine pw_t (pc := 67) d49_67 rfl rfl rfl (n := 2) (ls' := [(Value.ref l0), w1, (Value.ref l2), (Value.int l3), (Value.int l4), (Value.int l5), (Value.int l6), (mi_w w7), (Value.int z0)]) (st' := []) (by by_cases hw : Value.category w7 = 2 <;> simp [pm_sto, pm_sI, pm_sL, pm_sA, pm_inc, pm_st1, pm_st2, pm_pre, mi_w, hw] <;> first | done | exact ⟨by decide, rfl⟩ | rfl) ?_
  refine pw_l (pc := 69) d49_69 rfl rfl rfl ?_
  refine pw_zeq (pc := 71) (t := 98) d49_71 (by decide) (fun c1 => ?_) (fun c1 => ?_)
  · rw [if_pos c1] at hm
    refine pw_t (pc := 98) d49_98 rfl rfl rfl rfl ?_
    refine pw_go (pc := 101) (t := 14) d49_101 (by decide) ?_
    obtain rfl := Option.some.inj hm
    exact hE s_h  w1 (mi_w w7) (Value.int z0)
  · rw [if_neg c1] at hm
    refine pw_l (pc := 74) d49_74 rfl rfl rfl ?_
    refine pw_l (pc := 75) d49_75 rfl rfl rfl ?_
    obtain ⟨y2, e_y2, hm⟩ := ob_x hm
    have f_y2 := gO_x e_y2
    refine pw_gr (pc := 76) d49_76 (k49_12 b) (sho s_h f_l0) f1_0 f_y2.1 ?_
    refine pw_l (pc := 79) d49_79 rfl rfl rfl ?_
    refine pw_gi (pc := 80) d49_80 (k49_89 b) (sho s_h f_l2) f3_4 ?_
    refine pw_l (pc := 83) d49_83 rfl rfl rfl ?_
    obtain ⟨q3, e_q3, hm⟩ := ob_x hm
    refine pw_v (pc := 85) (k := y2) (by omega) d49_85 (k49_96 b) (by decide) m69 (by decide) rfl (sho s_h f_y2.2) (Nat.le_of_ble_eq_true rfl) (Nat.le_of_ble_eq_true rfl) rfl rfl (T_c_orders b L xs (d - 1) (by omega) h s_h y2 (h.2.1 l2 4) l6 f_y2.2 e_q3) (fun v0 h0 hq => ?_)
    obtain ⟨rfl, hh0, s_q3⟩ := hq
    rw [hh0] at s_q3 ⊢
    simp only [Option.toList_some, List.cons_append, List.nil_append]
    refine pw_s (pc := 88) d49_88 rfl rfl ?_
    refine pw_s (pc := 89) d49_89 rfl rfl ?_
    refine pw_s (pc := 90) d49_90 rfl rfl ?_
    refine pw_zne (pc := 91) (t := 98) d49_91 (by decide) (fun c4 => ?_) (fun c4 => ?_)
    · rw [if_pos c4] at hm
      refine pw_t (pc := 98) d49_98 rfl rfl rfl rfl ?_
      refine pw_go (pc := 101) (t := 14) d49_101 (by decide) ?_
      obtain rfl := Option.some.inj hm
      exact hE s_q3  w1 (mi_w w7) (Value.int z0)
    · rw [if_neg c4] at hm
      refine pw_l (pc := 94) d49_94 rfl rfl rfl ?_
      refine pw_t (pc := 96) d49_96 rfl rfl rfl rfl ?_
      refine pw_t (pc := 98) d49_98 rfl rfl rfl rfl ?_
      refine pw_go (pc := 101) (t := 14) d49_101 (by decide) ?_
      obtain rfl := Option.some.inj hm
      exact hE s_q3  w1 (mi_w w7) (Value.int z0)
noncomputable def a_fewestMen_45 (l0 : Nat) (l2 : Nat) (l3 : Int32) (l4 : Int32) (l5 : Int32) (l6 : Int32) (z0 : Int32) (h : pm_H) : Option ((Int32 × Int32 × pm_H) ⊕ (Int32 × pm_H)) := if z0 = 0 then (a_fewestMen_67 l0 l2 l3 l4 l5 l6 (Int32.ofInt 0) h) else (if ¬ (l6 &&& (l4 ^^^ (Int32.ofInt (-1)))) = 0 then (a_fewestMen_67 l0 l2 l3 l4 l5 l6 (Int32.ofInt 0) h) else (a_fewestMen_67 l0 l2 l3 l4 l5 l6 (Int32.ofInt 1) h))
theorem t_a_fewestMen_45 (b : Bool) (L : Nat) (xs : Nat → Int32) (d : Nat) (hd : 4 ≤ d) {Q : Option Value → pm_H → Prop} (h : pm_H) (s_h : h.1 = tb_SH) (l0 : Nat) (l2 : Nat) (l3 : Int32) (l4 : Int32) (l5 : Int32) (l6 : Int32) (z0 : Int32) (w1 : Value) (w7 : Value) (w8 : Value) (f_l0 : mi_o l0 1 = true) (f_l2 : mi_o l2 3 = true) {r : ((Int32 × Int32 × pm_H) ⊕ (Int32 × pm_H))} (hm : a_fewestMen_45 l0 l2 l3 l4 l5 l6 z0 h = some r) (hE : E_a_fewestMen_14 b L xs d Q l0 l2 l3 l4 r) : PW b L xs d 49 0 0 45 [(Value.ref l0), w1, (Value.ref l2), (Value.int l3), (Value.int l4), (Value.int l5), (Value.int l6), w7, w8] [(Value.int z0)] h Q := by
  rw [a_fewestMen_45] at hm
  refine pw_t (pc := 45) d49_45 rfl rfl rfl rfl ?_
  refine pw_l (pc := 47) d49_47 rfl rfl rfl ?_
  refine pw_zeq (pc := 49) (t := 66) d49_49 (by decide) (fun c1 => ?_) (fun c1 => ?_)
  · rw [if_pos c1] at hm
    refine pw_s (pc := 66) d49_66 rfl rfl ?_
    exact t_a_fewestMen_67 b L xs d hd h s_h l0 l2 l3 l4 l5 l6 (Int32.ofInt 0) w1 (Value.int z0) w8 f_l0 f_l2  hm hE
  · rw [if_neg c1] at hm
    refine pw_l (pc := 52) d49_52 rfl rfl rfl ?_
    refine pw_l (pc := 54) d49_54 rfl rfl rfl ?_
    refine pw_s (pc := 56) d49_56 rfl rfl ?_
    refine pw_s (pc := 57) d49_57 rfl rfl ?_
    refine pw_s (pc := 58) d49_58 rfl rfl ?_
    refine pw_zne (pc := 59) (t := 66) d49_59 (by decide) (fun c2 => ?_) (fun c2 => ?_)
    · rw [if_pos c2] at hm
      refine pw_s (pc := 66) d49_66 rfl rfl ?_
      exact t_a_fewestMen_67 b L xs d hd h s_h l0 l2 l3 l4 l5 l6 (Int32.ofInt 0) w1 (Value.int z0) w8 f_l0 f_l2  hm hE
    · rw [if_neg c2] at hm
      refine pw_s (pc := 62) d49_62 rfl rfl ?_
      refine pw_go (pc := 63) (t := 67) d49_63 (by decide) ?_
      exact t_a_fewestMen_67 b L xs d hd h s_h l0 l2 l3 l4 l5 l6 (Int32.ofInt 1) w1 (Value.int z0) w8 f_l0 f_l2  hm hE
noncomputable def a_fewestMen_40 (l0 : Nat) (l2 : Nat) (l3 : Int32) (l4 : Int32) (l5 : Int32) (l6 : Int32) (h : pm_H) : Option ((Int32 × Int32 × pm_H) ⊕ (Int32 × pm_H)) := a_fewestMen_45 l0 l2 l3 l4 l5 l6 (Int32.ofInt 1) h
theorem t_a_fewestMen_40 (b : Bool) (L : Nat) (xs : Nat → Int32) (d : Nat) (hd : 4 ≤ d) {Q : Option Value → pm_H → Prop} (h : pm_H) (s_h : h.1 = tb_SH) (l0 : Nat) (l2 : Nat) (l3 : Int32) (l4 : Int32) (l5 : Int32) (l6 : Int32) (w1 : Value) (w7 : Value) (w8 : Value) (f_l0 : mi_o l0 1 = true) (f_l2 : mi_o l2 3 = true) {r : ((Int32 × Int32 × pm_H) ⊕ (Int32 × pm_H))} (hm : a_fewestMen_40 l0 l2 l3 l4 l5 l6 h = some r) (hE : E_a_fewestMen_14 b L xs d Q l0 l2 l3 l4 r) : PW b L xs d 49 0 0 40 [(Value.ref l0), w1, (Value.ref l2), (Value.int l3), (Value.int l4), (Value.int l5), (Value.int l6), w7, w8] [] h Q := by
  rw [a_fewestMen_40] at hm
  refine pw_s (pc := 40) d49_40 rfl rfl ?_
  refine pw_go (pc := 41) (t := 45) d49_41 (by decide) ?_
  exact t_a_fewestMen_45 b L xs d hd h s_h l0 l2 l3 l4 l5 l6 (Int32.ofInt 1) w1 w7 w8 f_l0 f_l2  hm hE
noncomputable def a_fewestMen_14 (l0 : Nat) (l2 : Nat) (l3 : Int32) (l4 : Int32) (l5 : Int32) (l6 : Int32) (h : pm_H) : Option ((Int32 × Int32 × pm_H) ⊕ (Int32 × pm_H)) := if (Int16.ofInt 256).toInt32 ≤ l6 then (some (.inr (l5, h))) else (if l5 < 0 then (a_fewestMen_40 l0 l2 l3 l4 l5 l6 h) else ((i_bitCount l6 h).bind fun q3 => (i_bitCount l5 h).bind fun q4 => if q4 ≤ q3 then (a_fewestMen_45 l0 l2 l3 l4 l5 l6 (Int32.ofInt 0) h) else (a_fewestMen_40 l0 l2 l3 l4 l5 l6 h)))
theorem t_a_fewestMen_14 (b : Bool) (L : Nat) (xs : Nat → Int32) (d : Nat) (hd : 4 ≤ d) {Q : Option Value → pm_H → Prop} (h : pm_H) (s_h : h.1 = tb_SH) (l0 : Nat) (l2 : Nat) (l3 : Int32) (l4 : Int32) (l5 : Int32) (l6 : Int32) (w1 : Value) (w7 : Value) (w8 : Value) (f_l0 : mi_o l0 1 = true) (f_l2 : mi_o l2 3 = true) {r : ((Int32 × Int32 × pm_H) ⊕ (Int32 × pm_H))} (hm : a_fewestMen_14 l0 l2 l3 l4 l5 l6 h = some r) (hE : E_a_fewestMen_14 b L xs d Q l0 l2 l3 l4 r) : PW b L xs d 49 0 0 14 [(Value.ref l0), w1, (Value.ref l2), (Value.int l3), (Value.int l4), (Value.int l5), (Value.int l6), w7, w8] [] h Q := by
  rw [a_fewestMen_14] at hm
  refine pw_l (pc := 14) d49_14 rfl rfl rfl ?_
  refine pw_s (pc := 16) d49_16 rfl rfl ?_
  refine pw_ige (pc := 19) (t := 104) d49_19 (by decide) (fun c1 => ?_) (fun c1 => ?_)
  · rw [if_pos c1] at hm
    obtain rfl := Option.some.inj hm
    exact hE s_h  (Value.ref l0) w1 (Value.ref l2) (Value.int l3) (Value.int l4) (Value.int l6) w7 w8
  · rw [if_neg c1] at hm
    refine pw_l (pc := 22) d49_22 rfl rfl rfl ?_
    refine pw_zlt (pc := 24) (t := 40) d49_24 (by decide) (fun c2 => ?_) (fun c2 => ?_)
    · rw [if_pos c2] at hm
      exact t_a_fewestMen_40 b L xs d hd h s_h l0 l2 l3 l4 l5 l6 w1 w7 w8 f_l0 f_l2  hm hE
    · rw [if_neg c2] at hm
      refine pw_l (pc := 27) d49_27 rfl rfl rfl ?_
      obtain ⟨q3, e_q3, hm⟩ := ob_x hm
      refine pw_u (pc := 29) (by omega) d49_29 (k49_151 b) (by decide) m259 (Nat.le_of_ble_eq_true rfl) (Nat.le_of_ble_eq_true rfl) (Nat.le_of_ble_eq_true rfl) rfl rfl (T_i_bitCount b L xs (d - 1) (by omega) h s_h l6  e_q3) (fun v0 h0 hq => ?_)
      obtain ⟨rfl, hh0, s_q3⟩ := hq
      rw [hh0] at s_q3 ⊢
      simp only [Option.toList_some, List.cons_append, List.nil_append]
      refine pw_l (pc := 32) d49_32 rfl rfl rfl ?_
      obtain ⟨q4, e_q4, hm⟩ := ob_x hm
      refine pw_u (pc := 34) (by omega) d49_34 (k49_151 b) (by decide) m259 (Nat.le_of_ble_eq_true rfl) (Nat.le_of_ble_eq_true rfl) (Nat.le_of_ble_eq_true rfl) rfl rfl (T_i_bitCount b L xs (d - 1) (by omega) h s_h l5  e_q4) (fun v0 h0 hq => ?_)
      obtain ⟨rfl, hh0, s_q4⟩ := hq
      rw [hh0] at s_q4 ⊢
      simp only [Option.toList_some, List.cons_append, List.nil_append]
      refine pw_ige (pc := 37) (t := 44) d49_37 (by decide) (fun c5 => ?_) (fun c5 => ?_)
      · rw [if_pos c5] at hm
        refine pw_s (pc := 44) d49_44 rfl rfl ?_
        exact t_a_fewestMen_45 b L xs d hd h s_h l0 l2 l3 l4 l5 l6 (Int32.ofInt 0) w1 w7 w8 f_l0 f_l2  hm hE
      · rw [if_neg c5] at hm
        exact t_a_fewestMen_40 b L xs d hd h s_h l0 l2 l3 l4 l5 l6 w1 w7 w8 f_l0 f_l2  hm hE
noncomputable def a_fewestMen (l0 : Nat) (l1 : Nat) (l2 : Nat) (l3 : Int32) (h : pm_H) : Option (Int32 × pm_H) := (n_fit l2 l1 h).bind fun q1 => (wh (fun s : (Int32 × Int32 × pm_H) => a_fewestMen_14 l0 l2 l3 q1 s.1 s.2.1 s.2.2) ((Int8.ofInt (-2)).toInt32, (Int32.ofInt 0), h)).bind fun q2 => some (q2.1, q2.2)
theorem T_a_fewestMen (b : Bool) (L : Nat) (xs : Nat → Int32) (d : Nat) (hd : 4 ≤ d) (h : pm_H) (s_h : h.1 = tb_SH) (l0 : Nat) (l1 : Nat) (l2 : Nat) (l3 : Int32) (f_l0 : mi_o l0 1 = true) (f_l1 : mi_o l1 7 = true) (f_l2 : mi_o l2 3 = true) {r : (Int32 × pm_H)} (hm : a_fewestMen l0 l1 l2 l3 h = some r) : PC b L xs d 49 [(Value.ref l0), (Value.ref l1), (Value.ref l2), (Value.int l3)] h (fun (v0 : Option Value) (h2 : pm_H) => v0 = (some (Value.int r.1)) ∧ h2 = r.2 ∧ h2.1 = tb_SH) := by
  refine pc_in e49 (ls0 := [(Value.ref l0), (Value.ref l1), (Value.ref l2), (Value.int l3), Value.retAddr 0, Value.retAddr 0, Value.retAddr 0, Value.retAddr 0, Value.retAddr 0]) rfl ?_
  have key : ∀ (Q : Option Value → pm_H → Prop), (r.2.1 = tb_SH → Q (some (Value.int r.1)) r.2) → PW b L xs d 49 0 0 0 [(Value.ref l0), (Value.ref l1), (Value.ref l2), (Value.int l3), Value.retAddr 0, Value.retAddr 0, Value.retAddr 0, Value.retAddr 0, Value.retAddr 0] [] h Q := by
    intro Q hE
    rw [a_fewestMen] at hm
    refine pw_l (pc := 0) d49_0 rfl rfl rfl ?_
    refine pw_l (pc := 1) d49_1 rfl rfl rfl ?_
    obtain ⟨q1, e_q1, hm⟩ := ob_x hm
    refine pw_v (pc := 2) (k := l2) (by omega) d49_2 (k49_148 b) (by decide) m80 (by decide) rfl (sho s_h f_l2) (Nat.le_of_ble_eq_true rfl) (Nat.le_of_ble_eq_true rfl) rfl rfl (T_n_fit b L xs (d - 1) (by omega) h s_h l2 l1 f_l2 f_l1 e_q1) (fun v0 h0 hq => ?_)
    obtain ⟨rfl, hh0, s_q1⟩ := hq
    rw [hh0] at s_q1 ⊢
    simp only [Option.toList_some, List.cons_append, List.nil_append]
    refine pw_t (pc := 5) d49_5 rfl rfl rfl rfl ?_
    refine pw_s (pc := 7) d49_7 rfl rfl ?_
    refine pw_t (pc := 9) d49_9 rfl rfl rfl rfl ?_
    refine pw_s (pc := 11) d49_11 rfl rfl ?_
    refine pw_t (pc := 12) d49_12 rfl rfl rfl rfl ?_
    obtain ⟨q2, e_q2, hm⟩ := ob_x hm
    refine wh_ind e_q2 (fun s : (Int32 × Int32 × pm_H) => s.2.2.1 = tb_SH → ∀ w1 w7 w8 : Value, PW b L xs d 49 0 0 14 [(Value.ref l0), w1, (Value.ref l2), (Value.int l3), (Value.int q1), (Value.int s.1), (Value.int s.2.1), w7, w8] [] s.2.2 Q) (fun s s2 hf ih sx w1 w7 w8 => t_a_fewestMen_14 b L xs d hd s.2.2 sx l0 l2 l3 q1 s.1 s.2.1 w1 w7 w8 f_l0 f_l2 hf ih) (fun s hf sx w1 w7 w8 => t_a_fewestMen_14 b L xs d hd s.2.2 sx l0 l2 l3 q1 s.1 s.2.1 w1 w7 w8 f_l0 f_l2 hf ?_) s_h  (Value.ref l1) (Value.retAddr 0) (Value.retAddr 0)
    intro s_q2_0 w0 w1 w2 w3 w4 w6 w7 w8
    refine pw_l (pc := 104) d49_104 rfl rfl rfl ?_
    obtain rfl := Option.some.inj hm
    refine pw_ri (pc := 106) d49_106 t49 rfl ?_
    exact hE s_q2_0
  exact key _ (fun q => ⟨rfl, rfl, q⟩)
def E_a_firstWatch_70 (b : Bool) (L : Nat) (xs : Nat → Int32) (d : Nat) (Q : Option Value → pm_H → Prop) (l0 : Nat) (l4 : Int32) (l5 : Int32) (l6 : Int32) : ((Int32 × pm_H) ⊕ (Int32 × pm_H) ⊕ pm_H) → Prop
  | .inl s => s.2.1 = tb_SH → ∀ w1 w2 w3 w8 : Value, PW b L xs d 50 0 0 70 [(Value.ref l0), w1, w2, w3, (Value.int l4), (Value.int l5), (Value.int l6), (Value.int s.1), w8] [] s.2 Q
  | .inr (.inl e) => e.2.1 = tb_SH → ∀ w0 w1 w2 w3 w4 w5 w6 w8 : Value, PW b L xs d 50 0 0 134 [w0, w1, w2, w3, w4, w5, w6, (Value.int e.1), w8] [] e.2 Q
  | .inr (.inr e) => e.1 = tb_SH → ∀ w0 w1 w2 w3 w4 w5 w6 w7 w8 : Value, PW b L xs d 50 0 0 143 [w0, w1, w2, w3, w4, w5, w6, w7, w8] [] e Q
def E_a_firstWatch_6 (b : Bool) (L : Nat) (xs : Nat → Int32) (d : Nat) (Q : Option Value → pm_H → Prop) (l0 : Nat) (l1 : Nat) (l2 : Nat) (l3 : Int32) : ((Int32 × Int32 × pm_H) ⊕ (Int32 × pm_H)) → Prop
  | .inl s => s.2.2.1 = tb_SH → ∀ w6 w7 w8 : Value, PW b L xs d 50 0 0 6 [(Value.ref l0), (Value.ref l1), (Value.ref l2), (Value.int l3), (Value.int s.1), (Value.int s.2.1), w6, w7, w8] [] s.2.2 Q
  | .inr e => e.2.1 = tb_SH → ∀ w3 w5 w6 w7 w8 : Value, PW b L xs d 50 0 0 52 [(Value.ref l0), (Value.ref l1), (Value.ref l2), w3, (Value.int e.1), w5, w6, w7, w8] [] e.2 Q
noncomputable def a_firstWatch_70 (l0 : Nat) (l4 : Int32) (l5 : Int32) (l6 : Int32) (l7 : Int32) (h : pm_H) : Option ((Int32 × pm_H) ⊕ (Int32 × pm_H) ⊕ pm_H) := if (Int16.ofInt 256).toInt32 ≤ l7 then (some (.inr (.inr h))) else (if ¬ (l7 &&& (l5 ^^^ (Int32.ofInt (-1)))) = 0 then (some (.inl ((l7 + Int32.ofInt 1), h))) else (if (l7 &&& l6) = 0 then (some (.inl ((l7 + Int32.ofInt 1), h))) else ((gO h l0 0 2).bind fun y4 => (c_orders y4 (Int32.ofInt (-1)) l7 h).bind fun q5 => (gO q5.2 l0 0 2).bind fun y6 => (c_orders y6 (Int32.ofInt (-1)) (l5 &&& (l7 ^^^ (Int32.ofInt (-1)))) q5.2).bind fun q7 => if ¬ (l4 &&& ((q5.1 &&& q7.1) ^^^ (Int32.ofInt (-1)))) = 0 then (some (.inl ((l7 + Int32.ofInt 1), q7.2))) else (some (.inr (.inl (l7, q7.2)))))))
theorem t_a_firstWatch_70 (b : Bool) (L : Nat) (xs : Nat → Int32) (d : Nat) (hd : 4 ≤ d) {Q : Option Value → pm_H → Prop} (h : pm_H) (s_h : h.1 = tb_SH) (l0 : Nat) (l4 : Int32) (l5 : Int32) (l6 : Int32) (l7 : Int32) (w1 : Value) (w2 : Value) (w3 : Value) (w8 : Value) (f_l0 : mi_o l0 1 = true) {r : ((Int32 × pm_H) ⊕ (Int32 × pm_H) ⊕ pm_H)} (hm : a_firstWatch_70 l0 l4 l5 l6 l7 h = some r) (hE : E_a_firstWatch_70 b L xs d Q l0 l4 l5 l6 r) : PW b L xs d 50 0 0 70 [(Value.ref l0), w1, w2, w3, (Value.int l4), (Value.int l5), (Value.int l6), (Value.int l7), w8] [] h Q := by
  rw [a_firstWatch_70] at hm
  refine pw_l (pc := 70) d50_70 rfl rfl rfl ?_
  refine pw_s (pc := 72) d50_72 rfl rfl ?_
  refine pw_ige (pc := 75) (t := 143) d50_75 (by decide) (fun c1 => ?_) (fun c1 => ?_)
  · rw [if_pos c1] at hm
    obtain rfl := Option.some.inj hm
    exact hE s_h  (Value.ref l0) w1 w2 w3 (Value.int l4) (Value.int l5) (Value.int l6) (Value.int l7) w8
  · rw [if_neg c1] at hm
    refine pw_l (pc := 78) d50_78 rfl rfl rfl ?_
    refine pw_l (pc := 80) d50_80 rfl rfl rfl ?_
    refine pw_s (pc := 82) d50_82 rfl rfl ?_
    refine pw_s (pc := 83) d50_83 rfl rfl ?_
    refine pw_s (pc := 84) d50_84 rfl rfl ?_
    refine pw_zne (pc := 85) (t := 137) d50_85 (by decide) (fun c2 => ?_) (fun c2 => ?_)
    · rw [if_pos c2] at hm
      refine pw_t (pc := 137) d50_137 rfl rfl rfl rfl ?_
      refine pw_go (pc := 140) (t := 70) d50_140 (by decide) ?_
      obtain rfl := Option.some.inj hm
      exact hE s_h  w1 w2 w3 w8
    · rw [if_neg c2] at hm
      refine pw_l (pc := 88) d50_88 rfl rfl rfl ?_
      refine pw_l (pc := 90) d50_90 rfl rfl rfl ?_
      refine pw_s (pc := 92) d50_92 rfl rfl ?_
      refine pw_zeq (pc := 93) (t := 137) d50_93 (by decide) (fun c3 => ?_) (fun c3 => ?_)
      · rw [if_pos c3] at hm
        refine pw_t (pc := 137) d50_137 rfl rfl rfl rfl ?_
        refine pw_go (pc := 140) (t := 70) d50_140 (by decide) ?_
        obtain rfl := Option.some.inj hm
        exact hE s_h  w1 w2 w3 w8
      · rw [if_neg c3] at hm
        refine pw_l (pc := 96) d50_96 rfl rfl rfl ?_
        obtain ⟨y4, e_y4, hm⟩ := ob_x hm
        have f_y4 := gO_x e_y4
        refine pw_gr (pc := 97) d50_97 (k50_12 b) (sho s_h f_l0) f1_0 f_y4.1 ?_
        refine pw_s (pc := 100) d50_100 rfl rfl ?_
        refine pw_l (pc := 101) d50_101 rfl rfl rfl ?_
        obtain ⟨q5, e_q5, hm⟩ := ob_x hm
        refine pw_v (pc := 103) (k := y4) (by omega) d50_103 (k50_96 b) (by decide) m69 (by decide) rfl (sho s_h f_y4.2) (Nat.le_of_ble_eq_true rfl) (Nat.le_of_ble_eq_true rfl) rfl rfl (T_c_orders b L xs (d - 1) (by omega) h s_h y4 (Int32.ofInt (-1)) l7 f_y4.2 e_q5) (fun v0 h0 hq => ?_)
        obtain ⟨rfl, hh0, s_q5⟩ := hq
        rw [hh0] at s_q5 ⊢
        simp only [Option.toList_some, List.cons_append, List.nil_append]
        refine pw_l (pc := 106) d50_106 rfl rfl rfl ?_
        obtain ⟨y6, e_y6, hm⟩ := ob_x hm
        have f_y6 := gO_x e_y6
        refine pw_gr (pc := 107) d50_107 (k50_12 b) (sho s_q5 f_l0) f1_0 f_y6.1 ?_
        refine pw_s (pc := 110) d50_110 rfl rfl ?_
        refine pw_l (pc := 111) d50_111 rfl rfl rfl ?_
        refine pw_l (pc := 113) d50_113 rfl rfl rfl ?_
        refine pw_s (pc := 115) d50_115 rfl rfl ?_
        refine pw_s (pc := 116) d50_116 rfl rfl ?_
        refine pw_s (pc := 117) d50_117 rfl rfl ?_
        obtain ⟨q7, e_q7, hm⟩ := ob_x hm
        refine pw_v (pc := 118) (k := y6) (by omega) d50_118 (k50_96 b) (by decide) m69 (by decide) rfl (sho s_q5 f_y6.2) (Nat.le_of_ble_eq_true rfl) (Nat.le_of_ble_eq_true rfl) rfl rfl (T_c_orders b L xs (d - 1) (by omega) q5.2 s_q5 y6 (Int32.ofInt (-1)) (l5 &&& (l7 ^^^ (Int32.ofInt (-1)))) f_y6.2 e_q7) (fun v0 h0 hq => ?_)
        obtain ⟨rfl, hh0, s_q7⟩ := hq
        rw [hh0] at s_q7 ⊢
        simp only [Option.toList_some, List.cons_append, List.nil_append]
        refine pw_s (pc := 121) d50_121 rfl rfl ?_
        refine pw_t (pc := 122) d50_122 rfl rfl rfl rfl ?_
        refine pw_l (pc := 124) d50_124 rfl rfl rfl ?_
        refine pw_l (pc := 126) d50_126 rfl rfl rfl ?_
        refine pw_s (pc := 128) d50_128 rfl rfl ?_
        refine pw_s (pc := 129) d50_129 rfl rfl ?_
        refine pw_s (pc := 130) d50_130 rfl rfl ?_
        refine pw_zne (pc := 131) (t := 137) d50_131 (by decide) (fun c8 => ?_) (fun c8 => ?_)
        · rw [if_pos c8] at hm
          refine pw_t (pc := 137) d50_137 rfl rfl rfl rfl ?_
          refine pw_go (pc := 140) (t := 70) d50_140 (by decide) ?_
          obtain rfl := Option.some.inj hm
          exact hE s_q7  w1 w2 w3 (Value.int (q5.1 &&& q7.1))
        · rw [if_neg c8] at hm
          obtain rfl := Option.some.inj hm
          exact hE s_q7  (Value.ref l0) w1 w2 w3 (Value.int l4) (Value.int l5) (Value.int l6) (Value.int (q5.1 &&& q7.1))
noncomputable def a_firstWatch_52 (l0 : Nat) (l1 : Nat) (l2 : Nat) (l4 : Int32) (h : pm_H) : Option (Int32 × pm_H) := (n_living l2 l1 h).bind fun q1 => (wh (fun s : (Int32 × pm_H) => a_firstWatch_70 l0 l4 q1 (q1 &&& (-q1)) s.1 s.2) ((Int32.ofInt 0), h)).bind fun q2 => (match q2 with | (.inl eq2_0) => some (eq2_0.1, eq2_0.2) | (.inr eq2_1) => some ((Int8.ofInt (-2)).toInt32, eq2_1))
theorem t_a_firstWatch_52 (b : Bool) (L : Nat) (xs : Nat → Int32) (d : Nat) (hd : 4 ≤ d) {Q : Option Value → pm_H → Prop} (h : pm_H) (s_h : h.1 = tb_SH) (l0 : Nat) (l1 : Nat) (l2 : Nat) (l4 : Int32) (w3 : Value) (w5 : Value) (w6 : Value) (w7 : Value) (w8 : Value) (f_l0 : mi_o l0 1 = true) (f_l1 : mi_o l1 7 = true) (f_l2 : mi_o l2 3 = true) {r : (Int32 × pm_H)} (hm : a_firstWatch_52 l0 l1 l2 l4 h = some r) (hE : r.2.1 = tb_SH → Q (some (Value.int r.1)) r.2) : PW b L xs d 50 0 0 52 [(Value.ref l0), (Value.ref l1), (Value.ref l2), w3, (Value.int l4), w5, w6, w7, w8] [] h Q := by
  rw [a_firstWatch_52] at hm
  refine pw_l (pc := 52) d50_52 rfl rfl rfl ?_
  refine pw_l (pc := 53) d50_53 rfl rfl rfl ?_
  obtain ⟨q1, e_q1, hm⟩ := ob_x hm
  refine pw_v (pc := 54) (k := l2) (by omega) d50_54 (k50_161 b) (by decide) m79 (by decide) rfl (sho s_h f_l2) (Nat.le_of_ble_eq_true rfl) (Nat.le_of_ble_eq_true rfl) rfl rfl (T_n_living b L xs (d - 1) (by omega) h s_h l2 l1 f_l2 f_l1 e_q1) (fun v0 h0 hq => ?_)
  obtain ⟨rfl, hh0, s_q1⟩ := hq
  rw [hh0] at s_q1 ⊢
  simp only [Option.toList_some, List.cons_append, List.nil_append]
  refine pw_t (pc := 57) d50_57 rfl rfl rfl rfl ?_
  refine pw_l (pc := 59) d50_59 rfl rfl rfl ?_
  refine pw_l (pc := 61) d50_61 rfl rfl rfl ?_
  refine pw_s (pc := 63) d50_63 rfl rfl ?_
  refine pw_s (pc := 64) d50_64 rfl rfl ?_
  refine pw_t (pc := 65) d50_65 rfl rfl rfl rfl ?_
  refine pw_s (pc := 67) d50_67 rfl rfl ?_
  refine pw_t (pc := 68) d50_68 rfl rfl rfl rfl ?_
  obtain ⟨q2, e_q2, hm⟩ := ob_x hm
  refine wh_ind e_q2 (fun s : (Int32 × pm_H) => s.2.1 = tb_SH → ∀ w1 w2 w3 w8 : Value, PW b L xs d 50 0 0 70 [(Value.ref l0), w1, w2, w3, (Value.int l4), (Value.int q1), (Value.int (q1 &&& (-q1))), (Value.int s.1), w8] [] s.2 Q) (fun s s2 hf ih sx w1 w2 w3 w8 => t_a_firstWatch_70 b L xs d hd s.2 sx l0 l4 q1 (q1 &&& (-q1)) s.1 w1 w2 w3 w8 f_l0 hf ih) (fun s hf sx w1 w2 w3 w8 => t_a_firstWatch_70 b L xs d hd s.2 sx l0 l4 q1 (q1 &&& (-q1)) s.1 w1 w2 w3 w8 f_l0 hf ?_) s_h  (Value.ref l1) (Value.ref l2) w3 w8
  rcases q2 with eq2_0 | eq2_1
  · dsimp only at hm
    intro s_q2_0 w0 w1 w2 w3 w4 w5 w6 w8
    refine pw_l (pc := 134) d50_134 rfl rfl rfl ?_
    obtain rfl := Option.some.inj hm
    refine pw_ri (pc := 136) d50_136 t50 rfl ?_
    exact hE s_q2_0
  · dsimp only at hm
    intro s_q2_1 w0 w1 w2 w3 w4 w5 w6 w7 w8
    refine pw_s (pc := 143) d50_143 rfl rfl ?_
    obtain rfl := Option.some.inj hm
    refine pw_ri (pc := 145) d50_145 t50 rfl ?_
    exact hE s_q2_1
noncomputable def a_firstWatch_43 (l0 : Nat) (l1 : Nat) (l2 : Nat) (l3 : Int32) (l5 : Int32) (z0 : Int32) (z1 : Int32) (h : pm_H) : Option ((Int32 × Int32 × pm_H) ⊕ (Int32 × pm_H)) := some (.inl ((z1 ||| z0), (l5 + Int32.ofInt 1), h))
theorem t_a_firstWatch_43 (b : Bool) (L : Nat) (xs : Nat → Int32) (d : Nat) (hd : 4 ≤ d) {Q : Option Value → pm_H → Prop} (h : pm_H) (s_h : h.1 = tb_SH) (l0 : Nat) (l1 : Nat) (l2 : Nat) (l3 : Int32) (l5 : Int32) (z0 : Int32) (z1 : Int32) (w4 : Value) (w6 : Value) (w7 : Value) (w8 : Value) (f_l0 : mi_o l0 1 = true) (f_l1 : mi_o l1 7 = true) (f_l2 : mi_o l2 3 = true) {r : ((Int32 × Int32 × pm_H) ⊕ (Int32 × pm_H))} (hm : a_firstWatch_43 l0 l1 l2 l3 l5 z0 z1 h = some r) (hE : E_a_firstWatch_6 b L xs d Q l0 l1 l2 l3 r) : PW b L xs d 50 0 0 43 [(Value.ref l0), (Value.ref l1), (Value.ref l2), (Value.int l3), w4, (Value.int l5), w6, w7, w8] [(Value.int z0), (Value.int z1)] h Q := by
  rw [a_firstWatch_43] at hm
  refine pw_s (pc := 43) d50_43 rfl rfl ?_
  refine pw_t (pc := 44) d50_44 rfl rfl rfl rfl ?_
  refine pw_t (pc := 46) d50_46 rfl rfl rfl rfl ?_
  refine pw_go (pc := 49) (t := 6) d50_49 (by decide) ?_
  obtain rfl := Option.some.inj hm
  exact hE s_h  w6 w7 w8
noncomputable def a_firstWatch_6 (l0 : Nat) (l1 : Nat) (l2 : Nat) (l3 : Int32) (l4 : Int32) (l5 : Int32) (h : pm_H) : Option ((Int32 × Int32 × pm_H) ⊕ (Int32 × pm_H)) := if (h.2.1 l1 2) ≤ l5 then (some (.inr (l4, h))) else (if (Int8.ofInt 8).toInt32 ≤ l5 then (some (.inr (l4, h))) else ((gA h l1 6 .int).bind fun y3 => if mi_in l5 (mi_n y3) = true then if (h.2.1 y3 l5.toNatClampNeg) < l3 then (a_firstWatch_43 l0 l1 l2 l3 l5 (Int32.ofInt 0) l4 h) else (a_firstWatch_43 l0 l1 l2 l3 l5 ((Int32.ofInt 1) <<< (l5 &&& 31)) l4 h) else none))
theorem t_a_firstWatch_6 (b : Bool) (L : Nat) (xs : Nat → Int32) (d : Nat) (hd : 4 ≤ d) {Q : Option Value → pm_H → Prop} (h : pm_H) (s_h : h.1 = tb_SH) (l0 : Nat) (l1 : Nat) (l2 : Nat) (l3 : Int32) (l4 : Int32) (l5 : Int32) (w6 : Value) (w7 : Value) (w8 : Value) (f_l0 : mi_o l0 1 = true) (f_l1 : mi_o l1 7 = true) (f_l2 : mi_o l2 3 = true) {r : ((Int32 × Int32 × pm_H) ⊕ (Int32 × pm_H))} (hm : a_firstWatch_6 l0 l1 l2 l3 l4 l5 h = some r) (hE : E_a_firstWatch_6 b L xs d Q l0 l1 l2 l3 r) : PW b L xs d 50 0 0 6 [(Value.ref l0), (Value.ref l1), (Value.ref l2), (Value.int l3), (Value.int l4), (Value.int l5), w6, w7, w8] [] h Q := by
  rw [a_firstWatch_6] at hm
  refine pw_l (pc := 6) d50_6 rfl rfl rfl ?_
  refine pw_l (pc := 8) d50_8 rfl rfl rfl ?_
  refine pw_gi (pc := 9) d50_9 (k50_156 b) (sho s_h f_l1) f7_2 ?_
  refine pw_ige (pc := 12) (t := 52) d50_12 (by decide) (fun c1 => ?_) (fun c1 => ?_)
  · rw [if_pos c1] at hm
    obtain rfl := Option.some.inj hm
    exact hE s_h  (Value.int l3) (Value.int l5) w6 w7 w8
  · rw [if_neg c1] at hm
    refine pw_l (pc := 15) d50_15 rfl rfl rfl ?_
    refine pw_s (pc := 17) d50_17 rfl rfl ?_
    refine pw_ige (pc := 19) (t := 52) d50_19 (by decide) (fun c2 => ?_) (fun c2 => ?_)
    · rw [if_pos c2] at hm
      obtain rfl := Option.some.inj hm
      exact hE s_h  (Value.int l3) (Value.int l5) w6 w7 w8
    · rw [if_neg c2] at hm
      refine pw_l (pc := 22) d50_22 rfl rfl rfl ?_
      refine pw_l (pc := 24) d50_24 rfl rfl rfl ?_
      obtain ⟨y3, e_y3, hm⟩ := ob_x hm
      have f_y3 := gA_x e_y3
      refine pw_gr (pc := 25) d50_25 (k50_158 b) (sho s_h f_l1) f7_6 f_y3.1 ?_
      refine pw_l (pc := 28) d50_28 rfl rfl rfl ?_
      obtain ⟨g4, hm⟩ := gd_x hm
      refine pw_ai (pc := 30) d50_30 (sha s_h f_y3.2) (mi_in_x g4) ?_
      refine pw_l (pc := 31) d50_31 rfl rfl rfl ?_
      refine pw_ilt (pc := 32) (t := 42) d50_32 (by decide) (fun c5 => ?_) (fun c5 => ?_)
      · rw [if_pos c5] at hm
        refine pw_s (pc := 42) d50_42 rfl rfl ?_
        exact t_a_firstWatch_43 b L xs d hd h s_h l0 l1 l2 l3 l5 (Int32.ofInt 0) l4 (Value.int l4) w6 w7 w8 f_l0 f_l1 f_l2  hm hE
      · rw [if_neg c5] at hm
        refine pw_s (pc := 35) d50_35 rfl rfl ?_
        refine pw_l (pc := 36) d50_36 rfl rfl rfl ?_
        refine pw_s (pc := 38) d50_38 rfl rfl ?_
        refine pw_go (pc := 39) (t := 43) d50_39 (by decide) ?_
        exact t_a_firstWatch_43 b L xs d hd h s_h l0 l1 l2 l3 l5 ((Int32.ofInt 1) <<< (l5 &&& 31)) l4 (Value.int l4) w6 w7 w8 f_l0 f_l1 f_l2  hm hE
noncomputable def a_firstWatch (l0 : Nat) (l1 : Nat) (l2 : Nat) (l3 : Int32) (h : pm_H) : Option (Int32 × pm_H) := (wh (fun s : (Int32 × Int32 × pm_H) => a_firstWatch_6 l0 l1 l2 l3 s.1 s.2.1 s.2.2) ((Int32.ofInt 0), (Int32.ofInt 0), h)).bind fun q1 => a_firstWatch_52 l0 l1 l2 q1.1 q1.2
theorem T_a_firstWatch (b : Bool) (L : Nat) (xs : Nat → Int32) (d : Nat) (hd : 4 ≤ d) (h : pm_H) (s_h : h.1 = tb_SH) (l0 : Nat) (l1 : Nat) (l2 : Nat) (l3 : Int32) (f_l0 : mi_o l0 1 = true) (f_l1 : mi_o l1 7 = true) (f_l2 : mi_o l2 3 = true) {r : (Int32 × pm_H)} (hm : a_firstWatch l0 l1 l2 l3 h = some r) : PC b L xs d 50 [(Value.ref l0), (Value.ref l1), (Value.ref l2), (Value.int l3)] h (fun (v0 : Option Value) (h2 : pm_H) => v0 = (some (Value.int r.1)) ∧ h2 = r.2 ∧ h2.1 = tb_SH) := by
  refine pc_in e50 (ls0 := [(Value.ref l0), (Value.ref l1), (Value.ref l2), (Value.int l3), Value.retAddr 0, Value.retAddr 0, Value.retAddr 0, Value.retAddr 0, Value.retAddr 0]) rfl ?_
  have key : ∀ (Q : Option Value → pm_H → Prop), (r.2.1 = tb_SH → Q (some (Value.int r.1)) r.2) → PW b L xs d 50 0 0 0 [(Value.ref l0), (Value.ref l1), (Value.ref l2), (Value.int l3), Value.retAddr 0, Value.retAddr 0, Value.retAddr 0, Value.retAddr 0, Value.retAddr 0] [] h Q := by
    intro Q hE
    rw [a_firstWatch] at hm
    refine pw_s (pc := 0) d50_0 rfl rfl ?_
    refine pw_t (pc := 1) d50_1 rfl rfl rfl rfl ?_
    refine pw_s (pc := 3) d50_3 rfl rfl ?_
    refine pw_t (pc := 4) d50_4 rfl rfl rfl rfl ?_
    obtain ⟨q1, e_q1, hm⟩ := ob_x hm
    refine wh_ind e_q1 (fun s : (Int32 × Int32 × pm_H) => s.2.2.1 = tb_SH → ∀ w6 w7 w8 : Value, PW b L xs d 50 0 0 6 [(Value.ref l0), (Value.ref l1), (Value.ref l2), (Value.int l3), (Value.int s.1), (Value.int s.2.1), w6, w7, w8] [] s.2.2 Q) (fun s s2 hf ih sx w6 w7 w8 => t_a_firstWatch_6 b L xs d hd s.2.2 sx l0 l1 l2 l3 s.1 s.2.1 w6 w7 w8 f_l0 f_l1 f_l2 hf ih) (fun s hf sx w6 w7 w8 => t_a_firstWatch_6 b L xs d hd s.2.2 sx l0 l1 l2 l3 s.1 s.2.1 w6 w7 w8 f_l0 f_l1 f_l2 hf ?_) s_h  (Value.retAddr 0) (Value.retAddr 0) (Value.retAddr 0)
    intro s_q1_0 w3 w5 w6 w7 w8
    exact t_a_firstWatch_52 b L xs d hd q1.2 s_q1_0 l0 l1 l2 q1.1 w3 w5 w6 w7 w8 f_l0 f_l1 f_l2  hm hE
  exact key _ (fun q => ⟨rfl, rfl, q⟩)
def E_a_needOf_4 (b : Bool) (L : Nat) (xs : Nat → Int32) (d : Nat) (Q : Option Value → pm_H → Prop) (h : pm_H) (l0 : Nat) (l1 : Int32) : ((Int32 × Int32) ⊕ Int32) → Prop
  | .inl s => PW b L xs d 52 0 0 4 [(Value.ref l0), (Value.int l1), (Value.int s.1), (Value.int s.2)] [] h Q
  | .inr e => ∀ w0 w1 w3 : Value, PW b L xs d 52 0 0 39 [w0, w1, (Value.int e), w3] [] h Q
noncomputable def a_needOf_4 (l0 : Nat) (l1 : Int32) (l2 : Int32) (l3 : Int32) (h : pm_H) : Option ((Int32 × Int32) ⊕ Int32) := if (h.2.1 l0 2) ≤ l3 then (some (.inr l2)) else (if (Int8.ofInt 8).toInt32 ≤ l3 then (some (.inr l2)) else ((x_bit l1 l3 h).bind fun q3 => (gA h l0 6 .int).bind fun y4 => if mi_in l3 (mi_n y4) = true then some (.inl ((l2 + (q3 * (h.2.1 y4 l3.toNatClampNeg))), (l3 + Int32.ofInt 1))) else none))
theorem t_a_needOf_4 (b : Bool) (L : Nat) (xs : Nat → Int32) (d : Nat) (hd : 1 ≤ d) {Q : Option Value → pm_H → Prop} (h : pm_H) (s_h : h.1 = tb_SH) (l0 : Nat) (l1 : Int32) (l2 : Int32) (l3 : Int32) (f_l0 : mi_o l0 7 = true) {r : ((Int32 × Int32) ⊕ Int32)} (hm : a_needOf_4 l0 l1 l2 l3 h = some r) (hE : E_a_needOf_4 b L xs d Q h l0 l1 r) : PW b L xs d 52 0 0 4 [(Value.ref l0), (Value.int l1), (Value.int l2), (Value.int l3)] [] h Q := by
  rw [a_needOf_4] at hm
  refine pw_l (pc := 4) d52_4 rfl rfl rfl ?_
  refine pw_l (pc := 5) d52_5 rfl rfl rfl ?_
  refine pw_gi (pc := 6) d52_6 (k52_156 b) (sho s_h f_l0) f7_2 ?_
  refine pw_ige (pc := 9) (t := 39) d52_9 (by decide) (fun c1 => ?_) (fun c1 => ?_)
  · rw [if_pos c1] at hm
    obtain rfl := Option.some.inj hm
    exact hE   (Value.ref l0) (Value.int l1) (Value.int l3)
  · rw [if_neg c1] at hm
    refine pw_l (pc := 12) d52_12 rfl rfl rfl ?_
    refine pw_s (pc := 13) d52_13 rfl rfl ?_
    refine pw_ige (pc := 15) (t := 39) d52_15 (by decide) (fun c2 => ?_) (fun c2 => ?_)
    · rw [if_pos c2] at hm
      obtain rfl := Option.some.inj hm
      exact hE   (Value.ref l0) (Value.int l1) (Value.int l3)
    · rw [if_neg c2] at hm
      refine pw_l (pc := 18) d52_18 rfl rfl rfl ?_
      refine pw_l (pc := 19) d52_19 rfl rfl rfl ?_
      refine pw_l (pc := 20) d52_20 rfl rfl rfl ?_
      obtain ⟨q3, e_q3, hm⟩ := ob_x hm
      refine pw_u (pc := 21) (by omega) d52_21 (k52_104 b) (by decide) m34 (Nat.le_of_ble_eq_true rfl) (Nat.le_of_ble_eq_true rfl) (Nat.le_of_ble_eq_true rfl) rfl rfl (T_x_bit b L xs (d - 1) (by omega) h s_h l1 l3  e_q3) (fun v0 h0 hq => ?_)
      obtain ⟨rfl, hh0, s_q3⟩ := hq
      rw [hh0] at s_q3 ⊢
      simp only [Option.toList_some, List.cons_append, List.nil_append]
      refine pw_l (pc := 24) d52_24 rfl rfl rfl ?_
      obtain ⟨y4, e_y4, hm⟩ := ob_x hm
      have f_y4 := gA_x e_y4
      refine pw_gr (pc := 25) d52_25 (k52_158 b) (sho s_h f_l0) f7_6 f_y4.1 ?_
      refine pw_l (pc := 28) d52_28 rfl rfl rfl ?_
      obtain ⟨g5, hm⟩ := gd_x hm
      refine pw_ai (pc := 29) d52_29 (sha s_h f_y4.2) (mi_in_x g5) ?_
      refine pw_s (pc := 30) d52_30 rfl rfl ?_
      refine pw_s (pc := 31) d52_31 rfl rfl ?_
      refine pw_t (pc := 32) d52_32 rfl rfl rfl rfl ?_
      refine pw_t (pc := 33) d52_33 rfl rfl rfl rfl ?_
      refine pw_go (pc := 36) (t := 4) d52_36 (by decide) ?_
      obtain rfl := Option.some.inj hm
      exact hE   
noncomputable def a_needOf (l0 : Nat) (l1 : Int32) (h : pm_H) : Option Int32 := (wh (fun s : (Int32 × Int32) => a_needOf_4 l0 l1 s.1 s.2 h) ((Int32.ofInt 0), (Int32.ofInt 0))).bind fun q1 => some q1
theorem T_a_needOf (b : Bool) (L : Nat) (xs : Nat → Int32) (d : Nat) (hd : 1 ≤ d) (h : pm_H) (s_h : h.1 = tb_SH) (l0 : Nat) (l1 : Int32) (f_l0 : mi_o l0 7 = true) {r : Int32} (hm : a_needOf l0 l1 h = some r) : PC b L xs d 52 [(Value.ref l0), (Value.int l1)] h (fun (v0 : Option Value) (h2 : pm_H) => v0 = (some (Value.int r)) ∧ h2 = h ∧ h2.1 = tb_SH) := by
  refine pc_in e52 (ls0 := [(Value.ref l0), (Value.int l1), Value.retAddr 0, Value.retAddr 0]) rfl ?_
  have key : ∀ (Q : Option Value → pm_H → Prop), (Q (some (Value.int r)) h) → PW b L xs d 52 0 0 0 [(Value.ref l0), (Value.int l1), Value.retAddr 0, Value.retAddr 0] [] h Q := by
    intro Q hE
    rw [a_needOf] at hm
    refine pw_s (pc := 0) d52_0 rfl rfl ?_
    refine pw_t (pc := 1) d52_1 rfl rfl rfl rfl ?_
    refine pw_s (pc := 2) d52_2 rfl rfl ?_
    refine pw_t (pc := 3) d52_3 rfl rfl rfl rfl ?_
    obtain ⟨q1, e_q1, hm⟩ := ob_x hm
    refine wh_ind e_q1 (fun s : (Int32 × Int32) => PW b L xs d 52 0 0 4 [(Value.ref l0), (Value.int l1), (Value.int s.1), (Value.int s.2)] [] h Q) (fun s s2 hf ih  => t_a_needOf_4 b L xs d hd h s_h l0 l1 s.1 s.2  f_l0 hf ih) (fun s hf  => t_a_needOf_4 b L xs d hd h s_h l0 l1 s.1 s.2  f_l0 hf ?_)   
    intro w0 w1 w3
    refine pw_l (pc := 39) d52_39 rfl rfl rfl ?_
    obtain rfl := Option.some.inj hm
    refine pw_ri (pc := 40) d52_40 t52 rfl ?_
    exact hE
  exact key _ ⟨rfl, rfl, s_h⟩
noncomputable def a_addSpare (l0 : Nat) (l1 : Int32) (l2 : Int32) (h : pm_H) : Option pm_H := if l1 < 0 then (some h) else ((gA h l0 8 .int).bind fun y2 => if (Int32.ofNat (mi_n y2)) ≤ l1 then (some h) else ((gA h l0 8 .int).bind fun y4 => if mi_in l1 (mi_n y4) = true then if mi_in l1 (mi_n y4) = true then bd (pm_setI h y4 l1.toNatClampNeg ((h.2.1 y4 l1.toNatClampNeg) + l2)) fun h7 => some h7 else none else none))
theorem T_a_addSpare (b : Bool) (L : Nat) (xs : Nat → Int32) (d : Nat) (hd : 0 ≤ d) (h : pm_H) (s_h : h.1 = tb_SH) (l0 : Nat) (l1 : Int32) (l2 : Int32) (f_l0 : mi_o l0 1 = true) {r : pm_H} (hm : a_addSpare l0 l1 l2 h = some r) : PC b L xs d 55 [(Value.ref l0), (Value.int l1), (Value.int l2)] h (fun (v0 : Option Value) (h2 : pm_H) => v0 = none ∧ h2 = r ∧ h2.1 = tb_SH) := by
  refine pc_in e55 (ls0 := [(Value.ref l0), (Value.int l1), (Value.int l2)]) rfl ?_
  have key : ∀ (Q : Option Value → pm_H → Prop), (r.1 = tb_SH → Q none r) → PW b L xs d 55 0 0 0 [(Value.ref l0), (Value.int l1), (Value.int l2)] [] h Q := by
    intro Q hE
    rw [a_addSpare] at hm
    refine pw_l (pc := 0) d55_0 rfl rfl rfl ?_
    refine pw_zlt (pc := 1) (t := 23) d55_1 (by decide) (fun c1 => ?_) (fun c1 => ?_)
    · rw [if_pos c1] at hm
      obtain rfl := Option.some.inj hm
      refine pw_rv (pc := 23) d55_23 t55 ?_
      exact hE s_h
    · rw [if_neg c1] at hm
      refine pw_l (pc := 4) d55_4 rfl rfl rfl ?_
      refine pw_l (pc := 5) d55_5 rfl rfl rfl ?_
      obtain ⟨y2, e_y2, hm⟩ := ob_x hm
      have f_y2 := gA_x e_y2
      refine pw_gr (pc := 6) d55_6 (k55_45 b) (sho s_h f_l0) f1_8 f_y2.1 ?_
      refine pw_an (pc := 9) d55_9 (sha s_h f_y2.2) ?_
      refine pw_ige (pc := 10) (t := 23) d55_10 (by decide) (fun c3 => ?_) (fun c3 => ?_)
      · rw [if_pos c3] at hm
        obtain rfl := Option.some.inj hm
        refine pw_rv (pc := 23) d55_23 t55 ?_
        exact hE s_h
      · rw [if_neg c3] at hm
        refine pw_l (pc := 13) d55_13 rfl rfl rfl ?_
        obtain ⟨y4, e_y4, hm⟩ := ob_x hm
        have f_y4 := gA_x e_y4
        refine pw_gr (pc := 14) d55_14 (k55_45 b) (sho s_h f_l0) f1_8 f_y4.1 ?_
        refine pw_l (pc := 17) d55_17 rfl rfl rfl ?_
        refine pw_s (pc := 18) d55_18 rfl rfl ?_
        obtain ⟨g5, hm⟩ := gd_x hm
        refine pw_ai (pc := 19) d55_19 (sha s_h f_y4.2) (mi_in_x g5) ?_
        refine pw_l (pc := 20) d55_20 rfl rfl rfl ?_
        refine pw_s (pc := 21) d55_21 rfl rfl ?_
        obtain ⟨g6, hm⟩ := gd_x hm
        refine pw_si (pc := 22) d55_22 (sha s_h f_y4.2) (mi_in_x g6) ?_
        obtain ⟨h7, e_h7, hm⟩ := bd_x hm
        rw [e_h7]
        have s_h7 : h7.1 = tb_SH := by rw [← e_h7]; exact s_h
        obtain rfl := Option.some.inj hm
        refine pw_rv (pc := 23) d55_23 t55 ?_
        exact hE s_h7
  exact key _ (fun q => ⟨rfl, rfl, q⟩)
def E_a_tryLack_11 (b : Bool) (L : Nat) (xs : Nat → Int32) (d : Nat) (Q : Option Value → pm_H → Prop) (l0 : Nat) : ((Int32 × Int32 × Int32 × Int32 × pm_H) ⊕ (Int32 × Int32 × Int32 × pm_H)) → Prop
  | .inl s => s.2.2.2.2.1 = tb_SH → ∀ w5 : Value, PW b L xs d 56 0 0 11 [(Value.ref l0), (Value.int s.1), (Value.int s.2.1), (Value.int s.2.2.1), (Value.int s.2.2.2.1), w5] [] s.2.2.2.2 Q
  | .inr e => e.2.2.2.1 = tb_SH → ∀ w4 w5 : Value, PW b L xs d 56 0 0 109 [(Value.ref l0), (Value.int e.1), (Value.int e.2.1), (Value.int e.2.2.1), w4, w5] [] e.2.2.2 Q
noncomputable def a_tryLack_178 (l0 : Nat) (l1 : Int32) (l2 : Int32) (l3 : Int32) (h : pm_H) : Option pm_H := bd (pm_setI h l0 5 l1) fun h1 => bd (pm_setI h1 l0 6 l2) fun h2 => bd (pm_setI h2 l0 7 l3) fun h3 => some h3
theorem t_a_tryLack_178 (b : Bool) (L : Nat) (xs : Nat → Int32) (d : Nat) (hd : 2 ≤ d) {Q : Option Value → pm_H → Prop} (h : pm_H) (s_h : h.1 = tb_SH) (l0 : Nat) (l1 : Int32) (l2 : Int32) (l3 : Int32) (w4 : Value) (w5 : Value) (f_l0 : mi_o l0 1 = true) {r : pm_H} (hm : a_tryLack_178 l0 l1 l2 l3 h = some r) (hE : r.1 = tb_SH → Q none r) : PW b L xs d 56 0 0 178 [(Value.ref l0), (Value.int l1), (Value.int l2), (Value.int l3), w4, w5] [] h Q := by
  rw [a_tryLack_178] at hm
  refine pw_l (pc := 178) d56_178 rfl rfl rfl ?_
  refine pw_l (pc := 179) d56_179 rfl rfl rfl ?_
  refine pw_pi (pc := 180) d56_180 (k56_36 b) (sho s_h f_l0) p56_1_5 ?_
  obtain ⟨h1, e_h1, hm⟩ := bd_x hm
  rw [e_h1]
  have s_h1 : h1.1 = tb_SH := by rw [← e_h1]; exact s_h
  refine pw_l (pc := 183) d56_183 rfl rfl rfl ?_
  refine pw_l (pc := 184) d56_184 rfl rfl rfl ?_
  refine pw_pi (pc := 185) d56_185 (k56_39 b) (sho s_h1 f_l0) p56_1_6 ?_
  obtain ⟨h2, e_h2, hm⟩ := bd_x hm
  rw [e_h2]
  have s_h2 : h2.1 = tb_SH := by rw [← e_h2]; exact s_h1
  refine pw_l (pc := 188) d56_188 rfl rfl rfl ?_
  refine pw_l (pc := 189) d56_189 rfl rfl rfl ?_
  refine pw_pi (pc := 190) d56_190 (k56_42 b) (sho s_h2 f_l0) p56_1_7 ?_
  obtain ⟨h3, e_h3, hm⟩ := bd_x hm
  rw [e_h3]
  have s_h3 : h3.1 = tb_SH := by rw [← e_h3]; exact s_h2
  obtain rfl := Option.some.inj hm
  refine pw_rv (pc := 193) d56_193 t56 ?_
  exact hE s_h3
noncomputable def a_tryLack_158 (l0 : Nat) (l1 : Int32) (l2 : Int32) (l3 : Int32) (l4 : Int32) (z0 : Int32) (h : pm_H) : Option pm_H := if l1 < (h.2.1 l0 5) then (a_tryLack_178 l0 l1 l2 l3 h) else (if l4 = 0 then (some h) else (if z0 = 0 then (some h) else (a_tryLack_178 l0 l1 l2 l3 h)))
theorem t_a_tryLack_158 (b : Bool) (L : Nat) (xs : Nat → Int32) (d : Nat) (hd : 2 ≤ d) {Q : Option Value → pm_H → Prop} (h : pm_H) (s_h : h.1 = tb_SH) (l0 : Nat) (l1 : Int32) (l2 : Int32) (l3 : Int32) (l4 : Int32) (z0 : Int32) (w5 : Value) (f_l0 : mi_o l0 1 = true) {r : pm_H} (hm : a_tryLack_158 l0 l1 l2 l3 l4 z0 h = some r) (hE : r.1 = tb_SH → Q none r) : PW b L xs d 56 0 0 158 [(Value.ref l0), (Value.int l1), (Value.int l2), (Value.int l3), (Value.int l4), w5] [(Value.int z0)] h Q := by
  rw [a_tryLack_158] at hm
  refine pw_t (pc := 158) d56_158 rfl rfl rfl rfl ?_
  refine pw_l (pc := 160) d56_160 rfl rfl rfl ?_
  refine pw_l (pc := 161) d56_161 rfl rfl rfl ?_
  refine pw_gi (pc := 162) d56_162 (k56_36 b) (sho s_h f_l0) f1_5 ?_
  refine pw_ilt (pc := 165) (t := 178) d56_165 (by decide) (fun c1 => ?_) (fun c1 => ?_)
  · rw [if_pos c1] at hm
    exact t_a_tryLack_178 b L xs d hd h s_h l0 l1 l2 l3 (Value.int l4) (Value.int z0) f_l0  hm hE
  · rw [if_neg c1] at hm
    refine pw_l (pc := 168) d56_168 rfl rfl rfl ?_
    refine pw_zeq (pc := 170) (t := 193) d56_170 (by decide) (fun c2 => ?_) (fun c2 => ?_)
    · rw [if_pos c2] at hm
      obtain rfl := Option.some.inj hm
      refine pw_rv (pc := 193) d56_193 t56 ?_
      exact hE s_h
    · rw [if_neg c2] at hm
      refine pw_l (pc := 173) d56_173 rfl rfl rfl ?_
      refine pw_zeq (pc := 175) (t := 193) d56_175 (by decide) (fun c3 => ?_) (fun c3 => ?_)
      · rw [if_pos c3] at hm
        obtain rfl := Option.some.inj hm
        refine pw_rv (pc := 193) d56_193 t56 ?_
        exact hE s_h
      · rw [if_neg c3] at hm
        exact t_a_tryLack_178 b L xs d hd h s_h l0 l1 l2 l3 (Value.int l4) (Value.int z0) f_l0  hm hE
noncomputable def a_tryLack_153 (l0 : Nat) (l1 : Int32) (l2 : Int32) (l3 : Int32) (l4 : Int32) (h : pm_H) : Option pm_H := a_tryLack_158 l0 l1 l2 l3 l4 (Int32.ofInt 1) h
theorem t_a_tryLack_153 (b : Bool) (L : Nat) (xs : Nat → Int32) (d : Nat) (hd : 2 ≤ d) {Q : Option Value → pm_H → Prop} (h : pm_H) (s_h : h.1 = tb_SH) (l0 : Nat) (l1 : Int32) (l2 : Int32) (l3 : Int32) (l4 : Int32) (w5 : Value) (f_l0 : mi_o l0 1 = true) {r : pm_H} (hm : a_tryLack_153 l0 l1 l2 l3 l4 h = some r) (hE : r.1 = tb_SH → Q none r) : PW b L xs d 56 0 0 153 [(Value.ref l0), (Value.int l1), (Value.int l2), (Value.int l3), (Value.int l4), w5] [] h Q := by
  rw [a_tryLack_153] at hm
  refine pw_s (pc := 153) d56_153 rfl rfl ?_
  refine pw_go (pc := 154) (t := 158) d56_154 (by decide) ?_
  exact t_a_tryLack_158 b L xs d hd h s_h l0 l1 l2 l3 l4 (Int32.ofInt 1) w5 f_l0  hm hE
noncomputable def a_tryLack_127 (l0 : Nat) (l1 : Int32) (l2 : Int32) (l3 : Int32) (z0 : Int32) (h : pm_H) : Option pm_H := if l2 < (h.2.1 l0 6) then (a_tryLack_153 l0 l1 l2 l3 z0 h) else (if ¬ l2 = (h.2.1 l0 6) then (a_tryLack_158 l0 l1 l2 l3 z0 (Int32.ofInt 0) h) else (if (h.2.1 l0 7) ≤ l3 then (a_tryLack_158 l0 l1 l2 l3 z0 (Int32.ofInt 0) h) else (a_tryLack_153 l0 l1 l2 l3 z0 h)))
theorem t_a_tryLack_127 (b : Bool) (L : Nat) (xs : Nat → Int32) (d : Nat) (hd : 2 ≤ d) {Q : Option Value → pm_H → Prop} (h : pm_H) (s_h : h.1 = tb_SH) (l0 : Nat) (l1 : Int32) (l2 : Int32) (l3 : Int32) (z0 : Int32) (w4 : Value) (w5 : Value) (f_l0 : mi_o l0 1 = true) {r : pm_H} (hm : a_tryLack_127 l0 l1 l2 l3 z0 h = some r) (hE : r.1 = tb_SH → Q none r) : PW b L xs d 56 0 0 127 [(Value.ref l0), (Value.int l1), (Value.int l2), (Value.int l3), w4, w5] [(Value.int z0)] h Q := by
  rw [a_tryLack_127] at hm
  refine pw_t (pc := 127) d56_127 rfl rfl rfl rfl ?_
  refine pw_l (pc := 129) d56_129 rfl rfl rfl ?_
  refine pw_l (pc := 130) d56_130 rfl rfl rfl ?_
  refine pw_gi (pc := 131) d56_131 (k56_39 b) (sho s_h f_l0) f1_6 ?_
  refine pw_ilt (pc := 134) (t := 153) d56_134 (by decide) (fun c1 => ?_) (fun c1 => ?_)
  · rw [if_pos c1] at hm
    exact t_a_tryLack_153 b L xs d hd h s_h l0 l1 l2 l3 z0 w5 f_l0  hm hE
  · rw [if_neg c1] at hm
    refine pw_l (pc := 137) d56_137 rfl rfl rfl ?_
    refine pw_l (pc := 138) d56_138 rfl rfl rfl ?_
    refine pw_gi (pc := 139) d56_139 (k56_39 b) (sho s_h f_l0) f1_6 ?_
    refine pw_ine (pc := 142) (t := 157) d56_142 (by decide) (fun c2 => ?_) (fun c2 => ?_)
    · rw [if_pos c2] at hm
      refine pw_s (pc := 157) d56_157 rfl rfl ?_
      exact t_a_tryLack_158 b L xs d hd h s_h l0 l1 l2 l3 z0 (Int32.ofInt 0) w5 f_l0  hm hE
    · rw [if_neg c2] at hm
      refine pw_l (pc := 145) d56_145 rfl rfl rfl ?_
      refine pw_l (pc := 146) d56_146 rfl rfl rfl ?_
      refine pw_gi (pc := 147) d56_147 (k56_42 b) (sho s_h f_l0) f1_7 ?_
      refine pw_ige (pc := 150) (t := 157) d56_150 (by decide) (fun c3 => ?_) (fun c3 => ?_)
      · rw [if_pos c3] at hm
        refine pw_s (pc := 157) d56_157 rfl rfl ?_
        exact t_a_tryLack_158 b L xs d hd h s_h l0 l1 l2 l3 z0 (Int32.ofInt 0) w5 f_l0  hm hE
      · rw [if_neg c3] at hm
        exact t_a_tryLack_153 b L xs d hd h s_h l0 l1 l2 l3 z0 w5 f_l0  hm hE
noncomputable def a_tryLack_102 (l0 : Nat) (l1 : Int32) (l3 : Int32) (l4 : Int32) (z0 : Int32) (h : pm_H) : Option ((Int32 × Int32 × Int32 × Int32 × pm_H) ⊕ (Int32 × Int32 × Int32 × pm_H)) := some (.inl (l1, z0, l3, (l4 + Int32.ofInt 1), h))
theorem t_a_tryLack_102 (b : Bool) (L : Nat) (xs : Nat → Int32) (d : Nat) (hd : 2 ≤ d) {Q : Option Value → pm_H → Prop} (h : pm_H) (s_h : h.1 = tb_SH) (l0 : Nat) (l1 : Int32) (l3 : Int32) (l4 : Int32) (z0 : Int32) (w2 : Value) (w5 : Value) (f_l0 : mi_o l0 1 = true) {r : ((Int32 × Int32 × Int32 × Int32 × pm_H) ⊕ (Int32 × Int32 × Int32 × pm_H))} (hm : a_tryLack_102 l0 l1 l3 l4 z0 h = some r) (hE : E_a_tryLack_11 b L xs d Q l0 r) : PW b L xs d 56 0 0 102 [(Value.ref l0), (Value.int l1), w2, (Value.int l3), (Value.int l4), w5] [(Value.int z0)] h Q := by
  rw [a_tryLack_102] at hm
  refine pw_t (pc := 102) d56_102 rfl rfl rfl rfl ?_
  refine pw_t (pc := 103) d56_103 rfl rfl rfl rfl ?_
  refine pw_go (pc := 106) (t := 11) d56_106 (by decide) ?_
  obtain rfl := Option.some.inj hm
  exact hE s_h  w5
noncomputable def a_tryLack_85 (l0 : Nat) (l1 : Int32) (l2 : Int32) (l4 : Int32) (l5 : Int32) (z0 : Int32) (h : pm_H) : Option ((Int32 × Int32 × Int32 × Int32 × pm_H) ⊕ (Int32 × Int32 × Int32 × pm_H)) := if ¬ l1 = (Int32.ofInt 1) then (a_tryLack_102 l0 l1 z0 l4 (if l5 < l2 then l5 else l2) h) else (a_tryLack_102 l0 l1 z0 l4 l5 h)
theorem t_a_tryLack_85 (b : Bool) (L : Nat) (xs : Nat → Int32) (d : Nat) (hd : 2 ≤ d) {Q : Option Value → pm_H → Prop} (h : pm_H) (s_h : h.1 = tb_SH) (l0 : Nat) (l1 : Int32) (l2 : Int32) (l4 : Int32) (l5 : Int32) (z0 : Int32) (w3 : Value) (f_l0 : mi_o l0 1 = true) {r : ((Int32 × Int32 × Int32 × Int32 × pm_H) ⊕ (Int32 × Int32 × Int32 × pm_H))} (hm : a_tryLack_85 l0 l1 l2 l4 l5 z0 h = some r) (hE : E_a_tryLack_11 b L xs d Q l0 r) : PW b L xs d 56 0 0 85 [(Value.ref l0), (Value.int l1), (Value.int l2), w3, (Value.int l4), (Value.int l5)] [(Value.int z0)] h Q := by
  rw [a_tryLack_85] at hm
  refine pw_t (pc := 85) d56_85 rfl rfl rfl rfl ?_
  refine pw_l (pc := 86) d56_86 rfl rfl rfl ?_
  refine pw_s (pc := 87) d56_87 rfl rfl ?_
  refine pw_ine (pc := 88) (t := 96) d56_88 (by decide) (fun c1 => ?_) (fun c1 => ?_)
  · rw [if_pos c1] at hm
    refine pw_l (pc := 96) d56_96 rfl rfl rfl ?_
    refine pw_l (pc := 97) d56_97 rfl rfl rfl ?_
    refine pw_mn (pc := 99) (by omega) d56_99 (k56_193 b) (Nat.le_of_ble_eq_true rfl) ?_
    exact t_a_tryLack_102 b L xs d hd h s_h l0 l1 z0 l4 (if l5 < l2 then l5 else l2) (Value.int l2) (Value.int l5) f_l0  hm hE
  · rw [if_neg c1] at hm
    refine pw_l (pc := 91) d56_91 rfl rfl rfl ?_
    refine pw_go (pc := 93) (t := 102) d56_93 (by decide) ?_
    exact t_a_tryLack_102 b L xs d hd h s_h l0 l1 z0 l4 l5 (Value.int l2) (Value.int l5) f_l0  hm hE
noncomputable def a_tryLack_11 (l0 : Nat) (l1 : Int32) (l2 : Int32) (l3 : Int32) (l4 : Int32) (h : pm_H) : Option ((Int32 × Int32 × Int32 × Int32 × pm_H) ⊕ (Int32 × Int32 × Int32 × pm_H)) := (gO h l0 1 5).bind fun y1 => if (h.2.1 y1 6) ≤ l4 then (some (.inr (l1, l2, l3, h))) else ((gO h l0 1 5).bind fun y3 => (r_wordAt y3 l4 h).bind fun q4 => (a_addSpare l0 q4 (Int32.ofInt (-1)) h).bind fun q5 => if q4 < 0 then (some (.inl (l1, l2, l3, (l4 + Int32.ofInt 1), q5))) else ((gA q5 l0 8 .int).bind fun y7 => if (Int32.ofNat (mi_n y7)) ≤ q4 then (some (.inl (l1, l2, l3, (l4 + Int32.ofInt 1), q5))) else ((gA q5 l0 8 .int).bind fun y9 => if mi_in q4 (mi_n y9) = true then if 0 ≤ (q5.2.1 y9 q4.toNatClampNeg) then (some (.inl (l1, l2, l3, (l4 + Int32.ofInt 1), q5))) else (if ¬ (l1 + Int32.ofInt 1) = (Int32.ofInt 1) then (a_tryLack_85 l0 (l1 + Int32.ofInt 1) l2 l4 q4 (if l2 < q4 then q4 else l2) q5) else (a_tryLack_85 l0 (l1 + Int32.ofInt 1) l2 l4 q4 ((Int8.ofInt (-2)).toInt32) q5)) else none)))
theorem t_a_tryLack_11 (b : Bool) (L : Nat) (xs : Nat → Int32) (d : Nat) (hd : 2 ≤ d) {Q : Option Value → pm_H → Prop} (h : pm_H) (s_h : h.1 = tb_SH) (l0 : Nat) (l1 : Int32) (l2 : Int32) (l3 : Int32) (l4 : Int32) (w5 : Value) (f_l0 : mi_o l0 1 = true) {r : ((Int32 × Int32 × Int32 × Int32 × pm_H) ⊕ (Int32 × Int32 × Int32 × pm_H))} (hm : a_tryLack_11 l0 l1 l2 l3 l4 h = some r) (hE : E_a_tryLack_11 b L xs d Q l0 r) : PW b L xs d 56 0 0 11 [(Value.ref l0), (Value.int l1), (Value.int l2), (Value.int l3), (Value.int l4), w5] [] h Q := by
  rw [a_tryLack_11] at hm
  refine pw_l (pc := 11) d56_11 rfl rfl rfl ?_
  refine pw_l (pc := 13) d56_13 rfl rfl rfl ?_
  obtain ⟨y1, e_y1, hm⟩ := ob_x hm
  have f_y1 := gO_x e_y1
  refine pw_gr (pc := 14) d56_14 (k56_21 b) (sho s_h f_l0) f1_1 f_y1.1 ?_
  refine pw_gi (pc := 17) d56_17 (k56_116 b) (sho s_h f_y1.2) f5_6 ?_
  refine pw_ige (pc := 20) (t := 109) d56_20 (by decide) (fun c2 => ?_) (fun c2 => ?_)
  · rw [if_pos c2] at hm
    obtain rfl := Option.some.inj hm
    exact hE s_h  (Value.int l4) w5
  · rw [if_neg c2] at hm
    refine pw_l (pc := 23) d56_23 rfl rfl rfl ?_
    obtain ⟨y3, e_y3, hm⟩ := ob_x hm
    have f_y3 := gO_x e_y3
    refine pw_gr (pc := 24) d56_24 (k56_21 b) (sho s_h f_l0) f1_1 f_y3.1 ?_
    refine pw_l (pc := 27) d56_27 rfl rfl rfl ?_
    obtain ⟨q4, e_q4, hm⟩ := ob_x hm
    refine pw_v (pc := 29) (k := y3) (by omega) d56_29 (k56_132 b) (by decide) m88 (by decide) rfl (sho s_h f_y3.2) (Nat.le_of_ble_eq_true rfl) (Nat.le_of_ble_eq_true rfl) rfl rfl (T_r_wordAt b L xs (d - 1) (by omega) h s_h y3 l4 f_y3.2 e_q4) (fun v0 h0 hq => ?_)
    obtain ⟨rfl, hh0, s_q4⟩ := hq
    rw [hh0] at s_q4 ⊢
    simp only [Option.toList_some, List.cons_append, List.nil_append]
    refine pw_t (pc := 32) d56_32 rfl rfl rfl rfl ?_
    refine pw_l (pc := 34) d56_34 rfl rfl rfl ?_
    refine pw_l (pc := 35) d56_35 rfl rfl rfl ?_
    refine pw_s (pc := 37) d56_37 rfl rfl ?_
    obtain ⟨q5, e_q5, hm⟩ := ob_x hm
    refine pw_v (pc := 38) (k := l0) (by omega) d56_38 (k56_181 b) (by decide) m55 (by decide) rfl (sho s_h f_l0) (Nat.le_of_ble_eq_true rfl) (Nat.le_of_ble_eq_true rfl) rfl rfl (T_a_addSpare b L xs (d - 1) (by omega) h s_h l0 q4 (Int32.ofInt (-1)) f_l0 e_q5) (fun v0 h0 hq => ?_)
    obtain ⟨rfl, hh0, s_q5⟩ := hq
    rw [hh0] at s_q5 ⊢
    simp only [Option.toList_none, List.nil_append]
    refine pw_l (pc := 41) d56_41 rfl rfl rfl ?_
    refine pw_zlt (pc := 43) (t := 103) d56_43 (by decide) (fun c6 => ?_) (fun c6 => ?_)
    · rw [if_pos c6] at hm
      refine pw_t (pc := 103) d56_103 rfl rfl rfl rfl ?_
      refine pw_go (pc := 106) (t := 11) d56_106 (by decide) ?_
      obtain rfl := Option.some.inj hm
      exact hE s_q5  (Value.int q4)
    · rw [if_neg c6] at hm
      refine pw_l (pc := 46) d56_46 rfl rfl rfl ?_
      refine pw_l (pc := 48) d56_48 rfl rfl rfl ?_
      obtain ⟨y7, e_y7, hm⟩ := ob_x hm
      have f_y7 := gA_x e_y7
      refine pw_gr (pc := 49) d56_49 (k56_45 b) (sho s_q5 f_l0) f1_8 f_y7.1 ?_
      refine pw_an (pc := 52) d56_52 (sha s_q5 f_y7.2) ?_
      refine pw_ige (pc := 53) (t := 103) d56_53 (by decide) (fun c8 => ?_) (fun c8 => ?_)
      · rw [if_pos c8] at hm
        refine pw_t (pc := 103) d56_103 rfl rfl rfl rfl ?_
        refine pw_go (pc := 106) (t := 11) d56_106 (by decide) ?_
        obtain rfl := Option.some.inj hm
        exact hE s_q5  (Value.int q4)
      · rw [if_neg c8] at hm
        refine pw_l (pc := 56) d56_56 rfl rfl rfl ?_
        obtain ⟨y9, e_y9, hm⟩ := ob_x hm
        have f_y9 := gA_x e_y9
        refine pw_gr (pc := 57) d56_57 (k56_45 b) (sho s_q5 f_l0) f1_8 f_y9.1 ?_
        refine pw_l (pc := 60) d56_60 rfl rfl rfl ?_
        obtain ⟨g10, hm⟩ := gd_x hm
        refine pw_ai (pc := 62) d56_62 (sha s_q5 f_y9.2) (mi_in_x g10) ?_
        refine pw_zge (pc := 63) (t := 103) d56_63 (by decide) (fun c11 => ?_) (fun c11 => ?_)
        · rw [if_pos c11] at hm
          refine pw_t (pc := 103) d56_103 rfl rfl rfl rfl ?_
          refine pw_go (pc := 106) (t := 11) d56_106 (by decide) ?_
          obtain rfl := Option.some.inj hm
          exact hE s_q5  (Value.int q4)
        · rw [if_neg c11] at hm
          refine pw_t (pc := 66) d56_66 rfl rfl rfl rfl ?_
          refine pw_l (pc := 69) d56_69 rfl rfl rfl ?_
          refine pw_s (pc := 70) d56_70 rfl rfl ?_
          refine pw_ine (pc := 71) (t := 79) d56_71 (by decide) (fun c12 => ?_) (fun c12 => ?_)
          · rw [if_pos c12] at hm
            refine pw_l (pc := 79) d56_79 rfl rfl rfl ?_
            refine pw_l (pc := 80) d56_80 rfl rfl rfl ?_
            refine pw_mx (pc := 82) (by omega) d56_82 (k56_188 b) (Nat.le_of_ble_eq_true rfl) ?_
            exact t_a_tryLack_85 b L xs d hd q5 s_q5 l0 (l1 + Int32.ofInt 1) l2 l4 q4 (if l2 < q4 then q4 else l2) (Value.int l3) f_l0  hm hE
          · rw [if_neg c12] at hm
            refine pw_s (pc := 74) d56_74 rfl rfl ?_
            refine pw_go (pc := 76) (t := 85) d56_76 (by decide) ?_
            exact t_a_tryLack_85 b L xs d hd q5 s_q5 l0 (l1 + Int32.ofInt 1) l2 l4 q4 ((Int8.ofInt (-2)).toInt32) (Value.int l3) f_l0  hm hE
noncomputable def a_tryLack (l0 : Nat) (h : pm_H) : Option pm_H := (wh (fun s : (Int32 × Int32 × Int32 × Int32 × pm_H) => a_tryLack_11 l0 s.1 s.2.1 s.2.2.1 s.2.2.2.1 s.2.2.2.2) ((Int32.ofInt 0), (Int8.ofInt (-2)).toInt32, (Int8.ofInt (-2)).toInt32, (Int32.ofInt 0), h)).bind fun q1 => if ¬ q1.1 = (q1.2.2.2.2.1 l0 5) then (a_tryLack_127 l0 q1.1 q1.2.1 q1.2.2.1 (Int32.ofInt 0) q1.2.2.2) else (if (Int32.ofInt 2) < q1.1 then (a_tryLack_127 l0 q1.1 q1.2.1 q1.2.2.1 (Int32.ofInt 0) q1.2.2.2) else (a_tryLack_127 l0 q1.1 q1.2.1 q1.2.2.1 (Int32.ofInt 1) q1.2.2.2))
theorem T_a_tryLack (b : Bool) (L : Nat) (xs : Nat → Int32) (d : Nat) (hd : 2 ≤ d) (h : pm_H) (s_h : h.1 = tb_SH) (l0 : Nat) (f_l0 : mi_o l0 1 = true) {r : pm_H} (hm : a_tryLack l0 h = some r) : PC b L xs d 56 [(Value.ref l0)] h (fun (v0 : Option Value) (h2 : pm_H) => v0 = none ∧ h2 = r ∧ h2.1 = tb_SH) := by
  refine pc_in e56 (ls0 := [(Value.ref l0), Value.retAddr 0, Value.retAddr 0, Value.retAddr 0, Value.retAddr 0, Value.retAddr 0]) rfl ?_
  have key : ∀ (Q : Option Value → pm_H → Prop), (r.1 = tb_SH → Q none r) → PW b L xs d 56 0 0 0 [(Value.ref l0), Value.retAddr 0, Value.retAddr 0, Value.retAddr 0, Value.retAddr 0, Value.retAddr 0] [] h Q := by
    intro Q hE
    rw [a_tryLack] at hm
    refine pw_s (pc := 0) d56_0 rfl rfl ?_
    refine pw_t (pc := 1) d56_1 rfl rfl rfl rfl ?_
    refine pw_s (pc := 2) d56_2 rfl rfl ?_
    refine pw_t (pc := 4) d56_4 rfl rfl rfl rfl ?_
    refine pw_s (pc := 5) d56_5 rfl rfl ?_
    refine pw_t (pc := 7) d56_7 rfl rfl rfl rfl ?_
    refine pw_s (pc := 8) d56_8 rfl rfl ?_
    refine pw_t (pc := 9) d56_9 rfl rfl rfl rfl ?_
    obtain ⟨q1, e_q1, hm⟩ := ob_x hm
    refine wh_ind e_q1 (fun s : (Int32 × Int32 × Int32 × Int32 × pm_H) => s.2.2.2.2.1 = tb_SH → ∀ w5 : Value, PW b L xs d 56 0 0 11 [(Value.ref l0), (Value.int s.1), (Value.int s.2.1), (Value.int s.2.2.1), (Value.int s.2.2.2.1), w5] [] s.2.2.2.2 Q) (fun s s2 hf ih sx w5 => t_a_tryLack_11 b L xs d hd s.2.2.2.2 sx l0 s.1 s.2.1 s.2.2.1 s.2.2.2.1 w5 f_l0 hf ih) (fun s hf sx w5 => t_a_tryLack_11 b L xs d hd s.2.2.2.2 sx l0 s.1 s.2.1 s.2.2.1 s.2.2.2.1 w5 f_l0 hf ?_) s_h  (Value.retAddr 0)
    intro s_q1_0 w4 w5
    refine pw_l (pc := 109) d56_109 rfl rfl rfl ?_
    refine pw_l (pc := 110) d56_110 rfl rfl rfl ?_
    refine pw_gi (pc := 111) d56_111 (k56_36 b) (sho s_q1_0 f_l0) f1_5 ?_
    refine pw_ine (pc := 114) (t := 126) d56_114 (by decide) (fun c2 => ?_) (fun c2 => ?_)
    · rw [if_pos c2] at hm
      refine pw_s (pc := 126) d56_126 rfl rfl ?_
      exact t_a_tryLack_127 b L xs d hd q1.2.2.2 s_q1_0 l0 q1.1 q1.2.1 q1.2.2.1 (Int32.ofInt 0) w4 w5 f_l0  hm hE
    · rw [if_neg c2] at hm
      refine pw_l (pc := 117) d56_117 rfl rfl rfl ?_
      refine pw_s (pc := 118) d56_118 rfl rfl ?_
      refine pw_igt (pc := 119) (t := 126) d56_119 (by decide) (fun c3 => ?_) (fun c3 => ?_)
      · rw [if_pos c3] at hm
        refine pw_s (pc := 126) d56_126 rfl rfl ?_
        exact t_a_tryLack_127 b L xs d hd q1.2.2.2 s_q1_0 l0 q1.1 q1.2.1 q1.2.2.1 (Int32.ofInt 0) w4 w5 f_l0  hm hE
      · rw [if_neg c3] at hm
        refine pw_s (pc := 122) d56_122 rfl rfl ?_
        refine pw_go (pc := 123) (t := 127) d56_123 (by decide) ?_
        exact t_a_tryLack_127 b L xs d hd q1.2.2.2 s_q1_0 l0 q1.1 q1.2.1 q1.2.2.1 (Int32.ofInt 1) w4 w5 f_l0  hm hE
  exact key _ (fun q => ⟨rfl, rfl, q⟩)
noncomputable def a_lackWord (l0 : Nat) (l1 : Int32) (h : pm_H) : Option Int32 := if ¬ l1 = 0 then (some (h.2.1 l0 7)) else (some (h.2.1 l0 6))
theorem T_a_lackWord (b : Bool) (L : Nat) (xs : Nat → Int32) (d : Nat) (hd : 0 ≤ d) (h : pm_H) (s_h : h.1 = tb_SH) (l0 : Nat) (l1 : Int32) (f_l0 : mi_o l0 1 = true) {r : Int32} (hm : a_lackWord l0 l1 h = some r) : PC b L xs d 57 [(Value.ref l0), (Value.int l1)] h (fun (v0 : Option Value) (h2 : pm_H) => v0 = (some (Value.int r)) ∧ h2 = h ∧ h2.1 = tb_SH) := by
  refine pc_in e57 (ls0 := [(Value.ref l0), (Value.int l1)]) rfl ?_
  have key : ∀ (Q : Option Value → pm_H → Prop), (Q (some (Value.int r)) h) → PW b L xs d 57 0 0 0 [(Value.ref l0), (Value.int l1)] [] h Q := by
    intro Q hE
    rw [a_lackWord] at hm
    refine pw_l (pc := 0) d57_0 rfl rfl rfl ?_
    refine pw_zne (pc := 1) (t := 11) d57_1 (by decide) (fun c1 => ?_) (fun c1 => ?_)
    · rw [if_pos c1] at hm
      refine pw_l (pc := 11) d57_11 rfl rfl rfl ?_
      refine pw_gi (pc := 12) d57_12 (k57_42 b) (sho s_h f_l0) f1_7 ?_
      obtain rfl := Option.some.inj hm
      refine pw_ri (pc := 15) d57_15 t57 rfl ?_
      exact hE
    · rw [if_neg c1] at hm
      refine pw_l (pc := 4) d57_4 rfl rfl rfl ?_
      refine pw_gi (pc := 5) d57_5 (k57_39 b) (sho s_h f_l0) f1_6 ?_
      refine pw_go (pc := 8) (t := 15) d57_8 (by decide) ?_
      obtain rfl := Option.some.inj hm
      refine pw_ri (pc := 15) d57_15 t57 rfl ?_
      exact hE
  exact key _ ⟨rfl, rfl, s_h⟩
def E_a_changesTo_53 (b : Bool) (L : Nat) (xs : Nat → Int32) (d : Nat) (Q : Option Value → pm_H → Prop) (l0 : Nat) (l1 : Nat) (l2 : Int32) (l3 : Nat) (l5 : Int32) (l6 : Int32) (l7 : Int32) (l8 : Int32) : ((Int32 × pm_H) ⊕ pm_H) → Prop
  | .inl s => s.2.1 = tb_SH → ∀ w4 w10 w11 w12 : Value, PW b L xs d 59 0 0 53 [(Value.ref l0), (Value.ref l1), (Value.int l2), (Value.ref l3), w4, (Value.int l5), (Value.int l6), (Value.int l7), (Value.int l8), (Value.int s.1), w10, w11, w12] [] s.2 Q
  | .inr e => e.1 = tb_SH → ∀ w4 w9 w10 w11 w12 : Value, PW b L xs d 59 0 0 179 [(Value.ref l0), (Value.ref l1), (Value.int l2), (Value.ref l3), w4, (Value.int l5), (Value.int l6), (Value.int l7), (Value.int l8), w9, w10, w11, w12] [] e Q
def E_a_changesTo_43 (b : Bool) (L : Nat) (xs : Nat → Int32) (d : Nat) (Q : Option Value → pm_H → Prop) (l0 : Nat) (l1 : Nat) (l2 : Int32) (l3 : Nat) (l5 : Int32) (l6 : Int32) (l7 : Int32) : ((Int32 × pm_H) ⊕ pm_H) → Prop
  | .inl s => s.2.1 = tb_SH → ∀ w4 w9 w10 w11 w12 : Value, PW b L xs d 59 0 0 43 [(Value.ref l0), (Value.ref l1), (Value.int l2), (Value.ref l3), w4, (Value.int l5), (Value.int l6), (Value.int l7), (Value.int s.1), w9, w10, w11, w12] [] s.2 Q
  | .inr e => e.1 = tb_SH → ∀ w1 w2 w3 w4 w8 w9 w10 w11 w12 : Value, PW b L xs d 59 0 0 185 [(Value.ref l0), w1, w2, w3, w4, (Value.int l5), (Value.int l6), (Value.int l7), w8, w9, w10, w11, w12] [] e Q
noncomputable def a_changesTo_118 (l0 : Nat) (l1 : Nat) (l2 : Int32) (l3 : Nat) (l5 : Int32) (l6 : Int32) (l7 : Int32) (l8 : Int32) (l9 : Int32) (l10 : Int32) (z0 : Int32) (h : pm_H) : Option ((Int32 × pm_H) ⊕ pm_H) := (gA h l0 11 .int).bind fun y1 => if mi_in (l10 - l5) (mi_n y1) = true then (gA h l0 11 .int).bind fun y3 => if mi_in (l10 - (Int32.ofInt 1)) (mi_n y3) = true then (gA h l0 11 .int).bind fun y5 => (gA h l0 11 .int).bind fun y6 => if mi_in ((l10 - l5) - (Int32.ofInt 1)) (mi_n y6) = true then if mi_in l10 (mi_n y5) = true then bd (pm_setI h y5 l10.toNatClampNeg (if ((h.2.1 y6 ((l10 - l5) - (Int32.ofInt 1)).toNatClampNeg) + z0) < ((if (h.2.1 y3 (l10 - (Int32.ofInt 1)).toNatClampNeg) < (h.2.1 y1 (l10 - l5).toNatClampNeg) then (h.2.1 y3 (l10 - (Int32.ofInt 1)).toNatClampNeg) else (h.2.1 y1 (l10 - l5).toNatClampNeg)) + (Int32.ofInt 1)) then ((h.2.1 y6 ((l10 - l5) - (Int32.ofInt 1)).toNatClampNeg) + z0) else ((if (h.2.1 y3 (l10 - (Int32.ofInt 1)).toNatClampNeg) < (h.2.1 y1 (l10 - l5).toNatClampNeg) then (h.2.1 y3 (l10 - (Int32.ofInt 1)).toNatClampNeg) else (h.2.1 y1 (l10 - l5).toNatClampNeg)) + (Int32.ofInt 1)))) fun h9 => some (.inl ((l9 + Int32.ofInt 1), h9)) else none else none else none else none
theorem t_a_changesTo_118 (b : Bool) (L : Nat) (xs : Nat → Int32) (d : Nat) (hd : 2 ≤ d) {Q : Option Value → pm_H → Prop} (h : pm_H) (s_h : h.1 = tb_SH) (l0 : Nat) (l1 : Nat) (l2 : Int32) (l3 : Nat) (l5 : Int32) (l6 : Int32) (l7 : Int32) (l8 : Int32) (l9 : Int32) (l10 : Int32) (z0 : Int32) (w4 : Value) (w11 : Value) (w12 : Value) (f_l0 : mi_o l0 1 = true) (f_l1 : mi_o l1 7 = true) (f_l3 : mi_a l3 .int = true) {r : ((Int32 × pm_H) ⊕ pm_H)} (hm : a_changesTo_118 l0 l1 l2 l3 l5 l6 l7 l8 l9 l10 z0 h = some r) (hE : E_a_changesTo_53 b L xs d Q l0 l1 l2 l3 l5 l6 l7 l8 r) : PW b L xs d 59 0 0 118 [(Value.ref l0), (Value.ref l1), (Value.int l2), (Value.ref l3), w4, (Value.int l5), (Value.int l6), (Value.int l7), (Value.int l8), (Value.int l9), (Value.int l10), w11, w12] [(Value.int z0)] h Q := by
  rw [a_changesTo_118] at hm
  refine pw_t (pc := 118) d59_118 rfl rfl rfl rfl ?_
  refine pw_l (pc := 120) d59_120 rfl rfl rfl ?_
  obtain ⟨y1, e_y1, hm⟩ := ob_x hm
  have f_y1 := gA_x e_y1
  refine pw_gr (pc := 121) d59_121 (k59_54 b) (sho s_h f_l0) f1_11 f_y1.1 ?_
  refine pw_l (pc := 124) d59_124 rfl rfl rfl ?_
  refine pw_l (pc := 126) d59_126 rfl rfl rfl ?_
  refine pw_s (pc := 128) d59_128 rfl rfl ?_
  obtain ⟨g2, hm⟩ := gd_x hm
  refine pw_ai (pc := 129) d59_129 (sha s_h f_y1.2) (mi_in_x g2) ?_
  refine pw_l (pc := 130) d59_130 rfl rfl rfl ?_
  obtain ⟨y3, e_y3, hm⟩ := ob_x hm
  have f_y3 := gA_x e_y3
  refine pw_gr (pc := 131) d59_131 (k59_54 b) (sho s_h f_l0) f1_11 f_y3.1 ?_
  refine pw_l (pc := 134) d59_134 rfl rfl rfl ?_
  refine pw_s (pc := 136) d59_136 rfl rfl ?_
  refine pw_s (pc := 137) d59_137 rfl rfl ?_
  obtain ⟨g4, hm⟩ := gd_x hm
  refine pw_ai (pc := 138) d59_138 (sha s_h f_y3.2) (mi_in_x g4) ?_
  refine pw_mn (pc := 139) (by omega) d59_139 (k59_193 b) (Nat.le_of_ble_eq_true rfl) ?_
  refine pw_s (pc := 142) d59_142 rfl rfl ?_
  refine pw_s (pc := 143) d59_143 rfl rfl ?_
  refine pw_t (pc := 144) d59_144 rfl rfl rfl rfl ?_
  refine pw_l (pc := 146) d59_146 rfl rfl rfl ?_
  obtain ⟨y5, e_y5, hm⟩ := ob_x hm
  have f_y5 := gA_x e_y5
  refine pw_gr (pc := 147) d59_147 (k59_54 b) (sho s_h f_l0) f1_11 f_y5.1 ?_
  refine pw_l (pc := 150) d59_150 rfl rfl rfl ?_
  refine pw_l (pc := 152) d59_152 rfl rfl rfl ?_
  refine pw_l (pc := 154) d59_154 rfl rfl rfl ?_
  obtain ⟨y6, e_y6, hm⟩ := ob_x hm
  have f_y6 := gA_x e_y6
  refine pw_gr (pc := 155) d59_155 (k59_54 b) (sho s_h f_l0) f1_11 f_y6.1 ?_
  refine pw_l (pc := 158) d59_158 rfl rfl rfl ?_
  refine pw_l (pc := 160) d59_160 rfl rfl rfl ?_
  refine pw_s (pc := 162) d59_162 rfl rfl ?_
  refine pw_s (pc := 163) d59_163 rfl rfl ?_
  refine pw_s (pc := 164) d59_164 rfl rfl ?_
  obtain ⟨g7, hm⟩ := gd_x hm
  refine pw_ai (pc := 165) d59_165 (sha s_h f_y6.2) (mi_in_x g7) ?_
  refine pw_l (pc := 166) d59_166 rfl rfl rfl ?_
  refine pw_s (pc := 168) d59_168 rfl rfl ?_
  refine pw_mn (pc := 169) (by omega) d59_169 (k59_193 b) (Nat.le_of_ble_eq_true rfl) ?_
  obtain ⟨g8, hm⟩ := gd_x hm
  refine pw_si (pc := 172) d59_172 (sha s_h f_y5.2) (mi_in_x g8) ?_
  obtain ⟨h9, e_h9, hm⟩ := bd_x hm
  rw [e_h9]
  have s_h9 : h9.1 = tb_SH := by rw [← e_h9]; exact s_h
  refine pw_t (pc := 173) d59_173 rfl rfl rfl rfl ?_
  refine pw_go (pc := 176) (t := 53) d59_176 (by decide) ?_
  obtain rfl := Option.some.inj hm
  exact hE s_h9  w4 (Value.int l10) (Value.int z0) (Value.int ((if (h.2.1 y3 (l10 - (Int32.ofInt 1)).toNatClampNeg) < (h.2.1 y1 (l10 - l5).toNatClampNeg) then (h.2.1 y3 (l10 - (Int32.ofInt 1)).toNatClampNeg) else (h.2.1 y1 (l10 - l5).toNatClampNeg)) + (Int32.ofInt 1)))
noncomputable def a_changesTo_80 (l0 : Nat) (l1 : Nat) (l2 : Int32) (l3 : Nat) (l5 : Int32) (l6 : Int32) (l7 : Int32) (l8 : Int32) (l9 : Int32) (l10 : Int32) (h : pm_H) : Option ((Int32 × pm_H) ⊕ pm_H) := (gA h l0 11 .int).bind fun y1 => if mi_in l10 (mi_n y1) = true then bd (pm_setI h y1 l10.toNatClampNeg (l8 + l9)) fun h3 => some (.inl ((l9 + Int32.ofInt 1), h3)) else none
theorem t_a_changesTo_80 (b : Bool) (L : Nat) (xs : Nat → Int32) (d : Nat) (hd : 2 ≤ d) {Q : Option Value → pm_H → Prop} (h : pm_H) (s_h : h.1 = tb_SH) (l0 : Nat) (l1 : Nat) (l2 : Int32) (l3 : Nat) (l5 : Int32) (l6 : Int32) (l7 : Int32) (l8 : Int32) (l9 : Int32) (l10 : Int32) (w4 : Value) (w11 : Value) (w12 : Value) (f_l0 : mi_o l0 1 = true) (f_l1 : mi_o l1 7 = true) (f_l3 : mi_a l3 .int = true) {r : ((Int32 × pm_H) ⊕ pm_H)} (hm : a_changesTo_80 l0 l1 l2 l3 l5 l6 l7 l8 l9 l10 h = some r) (hE : E_a_changesTo_53 b L xs d Q l0 l1 l2 l3 l5 l6 l7 l8 r) : PW b L xs d 59 0 0 80 [(Value.ref l0), (Value.ref l1), (Value.int l2), (Value.ref l3), w4, (Value.int l5), (Value.int l6), (Value.int l7), (Value.int l8), (Value.int l9), (Value.int l10), w11, w12] [] h Q := by
  rw [a_changesTo_80] at hm
  refine pw_l (pc := 80) d59_80 rfl rfl rfl ?_
  obtain ⟨y1, e_y1, hm⟩ := ob_x hm
  have f_y1 := gA_x e_y1
  refine pw_gr (pc := 81) d59_81 (k59_54 b) (sho s_h f_l0) f1_11 f_y1.1 ?_
  refine pw_l (pc := 84) d59_84 rfl rfl rfl ?_
  refine pw_l (pc := 86) d59_86 rfl rfl rfl ?_
  refine pw_l (pc := 88) d59_88 rfl rfl rfl ?_
  refine pw_s (pc := 90) d59_90 rfl rfl ?_
  obtain ⟨g2, hm⟩ := gd_x hm
  refine pw_si (pc := 91) d59_91 (sha s_h f_y1.2) (mi_in_x g2) ?_
  obtain ⟨h3, e_h3, hm⟩ := bd_x hm
  rw [e_h3]
  have s_h3 : h3.1 = tb_SH := by rw [← e_h3]; exact s_h
  refine pw_go (pc := 92) (t := 173) d59_92 (by decide) ?_
  refine pw_t (pc := 173) d59_173 rfl rfl rfl rfl ?_
  refine pw_go (pc := 176) (t := 53) d59_176 (by decide) ?_
  obtain rfl := Option.some.inj hm
  exact hE s_h3  w4 (Value.int l10) w11 w12
noncomputable def a_changesTo_53 (l0 : Nat) (l1 : Nat) (l2 : Int32) (l3 : Nat) (l5 : Int32) (l6 : Int32) (l7 : Int32) (l8 : Int32) (l9 : Int32) (h : pm_H) : Option ((Int32 × pm_H) ⊕ pm_H) := if l6 < l9 then (some (.inr h)) else (if l8 = 0 then (a_changesTo_80 l0 l1 l2 l3 l5 l6 l7 l8 l9 ((l8 * l5) + l9) h) else (if ¬ l9 = 0 then (if mi_in (l8 - (Int32.ofInt 1)) (mi_n l3) = true then (s_rowWord l1 l2 (l9 - (Int32.ofInt 1)) h).bind fun q5 => if ¬ (h.2.1 l3 (l8 - (Int32.ofInt 1)).toNatClampNeg) = q5 then (a_changesTo_118 l0 l1 l2 l3 l5 l6 l7 l8 l9 ((l8 * l5) + l9) (Int32.ofInt 1) h) else (a_changesTo_118 l0 l1 l2 l3 l5 l6 l7 l8 l9 ((l8 * l5) + l9) (Int32.ofInt 0) h) else none) else (a_changesTo_80 l0 l1 l2 l3 l5 l6 l7 l8 l9 ((l8 * l5) + l9) h)))
theorem t_a_changesTo_53 (b : Bool) (L : Nat) (xs : Nat → Int32) (d : Nat) (hd : 2 ≤ d) {Q : Option Value → pm_H → Prop} (h : pm_H) (s_h : h.1 = tb_SH) (l0 : Nat) (l1 : Nat) (l2 : Int32) (l3 : Nat) (l5 : Int32) (l6 : Int32) (l7 : Int32) (l8 : Int32) (l9 : Int32) (w4 : Value) (w10 : Value) (w11 : Value) (w12 : Value) (f_l0 : mi_o l0 1 = true) (f_l1 : mi_o l1 7 = true) (f_l3 : mi_a l3 .int = true) {r : ((Int32 × pm_H) ⊕ pm_H)} (hm : a_changesTo_53 l0 l1 l2 l3 l5 l6 l7 l8 l9 h = some r) (hE : E_a_changesTo_53 b L xs d Q l0 l1 l2 l3 l5 l6 l7 l8 r) : PW b L xs d 59 0 0 53 [(Value.ref l0), (Value.ref l1), (Value.int l2), (Value.ref l3), w4, (Value.int l5), (Value.int l6), (Value.int l7), (Value.int l8), (Value.int l9), w10, w11, w12] [] h Q := by
  rw [a_changesTo_53] at hm
  refine pw_l (pc := 53) d59_53 rfl rfl rfl ?_
  refine pw_l (pc := 55) d59_55 rfl rfl rfl ?_
  refine pw_igt (pc := 57) (t := 179) d59_57 (by decide) (fun c1 => ?_) (fun c1 => ?_)
  · rw [if_pos c1] at hm
    obtain rfl := Option.some.inj hm
    exact hE s_h  w4 (Value.int l9) w10 w11 w12
  · rw [if_neg c1] at hm
    refine pw_l (pc := 60) d59_60 rfl rfl rfl ?_
    refine pw_l (pc := 62) d59_62 rfl rfl rfl ?_
    refine pw_s (pc := 64) d59_64 rfl rfl ?_
    refine pw_l (pc := 65) d59_65 rfl rfl rfl ?_
    refine pw_s (pc := 67) d59_67 rfl rfl ?_
    refine pw_t (pc := 68) d59_68 rfl rfl rfl rfl ?_
    refine pw_l (pc := 70) d59_70 rfl rfl rfl ?_
    refine pw_zeq (pc := 72) (t := 80) d59_72 (by decide) (fun c2 => ?_) (fun c2 => ?_)
    · rw [if_pos c2] at hm
      exact t_a_changesTo_80 b L xs d hd h s_h l0 l1 l2 l3 l5 l6 l7 l8 l9 ((l8 * l5) + l9) w4 w11 w12 f_l0 f_l1 f_l3  hm hE
    · rw [if_neg c2] at hm
      refine pw_l (pc := 75) d59_75 rfl rfl rfl ?_
      refine pw_zne (pc := 77) (t := 95) d59_77 (by decide) (fun c3 => ?_) (fun c3 => ?_)
      · rw [if_pos c3] at hm
        refine pw_l (pc := 95) d59_95 rfl rfl rfl ?_
        refine pw_l (pc := 96) d59_96 rfl rfl rfl ?_
        refine pw_s (pc := 98) d59_98 rfl rfl ?_
        refine pw_s (pc := 99) d59_99 rfl rfl ?_
        obtain ⟨g4, hm⟩ := gd_x hm
        refine pw_ai (pc := 100) d59_100 (sha s_h f_l3) (mi_in_x g4) ?_
        refine pw_l (pc := 101) d59_101 rfl rfl rfl ?_
        refine pw_l (pc := 102) d59_102 rfl rfl rfl ?_
        refine pw_l (pc := 103) d59_103 rfl rfl rfl ?_
        refine pw_s (pc := 105) d59_105 rfl rfl ?_
        refine pw_s (pc := 106) d59_106 rfl rfl ?_
        obtain ⟨q5, e_q5, hm⟩ := ob_x hm
        refine pw_v (pc := 107) (k := l1) (by omega) d59_107 (k59_206 b) (by decide) m116 (by decide) rfl (sho s_h f_l1) (Nat.le_of_ble_eq_true rfl) (Nat.le_of_ble_eq_true rfl) rfl rfl (T_s_rowWord b L xs (d - 1) (by omega) h s_h l1 l2 (l9 - (Int32.ofInt 1)) f_l1 e_q5) (fun v0 h0 hq => ?_)
        obtain ⟨rfl, hh0, s_q5⟩ := hq
        rw [hh0] at s_q5 ⊢
        simp only [Option.toList_some, List.cons_append, List.nil_append]
        refine pw_ine (pc := 110) (t := 117) d59_110 (by decide) (fun c6 => ?_) (fun c6 => ?_)
        · rw [if_pos c6] at hm
          refine pw_s (pc := 117) d59_117 rfl rfl ?_
          exact t_a_changesTo_118 b L xs d hd h s_h l0 l1 l2 l3 l5 l6 l7 l8 l9 ((l8 * l5) + l9) (Int32.ofInt 1) w4 w11 w12 f_l0 f_l1 f_l3  hm hE
        · rw [if_neg c6] at hm
          refine pw_s (pc := 113) d59_113 rfl rfl ?_
          refine pw_go (pc := 114) (t := 118) d59_114 (by decide) ?_
          exact t_a_changesTo_118 b L xs d hd h s_h l0 l1 l2 l3 l5 l6 l7 l8 l9 ((l8 * l5) + l9) (Int32.ofInt 0) w4 w11 w12 f_l0 f_l1 f_l3  hm hE
      · rw [if_neg c3] at hm
        exact t_a_changesTo_80 b L xs d hd h s_h l0 l1 l2 l3 l5 l6 l7 l8 l9 ((l8 * l5) + l9) w4 w11 w12 f_l0 f_l1 f_l3  hm hE
noncomputable def a_changesTo_43 (l0 : Nat) (l1 : Nat) (l2 : Int32) (l3 : Nat) (l5 : Int32) (l6 : Int32) (l7 : Int32) (l8 : Int32) (h : pm_H) : Option ((Int32 × pm_H) ⊕ pm_H) := if l7 < l8 then (some (.inr h)) else ((wh (fun s : (Int32 × pm_H) => a_changesTo_53 l0 l1 l2 l3 l5 l6 l7 l8 s.1 s.2) ((Int32.ofInt 0), h)).bind fun q2 => some (.inl ((l8 + Int32.ofInt 1), q2)))
theorem t_a_changesTo_43 (b : Bool) (L : Nat) (xs : Nat → Int32) (d : Nat) (hd : 2 ≤ d) {Q : Option Value → pm_H → Prop} (h : pm_H) (s_h : h.1 = tb_SH) (l0 : Nat) (l1 : Nat) (l2 : Int32) (l3 : Nat) (l5 : Int32) (l6 : Int32) (l7 : Int32) (l8 : Int32) (w4 : Value) (w9 : Value) (w10 : Value) (w11 : Value) (w12 : Value) (f_l0 : mi_o l0 1 = true) (f_l1 : mi_o l1 7 = true) (f_l3 : mi_a l3 .int = true) {r : ((Int32 × pm_H) ⊕ pm_H)} (hm : a_changesTo_43 l0 l1 l2 l3 l5 l6 l7 l8 h = some r) (hE : E_a_changesTo_43 b L xs d Q l0 l1 l2 l3 l5 l6 l7 r) : PW b L xs d 59 0 0 43 [(Value.ref l0), (Value.ref l1), (Value.int l2), (Value.ref l3), w4, (Value.int l5), (Value.int l6), (Value.int l7), (Value.int l8), w9, w10, w11, w12] [] h Q := by
  rw [a_changesTo_43] at hm
  refine pw_l (pc := 43) d59_43 rfl rfl rfl ?_
  refine pw_l (pc := 45) d59_45 rfl rfl rfl ?_
  refine pw_igt (pc := 47) (t := 185) d59_47 (by decide) (fun c1 => ?_) (fun c1 => ?_)
  · rw [if_pos c1] at hm
    obtain rfl := Option.some.inj hm
    exact hE s_h  (Value.ref l1) (Value.int l2) (Value.ref l3) w4 (Value.int l8) w9 w10 w11 w12
  · rw [if_neg c1] at hm
    refine pw_s (pc := 50) d59_50 rfl rfl ?_
    refine pw_t (pc := 51) d59_51 rfl rfl rfl rfl ?_
    obtain ⟨q2, e_q2, hm⟩ := ob_x hm
    refine wh_ind e_q2 (fun s : (Int32 × pm_H) => s.2.1 = tb_SH → ∀ w4 w10 w11 w12 : Value, PW b L xs d 59 0 0 53 [(Value.ref l0), (Value.ref l1), (Value.int l2), (Value.ref l3), w4, (Value.int l5), (Value.int l6), (Value.int l7), (Value.int l8), (Value.int s.1), w10, w11, w12] [] s.2 Q) (fun s s2 hf ih sx w4 w10 w11 w12 => t_a_changesTo_53 b L xs d hd s.2 sx l0 l1 l2 l3 l5 l6 l7 l8 s.1 w4 w10 w11 w12 f_l0 f_l1 f_l3 hf ih) (fun s hf sx w4 w10 w11 w12 => t_a_changesTo_53 b L xs d hd s.2 sx l0 l1 l2 l3 l5 l6 l7 l8 s.1 w4 w10 w11 w12 f_l0 f_l1 f_l3 hf ?_) s_h  w4 w10 w11 w12
    intro s_q2_0 w4 w9 w10 w11 w12
    refine pw_t (pc := 179) d59_179 rfl rfl rfl rfl ?_
    refine pw_go (pc := 182) (t := 43) d59_182 (by decide) ?_
    obtain rfl := Option.some.inj hm
    exact hE s_q2_0  w4 w9 w10 w11 w12
noncomputable def a_changesTo_25 (l0 : Nat) (l1 : Nat) (l2 : Int32) (l3 : Nat) (l4 : Int32) (l5 : Int32) (z0 : Int32) (h : pm_H) : Option (Int32 × pm_H) := (wh (fun s : (Int32 × pm_H) => a_changesTo_43 l0 l1 l2 l3 l5 z0 (if (Int32.ofInt 5) < (if (Int32.ofNat (mi_n l3)) < l4 then (Int32.ofNat (mi_n l3)) else l4) then (Int32.ofInt 5) else (if (Int32.ofNat (mi_n l3)) < l4 then (Int32.ofNat (mi_n l3)) else l4)) s.1 s.2) ((Int32.ofInt 0), h)).bind fun q1 => if 0 ≤ (if (Int32.ofInt 5) < (if (Int32.ofNat (mi_n l3)) < l4 then (Int32.ofNat (mi_n l3)) else l4) then (Int32.ofInt 5) else (if (Int32.ofNat (mi_n l3)) < l4 then (Int32.ofNat (mi_n l3)) else l4)) then ((gA q1 l0 11 .int).bind fun y3 => if mi_in (((if (Int32.ofInt 5) < (if (Int32.ofNat (mi_n l3)) < l4 then (Int32.ofNat (mi_n l3)) else l4) then (Int32.ofInt 5) else (if (Int32.ofNat (mi_n l3)) < l4 then (Int32.ofNat (mi_n l3)) else l4)) * l5) + z0) (mi_n y3) = true then some ((q1.2.1 y3 (((if (Int32.ofInt 5) < (if (Int32.ofNat (mi_n l3)) < l4 then (Int32.ofNat (mi_n l3)) else l4) then (Int32.ofInt 5) else (if (Int32.ofNat (mi_n l3)) < l4 then (Int32.ofNat (mi_n l3)) else l4)) * l5) + z0).toNatClampNeg), q1) else none) else (some (z0, q1))
theorem t_a_changesTo_25 (b : Bool) (L : Nat) (xs : Nat → Int32) (d : Nat) (hd : 2 ≤ d) {Q : Option Value → pm_H → Prop} (h : pm_H) (s_h : h.1 = tb_SH) (l0 : Nat) (l1 : Nat) (l2 : Int32) (l3 : Nat) (l4 : Int32) (l5 : Int32) (z0 : Int32) (w6 : Value) (w7 : Value) (w8 : Value) (w9 : Value) (w10 : Value) (w11 : Value) (w12 : Value) (f_l0 : mi_o l0 1 = true) (f_l1 : mi_o l1 7 = true) (f_l3 : mi_a l3 .int = true) {r : (Int32 × pm_H)} (hm : a_changesTo_25 l0 l1 l2 l3 l4 l5 z0 h = some r) (hE : r.2.1 = tb_SH → Q (some (Value.int r.1)) r.2) : PW b L xs d 59 0 0 25 [(Value.ref l0), (Value.ref l1), (Value.int l2), (Value.ref l3), (Value.int l4), (Value.int l5), w6, w7, w8, w9, w10, w11, w12] [(Value.int z0)] h Q := by
  rw [a_changesTo_25] at hm
  refine pw_t (pc := 25) d59_25 rfl rfl rfl rfl ?_
  refine pw_l (pc := 27) d59_27 rfl rfl rfl ?_
  refine pw_l (pc := 29) d59_29 rfl rfl rfl ?_
  refine pw_an (pc := 30) d59_30 (sha s_h f_l3) ?_
  refine pw_mn (pc := 31) (by omega) d59_31 (k59_193 b) (Nat.le_of_ble_eq_true rfl) ?_
  refine pw_s (pc := 34) d59_34 rfl rfl ?_
  refine pw_mn (pc := 35) (by omega) d59_35 (k59_193 b) (Nat.le_of_ble_eq_true rfl) ?_
  refine pw_t (pc := 38) d59_38 rfl rfl rfl rfl ?_
  refine pw_s (pc := 40) d59_40 rfl rfl ?_
  refine pw_t (pc := 41) d59_41 rfl rfl rfl rfl ?_
  obtain ⟨q1, e_q1, hm⟩ := ob_x hm
  refine wh_ind e_q1 (fun s : (Int32 × pm_H) => s.2.1 = tb_SH → ∀ w4 w9 w10 w11 w12 : Value, PW b L xs d 59 0 0 43 [(Value.ref l0), (Value.ref l1), (Value.int l2), (Value.ref l3), w4, (Value.int l5), (Value.int z0), (Value.int (if (Int32.ofInt 5) < (if (Int32.ofNat (mi_n l3)) < l4 then (Int32.ofNat (mi_n l3)) else l4) then (Int32.ofInt 5) else (if (Int32.ofNat (mi_n l3)) < l4 then (Int32.ofNat (mi_n l3)) else l4))), (Value.int s.1), w9, w10, w11, w12] [] s.2 Q) (fun s s2 hf ih sx w4 w9 w10 w11 w12 => t_a_changesTo_43 b L xs d hd s.2 sx l0 l1 l2 l3 l5 z0 (if (Int32.ofInt 5) < (if (Int32.ofNat (mi_n l3)) < l4 then (Int32.ofNat (mi_n l3)) else l4) then (Int32.ofInt 5) else (if (Int32.ofNat (mi_n l3)) < l4 then (Int32.ofNat (mi_n l3)) else l4)) s.1 w4 w9 w10 w11 w12 f_l0 f_l1 f_l3 hf ih) (fun s hf sx w4 w9 w10 w11 w12 => t_a_changesTo_43 b L xs d hd s.2 sx l0 l1 l2 l3 l5 z0 (if (Int32.ofInt 5) < (if (Int32.ofNat (mi_n l3)) < l4 then (Int32.ofNat (mi_n l3)) else l4) then (Int32.ofInt 5) else (if (Int32.ofNat (mi_n l3)) < l4 then (Int32.ofNat (mi_n l3)) else l4)) s.1 w4 w9 w10 w11 w12 f_l0 f_l1 f_l3 hf ?_) s_h  (Value.int l4) w9 w10 w11 w12
  intro s_q1_0 w1 w2 w3 w4 w8 w9 w10 w11 w12
  refine pw_l (pc := 185) d59_185 rfl rfl rfl ?_
  refine pw_zge (pc := 187) (t := 195) d59_187 (by decide) (fun c2 => ?_) (fun c2 => ?_)
  · rw [if_pos c2] at hm
    refine pw_l (pc := 195) d59_195 rfl rfl rfl ?_
    obtain ⟨y3, e_y3, hm⟩ := ob_x hm
    have f_y3 := gA_x e_y3
    refine pw_gr (pc := 196) d59_196 (k59_54 b) (sho s_q1_0 f_l0) f1_11 f_y3.1 ?_
    refine pw_l (pc := 199) d59_199 rfl rfl rfl ?_
    refine pw_l (pc := 201) d59_201 rfl rfl rfl ?_
    refine pw_s (pc := 203) d59_203 rfl rfl ?_
    refine pw_l (pc := 204) d59_204 rfl rfl rfl ?_
    refine pw_s (pc := 206) d59_206 rfl rfl ?_
    obtain ⟨g4, hm⟩ := gd_x hm
    refine pw_ai (pc := 207) d59_207 (sha s_q1_0 f_y3.2) (mi_in_x g4) ?_
    obtain rfl := Option.some.inj hm
    refine pw_ri (pc := 208) d59_208 t59 rfl ?_
    exact hE s_q1_0
  · rw [if_neg c2] at hm
    refine pw_l (pc := 190) d59_190 rfl rfl rfl ?_
    refine pw_go (pc := 192) (t := 208) d59_192 (by decide) ?_
    obtain rfl := Option.some.inj hm
    refine pw_ri (pc := 208) d59_208 t59 rfl ?_
    exact hE s_q1_0
noncomputable def a_changesTo (l0 : Nat) (l1 : Nat) (l2 : Int32) (l3 : Nat) (l4 : Int32) (h : pm_H) : Option (Int32 × pm_H) := (s_hasOrder l1 l2 h).bind fun q1 => if q1 = 0 then (a_changesTo_25 l0 l1 l2 l3 l4 (Int32.ofInt 5) (Int32.ofInt 0) h) else ((gA h l1 7 .int).bind fun y3 => if mi_in l2 (mi_n y3) = true then a_changesTo_25 l0 l1 l2 l3 l4 (Int32.ofInt 5) (if (Int32.ofInt 4) < (h.2.1 y3 l2.toNatClampNeg) then (Int32.ofInt 4) else (h.2.1 y3 l2.toNatClampNeg)) h else none)
theorem T_a_changesTo (b : Bool) (L : Nat) (xs : Nat → Int32) (d : Nat) (hd : 2 ≤ d) (h : pm_H) (s_h : h.1 = tb_SH) (l0 : Nat) (l1 : Nat) (l2 : Int32) (l3 : Nat) (l4 : Int32) (f_l0 : mi_o l0 1 = true) (f_l1 : mi_o l1 7 = true) (f_l3 : mi_a l3 .int = true) {r : (Int32 × pm_H)} (hm : a_changesTo l0 l1 l2 l3 l4 h = some r) : PC b L xs d 59 [(Value.ref l0), (Value.ref l1), (Value.int l2), (Value.ref l3), (Value.int l4)] h (fun (v0 : Option Value) (h2 : pm_H) => v0 = (some (Value.int r.1)) ∧ h2 = r.2 ∧ h2.1 = tb_SH) := by
  refine pc_in e59 (ls0 := [(Value.ref l0), (Value.ref l1), (Value.int l2), (Value.ref l3), (Value.int l4), Value.retAddr 0, Value.retAddr 0, Value.retAddr 0, Value.retAddr 0, Value.retAddr 0, Value.retAddr 0, Value.retAddr 0, Value.retAddr 0]) rfl ?_
  have key : ∀ (Q : Option Value → pm_H → Prop), (r.2.1 = tb_SH → Q (some (Value.int r.1)) r.2) → PW b L xs d 59 0 0 0 [(Value.ref l0), (Value.ref l1), (Value.int l2), (Value.ref l3), (Value.int l4), Value.retAddr 0, Value.retAddr 0, Value.retAddr 0, Value.retAddr 0, Value.retAddr 0, Value.retAddr 0, Value.retAddr 0, Value.retAddr 0] [] h Q := by
    intro Q hE
    rw [a_changesTo] at hm
    refine pw_s (pc := 0) d59_0 rfl rfl ?_
    refine pw_t (pc := 1) d59_1 rfl rfl rfl rfl ?_
    refine pw_l (pc := 3) d59_3 rfl rfl rfl ?_
    refine pw_l (pc := 4) d59_4 rfl rfl rfl ?_
    obtain ⟨q1, e_q1, hm⟩ := ob_x hm
    refine pw_v (pc := 5) (k := l1) (by omega) d59_5 (k59_200 b) (by decide) m113 (by decide) rfl (sho s_h f_l1) (Nat.le_of_ble_eq_true rfl) (Nat.le_of_ble_eq_true rfl) rfl rfl (T_s_hasOrder b L xs (d - 1) (by omega) h s_h l1 l2 f_l1 e_q1) (fun v0 h0 hq => ?_)
    obtain ⟨rfl, hh0, s_q1⟩ := hq
    rw [hh0] at s_q1 ⊢
    simp only [Option.toList_some, List.cons_append, List.nil_append]
    refine pw_zeq (pc := 8) (t := 24) d59_8 (by decide) (fun c2 => ?_) (fun c2 => ?_)
    · rw [if_pos c2] at hm
      refine pw_s (pc := 24) d59_24 rfl rfl ?_
      exact t_a_changesTo_25 b L xs d hd h s_h l0 l1 l2 l3 l4 (Int32.ofInt 5) (Int32.ofInt 0) (Value.retAddr 0) (Value.retAddr 0) (Value.retAddr 0) (Value.retAddr 0) (Value.retAddr 0) (Value.retAddr 0) (Value.retAddr 0) f_l0 f_l1 f_l3  hm hE
    · rw [if_neg c2] at hm
      refine pw_l (pc := 11) d59_11 rfl rfl rfl ?_
      obtain ⟨y3, e_y3, hm⟩ := ob_x hm
      have f_y3 := gA_x e_y3
      refine pw_gr (pc := 12) d59_12 (k59_204 b) (sho s_h f_l1) f7_7 f_y3.1 ?_
      refine pw_l (pc := 15) d59_15 rfl rfl rfl ?_
      obtain ⟨g4, hm⟩ := gd_x hm
      refine pw_ai (pc := 16) d59_16 (sha s_h f_y3.2) (mi_in_x g4) ?_
      refine pw_s (pc := 17) d59_17 rfl rfl ?_
      refine pw_mn (pc := 18) (by omega) d59_18 (k59_193 b) (Nat.le_of_ble_eq_true rfl) ?_
      refine pw_go (pc := 21) (t := 25) d59_21 (by decide) ?_
      exact t_a_changesTo_25 b L xs d hd h s_h l0 l1 l2 l3 l4 (Int32.ofInt 5) (if (Int32.ofInt 4) < (h.2.1 y3 l2.toNatClampNeg) then (Int32.ofInt 4) else (h.2.1 y3 l2.toNatClampNeg)) (Value.retAddr 0) (Value.retAddr 0) (Value.retAddr 0) (Value.retAddr 0) (Value.retAddr 0) (Value.retAddr 0) (Value.retAddr 0) f_l0 f_l1 f_l3  hm hE
  exact key _ (fun q => ⟨rfl, rfl, q⟩)
def E_a_noteSaid_2 (b : Bool) (L : Nat) (xs : Nat → Int32) (d : Nat) (Q : Option Value → pm_H → Prop) (l0 : Nat) (l1 : Int32) : ((Int32 × pm_H) ⊕ pm_H) → Prop
  | .inl s => s.2.1 = tb_SH → PW b L xs d 61 0 0 2 [(Value.ref l0), (Value.int l1), (Value.int s.1)] [] s.2 Q
  | .inr e => e.1 = tb_SH → ∀ w0 w1 w2 : Value, PW b L xs d 61 0 0 31 [w0, w1, w2] [] e Q
noncomputable def a_noteSaid_2 (l0 : Nat) (l1 : Int32) (l2 : Int32) (h : pm_H) : Option ((Int32 × pm_H) ⊕ pm_H) := (gA h l0 15 .int).bind fun y1 => if (Int32.ofNat (mi_n y1)) ≤ l2 then (some (.inr h)) else ((gA h l0 15 .int).bind fun y3 => if mi_in l2 (mi_n y3) = true then (x_bit l1 l2 h).bind fun q5 => if mi_in l2 (mi_n y3) = true then bd (pm_setI h y3 l2.toNatClampNeg ((h.2.1 y3 l2.toNatClampNeg) + q5)) fun h7 => some (.inl ((l2 + Int32.ofInt 1), h7)) else none else none)
theorem t_a_noteSaid_2 (b : Bool) (L : Nat) (xs : Nat → Int32) (d : Nat) (hd : 1 ≤ d) {Q : Option Value → pm_H → Prop} (h : pm_H) (s_h : h.1 = tb_SH) (l0 : Nat) (l1 : Int32) (l2 : Int32) (f_l0 : mi_o l0 1 = true) {r : ((Int32 × pm_H) ⊕ pm_H)} (hm : a_noteSaid_2 l0 l1 l2 h = some r) (hE : E_a_noteSaid_2 b L xs d Q l0 l1 r) : PW b L xs d 61 0 0 2 [(Value.ref l0), (Value.int l1), (Value.int l2)] [] h Q := by
  rw [a_noteSaid_2] at hm
  refine pw_l (pc := 2) d61_2 rfl rfl rfl ?_
  refine pw_l (pc := 3) d61_3 rfl rfl rfl ?_
  obtain ⟨y1, e_y1, hm⟩ := ob_x hm
  have f_y1 := gA_x e_y1
  refine pw_gr (pc := 4) d61_4 (k61_66 b) (sho s_h f_l0) f1_15 f_y1.1 ?_
  refine pw_an (pc := 7) d61_7 (sha s_h f_y1.2) ?_
  refine pw_ige (pc := 8) (t := 31) d61_8 (by decide) (fun c2 => ?_) (fun c2 => ?_)
  · rw [if_pos c2] at hm
    obtain rfl := Option.some.inj hm
    exact hE s_h  (Value.ref l0) (Value.int l1) (Value.int l2)
  · rw [if_neg c2] at hm
    refine pw_l (pc := 11) d61_11 rfl rfl rfl ?_
    obtain ⟨y3, e_y3, hm⟩ := ob_x hm
    have f_y3 := gA_x e_y3
    refine pw_gr (pc := 12) d61_12 (k61_66 b) (sho s_h f_l0) f1_15 f_y3.1 ?_
    refine pw_l (pc := 15) d61_15 rfl rfl rfl ?_
    refine pw_s (pc := 16) d61_16 rfl rfl ?_
    obtain ⟨g4, hm⟩ := gd_x hm
    refine pw_ai (pc := 17) d61_17 (sha s_h f_y3.2) (mi_in_x g4) ?_
    refine pw_l (pc := 18) d61_18 rfl rfl rfl ?_
    refine pw_l (pc := 19) d61_19 rfl rfl rfl ?_
    obtain ⟨q5, e_q5, hm⟩ := ob_x hm
    refine pw_u (pc := 20) (by omega) d61_20 (k61_104 b) (by decide) m34 (Nat.le_of_ble_eq_true rfl) (Nat.le_of_ble_eq_true rfl) (Nat.le_of_ble_eq_true rfl) rfl rfl (T_x_bit b L xs (d - 1) (by omega) h s_h l1 l2  e_q5) (fun v0 h0 hq => ?_)
    obtain ⟨rfl, hh0, s_q5⟩ := hq
    rw [hh0] at s_q5 ⊢
    simp only [Option.toList_some, List.cons_append, List.nil_append]
    refine pw_s (pc := 23) d61_23 rfl rfl ?_
    obtain ⟨g6, hm⟩ := gd_x hm
    refine pw_si (pc := 24) d61_24 (sha s_h f_y3.2) (mi_in_x g6) ?_
    obtain ⟨h7, e_h7, hm⟩ := bd_x hm
    rw [e_h7]
    have s_h7 : h7.1 = tb_SH := by rw [← e_h7]; exact s_h
    refine pw_t (pc := 25) d61_25 rfl rfl rfl rfl ?_
    refine pw_go (pc := 28) (t := 2) d61_28 (by decide) ?_
    obtain rfl := Option.some.inj hm
    exact hE s_h7  
noncomputable def a_noteSaid (l0 : Nat) (l1 : Int32) (h : pm_H) : Option pm_H := (wh (fun s : (Int32 × pm_H) => a_noteSaid_2 l0 l1 s.1 s.2) ((Int32.ofInt 0), h)).bind fun q1 => some q1
theorem T_a_noteSaid (b : Bool) (L : Nat) (xs : Nat → Int32) (d : Nat) (hd : 1 ≤ d) (h : pm_H) (s_h : h.1 = tb_SH) (l0 : Nat) (l1 : Int32) (f_l0 : mi_o l0 1 = true) {r : pm_H} (hm : a_noteSaid l0 l1 h = some r) : PC b L xs d 61 [(Value.ref l0), (Value.int l1)] h (fun (v0 : Option Value) (h2 : pm_H) => v0 = none ∧ h2 = r ∧ h2.1 = tb_SH) := by
  refine pc_in e61 (ls0 := [(Value.ref l0), (Value.int l1), Value.retAddr 0]) rfl ?_
  have key : ∀ (Q : Option Value → pm_H → Prop), (r.1 = tb_SH → Q none r) → PW b L xs d 61 0 0 0 [(Value.ref l0), (Value.int l1), Value.retAddr 0] [] h Q := by
    intro Q hE
    rw [a_noteSaid] at hm
    refine pw_s (pc := 0) d61_0 rfl rfl ?_
    refine pw_t (pc := 1) d61_1 rfl rfl rfl rfl ?_
    obtain ⟨q1, e_q1, hm⟩ := ob_x hm
    refine wh_ind e_q1 (fun s : (Int32 × pm_H) => s.2.1 = tb_SH → PW b L xs d 61 0 0 2 [(Value.ref l0), (Value.int l1), (Value.int s.1)] [] s.2 Q) (fun s s2 hf ih sx => t_a_noteSaid_2 b L xs d hd s.2 sx l0 l1 s.1  f_l0 hf ih) (fun s hf sx => t_a_noteSaid_2 b L xs d hd s.2 sx l0 l1 s.1  f_l0 hf ?_) s_h  
    intro s_q1_0 w0 w1 w2
    obtain rfl := Option.some.inj hm
    refine pw_rv (pc := 31) d61_31 t61 ?_
    exact hE s_q1_0
  exact key _ (fun q => ⟨rfl, rfl, q⟩)
noncomputable def a_greaterPart_23 (l0 : Nat) (z0 : Int32) (h : pm_H) : Option Int32 := some (if z0 < ((h.2.1 l0 12) - z0) then ((h.2.1 l0 12) - z0) else z0)
theorem t_a_greaterPart_23 (b : Bool) (L : Nat) (xs : Nat → Int32) (d : Nat) (hd : 1 ≤ d) {Q : Option Value → pm_H → Prop} (h : pm_H) (s_h : h.1 = tb_SH) (l0 : Nat) (z0 : Int32) (w1 : Value) (w2 : Value) (f_l0 : mi_o l0 1 = true) {r : Int32} (hm : a_greaterPart_23 l0 z0 h = some r) (hE : Q (some (Value.int r)) h) : PW b L xs d 62 0 0 23 [(Value.ref l0), w1, w2] [(Value.int z0)] h Q := by
  rw [a_greaterPart_23] at hm
  refine pw_t (pc := 23) d62_23 rfl rfl rfl (n := 1) (ls' := [(Value.ref l0), (mi_w w1), (Value.int z0)]) (st' := []) (by by_cases hw : Value.category w1 = 2 <;> simp [pm_sto, pm_sI, pm_sL, pm_sA, pm_inc, pm_st1, pm_st2, pm_pre, mi_w, hw] <;> first | done | exact ⟨by decide, rfl⟩ | rfl) ?_
  refine pw_l (pc := 24) d62_24 rfl rfl rfl ?_
  refine pw_l (pc := 25) d62_25 rfl rfl rfl ?_
  refine pw_gi (pc := 26) d62_26 (k62_57 b) (sho s_h f_l0) f1_12 ?_
  refine pw_l (pc := 29) d62_29 rfl rfl rfl ?_
  refine pw_s (pc := 30) d62_30 rfl rfl ?_
  refine pw_mx (pc := 31) (by omega) d62_31 (k62_188 b) (Nat.le_of_ble_eq_true rfl) ?_
  obtain rfl := Option.some.inj hm
  refine pw_ri (pc := 34) d62_34 t62 rfl ?_
  exact hE
noncomputable def a_greaterPart (l0 : Nat) (l1 : Int32) (h : pm_H) : Option Int32 := if l1 < 0 then (a_greaterPart_23 l0 (Int32.ofInt 0) h) else ((gA h l0 15 .int).bind fun y2 => if (Int32.ofNat (mi_n y2)) ≤ l1 then (a_greaterPart_23 l0 (Int32.ofInt 0) h) else ((gA h l0 15 .int).bind fun y4 => if mi_in l1 (mi_n y4) = true then a_greaterPart_23 l0 (h.2.1 y4 l1.toNatClampNeg) h else none))
theorem T_a_greaterPart (b : Bool) (L : Nat) (xs : Nat → Int32) (d : Nat) (hd : 1 ≤ d) (h : pm_H) (s_h : h.1 = tb_SH) (l0 : Nat) (l1 : Int32) (f_l0 : mi_o l0 1 = true) {r : Int32} (hm : a_greaterPart l0 l1 h = some r) : PC b L xs d 62 [(Value.ref l0), (Value.int l1)] h (fun (v0 : Option Value) (h2 : pm_H) => v0 = (some (Value.int r)) ∧ h2 = h ∧ h2.1 = tb_SH) := by
  refine pc_in e62 (ls0 := [(Value.ref l0), (Value.int l1), Value.retAddr 0]) rfl ?_
  have key : ∀ (Q : Option Value → pm_H → Prop), (Q (some (Value.int r)) h) → PW b L xs d 62 0 0 0 [(Value.ref l0), (Value.int l1), Value.retAddr 0] [] h Q := by
    intro Q hE
    rw [a_greaterPart] at hm
    refine pw_l (pc := 0) d62_0 rfl rfl rfl ?_
    refine pw_zlt (pc := 1) (t := 22) d62_1 (by decide) (fun c1 => ?_) (fun c1 => ?_)
    · rw [if_pos c1] at hm
      refine pw_s (pc := 22) d62_22 rfl rfl ?_
      exact t_a_greaterPart_23 b L xs d hd h s_h l0 (Int32.ofInt 0) (Value.int l1) (Value.retAddr 0) f_l0  hm hE
    · rw [if_neg c1] at hm
      refine pw_l (pc := 4) d62_4 rfl rfl rfl ?_
      refine pw_l (pc := 5) d62_5 rfl rfl rfl ?_
      obtain ⟨y2, e_y2, hm⟩ := ob_x hm
      have f_y2 := gA_x e_y2
      refine pw_gr (pc := 6) d62_6 (k62_66 b) (sho s_h f_l0) f1_15 f_y2.1 ?_
      refine pw_an (pc := 9) d62_9 (sha s_h f_y2.2) ?_
      refine pw_ige (pc := 10) (t := 22) d62_10 (by decide) (fun c3 => ?_) (fun c3 => ?_)
      · rw [if_pos c3] at hm
        refine pw_s (pc := 22) d62_22 rfl rfl ?_
        exact t_a_greaterPart_23 b L xs d hd h s_h l0 (Int32.ofInt 0) (Value.int l1) (Value.retAddr 0) f_l0  hm hE
      · rw [if_neg c3] at hm
        refine pw_l (pc := 13) d62_13 rfl rfl rfl ?_
        obtain ⟨y4, e_y4, hm⟩ := ob_x hm
        have f_y4 := gA_x e_y4
        refine pw_gr (pc := 14) d62_14 (k62_66 b) (sho s_h f_l0) f1_15 f_y4.1 ?_
        refine pw_l (pc := 17) d62_17 rfl rfl rfl ?_
        obtain ⟨g5, hm⟩ := gd_x hm
        refine pw_ai (pc := 18) d62_18 (sha s_h f_y4.2) (mi_in_x g5) ?_
        refine pw_go (pc := 19) (t := 23) d62_19 (by decide) ?_
        exact t_a_greaterPart_23 b L xs d hd h s_h l0 (h.2.1 y4 l1.toNatClampNeg) (Value.int l1) (Value.retAddr 0) f_l0  hm hE
  exact key _ ⟨rfl, rfl, s_h⟩
def E_a_bestQuestion_4 (b : Bool) (L : Nat) (xs : Nat → Int32) (d : Nat) (Q : Option Value → pm_H → Prop) (h : pm_H) (l0 : Nat) (l1 : Int32) : ((Int32 × Int32) ⊕ Int32) → Prop
  | .inl s => PW b L xs d 63 0 0 4 [(Value.ref l0), (Value.int l1), (Value.int s.1), (Value.int s.2)] [] h Q
  | .inr e => ∀ w0 w1 w3 : Value, PW b L xs d 63 0 0 30 [w0, w1, (Value.int e), w3] [] h Q
noncomputable def a_bestQuestion_4 (l0 : Nat) (l1 : Int32) (l2 : Int32) (l3 : Int32) (h : pm_H) : Option ((Int32 × Int32) ⊕ Int32) := if l1 ≤ l3 then (some (.inr l2)) else ((a_greaterPart l0 l3 h).bind fun q2 => (a_greaterPart l0 l2 h).bind fun q3 => if q3 ≤ q2 then (some (.inl (l2, (l3 + Int32.ofInt 1)))) else (some (.inl (l3, (l3 + Int32.ofInt 1)))))
theorem t_a_bestQuestion_4 (b : Bool) (L : Nat) (xs : Nat → Int32) (d : Nat) (hd : 2 ≤ d) {Q : Option Value → pm_H → Prop} (h : pm_H) (s_h : h.1 = tb_SH) (l0 : Nat) (l1 : Int32) (l2 : Int32) (l3 : Int32) (f_l0 : mi_o l0 1 = true) {r : ((Int32 × Int32) ⊕ Int32)} (hm : a_bestQuestion_4 l0 l1 l2 l3 h = some r) (hE : E_a_bestQuestion_4 b L xs d Q h l0 l1 r) : PW b L xs d 63 0 0 4 [(Value.ref l0), (Value.int l1), (Value.int l2), (Value.int l3)] [] h Q := by
  rw [a_bestQuestion_4] at hm
  refine pw_l (pc := 4) d63_4 rfl rfl rfl ?_
  refine pw_l (pc := 5) d63_5 rfl rfl rfl ?_
  refine pw_ige (pc := 6) (t := 30) d63_6 (by decide) (fun c1 => ?_) (fun c1 => ?_)
  · rw [if_pos c1] at hm
    obtain rfl := Option.some.inj hm
    exact hE   (Value.ref l0) (Value.int l1) (Value.int l3)
  · rw [if_neg c1] at hm
    refine pw_l (pc := 9) d63_9 rfl rfl rfl ?_
    refine pw_l (pc := 10) d63_10 rfl rfl rfl ?_
    obtain ⟨q2, e_q2, hm⟩ := ob_x hm
    refine pw_v (pc := 11) (k := l0) (by omega) d63_11 (k63_225 b) (by decide) m62 (by decide) rfl (sho s_h f_l0) (Nat.le_of_ble_eq_true rfl) (Nat.le_of_ble_eq_true rfl) rfl rfl (T_a_greaterPart b L xs (d - 1) (by omega) h s_h l0 l3 f_l0 e_q2) (fun v0 h0 hq => ?_)
    obtain ⟨rfl, hh0, s_q2⟩ := hq
    rw [hh0] at s_q2 ⊢
    simp only [Option.toList_some, List.cons_append, List.nil_append]
    refine pw_l (pc := 14) d63_14 rfl rfl rfl ?_
    refine pw_l (pc := 15) d63_15 rfl rfl rfl ?_
    obtain ⟨q3, e_q3, hm⟩ := ob_x hm
    refine pw_v (pc := 16) (k := l0) (by omega) d63_16 (k63_225 b) (by decide) m62 (by decide) rfl (sho s_h f_l0) (Nat.le_of_ble_eq_true rfl) (Nat.le_of_ble_eq_true rfl) rfl rfl (T_a_greaterPart b L xs (d - 1) (by omega) h s_h l0 l2 f_l0 e_q3) (fun v0 h0 hq => ?_)
    obtain ⟨rfl, hh0, s_q3⟩ := hq
    rw [hh0] at s_q3 ⊢
    simp only [Option.toList_some, List.cons_append, List.nil_append]
    refine pw_ige (pc := 19) (t := 24) d63_19 (by decide) (fun c4 => ?_) (fun c4 => ?_)
    · rw [if_pos c4] at hm
      refine pw_t (pc := 24) d63_24 rfl rfl rfl rfl ?_
      refine pw_go (pc := 27) (t := 4) d63_27 (by decide) ?_
      obtain rfl := Option.some.inj hm
      exact hE   
    · rw [if_neg c4] at hm
      refine pw_l (pc := 22) d63_22 rfl rfl rfl ?_
      refine pw_t (pc := 23) d63_23 rfl rfl rfl rfl ?_
      refine pw_t (pc := 24) d63_24 rfl rfl rfl rfl ?_
      refine pw_go (pc := 27) (t := 4) d63_27 (by decide) ?_
      obtain rfl := Option.some.inj hm
      exact hE   
noncomputable def a_bestQuestion (l0 : Nat) (l1 : Int32) (h : pm_H) : Option Int32 := (wh (fun s : (Int32 × Int32) => a_bestQuestion_4 l0 l1 s.1 s.2 h) ((Int32.ofInt 0), (Int32.ofInt 1))).bind fun q1 => some q1
theorem T_a_bestQuestion (b : Bool) (L : Nat) (xs : Nat → Int32) (d : Nat) (hd : 2 ≤ d) (h : pm_H) (s_h : h.1 = tb_SH) (l0 : Nat) (l1 : Int32) (f_l0 : mi_o l0 1 = true) {r : Int32} (hm : a_bestQuestion l0 l1 h = some r) : PC b L xs d 63 [(Value.ref l0), (Value.int l1)] h (fun (v0 : Option Value) (h2 : pm_H) => v0 = (some (Value.int r)) ∧ h2 = h ∧ h2.1 = tb_SH) := by
  refine pc_in e63 (ls0 := [(Value.ref l0), (Value.int l1), Value.retAddr 0, Value.retAddr 0]) rfl ?_
  have key : ∀ (Q : Option Value → pm_H → Prop), (Q (some (Value.int r)) h) → PW b L xs d 63 0 0 0 [(Value.ref l0), (Value.int l1), Value.retAddr 0, Value.retAddr 0] [] h Q := by
    intro Q hE
    rw [a_bestQuestion] at hm
    refine pw_s (pc := 0) d63_0 rfl rfl ?_
    refine pw_t (pc := 1) d63_1 rfl rfl rfl rfl ?_
    refine pw_s (pc := 2) d63_2 rfl rfl ?_
    refine pw_t (pc := 3) d63_3 rfl rfl rfl rfl ?_
    obtain ⟨q1, e_q1, hm⟩ := ob_x hm
    refine wh_ind e_q1 (fun s : (Int32 × Int32) => PW b L xs d 63 0 0 4 [(Value.ref l0), (Value.int l1), (Value.int s.1), (Value.int s.2)] [] h Q) (fun s s2 hf ih  => t_a_bestQuestion_4 b L xs d hd h s_h l0 l1 s.1 s.2  f_l0 hf ih) (fun s hf  => t_a_bestQuestion_4 b L xs d hd h s_h l0 l1 s.1 s.2  f_l0 hf ?_)   
    intro w0 w1 w3
    refine pw_l (pc := 30) d63_30 rfl rfl rfl ?_
    obtain rfl := Option.some.inj hm
    refine pw_ri (pc := 31) d63_31 t63 rfl ?_
    exact hE
  exact key _ ⟨rfl, rfl, s_h⟩
noncomputable def a_draw (l0 : Nat) (h : pm_H) : Option (Int32 × pm_H) := bd (pm_setI h l0 18 (((((h.2.1 l0 18).toInt64 * (1103515245 : Int64)) + (12345 : Int64)) &&& (2147483647 : Int64)).toInt32)) fun h1 => some (((h1.2.1 l0 18) / (65536 : Int32)), h1)
theorem T_a_draw (b : Bool) (L : Nat) (xs : Nat → Int32) (d : Nat) (hd : 0 ≤ d) (h : pm_H) (s_h : h.1 = tb_SH) (l0 : Nat) (f_l0 : mi_o l0 1 = true) {r : (Int32 × pm_H)} (hm : a_draw l0 h = some r) : PC b L xs d 66 [(Value.ref l0)] h (fun (v0 : Option Value) (h2 : pm_H) => v0 = (some (Value.int r.1)) ∧ h2 = r.2 ∧ h2.1 = tb_SH) := by
  refine pc_in e66 (ls0 := [(Value.ref l0)]) rfl ?_
  have key : ∀ (Q : Option Value → pm_H → Prop), (r.2.1 = tb_SH → Q (some (Value.int r.1)) r.2) → PW b L xs d 66 0 0 0 [(Value.ref l0)] [] h Q := by
    intro Q hE
    rw [a_draw] at hm
    refine pw_l (pc := 0) d66_0 rfl rfl rfl ?_
    refine pw_l (pc := 1) d66_1 rfl rfl rfl ?_
    refine pw_gi (pc := 2) d66_2 (k66_75 b) (sho s_h f_l0) f1_18 ?_
    refine pw_s (pc := 5) d66_5 rfl rfl ?_
    refine pw_cl (pc := 6) d66_6 (k66_253 b) ?_
    refine pw_s (pc := 9) d66_9 rfl rfl ?_
    refine pw_cl (pc := 10) d66_10 (k66_255 b) ?_
    refine pw_s (pc := 13) d66_13 rfl rfl ?_
    refine pw_cl (pc := 14) d66_14 (k66_257 b) ?_
    refine pw_s (pc := 17) d66_17 rfl rfl ?_
    refine pw_s (pc := 18) d66_18 rfl rfl ?_
    refine pw_pi (pc := 19) d66_19 (k66_75 b) (sho s_h f_l0) p66_1_18 ?_
    obtain ⟨h1, e_h1, hm⟩ := bd_x hm
    rw [e_h1]
    have s_h1 : h1.1 = tb_SH := by rw [← e_h1]; exact s_h
    refine pw_l (pc := 22) d66_22 rfl rfl rfl ?_
    refine pw_gi (pc := 23) d66_23 (k66_75 b) (sho s_h1 f_l0) f1_18 ?_
    refine pw_cw (pc := 26) d66_26 (k66_259 b) ?_
    refine pw_di (pc := 29) d66_29 (by decide) ?_
    obtain rfl := Option.some.inj hm
    refine pw_ri (pc := 30) d66_30 t66 rfl ?_
    exact hE s_h1
  exact key _ (fun q => ⟨rfl, rfl, q⟩)
def E_a_seat_6 (b : Bool) (L : Nat) (xs : Nat → Int32) (d : Nat) (Q : Option Value → pm_H → Prop) (l0 : Nat) (l1 : Nat) (l3 : Int32) : ((Int32 × Int32 × pm_H) ⊕ pm_H ⊕ pm_H) → Prop
  | .inl s => s.2.2.1 = tb_SH → ∀ w2 w6 : Value, PW b L xs d 46 0 0 6 [(Value.ref l0), (Value.ref l1), w2, (Value.int l3), (Value.int s.1), (Value.int s.2.1), w6] [] s.2.2 Q
  | .inr (.inl e) => e.1 = tb_SH → ∀ w0 w1 w2 w3 w4 w5 w6 : Value, PW b L xs d 46 0 0 51 [w0, w1, w2, w3, w4, w5, w6] [] e Q
  | .inr (.inr e) => e.1 = tb_SH → ∀ w0 w1 w2 w3 w4 w5 w6 : Value, PW b L xs d 46 0 0 79 [w0, w1, w2, w3, w4, w5, w6] [] e Q
noncomputable def a_seat_6 (l0 : Nat) (l1 : Nat) (l3 : Int32) (l4 : Int32) (l5 : Int32) (h : pm_H) : Option ((Int32 × Int32 × pm_H) ⊕ pm_H ⊕ pm_H) := (gO h l0 1 5).bind fun y1 => if (h.2.1 y1 6) ≤ l5 then (some (.inr (.inr h))) else ((gA h l0 4 .int).bind fun y3 => if (Int32.ofNat (mi_n y3)) ≤ l5 then (some (.inr (.inr h))) else ((gO h l0 1 5).bind fun y5 => (r_wordAt y5 l5 h).bind fun q6 => (a_leastWith l1 l4 l3 q6 h).bind fun q7 => if 0 ≤ q7 then ((gA h l0 4 .int).bind fun y9 => if mi_in l5 (mi_n y9) = true then bd (pm_setI h y9 l5.toNatClampNeg q7) fun h11 => some (.inl ((l4 &&& (((Int32.ofInt 1) <<< (q7 &&& 31)) ^^^ (Int32.ofInt (-1)))), (l5 + Int32.ofInt 1), h11)) else none) else (some (.inr (.inl h)))))
theorem t_a_seat_6 (b : Bool) (L : Nat) (xs : Nat → Int32) (d : Nat) (hd : 2 ≤ d) {Q : Option Value → pm_H → Prop} (h : pm_H) (s_h : h.1 = tb_SH) (l0 : Nat) (l1 : Nat) (l3 : Int32) (l4 : Int32) (l5 : Int32) (w2 : Value) (w6 : Value) (f_l0 : mi_o l0 1 = true) (f_l1 : mi_o l1 7 = true) {r : ((Int32 × Int32 × pm_H) ⊕ pm_H ⊕ pm_H)} (hm : a_seat_6 l0 l1 l3 l4 l5 h = some r) (hE : E_a_seat_6 b L xs d Q l0 l1 l3 r) : PW b L xs d 46 0 0 6 [(Value.ref l0), (Value.ref l1), w2, (Value.int l3), (Value.int l4), (Value.int l5), w6] [] h Q := by
  rw [a_seat_6] at hm
  refine pw_l (pc := 6) d46_6 rfl rfl rfl ?_
  refine pw_l (pc := 8) d46_8 rfl rfl rfl ?_
  obtain ⟨y1, e_y1, hm⟩ := ob_x hm
  have f_y1 := gO_x e_y1
  refine pw_gr (pc := 9) d46_9 (k46_21 b) (sho s_h f_l0) f1_1 f_y1.1 ?_
  refine pw_gi (pc := 12) d46_12 (k46_116 b) (sho s_h f_y1.2) f5_6 ?_
  refine pw_ige (pc := 15) (t := 79) d46_15 (by decide) (fun c2 => ?_) (fun c2 => ?_)
  · rw [if_pos c2] at hm
    obtain rfl := Option.some.inj hm
    exact hE s_h  (Value.ref l0) (Value.ref l1) w2 (Value.int l3) (Value.int l4) (Value.int l5) w6
  · rw [if_neg c2] at hm
    refine pw_l (pc := 18) d46_18 rfl rfl rfl ?_
    refine pw_l (pc := 20) d46_20 rfl rfl rfl ?_
    obtain ⟨y3, e_y3, hm⟩ := ob_x hm
    have f_y3 := gA_x e_y3
    refine pw_gr (pc := 21) d46_21 (k46_33 b) (sho s_h f_l0) f1_4 f_y3.1 ?_
    refine pw_an (pc := 24) d46_24 (sha s_h f_y3.2) ?_
    refine pw_ige (pc := 25) (t := 79) d46_25 (by decide) (fun c4 => ?_) (fun c4 => ?_)
    · rw [if_pos c4] at hm
      obtain rfl := Option.some.inj hm
      exact hE s_h  (Value.ref l0) (Value.ref l1) w2 (Value.int l3) (Value.int l4) (Value.int l5) w6
    · rw [if_neg c4] at hm
      refine pw_l (pc := 28) d46_28 rfl rfl rfl ?_
      refine pw_l (pc := 29) d46_29 rfl rfl rfl ?_
      refine pw_l (pc := 31) d46_31 rfl rfl rfl ?_
      refine pw_l (pc := 32) d46_32 rfl rfl rfl ?_
      obtain ⟨y5, e_y5, hm⟩ := ob_x hm
      have f_y5 := gO_x e_y5
      refine pw_gr (pc := 33) d46_33 (k46_21 b) (sho s_h f_l0) f1_1 f_y5.1 ?_
      refine pw_l (pc := 36) d46_36 rfl rfl rfl ?_
      obtain ⟨q6, e_q6, hm⟩ := ob_x hm
      refine pw_v (pc := 38) (k := y5) (by omega) d46_38 (k46_132 b) (by decide) m88 (by decide) rfl (sho s_h f_y5.2) (Nat.le_of_ble_eq_true rfl) (Nat.le_of_ble_eq_true rfl) rfl rfl (T_r_wordAt b L xs (d - 1) (by omega) h s_h y5 l5 f_y5.2 e_q6) (fun v0 h0 hq => ?_)
      obtain ⟨rfl, hh0, s_q6⟩ := hq
      rw [hh0] at s_q6 ⊢
      simp only [Option.toList_some, List.cons_append, List.nil_append]
      obtain ⟨q7, e_q7, hm⟩ := ob_x hm
      refine pw_u (pc := 41) (by omega) d46_41 (k46_136 b) (by decide) m47 (Nat.le_of_ble_eq_true rfl) (Nat.le_of_ble_eq_true rfl) (Nat.le_of_ble_eq_true rfl) rfl rfl (T_a_leastWith b L xs (d - 1) (by omega) h s_h l1 l4 l3 q6 f_l1 e_q7) (fun v0 h0 hq => ?_)
      obtain ⟨rfl, hh0, s_q7⟩ := hq
      rw [hh0] at s_q7 ⊢
      simp only [Option.toList_some, List.cons_append, List.nil_append]
      refine pw_t (pc := 44) d46_44 rfl rfl rfl rfl ?_
      refine pw_l (pc := 46) d46_46 rfl rfl rfl ?_
      refine pw_zge (pc := 48) (t := 53) d46_48 (by decide) (fun c8 => ?_) (fun c8 => ?_)
      · rw [if_pos c8] at hm
        refine pw_l (pc := 53) d46_53 rfl rfl rfl ?_
        obtain ⟨y9, e_y9, hm⟩ := ob_x hm
        have f_y9 := gA_x e_y9
        refine pw_gr (pc := 54) d46_54 (k46_33 b) (sho s_h f_l0) f1_4 f_y9.1 ?_
        refine pw_l (pc := 57) d46_57 rfl rfl rfl ?_
        refine pw_l (pc := 59) d46_59 rfl rfl rfl ?_
        obtain ⟨g10, hm⟩ := gd_x hm
        refine pw_si (pc := 61) d46_61 (sha s_h f_y9.2) (mi_in_x g10) ?_
        obtain ⟨h11, e_h11, hm⟩ := bd_x hm
        rw [e_h11]
        have s_h11 : h11.1 = tb_SH := by rw [← e_h11]; exact s_h
        refine pw_l (pc := 62) d46_62 rfl rfl rfl ?_
        refine pw_s (pc := 64) d46_64 rfl rfl ?_
        refine pw_l (pc := 65) d46_65 rfl rfl rfl ?_
        refine pw_s (pc := 67) d46_67 rfl rfl ?_
        refine pw_s (pc := 68) d46_68 rfl rfl ?_
        refine pw_s (pc := 69) d46_69 rfl rfl ?_
        refine pw_s (pc := 70) d46_70 rfl rfl ?_
        refine pw_t (pc := 71) d46_71 rfl rfl rfl rfl ?_
        refine pw_t (pc := 73) d46_73 rfl rfl rfl rfl ?_
        refine pw_go (pc := 76) (t := 6) d46_76 (by decide) ?_
        obtain rfl := Option.some.inj hm
        exact hE s_h11  w2 (Value.int q7)
      · rw [if_neg c8] at hm
        obtain rfl := Option.some.inj hm
        exact hE s_h  (Value.ref l0) (Value.ref l1) w2 (Value.int l3) (Value.int l4) (Value.int l5) (Value.int q7)
noncomputable def a_seat (l0 : Nat) (l1 : Nat) (l2 : Int32) (l3 : Int32) (h : pm_H) : Option (Int32 × pm_H) := (wh (fun s : (Int32 × Int32 × pm_H) => a_seat_6 l0 l1 l3 s.1 s.2.1 s.2.2) (l2, (Int32.ofInt 0), h)).bind fun q1 => (match q1 with | (.inl eq1_0) => some ((Int32.ofInt 0), eq1_0) | (.inr eq1_1) => some ((Int32.ofInt 1), eq1_1))
theorem T_a_seat (b : Bool) (L : Nat) (xs : Nat → Int32) (d : Nat) (hd : 2 ≤ d) (h : pm_H) (s_h : h.1 = tb_SH) (l0 : Nat) (l1 : Nat) (l2 : Int32) (l3 : Int32) (f_l0 : mi_o l0 1 = true) (f_l1 : mi_o l1 7 = true) {r : (Int32 × pm_H)} (hm : a_seat l0 l1 l2 l3 h = some r) : PC b L xs d 46 [(Value.ref l0), (Value.ref l1), (Value.int l2), (Value.int l3)] h (fun (v0 : Option Value) (h2 : pm_H) => v0 = (some (Value.int r.1)) ∧ h2 = r.2 ∧ h2.1 = tb_SH) := by
  refine pc_in e46 (ls0 := [(Value.ref l0), (Value.ref l1), (Value.int l2), (Value.int l3), Value.retAddr 0, Value.retAddr 0, Value.retAddr 0]) rfl ?_
  have key : ∀ (Q : Option Value → pm_H → Prop), (r.2.1 = tb_SH → Q (some (Value.int r.1)) r.2) → PW b L xs d 46 0 0 0 [(Value.ref l0), (Value.ref l1), (Value.int l2), (Value.int l3), Value.retAddr 0, Value.retAddr 0, Value.retAddr 0] [] h Q := by
    intro Q hE
    rw [a_seat] at hm
    refine pw_l (pc := 0) d46_0 rfl rfl rfl ?_
    refine pw_t (pc := 1) d46_1 rfl rfl rfl rfl ?_
    refine pw_s (pc := 3) d46_3 rfl rfl ?_
    refine pw_t (pc := 4) d46_4 rfl rfl rfl rfl ?_
    obtain ⟨q1, e_q1, hm⟩ := ob_x hm
    refine wh_ind e_q1 (fun s : (Int32 × Int32 × pm_H) => s.2.2.1 = tb_SH → ∀ w2 w6 : Value, PW b L xs d 46 0 0 6 [(Value.ref l0), (Value.ref l1), w2, (Value.int l3), (Value.int s.1), (Value.int s.2.1), w6] [] s.2.2 Q) (fun s s2 hf ih sx w2 w6 => t_a_seat_6 b L xs d hd s.2.2 sx l0 l1 l3 s.1 s.2.1 w2 w6 f_l0 f_l1 hf ih) (fun s hf sx w2 w6 => t_a_seat_6 b L xs d hd s.2.2 sx l0 l1 l3 s.1 s.2.1 w2 w6 f_l0 f_l1 hf ?_) s_h  (Value.int l2) (Value.retAddr 0)
    rcases q1 with eq1_0 | eq1_1
    · dsimp only at hm
      intro s_q1_0 w0 w1 w2 w3 w4 w5 w6
      refine pw_s (pc := 51) d46_51 rfl rfl ?_
      obtain rfl := Option.some.inj hm
      refine pw_ri (pc := 52) d46_52 t46 rfl ?_
      exact hE s_q1_0
    · dsimp only at hm
      intro s_q1_1 w0 w1 w2 w3 w4 w5 w6
      refine pw_s (pc := 79) d46_79 rfl rfl ?_
      obtain rfl := Option.some.inj hm
      refine pw_ri (pc := 80) d46_80 t46 rfl ?_
      exact hE s_q1_1
  exact key _ (fun q => ⟨rfl, rfl, q⟩)
noncomputable def a_needWith (l0 : Nat) (l1 : Nat) (l2 : Nat) (l3 : Int32) (h : pm_H) : Option (Int32 × pm_H) := (gO h l0 0 2).bind fun y1 => (n_heard l2 l1 h).bind fun q2 => (c_orders y1 l3 q2 h).bind fun q3 => (a_needOf l1 q3.1 q3.2).bind fun q4 => some (q4, q3.2)
theorem T_a_needWith (b : Bool) (L : Nat) (xs : Nat → Int32) (d : Nat) (hd : 4 ≤ d) (h : pm_H) (s_h : h.1 = tb_SH) (l0 : Nat) (l1 : Nat) (l2 : Nat) (l3 : Int32) (f_l0 : mi_o l0 1 = true) (f_l1 : mi_o l1 7 = true) (f_l2 : mi_o l2 3 = true) {r : (Int32 × pm_H)} (hm : a_needWith l0 l1 l2 l3 h = some r) : PC b L xs d 51 [(Value.ref l0), (Value.ref l1), (Value.ref l2), (Value.int l3)] h (fun (v0 : Option Value) (h2 : pm_H) => v0 = (some (Value.int r.1)) ∧ h2 = r.2 ∧ h2.1 = tb_SH) := by
  refine pc_in e51 (ls0 := [(Value.ref l0), (Value.ref l1), (Value.ref l2), (Value.int l3)]) rfl ?_
  have key : ∀ (Q : Option Value → pm_H → Prop), (r.2.1 = tb_SH → Q (some (Value.int r.1)) r.2) → PW b L xs d 51 0 0 0 [(Value.ref l0), (Value.ref l1), (Value.ref l2), (Value.int l3)] [] h Q := by
    intro Q hE
    rw [a_needWith] at hm
    refine pw_l (pc := 0) d51_0 rfl rfl rfl ?_
    refine pw_l (pc := 1) d51_1 rfl rfl rfl ?_
    obtain ⟨y1, e_y1, hm⟩ := ob_x hm
    have f_y1 := gO_x e_y1
    refine pw_gr (pc := 2) d51_2 (k51_12 b) (sho s_h f_l0) f1_0 f_y1.1 ?_
    refine pw_l (pc := 5) d51_5 rfl rfl rfl ?_
    refine pw_l (pc := 6) d51_6 rfl rfl rfl ?_
    refine pw_l (pc := 7) d51_7 rfl rfl rfl ?_
    obtain ⟨q2, e_q2, hm⟩ := ob_x hm
    refine pw_v (pc := 8) (k := l2) (by omega) d51_8 (k51_92 b) (by decide) m81 (by decide) rfl (sho s_h f_l2) (Nat.le_of_ble_eq_true rfl) (Nat.le_of_ble_eq_true rfl) rfl rfl (T_n_heard b L xs (d - 1) (by omega) h s_h l2 l1 f_l2 f_l1 e_q2) (fun v0 h0 hq => ?_)
    obtain ⟨rfl, hh0, s_q2⟩ := hq
    rw [hh0] at s_q2 ⊢
    simp only [Option.toList_some, List.cons_append, List.nil_append]
    obtain ⟨q3, e_q3, hm⟩ := ob_x hm
    refine pw_v (pc := 11) (k := y1) (by omega) d51_11 (k51_96 b) (by decide) m69 (by decide) rfl (sho s_h f_y1.2) (Nat.le_of_ble_eq_true rfl) (Nat.le_of_ble_eq_true rfl) rfl rfl (T_c_orders b L xs (d - 1) (by omega) h s_h y1 l3 q2 f_y1.2 e_q3) (fun v0 h0 hq => ?_)
    obtain ⟨rfl, hh0, s_q3⟩ := hq
    rw [hh0] at s_q3 ⊢
    simp only [Option.toList_some, List.cons_append, List.nil_append]
    obtain ⟨q4, e_q4, hm⟩ := ob_x hm
    refine pw_u (pc := 14) (by omega) d51_14 (k51_164 b) (by decide) m52 (Nat.le_of_ble_eq_true rfl) (Nat.le_of_ble_eq_true rfl) (Nat.le_of_ble_eq_true rfl) rfl rfl (T_a_needOf b L xs (d - 1) (by omega) q3.2 s_q3 l1 q3.1 f_l1 e_q4) (fun v0 h0 hq => ?_)
    obtain ⟨rfl, hh0, s_q4⟩ := hq
    rw [hh0] at s_q4 ⊢
    simp only [Option.toList_some, List.cons_append, List.nil_append]
    obtain rfl := Option.some.inj hm
    refine pw_ri (pc := 17) d51_17 t51 rfl ?_
    exact hE s_q3
  exact key _ (fun q => ⟨rfl, rfl, q⟩)
def E_a_bestLesson_8 (b : Bool) (L : Nat) (xs : Nat → Int32) (d : Nat) (Q : Option Value → pm_H → Prop) (l0 : Nat) (l1 : Nat) (l2 : Nat) : ((Int32 × Int32 × Int32 × pm_H) ⊕ (Int32 × pm_H)) → Prop
  | .inl s => s.2.2.2.1 = tb_SH → ∀ w6 : Value, PW b L xs d 53 0 0 8 [(Value.ref l0), (Value.ref l1), (Value.ref l2), (Value.int s.1), (Value.int s.2.1), (Value.int s.2.2.1), w6] [] s.2.2.2 Q
  | .inr e => e.2.1 = tb_SH → ∀ w0 w1 w2 w4 w5 w6 : Value, PW b L xs d 53 0 0 47 [w0, w1, w2, (Value.int e.1), w4, w5, w6] [] e.2 Q
noncomputable def a_bestLesson_8 (l0 : Nat) (l1 : Nat) (l2 : Nat) (l3 : Int32) (l4 : Int32) (l5 : Int32) (h : pm_H) : Option ((Int32 × Int32 × Int32 × pm_H) ⊕ (Int32 × pm_H)) := if (h.2.1 l1 0) ≤ l5 then (some (.inr (l3, h))) else ((a_needWith l0 l1 l2 l5 h).bind fun q2 => if q2.1 ≤ l4 then (some (.inl (l3, l4, (l5 + Int32.ofInt 1), q2.2))) else (some (.inl (l5, q2.1, (l5 + Int32.ofInt 1), q2.2))))
theorem t_a_bestLesson_8 (b : Bool) (L : Nat) (xs : Nat → Int32) (d : Nat) (hd : 5 ≤ d) {Q : Option Value → pm_H → Prop} (h : pm_H) (s_h : h.1 = tb_SH) (l0 : Nat) (l1 : Nat) (l2 : Nat) (l3 : Int32) (l4 : Int32) (l5 : Int32) (w6 : Value) (f_l0 : mi_o l0 1 = true) (f_l1 : mi_o l1 7 = true) (f_l2 : mi_o l2 3 = true) {r : ((Int32 × Int32 × Int32 × pm_H) ⊕ (Int32 × pm_H))} (hm : a_bestLesson_8 l0 l1 l2 l3 l4 l5 h = some r) (hE : E_a_bestLesson_8 b L xs d Q l0 l1 l2 r) : PW b L xs d 53 0 0 8 [(Value.ref l0), (Value.ref l1), (Value.ref l2), (Value.int l3), (Value.int l4), (Value.int l5), w6] [] h Q := by
  rw [a_bestLesson_8] at hm
  refine pw_l (pc := 8) d53_8 rfl rfl rfl ?_
  refine pw_l (pc := 10) d53_10 rfl rfl rfl ?_
  refine pw_gi (pc := 11) d53_11 (k53_168 b) (sho s_h f_l1) f7_0 ?_
  refine pw_ige (pc := 14) (t := 47) d53_14 (by decide) (fun c1 => ?_) (fun c1 => ?_)
  · rw [if_pos c1] at hm
    obtain rfl := Option.some.inj hm
    exact hE s_h  (Value.ref l0) (Value.ref l1) (Value.ref l2) (Value.int l4) (Value.int l5) w6
  · rw [if_neg c1] at hm
    refine pw_l (pc := 17) d53_17 rfl rfl rfl ?_
    refine pw_l (pc := 18) d53_18 rfl rfl rfl ?_
    refine pw_l (pc := 19) d53_19 rfl rfl rfl ?_
    refine pw_l (pc := 20) d53_20 rfl rfl rfl ?_
    obtain ⟨q2, e_q2, hm⟩ := ob_x hm
    refine pw_v (pc := 22) (k := l0) (by omega) d53_22 (k53_171 b) (by decide) m51 (by decide) rfl (sho s_h f_l0) (Nat.le_of_ble_eq_true rfl) (Nat.le_of_ble_eq_true rfl) rfl rfl (T_a_needWith b L xs (d - 1) (by omega) h s_h l0 l1 l2 l5 f_l0 f_l1 f_l2 e_q2) (fun v0 h0 hq => ?_)
    obtain ⟨rfl, hh0, s_q2⟩ := hq
    rw [hh0] at s_q2 ⊢
    simp only [Option.toList_some, List.cons_append, List.nil_append]
    refine pw_t (pc := 25) d53_25 rfl rfl rfl rfl ?_
    refine pw_l (pc := 27) d53_27 rfl rfl rfl ?_
    refine pw_l (pc := 29) d53_29 rfl rfl rfl ?_
    refine pw_ile (pc := 31) (t := 41) d53_31 (by decide) (fun c3 => ?_) (fun c3 => ?_)
    · rw [if_pos c3] at hm
      refine pw_t (pc := 41) d53_41 rfl rfl rfl rfl ?_
      refine pw_go (pc := 44) (t := 8) d53_44 (by decide) ?_
      obtain rfl := Option.some.inj hm
      exact hE s_q2  (Value.int q2.1)
    · rw [if_neg c3] at hm
      refine pw_l (pc := 34) d53_34 rfl rfl rfl ?_
      refine pw_t (pc := 36) d53_36 rfl rfl rfl rfl ?_
      refine pw_l (pc := 38) d53_38 rfl rfl rfl ?_
      refine pw_t (pc := 40) d53_40 rfl rfl rfl rfl ?_
      refine pw_t (pc := 41) d53_41 rfl rfl rfl rfl ?_
      refine pw_go (pc := 44) (t := 8) d53_44 (by decide) ?_
      obtain rfl := Option.some.inj hm
      exact hE s_q2  (Value.int q2.1)
noncomputable def a_bestLesson (l0 : Nat) (l1 : Nat) (l2 : Nat) (h : pm_H) : Option (Int32 × pm_H) := (wh (fun s : (Int32 × Int32 × Int32 × pm_H) => a_bestLesson_8 l0 l1 l2 s.1 s.2.1 s.2.2.1 s.2.2.2) ((Int32.ofInt 0), (Int32.ofInt (-1)), (Int32.ofInt 0), h)).bind fun q1 => some (q1.1, q1.2)
theorem T_a_bestLesson (b : Bool) (L : Nat) (xs : Nat → Int32) (d : Nat) (hd : 5 ≤ d) (h : pm_H) (s_h : h.1 = tb_SH) (l0 : Nat) (l1 : Nat) (l2 : Nat) (f_l0 : mi_o l0 1 = true) (f_l1 : mi_o l1 7 = true) (f_l2 : mi_o l2 3 = true) {r : (Int32 × pm_H)} (hm : a_bestLesson l0 l1 l2 h = some r) : PC b L xs d 53 [(Value.ref l0), (Value.ref l1), (Value.ref l2)] h (fun (v0 : Option Value) (h2 : pm_H) => v0 = (some (Value.int r.1)) ∧ h2 = r.2 ∧ h2.1 = tb_SH) := by
  refine pc_in e53 (ls0 := [(Value.ref l0), (Value.ref l1), (Value.ref l2), Value.retAddr 0, Value.retAddr 0, Value.retAddr 0, Value.retAddr 0]) rfl ?_
  have key : ∀ (Q : Option Value → pm_H → Prop), (r.2.1 = tb_SH → Q (some (Value.int r.1)) r.2) → PW b L xs d 53 0 0 0 [(Value.ref l0), (Value.ref l1), (Value.ref l2), Value.retAddr 0, Value.retAddr 0, Value.retAddr 0, Value.retAddr 0] [] h Q := by
    intro Q hE
    rw [a_bestLesson] at hm
    refine pw_s (pc := 0) d53_0 rfl rfl ?_
    refine pw_t (pc := 1) d53_1 rfl rfl rfl rfl ?_
    refine pw_s (pc := 2) d53_2 rfl rfl ?_
    refine pw_t (pc := 3) d53_3 rfl rfl rfl rfl ?_
    refine pw_s (pc := 5) d53_5 rfl rfl ?_
    refine pw_t (pc := 6) d53_6 rfl rfl rfl rfl ?_
    obtain ⟨q1, e_q1, hm⟩ := ob_x hm
    refine wh_ind e_q1 (fun s : (Int32 × Int32 × Int32 × pm_H) => s.2.2.2.1 = tb_SH → ∀ w6 : Value, PW b L xs d 53 0 0 8 [(Value.ref l0), (Value.ref l1), (Value.ref l2), (Value.int s.1), (Value.int s.2.1), (Value.int s.2.2.1), w6] [] s.2.2.2 Q) (fun s s2 hf ih sx w6 => t_a_bestLesson_8 b L xs d hd s.2.2.2 sx l0 l1 l2 s.1 s.2.1 s.2.2.1 w6 f_l0 f_l1 f_l2 hf ih) (fun s hf sx w6 => t_a_bestLesson_8 b L xs d hd s.2.2.2 sx l0 l1 l2 s.1 s.2.1 s.2.2.1 w6 f_l0 f_l1 f_l2 hf ?_) s_h  (Value.retAddr 0)
    intro s_q1_0 w0 w1 w2 w4 w5 w6
    refine pw_l (pc := 47) d53_47 rfl rfl rfl ?_
    obtain rfl := Option.some.inj hm
    refine pw_ri (pc := 48) d53_48 t53 rfl ?_
    exact hE s_q1_0
  exact key _ (fun q => ⟨rfl, rfl, q⟩)
def E_a_findLacks_52 (b : Bool) (L : Nat) (xs : Nat → Int32) (d : Nat) (Q : Option Value → pm_H → Prop) (l0 : Nat) (l1 : Nat) (l2 : Nat) (l4 : Int32) (l5 : Int32) : ((Int32 × pm_H) ⊕ pm_H) → Prop
  | .inl s => s.2.1 = tb_SH → ∀ w3 : Value, PW b L xs d 54 0 0 52 [(Value.ref l0), (Value.ref l1), (Value.ref l2), w3, (Value.int l4), (Value.int l5), (Value.int s.1)] [] s.2 Q
  | .inr e => e.1 = tb_SH → ∀ w3 w6 : Value, PW b L xs d 54 0 0 84 [(Value.ref l0), (Value.ref l1), (Value.ref l2), w3, (Value.int l4), (Value.int l5), w6] [] e Q
def E_a_findLacks_24 (b : Bool) (L : Nat) (xs : Nat → Int32) (d : Nat) (Q : Option Value → pm_H → Prop) (l0 : Nat) (l1 : Nat) (l2 : Nat) (l4 : Int32) : ((Int32 × pm_H) ⊕ pm_H) → Prop
  | .inl s => s.2.1 = tb_SH → ∀ w3 w6 : Value, PW b L xs d 54 0 0 24 [(Value.ref l0), (Value.ref l1), (Value.ref l2), w3, (Value.int l4), (Value.int s.1), w6] [] s.2 Q
  | .inr e => e.1 = tb_SH → ∀ w0 w1 w2 w3 w4 w5 w6 : Value, PW b L xs d 54 0 0 109 [w0, w1, w2, w3, w4, w5, w6] [] e Q
noncomputable def a_findLacks_52 (l0 : Nat) (l1 : Nat) (l2 : Nat) (l4 : Int32) (l5 : Int32) (l6 : Int32) (h : pm_H) : Option ((Int32 × pm_H) ⊕ pm_H) := if (h.2.1 l1 1) ≤ l6 then (some (.inr h)) else ((s_wordOf l1 l6 h).bind fun q2 => (x_bit l4 l6 h).bind fun q3 => (a_addSpare l0 q2 q3 h).bind fun q4 => some (.inl ((l6 + Int32.ofInt 1), q4)))
theorem t_a_findLacks_52 (b : Bool) (L : Nat) (xs : Nat → Int32) (d : Nat) (hd : 5 ≤ d) {Q : Option Value → pm_H → Prop} (h : pm_H) (s_h : h.1 = tb_SH) (l0 : Nat) (l1 : Nat) (l2 : Nat) (l4 : Int32) (l5 : Int32) (l6 : Int32) (w3 : Value) (f_l0 : mi_o l0 1 = true) (f_l1 : mi_o l1 7 = true) (f_l2 : mi_o l2 3 = true) {r : ((Int32 × pm_H) ⊕ pm_H)} (hm : a_findLacks_52 l0 l1 l2 l4 l5 l6 h = some r) (hE : E_a_findLacks_52 b L xs d Q l0 l1 l2 l4 l5 r) : PW b L xs d 54 0 0 52 [(Value.ref l0), (Value.ref l1), (Value.ref l2), w3, (Value.int l4), (Value.int l5), (Value.int l6)] [] h Q := by
  rw [a_findLacks_52] at hm
  refine pw_l (pc := 52) d54_52 rfl rfl rfl ?_
  refine pw_l (pc := 54) d54_54 rfl rfl rfl ?_
  refine pw_gi (pc := 55) d54_55 (k54_140 b) (sho s_h f_l1) f7_1 ?_
  refine pw_ige (pc := 58) (t := 84) d54_58 (by decide) (fun c1 => ?_) (fun c1 => ?_)
  · rw [if_pos c1] at hm
    obtain rfl := Option.some.inj hm
    exact hE s_h  w3 (Value.int l6)
  · rw [if_neg c1] at hm
    refine pw_l (pc := 61) d54_61 rfl rfl rfl ?_
    refine pw_l (pc := 62) d54_62 rfl rfl rfl ?_
    refine pw_l (pc := 63) d54_63 rfl rfl rfl ?_
    obtain ⟨q2, e_q2, hm⟩ := ob_x hm
    refine pw_v (pc := 65) (k := l1) (by omega) d54_65 (k54_145 b) (by decide) m115 (by decide) rfl (sho s_h f_l1) (Nat.le_of_ble_eq_true rfl) (Nat.le_of_ble_eq_true rfl) rfl rfl (T_s_wordOf b L xs (d - 1) (by omega) h s_h l1 l6 f_l1 e_q2) (fun v0 h0 hq => ?_)
    obtain ⟨rfl, hh0, s_q2⟩ := hq
    rw [hh0] at s_q2 ⊢
    simp only [Option.toList_some, List.cons_append, List.nil_append]
    refine pw_l (pc := 68) d54_68 rfl rfl rfl ?_
    refine pw_l (pc := 70) d54_70 rfl rfl rfl ?_
    obtain ⟨q3, e_q3, hm⟩ := ob_x hm
    refine pw_u (pc := 72) (by omega) d54_72 (k54_104 b) (by decide) m34 (Nat.le_of_ble_eq_true rfl) (Nat.le_of_ble_eq_true rfl) (Nat.le_of_ble_eq_true rfl) rfl rfl (T_x_bit b L xs (d - 1) (by omega) h s_h l4 l6  e_q3) (fun v0 h0 hq => ?_)
    obtain ⟨rfl, hh0, s_q3⟩ := hq
    rw [hh0] at s_q3 ⊢
    simp only [Option.toList_some, List.cons_append, List.nil_append]
    obtain ⟨q4, e_q4, hm⟩ := ob_x hm
    refine pw_v (pc := 75) (k := l0) (by omega) d54_75 (k54_181 b) (by decide) m55 (by decide) rfl (sho s_h f_l0) (Nat.le_of_ble_eq_true rfl) (Nat.le_of_ble_eq_true rfl) rfl rfl (T_a_addSpare b L xs (d - 1) (by omega) h s_h l0 q2 q3 f_l0 e_q4) (fun v0 h0 hq => ?_)
    obtain ⟨rfl, hh0, s_q4⟩ := hq
    rw [hh0] at s_q4 ⊢
    simp only [Option.toList_none, List.nil_append]
    refine pw_t (pc := 78) d54_78 rfl rfl rfl rfl ?_
    refine pw_go (pc := 81) (t := 52) d54_81 (by decide) ?_
    obtain rfl := Option.some.inj hm
    exact hE s_q4  w3
noncomputable def a_findLacks_24 (l0 : Nat) (l1 : Nat) (l2 : Nat) (l4 : Int32) (l5 : Int32) (h : pm_H) : Option ((Int32 × pm_H) ⊕ pm_H) := if (1000000 : Int32) ≤ l5 then (some (.inr h)) else ((gO h l0 1 5).bind fun y2 => (r_advance y2 h).bind fun q3 => if q3.1 = 0 then (some (.inr q3.2)) else ((gA q3.2 l0 8 .int).bind fun y5 => (y_fill y5 (Int32.ofInt 0) q3.2).bind fun q6 => (wh (fun s : (Int32 × pm_H) => a_findLacks_52 l0 l1 l2 l4 l5 s.1 s.2) ((Int32.ofInt 0), q6)).bind fun q7 => (x_bit l4 ((Int8.ofInt 8).toInt32) q7).bind fun q8 => (a_addSpare l0 (q7.2.1 l2 4) q8 q7).bind fun q9 => (a_tryLack l0 q9).bind fun q10 => some (.inl ((l5 + Int32.ofInt 1), q10))))
theorem t_a_findLacks_24 (b : Bool) (L : Nat) (xs : Nat → Int32) (d : Nat) (hd : 5 ≤ d) {Q : Option Value → pm_H → Prop} (h : pm_H) (s_h : h.1 = tb_SH) (l0 : Nat) (l1 : Nat) (l2 : Nat) (l4 : Int32) (l5 : Int32) (w3 : Value) (w6 : Value) (f_l0 : mi_o l0 1 = true) (f_l1 : mi_o l1 7 = true) (f_l2 : mi_o l2 3 = true) {r : ((Int32 × pm_H) ⊕ pm_H)} (hm : a_findLacks_24 l0 l1 l2 l4 l5 h = some r) (hE : E_a_findLacks_24 b L xs d Q l0 l1 l2 l4 r) : PW b L xs d 54 0 0 24 [(Value.ref l0), (Value.ref l1), (Value.ref l2), w3, (Value.int l4), (Value.int l5), w6] [] h Q := by
  rw [a_findLacks_24] at hm
  refine pw_l (pc := 24) d54_24 rfl rfl rfl ?_
  refine pw_ci (pc := 26) d54_26 (k54_111 b) ?_
  refine pw_ige (pc := 28) (t := 109) d54_28 (by decide) (fun c1 => ?_) (fun c1 => ?_)
  · rw [if_pos c1] at hm
    obtain rfl := Option.some.inj hm
    exact hE s_h  (Value.ref l0) (Value.ref l1) (Value.ref l2) w3 (Value.int l4) (Value.int l5) w6
  · rw [if_neg c1] at hm
    refine pw_l (pc := 31) d54_31 rfl rfl rfl ?_
    obtain ⟨y2, e_y2, hm⟩ := ob_x hm
    have f_y2 := gO_x e_y2
    refine pw_gr (pc := 32) d54_32 (k54_21 b) (sho s_h f_l0) f1_1 f_y2.1 ?_
    obtain ⟨q3, e_q3, hm⟩ := ob_x hm
    refine pw_v (pc := 35) (k := y2) (by omega) d54_35 (k54_112 b) (by decide) m90 (by decide) rfl (sho s_h f_y2.2) (Nat.le_of_ble_eq_true rfl) (Nat.le_of_ble_eq_true rfl) rfl rfl (T_r_advance b L xs (d - 1) (by omega) h s_h y2 f_y2.2 e_q3) (fun v0 h0 hq => ?_)
    obtain ⟨rfl, hh0, s_q3⟩ := hq
    rw [hh0] at s_q3 ⊢
    simp only [Option.toList_some, List.cons_append, List.nil_append]
    refine pw_zeq (pc := 38) (t := 109) d54_38 (by decide) (fun c4 => ?_) (fun c4 => ?_)
    · rw [if_pos c4] at hm
      obtain rfl := Option.some.inj hm
      exact hE s_q3  (Value.ref l0) (Value.ref l1) (Value.ref l2) w3 (Value.int l4) (Value.int l5) w6
    · rw [if_neg c4] at hm
      refine pw_l (pc := 41) d54_41 rfl rfl rfl ?_
      obtain ⟨y5, e_y5, hm⟩ := ob_x hm
      have f_y5 := gA_x e_y5
      refine pw_gr (pc := 42) d54_42 (k54_45 b) (sho s_q3 f_l0) f1_8 f_y5.1 ?_
      refine pw_s (pc := 45) d54_45 rfl rfl ?_
      obtain ⟨q6, e_q6, hm⟩ := ob_x hm
      refine pw_u (pc := 46) (by omega) d54_46 (k54_175 b) (by decide) m270 (Nat.le_of_ble_eq_true rfl) (Nat.le_of_ble_eq_true rfl) (Nat.le_of_ble_eq_true rfl) rfl rfl (T_y_fill b L xs (d - 1) (by omega) q3.2 s_q3 y5 (Int32.ofInt 0) f_y5.2 e_q6) (fun v0 h0 hq => ?_)
      obtain ⟨rfl, hh0, s_q6⟩ := hq
      rw [hh0] at s_q6 ⊢
      simp only [Option.toList_none, List.nil_append]
      refine pw_s (pc := 49) d54_49 rfl rfl ?_
      refine pw_t (pc := 50) d54_50 rfl rfl rfl rfl ?_
      obtain ⟨q7, e_q7, hm⟩ := ob_x hm
      refine wh_ind e_q7 (fun s : (Int32 × pm_H) => s.2.1 = tb_SH → ∀ w3 : Value, PW b L xs d 54 0 0 52 [(Value.ref l0), (Value.ref l1), (Value.ref l2), w3, (Value.int l4), (Value.int l5), (Value.int s.1)] [] s.2 Q) (fun s s2 hf ih sx w3 => t_a_findLacks_52 b L xs d hd s.2 sx l0 l1 l2 l4 l5 s.1 w3 f_l0 f_l1 f_l2 hf ih) (fun s hf sx w3 => t_a_findLacks_52 b L xs d hd s.2 sx l0 l1 l2 l4 l5 s.1 w3 f_l0 f_l1 f_l2 hf ?_) s_q6  w3
      intro s_q7_0 w3 w6
      refine pw_l (pc := 84) d54_84 rfl rfl rfl ?_
      refine pw_l (pc := 85) d54_85 rfl rfl rfl ?_
      refine pw_gi (pc := 86) d54_86 (k54_89 b) (sho s_q7_0 f_l2) f3_4 ?_
      refine pw_l (pc := 89) d54_89 rfl rfl rfl ?_
      refine pw_s (pc := 91) d54_91 rfl rfl ?_
      obtain ⟨q8, e_q8, hm⟩ := ob_x hm
      refine pw_u (pc := 93) (by omega) d54_93 (k54_104 b) (by decide) m34 (Nat.le_of_ble_eq_true rfl) (Nat.le_of_ble_eq_true rfl) (Nat.le_of_ble_eq_true rfl) rfl rfl (T_x_bit b L xs (d - 1) (by omega) q7 s_q7_0 l4 ((Int8.ofInt 8).toInt32)  e_q8) (fun v0 h0 hq => ?_)
      obtain ⟨rfl, hh0, s_q8⟩ := hq
      rw [hh0] at s_q8 ⊢
      simp only [Option.toList_some, List.cons_append, List.nil_append]
      obtain ⟨q9, e_q9, hm⟩ := ob_x hm
      refine pw_v (pc := 96) (k := l0) (by omega) d54_96 (k54_181 b) (by decide) m55 (by decide) rfl (sho s_q7_0 f_l0) (Nat.le_of_ble_eq_true rfl) (Nat.le_of_ble_eq_true rfl) rfl rfl (T_a_addSpare b L xs (d - 1) (by omega) q7 s_q7_0 l0 (q7.2.1 l2 4) q8 f_l0 e_q9) (fun v0 h0 hq => ?_)
      obtain ⟨rfl, hh0, s_q9⟩ := hq
      rw [hh0] at s_q9 ⊢
      simp only [Option.toList_none, List.nil_append]
      refine pw_l (pc := 99) d54_99 rfl rfl rfl ?_
      obtain ⟨q10, e_q10, hm⟩ := ob_x hm
      refine pw_v (pc := 100) (k := l0) (by omega) d54_100 (k54_185 b) (by decide) m56 (by decide) rfl (sho s_q9 f_l0) (Nat.le_of_ble_eq_true rfl) (Nat.le_of_ble_eq_true rfl) rfl rfl (T_a_tryLack b L xs (d - 1) (by omega) q9 s_q9 l0 f_l0 e_q10) (fun v0 h0 hq => ?_)
      obtain ⟨rfl, hh0, s_q10⟩ := hq
      rw [hh0] at s_q10 ⊢
      simp only [Option.toList_none, List.nil_append]
      refine pw_t (pc := 103) d54_103 rfl rfl rfl rfl ?_
      refine pw_go (pc := 106) (t := 24) d54_106 (by decide) ?_
      obtain rfl := Option.some.inj hm
      exact hE s_q10  w3 w6
noncomputable def a_findLacks (l0 : Nat) (l1 : Nat) (l2 : Nat) (l3 : Int32) (h : pm_H) : Option pm_H := bd (pm_setI h l0 5 (Int32.ofInt 3)) fun h1 => (n_heard l2 l1 h1).bind fun q2 => (gO h1 l0 1 5).bind fun y3 => (r_begin y3 l1 l3 h1).bind fun q4 => (wh (fun s : (Int32 × pm_H) => a_findLacks_24 l0 l1 l2 q2 s.1 s.2) ((Int32.ofInt 0), q4)).bind fun q5 => some q5
theorem T_a_findLacks (b : Bool) (L : Nat) (xs : Nat → Int32) (d : Nat) (hd : 5 ≤ d) (h : pm_H) (s_h : h.1 = tb_SH) (l0 : Nat) (l1 : Nat) (l2 : Nat) (l3 : Int32) (f_l0 : mi_o l0 1 = true) (f_l1 : mi_o l1 7 = true) (f_l2 : mi_o l2 3 = true) {r : pm_H} (hm : a_findLacks l0 l1 l2 l3 h = some r) : PC b L xs d 54 [(Value.ref l0), (Value.ref l1), (Value.ref l2), (Value.int l3)] h (fun (v0 : Option Value) (h2 : pm_H) => v0 = none ∧ h2 = r ∧ h2.1 = tb_SH) := by
  refine pc_in e54 (ls0 := [(Value.ref l0), (Value.ref l1), (Value.ref l2), (Value.int l3), Value.retAddr 0, Value.retAddr 0, Value.retAddr 0]) rfl ?_
  have key : ∀ (Q : Option Value → pm_H → Prop), (r.1 = tb_SH → Q none r) → PW b L xs d 54 0 0 0 [(Value.ref l0), (Value.ref l1), (Value.ref l2), (Value.int l3), Value.retAddr 0, Value.retAddr 0, Value.retAddr 0] [] h Q := by
    intro Q hE
    rw [a_findLacks] at hm
    refine pw_l (pc := 0) d54_0 rfl rfl rfl ?_
    refine pw_s (pc := 1) d54_1 rfl rfl ?_
    refine pw_pi (pc := 2) d54_2 (k54_36 b) (sho s_h f_l0) p54_1_5 ?_
    obtain ⟨h1, e_h1, hm⟩ := bd_x hm
    rw [e_h1]
    have s_h1 : h1.1 = tb_SH := by rw [← e_h1]; exact s_h
    refine pw_l (pc := 5) d54_5 rfl rfl rfl ?_
    refine pw_l (pc := 6) d54_6 rfl rfl rfl ?_
    obtain ⟨q2, e_q2, hm⟩ := ob_x hm
    refine pw_v (pc := 7) (k := l2) (by omega) d54_7 (k54_92 b) (by decide) m81 (by decide) rfl (sho s_h1 f_l2) (Nat.le_of_ble_eq_true rfl) (Nat.le_of_ble_eq_true rfl) rfl rfl (T_n_heard b L xs (d - 1) (by omega) h1 s_h1 l2 l1 f_l2 f_l1 e_q2) (fun v0 h0 hq => ?_)
    obtain ⟨rfl, hh0, s_q2⟩ := hq
    rw [hh0] at s_q2 ⊢
    simp only [Option.toList_some, List.cons_append, List.nil_append]
    refine pw_t (pc := 10) d54_10 rfl rfl rfl rfl ?_
    refine pw_l (pc := 12) d54_12 rfl rfl rfl ?_
    obtain ⟨y3, e_y3, hm⟩ := ob_x hm
    have f_y3 := gO_x e_y3
    refine pw_gr (pc := 13) d54_13 (k54_21 b) (sho s_h1 f_l0) f1_1 f_y3.1 ?_
    refine pw_l (pc := 16) d54_16 rfl rfl rfl ?_
    refine pw_l (pc := 17) d54_17 rfl rfl rfl ?_
    obtain ⟨q4, e_q4, hm⟩ := ob_x hm
    refine pw_v (pc := 18) (k := y3) (by omega) d54_18 (k54_107 b) (by decide) m87 (by decide) rfl (sho s_h1 f_y3.2) (Nat.le_of_ble_eq_true rfl) (Nat.le_of_ble_eq_true rfl) rfl rfl (T_r_begin b L xs (d - 1) (by omega) h1 s_h1 y3 l1 l3 f_y3.2 f_l1 e_q4) (fun v0 h0 hq => ?_)
    obtain ⟨rfl, hh0, s_q4⟩ := hq
    rw [hh0] at s_q4 ⊢
    simp only [Option.toList_none, List.nil_append]
    refine pw_s (pc := 21) d54_21 rfl rfl ?_
    refine pw_t (pc := 22) d54_22 rfl rfl rfl rfl ?_
    obtain ⟨q5, e_q5, hm⟩ := ob_x hm
    refine wh_ind e_q5 (fun s : (Int32 × pm_H) => s.2.1 = tb_SH → ∀ w3 w6 : Value, PW b L xs d 54 0 0 24 [(Value.ref l0), (Value.ref l1), (Value.ref l2), w3, (Value.int q2), (Value.int s.1), w6] [] s.2 Q) (fun s s2 hf ih sx w3 w6 => t_a_findLacks_24 b L xs d hd s.2 sx l0 l1 l2 q2 s.1 w3 w6 f_l0 f_l1 f_l2 hf ih) (fun s hf sx w3 w6 => t_a_findLacks_24 b L xs d hd s.2 sx l0 l1 l2 q2 s.1 w3 w6 f_l0 f_l1 f_l2 hf ?_) s_q4  (Value.int l3) (Value.retAddr 0)
    intro s_q5_0 w0 w1 w2 w3 w4 w5 w6
    obtain rfl := Option.some.inj hm
    refine pw_rv (pc := 109) d54_109 t54 ?_
    exact hE s_q5_0
  exact key _ (fun q => ⟨rfl, rfl, q⟩)
def E_a_findNearest_15 (b : Bool) (L : Nat) (xs : Nat → Int32) (d : Nat) (Q : Option Value → pm_H → Prop) (l0 : Nat) (l1 : Nat) (l2 : Nat) (l3 : Int32) : ((Int32 × pm_H) ⊕ pm_H) → Prop
  | .inl s => s.2.1 = tb_SH → ∀ w5 : Value, PW b L xs d 58 0 0 15 [(Value.ref l0), (Value.ref l1), (Value.ref l2), (Value.int l3), (Value.int s.1), w5] [] s.2 Q
  | .inr e => e.1 = tb_SH → ∀ w0 w1 w2 w3 w4 w5 : Value, PW b L xs d 58 0 0 69 [w0, w1, w2, w3, w4, w5] [] e Q
noncomputable def a_findNearest_51 (l0 : Nat) (l1 : Nat) (l2 : Nat) (l3 : Int32) (l4 : Int32) (l5 : Int32) (h : pm_H) : Option ((Int32 × pm_H) ⊕ pm_H) := bd (pm_setI h l0 9 l4) fun h1 => bd (pm_setI h1 l0 10 l5) fun h2 => some (.inl ((l4 + Int32.ofInt 1), h2))
theorem t_a_findNearest_51 (b : Bool) (L : Nat) (xs : Nat → Int32) (d : Nat) (hd : 3 ≤ d) {Q : Option Value → pm_H → Prop} (h : pm_H) (s_h : h.1 = tb_SH) (l0 : Nat) (l1 : Nat) (l2 : Nat) (l3 : Int32) (l4 : Int32) (l5 : Int32) (f_l0 : mi_o l0 1 = true) (f_l1 : mi_o l1 7 = true) (f_l2 : mi_a l2 .int = true) {r : ((Int32 × pm_H) ⊕ pm_H)} (hm : a_findNearest_51 l0 l1 l2 l3 l4 l5 h = some r) (hE : E_a_findNearest_15 b L xs d Q l0 l1 l2 l3 r) : PW b L xs d 58 0 0 51 [(Value.ref l0), (Value.ref l1), (Value.ref l2), (Value.int l3), (Value.int l4), (Value.int l5)] [] h Q := by
  rw [a_findNearest_51] at hm
  refine pw_l (pc := 51) d58_51 rfl rfl rfl ?_
  refine pw_l (pc := 52) d58_52 rfl rfl rfl ?_
  refine pw_pi (pc := 54) d58_54 (k58_48 b) (sho s_h f_l0) p58_1_9 ?_
  obtain ⟨h1, e_h1, hm⟩ := bd_x hm
  rw [e_h1]
  have s_h1 : h1.1 = tb_SH := by rw [← e_h1]; exact s_h
  refine pw_l (pc := 57) d58_57 rfl rfl rfl ?_
  refine pw_l (pc := 58) d58_58 rfl rfl rfl ?_
  refine pw_pi (pc := 60) d58_60 (k58_51 b) (sho s_h1 f_l0) p58_1_10 ?_
  obtain ⟨h2, e_h2, hm⟩ := bd_x hm
  rw [e_h2]
  have s_h2 : h2.1 = tb_SH := by rw [← e_h2]; exact s_h1
  refine pw_t (pc := 63) d58_63 rfl rfl rfl rfl ?_
  refine pw_go (pc := 66) (t := 15) d58_66 (by decide) ?_
  obtain rfl := Option.some.inj hm
  exact hE s_h2  (Value.int l5)
noncomputable def a_findNearest_15 (l0 : Nat) (l1 : Nat) (l2 : Nat) (l3 : Int32) (l4 : Int32) (h : pm_H) : Option ((Int32 × pm_H) ⊕ pm_H) := if (h.2.1 l1 2) ≤ l4 then (some (.inr h)) else ((a_changesTo l0 l1 l4 l2 l3 h).bind fun q2 => if (q2.2.2.1 l0 9) < 0 then (a_findNearest_51 l0 l1 l2 l3 l4 q2.1 q2.2) else (if (q2.2.2.1 l0 10) ≤ q2.1 then (some (.inl ((l4 + Int32.ofInt 1), q2.2))) else (a_findNearest_51 l0 l1 l2 l3 l4 q2.1 q2.2)))
theorem t_a_findNearest_15 (b : Bool) (L : Nat) (xs : Nat → Int32) (d : Nat) (hd : 3 ≤ d) {Q : Option Value → pm_H → Prop} (h : pm_H) (s_h : h.1 = tb_SH) (l0 : Nat) (l1 : Nat) (l2 : Nat) (l3 : Int32) (l4 : Int32) (w5 : Value) (f_l0 : mi_o l0 1 = true) (f_l1 : mi_o l1 7 = true) (f_l2 : mi_a l2 .int = true) {r : ((Int32 × pm_H) ⊕ pm_H)} (hm : a_findNearest_15 l0 l1 l2 l3 l4 h = some r) (hE : E_a_findNearest_15 b L xs d Q l0 l1 l2 l3 r) : PW b L xs d 58 0 0 15 [(Value.ref l0), (Value.ref l1), (Value.ref l2), (Value.int l3), (Value.int l4), w5] [] h Q := by
  rw [a_findNearest_15] at hm
  refine pw_l (pc := 15) d58_15 rfl rfl rfl ?_
  refine pw_l (pc := 17) d58_17 rfl rfl rfl ?_
  refine pw_gi (pc := 18) d58_18 (k58_156 b) (sho s_h f_l1) f7_2 ?_
  refine pw_ige (pc := 21) (t := 69) d58_21 (by decide) (fun c1 => ?_) (fun c1 => ?_)
  · rw [if_pos c1] at hm
    obtain rfl := Option.some.inj hm
    exact hE s_h  (Value.ref l0) (Value.ref l1) (Value.ref l2) (Value.int l3) (Value.int l4) w5
  · rw [if_neg c1] at hm
    refine pw_l (pc := 24) d58_24 rfl rfl rfl ?_
    refine pw_l (pc := 25) d58_25 rfl rfl rfl ?_
    refine pw_l (pc := 26) d58_26 rfl rfl rfl ?_
    refine pw_l (pc := 28) d58_28 rfl rfl rfl ?_
    refine pw_l (pc := 29) d58_29 rfl rfl rfl ?_
    obtain ⟨q2, e_q2, hm⟩ := ob_x hm
    refine pw_v (pc := 30) (k := l0) (by omega) d58_30 (k58_196 b) (by decide) m59 (by decide) rfl (sho s_h f_l0) (Nat.le_of_ble_eq_true rfl) (Nat.le_of_ble_eq_true rfl) rfl rfl (T_a_changesTo b L xs (d - 1) (by omega) h s_h l0 l1 l4 l2 l3 f_l0 f_l1 f_l2 e_q2) (fun v0 h0 hq => ?_)
    obtain ⟨rfl, hh0, s_q2⟩ := hq
    rw [hh0] at s_q2 ⊢
    simp only [Option.toList_some, List.cons_append, List.nil_append]
    refine pw_t (pc := 33) d58_33 rfl rfl rfl rfl ?_
    refine pw_l (pc := 35) d58_35 rfl rfl rfl ?_
    refine pw_gi (pc := 36) d58_36 (k58_48 b) (sho s_q2 f_l0) f1_9 ?_
    refine pw_zlt (pc := 39) (t := 51) d58_39 (by decide) (fun c3 => ?_) (fun c3 => ?_)
    · rw [if_pos c3] at hm
      exact t_a_findNearest_51 b L xs d hd q2.2 s_q2 l0 l1 l2 l3 l4 q2.1  f_l0 f_l1 f_l2  hm hE
    · rw [if_neg c3] at hm
      refine pw_l (pc := 42) d58_42 rfl rfl rfl ?_
      refine pw_l (pc := 44) d58_44 rfl rfl rfl ?_
      refine pw_gi (pc := 45) d58_45 (k58_51 b) (sho s_q2 f_l0) f1_10 ?_
      refine pw_ige (pc := 48) (t := 63) d58_48 (by decide) (fun c4 => ?_) (fun c4 => ?_)
      · rw [if_pos c4] at hm
        refine pw_t (pc := 63) d58_63 rfl rfl rfl rfl ?_
        refine pw_go (pc := 66) (t := 15) d58_66 (by decide) ?_
        obtain rfl := Option.some.inj hm
        exact hE s_q2  (Value.int q2.1)
      · rw [if_neg c4] at hm
        exact t_a_findNearest_51 b L xs d hd q2.2 s_q2 l0 l1 l2 l3 l4 q2.1  f_l0 f_l1 f_l2  hm hE
noncomputable def a_findNearest (l0 : Nat) (l1 : Nat) (l2 : Nat) (l3 : Int32) (h : pm_H) : Option pm_H := bd (pm_setI h l0 9 ((Int8.ofInt (-2)).toInt32)) fun h1 => bd (pm_setI h1 l0 10 ((Int8.ofInt (-2)).toInt32)) fun h2 => (wh (fun s : (Int32 × pm_H) => a_findNearest_15 l0 l1 l2 l3 s.1 s.2) ((Int32.ofInt 0), h2)).bind fun q3 => some q3
theorem T_a_findNearest (b : Bool) (L : Nat) (xs : Nat → Int32) (d : Nat) (hd : 3 ≤ d) (h : pm_H) (s_h : h.1 = tb_SH) (l0 : Nat) (l1 : Nat) (l2 : Nat) (l3 : Int32) (f_l0 : mi_o l0 1 = true) (f_l1 : mi_o l1 7 = true) (f_l2 : mi_a l2 .int = true) {r : pm_H} (hm : a_findNearest l0 l1 l2 l3 h = some r) : PC b L xs d 58 [(Value.ref l0), (Value.ref l1), (Value.ref l2), (Value.int l3)] h (fun (v0 : Option Value) (h2 : pm_H) => v0 = none ∧ h2 = r ∧ h2.1 = tb_SH) := by
  refine pc_in e58 (ls0 := [(Value.ref l0), (Value.ref l1), (Value.ref l2), (Value.int l3), Value.retAddr 0, Value.retAddr 0]) rfl ?_
  have key : ∀ (Q : Option Value → pm_H → Prop), (r.1 = tb_SH → Q none r) → PW b L xs d 58 0 0 0 [(Value.ref l0), (Value.ref l1), (Value.ref l2), (Value.int l3), Value.retAddr 0, Value.retAddr 0] [] h Q := by
    intro Q hE
    rw [a_findNearest] at hm
    refine pw_l (pc := 0) d58_0 rfl rfl rfl ?_
    refine pw_s (pc := 1) d58_1 rfl rfl ?_
    refine pw_pi (pc := 3) d58_3 (k58_48 b) (sho s_h f_l0) p58_1_9 ?_
    obtain ⟨h1, e_h1, hm⟩ := bd_x hm
    rw [e_h1]
    have s_h1 : h1.1 = tb_SH := by rw [← e_h1]; exact s_h
    refine pw_l (pc := 6) d58_6 rfl rfl rfl ?_
    refine pw_s (pc := 7) d58_7 rfl rfl ?_
    refine pw_pi (pc := 9) d58_9 (k58_51 b) (sho s_h1 f_l0) p58_1_10 ?_
    obtain ⟨h2, e_h2, hm⟩ := bd_x hm
    rw [e_h2]
    have s_h2 : h2.1 = tb_SH := by rw [← e_h2]; exact s_h1
    refine pw_s (pc := 12) d58_12 rfl rfl ?_
    refine pw_t (pc := 13) d58_13 rfl rfl rfl rfl ?_
    obtain ⟨q3, e_q3, hm⟩ := ob_x hm
    refine wh_ind e_q3 (fun s : (Int32 × pm_H) => s.2.1 = tb_SH → ∀ w5 : Value, PW b L xs d 58 0 0 15 [(Value.ref l0), (Value.ref l1), (Value.ref l2), (Value.int l3), (Value.int s.1), w5] [] s.2 Q) (fun s s2 hf ih sx w5 => t_a_findNearest_15 b L xs d hd s.2 sx l0 l1 l2 l3 s.1 w5 f_l0 f_l1 f_l2 hf ih) (fun s hf sx w5 => t_a_findNearest_15 b L xs d hd s.2 sx l0 l1 l2 l3 s.1 w5 f_l0 f_l1 f_l2 hf ?_) s_h2  (Value.retAddr 0)
    intro s_q3_0 w0 w1 w2 w3 w4 w5
    obtain rfl := Option.some.inj hm
    refine pw_rv (pc := 69) d58_69 t58 ?_
    exact hE s_q3_0
  exact key _ (fun q => ⟨rfl, rfl, q⟩)
def E_a_gather_38 (b : Bool) (L : Nat) (xs : Nat → Int32) (d : Nat) (Q : Option Value → pm_H → Prop) (l0 : Nat) (l1 : Nat) (l3 : Int32) : ((Int32 × Int32 × pm_H) ⊕ (Int32 × pm_H)) → Prop
  | .inl s => s.2.2.1 = tb_SH → ∀ w2 w6 : Value, PW b L xs d 60 0 0 38 [(Value.ref l0), (Value.ref l1), w2, (Value.int l3), (Value.int s.1), (Value.int s.2.1), w6] [] s.2.2 Q
  | .inr e => e.2.1 = tb_SH → ∀ w1 w2 w5 w6 : Value, PW b L xs d 60 0 0 116 [(Value.ref l0), w1, w2, (Value.int l3), (Value.int e.1), w5, w6] [] e.2 Q
noncomputable def a_gather_153 (z0 : Int32) (z1 : Nat) (h : pm_H) : Option pm_H := bd (pm_setI h z1 13 z0) fun h1 => some h1
theorem t_a_gather_153 (b : Bool) (L : Nat) (xs : Nat → Int32) (d : Nat) (hd : 4 ≤ d) {Q : Option Value → pm_H → Prop} (h : pm_H) (s_h : h.1 = tb_SH) (z0 : Int32) (z1 : Nat) (w0 : Value) (w1 : Value) (w2 : Value) (w3 : Value) (w4 : Value) (w5 : Value) (w6 : Value) (f_z1 : mi_o z1 1 = true) {r : pm_H} (hm : a_gather_153 z0 z1 h = some r) (hE : r.1 = tb_SH → Q none r) : PW b L xs d 60 0 0 153 [w0, w1, w2, w3, w4, w5, w6] [(Value.int z0), (Value.ref z1)] h Q := by
  rw [a_gather_153] at hm
  refine pw_pi (pc := 153) d60_153 (k60_60 b) (sho s_h f_z1) p60_1_13 ?_
  obtain ⟨h1, e_h1, hm⟩ := bd_x hm
  rw [e_h1]
  have s_h1 : h1.1 = tb_SH := by rw [← e_h1]; exact s_h
  obtain rfl := Option.some.inj hm
  refine pw_rv (pc := 156) d60_156 t60 ?_
  exact hE s_h1
noncomputable def a_gather_134 (l0 : Nat) (z0 : Int32) (z1 : Nat) (h : pm_H) : Option pm_H := bd (pm_setI h z1 14 z0) fun h1 => if ¬ (h1.2.1 l0 12) = 0 then (a_gather_153 (h1.2.1 l0 13) l0 h1) else (a_gather_153 (Int32.ofInt 0) l0 h1)
theorem t_a_gather_134 (b : Bool) (L : Nat) (xs : Nat → Int32) (d : Nat) (hd : 4 ≤ d) {Q : Option Value → pm_H → Prop} (h : pm_H) (s_h : h.1 = tb_SH) (l0 : Nat) (z0 : Int32) (z1 : Nat) (w1 : Value) (w2 : Value) (w3 : Value) (w4 : Value) (w5 : Value) (w6 : Value) (f_l0 : mi_o l0 1 = true) (f_z1 : mi_o z1 1 = true) {r : pm_H} (hm : a_gather_134 l0 z0 z1 h = some r) (hE : r.1 = tb_SH → Q none r) : PW b L xs d 60 0 0 134 [(Value.ref l0), w1, w2, w3, w4, w5, w6] [(Value.int z0), (Value.ref z1)] h Q := by
  rw [a_gather_134] at hm
  refine pw_pi (pc := 134) d60_134 (k60_63 b) (sho s_h f_z1) p60_1_14 ?_
  obtain ⟨h1, e_h1, hm⟩ := bd_x hm
  rw [e_h1]
  have s_h1 : h1.1 = tb_SH := by rw [← e_h1]; exact s_h
  refine pw_l (pc := 137) d60_137 rfl rfl rfl ?_
  refine pw_l (pc := 138) d60_138 rfl rfl rfl ?_
  refine pw_gi (pc := 139) d60_139 (k60_57 b) (sho s_h1 f_l0) f1_12 ?_
  refine pw_zne (pc := 142) (t := 149) d60_142 (by decide) (fun c2 => ?_) (fun c2 => ?_)
  · rw [if_pos c2] at hm
    refine pw_l (pc := 149) d60_149 rfl rfl rfl ?_
    refine pw_gi (pc := 150) d60_150 (k60_60 b) (sho s_h1 f_l0) f1_13 ?_
    exact t_a_gather_153 b L xs d hd h1 s_h1 (h1.2.1 l0 13) l0 (Value.ref l0) w1 w2 w3 w4 w5 w6  f_l0 hm hE
  · rw [if_neg c2] at hm
    refine pw_s (pc := 145) d60_145 rfl rfl ?_
    refine pw_go (pc := 146) (t := 153) d60_146 (by decide) ?_
    exact t_a_gather_153 b L xs d hd h1 s_h1 (Int32.ofInt 0) l0 (Value.ref l0) w1 w2 w3 w4 w5 w6  f_l0 hm hE
noncomputable def a_gather_38 (l0 : Nat) (l1 : Nat) (l3 : Int32) (l4 : Int32) (l5 : Int32) (h : pm_H) : Option ((Int32 × Int32 × pm_H) ⊕ (Int32 × pm_H)) := if (Int16.ofInt 256).toInt32 ≤ l5 then (some (.inr (l4, h))) else (if ¬ (l5 &&& (l3 ^^^ (Int32.ofInt (-1)))) = 0 then (some (.inl (l4, (l5 + Int32.ofInt 1), h))) else ((gO h l0 0 2).bind fun y3 => (c_orders y3 (Int32.ofInt (-1)) l5 h).bind fun q4 => (w_agrees l1 q4.1 q4.2).bind fun q5 => if q5 = 0 then (some (.inl (l4, (l5 + Int32.ofInt 1), q4.2))) else (bd (pm_setI q4.2 l0 12 ((q4.2.2.1 l0 12) + (Int32.ofInt 1))) fun h7 => bd (pm_setI h7 l0 13 ((h7.2.1 l0 13) &&& l5)) fun h8 => (a_noteSaid l0 q4.1 h8).bind fun q9 => some (.inl ((l4 ||| l5), (l5 + Int32.ofInt 1), q9)))))
theorem t_a_gather_38 (b : Bool) (L : Nat) (xs : Nat → Int32) (d : Nat) (hd : 4 ≤ d) {Q : Option Value → pm_H → Prop} (h : pm_H) (s_h : h.1 = tb_SH) (l0 : Nat) (l1 : Nat) (l3 : Int32) (l4 : Int32) (l5 : Int32) (w2 : Value) (w6 : Value) (f_l0 : mi_o l0 1 = true) (f_l1 : mi_o l1 9 = true) {r : ((Int32 × Int32 × pm_H) ⊕ (Int32 × pm_H))} (hm : a_gather_38 l0 l1 l3 l4 l5 h = some r) (hE : E_a_gather_38 b L xs d Q l0 l1 l3 r) : PW b L xs d 60 0 0 38 [(Value.ref l0), (Value.ref l1), w2, (Value.int l3), (Value.int l4), (Value.int l5), w6] [] h Q := by
  rw [a_gather_38] at hm
  refine pw_l (pc := 38) d60_38 rfl rfl rfl ?_
  refine pw_s (pc := 40) d60_40 rfl rfl ?_
  refine pw_ige (pc := 43) (t := 116) d60_43 (by decide) (fun c1 => ?_) (fun c1 => ?_)
  · rw [if_pos c1] at hm
    obtain rfl := Option.some.inj hm
    exact hE s_h  (Value.ref l1) w2 (Value.int l5) w6
  · rw [if_neg c1] at hm
    refine pw_l (pc := 46) d60_46 rfl rfl rfl ?_
    refine pw_l (pc := 48) d60_48 rfl rfl rfl ?_
    refine pw_s (pc := 49) d60_49 rfl rfl ?_
    refine pw_s (pc := 50) d60_50 rfl rfl ?_
    refine pw_s (pc := 51) d60_51 rfl rfl ?_
    refine pw_zne (pc := 52) (t := 110) d60_52 (by decide) (fun c2 => ?_) (fun c2 => ?_)
    · rw [if_pos c2] at hm
      refine pw_t (pc := 110) d60_110 rfl rfl rfl rfl ?_
      refine pw_go (pc := 113) (t := 38) d60_113 (by decide) ?_
      obtain rfl := Option.some.inj hm
      exact hE s_h  w2 w6
    · rw [if_neg c2] at hm
      refine pw_l (pc := 55) d60_55 rfl rfl rfl ?_
      obtain ⟨y3, e_y3, hm⟩ := ob_x hm
      have f_y3 := gO_x e_y3
      refine pw_gr (pc := 56) d60_56 (k60_12 b) (sho s_h f_l0) f1_0 f_y3.1 ?_
      refine pw_s (pc := 59) d60_59 rfl rfl ?_
      refine pw_l (pc := 60) d60_60 rfl rfl rfl ?_
      obtain ⟨q4, e_q4, hm⟩ := ob_x hm
      refine pw_v (pc := 62) (k := y3) (by omega) d60_62 (k60_96 b) (by decide) m69 (by decide) rfl (sho s_h f_y3.2) (Nat.le_of_ble_eq_true rfl) (Nat.le_of_ble_eq_true rfl) rfl rfl (T_c_orders b L xs (d - 1) (by omega) h s_h y3 (Int32.ofInt (-1)) l5 f_y3.2 e_q4) (fun v0 h0 hq => ?_)
      obtain ⟨rfl, hh0, s_q4⟩ := hq
      rw [hh0] at s_q4 ⊢
      simp only [Option.toList_some, List.cons_append, List.nil_append]
      refine pw_t (pc := 65) d60_65 rfl rfl rfl rfl ?_
      refine pw_l (pc := 67) d60_67 rfl rfl rfl ?_
      refine pw_l (pc := 68) d60_68 rfl rfl rfl ?_
      obtain ⟨q5, e_q5, hm⟩ := ob_x hm
      refine pw_v (pc := 70) (k := l1) (by omega) d60_70 (k60_218 b) (by decide) m146 (by decide) rfl (sho s_q4 f_l1) (Nat.le_of_ble_eq_true rfl) (Nat.le_of_ble_eq_true rfl) rfl rfl (T_w_agrees b L xs (d - 1) (by omega) q4.2 s_q4 l1 q4.1 f_l1 e_q5) (fun v0 h0 hq => ?_)
      obtain ⟨rfl, hh0, s_q5⟩ := hq
      rw [hh0] at s_q5 ⊢
      simp only [Option.toList_some, List.cons_append, List.nil_append]
      refine pw_zeq (pc := 73) (t := 110) d60_73 (by decide) (fun c6 => ?_) (fun c6 => ?_)
      · rw [if_pos c6] at hm
        refine pw_t (pc := 110) d60_110 rfl rfl rfl rfl ?_
        refine pw_go (pc := 113) (t := 38) d60_113 (by decide) ?_
        obtain rfl := Option.some.inj hm
        exact hE s_q4  w2 (Value.int q4.1)
      · rw [if_neg c6] at hm
        refine pw_l (pc := 76) d60_76 rfl rfl rfl ?_
        refine pw_s (pc := 77) d60_77 rfl rfl ?_
        refine pw_gi (pc := 78) d60_78 (k60_57 b) (sho s_q4 f_l0) f1_12 ?_
        refine pw_s (pc := 81) d60_81 rfl rfl ?_
        refine pw_s (pc := 82) d60_82 rfl rfl ?_
        refine pw_pi (pc := 83) d60_83 (k60_57 b) (sho s_q4 f_l0) p60_1_12 ?_
        obtain ⟨h7, e_h7, hm⟩ := bd_x hm
        rw [e_h7]
        have s_h7 : h7.1 = tb_SH := by rw [← e_h7]; exact s_q4
        refine pw_l (pc := 86) d60_86 rfl rfl rfl ?_
        refine pw_s (pc := 87) d60_87 rfl rfl ?_
        refine pw_gi (pc := 88) d60_88 (k60_60 b) (sho s_h7 f_l0) f1_13 ?_
        refine pw_l (pc := 91) d60_91 rfl rfl rfl ?_
        refine pw_s (pc := 93) d60_93 rfl rfl ?_
        refine pw_pi (pc := 94) d60_94 (k60_60 b) (sho s_h7 f_l0) p60_1_13 ?_
        obtain ⟨h8, e_h8, hm⟩ := bd_x hm
        rw [e_h8]
        have s_h8 : h8.1 = tb_SH := by rw [← e_h8]; exact s_h7
        refine pw_l (pc := 97) d60_97 rfl rfl rfl ?_
        refine pw_l (pc := 99) d60_99 rfl rfl rfl ?_
        refine pw_s (pc := 101) d60_101 rfl rfl ?_
        refine pw_t (pc := 102) d60_102 rfl rfl rfl rfl ?_
        refine pw_l (pc := 104) d60_104 rfl rfl rfl ?_
        refine pw_l (pc := 105) d60_105 rfl rfl rfl ?_
        obtain ⟨q9, e_q9, hm⟩ := ob_x hm
        refine pw_v (pc := 107) (k := l0) (by omega) d60_107 (k60_221 b) (by decide) m61 (by decide) rfl (sho s_h8 f_l0) (Nat.le_of_ble_eq_true rfl) (Nat.le_of_ble_eq_true rfl) rfl rfl (T_a_noteSaid b L xs (d - 1) (by omega) h8 s_h8 l0 q4.1 f_l0 e_q9) (fun v0 h0 hq => ?_)
        obtain ⟨rfl, hh0, s_q9⟩ := hq
        rw [hh0] at s_q9 ⊢
        simp only [Option.toList_none, List.nil_append]
        refine pw_t (pc := 110) d60_110 rfl rfl rfl rfl ?_
        refine pw_go (pc := 113) (t := 38) d60_113 (by decide) ?_
        obtain rfl := Option.some.inj hm
        exact hE s_q9  w2 (Value.int q4.1)
noncomputable def a_gather (l0 : Nat) (l1 : Nat) (h : pm_H) : Option pm_H := (gO h l1 0 7).bind fun y1 => (gO h l1 1 3).bind fun y2 => (n_living y2 y1 h).bind fun q3 => bd (pm_setI h l0 12 (Int32.ofInt 0)) fun h4 => bd (pm_setI h4 l0 13 q3) fun h5 => (gA h5 l0 15 .int).bind fun y6 => (y_fill y6 (Int32.ofInt 0) h5).bind fun q7 => (wh (fun s : (Int32 × Int32 × pm_H) => a_gather_38 l0 l1 q3 s.1 s.2.1 s.2.2) ((Int32.ofInt 0), (Int32.ofInt 0), q7)).bind fun q8 => if ¬ (q8.2.2.1 l0 12) = 0 then (a_gather_134 l0 (q3 &&& (q8.1 ^^^ (Int32.ofInt (-1)))) l0 q8.2) else (a_gather_134 l0 (Int32.ofInt 0) l0 q8.2)
theorem T_a_gather (b : Bool) (L : Nat) (xs : Nat → Int32) (d : Nat) (hd : 4 ≤ d) (h : pm_H) (s_h : h.1 = tb_SH) (l0 : Nat) (l1 : Nat) (f_l0 : mi_o l0 1 = true) (f_l1 : mi_o l1 9 = true) {r : pm_H} (hm : a_gather l0 l1 h = some r) : PC b L xs d 60 [(Value.ref l0), (Value.ref l1)] h (fun (v0 : Option Value) (h2 : pm_H) => v0 = none ∧ h2 = r ∧ h2.1 = tb_SH) := by
  refine pc_in e60 (ls0 := [(Value.ref l0), (Value.ref l1), Value.retAddr 0, Value.retAddr 0, Value.retAddr 0, Value.retAddr 0, Value.retAddr 0]) rfl ?_
  have key : ∀ (Q : Option Value → pm_H → Prop), (r.1 = tb_SH → Q none r) → PW b L xs d 60 0 0 0 [(Value.ref l0), (Value.ref l1), Value.retAddr 0, Value.retAddr 0, Value.retAddr 0, Value.retAddr 0, Value.retAddr 0] [] h Q := by
    intro Q hE
    rw [a_gather] at hm
    refine pw_l (pc := 0) d60_0 rfl rfl rfl ?_
    obtain ⟨y1, e_y1, hm⟩ := ob_x hm
    have f_y1 := gO_x e_y1
    refine pw_gr (pc := 1) d60_1 (k60_209 b) (sho s_h f_l1) f9_0 f_y1.1 ?_
    refine pw_t (pc := 4) d60_4 rfl rfl rfl rfl ?_
    refine pw_l (pc := 5) d60_5 rfl rfl rfl ?_
    obtain ⟨y2, e_y2, hm⟩ := ob_x hm
    have f_y2 := gO_x e_y2
    refine pw_gr (pc := 6) d60_6 (k60_215 b) (sho s_h f_l1) f9_1 f_y2.1 ?_
    refine pw_l (pc := 9) d60_9 rfl rfl rfl ?_
    obtain ⟨q3, e_q3, hm⟩ := ob_x hm
    refine pw_v (pc := 10) (k := y2) (by omega) d60_10 (k60_161 b) (by decide) m79 (by decide) rfl (sho s_h f_y2.2) (Nat.le_of_ble_eq_true rfl) (Nat.le_of_ble_eq_true rfl) rfl rfl (T_n_living b L xs (d - 1) (by omega) h s_h y2 y1 f_y2.2 f_y1.2 e_q3) (fun v0 h0 hq => ?_)
    obtain ⟨rfl, hh0, s_q3⟩ := hq
    rw [hh0] at s_q3 ⊢
    simp only [Option.toList_some, List.cons_append, List.nil_append]
    refine pw_t (pc := 13) d60_13 rfl rfl rfl rfl ?_
    refine pw_s (pc := 14) d60_14 rfl rfl ?_
    refine pw_t (pc := 15) d60_15 rfl rfl rfl rfl ?_
    refine pw_l (pc := 17) d60_17 rfl rfl rfl ?_
    refine pw_s (pc := 18) d60_18 rfl rfl ?_
    refine pw_pi (pc := 19) d60_19 (k60_57 b) (sho s_h f_l0) p60_1_12 ?_
    obtain ⟨h4, e_h4, hm⟩ := bd_x hm
    rw [e_h4]
    have s_h4 : h4.1 = tb_SH := by rw [← e_h4]; exact s_h
    refine pw_l (pc := 22) d60_22 rfl rfl rfl ?_
    refine pw_l (pc := 23) d60_23 rfl rfl rfl ?_
    refine pw_pi (pc := 24) d60_24 (k60_60 b) (sho s_h4 f_l0) p60_1_13 ?_
    obtain ⟨h5, e_h5, hm⟩ := bd_x hm
    rw [e_h5]
    have s_h5 : h5.1 = tb_SH := by rw [← e_h5]; exact s_h4
    refine pw_l (pc := 27) d60_27 rfl rfl rfl ?_
    obtain ⟨y6, e_y6, hm⟩ := ob_x hm
    have f_y6 := gA_x e_y6
    refine pw_gr (pc := 28) d60_28 (k60_66 b) (sho s_h5 f_l0) f1_15 f_y6.1 ?_
    refine pw_s (pc := 31) d60_31 rfl rfl ?_
    obtain ⟨q7, e_q7, hm⟩ := ob_x hm
    refine pw_u (pc := 32) (by omega) d60_32 (k60_175 b) (by decide) m270 (Nat.le_of_ble_eq_true rfl) (Nat.le_of_ble_eq_true rfl) (Nat.le_of_ble_eq_true rfl) rfl rfl (T_y_fill b L xs (d - 1) (by omega) h5 s_h5 y6 (Int32.ofInt 0) f_y6.2 e_q7) (fun v0 h0 hq => ?_)
    obtain ⟨rfl, hh0, s_q7⟩ := hq
    rw [hh0] at s_q7 ⊢
    simp only [Option.toList_none, List.nil_append]
    refine pw_s (pc := 35) d60_35 rfl rfl ?_
    refine pw_t (pc := 36) d60_36 rfl rfl rfl rfl ?_
    obtain ⟨q8, e_q8, hm⟩ := ob_x hm
    refine wh_ind e_q8 (fun s : (Int32 × Int32 × pm_H) => s.2.2.1 = tb_SH → ∀ w2 w6 : Value, PW b L xs d 60 0 0 38 [(Value.ref l0), (Value.ref l1), w2, (Value.int q3), (Value.int s.1), (Value.int s.2.1), w6] [] s.2.2 Q) (fun s s2 hf ih sx w2 w6 => t_a_gather_38 b L xs d hd s.2.2 sx l0 l1 q3 s.1 s.2.1 w2 w6 f_l0 f_l1 hf ih) (fun s hf sx w2 w6 => t_a_gather_38 b L xs d hd s.2.2 sx l0 l1 q3 s.1 s.2.1 w2 w6 f_l0 f_l1 hf ?_) s_q7  (Value.ref y1) (Value.retAddr 0)
    intro s_q8_0 w1 w2 w5 w6
    refine pw_l (pc := 116) d60_116 rfl rfl rfl ?_
    refine pw_l (pc := 117) d60_117 rfl rfl rfl ?_
    refine pw_gi (pc := 118) d60_118 (k60_57 b) (sho s_q8_0 f_l0) f1_12 ?_
    refine pw_zne (pc := 121) (t := 128) d60_121 (by decide) (fun c9 => ?_) (fun c9 => ?_)
    · rw [if_pos c9] at hm
      refine pw_l (pc := 128) d60_128 rfl rfl rfl ?_
      refine pw_l (pc := 129) d60_129 rfl rfl rfl ?_
      refine pw_s (pc := 131) d60_131 rfl rfl ?_
      refine pw_s (pc := 132) d60_132 rfl rfl ?_
      refine pw_s (pc := 133) d60_133 rfl rfl ?_
      exact t_a_gather_134 b L xs d hd q8.2 s_q8_0 l0 (q3 &&& (q8.1 ^^^ (Int32.ofInt (-1)))) l0 w1 w2 (Value.int q3) (Value.int q8.1) w5 w6 f_l0 f_l0 hm hE
    · rw [if_neg c9] at hm
      refine pw_s (pc := 124) d60_124 rfl rfl ?_
      refine pw_go (pc := 125) (t := 134) d60_125 (by decide) ?_
      exact t_a_gather_134 b L xs d hd q8.2 s_q8_0 l0 (Int32.ofInt 0) l0 w1 w2 (Value.int q3) (Value.int q8.1) w5 w6 f_l0 f_l0 hm hE
  exact key _ (fun q => ⟨rfl, rfl, q⟩)
def E_a_sailHour_15 (b : Bool) (L : Nat) (xs : Nat → Int32) (d : Nat) (Q : Option Value → pm_H → Prop) (l0 : Nat) (l1 : Nat) (l2 : Int32) : ((Int32 × pm_H) ⊕ pm_H) → Prop
  | .inl s => s.2.1 = tb_SH → ∀ w4 : Value, PW b L xs d 65 0 0 15 [(Value.ref l0), (Value.ref l1), (Value.int l2), (Value.int s.1), w4] [] s.2 Q
  | .inr e => e.1 = tb_SH → ∀ w2 w3 w4 : Value, PW b L xs d 65 0 0 67 [(Value.ref l0), (Value.ref l1), w2, w3, w4] [] e Q
noncomputable def a_sailHour_58 (l0 : Nat) (l1 : Nat) (l2 : Int32) (l3 : Int32) (z0 : Int32) (z1 : Int32) (z2 : Nat) (h : pm_H) : Option ((Int32 × pm_H) ⊕ pm_H) := (n_rouse z2 z1 z0 h).bind fun q1 => some (.inl ((l3 + Int32.ofInt 1), q1))
theorem t_a_sailHour_58 (b : Bool) (L : Nat) (xs : Nat → Int32) (d : Nat) (hd : 4 ≤ d) {Q : Option Value → pm_H → Prop} (h : pm_H) (s_h : h.1 = tb_SH) (l0 : Nat) (l1 : Nat) (l2 : Int32) (l3 : Int32) (z0 : Int32) (z1 : Int32) (z2 : Nat) (w4 : Value) (f_l0 : mi_o l0 1 = true) (f_l1 : mi_o l1 7 = true) (f_z2 : mi_o z2 3 = true) {r : ((Int32 × pm_H) ⊕ pm_H)} (hm : a_sailHour_58 l0 l1 l2 l3 z0 z1 z2 h = some r) (hE : E_a_sailHour_15 b L xs d Q l0 l1 l2 r) : PW b L xs d 65 0 0 58 [(Value.ref l0), (Value.ref l1), (Value.int l2), (Value.int l3), w4] [(Value.int z0), (Value.int z1), (Value.ref z2)] h Q := by
  rw [a_sailHour_58] at hm
  obtain ⟨q1, e_q1, hm⟩ := ob_x hm
  refine pw_v (pc := 58) (k := z2) (by omega) d65_58 (k65_246 b) (by decide) m77 (by decide) rfl (sho s_h f_z2) (Nat.le_of_ble_eq_true rfl) (Nat.le_of_ble_eq_true rfl) rfl rfl (T_n_rouse b L xs (d - 1) (by omega) h s_h z2 z1 z0 f_z2 e_q1) (fun v0 h0 hq => ?_)
  obtain ⟨rfl, hh0, s_q1⟩ := hq
  rw [hh0] at s_q1 ⊢
  simp only [Option.toList_none, List.nil_append]
  refine pw_t (pc := 61) d65_61 rfl rfl rfl rfl ?_
  refine pw_go (pc := 64) (t := 15) d65_64 (by decide) ?_
  obtain rfl := Option.some.inj hm
  exact hE s_q1  w4
noncomputable def a_sailHour_15 (l0 : Nat) (l1 : Nat) (l2 : Int32) (l3 : Int32) (h : pm_H) : Option ((Int32 × pm_H) ⊕ pm_H) := if (h.2.1 l1 1) ≤ l3 then (some (.inr h)) else ((gO h l0 19 3).bind fun y2 => (x_bit (h.2.1 y2 1) l3 h).bind fun q3 => if ¬ q3 = 0 then (some (.inl ((l3 + Int32.ofInt 1), h))) else ((gO h l0 19 3).bind fun y5 => (a_draw l0 h).bind fun q6 => if (q6.1 - q6.1 / (Int8.ofInt 100).toInt32 * (Int8.ofInt 100).toInt32) < l2 then (a_sailHour_58 l0 l1 l2 l3 (Int32.ofInt 0) l3 y5 q6.2) else (a_sailHour_58 l0 l1 l2 l3 (Int32.ofInt 1) l3 y5 q6.2)))
theorem t_a_sailHour_15 (b : Bool) (L : Nat) (xs : Nat → Int32) (d : Nat) (hd : 4 ≤ d) {Q : Option Value → pm_H → Prop} (h : pm_H) (s_h : h.1 = tb_SH) (l0 : Nat) (l1 : Nat) (l2 : Int32) (l3 : Int32) (w4 : Value) (f_l0 : mi_o l0 1 = true) (f_l1 : mi_o l1 7 = true) {r : ((Int32 × pm_H) ⊕ pm_H)} (hm : a_sailHour_15 l0 l1 l2 l3 h = some r) (hE : E_a_sailHour_15 b L xs d Q l0 l1 l2 r) : PW b L xs d 65 0 0 15 [(Value.ref l0), (Value.ref l1), (Value.int l2), (Value.int l3), w4] [] h Q := by
  rw [a_sailHour_15] at hm
  refine pw_l (pc := 15) d65_15 rfl rfl rfl ?_
  refine pw_l (pc := 16) d65_16 rfl rfl rfl ?_
  refine pw_gi (pc := 17) d65_17 (k65_140 b) (sho s_h f_l1) f7_1 ?_
  refine pw_ige (pc := 20) (t := 67) d65_20 (by decide) (fun c1 => ?_) (fun c1 => ?_)
  · rw [if_pos c1] at hm
    obtain rfl := Option.some.inj hm
    exact hE s_h  (Value.int l2) (Value.int l3) w4
  · rw [if_neg c1] at hm
    refine pw_l (pc := 23) d65_23 rfl rfl rfl ?_
    obtain ⟨y2, e_y2, hm⟩ := ob_x hm
    have f_y2 := gO_x e_y2
    refine pw_gr (pc := 24) d65_24 (k65_81 b) (sho s_h f_l0) f1_19 f_y2.1 ?_
    refine pw_gi (pc := 27) d65_27 (k65_243 b) (sho s_h f_y2.2) f3_1 ?_
    refine pw_l (pc := 30) d65_30 rfl rfl rfl ?_
    obtain ⟨q3, e_q3, hm⟩ := ob_x hm
    refine pw_u (pc := 31) (by omega) d65_31 (k65_104 b) (by decide) m34 (Nat.le_of_ble_eq_true rfl) (Nat.le_of_ble_eq_true rfl) (Nat.le_of_ble_eq_true rfl) rfl rfl (T_x_bit b L xs (d - 1) (by omega) h s_h (h.2.1 y2 1) l3  e_q3) (fun v0 h0 hq => ?_)
    obtain ⟨rfl, hh0, s_q3⟩ := hq
    rw [hh0] at s_q3 ⊢
    simp only [Option.toList_some, List.cons_append, List.nil_append]
    refine pw_zne (pc := 34) (t := 61) d65_34 (by decide) (fun c4 => ?_) (fun c4 => ?_)
    · rw [if_pos c4] at hm
      refine pw_t (pc := 61) d65_61 rfl rfl rfl rfl ?_
      refine pw_go (pc := 64) (t := 15) d65_64 (by decide) ?_
      obtain rfl := Option.some.inj hm
      exact hE s_h  w4
    · rw [if_neg c4] at hm
      refine pw_l (pc := 37) d65_37 rfl rfl rfl ?_
      obtain ⟨y5, e_y5, hm⟩ := ob_x hm
      have f_y5 := gO_x e_y5
      refine pw_gr (pc := 38) d65_38 (k65_81 b) (sho s_h f_l0) f1_19 f_y5.1 ?_
      refine pw_l (pc := 41) d65_41 rfl rfl rfl ?_
      refine pw_l (pc := 42) d65_42 rfl rfl rfl ?_
      obtain ⟨q6, e_q6, hm⟩ := ob_x hm
      refine pw_v (pc := 43) (k := l0) (by omega) d65_43 (k65_236 b) (by decide) m66 (by decide) rfl (sho s_h f_l0) (Nat.le_of_ble_eq_true rfl) (Nat.le_of_ble_eq_true rfl) rfl rfl (T_a_draw b L xs (d - 1) (by omega) h s_h l0 f_l0 e_q6) (fun v0 h0 hq => ?_)
      obtain ⟨rfl, hh0, s_q6⟩ := hq
      rw [hh0] at s_q6 ⊢
      simp only [Option.toList_some, List.cons_append, List.nil_append]
      refine pw_s (pc := 46) d65_46 rfl rfl ?_
      refine pw_re (pc := 48) d65_48 (by decide) ?_
      refine pw_l (pc := 49) d65_49 rfl rfl rfl ?_
      refine pw_ilt (pc := 50) (t := 57) d65_50 (by decide) (fun c7 => ?_) (fun c7 => ?_)
      · rw [if_pos c7] at hm
        refine pw_s (pc := 57) d65_57 rfl rfl ?_
        exact t_a_sailHour_58 b L xs d hd q6.2 s_q6 l0 l1 l2 l3 (Int32.ofInt 0) l3 y5 w4 f_l0 f_l1 f_y5.2 hm hE
      · rw [if_neg c7] at hm
        refine pw_s (pc := 53) d65_53 rfl rfl ?_
        refine pw_go (pc := 54) (t := 58) d65_54 (by decide) ?_
        exact t_a_sailHour_58 b L xs d hd q6.2 s_q6 l0 l1 l2 l3 (Int32.ofInt 1) l3 y5 w4 f_l0 f_l1 f_y5.2 hm hE
noncomputable def a_sailHour (l0 : Nat) (l1 : Nat) (l2 : Int32) (h : pm_H) : Option pm_H := (gO h l0 19 3).bind fun y1 => (a_draw l0 h).bind fun q2 => bd (pm_setI q2.2 y1 3 (q2.1 - q2.1 / (Int32.ofInt 3) * (Int32.ofInt 3))) fun h3 => (wh (fun s : (Int32 × pm_H) => a_sailHour_15 l0 l1 l2 s.1 s.2) ((Int32.ofInt 0), h3)).bind fun q4 => (gO q4 l0 0 2).bind fun y5 => (gO q4 l0 19 3).bind fun y6 => (gO q4 l0 19 3).bind fun y7 => (n_heard y7 l1 q4).bind fun q8 => (c_orders y5 (q4.2.1 y6 4) q8 q4).bind fun q9 => (i_bitCount ((((Int32.ofInt 1) <<< ((q9.2.2.1 l1 2) &&& 31)) - (Int32.ofInt 1)) &&& (q9.1 ^^^ (Int32.ofInt (-1)))) q9.2).bind fun q10 => bd (pm_setI q9.2 l0 16 ((q9.2.2.1 l0 16) + q10)) fun h11 => (a_needOf l1 ((((Int32.ofInt 1) <<< ((q9.2.2.1 l1 2) &&& 31)) - (Int32.ofInt 1)) &&& (q9.1 ^^^ (Int32.ofInt (-1)))) h11).bind fun q12 => bd (pm_setI h11 l0 17 ((h11.2.1 l0 17) + q12)) fun h13 => (gO h13 l0 19 3).bind fun y14 => (n_pass y14 h13).bind fun q15 => some q15
theorem T_a_sailHour (b : Bool) (L : Nat) (xs : Nat → Int32) (d : Nat) (hd : 4 ≤ d) (h : pm_H) (s_h : h.1 = tb_SH) (l0 : Nat) (l1 : Nat) (l2 : Int32) (f_l0 : mi_o l0 1 = true) (f_l1 : mi_o l1 7 = true) {r : pm_H} (hm : a_sailHour l0 l1 l2 h = some r) : PC b L xs d 65 [(Value.ref l0), (Value.ref l1), (Value.int l2)] h (fun (v0 : Option Value) (h2 : pm_H) => v0 = none ∧ h2 = r ∧ h2.1 = tb_SH) := by
  refine pc_in e65 (ls0 := [(Value.ref l0), (Value.ref l1), (Value.int l2), Value.retAddr 0, Value.retAddr 0]) rfl ?_
  have key : ∀ (Q : Option Value → pm_H → Prop), (r.1 = tb_SH → Q none r) → PW b L xs d 65 0 0 0 [(Value.ref l0), (Value.ref l1), (Value.int l2), Value.retAddr 0, Value.retAddr 0] [] h Q := by
    intro Q hE
    rw [a_sailHour] at hm
    refine pw_l (pc := 0) d65_0 rfl rfl rfl ?_
    obtain ⟨y1, e_y1, hm⟩ := ob_x hm
    have f_y1 := gO_x e_y1
    refine pw_gr (pc := 1) d65_1 (k65_81 b) (sho s_h f_l0) f1_19 f_y1.1 ?_
    refine pw_l (pc := 4) d65_4 rfl rfl rfl ?_
    obtain ⟨q2, e_q2, hm⟩ := ob_x hm
    refine pw_v (pc := 5) (k := l0) (by omega) d65_5 (k65_236 b) (by decide) m66 (by decide) rfl (sho s_h f_l0) (Nat.le_of_ble_eq_true rfl) (Nat.le_of_ble_eq_true rfl) rfl rfl (T_a_draw b L xs (d - 1) (by omega) h s_h l0 f_l0 e_q2) (fun v0 h0 hq => ?_)
    obtain ⟨rfl, hh0, s_q2⟩ := hq
    rw [hh0] at s_q2 ⊢
    simp only [Option.toList_some, List.cons_append, List.nil_append]
    refine pw_s (pc := 8) d65_8 rfl rfl ?_
    refine pw_re (pc := 9) d65_9 (by decide) ?_
    refine pw_pi (pc := 10) d65_10 (k65_240 b) (sho s_q2 f_y1.2) p65_3_3 ?_
    obtain ⟨h3, e_h3, hm⟩ := bd_x hm
    rw [e_h3]
    have s_h3 : h3.1 = tb_SH := by rw [← e_h3]; exact s_q2
    refine pw_s (pc := 13) d65_13 rfl rfl ?_
    refine pw_t (pc := 14) d65_14 rfl rfl rfl rfl ?_
    obtain ⟨q4, e_q4, hm⟩ := ob_x hm
    refine wh_ind e_q4 (fun s : (Int32 × pm_H) => s.2.1 = tb_SH → ∀ w4 : Value, PW b L xs d 65 0 0 15 [(Value.ref l0), (Value.ref l1), (Value.int l2), (Value.int s.1), w4] [] s.2 Q) (fun s s2 hf ih sx w4 => t_a_sailHour_15 b L xs d hd s.2 sx l0 l1 l2 s.1 w4 f_l0 f_l1 hf ih) (fun s hf sx w4 => t_a_sailHour_15 b L xs d hd s.2 sx l0 l1 l2 s.1 w4 f_l0 f_l1 hf ?_) s_h3  (Value.retAddr 0)
    intro s_q4_0 w2 w3 w4
    refine pw_l (pc := 67) d65_67 rfl rfl rfl ?_
    obtain ⟨y5, e_y5, hm⟩ := ob_x hm
    have f_y5 := gO_x e_y5
    refine pw_gr (pc := 68) d65_68 (k65_12 b) (sho s_q4_0 f_l0) f1_0 f_y5.1 ?_
    refine pw_l (pc := 71) d65_71 rfl rfl rfl ?_
    obtain ⟨y6, e_y6, hm⟩ := ob_x hm
    have f_y6 := gO_x e_y6
    refine pw_gr (pc := 72) d65_72 (k65_81 b) (sho s_q4_0 f_l0) f1_19 f_y6.1 ?_
    refine pw_gi (pc := 75) d65_75 (k65_89 b) (sho s_q4_0 f_y6.2) f3_4 ?_
    refine pw_l (pc := 78) d65_78 rfl rfl rfl ?_
    obtain ⟨y7, e_y7, hm⟩ := ob_x hm
    have f_y7 := gO_x e_y7
    refine pw_gr (pc := 79) d65_79 (k65_81 b) (sho s_q4_0 f_l0) f1_19 f_y7.1 ?_
    refine pw_l (pc := 82) d65_82 rfl rfl rfl ?_
    obtain ⟨q8, e_q8, hm⟩ := ob_x hm
    refine pw_v (pc := 83) (k := y7) (by omega) d65_83 (k65_92 b) (by decide) m81 (by decide) rfl (sho s_q4_0 f_y7.2) (Nat.le_of_ble_eq_true rfl) (Nat.le_of_ble_eq_true rfl) rfl rfl (T_n_heard b L xs (d - 1) (by omega) q4 s_q4_0 y7 l1 f_y7.2 f_l1 e_q8) (fun v0 h0 hq => ?_)
    obtain ⟨rfl, hh0, s_q8⟩ := hq
    rw [hh0] at s_q8 ⊢
    simp only [Option.toList_some, List.cons_append, List.nil_append]
    obtain ⟨q9, e_q9, hm⟩ := ob_x hm
    refine pw_v (pc := 86) (k := y5) (by omega) d65_86 (k65_96 b) (by decide) m69 (by decide) rfl (sho s_q4_0 f_y5.2) (Nat.le_of_ble_eq_true rfl) (Nat.le_of_ble_eq_true rfl) rfl rfl (T_c_orders b L xs (d - 1) (by omega) q4 s_q4_0 y5 (q4.2.1 y6 4) q8 f_y5.2 e_q9) (fun v0 h0 hq => ?_)
    obtain ⟨rfl, hh0, s_q9⟩ := hq
    rw [hh0] at s_q9 ⊢
    simp only [Option.toList_some, List.cons_append, List.nil_append]
    refine pw_t (pc := 89) d65_89 rfl rfl rfl (n := 1) (ls' := [(Value.ref l0), (Value.ref l1), (mi_w w2), (Value.int q9.1), w4]) (st' := []) (by by_cases hw : Value.category w2 = 2 <;> simp [pm_sto, pm_sI, pm_sL, pm_sA, pm_inc, pm_st1, pm_st2, pm_pre, mi_w, hw] <;> first | done | exact ⟨by decide, rfl⟩ | rfl) ?_
    refine pw_s (pc := 90) d65_90 rfl rfl ?_
    refine pw_l (pc := 91) d65_91 rfl rfl rfl ?_
    refine pw_gi (pc := 92) d65_92 (k65_156 b) (sho s_q9 f_l1) f7_2 ?_
    refine pw_s (pc := 95) d65_95 rfl rfl ?_
    refine pw_s (pc := 96) d65_96 rfl rfl ?_
    refine pw_s (pc := 97) d65_97 rfl rfl ?_
    refine pw_l (pc := 98) d65_98 rfl rfl rfl ?_
    refine pw_s (pc := 99) d65_99 rfl rfl ?_
    refine pw_s (pc := 100) d65_100 rfl rfl ?_
    refine pw_s (pc := 101) d65_101 rfl rfl ?_
    refine pw_t (pc := 102) d65_102 rfl rfl rfl rfl ?_
    refine pw_l (pc := 104) d65_104 rfl rfl rfl ?_
    refine pw_s (pc := 105) d65_105 rfl rfl ?_
    refine pw_gi (pc := 106) d65_106 (k65_69 b) (sho s_q9 f_l0) f1_16 ?_
    refine pw_l (pc := 109) d65_109 rfl rfl rfl ?_
    obtain ⟨q10, e_q10, hm⟩ := ob_x hm
    refine pw_u (pc := 111) (by omega) d65_111 (k65_151 b) (by decide) m259 (Nat.le_of_ble_eq_true rfl) (Nat.le_of_ble_eq_true rfl) (Nat.le_of_ble_eq_true rfl) rfl rfl (T_i_bitCount b L xs (d - 1) (by omega) q9.2 s_q9 ((((Int32.ofInt 1) <<< ((q9.2.2.1 l1 2) &&& 31)) - (Int32.ofInt 1)) &&& (q9.1 ^^^ (Int32.ofInt (-1))))  e_q10) (fun v0 h0 hq => ?_)
    obtain ⟨rfl, hh0, s_q10⟩ := hq
    rw [hh0] at s_q10 ⊢
    simp only [Option.toList_some, List.cons_append, List.nil_append]
    refine pw_s (pc := 114) d65_114 rfl rfl ?_
    refine pw_pi (pc := 115) d65_115 (k65_69 b) (sho s_q9 f_l0) p65_1_16 ?_
    obtain ⟨h11, e_h11, hm⟩ := bd_x hm
    rw [e_h11]
    have s_h11 : h11.1 = tb_SH := by rw [← e_h11]; exact s_q9
    refine pw_l (pc := 118) d65_118 rfl rfl rfl ?_
    refine pw_s (pc := 119) d65_119 rfl rfl ?_
    refine pw_gi (pc := 120) d65_120 (k65_72 b) (sho s_h11 f_l0) f1_17 ?_
    refine pw_l (pc := 123) d65_123 rfl rfl rfl ?_
    refine pw_l (pc := 124) d65_124 rfl rfl rfl ?_
    obtain ⟨q12, e_q12, hm⟩ := ob_x hm
    refine pw_u (pc := 126) (by omega) d65_126 (k65_164 b) (by decide) m52 (Nat.le_of_ble_eq_true rfl) (Nat.le_of_ble_eq_true rfl) (Nat.le_of_ble_eq_true rfl) rfl rfl (T_a_needOf b L xs (d - 1) (by omega) h11 s_h11 l1 ((((Int32.ofInt 1) <<< ((q9.2.2.1 l1 2) &&& 31)) - (Int32.ofInt 1)) &&& (q9.1 ^^^ (Int32.ofInt (-1)))) f_l1 e_q12) (fun v0 h0 hq => ?_)
    obtain ⟨rfl, hh0, s_q12⟩ := hq
    rw [hh0] at s_q12 ⊢
    simp only [Option.toList_some, List.cons_append, List.nil_append]
    refine pw_s (pc := 129) d65_129 rfl rfl ?_
    refine pw_pi (pc := 130) d65_130 (k65_72 b) (sho s_h11 f_l0) p65_1_17 ?_
    obtain ⟨h13, e_h13, hm⟩ := bd_x hm
    rw [e_h13]
    have s_h13 : h13.1 = tb_SH := by rw [← e_h13]; exact s_h11
    refine pw_l (pc := 133) d65_133 rfl rfl rfl ?_
    obtain ⟨y14, e_y14, hm⟩ := ob_x hm
    have f_y14 := gO_x e_y14
    refine pw_gr (pc := 134) d65_134 (k65_81 b) (sho s_h13 f_l0) f1_19 f_y14.1 ?_
    obtain ⟨q15, e_q15, hm⟩ := ob_x hm
    refine pw_v (pc := 137) (k := y14) (by omega) d65_137 (k65_250 b) (by decide) m78 (by decide) rfl (sho s_h13 f_y14.2) (Nat.le_of_ble_eq_true rfl) (Nat.le_of_ble_eq_true rfl) rfl rfl (T_n_pass b L xs (d - 1) (by omega) h13 s_h13 y14 f_y14.2 e_q15) (fun v0 h0 hq => ?_)
    obtain ⟨rfl, hh0, s_q15⟩ := hq
    rw [hh0] at s_q15 ⊢
    simp only [Option.toList_none, List.nil_append]
    obtain rfl := Option.some.inj hm
    refine pw_rv (pc := 140) d65_140 t65 ?_
    exact hE s_q15
  exact key _ (fun q => ⟨rfl, rfl, q⟩)
def E_a_findShortest_38 (b : Bool) (L : Nat) (xs : Nat → Int32) (d : Nat) (Q : Option Value → pm_H → Prop) (l0 : Nat) (l1 : Nat) (l2 : Nat) (l4 : Int32) : ((Int32 × pm_H) ⊕ pm_H) → Prop
  | .inl s => s.2.1 = tb_SH → ∀ w3 w6 : Value, PW b L xs d 45 0 0 38 [(Value.ref l0), (Value.ref l1), (Value.ref l2), w3, (Value.int l4), (Value.int s.1), w6] [] s.2 Q
  | .inr e => e.1 = tb_SH → ∀ w0 w1 w2 w3 w4 w5 w6 : Value, PW b L xs d 45 0 0 140 [w0, w1, w2, w3, w4, w5, w6] [] e Q
noncomputable def a_findShortest_81 (l0 : Nat) (l1 : Nat) (l2 : Nat) (l4 : Int32) (l5 : Int32) (z0 : Int32) (h : pm_H) : Option ((Int32 × pm_H) ⊕ pm_H) := if ¬ z0 = 0 then (some (.inl ((l5 + Int32.ofInt 1), h))) else ((a_seat l0 l1 l4 (h.2.1 l2 4) h).bind fun q2 => if q2.1 = 0 then (some (.inl ((l5 + Int32.ofInt 1), q2.2))) else ((a_isBetter l0 q2.2).bind fun q4 => if q4 = 0 then (some (.inl ((l5 + Int32.ofInt 1), q2.2))) else ((gO q2.2 l0 1 5).bind fun y6 => bd (pm_setI q2.2 l0 3 (q2.2.2.1 y6 6)) fun h7 => (gA h7 l0 4 .int).bind fun y8 => (gA h7 l0 2 .int).bind fun y9 => if mi_cp (mi_n y8) (mi_n y9) (Int32.ofInt 0) (Int32.ofInt 0) (Int32.ofInt 5) = true then bd (pm_rowI h7 y9 (va_cpy (h7.2.1 y8) (h7.2.1 y9) (Int32.ofInt 0).toNatClampNeg (Int32.ofInt 0).toNatClampNeg (Int32.ofInt 5).toNatClampNeg)) fun h11 => some (.inl ((l5 + Int32.ofInt 1), h11)) else none)))
theorem t_a_findShortest_81 (b : Bool) (L : Nat) (xs : Nat → Int32) (d : Nat) (hd : 5 ≤ d) {Q : Option Value → pm_H → Prop} (h : pm_H) (s_h : h.1 = tb_SH) (l0 : Nat) (l1 : Nat) (l2 : Nat) (l4 : Int32) (l5 : Int32) (z0 : Int32) (w3 : Value) (w6 : Value) (f_l0 : mi_o l0 1 = true) (f_l1 : mi_o l1 7 = true) (f_l2 : mi_o l2 3 = true) {r : ((Int32 × pm_H) ⊕ pm_H)} (hm : a_findShortest_81 l0 l1 l2 l4 l5 z0 h = some r) (hE : E_a_findShortest_38 b L xs d Q l0 l1 l2 l4 r) : PW b L xs d 45 0 0 81 [(Value.ref l0), (Value.ref l1), (Value.ref l2), w3, (Value.int l4), (Value.int l5), w6] [(Value.int z0)] h Q := by
  rw [a_findShortest_81] at hm
  refine pw_t (pc := 81) d45_81 rfl rfl rfl rfl ?_
  refine pw_l (pc := 83) d45_83 rfl rfl rfl ?_
  refine pw_zne (pc := 85) (t := 134) d45_85 (by decide) (fun c1 => ?_) (fun c1 => ?_)
  · rw [if_pos c1] at hm
    refine pw_t (pc := 134) d45_134 rfl rfl rfl rfl ?_
    refine pw_go (pc := 137) (t := 38) d45_137 (by decide) ?_
    obtain rfl := Option.some.inj hm
    exact hE s_h  w3 (Value.int z0)
  · rw [if_neg c1] at hm
    refine pw_l (pc := 88) d45_88 rfl rfl rfl ?_
    refine pw_l (pc := 89) d45_89 rfl rfl rfl ?_
    refine pw_l (pc := 90) d45_90 rfl rfl rfl ?_
    refine pw_l (pc := 92) d45_92 rfl rfl rfl ?_
    refine pw_gi (pc := 93) d45_93 (k45_89 b) (sho s_h f_l2) f3_4 ?_
    obtain ⟨q2, e_q2, hm⟩ := ob_x hm
    refine pw_v (pc := 96) (k := l0) (by omega) d45_96 (k45_119 b) (by decide) m46 (by decide) rfl (sho s_h f_l0) (Nat.le_of_ble_eq_true rfl) (Nat.le_of_ble_eq_true rfl) rfl rfl (T_a_seat b L xs (d - 1) (by omega) h s_h l0 l1 l4 (h.2.1 l2 4) f_l0 f_l1 e_q2) (fun v0 h0 hq => ?_)
    obtain ⟨rfl, hh0, s_q2⟩ := hq
    rw [hh0] at s_q2 ⊢
    simp only [Option.toList_some, List.cons_append, List.nil_append]
    refine pw_zeq (pc := 99) (t := 134) d45_99 (by decide) (fun c3 => ?_) (fun c3 => ?_)
    · rw [if_pos c3] at hm
      refine pw_t (pc := 134) d45_134 rfl rfl rfl rfl ?_
      refine pw_go (pc := 137) (t := 38) d45_137 (by decide) ?_
      obtain rfl := Option.some.inj hm
      exact hE s_q2  w3 (Value.int z0)
    · rw [if_neg c3] at hm
      refine pw_l (pc := 102) d45_102 rfl rfl rfl ?_
      obtain ⟨q4, e_q4, hm⟩ := ob_x hm
      refine pw_v (pc := 103) (k := l0) (by omega) d45_103 (k45_123 b) (by decide) m48 (by decide) rfl (sho s_q2 f_l0) (Nat.le_of_ble_eq_true rfl) (Nat.le_of_ble_eq_true rfl) rfl rfl (T_a_isBetter b L xs (d - 1) (by omega) q2.2 s_q2 l0 f_l0 e_q4) (fun v0 h0 hq => ?_)
      obtain ⟨rfl, hh0, s_q4⟩ := hq
      rw [hh0] at s_q4 ⊢
      simp only [Option.toList_some, List.cons_append, List.nil_append]
      refine pw_zeq (pc := 106) (t := 134) d45_106 (by decide) (fun c5 => ?_) (fun c5 => ?_)
      · rw [if_pos c5] at hm
        refine pw_t (pc := 134) d45_134 rfl rfl rfl rfl ?_
        refine pw_go (pc := 137) (t := 38) d45_137 (by decide) ?_
        obtain rfl := Option.some.inj hm
        exact hE s_q2  w3 (Value.int z0)
      · rw [if_neg c5] at hm
        refine pw_l (pc := 109) d45_109 rfl rfl rfl ?_
        refine pw_l (pc := 110) d45_110 rfl rfl rfl ?_
        obtain ⟨y6, e_y6, hm⟩ := ob_x hm
        have f_y6 := gO_x e_y6
        refine pw_gr (pc := 111) d45_111 (k45_21 b) (sho s_q2 f_l0) f1_1 f_y6.1 ?_
        refine pw_gi (pc := 114) d45_114 (k45_116 b) (sho s_q2 f_y6.2) f5_6 ?_
        refine pw_pi (pc := 117) d45_117 (k45_29 b) (sho s_q2 f_l0) p45_1_3 ?_
        obtain ⟨h7, e_h7, hm⟩ := bd_x hm
        rw [e_h7]
        have s_h7 : h7.1 = tb_SH := by rw [← e_h7]; exact s_q2
        refine pw_l (pc := 120) d45_120 rfl rfl rfl ?_
        obtain ⟨y8, e_y8, hm⟩ := ob_x hm
        have f_y8 := gA_x e_y8
        refine pw_gr (pc := 121) d45_121 (k45_33 b) (sho s_h7 f_l0) f1_4 f_y8.1 ?_
        refine pw_s (pc := 124) d45_124 rfl rfl ?_
        refine pw_l (pc := 125) d45_125 rfl rfl rfl ?_
        obtain ⟨y9, e_y9, hm⟩ := ob_x hm
        have f_y9 := gA_x e_y9
        refine pw_gr (pc := 126) d45_126 (k45_25 b) (sho s_h7 f_l0) f1_2 f_y9.1 ?_
        refine pw_s (pc := 129) d45_129 rfl rfl ?_
        refine pw_s (pc := 130) d45_130 rfl rfl ?_
        obtain ⟨g10, hm⟩ := gd_x hm
        refine pw_cpy (pc := 131) (by omega) d45_131 (k45_126 b) (sha s_h7 f_y8.2) (sha s_h7 f_y9.2) g10 (Nat.le_of_ble_eq_true rfl) ?_
        obtain ⟨h11, e_h11, hm⟩ := bd_x hm
        rw [e_h11]
        have s_h11 : h11.1 = tb_SH := by rw [← e_h11]; exact s_h7
        refine pw_t (pc := 134) d45_134 rfl rfl rfl rfl ?_
        refine pw_go (pc := 137) (t := 38) d45_137 (by decide) ?_
        obtain rfl := Option.some.inj hm
        exact hE s_h11  w3 (Value.int z0)
noncomputable def a_findShortest_38 (l0 : Nat) (l1 : Nat) (l2 : Nat) (l4 : Int32) (l5 : Int32) (h : pm_H) : Option ((Int32 × pm_H) ⊕ pm_H) := if (1000000 : Int32) ≤ l5 then (some (.inr h)) else ((gO h l0 1 5).bind fun y2 => (r_advance y2 h).bind fun q3 => if q3.1 = 0 then (some (.inr q3.2)) else (if (q3.2.2.1 l0 3) ≤ 0 then (a_findShortest_81 l0 l1 l2 l4 l5 (Int32.ofInt 0) q3.2) else ((gO q3.2 l0 1 5).bind fun y6 => if (q3.2.2.1 y6 6) ≤ (q3.2.2.1 l0 3) then (a_findShortest_81 l0 l1 l2 l4 l5 (Int32.ofInt 0) q3.2) else (a_findShortest_81 l0 l1 l2 l4 l5 (Int32.ofInt 1) q3.2))))
theorem t_a_findShortest_38 (b : Bool) (L : Nat) (xs : Nat → Int32) (d : Nat) (hd : 5 ≤ d) {Q : Option Value → pm_H → Prop} (h : pm_H) (s_h : h.1 = tb_SH) (l0 : Nat) (l1 : Nat) (l2 : Nat) (l4 : Int32) (l5 : Int32) (w3 : Value) (w6 : Value) (f_l0 : mi_o l0 1 = true) (f_l1 : mi_o l1 7 = true) (f_l2 : mi_o l2 3 = true) {r : ((Int32 × pm_H) ⊕ pm_H)} (hm : a_findShortest_38 l0 l1 l2 l4 l5 h = some r) (hE : E_a_findShortest_38 b L xs d Q l0 l1 l2 l4 r) : PW b L xs d 45 0 0 38 [(Value.ref l0), (Value.ref l1), (Value.ref l2), w3, (Value.int l4), (Value.int l5), w6] [] h Q := by
  rw [a_findShortest_38] at hm
  refine pw_l (pc := 38) d45_38 rfl rfl rfl ?_
  refine pw_ci (pc := 40) d45_40 (k45_111 b) ?_
  refine pw_ige (pc := 42) (t := 140) d45_42 (by decide) (fun c1 => ?_) (fun c1 => ?_)
  · rw [if_pos c1] at hm
    obtain rfl := Option.some.inj hm
    exact hE s_h  (Value.ref l0) (Value.ref l1) (Value.ref l2) w3 (Value.int l4) (Value.int l5) w6
  · rw [if_neg c1] at hm
    refine pw_l (pc := 45) d45_45 rfl rfl rfl ?_
    obtain ⟨y2, e_y2, hm⟩ := ob_x hm
    have f_y2 := gO_x e_y2
    refine pw_gr (pc := 46) d45_46 (k45_21 b) (sho s_h f_l0) f1_1 f_y2.1 ?_
    obtain ⟨q3, e_q3, hm⟩ := ob_x hm
    refine pw_v (pc := 49) (k := y2) (by omega) d45_49 (k45_112 b) (by decide) m90 (by decide) rfl (sho s_h f_y2.2) (Nat.le_of_ble_eq_true rfl) (Nat.le_of_ble_eq_true rfl) rfl rfl (T_r_advance b L xs (d - 1) (by omega) h s_h y2 f_y2.2 e_q3) (fun v0 h0 hq => ?_)
    obtain ⟨rfl, hh0, s_q3⟩ := hq
    rw [hh0] at s_q3 ⊢
    simp only [Option.toList_some, List.cons_append, List.nil_append]
    refine pw_zeq (pc := 52) (t := 140) d45_52 (by decide) (fun c4 => ?_) (fun c4 => ?_)
    · rw [if_pos c4] at hm
      obtain rfl := Option.some.inj hm
      exact hE s_q3  (Value.ref l0) (Value.ref l1) (Value.ref l2) w3 (Value.int l4) (Value.int l5) w6
    · rw [if_neg c4] at hm
      refine pw_l (pc := 55) d45_55 rfl rfl rfl ?_
      refine pw_gi (pc := 56) d45_56 (k45_29 b) (sho s_q3 f_l0) f1_3 ?_
      refine pw_zle (pc := 59) (t := 80) d45_59 (by decide) (fun c5 => ?_) (fun c5 => ?_)
      · rw [if_pos c5] at hm
        refine pw_s (pc := 80) d45_80 rfl rfl ?_
        exact t_a_findShortest_81 b L xs d hd q3.2 s_q3 l0 l1 l2 l4 l5 (Int32.ofInt 0) w3 w6 f_l0 f_l1 f_l2  hm hE
      · rw [if_neg c5] at hm
        refine pw_l (pc := 62) d45_62 rfl rfl rfl ?_
        obtain ⟨y6, e_y6, hm⟩ := ob_x hm
        have f_y6 := gO_x e_y6
        refine pw_gr (pc := 63) d45_63 (k45_21 b) (sho s_q3 f_l0) f1_1 f_y6.1 ?_
        refine pw_gi (pc := 66) d45_66 (k45_116 b) (sho s_q3 f_y6.2) f5_6 ?_
        refine pw_l (pc := 69) d45_69 rfl rfl rfl ?_
        refine pw_gi (pc := 70) d45_70 (k45_29 b) (sho s_q3 f_l0) f1_3 ?_
        refine pw_ile (pc := 73) (t := 80) d45_73 (by decide) (fun c7 => ?_) (fun c7 => ?_)
        · rw [if_pos c7] at hm
          refine pw_s (pc := 80) d45_80 rfl rfl ?_
          exact t_a_findShortest_81 b L xs d hd q3.2 s_q3 l0 l1 l2 l4 l5 (Int32.ofInt 0) w3 w6 f_l0 f_l1 f_l2  hm hE
        · rw [if_neg c7] at hm
          refine pw_s (pc := 76) d45_76 rfl rfl ?_
          refine pw_go (pc := 77) (t := 81) d45_77 (by decide) ?_
          exact t_a_findShortest_81 b L xs d hd q3.2 s_q3 l0 l1 l2 l4 l5 (Int32.ofInt 1) w3 w6 f_l0 f_l1 f_l2  hm hE
noncomputable def a_findShortest (l0 : Nat) (l1 : Nat) (l2 : Nat) (l3 : Int32) (h : pm_H) : Option pm_H := bd (pm_setI h l0 3 (Int32.ofInt 0)) fun h1 => (a_canSay l0 l1 l2 h1).bind fun q2 => (x_bit q2.1 l3 q2.2).bind fun q3 => if ¬ q3 = 0 then ((n_heard l2 l1 q2.2).bind fun q5 => (gO q2.2 l0 1 5).bind fun y6 => (r_begin y6 l1 l3 q2.2).bind fun q7 => (wh (fun s : (Int32 × pm_H) => a_findShortest_38 l0 l1 l2 q5 s.1 s.2) ((Int32.ofInt 0), q7)).bind fun q8 => some q8) else (some q2.2)
theorem T_a_findShortest (b : Bool) (L : Nat) (xs : Nat → Int32) (d : Nat) (hd : 5 ≤ d) (h : pm_H) (s_h : h.1 = tb_SH) (l0 : Nat) (l1 : Nat) (l2 : Nat) (l3 : Int32) (f_l0 : mi_o l0 1 = true) (f_l1 : mi_o l1 7 = true) (f_l2 : mi_o l2 3 = true) {r : pm_H} (hm : a_findShortest l0 l1 l2 l3 h = some r) : PC b L xs d 45 [(Value.ref l0), (Value.ref l1), (Value.ref l2), (Value.int l3)] h (fun (v0 : Option Value) (h2 : pm_H) => v0 = none ∧ h2 = r ∧ h2.1 = tb_SH) := by
  refine pc_in e45 (ls0 := [(Value.ref l0), (Value.ref l1), (Value.ref l2), (Value.int l3), Value.retAddr 0, Value.retAddr 0, Value.retAddr 0]) rfl ?_
  have key : ∀ (Q : Option Value → pm_H → Prop), (r.1 = tb_SH → Q none r) → PW b L xs d 45 0 0 0 [(Value.ref l0), (Value.ref l1), (Value.ref l2), (Value.int l3), Value.retAddr 0, Value.retAddr 0, Value.retAddr 0] [] h Q := by
    intro Q hE
    rw [a_findShortest] at hm
    refine pw_l (pc := 0) d45_0 rfl rfl rfl ?_
    refine pw_s (pc := 1) d45_1 rfl rfl ?_
    refine pw_pi (pc := 2) d45_2 (k45_29 b) (sho s_h f_l0) p45_1_3 ?_
    obtain ⟨h1, e_h1, hm⟩ := bd_x hm
    rw [e_h1]
    have s_h1 : h1.1 = tb_SH := by rw [← e_h1]; exact s_h
    refine pw_l (pc := 5) d45_5 rfl rfl rfl ?_
    refine pw_l (pc := 6) d45_6 rfl rfl rfl ?_
    refine pw_l (pc := 7) d45_7 rfl rfl rfl ?_
    obtain ⟨q2, e_q2, hm⟩ := ob_x hm
    refine pw_v (pc := 8) (k := l0) (by omega) d45_8 (k45_100 b) (by decide) m44 (by decide) rfl (sho s_h1 f_l0) (Nat.le_of_ble_eq_true rfl) (Nat.le_of_ble_eq_true rfl) rfl rfl (T_a_canSay b L xs (d - 1) (by omega) h1 s_h1 l0 l1 l2 f_l0 f_l1 f_l2 e_q2) (fun v0 h0 hq => ?_)
    obtain ⟨rfl, hh0, s_q2⟩ := hq
    rw [hh0] at s_q2 ⊢
    simp only [Option.toList_some, List.cons_append, List.nil_append]
    refine pw_l (pc := 11) d45_11 rfl rfl rfl ?_
    obtain ⟨q3, e_q3, hm⟩ := ob_x hm
    refine pw_u (pc := 12) (by omega) d45_12 (k45_104 b) (by decide) m34 (Nat.le_of_ble_eq_true rfl) (Nat.le_of_ble_eq_true rfl) (Nat.le_of_ble_eq_true rfl) rfl rfl (T_x_bit b L xs (d - 1) (by omega) q2.2 s_q2 q2.1 l3  e_q3) (fun v0 h0 hq => ?_)
    obtain ⟨rfl, hh0, s_q3⟩ := hq
    rw [hh0] at s_q3 ⊢
    simp only [Option.toList_some, List.cons_append, List.nil_append]
    refine pw_zne (pc := 15) (t := 19) d45_15 (by decide) (fun c4 => ?_) (fun c4 => ?_)
    · rw [if_pos c4] at hm
      refine pw_l (pc := 19) d45_19 rfl rfl rfl ?_
      refine pw_l (pc := 20) d45_20 rfl rfl rfl ?_
      obtain ⟨q5, e_q5, hm⟩ := ob_x hm
      refine pw_v (pc := 21) (k := l2) (by omega) d45_21 (k45_92 b) (by decide) m81 (by decide) rfl (sho s_q2 f_l2) (Nat.le_of_ble_eq_true rfl) (Nat.le_of_ble_eq_true rfl) rfl rfl (T_n_heard b L xs (d - 1) (by omega) q2.2 s_q2 l2 l1 f_l2 f_l1 e_q5) (fun v0 h0 hq => ?_)
      obtain ⟨rfl, hh0, s_q5⟩ := hq
      rw [hh0] at s_q5 ⊢
      simp only [Option.toList_some, List.cons_append, List.nil_append]
      refine pw_t (pc := 24) d45_24 rfl rfl rfl rfl ?_
      refine pw_l (pc := 26) d45_26 rfl rfl rfl ?_
      obtain ⟨y6, e_y6, hm⟩ := ob_x hm
      have f_y6 := gO_x e_y6
      refine pw_gr (pc := 27) d45_27 (k45_21 b) (sho s_q2 f_l0) f1_1 f_y6.1 ?_
      refine pw_l (pc := 30) d45_30 rfl rfl rfl ?_
      refine pw_l (pc := 31) d45_31 rfl rfl rfl ?_
      obtain ⟨q7, e_q7, hm⟩ := ob_x hm
      refine pw_v (pc := 32) (k := y6) (by omega) d45_32 (k45_107 b) (by decide) m87 (by decide) rfl (sho s_q2 f_y6.2) (Nat.le_of_ble_eq_true rfl) (Nat.le_of_ble_eq_true rfl) rfl rfl (T_r_begin b L xs (d - 1) (by omega) q2.2 s_q2 y6 l1 l3 f_y6.2 f_l1 e_q7) (fun v0 h0 hq => ?_)
      obtain ⟨rfl, hh0, s_q7⟩ := hq
      rw [hh0] at s_q7 ⊢
      simp only [Option.toList_none, List.nil_append]
      refine pw_s (pc := 35) d45_35 rfl rfl ?_
      refine pw_t (pc := 36) d45_36 rfl rfl rfl rfl ?_
      obtain ⟨q8, e_q8, hm⟩ := ob_x hm
      refine wh_ind e_q8 (fun s : (Int32 × pm_H) => s.2.1 = tb_SH → ∀ w3 w6 : Value, PW b L xs d 45 0 0 38 [(Value.ref l0), (Value.ref l1), (Value.ref l2), w3, (Value.int q5), (Value.int s.1), w6] [] s.2 Q) (fun s s2 hf ih sx w3 w6 => t_a_findShortest_38 b L xs d hd s.2 sx l0 l1 l2 q5 s.1 w3 w6 f_l0 f_l1 f_l2 hf ih) (fun s hf sx w3 w6 => t_a_findShortest_38 b L xs d hd s.2 sx l0 l1 l2 q5 s.1 w3 w6 f_l0 f_l1 f_l2 hf ?_) s_q7  (Value.int l3) (Value.retAddr 0)
      intro s_q8_0 w0 w1 w2 w3 w4 w5 w6
      obtain rfl := Option.some.inj hm
      refine pw_rv (pc := 140) d45_140 t45 ?_
      exact hE s_q8_0
    · rw [if_neg c4] at hm
      obtain rfl := Option.some.inj hm
      refine pw_rv (pc := 18) d45_18 t45 ?_
      exact hE s_q2
  exact key _ (fun q => ⟨rfl, rfl, q⟩)
def E_a_sail_41 (b : Bool) (L : Nat) (xs : Nat → Int32) (d : Nat) (Q : Option Value → pm_H → Prop) (l0 : Nat) (l1 : Nat) (l2 : Int32) (l3 : Int32) (l4 : Int32) (l5 : Int32) : ((Int32 × pm_H) ⊕ pm_H) → Prop
  | .inl s => s.2.1 = tb_SH → PW b L xs d 64 0 0 41 [(Value.ref l0), (Value.ref l1), (Value.int l2), (Value.int l3), (Value.int l4), (Value.int l5), (Value.int s.1)] [] s.2 Q
  | .inr e => e.1 = tb_SH → ∀ w6 : Value, PW b L xs d 64 0 0 63 [(Value.ref l0), (Value.ref l1), (Value.int l2), (Value.int l3), (Value.int l4), (Value.int l5), w6] [] e Q
def E_a_sail_21 (b : Bool) (L : Nat) (xs : Nat → Int32) (d : Nat) (Q : Option Value → pm_H → Prop) (l0 : Nat) (l1 : Nat) (l2 : Int32) (l3 : Int32) (l4 : Int32) : ((Int32 × pm_H) ⊕ pm_H) → Prop
  | .inl s => s.2.1 = tb_SH → ∀ w6 : Value, PW b L xs d 64 0 0 21 [(Value.ref l0), (Value.ref l1), (Value.int l2), (Value.int l3), (Value.int l4), (Value.int s.1), w6] [] s.2 Q
  | .inr e => e.1 = tb_SH → ∀ w0 w1 w2 w3 w4 w5 w6 : Value, PW b L xs d 64 0 0 69 [w0, w1, w2, w3, w4, w5, w6] [] e Q
noncomputable def a_sail_41 (l0 : Nat) (l1 : Nat) (l2 : Int32) (l3 : Int32) (l4 : Int32) (l5 : Int32) (l6 : Int32) (h : pm_H) : Option ((Int32 × pm_H) ⊕ pm_H) := if l3 ≤ l6 then (some (.inr h)) else ((gO h l1 0 7).bind fun y2 => (a_sailHour l0 y2 l4 h).bind fun q3 => some (.inl ((l6 + Int32.ofInt 1), q3)))
theorem t_a_sail_41 (b : Bool) (L : Nat) (xs : Nat → Int32) (d : Nat) (hd : 5 ≤ d) {Q : Option Value → pm_H → Prop} (h : pm_H) (s_h : h.1 = tb_SH) (l0 : Nat) (l1 : Nat) (l2 : Int32) (l3 : Int32) (l4 : Int32) (l5 : Int32) (l6 : Int32) (f_l0 : mi_o l0 1 = true) (f_l1 : mi_o l1 9 = true) {r : ((Int32 × pm_H) ⊕ pm_H)} (hm : a_sail_41 l0 l1 l2 l3 l4 l5 l6 h = some r) (hE : E_a_sail_41 b L xs d Q l0 l1 l2 l3 l4 l5 r) : PW b L xs d 64 0 0 41 [(Value.ref l0), (Value.ref l1), (Value.int l2), (Value.int l3), (Value.int l4), (Value.int l5), (Value.int l6)] [] h Q := by
  rw [a_sail_41] at hm
  refine pw_l (pc := 41) d64_41 rfl rfl rfl ?_
  refine pw_l (pc := 43) d64_43 rfl rfl rfl ?_
  refine pw_ige (pc := 44) (t := 63) d64_44 (by decide) (fun c1 => ?_) (fun c1 => ?_)
  · rw [if_pos c1] at hm
    obtain rfl := Option.some.inj hm
    exact hE s_h  (Value.int l6)
  · rw [if_neg c1] at hm
    refine pw_l (pc := 47) d64_47 rfl rfl rfl ?_
    refine pw_l (pc := 48) d64_48 rfl rfl rfl ?_
    obtain ⟨y2, e_y2, hm⟩ := ob_x hm
    have f_y2 := gO_x e_y2
    refine pw_gr (pc := 49) d64_49 (k64_209 b) (sho s_h f_l1) f9_0 f_y2.1 ?_
    refine pw_l (pc := 52) d64_52 rfl rfl rfl ?_
    obtain ⟨q3, e_q3, hm⟩ := ob_x hm
    refine pw_v (pc := 54) (k := l0) (by omega) d64_54 (k64_233 b) (by decide) m65 (by decide) rfl (sho s_h f_l0) (Nat.le_of_ble_eq_true rfl) (Nat.le_of_ble_eq_true rfl) rfl rfl (T_a_sailHour b L xs (d - 1) (by omega) h s_h l0 y2 l4 f_l0 f_y2.2 e_q3) (fun v0 h0 hq => ?_)
    obtain ⟨rfl, hh0, s_q3⟩ := hq
    rw [hh0] at s_q3 ⊢
    simp only [Option.toList_none, List.nil_append]
    refine pw_t (pc := 57) d64_57 rfl rfl rfl rfl ?_
    refine pw_go (pc := 60) (t := 41) d64_60 (by decide) ?_
    obtain rfl := Option.some.inj hm
    exact hE s_q3  
noncomputable def a_sail_21 (l0 : Nat) (l1 : Nat) (l2 : Int32) (l3 : Int32) (l4 : Int32) (l5 : Int32) (h : pm_H) : Option ((Int32 × pm_H) ⊕ pm_H) := if l2 ≤ l5 then (some (.inr h)) else ((gO h l0 19 3).bind fun y2 => (gO h l1 1 3).bind fun y3 => (n_copy y2 y3 h).bind fun q4 => (wh (fun s : (Int32 × pm_H) => a_sail_41 l0 l1 l2 l3 l4 l5 s.1 s.2) ((Int32.ofInt 0), q4)).bind fun q5 => some (.inl ((l5 + Int32.ofInt 1), q5)))
theorem t_a_sail_21 (b : Bool) (L : Nat) (xs : Nat → Int32) (d : Nat) (hd : 5 ≤ d) {Q : Option Value → pm_H → Prop} (h : pm_H) (s_h : h.1 = tb_SH) (l0 : Nat) (l1 : Nat) (l2 : Int32) (l3 : Int32) (l4 : Int32) (l5 : Int32) (w6 : Value) (f_l0 : mi_o l0 1 = true) (f_l1 : mi_o l1 9 = true) {r : ((Int32 × pm_H) ⊕ pm_H)} (hm : a_sail_21 l0 l1 l2 l3 l4 l5 h = some r) (hE : E_a_sail_21 b L xs d Q l0 l1 l2 l3 l4 r) : PW b L xs d 64 0 0 21 [(Value.ref l0), (Value.ref l1), (Value.int l2), (Value.int l3), (Value.int l4), (Value.int l5), w6] [] h Q := by
  rw [a_sail_21] at hm
  refine pw_l (pc := 21) d64_21 rfl rfl rfl ?_
  refine pw_l (pc := 23) d64_23 rfl rfl rfl ?_
  refine pw_ige (pc := 24) (t := 69) d64_24 (by decide) (fun c1 => ?_) (fun c1 => ?_)
  · rw [if_pos c1] at hm
    obtain rfl := Option.some.inj hm
    exact hE s_h  (Value.ref l0) (Value.ref l1) (Value.int l2) (Value.int l3) (Value.int l4) (Value.int l5) w6
  · rw [if_neg c1] at hm
    refine pw_l (pc := 27) d64_27 rfl rfl rfl ?_
    obtain ⟨y2, e_y2, hm⟩ := ob_x hm
    have f_y2 := gO_x e_y2
    refine pw_gr (pc := 28) d64_28 (k64_81 b) (sho s_h f_l0) f1_19 f_y2.1 ?_
    refine pw_l (pc := 31) d64_31 rfl rfl rfl ?_
    obtain ⟨y3, e_y3, hm⟩ := ob_x hm
    have f_y3 := gO_x e_y3
    refine pw_gr (pc := 32) d64_32 (k64_215 b) (sho s_h f_l1) f9_1 f_y3.1 ?_
    obtain ⟨q4, e_q4, hm⟩ := ob_x hm
    refine pw_v (pc := 35) (k := y2) (by omega) d64_35 (k64_229 b) (by decide) m76 (by decide) rfl (sho s_h f_y2.2) (Nat.le_of_ble_eq_true rfl) (Nat.le_of_ble_eq_true rfl) rfl rfl (T_n_copy b L xs (d - 1) (by omega) h s_h y2 y3 f_y2.2 f_y3.2 e_q4) (fun v0 h0 hq => ?_)
    obtain ⟨rfl, hh0, s_q4⟩ := hq
    rw [hh0] at s_q4 ⊢
    simp only [Option.toList_none, List.nil_append]
    refine pw_s (pc := 38) d64_38 rfl rfl ?_
    refine pw_t (pc := 39) d64_39 rfl rfl rfl rfl ?_
    obtain ⟨q5, e_q5, hm⟩ := ob_x hm
    refine wh_ind e_q5 (fun s : (Int32 × pm_H) => s.2.1 = tb_SH → PW b L xs d 64 0 0 41 [(Value.ref l0), (Value.ref l1), (Value.int l2), (Value.int l3), (Value.int l4), (Value.int l5), (Value.int s.1)] [] s.2 Q) (fun s s2 hf ih sx => t_a_sail_41 b L xs d hd s.2 sx l0 l1 l2 l3 l4 l5 s.1  f_l0 f_l1 hf ih) (fun s hf sx => t_a_sail_41 b L xs d hd s.2 sx l0 l1 l2 l3 l4 l5 s.1  f_l0 f_l1 hf ?_) s_q4  
    intro s_q5_0 w6
    refine pw_t (pc := 63) d64_63 rfl rfl rfl rfl ?_
    refine pw_go (pc := 66) (t := 21) d64_66 (by decide) ?_
    obtain rfl := Option.some.inj hm
    exact hE s_q5_0  w6
noncomputable def a_sail (l0 : Nat) (l1 : Nat) (l2 : Int32) (l3 : Int32) (l4 : Int32) (h : pm_H) : Option pm_H := bd (pm_setI h l0 16 (Int32.ofInt 0)) fun h1 => bd (pm_setI h1 l0 17 (Int32.ofInt 0)) fun h2 => bd (pm_setI h2 l0 18 (h2.2.1 l1 5)) fun h3 => (wh (fun s : (Int32 × pm_H) => a_sail_21 l0 l1 l2 l3 l4 s.1 s.2) ((Int32.ofInt 0), h3)).bind fun q4 => some q4
theorem T_a_sail (b : Bool) (L : Nat) (xs : Nat → Int32) (d : Nat) (hd : 5 ≤ d) (h : pm_H) (s_h : h.1 = tb_SH) (l0 : Nat) (l1 : Nat) (l2 : Int32) (l3 : Int32) (l4 : Int32) (f_l0 : mi_o l0 1 = true) (f_l1 : mi_o l1 9 = true) {r : pm_H} (hm : a_sail l0 l1 l2 l3 l4 h = some r) : PC b L xs d 64 [(Value.ref l0), (Value.ref l1), (Value.int l2), (Value.int l3), (Value.int l4)] h (fun (v0 : Option Value) (h2 : pm_H) => v0 = none ∧ h2 = r ∧ h2.1 = tb_SH) := by
  refine pc_in e64 (ls0 := [(Value.ref l0), (Value.ref l1), (Value.int l2), (Value.int l3), (Value.int l4), Value.retAddr 0, Value.retAddr 0]) rfl ?_
  have key : ∀ (Q : Option Value → pm_H → Prop), (r.1 = tb_SH → Q none r) → PW b L xs d 64 0 0 0 [(Value.ref l0), (Value.ref l1), (Value.int l2), (Value.int l3), (Value.int l4), Value.retAddr 0, Value.retAddr 0] [] h Q := by
    intro Q hE
    rw [a_sail] at hm
    refine pw_l (pc := 0) d64_0 rfl rfl rfl ?_
    refine pw_s (pc := 1) d64_1 rfl rfl ?_
    refine pw_pi (pc := 2) d64_2 (k64_69 b) (sho s_h f_l0) p64_1_16 ?_
    obtain ⟨h1, e_h1, hm⟩ := bd_x hm
    rw [e_h1]
    have s_h1 : h1.1 = tb_SH := by rw [← e_h1]; exact s_h
    refine pw_l (pc := 5) d64_5 rfl rfl rfl ?_
    refine pw_s (pc := 6) d64_6 rfl rfl ?_
    refine pw_pi (pc := 7) d64_7 (k64_72 b) (sho s_h1 f_l0) p64_1_17 ?_
    obtain ⟨h2, e_h2, hm⟩ := bd_x hm
    rw [e_h2]
    have s_h2 : h2.1 = tb_SH := by rw [← e_h2]; exact s_h1
    refine pw_l (pc := 10) d64_10 rfl rfl rfl ?_
    refine pw_l (pc := 11) d64_11 rfl rfl rfl ?_
    refine pw_gi (pc := 12) d64_12 (k64_228 b) (sho s_h2 f_l1) f9_5 ?_
    refine pw_pi (pc := 15) d64_15 (k64_75 b) (sho s_h2 f_l0) p64_1_18 ?_
    obtain ⟨h3, e_h3, hm⟩ := bd_x hm
    rw [e_h3]
    have s_h3 : h3.1 = tb_SH := by rw [← e_h3]; exact s_h2
    refine pw_s (pc := 18) d64_18 rfl rfl ?_
    refine pw_t (pc := 19) d64_19 rfl rfl rfl rfl ?_
    obtain ⟨q4, e_q4, hm⟩ := ob_x hm
    refine wh_ind e_q4 (fun s : (Int32 × pm_H) => s.2.1 = tb_SH → ∀ w6 : Value, PW b L xs d 64 0 0 21 [(Value.ref l0), (Value.ref l1), (Value.int l2), (Value.int l3), (Value.int l4), (Value.int s.1), w6] [] s.2 Q) (fun s s2 hf ih sx w6 => t_a_sail_21 b L xs d hd s.2 sx l0 l1 l2 l3 l4 s.1 w6 f_l0 f_l1 hf ih) (fun s hf sx w6 => t_a_sail_21 b L xs d hd s.2 sx l0 l1 l2 l3 l4 s.1 w6 f_l0 f_l1 hf ?_) s_h3  (Value.retAddr 0)
    intro s_q4_0 w0 w1 w2 w3 w4 w5 w6
    obtain rfl := Option.some.inj hm
    refine pw_rv (pc := 69) d64_69 t64 ?_
    exact hE s_q4_0
  exact key _ (fun q => ⟨rfl, rfl, q⟩)
