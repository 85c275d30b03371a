/-! Mirrors, written by wip/mir.py. -/
theorem d72_0 : decode (tb_me 72).1.2.1 0 = .ok (.iload_n 1, 1) := by decide +kernel
theorem d72_1 : decode (tb_me 72).1.2.1 1 = .ok (.ifCond .lt 22, 3) := by decide +kernel
theorem d72_23 : decode (tb_me 72).1.2.1 23 = .ok (.return_, 1) := by decide +kernel
theorem t72 : (tb_me 72).1.2.2.2 = none := by decide +kernel
theorem d72_4 : decode (tb_me 72).1.2.1 4 = .ok (.iload_n 1, 1) := by decide +kernel
theorem d72_5 : decode (tb_me 72).1.2.1 5 = .ok (.aload_n 0, 1) := by decide +kernel
theorem d72_6 : decode (tb_me 72).1.2.1 6 = .ok (.getfield 33, 3) := by decide +kernel
theorem k72_33 (b : Bool) : tb_lk b 72 33 = (1, 2, 5, 0, 0) := by cases b <;> decide +kernel
theorem f2_5 : (5 < pm_nf tb_cl 2) ∧ tb_ft 2 5 ≠ .long ∧ pm_isR (tb_ft 2 5) = true := by decide +kernel
theorem d72_9 : decode (tb_me 72).1.2.1 9 = .ok (.arraylength, 1) := by decide +kernel
theorem d72_10 : decode (tb_me 72).1.2.1 10 = .ok (.if_icmp .ge 13, 3) := by decide +kernel
theorem d72_13 : decode (tb_me 72).1.2.1 13 = .ok (.aload_n 0, 1) := by decide +kernel
theorem d72_14 : decode (tb_me 72).1.2.1 14 = .ok (.getfield 33, 3) := by decide +kernel
theorem d72_17 : decode (tb_me 72).1.2.1 17 = .ok (.iload_n 1, 1) := by decide +kernel
theorem d72_18 : decode (tb_me 72).1.2.1 18 = .ok (.dup2, 1) := by decide +kernel
theorem d72_19 : decode (tb_me 72).1.2.1 19 = .ok (.iaload, 1) := by decide +kernel
theorem d72_20 : decode (tb_me 72).1.2.1 20 = .ok (.iconst 1, 1) := by decide +kernel
theorem d72_21 : decode (tb_me 72).1.2.1 21 = .ok (.iadd, 1) := by decide +kernel
theorem d72_22 : decode (tb_me 72).1.2.1 22 = .ok (.iastore, 1) := by decide +kernel
theorem e72 : (tb_me 72).2.1 = (0, 0) ∧ (tb_me 72).1.2.2.1 = 2 := by decide +kernel
theorem d73_19 : decode (tb_me 73).1.2.1 19 = .ok (.iload 5, 2) := by decide +kernel
theorem d73_21 : decode (tb_me 73).1.2.1 21 = .ok (.aload_n 0, 1) := by decide +kernel
theorem d73_22 : decode (tb_me 73).1.2.1 22 = .ok (.getfield 33, 3) := by decide +kernel
theorem k73_33 (b : Bool) : tb_lk b 73 33 = (1, 2, 5, 0, 0) := by cases b <;> decide +kernel
theorem d73_25 : decode (tb_me 73).1.2.1 25 = .ok (.iload 4, 2) := by decide +kernel
theorem d73_27 : decode (tb_me 73).1.2.1 27 = .ok (.iaload, 1) := by decide +kernel
theorem d73_28 : decode (tb_me 73).1.2.1 28 = .ok (.if_icmp .ge 34, 3) := by decide +kernel
theorem d73_31 : decode (tb_me 73).1.2.1 31 = .ok (.iload_n 3, 1) := by decide +kernel
theorem d73_32 : decode (tb_me 73).1.2.1 32 = .ok (.ifCond .lt 30, 3) := by decide +kernel
theorem d73_35 : decode (tb_me 73).1.2.1 35 = .ok (.iload_n 3, 1) := by decide +kernel
theorem d73_36 : decode (tb_me 73).1.2.1 36 = .ok (.iconst 5, 1) := by decide +kernel
theorem d73_37 : decode (tb_me 73).1.2.1 37 = .ok (.if_icmp .ge 25, 3) := by decide +kernel
theorem d73_40 : decode (tb_me 73).1.2.1 40 = .ok (.iload_n 2, 1) := by decide +kernel
theorem d73_41 : decode (tb_me 73).1.2.1 41 = .ok (.getstatic 95, 3) := by decide +kernel
theorem k73_95 (b : Bool) : tb_lk b 73 95 = (15, 1, 0, 0, 0) := by cases b <;> decide +kernel
theorem d73_44 : decode (tb_me 73).1.2.1 44 = .ok (.iload 4, 2) := by decide +kernel
theorem d73_46 : decode (tb_me 73).1.2.1 46 = .ok (.iconst 5, 1) := by decide +kernel
theorem d73_47 : decode (tb_me 73).1.2.1 47 = .ok (.imul, 1) := by decide +kernel
theorem d73_48 : decode (tb_me 73).1.2.1 48 = .ok (.iload_n 3, 1) := by decide +kernel
theorem d73_49 : decode (tb_me 73).1.2.1 49 = .ok (.iadd, 1) := by decide +kernel
theorem d73_50 : decode (tb_me 73).1.2.1 50 = .ok (.iaload, 1) := by decide +kernel
theorem d73_51 : decode (tb_me 73).1.2.1 51 = .ok (.iadd, 1) := by decide +kernel
theorem d73_52 : decode (tb_me 73).1.2.1 52 = .ok (.istore_n 2, 1) := by decide +kernel
theorem d73_53 : decode (tb_me 73).1.2.1 53 = .ok (.iinc 3 1, 3) := by decide +kernel
theorem d73_56 : decode (tb_me 73).1.2.1 56 = .ok (.iinc 5 1, 3) := by decide +kernel
theorem d73_59 : decode (tb_me 73).1.2.1 59 = .ok (.goto (-40), 3) := by decide +kernel
theorem d73_9 : decode (tb_me 73).1.2.1 9 = .ok (.iload 4, 2) := by decide +kernel
theorem d73_11 : decode (tb_me 73).1.2.1 11 = .ok (.bipush 10, 2) := by decide +kernel
theorem d73_13 : decode (tb_me 73).1.2.1 13 = .ok (.if_icmp .ge 55, 3) := by decide +kernel
theorem d73_16 : decode (tb_me 73).1.2.1 16 = .ok (.iconst 0, 1) := by decide +kernel
theorem d73_17 : decode (tb_me 73).1.2.1 17 = .ok (.istore 5, 2) := by decide +kernel
theorem d73_62 : decode (tb_me 73).1.2.1 62 = .ok (.iinc 4 1, 3) := by decide +kernel
theorem d73_65 : decode (tb_me 73).1.2.1 65 = .ok (.goto (-56), 3) := by decide +kernel
theorem d73_0 : decode (tb_me 73).1.2.1 0 = .ok (.iconst 0, 1) := by decide +kernel
theorem d73_1 : decode (tb_me 73).1.2.1 1 = .ok (.istore_n 2, 1) := by decide +kernel
theorem d73_2 : decode (tb_me 73).1.2.1 2 = .ok (.iconst 5, 1) := by decide +kernel
theorem d73_3 : decode (tb_me 73).1.2.1 3 = .ok (.iload_n 1, 1) := by decide +kernel
theorem d73_4 : decode (tb_me 73).1.2.1 4 = .ok (.isub, 1) := by decide +kernel
theorem d73_5 : decode (tb_me 73).1.2.1 5 = .ok (.istore_n 3, 1) := by decide +kernel
theorem d73_6 : decode (tb_me 73).1.2.1 6 = .ok (.iconst 0, 1) := by decide +kernel
theorem d73_7 : decode (tb_me 73).1.2.1 7 = .ok (.istore 4, 2) := by decide +kernel
theorem d73_68 : decode (tb_me 73).1.2.1 68 = .ok (.iload_n 2, 1) := by decide +kernel
theorem d73_69 : decode (tb_me 73).1.2.1 69 = .ok (.sipush 3003, 3) := by decide +kernel
theorem d73_72 : decode (tb_me 73).1.2.1 72 = .ok (.if_icmp .ge 7, 3) := by decide +kernel
theorem d73_79 : decode (tb_me 73).1.2.1 79 = .ok (.iconst 0, 1) := by decide +kernel
theorem d73_80 : decode (tb_me 73).1.2.1 80 = .ok (.ireturn, 1) := by decide +kernel
theorem t73 : (tb_me 73).1.2.2.2 = some .int := by decide +kernel
theorem d73_75 : decode (tb_me 73).1.2.1 75 = .ok (.iload_n 2, 1) := by decide +kernel
theorem d73_76 : decode (tb_me 73).1.2.1 76 = .ok (.goto 4, 3) := by decide +kernel
theorem e73 : (tb_me 73).2.1 = (0, 0) ∧ (tb_me 73).1.2.2.1 = 6 := by decide +kernel
theorem d87_34 : decode (tb_me 87).1.2.1 34 = .ok (.iload_n 3, 1) := by decide +kernel
theorem d87_35 : decode (tb_me 87).1.2.1 35 = .ok (.aload_n 0, 1) := by decide +kernel
theorem d87_36 : decode (tb_me 87).1.2.1 36 = .ok (.getfield 25, 3) := by decide +kernel
theorem k87_25 (b : Bool) : tb_lk b 87 25 = (1, 5, 4, 0, 0) := by cases b <;> decide +kernel
theorem f5_4 : (4 < pm_nf tb_cl 5) ∧ tb_ft 5 4 ≠ .long ∧ pm_isR (tb_ft 5 4) = false := by decide +kernel
theorem d87_39 : decode (tb_me 87).1.2.1 39 = .ok (.if_icmp .ge 28, 3) := by decide +kernel
theorem d87_42 : decode (tb_me 87).1.2.1 42 = .ok (.aload_n 0, 1) := by decide +kernel
theorem d87_43 : decode (tb_me 87).1.2.1 43 = .ok (.getfield 15, 3) := by decide +kernel
theorem k87_15 (b : Bool) : tb_lk b 87 15 = (1, 5, 1, 0, 0) := by cases b <;> decide +kernel
theorem f5_1 : (1 < pm_nf tb_cl 5) ∧ tb_ft 5 1 ≠ .long ∧ pm_isR (tb_ft 5 1) = true := by decide +kernel
theorem d87_46 : decode (tb_me 87).1.2.1 46 = .ok (.aload_n 0, 1) := by decide +kernel
theorem d87_47 : decode (tb_me 87).1.2.1 47 = .ok (.getfield 25, 3) := by decide +kernel
theorem d87_50 : decode (tb_me 87).1.2.1 50 = .ok (.iconst 5, 1) := by decide +kernel
theorem d87_51 : decode (tb_me 87).1.2.1 51 = .ok (.imul, 1) := by decide +kernel
theorem d87_52 : decode (tb_me 87).1.2.1 52 = .ok (.iload_n 3, 1) := by decide +kernel
theorem d87_53 : decode (tb_me 87).1.2.1 53 = .ok (.iadd, 1) := by decide +kernel
theorem d87_54 : decode (tb_me 87).1.2.1 54 = .ok (.aload_n 1, 1) := by decide +kernel
theorem d87_55 : decode (tb_me 87).1.2.1 55 = .ok (.iload_n 2, 1) := by decide +kernel
theorem d87_56 : decode (tb_me 87).1.2.1 56 = .ok (.iload_n 3, 1) := by decide +kernel
theorem d87_57 : decode (tb_me 87).1.2.1 57 = .ok (.invokevirtual 44, 3) := by decide +kernel
theorem k87_44 (b : Bool) : tb_lk b 87 44 = (2, 116, 0, 0, 0) := by cases b <;> decide +kernel
theorem d87_60 : decode (tb_me 87).1.2.1 60 = .ok (.iastore, 1) := by decide +kernel
theorem d87_61 : decode (tb_me 87).1.2.1 61 = .ok (.iinc 3 1, 3) := by decide +kernel
theorem d87_64 : decode (tb_me 87).1.2.1 64 = .ok (.goto (-30), 3) := by decide +kernel
theorem d87_29 : decode (tb_me 87).1.2.1 29 = .ok (.putfield 25, 3) := by decide +kernel
theorem p87_5_4 : (4 < pm_nf tb_cl 5) ∧ tb_ft 5 4 = .int ∧ pm_fin tb_cl (tb_me 87).1.1 5 4 = true := by decide +kernel
theorem d87_32 : decode (tb_me 87).1.2.1 32 = .ok (.iconst 0, 1) := by decide +kernel
theorem d87_33 : decode (tb_me 87).1.2.1 33 = .ok (.istore_n 3, 1) := by decide +kernel
theorem d87_67 : decode (tb_me 87).1.2.1 67 = .ok (.aload_n 0, 1) := by decide +kernel
theorem d87_68 : decode (tb_me 87).1.2.1 68 = .ok (.aload_n 0, 1) := by decide +kernel
theorem d87_69 : decode (tb_me 87).1.2.1 69 = .ok (.getfield 25, 3) := by decide +kernel
theorem d87_72 : decode (tb_me 87).1.2.1 72 = .ok (.putfield 33, 3) := by decide +kernel
theorem k87_33 (b : Bool) : tb_lk b 87 33 = (1, 5, 6, 0, 0) := by cases b <;> decide +kernel
theorem p87_5_6 : (6 < pm_nf tb_cl 5) ∧ tb_ft 5 6 = .int ∧ pm_fin tb_cl (tb_me 87).1.1 5 6 = true := by decide +kernel
theorem d87_75 : decode (tb_me 87).1.2.1 75 = .ok (.aload_n 0, 1) := by decide +kernel
theorem d87_76 : decode (tb_me 87).1.2.1 76 = .ok (.getfield 19, 3) := by decide +kernel
theorem k87_19 (b : Bool) : tb_lk b 87 19 = (1, 5, 2, 0, 0) := by cases b <;> decide +kernel
theorem f5_2 : (2 < pm_nf tb_cl 5) ∧ tb_ft 5 2 ≠ .long ∧ pm_isR (tb_ft 5 2) = true := by decide +kernel
theorem d87_79 : decode (tb_me 87).1.2.1 79 = .ok (.aload_n 0, 1) := by decide +kernel
theorem d87_80 : decode (tb_me 87).1.2.1 80 = .ok (.getfield 25, 3) := by decide +kernel
theorem d87_83 : decode (tb_me 87).1.2.1 83 = .ok (.iconst 0, 1) := by decide +kernel
theorem d87_84 : decode (tb_me 87).1.2.1 84 = .ok (.iastore, 1) := by decide +kernel
theorem d87_85 : decode (tb_me 87).1.2.1 85 = .ok (.aload_n 0, 1) := by decide +kernel
theorem d87_86 : decode (tb_me 87).1.2.1 86 = .ok (.getfield 22, 3) := by decide +kernel
theorem k87_22 (b : Bool) : tb_lk b 87 22 = (1, 5, 3, 0, 0) := by cases b <;> decide +kernel
theorem f5_3 : (3 < pm_nf tb_cl 5) ∧ tb_ft 5 3 ≠ .long ∧ pm_isR (tb_ft 5 3) = true := by decide +kernel
theorem d87_89 : decode (tb_me 87).1.2.1 89 = .ok (.aload_n 0, 1) := by decide +kernel
theorem d87_90 : decode (tb_me 87).1.2.1 90 = .ok (.getfield 25, 3) := by decide +kernel
theorem d87_93 : decode (tb_me 87).1.2.1 93 = .ok (.iconst 0, 1) := by decide +kernel
theorem d87_94 : decode (tb_me 87).1.2.1 94 = .ok (.iastore, 1) := by decide +kernel
theorem d87_95 : decode (tb_me 87).1.2.1 95 = .ok (.return_, 1) := by decide +kernel
theorem t87 : (tb_me 87).1.2.2.2 = none := by decide +kernel
theorem d87_0 : decode (tb_me 87).1.2.1 0 = .ok (.aload_n 0, 1) := by decide +kernel
theorem d87_1 : decode (tb_me 87).1.2.1 1 = .ok (.aload_n 1, 1) := by decide +kernel
theorem d87_2 : decode (tb_me 87).1.2.1 2 = .ok (.putfield 9, 3) := by decide +kernel
theorem k87_9 (b : Bool) : tb_lk b 87 9 = (1, 5, 0, 0, 0) := by cases b <;> decide +kernel
theorem p87_5_0 : (0 < pm_nf tb_cl 5) ∧ pm_isR (tb_ft 5 0) = true ∧ pm_fin tb_cl (tb_me 87).1.1 5 0 = true := by decide +kernel
theorem d87_5 : decode (tb_me 87).1.2.1 5 = .ok (.aload_n 0, 1) := by decide +kernel
theorem d87_6 : decode (tb_me 87).1.2.1 6 = .ok (.iconst 1, 1) := by decide +kernel
theorem d87_7 : decode (tb_me 87).1.2.1 7 = .ok (.putfield 29, 3) := by decide +kernel
theorem k87_29 (b : Bool) : tb_lk b 87 29 = (1, 5, 5, 0, 0) := by cases b <;> decide +kernel
theorem p87_5_5 : (5 < pm_nf tb_cl 5) ∧ tb_ft 5 5 = .boolean ∧ pm_fin tb_cl (tb_me 87).1.1 5 5 = true := by decide +kernel
theorem d87_10 : decode (tb_me 87).1.2.1 10 = .ok (.aload_n 0, 1) := by decide +kernel
theorem d87_11 : decode (tb_me 87).1.2.1 11 = .ok (.aload_n 1, 1) := by decide +kernel
theorem d87_12 : decode (tb_me 87).1.2.1 12 = .ok (.iload_n 2, 1) := by decide +kernel
theorem d87_13 : decode (tb_me 87).1.2.1 13 = .ok (.invokevirtual 36, 3) := by decide +kernel
theorem k87_36 (b : Bool) : tb_lk b 87 36 = (2, 121, 0, 0, 0) := by cases b <;> decide +kernel
theorem m121 : (tb_me 121).2 = ((0, 0), (1, 7)) ∧ (tb_me 121).1.2.2.1 = 3 := by decide +kernel
theorem d87_16 : decode (tb_me 87).1.2.1 16 = .ok (.ifCond .eq 12, 3) := by decide +kernel
theorem d87_28 : decode (tb_me 87).1.2.1 28 = .ok (.iconst 0, 1) := by decide +kernel
theorem d87_19 : decode (tb_me 87).1.2.1 19 = .ok (.aload_n 1, 1) := by decide +kernel
theorem d87_20 : decode (tb_me 87).1.2.1 20 = .ok (.getfield 42, 3) := by decide +kernel
theorem k87_42 (b : Bool) : tb_lk b 87 42 = (1, 7, 7, 0, 0) := by cases b <;> decide +kernel
theorem d87_23 : decode (tb_me 87).1.2.1 23 = .ok (.iload_n 2, 1) := by decide +kernel
theorem d87_24 : decode (tb_me 87).1.2.1 24 = .ok (.iaload, 1) := by decide +kernel
theorem d87_25 : decode (tb_me 87).1.2.1 25 = .ok (.goto 4, 3) := by decide +kernel
theorem e87 : (tb_me 87).2.1 = (0, 0) ∧ (tb_me 87).1.2.2.1 = 4 := by decide +kernel
theorem d89_23 : decode (tb_me 89).1.2.1 23 = .ok (.istore_n 3, 1) := by decide +kernel
theorem d89_24 : decode (tb_me 89).1.2.1 24 = .ok (.iload_n 3, 1) := by decide +kernel
theorem d89_25 : decode (tb_me 89).1.2.1 25 = .ok (.ifCond .eq 16, 3) := by decide +kernel
theorem d89_41 : decode (tb_me 89).1.2.1 41 = .ok (.iconst (-1), 1) := by decide +kernel
theorem d89_42 : decode (tb_me 89).1.2.1 42 = .ok (.ireturn, 1) := by decide +kernel
theorem t89 : (tb_me 89).1.2.2.2 = some .int := by decide +kernel
theorem d89_28 : decode (tb_me 89).1.2.1 28 = .ok (.aload_n 0, 1) := by decide +kernel
theorem d89_29 : decode (tb_me 89).1.2.1 29 = .ok (.getfield 15, 3) := by decide +kernel
theorem k89_15 (b : Bool) : tb_lk b 89 15 = (1, 5, 1, 0, 0) := by cases b <;> decide +kernel
theorem d89_32 : decode (tb_me 89).1.2.1 32 = .ok (.iload_n 1, 1) := by decide +kernel
theorem d89_33 : decode (tb_me 89).1.2.1 33 = .ok (.iconst 5, 1) := by decide +kernel
theorem d89_34 : decode (tb_me 89).1.2.1 34 = .ok (.imul, 1) := by decide +kernel
theorem d89_35 : decode (tb_me 89).1.2.1 35 = .ok (.iload_n 2, 1) := by decide +kernel
theorem d89_36 : decode (tb_me 89).1.2.1 36 = .ok (.iadd, 1) := by decide +kernel
theorem d89_37 : decode (tb_me 89).1.2.1 37 = .ok (.iaload, 1) := by decide +kernel
theorem d89_38 : decode (tb_me 89).1.2.1 38 = .ok (.goto 4, 3) := by decide +kernel
theorem d89_0 : decode (tb_me 89).1.2.1 0 = .ok (.iload_n 1, 1) := by decide +kernel
theorem d89_1 : decode (tb_me 89).1.2.1 1 = .ok (.ifCond .lt 21, 3) := by decide +kernel
theorem d89_22 : decode (tb_me 89).1.2.1 22 = .ok (.iconst 0, 1) := by decide +kernel
theorem d89_4 : decode (tb_me 89).1.2.1 4 = .ok (.iload_n 1, 1) := by decide +kernel
theorem d89_5 : decode (tb_me 89).1.2.1 5 = .ok (.iconst 5, 1) := by decide +kernel
theorem d89_6 : decode (tb_me 89).1.2.1 6 = .ok (.if_icmp .gt 16, 3) := by decide +kernel
theorem d89_9 : decode (tb_me 89).1.2.1 9 = .ok (.iload_n 2, 1) := by decide +kernel
theorem d89_10 : decode (tb_me 89).1.2.1 10 = .ok (.ifCond .lt 12, 3) := by decide +kernel
theorem d89_13 : decode (tb_me 89).1.2.1 13 = .ok (.iload_n 2, 1) := by decide +kernel
theorem d89_14 : decode (tb_me 89).1.2.1 14 = .ok (.iload_n 1, 1) := by decide +kernel
theorem d89_15 : decode (tb_me 89).1.2.1 15 = .ok (.if_icmp .ge 7, 3) := by decide +kernel
theorem d89_18 : decode (tb_me 89).1.2.1 18 = .ok (.iconst 1, 1) := by decide +kernel
theorem d89_19 : decode (tb_me 89).1.2.1 19 = .ok (.goto 4, 3) := by decide +kernel
theorem e89 : (tb_me 89).2.1 = (0, 0) ∧ (tb_me 89).1.2.2.1 = 4 := by decide +kernel
theorem d92_0 : decode (tb_me 92).1.2.1 0 = .ok (.aload_n 0, 1) := by decide +kernel
theorem d92_1 : decode (tb_me 92).1.2.1 1 = .ok (.getfield 33, 3) := by decide +kernel
theorem k92_33 (b : Bool) : tb_lk b 92 33 = (1, 5, 6, 0, 0) := by cases b <;> decide +kernel
theorem f5_6 : (6 < pm_nf tb_cl 5) ∧ tb_ft 5 6 ≠ .long ∧ pm_isR (tb_ft 5 6) = false := by decide +kernel
theorem d92_4 : decode (tb_me 92).1.2.1 4 = .ok (.iconst 5, 1) := by decide +kernel
theorem d92_5 : decode (tb_me 92).1.2.1 5 = .ok (.imul, 1) := by decide +kernel
theorem d92_6 : decode (tb_me 92).1.2.1 6 = .ok (.istore 4, 2) := by decide +kernel
theorem d92_8 : decode (tb_me 92).1.2.1 8 = .ok (.iload 4, 2) := by decide +kernel
theorem d92_10 : decode (tb_me 92).1.2.1 10 = .ok (.iconst 5, 1) := by decide +kernel
theorem d92_11 : decode (tb_me 92).1.2.1 11 = .ok (.iadd, 1) := by decide +kernel
theorem d92_12 : decode (tb_me 92).1.2.1 12 = .ok (.istore 5, 2) := by decide +kernel
theorem d92_14 : decode (tb_me 92).1.2.1 14 = .ok (.aload_n 0, 1) := by decide +kernel
theorem d92_15 : decode (tb_me 92).1.2.1 15 = .ok (.getfield 15, 3) := by decide +kernel
theorem k92_15 (b : Bool) : tb_lk b 92 15 = (1, 5, 1, 0, 0) := by cases b <;> decide +kernel
theorem d92_18 : decode (tb_me 92).1.2.1 18 = .ok (.iload 4, 2) := by decide +kernel
theorem d92_20 : decode (tb_me 92).1.2.1 20 = .ok (.aload_n 0, 1) := by decide +kernel
theorem d92_21 : decode (tb_me 92).1.2.1 21 = .ok (.getfield 15, 3) := by decide +kernel
theorem d92_24 : decode (tb_me 92).1.2.1 24 = .ok (.iload 5, 2) := by decide +kernel
theorem d92_26 : decode (tb_me 92).1.2.1 26 = .ok (.iload_n 1, 1) := by decide +kernel
theorem d92_27 : decode (tb_me 92).1.2.1 27 = .ok (.invokestatic 76, 3) := by decide +kernel
theorem k92_76 (b : Bool) : tb_lk b 92 76 = (14, 0, 0, 0, 0) := by cases b <;> decide +kernel
theorem d92_30 : decode (tb_me 92).1.2.1 30 = .ok (.aload_n 0, 1) := by decide +kernel
theorem d92_31 : decode (tb_me 92).1.2.1 31 = .ok (.getfield 15, 3) := by decide +kernel
theorem d92_34 : decode (tb_me 92).1.2.1 34 = .ok (.iload 5, 2) := by decide +kernel
theorem d92_36 : decode (tb_me 92).1.2.1 36 = .ok (.iload_n 1, 1) := by decide +kernel
theorem d92_37 : decode (tb_me 92).1.2.1 37 = .ok (.iadd, 1) := by decide +kernel
theorem d92_38 : decode (tb_me 92).1.2.1 38 = .ok (.iload_n 2, 1) := by decide +kernel
theorem d92_39 : decode (tb_me 92).1.2.1 39 = .ok (.iastore, 1) := by decide +kernel
theorem d92_40 : decode (tb_me 92).1.2.1 40 = .ok (.aload_n 0, 1) := by decide +kernel
theorem d92_41 : decode (tb_me 92).1.2.1 41 = .ok (.getfield 15, 3) := by decide +kernel
theorem d92_44 : decode (tb_me 92).1.2.1 44 = .ok (.iload 5, 2) := by decide +kernel
theorem d92_46 : decode (tb_me 92).1.2.1 46 = .ok (.iload_n 1, 1) := by decide +kernel
theorem d92_47 : decode (tb_me 92).1.2.1 47 = .ok (.iadd, 1) := by decide +kernel
theorem d92_48 : decode (tb_me 92).1.2.1 48 = .ok (.iconst 1, 1) := by decide +kernel
theorem d92_49 : decode (tb_me 92).1.2.1 49 = .ok (.iadd, 1) := by decide +kernel
theorem d92_50 : decode (tb_me 92).1.2.1 50 = .ok (.iload_n 3, 1) := by decide +kernel
theorem d92_51 : decode (tb_me 92).1.2.1 51 = .ok (.iastore, 1) := by decide +kernel
theorem d92_52 : decode (tb_me 92).1.2.1 52 = .ok (.aload_n 0, 1) := by decide +kernel
theorem d92_53 : decode (tb_me 92).1.2.1 53 = .ok (.getfield 15, 3) := by decide +kernel
theorem d92_56 : decode (tb_me 92).1.2.1 56 = .ok (.iload 4, 2) := by decide +kernel
theorem d92_58 : decode (tb_me 92).1.2.1 58 = .ok (.iload_n 1, 1) := by decide +kernel
theorem d92_59 : decode (tb_me 92).1.2.1 59 = .ok (.iadd, 1) := by decide +kernel
theorem d92_60 : decode (tb_me 92).1.2.1 60 = .ok (.iconst 1, 1) := by decide +kernel
theorem d92_61 : decode (tb_me 92).1.2.1 61 = .ok (.iadd, 1) := by decide +kernel
theorem d92_62 : decode (tb_me 92).1.2.1 62 = .ok (.aload_n 0, 1) := by decide +kernel
theorem d92_63 : decode (tb_me 92).1.2.1 63 = .ok (.getfield 15, 3) := by decide +kernel
theorem d92_66 : decode (tb_me 92).1.2.1 66 = .ok (.iload 5, 2) := by decide +kernel
theorem d92_68 : decode (tb_me 92).1.2.1 68 = .ok (.iload_n 1, 1) := by decide +kernel
theorem d92_69 : decode (tb_me 92).1.2.1 69 = .ok (.iadd, 1) := by decide +kernel
theorem d92_70 : decode (tb_me 92).1.2.1 70 = .ok (.iconst 2, 1) := by decide +kernel
theorem d92_71 : decode (tb_me 92).1.2.1 71 = .ok (.iadd, 1) := by decide +kernel
theorem d92_72 : decode (tb_me 92).1.2.1 72 = .ok (.aload_n 0, 1) := by decide +kernel
theorem d92_73 : decode (tb_me 92).1.2.1 73 = .ok (.getfield 33, 3) := by decide +kernel
theorem d92_76 : decode (tb_me 92).1.2.1 76 = .ok (.iload_n 1, 1) := by decide +kernel
theorem d92_77 : decode (tb_me 92).1.2.1 77 = .ok (.isub, 1) := by decide +kernel
theorem d92_78 : decode (tb_me 92).1.2.1 78 = .ok (.iconst 1, 1) := by decide +kernel
theorem d92_79 : decode (tb_me 92).1.2.1 79 = .ok (.isub, 1) := by decide +kernel
theorem d92_80 : decode (tb_me 92).1.2.1 80 = .ok (.invokestatic 76, 3) := by decide +kernel
theorem d92_83 : decode (tb_me 92).1.2.1 83 = .ok (.aload_n 0, 1) := by decide +kernel
theorem d92_84 : decode (tb_me 92).1.2.1 84 = .ok (.getfield 19, 3) := by decide +kernel
theorem k92_19 (b : Bool) : tb_lk b 92 19 = (1, 5, 2, 0, 0) := by cases b <;> decide +kernel
theorem d92_87 : decode (tb_me 92).1.2.1 87 = .ok (.aload_n 0, 1) := by decide +kernel
theorem d92_88 : decode (tb_me 92).1.2.1 88 = .ok (.getfield 33, 3) := by decide +kernel
theorem d92_91 : decode (tb_me 92).1.2.1 91 = .ok (.iconst 1, 1) := by decide +kernel
theorem d92_92 : decode (tb_me 92).1.2.1 92 = .ok (.iadd, 1) := by decide +kernel
theorem d92_93 : decode (tb_me 92).1.2.1 93 = .ok (.iconst 0, 1) := by decide +kernel
theorem d92_94 : decode (tb_me 92).1.2.1 94 = .ok (.iastore, 1) := by decide +kernel
theorem d92_95 : decode (tb_me 92).1.2.1 95 = .ok (.aload_n 0, 1) := by decide +kernel
theorem d92_96 : decode (tb_me 92).1.2.1 96 = .ok (.getfield 22, 3) := by decide +kernel
theorem k92_22 (b : Bool) : tb_lk b 92 22 = (1, 5, 3, 0, 0) := by cases b <;> decide +kernel
theorem d92_99 : decode (tb_me 92).1.2.1 99 = .ok (.aload_n 0, 1) := by decide +kernel
theorem d92_100 : decode (tb_me 92).1.2.1 100 = .ok (.getfield 33, 3) := by decide +kernel
theorem d92_103 : decode (tb_me 92).1.2.1 103 = .ok (.iconst 1, 1) := by decide +kernel
theorem d92_104 : decode (tb_me 92).1.2.1 104 = .ok (.iadd, 1) := by decide +kernel
theorem d92_105 : decode (tb_me 92).1.2.1 105 = .ok (.iconst 0, 1) := by decide +kernel
theorem d92_106 : decode (tb_me 92).1.2.1 106 = .ok (.iastore, 1) := by decide +kernel
theorem d92_107 : decode (tb_me 92).1.2.1 107 = .ok (.return_, 1) := by decide +kernel
theorem t92 : (tb_me 92).1.2.2.2 = none := by decide +kernel
theorem e92 : (tb_me 92).2.1 = (0, 0) ∧ (tb_me 92).1.2.2.1 = 6 := by decide +kernel
theorem d71_79 : decode (tb_me 71).1.2.1 79 = .ok (.istore 4, 2) := by decide +kernel
theorem d71_81 : decode (tb_me 71).1.2.1 81 = .ok (.iload_n 1, 1) := by decide +kernel
theorem d71_82 : decode (tb_me 71).1.2.1 82 = .ok (.ifCond .lt 30, 3) := by decide +kernel
theorem d71_112 : decode (tb_me 71).1.2.1 112 = .ok (.iload 4, 2) := by decide +kernel
theorem d71_114 : decode (tb_me 71).1.2.1 114 = .ok (.ireturn, 1) := by decide +kernel
theorem t71 : (tb_me 71).1.2.2.2 = some .int := by decide +kernel
theorem d71_85 : decode (tb_me 71).1.2.1 85 = .ok (.iload_n 3, 1) := by decide +kernel
theorem d71_86 : decode (tb_me 71).1.2.1 86 = .ok (.iconst 5, 1) := by decide +kernel
theorem d71_87 : decode (tb_me 71).1.2.1 87 = .ok (.if_icmp .ge 25, 3) := by decide +kernel
theorem d71_90 : decode (tb_me 71).1.2.1 90 = .ok (.aload_n 0, 1) := by decide +kernel
theorem d71_91 : decode (tb_me 71).1.2.1 91 = .ok (.iload_n 1, 1) := by decide +kernel
theorem d71_92 : decode (tb_me 71).1.2.1 92 = .ok (.invokevirtual 63, 3) := by decide +kernel
theorem k71_63 (b : Bool) : tb_lk b 71 63 = (2, 72, 0, 0, 0) := by cases b <;> decide +kernel
theorem m72 : (tb_me 72).2 = ((0, 0), (1, 2)) ∧ (tb_me 72).1.2.2.1 = 2 := by decide +kernel
theorem d71_95 : decode (tb_me 71).1.2.1 95 = .ok (.iload 4, 2) := by decide +kernel
theorem d71_97 : decode (tb_me 71).1.2.1 97 = .ok (.aload_n 0, 1) := by decide +kernel
theorem d71_98 : decode (tb_me 71).1.2.1 98 = .ok (.getfield 22, 3) := by decide +kernel
theorem k71_22 (b : Bool) : tb_lk b 71 22 = (1, 2, 2, 0, 0) := by cases b <;> decide +kernel
theorem f2_2 : (2 < pm_nf tb_cl 2) ∧ tb_ft 2 2 ≠ .long ∧ pm_isR (tb_ft 2 2) = true := by decide +kernel
theorem d71_101 : decode (tb_me 71).1.2.1 101 = .ok (.aload_n 0, 1) := by decide +kernel
theorem d71_102 : decode (tb_me 71).1.2.1 102 = .ok (.iload_n 3, 1) := by decide +kernel
theorem d71_103 : decode (tb_me 71).1.2.1 103 = .ok (.iconst 1, 1) := by decide +kernel
theorem d71_104 : decode (tb_me 71).1.2.1 104 = .ok (.iadd, 1) := by decide +kernel
theorem d71_105 : decode (tb_me 71).1.2.1 105 = .ok (.invokevirtual 67, 3) := by decide +kernel
theorem k71_67 (b : Bool) : tb_lk b 71 67 = (2, 73, 0, 0, 0) := by cases b <;> decide +kernel
theorem m73 : (tb_me 73).2 = ((0, 0), (1, 2)) ∧ (tb_me 73).1.2.2.1 = 6 := by decide +kernel
theorem d71_108 : decode (tb_me 71).1.2.1 108 = .ok (.iaload, 1) := by decide +kernel
theorem d71_109 : decode (tb_me 71).1.2.1 109 = .ok (.ior, 1) := by decide +kernel
theorem d71_110 : decode (tb_me 71).1.2.1 110 = .ok (.istore 4, 2) := by decide +kernel
theorem d71_55 : decode (tb_me 71).1.2.1 55 = .ok (.iload_n 2, 1) := by decide +kernel
theorem d71_56 : decode (tb_me 71).1.2.1 56 = .ok (.invokestatic 90, 3) := by decide +kernel
theorem k71_90 (b : Bool) : tb_lk b 71 90 = (4, 259, 0, 0, 0) := by cases b <;> decide +kernel
theorem m259 : (tb_me 259).2 = ((0, 0), (1, 999)) ∧ (tb_me 259).1.2.2.1 = 1 := by decide +kernel
theorem d71_59 : decode (tb_me 71).1.2.1 59 = .ok (.istore_n 3, 1) := by decide +kernel
theorem d71_60 : decode (tb_me 71).1.2.1 60 = .ok (.iload_n 3, 1) := by decide +kernel
theorem d71_61 : decode (tb_me 71).1.2.1 61 = .ok (.iconst 5, 1) := by decide +kernel
theorem d71_62 : decode (tb_me 71).1.2.1 62 = .ok (.if_icmp .le 7, 3) := by decide +kernel
theorem d71_69 : decode (tb_me 71).1.2.1 69 = .ok (.aload_n 0, 1) := by decide +kernel
theorem d71_70 : decode (tb_me 71).1.2.1 70 = .ok (.getfield 22, 3) := by decide +kernel
theorem d71_73 : decode (tb_me 71).1.2.1 73 = .ok (.aload_n 0, 1) := by decide +kernel
theorem d71_74 : decode (tb_me 71).1.2.1 74 = .ok (.iload_n 3, 1) := by decide +kernel
theorem d71_75 : decode (tb_me 71).1.2.1 75 = .ok (.invokevirtual 67, 3) := by decide +kernel
theorem d71_78 : decode (tb_me 71).1.2.1 78 = .ok (.iaload, 1) := by decide +kernel
theorem d71_65 : decode (tb_me 71).1.2.1 65 = .ok (.iconst 0, 1) := by decide +kernel
theorem d71_66 : decode (tb_me 71).1.2.1 66 = .ok (.goto 13, 3) := by decide +kernel
theorem d71_10 : decode (tb_me 71).1.2.1 10 = .ok (.aload_n 0, 1) := by decide +kernel
theorem d71_11 : decode (tb_me 71).1.2.1 11 = .ok (.getfield 9, 3) := by decide +kernel
theorem k71_9 (b : Bool) : tb_lk b 71 9 = (1, 2, 0, 0, 0) := by cases b <;> decide +kernel
theorem f2_0 : (0 < pm_nf tb_cl 2) ∧ tb_ft 2 0 ≠ .long ∧ pm_isR (tb_ft 2 0) = true := by decide +kernel
theorem d71_14 : decode (tb_me 71).1.2.1 14 = .ok (.ifnull 41, 3) := by decide +kernel
theorem d71_17 : decode (tb_me 71).1.2.1 17 = .ok (.iload_n 3, 1) := by decide +kernel
theorem d71_18 : decode (tb_me 71).1.2.1 18 = .ok (.aload_n 0, 1) := by decide +kernel
theorem d71_19 : decode (tb_me 71).1.2.1 19 = .ok (.getfield 9, 3) := by decide +kernel
theorem d71_22 : decode (tb_me 71).1.2.1 22 = .ok (.getfield 76, 3) := by decide +kernel
theorem k71_76 (b : Bool) : tb_lk b 71 76 = (1, 7, 1, 0, 0) := by cases b <;> decide +kernel
theorem d71_25 : decode (tb_me 71).1.2.1 25 = .ok (.if_icmp .ge 30, 3) := by decide +kernel
theorem d71_28 : decode (tb_me 71).1.2.1 28 = .ok (.iload_n 2, 1) := by decide +kernel
theorem d71_29 : decode (tb_me 71).1.2.1 29 = .ok (.iload_n 3, 1) := by decide +kernel
theorem d71_30 : decode (tb_me 71).1.2.1 30 = .ok (.invokestatic 70, 3) := by decide +kernel
theorem k71_70 (b : Bool) : tb_lk b 71 70 = (5, 34, 0, 0, 0) := by cases b <;> decide +kernel
theorem d71_33 : decode (tb_me 71).1.2.1 33 = .ok (.iconst 1, 1) := by decide +kernel
theorem d71_34 : decode (tb_me 71).1.2.1 34 = .ok (.if_icmp .ne 15, 3) := by decide +kernel
theorem d71_49 : decode (tb_me 71).1.2.1 49 = .ok (.iinc 3 1, 3) := by decide +kernel
theorem d71_52 : decode (tb_me 71).1.2.1 52 = .ok (.goto (-42), 3) := by decide +kernel
theorem d71_37 : decode (tb_me 71).1.2.1 37 = .ok (.aload_n 0, 1) := by decide +kernel
theorem d71_38 : decode (tb_me 71).1.2.1 38 = .ok (.aload_n 0, 1) := by decide +kernel
theorem d71_39 : decode (tb_me 71).1.2.1 39 = .ok (.getfield 9, 3) := by decide +kernel
theorem d71_42 : decode (tb_me 71).1.2.1 42 = .ok (.iload_n 3, 1) := by decide +kernel
theorem d71_43 : decode (tb_me 71).1.2.1 43 = .ok (.invokevirtual 87, 3) := by decide +kernel
theorem k71_87 (b : Bool) : tb_lk b 71 87 = (2, 115, 0, 0, 0) := by cases b <;> decide +kernel
theorem m115 : (tb_me 115).2 = ((0, 0), (1, 7)) ∧ (tb_me 115).1.2.2.1 = 2 := by decide +kernel
theorem d71_46 : decode (tb_me 71).1.2.1 46 = .ok (.invokevirtual 63, 3) := by decide +kernel
theorem d71_0 : decode (tb_me 71).1.2.1 0 = .ok (.aload_n 0, 1) := by decide +kernel
theorem d71_1 : decode (tb_me 71).1.2.1 1 = .ok (.getfield 33, 3) := by decide +kernel
theorem k71_33 (b : Bool) : tb_lk b 71 33 = (1, 2, 5, 0, 0) := by cases b <;> decide +kernel
theorem d71_4 : decode (tb_me 71).1.2.1 4 = .ok (.iconst 0, 1) := by decide +kernel
theorem d71_5 : decode (tb_me 71).1.2.1 5 = .ok (.invokestatic 36, 3) := by decide +kernel
theorem k71_36 (b : Bool) : tb_lk b 71 36 = (4, 270, 0, 0, 0) := by cases b <;> decide +kernel
theorem d71_8 : decode (tb_me 71).1.2.1 8 = .ok (.iconst 0, 1) := by decide +kernel
theorem d71_9 : decode (tb_me 71).1.2.1 9 = .ok (.istore_n 3, 1) := by decide +kernel
theorem e71 : (tb_me 71).2.1 = (0, 0) ∧ (tb_me 71).1.2.2.1 = 5 := by decide +kernel
theorem d88_0 : decode (tb_me 88).1.2.1 0 = .ok (.aload_n 0, 1) := by decide +kernel
theorem d88_1 : decode (tb_me 88).1.2.1 1 = .ok (.aload_n 0, 1) := by decide +kernel
theorem d88_2 : decode (tb_me 88).1.2.1 2 = .ok (.getfield 33, 3) := by decide +kernel
theorem k88_33 (b : Bool) : tb_lk b 88 33 = (1, 5, 6, 0, 0) := by cases b <;> decide +kernel
theorem d88_5 : decode (tb_me 88).1.2.1 5 = .ok (.iload_n 1, 1) := by decide +kernel
theorem d88_6 : decode (tb_me 88).1.2.1 6 = .ok (.invokevirtual 48, 3) := by decide +kernel
theorem k88_48 (b : Bool) : tb_lk b 88 48 = (2, 89, 0, 0, 0) := by cases b <;> decide +kernel
theorem m89 : (tb_me 89).2 = ((0, 0), (2, 5)) ∧ (tb_me 89).1.2.2.1 = 4 := by decide +kernel
theorem d88_9 : decode (tb_me 88).1.2.1 9 = .ok (.ireturn, 1) := by decide +kernel
theorem t88 : (tb_me 88).1.2.2.2 = some .int := by decide +kernel
theorem e88 : (tb_me 88).2.1 = (0, 0) ∧ (tb_me 88).1.2.2.1 = 2 := by decide +kernel
theorem d91_76 : decode (tb_me 91).1.2.1 76 = .ok (.iload_n 2, 1) := by decide +kernel
theorem d91_77 : decode (tb_me 91).1.2.1 77 = .ok (.aload_n 0, 1) := by decide +kernel
theorem d91_78 : decode (tb_me 91).1.2.1 78 = .ok (.getfield 9, 3) := by decide +kernel
theorem k91_9 (b : Bool) : tb_lk b 91 9 = (1, 5, 0, 0, 0) := by cases b <;> decide +kernel
theorem f5_0 : (0 < pm_nf tb_cl 5) ∧ tb_ft 5 0 ≠ .long ∧ pm_isR (tb_ft 5 0) = true := by decide +kernel
theorem d91_81 : decode (tb_me 91).1.2.1 81 = .ok (.getfield 59, 3) := by decide +kernel
theorem k91_59 (b : Bool) : tb_lk b 91 59 = (1, 7, 3, 0, 0) := by cases b <;> decide +kernel
theorem d91_84 : decode (tb_me 91).1.2.1 84 = .ok (.if_icmp .ge 87, 3) := by decide +kernel
theorem d91_87 : decode (tb_me 91).1.2.1 87 = .ok (.aload_n 0, 1) := by decide +kernel
theorem d91_88 : decode (tb_me 91).1.2.1 88 = .ok (.getfield 9, 3) := by decide +kernel
theorem d91_91 : decode (tb_me 91).1.2.1 91 = .ok (.aload_n 0, 1) := by decide +kernel
theorem d91_92 : decode (tb_me 91).1.2.1 92 = .ok (.aload_n 0, 1) := by decide +kernel
theorem d91_93 : decode (tb_me 91).1.2.1 93 = .ok (.getfield 33, 3) := by decide +kernel
theorem k91_33 (b : Bool) : tb_lk b 91 33 = (1, 5, 6, 0, 0) := by cases b <;> decide +kernel
theorem d91_96 : decode (tb_me 91).1.2.1 96 = .ok (.iload_n 1, 1) := by decide +kernel
theorem d91_97 : decode (tb_me 91).1.2.1 97 = .ok (.iconst 1, 1) := by decide +kernel
theorem d91_98 : decode (tb_me 91).1.2.1 98 = .ok (.isub, 1) := by decide +kernel
theorem d91_99 : decode (tb_me 91).1.2.1 99 = .ok (.invokevirtual 48, 3) := by decide +kernel
theorem k91_48 (b : Bool) : tb_lk b 91 48 = (2, 89, 0, 0, 0) := by cases b <;> decide +kernel
theorem d91_102 : decode (tb_me 91).1.2.1 102 = .ok (.aload_n 0, 1) := by decide +kernel
theorem d91_103 : decode (tb_me 91).1.2.1 103 = .ok (.aload_n 0, 1) := by decide +kernel
theorem d91_104 : decode (tb_me 91).1.2.1 104 = .ok (.getfield 33, 3) := by decide +kernel
theorem d91_107 : decode (tb_me 91).1.2.1 107 = .ok (.iload_n 1, 1) := by decide +kernel
theorem d91_108 : decode (tb_me 91).1.2.1 108 = .ok (.invokevirtual 48, 3) := by decide +kernel
theorem d91_111 : decode (tb_me 91).1.2.1 111 = .ok (.iload_n 2, 1) := by decide +kernel
theorem d91_112 : decode (tb_me 91).1.2.1 112 = .ok (.invokevirtual 62, 3) := by decide +kernel
theorem k91_62 (b : Bool) : tb_lk b 91 62 = (2, 123, 0, 0, 0) := by cases b <;> decide +kernel
theorem m123 : (tb_me 123).2 = ((0, 0), (3, 7)) ∧ (tb_me 123).1.2.2.1 = 5 := by decide +kernel
theorem d91_115 : decode (tb_me 91).1.2.1 115 = .ok (.ifCond .eq 50, 3) := by decide +kernel
theorem d91_165 : decode (tb_me 91).1.2.1 165 = .ok (.iinc 2 1, 3) := by decide +kernel
theorem d91_168 : decode (tb_me 91).1.2.1 168 = .ok (.goto (-92), 3) := by decide +kernel
theorem d91_66 : decode (tb_me 91).1.2.1 66 = .ok (.aload_n 0, 1) := by decide +kernel
theorem d91_67 : decode (tb_me 91).1.2.1 67 = .ok (.getfield 22, 3) := by decide +kernel
theorem k91_22 (b : Bool) : tb_lk b 91 22 = (1, 5, 3, 0, 0) := by cases b <;> decide +kernel
theorem d91_70 : decode (tb_me 91).1.2.1 70 = .ok (.aload_n 0, 1) := by decide +kernel
theorem d91_71 : decode (tb_me 91).1.2.1 71 = .ok (.getfield 33, 3) := by decide +kernel
theorem d91_74 : decode (tb_me 91).1.2.1 74 = .ok (.iaload, 1) := by decide +kernel
theorem d91_75 : decode (tb_me 91).1.2.1 75 = .ok (.istore_n 2, 1) := by decide +kernel
theorem d91_171 : decode (tb_me 91).1.2.1 171 = .ok (.aload_n 0, 1) := by decide +kernel
theorem d91_172 : decode (tb_me 91).1.2.1 172 = .ok (.getfield 22, 3) := by decide +kernel
theorem d91_175 : decode (tb_me 91).1.2.1 175 = .ok (.aload_n 0, 1) := by decide +kernel
theorem d91_176 : decode (tb_me 91).1.2.1 176 = .ok (.getfield 33, 3) := by decide +kernel
theorem d91_179 : decode (tb_me 91).1.2.1 179 = .ok (.iconst 0, 1) := by decide +kernel
theorem d91_180 : decode (tb_me 91).1.2.1 180 = .ok (.iastore, 1) := by decide +kernel
theorem d91_181 : decode (tb_me 91).1.2.1 181 = .ok (.iinc 1 1, 3) := by decide +kernel
theorem d91_184 : decode (tb_me 91).1.2.1 184 = .ok (.goto (-165), 3) := by decide +kernel
theorem d91_19 : decode (tb_me 91).1.2.1 19 = .ok (.iload_n 1, 1) := by decide +kernel
theorem d91_20 : decode (tb_me 91).1.2.1 20 = .ok (.aload_n 0, 1) := by decide +kernel
theorem d91_21 : decode (tb_me 91).1.2.1 21 = .ok (.getfield 33, 3) := by decide +kernel
theorem d91_24 : decode (tb_me 91).1.2.1 24 = .ok (.if_icmp .ge 163, 3) := by decide +kernel
theorem d91_27 : decode (tb_me 91).1.2.1 27 = .ok (.iload_n 1, 1) := by decide +kernel
theorem d91_28 : decode (tb_me 91).1.2.1 28 = .ok (.iconst 1, 1) := by decide +kernel
theorem d91_29 : decode (tb_me 91).1.2.1 29 = .ok (.if_icmp .le 37, 3) := by decide +kernel
theorem d91_32 : decode (tb_me 91).1.2.1 32 = .ok (.aload_n 0, 1) := by decide +kernel
theorem d91_33 : decode (tb_me 91).1.2.1 33 = .ok (.getfield 9, 3) := by decide +kernel
theorem d91_36 : decode (tb_me 91).1.2.1 36 = .ok (.aload_n 0, 1) := by decide +kernel
theorem d91_37 : decode (tb_me 91).1.2.1 37 = .ok (.aload_n 0, 1) := by decide +kernel
theorem d91_38 : decode (tb_me 91).1.2.1 38 = .ok (.getfield 33, 3) := by decide +kernel
theorem d91_41 : decode (tb_me 91).1.2.1 41 = .ok (.iload_n 1, 1) := by decide +kernel
theorem d91_42 : decode (tb_me 91).1.2.1 42 = .ok (.iconst 2, 1) := by decide +kernel
theorem d91_43 : decode (tb_me 91).1.2.1 43 = .ok (.isub, 1) := by decide +kernel
theorem d91_44 : decode (tb_me 91).1.2.1 44 = .ok (.invokevirtual 48, 3) := by decide +kernel
theorem d91_47 : decode (tb_me 91).1.2.1 47 = .ok (.aload_n 0, 1) := by decide +kernel
theorem d91_48 : decode (tb_me 91).1.2.1 48 = .ok (.aload_n 0, 1) := by decide +kernel
theorem d91_49 : decode (tb_me 91).1.2.1 49 = .ok (.getfield 33, 3) := by decide +kernel
theorem d91_52 : decode (tb_me 91).1.2.1 52 = .ok (.iload_n 1, 1) := by decide +kernel
theorem d91_53 : decode (tb_me 91).1.2.1 53 = .ok (.iconst 1, 1) := by decide +kernel
theorem d91_54 : decode (tb_me 91).1.2.1 54 = .ok (.isub, 1) := by decide +kernel
theorem d91_55 : decode (tb_me 91).1.2.1 55 = .ok (.invokevirtual 48, 3) := by decide +kernel
theorem d91_58 : decode (tb_me 91).1.2.1 58 = .ok (.invokevirtual 56, 3) := by decide +kernel
theorem k91_56 (b : Bool) : tb_lk b 91 56 = (2, 117, 0, 0, 0) := by cases b <;> decide +kernel
theorem d91_61 : decode (tb_me 91).1.2.1 61 = .ok (.ifCond .lt 5, 3) := by decide +kernel
theorem d91_0 : decode (tb_me 91).1.2.1 0 = .ok (.aload_n 0, 1) := by decide +kernel
theorem d91_1 : decode (tb_me 91).1.2.1 1 = .ok (.getfield 9, 3) := by decide +kernel
theorem d91_4 : decode (tb_me 91).1.2.1 4 = .ok (.ifnonnull 5, 3) := by decide +kernel
theorem d91_9 : decode (tb_me 91).1.2.1 9 = .ok (.aload_n 0, 1) := by decide +kernel
theorem d91_10 : decode (tb_me 91).1.2.1 10 = .ok (.getfield 19, 3) := by decide +kernel
theorem k91_19 (b : Bool) : tb_lk b 91 19 = (1, 5, 2, 0, 0) := by cases b <;> decide +kernel
theorem d91_13 : decode (tb_me 91).1.2.1 13 = .ok (.aload_n 0, 1) := by decide +kernel
theorem d91_14 : decode (tb_me 91).1.2.1 14 = .ok (.getfield 33, 3) := by decide +kernel
theorem d91_17 : decode (tb_me 91).1.2.1 17 = .ok (.iaload, 1) := by decide +kernel
theorem d91_18 : decode (tb_me 91).1.2.1 18 = .ok (.istore_n 1, 1) := by decide +kernel
theorem d91_64 : decode (tb_me 91).1.2.1 64 = .ok (.iconst 0, 1) := by decide +kernel
theorem d91_65 : decode (tb_me 91).1.2.1 65 = .ok (.ireturn, 1) := by decide +kernel
theorem t91 : (tb_me 91).1.2.2.2 = some .boolean := by decide +kernel
theorem d91_118 : decode (tb_me 91).1.2.1 118 = .ok (.aload_n 0, 1) := by decide +kernel
theorem d91_119 : decode (tb_me 91).1.2.1 119 = .ok (.getfield 19, 3) := by decide +kernel
theorem d91_122 : decode (tb_me 91).1.2.1 122 = .ok (.aload_n 0, 1) := by decide +kernel
theorem d91_123 : decode (tb_me 91).1.2.1 123 = .ok (.getfield 33, 3) := by decide +kernel
theorem d91_126 : decode (tb_me 91).1.2.1 126 = .ok (.iload_n 1, 1) := by decide +kernel
theorem d91_127 : decode (tb_me 91).1.2.1 127 = .ok (.iastore, 1) := by decide +kernel
theorem d91_128 : decode (tb_me 91).1.2.1 128 = .ok (.aload_n 0, 1) := by decide +kernel
theorem d91_129 : decode (tb_me 91).1.2.1 129 = .ok (.getfield 22, 3) := by decide +kernel
theorem d91_132 : decode (tb_me 91).1.2.1 132 = .ok (.aload_n 0, 1) := by decide +kernel
theorem d91_133 : decode (tb_me 91).1.2.1 133 = .ok (.getfield 33, 3) := by decide +kernel
theorem d91_136 : decode (tb_me 91).1.2.1 136 = .ok (.iload_n 2, 1) := by decide +kernel
theorem d91_137 : decode (tb_me 91).1.2.1 137 = .ok (.iconst 1, 1) := by decide +kernel
theorem d91_138 : decode (tb_me 91).1.2.1 138 = .ok (.iadd, 1) := by decide +kernel
theorem d91_139 : decode (tb_me 91).1.2.1 139 = .ok (.iastore, 1) := by decide +kernel
theorem d91_140 : decode (tb_me 91).1.2.1 140 = .ok (.aload_n 0, 1) := by decide +kernel
theorem d91_141 : decode (tb_me 91).1.2.1 141 = .ok (.iload_n 1, 1) := by decide +kernel
theorem d91_142 : decode (tb_me 91).1.2.1 142 = .ok (.aload_n 0, 1) := by decide +kernel
theorem d91_143 : decode (tb_me 91).1.2.1 143 = .ok (.getfield 9, 3) := by decide +kernel
theorem d91_146 : decode (tb_me 91).1.2.1 146 = .ok (.getfield 66, 3) := by decide +kernel
theorem k91_66 (b : Bool) : tb_lk b 91 66 = (1, 7, 9, 0, 0) := by cases b <;> decide +kernel
theorem d91_149 : decode (tb_me 91).1.2.1 149 = .ok (.iload_n 2, 1) := by decide +kernel
theorem d91_150 : decode (tb_me 91).1.2.1 150 = .ok (.iaload, 1) := by decide +kernel
theorem d91_151 : decode (tb_me 91).1.2.1 151 = .ok (.aload_n 0, 1) := by decide +kernel
theorem d91_152 : decode (tb_me 91).1.2.1 152 = .ok (.getfield 9, 3) := by decide +kernel
theorem d91_155 : decode (tb_me 91).1.2.1 155 = .ok (.getfield 69, 3) := by decide +kernel
theorem k91_69 (b : Bool) : tb_lk b 91 69 = (1, 7, 10, 0, 0) := by cases b <;> decide +kernel
theorem d91_158 : decode (tb_me 91).1.2.1 158 = .ok (.iload_n 2, 1) := by decide +kernel
theorem d91_159 : decode (tb_me 91).1.2.1 159 = .ok (.iaload, 1) := by decide +kernel
theorem d91_160 : decode (tb_me 91).1.2.1 160 = .ok (.invokevirtual 72, 3) := by decide +kernel
theorem k91_72 (b : Bool) : tb_lk b 91 72 = (2, 92, 0, 0, 0) := by cases b <;> decide +kernel
theorem m92 : (tb_me 92).2 = ((0, 0), (3, 5)) ∧ (tb_me 92).1.2.2.1 = 6 := by decide +kernel
theorem d91_163 : decode (tb_me 91).1.2.1 163 = .ok (.iconst 1, 1) := by decide +kernel
theorem d91_164 : decode (tb_me 91).1.2.1 164 = .ok (.ireturn, 1) := by decide +kernel
theorem d91_187 : decode (tb_me 91).1.2.1 187 = .ok (.iconst 0, 1) := by decide +kernel
theorem d91_188 : decode (tb_me 91).1.2.1 188 = .ok (.ireturn, 1) := by decide +kernel
theorem d91_7 : decode (tb_me 91).1.2.1 7 = .ok (.iconst 0, 1) := by decide +kernel
theorem d91_8 : decode (tb_me 91).1.2.1 8 = .ok (.ireturn, 1) := by decide +kernel
theorem e91 : (tb_me 91).2.1 = (0, 0) ∧ (tb_me 91).1.2.2.1 = 3 := by decide +kernel
theorem d70_54 : decode (tb_me 70).1.2.1 54 = .ok (.iload 7, 2) := by decide +kernel
theorem d70_56 : decode (tb_me 70).1.2.1 56 = .ok (.iload_n 3, 1) := by decide +kernel
theorem d70_57 : decode (tb_me 70).1.2.1 57 = .ok (.if_icmp .ge 39, 3) := by decide +kernel
theorem d70_60 : decode (tb_me 70).1.2.1 60 = .ok (.iload 5, 2) := by decide +kernel
theorem d70_62 : decode (tb_me 70).1.2.1 62 = .ok (.iload 7, 2) := by decide +kernel
theorem d70_64 : decode (tb_me 70).1.2.1 64 = .ok (.invokestatic 70, 3) := by decide +kernel
theorem k70_70 (b : Bool) : tb_lk b 70 70 = (5, 34, 0, 0, 0) := by cases b <;> decide +kernel
theorem d70_67 : decode (tb_me 70).1.2.1 67 = .ok (.iconst 1, 1) := by decide +kernel
theorem d70_68 : decode (tb_me 70).1.2.1 68 = .ok (.if_icmp .ne 22, 3) := by decide +kernel
theorem d70_90 : decode (tb_me 70).1.2.1 90 = .ok (.iinc 7 1, 3) := by decide +kernel
theorem d70_93 : decode (tb_me 70).1.2.1 93 = .ok (.goto (-39), 3) := by decide +kernel
theorem d70_71 : decode (tb_me 70).1.2.1 71 = .ok (.iload 6, 2) := by decide +kernel
theorem d70_73 : decode (tb_me 70).1.2.1 73 = .ok (.aload_n 0, 1) := by decide +kernel
theorem d70_74 : decode (tb_me 70).1.2.1 74 = .ok (.getfield 26, 3) := by decide +kernel
theorem k70_26 (b : Bool) : tb_lk b 70 26 = (1, 2, 3, 0, 0) := by cases b <;> decide +kernel
theorem f2_3 : (3 < pm_nf tb_cl 2) ∧ tb_ft 2 3 ≠ .long ∧ pm_isR (tb_ft 2 3) = true := by decide +kernel
theorem d70_77 : decode (tb_me 70).1.2.1 77 = .ok (.iload_n 2, 1) := by decide +kernel
theorem d70_78 : decode (tb_me 70).1.2.1 78 = .ok (.iload 5, 2) := by decide +kernel
theorem d70_80 : decode (tb_me 70).1.2.1 80 = .ok (.iadd, 1) := by decide +kernel
theorem d70_81 : decode (tb_me 70).1.2.1 81 = .ok (.iconst 1, 1) := by decide +kernel
theorem d70_82 : decode (tb_me 70).1.2.1 82 = .ok (.iload 7, 2) := by decide +kernel
theorem d70_84 : decode (tb_me 70).1.2.1 84 = .ok (.ishl, 1) := by decide +kernel
theorem d70_85 : decode (tb_me 70).1.2.1 85 = .ok (.isub, 1) := by decide +kernel
theorem d70_86 : decode (tb_me 70).1.2.1 86 = .ok (.iaload, 1) := by decide +kernel
theorem d70_87 : decode (tb_me 70).1.2.1 87 = .ok (.ior, 1) := by decide +kernel
theorem d70_88 : decode (tb_me 70).1.2.1 88 = .ok (.istore 6, 2) := by decide +kernel
theorem d70_41 : decode (tb_me 70).1.2.1 41 = .ok (.iload 5, 2) := by decide +kernel
theorem d70_43 : decode (tb_me 70).1.2.1 43 = .ok (.iload 4, 2) := by decide +kernel
theorem d70_45 : decode (tb_me 70).1.2.1 45 = .ok (.if_icmp .ge 76, 3) := by decide +kernel
theorem d70_48 : decode (tb_me 70).1.2.1 48 = .ok (.iconst 0, 1) := by decide +kernel
theorem d70_49 : decode (tb_me 70).1.2.1 49 = .ok (.istore 6, 2) := by decide +kernel
theorem d70_51 : decode (tb_me 70).1.2.1 51 = .ok (.iconst 0, 1) := by decide +kernel
theorem d70_52 : decode (tb_me 70).1.2.1 52 = .ok (.istore 7, 2) := by decide +kernel
theorem d70_96 : decode (tb_me 70).1.2.1 96 = .ok (.aload_n 0, 1) := by decide +kernel
theorem d70_97 : decode (tb_me 70).1.2.1 97 = .ok (.getfield 26, 3) := by decide +kernel
theorem d70_100 : decode (tb_me 70).1.2.1 100 = .ok (.iload_n 2, 1) := by decide +kernel
theorem d70_101 : decode (tb_me 70).1.2.1 101 = .ok (.iload 5, 2) := by decide +kernel
theorem d70_103 : decode (tb_me 70).1.2.1 103 = .ok (.iadd, 1) := by decide +kernel
theorem d70_104 : decode (tb_me 70).1.2.1 104 = .ok (.iload 6, 2) := by decide +kernel
theorem d70_106 : decode (tb_me 70).1.2.1 106 = .ok (.aload_n 0, 1) := by decide +kernel
theorem d70_107 : decode (tb_me 70).1.2.1 107 = .ok (.iload_n 1, 1) := by decide +kernel
theorem d70_108 : decode (tb_me 70).1.2.1 108 = .ok (.iload 5, 2) := by decide +kernel
theorem d70_110 : decode (tb_me 70).1.2.1 110 = .ok (.invokevirtual 84, 3) := by decide +kernel
theorem k70_84 (b : Bool) : tb_lk b 70 84 = (2, 71, 0, 0, 0) := by cases b <;> decide +kernel
theorem m71 : (tb_me 71).2 = ((0, 0), (2, 2)) ∧ (tb_me 71).1.2.2.1 = 5 := by decide +kernel
theorem d70_113 : decode (tb_me 70).1.2.1 113 = .ok (.ior, 1) := by decide +kernel
theorem d70_114 : decode (tb_me 70).1.2.1 114 = .ok (.iastore, 1) := by decide +kernel
theorem d70_115 : decode (tb_me 70).1.2.1 115 = .ok (.iinc 5 1, 3) := by decide +kernel
theorem d70_118 : decode (tb_me 70).1.2.1 118 = .ok (.goto (-77), 3) := by decide +kernel
theorem d70_26 : decode (tb_me 70).1.2.1 26 = .ok (.istore_n 3, 1) := by decide +kernel
theorem d70_27 : decode (tb_me 70).1.2.1 27 = .ok (.iconst 1, 1) := by decide +kernel
theorem d70_28 : decode (tb_me 70).1.2.1 28 = .ok (.iload_n 3, 1) := by decide +kernel
theorem d70_29 : decode (tb_me 70).1.2.1 29 = .ok (.ishl, 1) := by decide +kernel
theorem d70_30 : decode (tb_me 70).1.2.1 30 = .ok (.sipush 256, 3) := by decide +kernel
theorem d70_33 : decode (tb_me 70).1.2.1 33 = .ok (.invokestatic 79, 3) := by decide +kernel
theorem k70_79 (b : Bool) : tb_lk b 70 79 = (17, 0, 0, 0, 0) := by cases b <;> decide +kernel
theorem d70_36 : decode (tb_me 70).1.2.1 36 = .ok (.istore 4, 2) := by decide +kernel
theorem d70_38 : decode (tb_me 70).1.2.1 38 = .ok (.iconst 0, 1) := by decide +kernel
theorem d70_39 : decode (tb_me 70).1.2.1 39 = .ok (.istore 5, 2) := by decide +kernel
theorem d70_121 : decode (tb_me 70).1.2.1 121 = .ok (.return_, 1) := by decide +kernel
theorem t70 : (tb_me 70).1.2.2.2 = none := by decide +kernel
theorem d70_0 : decode (tb_me 70).1.2.1 0 = .ok (.iload_n 1, 1) := by decide +kernel
theorem d70_1 : decode (tb_me 70).1.2.1 1 = .ok (.iconst 1, 1) := by decide +kernel
theorem d70_2 : decode (tb_me 70).1.2.1 2 = .ok (.iadd, 1) := by decide +kernel
theorem d70_3 : decode (tb_me 70).1.2.1 3 = .ok (.sipush 256, 3) := by decide +kernel
theorem d70_6 : decode (tb_me 70).1.2.1 6 = .ok (.imul, 1) := by decide +kernel
theorem d70_7 : decode (tb_me 70).1.2.1 7 = .ok (.istore_n 2, 1) := by decide +kernel
theorem d70_8 : decode (tb_me 70).1.2.1 8 = .ok (.aload_n 0, 1) := by decide +kernel
theorem d70_9 : decode (tb_me 70).1.2.1 9 = .ok (.getfield 9, 3) := by decide +kernel
theorem k70_9 (b : Bool) : tb_lk b 70 9 = (1, 2, 0, 0, 0) := by cases b <;> decide +kernel
theorem d70_12 : decode (tb_me 70).1.2.1 12 = .ok (.ifnonnull 7, 3) := by decide +kernel
theorem d70_19 : decode (tb_me 70).1.2.1 19 = .ok (.aload_n 0, 1) := by decide +kernel
theorem d70_20 : decode (tb_me 70).1.2.1 20 = .ok (.getfield 9, 3) := by decide +kernel
theorem d70_23 : decode (tb_me 70).1.2.1 23 = .ok (.getfield 76, 3) := by decide +kernel
theorem k70_76 (b : Bool) : tb_lk b 70 76 = (1, 7, 1, 0, 0) := by cases b <;> decide +kernel
theorem d70_15 : decode (tb_me 70).1.2.1 15 = .ok (.iconst 0, 1) := by decide +kernel
theorem d70_16 : decode (tb_me 70).1.2.1 16 = .ok (.goto 10, 3) := by decide +kernel
theorem e70 : (tb_me 70).2.1 = (0, 0) ∧ (tb_me 70).1.2.2.1 = 8 := by decide +kernel
theorem d90_78 : decode (tb_me 90).1.2.1 78 = .ok (.aload_n 0, 1) := by decide +kernel
theorem d90_79 : decode (tb_me 90).1.2.1 79 = .ok (.dup, 1) := by decide +kernel
theorem d90_80 : decode (tb_me 90).1.2.1 80 = .ok (.getfield 33, 3) := by decide +kernel
theorem k90_33 (b : Bool) : tb_lk b 90 33 = (1, 5, 6, 0, 0) := by cases b <;> decide +kernel
theorem d90_83 : decode (tb_me 90).1.2.1 83 = .ok (.iconst 1, 1) := by decide +kernel
theorem d90_84 : decode (tb_me 90).1.2.1 84 = .ok (.isub, 1) := by decide +kernel
theorem d90_85 : decode (tb_me 90).1.2.1 85 = .ok (.putfield 33, 3) := by decide +kernel
theorem p90_5_6 : (6 < pm_nf tb_cl 5) ∧ tb_ft 5 6 = .int ∧ pm_fin tb_cl (tb_me 90).1.1 5 6 = true := by decide +kernel
theorem d90_88 : decode (tb_me 90).1.2.1 88 = .ok (.iinc 1 1, 3) := by decide +kernel
theorem d90_91 : decode (tb_me 90).1.2.1 91 = .ok (.goto (-64), 3) := by decide +kernel
theorem d90_27 : decode (tb_me 90).1.2.1 27 = .ok (.iload_n 1, 1) := by decide +kernel
theorem d90_28 : decode (tb_me 90).1.2.1 28 = .ok (.ldc 51, 2) := by decide +kernel
theorem k90_51 (b : Bool) : tb_lk b 90 51 = (11, 0, 0, 1000000, 0) := by cases b <;> decide +kernel
theorem d90_30 : decode (tb_me 90).1.2.1 30 = .ok (.if_icmp .ge 64, 3) := by decide +kernel
theorem d90_33 : decode (tb_me 90).1.2.1 33 = .ok (.aload_n 0, 1) := by decide +kernel
theorem d90_34 : decode (tb_me 90).1.2.1 34 = .ok (.getfield 33, 3) := by decide +kernel
theorem d90_37 : decode (tb_me 90).1.2.1 37 = .ok (.aload_n 0, 1) := by decide +kernel
theorem d90_38 : decode (tb_me 90).1.2.1 38 = .ok (.getfield 25, 3) := by decide +kernel
theorem k90_25 (b : Bool) : tb_lk b 90 25 = (1, 5, 4, 0, 0) := by cases b <;> decide +kernel
theorem d90_41 : decode (tb_me 90).1.2.1 41 = .ok (.if_icmp .lt 53, 3) := by decide +kernel
theorem d90_44 : decode (tb_me 90).1.2.1 44 = .ok (.aload_n 0, 1) := by decide +kernel
theorem d90_45 : decode (tb_me 90).1.2.1 45 = .ok (.getfield 33, 3) := by decide +kernel
theorem d90_48 : decode (tb_me 90).1.2.1 48 = .ok (.ifCond .le 46, 3) := by decide +kernel
theorem d90_51 : decode (tb_me 90).1.2.1 51 = .ok (.aload_n 0, 1) := by decide +kernel
theorem d90_52 : decode (tb_me 90).1.2.1 52 = .ok (.getfield 33, 3) := by decide +kernel
theorem d90_55 : decode (tb_me 90).1.2.1 55 = .ok (.iconst 5, 1) := by decide +kernel
theorem d90_56 : decode (tb_me 90).1.2.1 56 = .ok (.if_icmp .ge 22, 3) := by decide +kernel
theorem d90_59 : decode (tb_me 90).1.2.1 59 = .ok (.aload_n 0, 1) := by decide +kernel
theorem d90_60 : decode (tb_me 90).1.2.1 60 = .ok (.invokevirtual 52, 3) := by decide +kernel
theorem k90_52 (b : Bool) : tb_lk b 90 52 = (2, 91, 0, 0, 0) := by cases b <;> decide +kernel
theorem m91 : (tb_me 91).2 = ((0, 0), (0, 5)) ∧ (tb_me 91).1.2.2.1 = 3 := by decide +kernel
theorem d90_63 : decode (tb_me 90).1.2.1 63 = .ok (.ifCond .eq 15, 3) := by decide +kernel
theorem d90_0 : decode (tb_me 90).1.2.1 0 = .ok (.aload_n 0, 1) := by decide +kernel
theorem d90_1 : decode (tb_me 90).1.2.1 1 = .ok (.getfield 29, 3) := by decide +kernel
theorem k90_29 (b : Bool) : tb_lk b 90 29 = (1, 5, 5, 0, 0) := by cases b <;> decide +kernel
theorem f5_5 : (5 < pm_nf tb_cl 5) ∧ tb_ft 5 5 ≠ .long ∧ pm_isR (tb_ft 5 5) = false := by decide +kernel
theorem d90_4 : decode (tb_me 90).1.2.1 4 = .ok (.ifCond .eq 21, 3) := by decide +kernel
theorem d90_25 : decode (tb_me 90).1.2.1 25 = .ok (.iconst 0, 1) := by decide +kernel
theorem d90_26 : decode (tb_me 90).1.2.1 26 = .ok (.istore_n 1, 1) := by decide +kernel
theorem d90_66 : decode (tb_me 90).1.2.1 66 = .ok (.aload_n 0, 1) := by decide +kernel
theorem d90_67 : decode (tb_me 90).1.2.1 67 = .ok (.dup, 1) := by decide +kernel
theorem d90_68 : decode (tb_me 90).1.2.1 68 = .ok (.getfield 33, 3) := by decide +kernel
theorem d90_71 : decode (tb_me 90).1.2.1 71 = .ok (.iconst 1, 1) := by decide +kernel
theorem d90_72 : decode (tb_me 90).1.2.1 72 = .ok (.iadd, 1) := by decide +kernel
theorem d90_73 : decode (tb_me 90).1.2.1 73 = .ok (.putfield 33, 3) := by decide +kernel
theorem d90_76 : decode (tb_me 90).1.2.1 76 = .ok (.iconst 1, 1) := by decide +kernel
theorem d90_77 : decode (tb_me 90).1.2.1 77 = .ok (.ireturn, 1) := by decide +kernel
theorem t90 : (tb_me 90).1.2.2.2 = some .boolean := by decide +kernel
theorem d90_94 : decode (tb_me 90).1.2.1 94 = .ok (.iconst 0, 1) := by decide +kernel
theorem d90_95 : decode (tb_me 90).1.2.1 95 = .ok (.ireturn, 1) := by decide +kernel
theorem d90_7 : decode (tb_me 90).1.2.1 7 = .ok (.aload_n 0, 1) := by decide +kernel
theorem d90_8 : decode (tb_me 90).1.2.1 8 = .ok (.iconst 0, 1) := by decide +kernel
theorem d90_9 : decode (tb_me 90).1.2.1 9 = .ok (.putfield 29, 3) := by decide +kernel
theorem p90_5_5 : (5 < pm_nf tb_cl 5) ∧ tb_ft 5 5 = .boolean ∧ pm_fin tb_cl (tb_me 90).1.1 5 5 = true := by decide +kernel
theorem d90_12 : decode (tb_me 90).1.2.1 12 = .ok (.aload_n 0, 1) := by decide +kernel
theorem d90_13 : decode (tb_me 90).1.2.1 13 = .ok (.getfield 33, 3) := by decide +kernel
theorem d90_16 : decode (tb_me 90).1.2.1 16 = .ok (.ifCond .le 7, 3) := by decide +kernel
theorem d90_23 : decode (tb_me 90).1.2.1 23 = .ok (.iconst 0, 1) := by decide +kernel
theorem d90_24 : decode (tb_me 90).1.2.1 24 = .ok (.ireturn, 1) := by decide +kernel
theorem d90_19 : decode (tb_me 90).1.2.1 19 = .ok (.iconst 1, 1) := by decide +kernel
theorem d90_20 : decode (tb_me 90).1.2.1 20 = .ok (.goto 4, 3) := by decide +kernel
theorem e90 : (tb_me 90).2.1 = (0, 0) ∧ (tb_me 90).1.2.2.1 = 2 := by decide +kernel
theorem d68_66 : decode (tb_me 68).1.2.1 66 = .ok (.iload 4, 2) := by decide +kernel
theorem d68_68 : decode (tb_me 68).1.2.1 68 = .ok (.aload_n 0, 1) := by decide +kernel
theorem d68_69 : decode (tb_me 68).1.2.1 69 = .ok (.getfield 18, 3) := by decide +kernel
theorem k68_18 (b : Bool) : tb_lk b 68 18 = (1, 2, 1, 0, 0) := by cases b <;> decide +kernel
theorem f2_1 : (1 < pm_nf tb_cl 2) ∧ tb_ft 2 1 ≠ .long ∧ pm_isR (tb_ft 2 1) = true := by decide +kernel
theorem d68_72 : decode (tb_me 68).1.2.1 72 = .ok (.getfield 56, 3) := by decide +kernel
theorem k68_56 (b : Bool) : tb_lk b 68 56 = (1, 5, 6, 0, 0) := by cases b <;> decide +kernel
theorem d68_75 : decode (tb_me 68).1.2.1 75 = .ok (.if_icmp .ge 22, 3) := by decide +kernel
theorem d68_78 : decode (tb_me 68).1.2.1 78 = .ok (.aload_n 0, 1) := by decide +kernel
theorem d68_79 : decode (tb_me 68).1.2.1 79 = .ok (.aload_n 0, 1) := by decide +kernel
theorem d68_80 : decode (tb_me 68).1.2.1 80 = .ok (.getfield 18, 3) := by decide +kernel
theorem d68_83 : decode (tb_me 68).1.2.1 83 = .ok (.iload 4, 2) := by decide +kernel
theorem d68_85 : decode (tb_me 68).1.2.1 85 = .ok (.invokevirtual 59, 3) := by decide +kernel
theorem k68_59 (b : Bool) : tb_lk b 68 59 = (2, 88, 0, 0, 0) := by cases b <;> decide +kernel
theorem m88 : (tb_me 88).2 = ((0, 0), (1, 5)) ∧ (tb_me 88).1.2.2.1 = 2 := by decide +kernel
theorem d68_88 : decode (tb_me 68).1.2.1 88 = .ok (.invokevirtual 63, 3) := by decide +kernel
theorem k68_63 (b : Bool) : tb_lk b 68 63 = (2, 72, 0, 0, 0) := by cases b <;> decide +kernel
theorem d68_91 : decode (tb_me 68).1.2.1 91 = .ok (.iinc 4 1, 3) := by decide +kernel
theorem d68_94 : decode (tb_me 68).1.2.1 94 = .ok (.goto (-28), 3) := by decide +kernel
theorem d68_39 : decode (tb_me 68).1.2.1 39 = .ok (.iload_n 3, 1) := by decide +kernel
theorem d68_40 : decode (tb_me 68).1.2.1 40 = .ok (.ldc 51, 2) := by decide +kernel
theorem k68_51 (b : Bool) : tb_lk b 68 51 = (11, 0, 0, 1000000, 0) := by cases b <;> decide +kernel
theorem d68_42 : decode (tb_me 68).1.2.1 42 = .ok (.if_icmp .ge 83, 3) := by decide +kernel
theorem d68_45 : decode (tb_me 68).1.2.1 45 = .ok (.aload_n 0, 1) := by decide +kernel
theorem d68_46 : decode (tb_me 68).1.2.1 46 = .ok (.getfield 18, 3) := by decide +kernel
theorem d68_49 : decode (tb_me 68).1.2.1 49 = .ok (.invokevirtual 52, 3) := by decide +kernel
theorem k68_52 (b : Bool) : tb_lk b 68 52 = (2, 90, 0, 0, 0) := by cases b <;> decide +kernel
theorem m90 : (tb_me 90).2 = ((0, 0), (0, 5)) ∧ (tb_me 90).1.2.2.1 = 2 := by decide +kernel
theorem d68_52 : decode (tb_me 68).1.2.1 52 = .ok (.ifCond .eq 73, 3) := by decide +kernel
theorem d68_55 : decode (tb_me 68).1.2.1 55 = .ok (.aload_n 0, 1) := by decide +kernel
theorem d68_56 : decode (tb_me 68).1.2.1 56 = .ok (.getfield 33, 3) := by decide +kernel
theorem k68_33 (b : Bool) : tb_lk b 68 33 = (1, 2, 5, 0, 0) := by cases b <;> decide +kernel
theorem d68_59 : decode (tb_me 68).1.2.1 59 = .ok (.iconst 0, 1) := by decide +kernel
theorem d68_60 : decode (tb_me 68).1.2.1 60 = .ok (.invokestatic 36, 3) := by decide +kernel
theorem k68_36 (b : Bool) : tb_lk b 68 36 = (4, 270, 0, 0, 0) := by cases b <;> decide +kernel
theorem d68_63 : decode (tb_me 68).1.2.1 63 = .ok (.iconst 0, 1) := by decide +kernel
theorem d68_64 : decode (tb_me 68).1.2.1 64 = .ok (.istore 4, 2) := by decide +kernel
theorem d68_97 : decode (tb_me 68).1.2.1 97 = .ok (.aload_n 0, 1) := by decide +kernel
theorem d68_98 : decode (tb_me 68).1.2.1 98 = .ok (.getfield 22, 3) := by decide +kernel
theorem k68_22 (b : Bool) : tb_lk b 68 22 = (1, 2, 2, 0, 0) := by cases b <;> decide +kernel
theorem d68_101 : decode (tb_me 68).1.2.1 101 = .ok (.aload_n 0, 1) := by decide +kernel
theorem d68_102 : decode (tb_me 68).1.2.1 102 = .ok (.aload_n 0, 1) := by decide +kernel
theorem d68_103 : decode (tb_me 68).1.2.1 103 = .ok (.getfield 18, 3) := by decide +kernel
theorem d68_106 : decode (tb_me 68).1.2.1 106 = .ok (.getfield 56, 3) := by decide +kernel
theorem d68_109 : decode (tb_me 68).1.2.1 109 = .ok (.invokevirtual 67, 3) := by decide +kernel
theorem k68_67 (b : Bool) : tb_lk b 68 67 = (2, 73, 0, 0, 0) := by cases b <;> decide +kernel
theorem d68_112 : decode (tb_me 68).1.2.1 112 = .ok (.dup2, 1) := by decide +kernel
theorem d68_113 : decode (tb_me 68).1.2.1 113 = .ok (.iaload, 1) := by decide +kernel
theorem d68_114 : decode (tb_me 68).1.2.1 114 = .ok (.iconst 1, 1) := by decide +kernel
theorem d68_115 : decode (tb_me 68).1.2.1 115 = .ok (.iload_n 2, 1) := by decide +kernel
theorem d68_116 : decode (tb_me 68).1.2.1 116 = .ok (.ishl, 1) := by decide +kernel
theorem d68_117 : decode (tb_me 68).1.2.1 117 = .ok (.ior, 1) := by decide +kernel
theorem d68_118 : decode (tb_me 68).1.2.1 118 = .ok (.iastore, 1) := by decide +kernel
theorem d68_119 : decode (tb_me 68).1.2.1 119 = .ok (.iinc 3 1, 3) := by decide +kernel
theorem d68_122 : decode (tb_me 68).1.2.1 122 = .ok (.goto (-83), 3) := by decide +kernel
theorem d68_20 : decode (tb_me 68).1.2.1 20 = .ok (.iload_n 2, 1) := by decide +kernel
theorem d68_21 : decode (tb_me 68).1.2.1 21 = .ok (.aload_n 1, 1) := by decide +kernel
theorem d68_22 : decode (tb_me 68).1.2.1 22 = .ok (.getfield 42, 3) := by decide +kernel
theorem k68_42 (b : Bool) : tb_lk b 68 42 = (1, 7, 2, 0, 0) := by cases b <;> decide +kernel
theorem d68_25 : decode (tb_me 68).1.2.1 25 = .ok (.if_icmp .ge 106, 3) := by decide +kernel
theorem d68_28 : decode (tb_me 68).1.2.1 28 = .ok (.aload_n 0, 1) := by decide +kernel
theorem d68_29 : decode (tb_me 68).1.2.1 29 = .ok (.getfield 18, 3) := by decide +kernel
theorem d68_32 : decode (tb_me 68).1.2.1 32 = .ok (.aload_n 1, 1) := by decide +kernel
theorem d68_33 : decode (tb_me 68).1.2.1 33 = .ok (.iload_n 2, 1) := by decide +kernel
theorem d68_34 : decode (tb_me 68).1.2.1 34 = .ok (.invokevirtual 47, 3) := by decide +kernel
theorem k68_47 (b : Bool) : tb_lk b 68 47 = (2, 87, 0, 0, 0) := by cases b <;> decide +kernel
theorem m87 : (tb_me 87).2 = ((0, 0), (2, 5)) ∧ (tb_me 87).1.2.2.1 = 4 := by decide +kernel
theorem d68_37 : decode (tb_me 68).1.2.1 37 = .ok (.iconst 0, 1) := by decide +kernel
theorem d68_38 : decode (tb_me 68).1.2.1 38 = .ok (.istore_n 3, 1) := by decide +kernel
theorem d68_125 : decode (tb_me 68).1.2.1 125 = .ok (.iinc 2 1, 3) := by decide +kernel
theorem d68_128 : decode (tb_me 68).1.2.1 128 = .ok (.goto (-108), 3) := by decide +kernel
theorem d68_0 : decode (tb_me 68).1.2.1 0 = .ok (.aload_n 0, 1) := by decide +kernel
theorem d68_1 : decode (tb_me 68).1.2.1 1 = .ok (.aload_n 1, 1) := by decide +kernel
theorem d68_2 : decode (tb_me 68).1.2.1 2 = .ok (.putfield 9, 3) := by decide +kernel
theorem k68_9 (b : Bool) : tb_lk b 68 9 = (1, 2, 0, 0, 0) := by cases b <;> decide +kernel
theorem p68_2_0 : (0 < pm_nf tb_cl 2) ∧ pm_isR (tb_ft 2 0) = true ∧ pm_fin tb_cl (tb_me 68).1.1 2 0 = true := by decide +kernel
theorem d68_5 : decode (tb_me 68).1.2.1 5 = .ok (.aload_n 0, 1) := by decide +kernel
theorem d68_6 : decode (tb_me 68).1.2.1 6 = .ok (.iconst 0, 1) := by decide +kernel
theorem d68_7 : decode (tb_me 68).1.2.1 7 = .ok (.putfield 29, 3) := by decide +kernel
theorem k68_29 (b : Bool) : tb_lk b 68 29 = (1, 2, 4, 0, 0) := by cases b <;> decide +kernel
theorem p68_2_4 : (4 < pm_nf tb_cl 2) ∧ tb_ft 2 4 = .int ∧ pm_fin tb_cl (tb_me 68).1.1 2 4 = true := by decide +kernel
theorem d68_10 : decode (tb_me 68).1.2.1 10 = .ok (.aload_n 0, 1) := by decide +kernel
theorem d68_11 : decode (tb_me 68).1.2.1 11 = .ok (.getfield 22, 3) := by decide +kernel
theorem d68_14 : decode (tb_me 68).1.2.1 14 = .ok (.iconst 0, 1) := by decide +kernel
theorem d68_15 : decode (tb_me 68).1.2.1 15 = .ok (.invokestatic 36, 3) := by decide +kernel
theorem d68_18 : decode (tb_me 68).1.2.1 18 = .ok (.iconst 0, 1) := by decide +kernel
theorem d68_19 : decode (tb_me 68).1.2.1 19 = .ok (.istore_n 2, 1) := by decide +kernel
theorem d68_131 : decode (tb_me 68).1.2.1 131 = .ok (.return_, 1) := by decide +kernel
theorem t68 : (tb_me 68).1.2.2.2 = none := by decide +kernel
theorem e68 : (tb_me 68).2.1 = (0, 0) ∧ (tb_me 68).1.2.2.1 = 5 := by decide +kernel
theorem d69_45 : decode (tb_me 69).1.2.1 45 = .ok (.aload_n 0, 1) := by decide +kernel
theorem d69_46 : decode (tb_me 69).1.2.1 46 = .ok (.getfield 26, 3) := by decide +kernel
theorem k69_26 (b : Bool) : tb_lk b 69 26 = (1, 2, 3, 0, 0) := by cases b <;> decide +kernel
theorem d69_49 : decode (tb_me 69).1.2.1 49 = .ok (.iload_n 1, 1) := by decide +kernel
theorem d69_50 : decode (tb_me 69).1.2.1 50 = .ok (.iconst 1, 1) := by decide +kernel
theorem d69_51 : decode (tb_me 69).1.2.1 51 = .ok (.iadd, 1) := by decide +kernel
theorem d69_52 : decode (tb_me 69).1.2.1 52 = .ok (.sipush 256, 3) := by decide +kernel
theorem d69_55 : decode (tb_me 69).1.2.1 55 = .ok (.imul, 1) := by decide +kernel
theorem d69_56 : decode (tb_me 69).1.2.1 56 = .ok (.iload_n 2, 1) := by decide +kernel
theorem d69_57 : decode (tb_me 69).1.2.1 57 = .ok (.sipush 255, 3) := by decide +kernel
theorem d69_60 : decode (tb_me 69).1.2.1 60 = .ok (.iand, 1) := by decide +kernel
theorem d69_61 : decode (tb_me 69).1.2.1 61 = .ok (.iadd, 1) := by decide +kernel
theorem d69_62 : decode (tb_me 69).1.2.1 62 = .ok (.iaload, 1) := by decide +kernel
theorem d69_63 : decode (tb_me 69).1.2.1 63 = .ok (.ireturn, 1) := by decide +kernel
theorem t69 : (tb_me 69).1.2.2.2 = some .int := by decide +kernel
theorem d69_0 : decode (tb_me 69).1.2.1 0 = .ok (.iload_n 1, 1) := by decide +kernel
theorem d69_1 : decode (tb_me 69).1.2.1 1 = .ok (.iconst (-1), 1) := by decide +kernel
theorem d69_2 : decode (tb_me 69).1.2.1 2 = .ok (.if_icmp .lt 9, 3) := by decide +kernel
theorem d69_11 : decode (tb_me 69).1.2.1 11 = .ok (.iconst 0, 1) := by decide +kernel
theorem d69_12 : decode (tb_me 69).1.2.1 12 = .ok (.ireturn, 1) := by decide +kernel
theorem d69_5 : decode (tb_me 69).1.2.1 5 = .ok (.iload_n 1, 1) := by decide +kernel
theorem d69_6 : decode (tb_me 69).1.2.1 6 = .ok (.bipush 10, 2) := by decide +kernel
theorem d69_8 : decode (tb_me 69).1.2.1 8 = .ok (.if_icmp .lt 5, 3) := by decide +kernel
theorem d69_13 : decode (tb_me 69).1.2.1 13 = .ok (.aload_n 0, 1) := by decide +kernel
theorem d69_14 : decode (tb_me 69).1.2.1 14 = .ok (.getfield 29, 3) := by decide +kernel
theorem k69_29 (b : Bool) : tb_lk b 69 29 = (1, 2, 4, 0, 0) := by cases b <;> decide +kernel
theorem f2_4 : (4 < pm_nf tb_cl 2) ∧ tb_ft 2 4 ≠ .long ∧ pm_isR (tb_ft 2 4) = false := by decide +kernel
theorem d69_17 : decode (tb_me 69).1.2.1 17 = .ok (.iload_n 1, 1) := by decide +kernel
theorem d69_18 : decode (tb_me 69).1.2.1 18 = .ok (.iconst 1, 1) := by decide +kernel
theorem d69_19 : decode (tb_me 69).1.2.1 19 = .ok (.iadd, 1) := by decide +kernel
theorem d69_20 : decode (tb_me 69).1.2.1 20 = .ok (.invokestatic 70, 3) := by decide +kernel
theorem k69_70 (b : Bool) : tb_lk b 69 70 = (5, 34, 0, 0, 0) := by cases b <;> decide +kernel
theorem d69_23 : decode (tb_me 69).1.2.1 23 = .ok (.ifCond .ne 22, 3) := by decide +kernel
theorem d69_26 : decode (tb_me 69).1.2.1 26 = .ok (.aload_n 0, 1) := by decide +kernel
theorem d69_27 : decode (tb_me 69).1.2.1 27 = .ok (.iload_n 1, 1) := by decide +kernel
theorem d69_28 : decode (tb_me 69).1.2.1 28 = .ok (.invokevirtual 74, 3) := by decide +kernel
theorem k69_74 (b : Bool) : tb_lk b 69 74 = (2, 70, 0, 0, 0) := by cases b <;> decide +kernel
theorem m70 : (tb_me 70).2 = ((0, 0), (1, 2)) ∧ (tb_me 70).1.2.2.1 = 8 := by decide +kernel
theorem d69_31 : decode (tb_me 69).1.2.1 31 = .ok (.aload_n 0, 1) := by decide +kernel
theorem d69_32 : decode (tb_me 69).1.2.1 32 = .ok (.dup, 1) := by decide +kernel
theorem d69_33 : decode (tb_me 69).1.2.1 33 = .ok (.getfield 29, 3) := by decide +kernel
theorem d69_36 : decode (tb_me 69).1.2.1 36 = .ok (.iconst 1, 1) := by decide +kernel
theorem d69_37 : decode (tb_me 69).1.2.1 37 = .ok (.iload_n 1, 1) := by decide +kernel
theorem d69_38 : decode (tb_me 69).1.2.1 38 = .ok (.iconst 1, 1) := by decide +kernel
theorem d69_39 : decode (tb_me 69).1.2.1 39 = .ok (.iadd, 1) := by decide +kernel
theorem d69_40 : decode (tb_me 69).1.2.1 40 = .ok (.ishl, 1) := by decide +kernel
theorem d69_41 : decode (tb_me 69).1.2.1 41 = .ok (.ior, 1) := by decide +kernel
theorem d69_42 : decode (tb_me 69).1.2.1 42 = .ok (.putfield 29, 3) := by decide +kernel
theorem p69_2_4 : (4 < pm_nf tb_cl 2) ∧ tb_ft 2 4 = .int ∧ pm_fin tb_cl (tb_me 69).1.1 2 4 = true := by decide +kernel
theorem e69 : (tb_me 69).2.1 = (0, 0) ∧ (tb_me 69).1.2.2.1 = 3 := by decide +kernel
noncomputable def c_put (l0 : Nat) (l1 : Int32) (h : pm_H) : Option pm_H := if l1 < 0 then (some h) else ((gA h l0 5 .int).bind fun y2 => if (Int32.ofNat (mi_n y2)) ≤ l1 then (some h) else ((gA h l0 5 .int).bind fun y4 => if mi_in l1 (mi_n y4) = true then if mi_in l1 (mi_n y4) = true then bd (pm_setI h y4 l1.toNatClampNeg ((h.2.1 y4 l1.toNatClampNeg) + (Int32.ofInt 1))) fun h7 => some h7 else none else none))
theorem T_c_put (b : Bool) (L : Nat) (xs : Nat → Int32) (d : Nat) (hd : 0 ≤ d) (h : pm_H) (s_h : h.1 = tb_SH) (l0 : Nat) (l1 : Int32) (f_l0 : mi_o l0 2 = true) {r : pm_H} (hm : c_put l0 l1 h = some r) : PC b L xs d 72 [(Value.ref l0), (Value.int l1)] h (fun (v0 : Option Value) (h2 : pm_H) => v0 = none ∧ h2 = r ∧ h2.1 = tb_SH) := by
  refine pc_in e72 (ls0 := [(Value.ref l0), (Value.int l1)]) rfl ?_
  have key : ∀ (Q : Option Value → pm_H → Prop), (r.1 = tb_SH → Q none r) → PW b L xs d 72 0 0 0 [(Value.ref l0), (Value.int l1)] [] h Q := by
    intro Q hE
    rw [c_put] at hm
    refine pw_l (pc := 0) d72_0 rfl rfl rfl ?_
    refine pw_zlt (pc := 1) (t := 23) d72_1 (by decide) (fun c1 => ?_) (fun c1 => ?_)
    · rw [if_pos c1] at hm
      obtain rfl := Option.some.inj hm
      refine pw_rv (pc := 23) d72_23 t72 ?_
      exact hE s_h
    · rw [if_neg c1] at hm
      refine pw_l (pc := 4) d72_4 rfl rfl rfl ?_
      refine pw_l (pc := 5) d72_5 rfl rfl rfl ?_
      obtain ⟨y2, e_y2, hm⟩ := ob_x hm
      have f_y2 := gA_x e_y2
      refine pw_gr (pc := 6) d72_6 (k72_33 b) (sho s_h f_l0) f2_5 f_y2.1 ?_
      refine pw_an (pc := 9) d72_9 (sha s_h f_y2.2) ?_
      refine pw_ige (pc := 10) (t := 23) d72_10 (by decide) (fun c3 => ?_) (fun c3 => ?_)
      · rw [if_pos c3] at hm
        obtain rfl := Option.some.inj hm
        refine pw_rv (pc := 23) d72_23 t72 ?_
        exact hE s_h
      · rw [if_neg c3] at hm
        refine pw_l (pc := 13) d72_13 rfl rfl rfl ?_
        obtain ⟨y4, e_y4, hm⟩ := ob_x hm
        have f_y4 := gA_x e_y4
        refine pw_gr (pc := 14) d72_14 (k72_33 b) (sho s_h f_l0) f2_5 f_y4.1 ?_
        refine pw_l (pc := 17) d72_17 rfl rfl rfl ?_
        refine pw_s (pc := 18) d72_18 rfl rfl ?_
        obtain ⟨g5, hm⟩ := gd_x hm
        refine pw_ai (pc := 19) d72_19 (sha s_h f_y4.2) (mi_in_x g5) ?_
        refine pw_s (pc := 20) d72_20 rfl rfl ?_
        refine pw_s (pc := 21) d72_21 rfl rfl ?_
        obtain ⟨g6, hm⟩ := gd_x hm
        refine pw_si (pc := 22) d72_22 (sha s_h f_y4.2) (mi_in_x g6) ?_
        obtain ⟨h7, e_h7, hm⟩ := bd_x hm
        rw [e_h7]
        have s_h7 : h7.1 = tb_SH := by rw [← e_h7]; exact s_h
        obtain rfl := Option.some.inj hm
        refine pw_rv (pc := 23) d72_23 t72 ?_
        exact hE s_h7
  exact key _ (fun q => ⟨rfl, rfl, q⟩)
def E_c_bagNumber_19 (b : Bool) (L : Nat) (xs : Nat → Int32) (d : Nat) (Q : Option Value → pm_H → Prop) (h : pm_H) (l0 : Nat) (l4 : Int32) : ((Int32 × Int32 × Int32) ⊕ (Int32 × Int32)) → Prop
  | .inl s => ∀ w1 : Value, PW b L xs d 73 0 0 19 [(Value.ref l0), w1, (Value.int s.1), (Value.int s.2.1), (Value.int l4), (Value.int s.2.2)] [] h Q
  | .inr e => ∀ w1 w5 : Value, PW b L xs d 73 0 0 62 [(Value.ref l0), w1, (Value.int e.1), (Value.int e.2), (Value.int l4), w5] [] h Q
def E_c_bagNumber_9 (b : Bool) (L : Nat) (xs : Nat → Int32) (d : Nat) (Q : Option Value → pm_H → Prop) (h : pm_H) (l0 : Nat) : ((Int32 × Int32 × Int32) ⊕ Int32) → Prop
  | .inl s => ∀ w1 w5 : Value, PW b L xs d 73 0 0 9 [(Value.ref l0), w1, (Value.int s.1), (Value.int s.2.1), (Value.int s.2.2), w5] [] h Q
  | .inr e => ∀ w0 w1 w3 w4 w5 : Value, PW b L xs d 73 0 0 68 [w0, w1, (Value.int e), w3, w4, w5] [] h Q
noncomputable def c_bagNumber_19 (l0 : Nat) (l2 : Int32) (l3 : Int32) (l4 : Int32) (l5 : Int32) (h : pm_H) : Option ((Int32 × Int32 × Int32) ⊕ (Int32 × Int32)) := (gA h l0 5 .int).bind fun y1 => if mi_in l4 (mi_n y1) = true then if (h.2.1 y1 l4.toNatClampNeg) ≤ l5 then (some (.inr (l2, l3))) else (if l3 < 0 then (some (.inr (l2, l3))) else (if (Int32.ofInt 5) ≤ l3 then (some (.inr (l2, l3))) else (if mi_in ((l4 * (Int32.ofInt 5)) + l3) 50 = true then some (.inl ((l2 + (tb_choose.getD ((l4 * (Int32.ofInt 5)) + l3).toNatClampNeg 0)), (l3 + Int32.ofInt 1), (l5 + Int32.ofInt 1))) else none))) else none
theorem t_c_bagNumber_19 (b : Bool) (L : Nat) (xs : Nat → Int32) (d : Nat) (hd : 0 ≤ d) {Q : Option Value → pm_H → Prop} (h : pm_H) (s_h : h.1 = tb_SH) (l0 : Nat) (l2 : Int32) (l3 : Int32) (l4 : Int32) (l5 : Int32) (w1 : Value) (f_l0 : mi_o l0 2 = true) {r : ((Int32 × Int32 × Int32) ⊕ (Int32 × Int32))} (hm : c_bagNumber_19 l0 l2 l3 l4 l5 h = some r) (hE : E_c_bagNumber_19 b L xs d Q h l0 l4 r) : PW b L xs d 73 0 0 19 [(Value.ref l0), w1, (Value.int l2), (Value.int l3), (Value.int l4), (Value.int l5)] [] h Q := by
  rw [c_bagNumber_19] at hm
  refine pw_l (pc := 19) d73_19 rfl rfl rfl ?_
  refine pw_l (pc := 21) d73_21 rfl rfl rfl ?_
  obtain ⟨y1, e_y1, hm⟩ := ob_x hm
  have f_y1 := gA_x e_y1
  refine pw_gr (pc := 22) d73_22 (k73_33 b) (sho s_h f_l0) f2_5 f_y1.1 ?_
  refine pw_l (pc := 25) d73_25 rfl rfl rfl ?_
  obtain ⟨g2, hm⟩ := gd_x hm
  refine pw_ai (pc := 27) d73_27 (sha s_h f_y1.2) (mi_in_x g2) ?_
  refine pw_ige (pc := 28) (t := 62) d73_28 (by decide) (fun c3 => ?_) (fun c3 => ?_)
  · rw [if_pos c3] at hm
    obtain rfl := Option.some.inj hm
    exact hE   w1 (Value.int l5)
  · rw [if_neg c3] at hm
    refine pw_l (pc := 31) d73_31 rfl rfl rfl ?_
    refine pw_zlt (pc := 32) (t := 62) d73_32 (by decide) (fun c4 => ?_) (fun c4 => ?_)
    · rw [if_pos c4] at hm
      obtain rfl := Option.some.inj hm
      exact hE   w1 (Value.int l5)
    · rw [if_neg c4] at hm
      refine pw_l (pc := 35) d73_35 rfl rfl rfl ?_
      refine pw_s (pc := 36) d73_36 rfl rfl ?_
      refine pw_ige (pc := 37) (t := 62) d73_37 (by decide) (fun c5 => ?_) (fun c5 => ?_)
      · rw [if_pos c5] at hm
        obtain rfl := Option.some.inj hm
        exact hE   w1 (Value.int l5)
      · rw [if_neg c5] at hm
        refine pw_l (pc := 40) d73_40 rfl rfl rfl ?_
        refine pw_gs (pc := 41) d73_41 (k73_95 b) ?_
        refine pw_l (pc := 44) d73_44 rfl rfl rfl ?_
        refine pw_s (pc := 46) d73_46 rfl rfl ?_
        refine pw_s (pc := 47) d73_47 rfl rfl ?_
        refine pw_l (pc := 48) d73_48 rfl rfl rfl ?_
        refine pw_s (pc := 49) d73_49 rfl rfl ?_
        obtain ⟨g6, hm⟩ := gd_x hm
        refine pw_ac (pc := 50) d73_50 s_h g6 ?_
        refine pw_s (pc := 51) d73_51 rfl rfl ?_
        refine pw_t (pc := 52) d73_52 rfl rfl rfl (n := 1) (ls' := [(Value.ref l0), (mi_w w1), (Value.int (l2 + (tb_choose.getD ((l4 * (Int32.ofInt 5)) + l3).toNatClampNeg 0))), (Value.int l3), (Value.int l4), (Value.int l5)]) (st' := []) (by by_cases hw : Value.category w1 = 2 <;> simp [pm_sto, pm_sI, pm_sL, pm_sA, pm_inc, pm_st1, pm_st2, pm_pre, mi_w, hw] <;> first | done | exact ⟨by decide, rfl⟩ | rfl) ?_
        refine pw_t (pc := 53) d73_53 rfl rfl rfl rfl ?_
        refine pw_t (pc := 56) d73_56 rfl rfl rfl rfl ?_
        refine pw_go (pc := 59) (t := 19) d73_59 (by decide) ?_
        obtain rfl := Option.some.inj hm
        exact hE   (mi_w w1)
noncomputable def c_bagNumber_9 (l0 : Nat) (l2 : Int32) (l3 : Int32) (l4 : Int32) (h : pm_H) : Option ((Int32 × Int32 × Int32) ⊕ Int32) := if (Int8.ofInt 10).toInt32 ≤ l4 then (some (.inr l2)) else ((wh (fun s : (Int32 × Int32 × Int32) => c_bagNumber_19 l0 s.1 s.2.1 l4 s.2.2 h) (l2, l3, (Int32.ofInt 0))).bind fun q2 => some (.inl (q2.1, q2.2, (l4 + Int32.ofInt 1))))
theorem t_c_bagNumber_9 (b : Bool) (L : Nat) (xs : Nat → Int32) (d : Nat) (hd : 0 ≤ d) {Q : Option Value → pm_H → Prop} (h : pm_H) (s_h : h.1 = tb_SH) (l0 : Nat) (l2 : Int32) (l3 : Int32) (l4 : Int32) (w1 : Value) (w5 : Value) (f_l0 : mi_o l0 2 = true) {r : ((Int32 × Int32 × Int32) ⊕ Int32)} (hm : c_bagNumber_9 l0 l2 l3 l4 h = some r) (hE : E_c_bagNumber_9 b L xs d Q h l0 r) : PW b L xs d 73 0 0 9 [(Value.ref l0), w1, (Value.int l2), (Value.int l3), (Value.int l4), w5] [] h Q := by
  rw [c_bagNumber_9] at hm
  refine pw_l (pc := 9) d73_9 rfl rfl rfl ?_
  refine pw_s (pc := 11) d73_11 rfl rfl ?_
  refine pw_ige (pc := 13) (t := 68) d73_13 (by decide) (fun c1 => ?_) (fun c1 => ?_)
  · rw [if_pos c1] at hm
    obtain rfl := Option.some.inj hm
    exact hE   (Value.ref l0) w1 (Value.int l3) (Value.int l4) w5
  · rw [if_neg c1] at hm
    refine pw_s (pc := 16) d73_16 rfl rfl ?_
    refine pw_t (pc := 17) d73_17 rfl rfl rfl rfl ?_
    obtain ⟨q2, e_q2, hm⟩ := ob_x hm
    refine wh_ind e_q2 (fun s : (Int32 × Int32 × Int32) => ∀ w1 : Value, PW b L xs d 73 0 0 19 [(Value.ref l0), w1, (Value.int s.1), (Value.int s.2.1), (Value.int l4), (Value.int s.2.2)] [] h Q) (fun s s2 hf ih w1 => t_c_bagNumber_19 b L xs d hd h s_h l0 s.1 s.2.1 l4 s.2.2 w1 f_l0 hf ih) (fun s hf w1 => t_c_bagNumber_19 b L xs d hd h s_h l0 s.1 s.2.1 l4 s.2.2 w1 f_l0 hf ?_)   w1
    intro w1 w5
    refine pw_t (pc := 62) d73_62 rfl rfl rfl rfl ?_
    refine pw_go (pc := 65) (t := 9) d73_65 (by decide) ?_
    obtain rfl := Option.some.inj hm
    exact hE   w1 w5
noncomputable def c_bagNumber (l0 : Nat) (l1 : Int32) (h : pm_H) : Option Int32 := (wh (fun s : (Int32 × Int32 × Int32) => c_bagNumber_9 l0 s.1 s.2.1 s.2.2 h) ((Int32.ofInt 0), ((Int32.ofInt 5) - l1), (Int32.ofInt 0))).bind fun q1 => if (Int16.ofInt 3003).toInt32 ≤ q1 then (some (Int32.ofInt 0)) else (some q1)
theorem T_c_bagNumber (b : Bool) (L : Nat) (xs : Nat → Int32) (d : Nat) (hd : 0 ≤ d) (h : pm_H) (s_h : h.1 = tb_SH) (l0 : Nat) (l1 : Int32) (f_l0 : mi_o l0 2 = true) {r : Int32} (hm : c_bagNumber l0 l1 h = some r) : PC b L xs d 73 [(Value.ref l0), (Value.int l1)] h (fun (v0 : Option Value) (h2 : pm_H) => v0 = (some (Value.int r)) ∧ h2 = h ∧ h2.1 = tb_SH) := by
  refine pc_in e73 (ls0 := [(Value.ref l0), (Value.int l1), Value.retAddr 0, Value.retAddr 0, Value.retAddr 0, Value.retAddr 0]) rfl ?_
  have key : ∀ (Q : Option Value → pm_H → Prop), (Q (some (Value.int r)) h) → PW b L xs d 73 0 0 0 [(Value.ref l0), (Value.int l1), Value.retAddr 0, Value.retAddr 0, Value.retAddr 0, Value.retAddr 0] [] h Q := by
    intro Q hE
    rw [c_bagNumber] at hm
    refine pw_s (pc := 0) d73_0 rfl rfl ?_
    refine pw_t (pc := 1) d73_1 rfl rfl rfl rfl ?_
    refine pw_s (pc := 2) d73_2 rfl rfl ?_
    refine pw_l (pc := 3) d73_3 rfl rfl rfl ?_
    refine pw_s (pc := 4) d73_4 rfl rfl ?_
    refine pw_t (pc := 5) d73_5 rfl rfl rfl rfl ?_
    refine pw_s (pc := 6) d73_6 rfl rfl ?_
    refine pw_t (pc := 7) d73_7 rfl rfl rfl rfl ?_
    obtain ⟨q1, e_q1, hm⟩ := ob_x hm
    refine wh_ind e_q1 (fun s : (Int32 × Int32 × Int32) => ∀ w1 w5 : Value, PW b L xs d 73 0 0 9 [(Value.ref l0), w1, (Value.int s.1), (Value.int s.2.1), (Value.int s.2.2), w5] [] h Q) (fun s s2 hf ih w1 w5 => t_c_bagNumber_9 b L xs d hd h s_h l0 s.1 s.2.1 s.2.2 w1 w5 f_l0 hf ih) (fun s hf w1 w5 => t_c_bagNumber_9 b L xs d hd h s_h l0 s.1 s.2.1 s.2.2 w1 w5 f_l0 hf ?_)   (Value.int l1) (Value.retAddr 0)
    intro w0 w1 w3 w4 w5
    refine pw_l (pc := 68) d73_68 rfl rfl rfl ?_
    refine pw_s (pc := 69) d73_69 rfl rfl ?_
    refine pw_ige (pc := 72) (t := 79) d73_72 (by decide) (fun c2 => ?_) (fun c2 => ?_)
    · rw [if_pos c2] at hm
      refine pw_s (pc := 79) d73_79 rfl rfl ?_
      obtain rfl := Option.some.inj hm
      refine pw_ri (pc := 80) d73_80 t73 rfl ?_
      exact hE
    · rw [if_neg c2] at hm
      refine pw_l (pc := 75) d73_75 rfl rfl rfl ?_
      refine pw_go (pc := 76) (t := 80) d73_76 (by decide) ?_
      obtain rfl := Option.some.inj hm
      refine pw_ri (pc := 80) d73_80 t73 rfl ?_
      exact hE
  exact key _ ⟨rfl, rfl, s_h⟩
def E_r_begin_34 (b : Bool) (L : Nat) (xs : Nat → Int32) (d : Nat) (Q : Option Value → pm_H → Prop) (l0 : Nat) (l1 : Nat) (l2 : Int32) : ((Int32 × pm_H) ⊕ pm_H) → Prop
  | .inl s => s.2.1 = tb_SH → PW b L xs d 87 0 0 34 [(Value.ref l0), (Value.ref l1), (Value.int l2), (Value.int s.1)] [] s.2 Q
  | .inr e => e.1 = tb_SH → ∀ w1 w2 w3 : Value, PW b L xs d 87 0 0 67 [(Value.ref l0), w1, w2, w3] [] e Q
noncomputable def r_begin_34 (l0 : Nat) (l1 : Nat) (l2 : Int32) (l3 : Int32) (h : pm_H) : Option ((Int32 × pm_H) ⊕ pm_H) := if (h.2.1 l0 4) ≤ l3 then (some (.inr h)) else ((gA h l0 1 .int).bind fun y2 => (s_rowWord l1 l2 l3 h).bind fun q3 => if mi_in (((h.2.1 l0 4) * (Int32.ofInt 5)) + l3) (mi_n y2) = true then bd (pm_setI h y2 (((h.2.1 l0 4) * (Int32.ofInt 5)) + l3).toNatClampNeg q3) fun h5 => some (.inl ((l3 + Int32.ofInt 1), h5)) else none)
theorem t_r_begin_34 (b : Bool) (L : Nat) (xs : Nat → Int32) (d : Nat) (hd : 4 ≤ d) {Q : Option Value → pm_H → Prop} (h : pm_H) (s_h : h.1 = tb_SH) (l0 : Nat) (l1 : Nat) (l2 : Int32) (l3 : Int32) (f_l0 : mi_o l0 5 = true) (f_l1 : mi_o l1 7 = true) {r : ((Int32 × pm_H) ⊕ pm_H)} (hm : r_begin_34 l0 l1 l2 l3 h = some r) (hE : E_r_begin_34 b L xs d Q l0 l1 l2 r) : PW b L xs d 87 0 0 34 [(Value.ref l0), (Value.ref l1), (Value.int l2), (Value.int l3)] [] h Q := by
  rw [r_begin_34] at hm
  refine pw_l (pc := 34) d87_34 rfl rfl rfl ?_
  refine pw_l (pc := 35) d87_35 rfl rfl rfl ?_
  refine pw_gi (pc := 36) d87_36 (k87_25 b) (sho s_h f_l0) f5_4 ?_
  refine pw_ige (pc := 39) (t := 67) d87_39 (by decide) (fun c1 => ?_) (fun c1 => ?_)
  · rw [if_pos c1] at hm
    obtain rfl := Option.some.inj hm
    exact hE s_h  (Value.ref l1) (Value.int l2) (Value.int l3)
  · rw [if_neg c1] at hm
    refine pw_l (pc := 42) d87_42 rfl rfl rfl ?_
    obtain ⟨y2, e_y2, hm⟩ := ob_x hm
    have f_y2 := gA_x e_y2
    refine pw_gr (pc := 43) d87_43 (k87_15 b) (sho s_h f_l0) f5_1 f_y2.1 ?_
    refine pw_l (pc := 46) d87_46 rfl rfl rfl ?_
    refine pw_gi (pc := 47) d87_47 (k87_25 b) (sho s_h f_l0) f5_4 ?_
    refine pw_s (pc := 50) d87_50 rfl rfl ?_
    refine pw_s (pc := 51) d87_51 rfl rfl ?_
    refine pw_l (pc := 52) d87_52 rfl rfl rfl ?_
    refine pw_s (pc := 53) d87_53 rfl rfl ?_
    refine pw_l (pc := 54) d87_54 rfl rfl rfl ?_
    refine pw_l (pc := 55) d87_55 rfl rfl rfl ?_
    refine pw_l (pc := 56) d87_56 rfl rfl rfl ?_
    obtain ⟨q3, e_q3, hm⟩ := ob_x hm
    refine pw_v (pc := 57) (k := l1) (by omega) d87_57 (k87_44 b) (by decide) m116 (by decide) rfl (sho s_h f_l1) (Nat.le_of_ble_eq_true rfl) (Nat.le_of_ble_eq_true rfl) rfl rfl (T_s_rowWord b L xs (d - 1) (by omega) h s_h l1 l2 l3 f_l1 e_q3) (fun v0 h0 hq => ?_)
    obtain ⟨rfl, hh0, s_q3⟩ := hq
    rw [hh0] at s_q3 ⊢
    simp only [Option.toList_some, List.cons_append, List.nil_append]
    obtain ⟨g4, hm⟩ := gd_x hm
    refine pw_si (pc := 60) d87_60 (sha s_h f_y2.2) (mi_in_x g4) ?_
    obtain ⟨h5, e_h5, hm⟩ := bd_x hm
    rw [e_h5]
    have s_h5 : h5.1 = tb_SH := by rw [← e_h5]; exact s_h
    refine pw_t (pc := 61) d87_61 rfl rfl rfl rfl ?_
    refine pw_go (pc := 64) (t := 34) d87_64 (by decide) ?_
    obtain rfl := Option.some.inj hm
    exact hE s_h5  
noncomputable def r_begin_29 (l0 : Nat) (l1 : Nat) (l2 : Int32) (z0 : Int32) (z1 : Nat) (h : pm_H) : Option pm_H := bd (pm_setI h z1 4 z0) fun h1 => (wh (fun s : (Int32 × pm_H) => r_begin_34 l0 l1 l2 s.1 s.2) ((Int32.ofInt 0), h1)).bind fun q2 => bd (pm_setI q2 l0 6 (q2.2.1 l0 4)) fun h3 => (gA h3 l0 2 .int).bind fun y4 => if mi_in (h3.2.1 l0 4) (mi_n y4) = true then bd (pm_setI h3 y4 (h3.2.1 l0 4).toNatClampNeg (Int32.ofInt 0)) fun h6 => (gA h6 l0 3 .int).bind fun y7 => if mi_in (h6.2.1 l0 4) (mi_n y7) = true then bd (pm_setI h6 y7 (h6.2.1 l0 4).toNatClampNeg (Int32.ofInt 0)) fun h9 => some h9 else none else none
theorem t_r_begin_29 (b : Bool) (L : Nat) (xs : Nat → Int32) (d : Nat) (hd : 4 ≤ d) {Q : Option Value → pm_H → Prop} (h : pm_H) (s_h : h.1 = tb_SH) (l0 : Nat) (l1 : Nat) (l2 : Int32) (z0 : Int32) (z1 : Nat) (w3 : Value) (f_l0 : mi_o l0 5 = true) (f_l1 : mi_o l1 7 = true) (f_z1 : mi_o z1 5 = true) {r : pm_H} (hm : r_begin_29 l0 l1 l2 z0 z1 h = some r) (hE : r.1 = tb_SH → Q none r) : PW b L xs d 87 0 0 29 [(Value.ref l0), (Value.ref l1), (Value.int l2), w3] [(Value.int z0), (Value.ref z1)] h Q := by
  rw [r_begin_29] at hm
  refine pw_pi (pc := 29) d87_29 (k87_25 b) (sho s_h f_z1) p87_5_4 ?_
  obtain ⟨h1, e_h1, hm⟩ := bd_x hm
  rw [e_h1]
  have s_h1 : h1.1 = tb_SH := by rw [← e_h1]; exact s_h
  refine pw_s (pc := 32) d87_32 rfl rfl ?_
  refine pw_t (pc := 33) d87_33 rfl rfl rfl rfl ?_
  obtain ⟨q2, e_q2, hm⟩ := ob_x hm
  refine wh_ind e_q2 (fun s : (Int32 × pm_H) => s.2.1 = tb_SH → PW b L xs d 87 0 0 34 [(Value.ref l0), (Value.ref l1), (Value.int l2), (Value.int s.1)] [] s.2 Q) (fun s s2 hf ih sx => t_r_begin_34 b L xs d hd s.2 sx l0 l1 l2 s.1  f_l0 f_l1 hf ih) (fun s hf sx => t_r_begin_34 b L xs d hd s.2 sx l0 l1 l2 s.1  f_l0 f_l1 hf ?_) s_h1  
  intro s_q2_0 w1 w2 w3
  refine pw_l (pc := 67) d87_67 rfl rfl rfl ?_
  refine pw_l (pc := 68) d87_68 rfl rfl rfl ?_
  refine pw_gi (pc := 69) d87_69 (k87_25 b) (sho s_q2_0 f_l0) f5_4 ?_
  refine pw_pi (pc := 72) d87_72 (k87_33 b) (sho s_q2_0 f_l0) p87_5_6 ?_
  obtain ⟨h3, e_h3, hm⟩ := bd_x hm
  rw [e_h3]
  have s_h3 : h3.1 = tb_SH := by rw [← e_h3]; exact s_q2_0
  refine pw_l (pc := 75) d87_75 rfl rfl rfl ?_
  obtain ⟨y4, e_y4, hm⟩ := ob_x hm
  have f_y4 := gA_x e_y4
  refine pw_gr (pc := 76) d87_76 (k87_19 b) (sho s_h3 f_l0) f5_2 f_y4.1 ?_
  refine pw_l (pc := 79) d87_79 rfl rfl rfl ?_
  refine pw_gi (pc := 80) d87_80 (k87_25 b) (sho s_h3 f_l0) f5_4 ?_
  refine pw_s (pc := 83) d87_83 rfl rfl ?_
  obtain ⟨g5, hm⟩ := gd_x hm
  refine pw_si (pc := 84) d87_84 (sha s_h3 f_y4.2) (mi_in_x g5) ?_
  obtain ⟨h6, e_h6, hm⟩ := bd_x hm
  rw [e_h6]
  have s_h6 : h6.1 = tb_SH := by rw [← e_h6]; exact s_h3
  refine pw_l (pc := 85) d87_85 rfl rfl rfl ?_
  obtain ⟨y7, e_y7, hm⟩ := ob_x hm
  have f_y7 := gA_x e_y7
  refine pw_gr (pc := 86) d87_86 (k87_22 b) (sho s_h6 f_l0) f5_3 f_y7.1 ?_
  refine pw_l (pc := 89) d87_89 rfl rfl rfl ?_
  refine pw_gi (pc := 90) d87_90 (k87_25 b) (sho s_h6 f_l0) f5_4 ?_
  refine pw_s (pc := 93) d87_93 rfl rfl ?_
  obtain ⟨g8, hm⟩ := gd_x hm
  refine pw_si (pc := 94) d87_94 (sha s_h6 f_y7.2) (mi_in_x g8) ?_
  obtain ⟨h9, e_h9, hm⟩ := bd_x hm
  rw [e_h9]
  have s_h9 : h9.1 = tb_SH := by rw [← e_h9]; exact s_h6
  obtain rfl := Option.some.inj hm
  refine pw_rv (pc := 95) d87_95 t87 ?_
  exact hE s_h9
noncomputable def r_begin (l0 : Nat) (l1 : Nat) (l2 : Int32) (h : pm_H) : Option pm_H := bd (pm_setR h l0 0 (some l1)) fun h1 => bd (pm_setI h1 l0 5 (Int32.ofInt 1)) fun h2 => (s_canBeMeant l1 l2 h2).bind fun q3 => if q3 = 0 then (r_begin_29 l0 l1 l2 (Int32.ofInt 0) l0 h2) else ((gA h2 l1 7 .int).bind fun y5 => if mi_in l2 (mi_n y5) = true then r_begin_29 l0 l1 l2 (h2.2.1 y5 l2.toNatClampNeg) l0 h2 else none)
theorem T_r_begin (b : Bool) (L : Nat) (xs : Nat → Int32) (d : Nat) (hd : 4 ≤ d) (h : pm_H) (s_h : h.1 = tb_SH) (l0 : Nat) (l1 : Nat) (l2 : Int32) (f_l0 : mi_o l0 5 = true) (f_l1 : mi_o l1 7 = true) {r : pm_H} (hm : r_begin l0 l1 l2 h = some r) : PC b L xs d 87 [(Value.ref l0), (Value.ref l1), (Value.int l2)] h (fun (v0 : Option Value) (h2 : pm_H) => v0 = none ∧ h2 = r ∧ h2.1 = tb_SH) := by
  refine pc_in e87 (ls0 := [(Value.ref l0), (Value.ref l1), (Value.int l2), Value.retAddr 0]) rfl ?_
  have key : ∀ (Q : Option Value → pm_H → Prop), (r.1 = tb_SH → Q none r) → PW b L xs d 87 0 0 0 [(Value.ref l0), (Value.ref l1), (Value.int l2), Value.retAddr 0] [] h Q := by
    intro Q hE
    rw [r_begin] at hm
    refine pw_l (pc := 0) d87_0 rfl rfl rfl ?_
    refine pw_l (pc := 1) d87_1 rfl rfl rfl ?_
    refine pw_pr (pc := 2) d87_2 (k87_9 b) (sho s_h f_l0) p87_5_0 ?_
    obtain ⟨h1, e_h1, hm⟩ := bd_x hm
    rw [e_h1]
    have s_h1 : h1.1 = tb_SH := by rw [← e_h1]; exact s_h
    refine pw_l (pc := 5) d87_5 rfl rfl rfl ?_
    refine pw_s (pc := 6) d87_6 rfl rfl ?_
    refine pw_pz (pc := 7) d87_7 (k87_29 b) (sho s_h1 f_l0) p87_5_5 (by decide) ?_
    obtain ⟨h2, e_h2, hm⟩ := bd_x hm
    rw [e_h2]
    have s_h2 : h2.1 = tb_SH := by rw [← e_h2]; exact s_h1
    refine pw_l (pc := 10) d87_10 rfl rfl rfl ?_
    refine pw_l (pc := 11) d87_11 rfl rfl rfl ?_
    refine pw_l (pc := 12) d87_12 rfl rfl rfl ?_
    obtain ⟨q3, e_q3, hm⟩ := ob_x hm
    refine pw_v (pc := 13) (k := l1) (by omega) d87_13 (k87_36 b) (by decide) m121 (by decide) rfl (sho s_h2 f_l1) (Nat.le_of_ble_eq_true rfl) (Nat.le_of_ble_eq_true rfl) rfl rfl (T_s_canBeMeant b L xs (d - 1) (by omega) h2 s_h2 l1 l2 f_l1 e_q3) (fun v0 h0 hq => ?_)
    obtain ⟨rfl, hh0, s_q3⟩ := hq
    rw [hh0] at s_q3 ⊢
    simp only [Option.toList_some, List.cons_append, List.nil_append]
    refine pw_zeq (pc := 16) (t := 28) d87_16 (by decide) (fun c4 => ?_) (fun c4 => ?_)
    · rw [if_pos c4] at hm
      refine pw_s (pc := 28) d87_28 rfl rfl ?_
      exact t_r_begin_29 b L xs d hd h2 s_h2 l0 l1 l2 (Int32.ofInt 0) l0 (Value.retAddr 0) f_l0 f_l1 f_l0 hm hE
    · rw [if_neg c4] at hm
      refine pw_l (pc := 19) d87_19 rfl rfl rfl ?_
      obtain ⟨y5, e_y5, hm⟩ := ob_x hm
      have f_y5 := gA_x e_y5
      refine pw_gr (pc := 20) d87_20 (k87_42 b) (sho s_h2 f_l1) f7_7 f_y5.1 ?_
      refine pw_l (pc := 23) d87_23 rfl rfl rfl ?_
      obtain ⟨g6, hm⟩ := gd_x hm
      refine pw_ai (pc := 24) d87_24 (sha s_h2 f_y5.2) (mi_in_x g6) ?_
      refine pw_go (pc := 25) (t := 29) d87_25 (by decide) ?_
      exact t_r_begin_29 b L xs d hd h2 s_h2 l0 l1 l2 (h2.2.1 y5 l2.toNatClampNeg) l0 (Value.retAddr 0) f_l0 f_l1 f_l0 hm hE
  exact key _ (fun q => ⟨rfl, rfl, q⟩)
noncomputable def r_at_23 (l0 : Nat) (l1 : Int32) (l2 : Int32) (z0 : Int32) (h : pm_H) : Option Int32 := if z0 = 0 then (some (Int32.ofInt (-1))) else ((gA h l0 1 .int).bind fun y2 => if mi_in ((l1 * (Int32.ofInt 5)) + l2) (mi_n y2) = true then some (h.2.1 y2 ((l1 * (Int32.ofInt 5)) + l2).toNatClampNeg) else none)
theorem t_r_at_23 (b : Bool) (L : Nat) (xs : Nat → Int32) (d : Nat) (hd : 0 ≤ d) {Q : Option Value → pm_H → Prop} (h : pm_H) (s_h : h.1 = tb_SH) (l0 : Nat) (l1 : Int32) (l2 : Int32) (z0 : Int32) (w3 : Value) (f_l0 : mi_o l0 5 = true) {r : Int32} (hm : r_at_23 l0 l1 l2 z0 h = some r) (hE : Q (some (Value.int r)) h) : PW b L xs d 89 0 0 23 [(Value.ref l0), (Value.int l1), (Value.int l2), w3] [(Value.int z0)] h Q := by
  rw [r_at_23] at hm
  refine pw_t (pc := 23) d89_23 rfl rfl rfl rfl ?_
  refine pw_l (pc := 24) d89_24 rfl rfl rfl ?_
  refine pw_zeq (pc := 25) (t := 41) d89_25 (by decide) (fun c1 => ?_) (fun c1 => ?_)
  · rw [if_pos c1] at hm
    refine pw_s (pc := 41) d89_41 rfl rfl ?_
    obtain rfl := Option.some.inj hm
    refine pw_ri (pc := 42) d89_42 t89 rfl ?_
    exact hE
  · rw [if_neg c1] at hm
    refine pw_l (pc := 28) d89_28 rfl rfl rfl ?_
    obtain ⟨y2, e_y2, hm⟩ := ob_x hm
    have f_y2 := gA_x e_y2
    refine pw_gr (pc := 29) d89_29 (k89_15 b) (sho s_h f_l0) f5_1 f_y2.1 ?_
    refine pw_l (pc := 32) d89_32 rfl rfl rfl ?_
    refine pw_s (pc := 33) d89_33 rfl rfl ?_
    refine pw_s (pc := 34) d89_34 rfl rfl ?_
    refine pw_l (pc := 35) d89_35 rfl rfl rfl ?_
    refine pw_s (pc := 36) d89_36 rfl rfl ?_
    obtain ⟨g3, hm⟩ := gd_x hm
    refine pw_ai (pc := 37) d89_37 (sha s_h f_y2.2) (mi_in_x g3) ?_
    refine pw_go (pc := 38) (t := 42) d89_38 (by decide) ?_
    obtain rfl := Option.some.inj hm
    refine pw_ri (pc := 42) d89_42 t89 rfl ?_
    exact hE
noncomputable def r_at (l0 : Nat) (l1 : Int32) (l2 : Int32) (h : pm_H) : Option Int32 := if l1 < 0 then (r_at_23 l0 l1 l2 (Int32.ofInt 0) h) else (if (Int32.ofInt 5) < l1 then (r_at_23 l0 l1 l2 (Int32.ofInt 0) h) else (if l2 < 0 then (r_at_23 l0 l1 l2 (Int32.ofInt 0) h) else (if l1 ≤ l2 then (r_at_23 l0 l1 l2 (Int32.ofInt 0) h) else (r_at_23 l0 l1 l2 (Int32.ofInt 1) h))))
theorem T_r_at (b : Bool) (L : Nat) (xs : Nat → Int32) (d : Nat) (hd : 0 ≤ d) (h : pm_H) (s_h : h.1 = tb_SH) (l0 : Nat) (l1 : Int32) (l2 : Int32) (f_l0 : mi_o l0 5 = true) {r : Int32} (hm : r_at l0 l1 l2 h = some r) : PC b L xs d 89 [(Value.ref l0), (Value.int l1), (Value.int l2)] h (fun (v0 : Option Value) (h2 : pm_H) => v0 = (some (Value.int r)) ∧ h2 = h ∧ h2.1 = tb_SH) := by
  refine pc_in e89 (ls0 := [(Value.ref l0), (Value.int l1), (Value.int l2), Value.retAddr 0]) rfl ?_
  have key : ∀ (Q : Option Value → pm_H → Prop), (Q (some (Value.int r)) h) → PW b L xs d 89 0 0 0 [(Value.ref l0), (Value.int l1), (Value.int l2), Value.retAddr 0] [] h Q := by
    intro Q hE
    rw [r_at] at hm
    refine pw_l (pc := 0) d89_0 rfl rfl rfl ?_
    refine pw_zlt (pc := 1) (t := 22) d89_1 (by decide) (fun c1 => ?_) (fun c1 => ?_)
    · rw [if_pos c1] at hm
      refine pw_s (pc := 22) d89_22 rfl rfl ?_
      exact t_r_at_23 b L xs d hd h s_h l0 l1 l2 (Int32.ofInt 0) (Value.retAddr 0) f_l0  hm hE
    · rw [if_neg c1] at hm
      refine pw_l (pc := 4) d89_4 rfl rfl rfl ?_
      refine pw_s (pc := 5) d89_5 rfl rfl ?_
      refine pw_igt (pc := 6) (t := 22) d89_6 (by decide) (fun c2 => ?_) (fun c2 => ?_)
      · rw [if_pos c2] at hm
        refine pw_s (pc := 22) d89_22 rfl rfl ?_
        exact t_r_at_23 b L xs d hd h s_h l0 l1 l2 (Int32.ofInt 0) (Value.retAddr 0) f_l0  hm hE
      · rw [if_neg c2] at hm
        refine pw_l (pc := 9) d89_9 rfl rfl rfl ?_
        refine pw_zlt (pc := 10) (t := 22) d89_10 (by decide) (fun c3 => ?_) (fun c3 => ?_)
        · rw [if_pos c3] at hm
          refine pw_s (pc := 22) d89_22 rfl rfl ?_
          exact t_r_at_23 b L xs d hd h s_h l0 l1 l2 (Int32.ofInt 0) (Value.retAddr 0) f_l0  hm hE
        · rw [if_neg c3] at hm
          refine pw_l (pc := 13) d89_13 rfl rfl rfl ?_
          refine pw_l (pc := 14) d89_14 rfl rfl rfl ?_
          refine pw_ige (pc := 15) (t := 22) d89_15 (by decide) (fun c4 => ?_) (fun c4 => ?_)
          · rw [if_pos c4] at hm
            refine pw_s (pc := 22) d89_22 rfl rfl ?_
            exact t_r_at_23 b L xs d hd h s_h l0 l1 l2 (Int32.ofInt 0) (Value.retAddr 0) f_l0  hm hE
          · rw [if_neg c4] at hm
            refine pw_s (pc := 18) d89_18 rfl rfl ?_
            refine pw_go (pc := 19) (t := 23) d89_19 (by decide) ?_
            exact t_r_at_23 b L xs d hd h s_h l0 l1 l2 (Int32.ofInt 1) (Value.retAddr 0) f_l0  hm hE
  exact key _ ⟨rfl, rfl, s_h⟩
noncomputable def r_grow (l0 : Nat) (l1 : Int32) (l2 : Int32) (l3 : Int32) (h : pm_H) : Option pm_H := (gA h l0 1 .int).bind fun y1 => (gA h l0 1 .int).bind fun y2 => if mi_cp (mi_n y1) (mi_n y2) ((h.2.1 l0 6) * (Int32.ofInt 5)) (((h.2.1 l0 6) * (Int32.ofInt 5)) + (Int32.ofInt 5)) l1 = true then bd (pm_rowI h y2 (va_cpy (h.2.1 y1) (h.2.1 y2) ((h.2.1 l0 6) * (Int32.ofInt 5)).toNatClampNeg (((h.2.1 l0 6) * (Int32.ofInt 5)) + (Int32.ofInt 5)).toNatClampNeg l1.toNatClampNeg)) fun h4 => (gA h4 l0 1 .int).bind fun y5 => if mi_in ((((h.2.1 l0 6) * (Int32.ofInt 5)) + (Int32.ofInt 5)) + l1) (mi_n y5) = true then bd (pm_setI h4 y5 ((((h.2.1 l0 6) * (Int32.ofInt 5)) + (Int32.ofInt 5)) + l1).toNatClampNeg l2) fun h7 => (gA h7 l0 1 .int).bind fun y8 => if mi_in (((((h.2.1 l0 6) * (Int32.ofInt 5)) + (Int32.ofInt 5)) + l1) + (Int32.ofInt 1)) (mi_n y8) = true then bd (pm_setI h7 y8 (((((h.2.1 l0 6) * (Int32.ofInt 5)) + (Int32.ofInt 5)) + l1) + (Int32.ofInt 1)).toNatClampNeg l3) fun h10 => (gA h10 l0 1 .int).bind fun y11 => (gA h10 l0 1 .int).bind fun y12 => if mi_cp (mi_n y11) (mi_n y12) ((((h.2.1 l0 6) * (Int32.ofInt 5)) + l1) + (Int32.ofInt 1)) (((((h.2.1 l0 6) * (Int32.ofInt 5)) + (Int32.ofInt 5)) + l1) + (Int32.ofInt 2)) (((h10.2.1 l0 6) - l1) - (Int32.ofInt 1)) = true then bd (pm_rowI h10 y12 (va_cpy (h10.2.1 y11) (h10.2.1 y12) ((((h.2.1 l0 6) * (Int32.ofInt 5)) + l1) + (Int32.ofInt 1)).toNatClampNeg (((((h.2.1 l0 6) * (Int32.ofInt 5)) + (Int32.ofInt 5)) + l1) + (Int32.ofInt 2)).toNatClampNeg (((h10.2.1 l0 6) - l1) - (Int32.ofInt 1)).toNatClampNeg)) fun h14 => (gA h14 l0 2 .int).bind fun y15 => if mi_in ((h14.2.1 l0 6) + (Int32.ofInt 1)) (mi_n y15) = true then bd (pm_setI h14 y15 ((h14.2.1 l0 6) + (Int32.ofInt 1)).toNatClampNeg (Int32.ofInt 0)) fun h17 => (gA h17 l0 3 .int).bind fun y18 => if mi_in ((h17.2.1 l0 6) + (Int32.ofInt 1)) (mi_n y18) = true then bd (pm_setI h17 y18 ((h17.2.1 l0 6) + (Int32.ofInt 1)).toNatClampNeg (Int32.ofInt 0)) fun h20 => some h20 else none else none else none else none else none else none
theorem T_r_grow (b : Bool) (L : Nat) (xs : Nat → Int32) (d : Nat) (hd : 1 ≤ d) (h : pm_H) (s_h : h.1 = tb_SH) (l0 : Nat) (l1 : Int32) (l2 : Int32) (l3 : Int32) (f_l0 : mi_o l0 5 = true) {r : pm_H} (hm : r_grow l0 l1 l2 l3 h = some r) : PC b L xs d 92 [(Value.ref l0), (Value.int l1), (Value.int l2), (Value.int l3)] h (fun (v0 : Option Value) (h2 : pm_H) => v0 = none ∧ h2 = r ∧ h2.1 = tb_SH) := by
  refine pc_in e92 (ls0 := [(Value.ref l0), (Value.int l1), (Value.int l2), (Value.int l3), Value.retAddr 0, Value.retAddr 0]) rfl ?_
  have key : ∀ (Q : Option Value → pm_H → Prop), (r.1 = tb_SH → Q none r) → PW b L xs d 92 0 0 0 [(Value.ref l0), (Value.int l1), (Value.int l2), (Value.int l3), Value.retAddr 0, Value.retAddr 0] [] h Q := by
    intro Q hE
    rw [r_grow] at hm
    refine pw_l (pc := 0) d92_0 rfl rfl rfl ?_
    refine pw_gi (pc := 1) d92_1 (k92_33 b) (sho s_h f_l0) f5_6 ?_
    refine pw_s (pc := 4) d92_4 rfl rfl ?_
    refine pw_s (pc := 5) d92_5 rfl rfl ?_
    refine pw_t (pc := 6) d92_6 rfl rfl rfl rfl ?_
    refine pw_l (pc := 8) d92_8 rfl rfl rfl ?_
    refine pw_s (pc := 10) d92_10 rfl rfl ?_
    refine pw_s (pc := 11) d92_11 rfl rfl ?_
    refine pw_t (pc := 12) d92_12 rfl rfl rfl rfl ?_
    refine pw_l (pc := 14) d92_14 rfl rfl rfl ?_
    obtain ⟨y1, e_y1, hm⟩ := ob_x hm
    have f_y1 := gA_x e_y1
    refine pw_gr (pc := 15) d92_15 (k92_15 b) (sho s_h f_l0) f5_1 f_y1.1 ?_
    refine pw_l (pc := 18) d92_18 rfl rfl rfl ?_
    refine pw_l (pc := 20) d92_20 rfl rfl rfl ?_
    obtain ⟨y2, e_y2, hm⟩ := ob_x hm
    have f_y2 := gA_x e_y2
    refine pw_gr (pc := 21) d92_21 (k92_15 b) (sho s_h f_l0) f5_1 f_y2.1 ?_
    refine pw_l (pc := 24) d92_24 rfl rfl rfl ?_
    refine pw_l (pc := 26) d92_26 rfl rfl rfl ?_
    obtain ⟨g3, hm⟩ := gd_x hm
    refine pw_cpy (pc := 27) (by omega) d92_27 (k92_76 b) (sha s_h f_y1.2) (sha s_h f_y2.2) g3 (Nat.le_of_ble_eq_true rfl) ?_
    obtain ⟨h4, e_h4, hm⟩ := bd_x hm
    rw [e_h4]
    have s_h4 : h4.1 = tb_SH := by rw [← e_h4]; exact s_h
    refine pw_l (pc := 30) d92_30 rfl rfl rfl ?_
    obtain ⟨y5, e_y5, hm⟩ := ob_x hm
    have f_y5 := gA_x e_y5
    refine pw_gr (pc := 31) d92_31 (k92_15 b) (sho s_h4 f_l0) f5_1 f_y5.1 ?_
    refine pw_l (pc := 34) d92_34 rfl rfl rfl ?_
    refine pw_l (pc := 36) d92_36 rfl rfl rfl ?_
    refine pw_s (pc := 37) d92_37 rfl rfl ?_
    refine pw_l (pc := 38) d92_38 rfl rfl rfl ?_
    obtain ⟨g6, hm⟩ := gd_x hm
    refine pw_si (pc := 39) d92_39 (sha s_h4 f_y5.2) (mi_in_x g6) ?_
    obtain ⟨h7, e_h7, hm⟩ := bd_x hm
    rw [e_h7]
    have s_h7 : h7.1 = tb_SH := by rw [← e_h7]; exact s_h4
    refine pw_l (pc := 40) d92_40 rfl rfl rfl ?_
    obtain ⟨y8, e_y8, hm⟩ := ob_x hm
    have f_y8 := gA_x e_y8
    refine pw_gr (pc := 41) d92_41 (k92_15 b) (sho s_h7 f_l0) f5_1 f_y8.1 ?_
    refine pw_l (pc := 44) d92_44 rfl rfl rfl ?_
    refine pw_l (pc := 46) d92_46 rfl rfl rfl ?_
    refine pw_s (pc := 47) d92_47 rfl rfl ?_
    refine pw_s (pc := 48) d92_48 rfl rfl ?_
    refine pw_s (pc := 49) d92_49 rfl rfl ?_
    refine pw_l (pc := 50) d92_50 rfl rfl rfl ?_
    obtain ⟨g9, hm⟩ := gd_x hm
    refine pw_si (pc := 51) d92_51 (sha s_h7 f_y8.2) (mi_in_x g9) ?_
    obtain ⟨h10, e_h10, hm⟩ := bd_x hm
    rw [e_h10]
    have s_h10 : h10.1 = tb_SH := by rw [← e_h10]; exact s_h7
    refine pw_l (pc := 52) d92_52 rfl rfl rfl ?_
    obtain ⟨y11, e_y11, hm⟩ := ob_x hm
    have f_y11 := gA_x e_y11
    refine pw_gr (pc := 53) d92_53 (k92_15 b) (sho s_h10 f_l0) f5_1 f_y11.1 ?_
    refine pw_l (pc := 56) d92_56 rfl rfl rfl ?_
    refine pw_l (pc := 58) d92_58 rfl rfl rfl ?_
    refine pw_s (pc := 59) d92_59 rfl rfl ?_
    refine pw_s (pc := 60) d92_60 rfl rfl ?_
    refine pw_s (pc := 61) d92_61 rfl rfl ?_
    refine pw_l (pc := 62) d92_62 rfl rfl rfl ?_
    obtain ⟨y12, e_y12, hm⟩ := ob_x hm
    have f_y12 := gA_x e_y12
    refine pw_gr (pc := 63) d92_63 (k92_15 b) (sho s_h10 f_l0) f5_1 f_y12.1 ?_
    refine pw_l (pc := 66) d92_66 rfl rfl rfl ?_
    refine pw_l (pc := 68) d92_68 rfl rfl rfl ?_
    refine pw_s (pc := 69) d92_69 rfl rfl ?_
    refine pw_s (pc := 70) d92_70 rfl rfl ?_
    refine pw_s (pc := 71) d92_71 rfl rfl ?_
    refine pw_l (pc := 72) d92_72 rfl rfl rfl ?_
    refine pw_gi (pc := 73) d92_73 (k92_33 b) (sho s_h10 f_l0) f5_6 ?_
    refine pw_l (pc := 76) d92_76 rfl rfl rfl ?_
    refine pw_s (pc := 77) d92_77 rfl rfl ?_
    refine pw_s (pc := 78) d92_78 rfl rfl ?_
    refine pw_s (pc := 79) d92_79 rfl rfl ?_
    obtain ⟨g13, hm⟩ := gd_x hm
    refine pw_cpy (pc := 80) (by omega) d92_80 (k92_76 b) (sha s_h10 f_y11.2) (sha s_h10 f_y12.2) g13 (Nat.le_of_ble_eq_true rfl) ?_
    obtain ⟨h14, e_h14, hm⟩ := bd_x hm
    rw [e_h14]
    have s_h14 : h14.1 = tb_SH := by rw [← e_h14]; exact s_h10
    refine pw_l (pc := 83) d92_83 rfl rfl rfl ?_
    obtain ⟨y15, e_y15, hm⟩ := ob_x hm
    have f_y15 := gA_x e_y15
    refine pw_gr (pc := 84) d92_84 (k92_19 b) (sho s_h14 f_l0) f5_2 f_y15.1 ?_
    refine pw_l (pc := 87) d92_87 rfl rfl rfl ?_
    refine pw_gi (pc := 88) d92_88 (k92_33 b) (sho s_h14 f_l0) f5_6 ?_
    refine pw_s (pc := 91) d92_91 rfl rfl ?_
    refine pw_s (pc := 92) d92_92 rfl rfl ?_
    refine pw_s (pc := 93) d92_93 rfl rfl ?_
    obtain ⟨g16, hm⟩ := gd_x hm
    refine pw_si (pc := 94) d92_94 (sha s_h14 f_y15.2) (mi_in_x g16) ?_
    obtain ⟨h17, e_h17, hm⟩ := bd_x hm
    rw [e_h17]
    have s_h17 : h17.1 = tb_SH := by rw [← e_h17]; exact s_h14
    refine pw_l (pc := 95) d92_95 rfl rfl rfl ?_
    obtain ⟨y18, e_y18, hm⟩ := ob_x hm
    have f_y18 := gA_x e_y18
    refine pw_gr (pc := 96) d92_96 (k92_22 b) (sho s_h17 f_l0) f5_3 f_y18.1 ?_
    refine pw_l (pc := 99) d92_99 rfl rfl rfl ?_
    refine pw_gi (pc := 100) d92_100 (k92_33 b) (sho s_h17 f_l0) f5_6 ?_
    refine pw_s (pc := 103) d92_103 rfl rfl ?_
    refine pw_s (pc := 104) d92_104 rfl rfl ?_
    refine pw_s (pc := 105) d92_105 rfl rfl ?_
    obtain ⟨g19, hm⟩ := gd_x hm
    refine pw_si (pc := 106) d92_106 (sha s_h17 f_y18.2) (mi_in_x g19) ?_
    obtain ⟨h20, e_h20, hm⟩ := bd_x hm
    rw [e_h20]
    have s_h20 : h20.1 = tb_SH := by rw [← e_h20]; exact s_h17
    obtain rfl := Option.some.inj hm
    refine pw_rv (pc := 107) d92_107 t92 ?_
    exact hE s_h20
  exact key _ (fun q => ⟨rfl, rfl, q⟩)
def E_c_ordersOfAll_10 (b : Bool) (L : Nat) (xs : Nat → Int32) (d : Nat) (Q : Option Value → pm_H → Prop) (l0 : Nat) (l1 : Int32) (l2 : Int32) : ((Int32 × pm_H) ⊕ pm_H) → Prop
  | .inl s => s.2.1 = tb_SH → ∀ w4 : Value, PW b L xs d 71 0 0 10 [(Value.ref l0), (Value.int l1), (Value.int l2), (Value.int s.1), w4] [] s.2 Q
  | .inr e => e.1 = tb_SH → ∀ w3 w4 : Value, PW b L xs d 71 0 0 55 [(Value.ref l0), (Value.int l1), (Value.int l2), w3, w4] [] e Q
noncomputable def c_ordersOfAll_79 (l0 : Nat) (l1 : Int32) (l3 : Int32) (z0 : Int32) (h : pm_H) : Option (Int32 × pm_H) := if l1 < 0 then (some (z0, h)) else (if (Int32.ofInt 5) ≤ l3 then (some (z0, h)) else ((c_put l0 l1 h).bind fun q3 => (gA q3 l0 2 .int).bind fun y4 => (c_bagNumber l0 (l3 + (Int32.ofInt 1)) q3).bind fun q5 => if mi_in q5 (mi_n y4) = true then some ((z0 ||| (q3.2.1 y4 q5.toNatClampNeg)), q3) else none))
theorem t_c_ordersOfAll_79 (b : Bool) (L : Nat) (xs : Nat → Int32) (d : Nat) (hd : 1 ≤ d) {Q : Option Value → pm_H → Prop} (h : pm_H) (s_h : h.1 = tb_SH) (l0 : Nat) (l1 : Int32) (l3 : Int32) (z0 : Int32) (w2 : Value) (w4 : Value) (f_l0 : mi_o l0 2 = true) {r : (Int32 × pm_H)} (hm : c_ordersOfAll_79 l0 l1 l3 z0 h = some r) (hE : r.2.1 = tb_SH → Q (some (Value.int r.1)) r.2) : PW b L xs d 71 0 0 79 [(Value.ref l0), (Value.int l1), w2, (Value.int l3), w4] [(Value.int z0)] h Q := by
  rw [c_ordersOfAll_79] at hm
  refine pw_t (pc := 79) d71_79 rfl rfl rfl rfl ?_
  refine pw_l (pc := 81) d71_81 rfl rfl rfl ?_
  refine pw_zlt (pc := 82) (t := 112) d71_82 (by decide) (fun c1 => ?_) (fun c1 => ?_)
  · rw [if_pos c1] at hm
    refine pw_l (pc := 112) d71_112 rfl rfl rfl ?_
    obtain rfl := Option.some.inj hm
    refine pw_ri (pc := 114) d71_114 t71 rfl ?_
    exact hE s_h
  · rw [if_neg c1] at hm
    refine pw_l (pc := 85) d71_85 rfl rfl rfl ?_
    refine pw_s (pc := 86) d71_86 rfl rfl ?_
    refine pw_ige (pc := 87) (t := 112) d71_87 (by decide) (fun c2 => ?_) (fun c2 => ?_)
    · rw [if_pos c2] at hm
      refine pw_l (pc := 112) d71_112 rfl rfl rfl ?_
      obtain rfl := Option.some.inj hm
      refine pw_ri (pc := 114) d71_114 t71 rfl ?_
      exact hE s_h
    · rw [if_neg c2] at hm
      refine pw_l (pc := 90) d71_90 rfl rfl rfl ?_
      refine pw_l (pc := 91) d71_91 rfl rfl rfl ?_
      obtain ⟨q3, e_q3, hm⟩ := ob_x hm
      refine pw_v (pc := 92) (k := l0) (by omega) d71_92 (k71_63 b) (by decide) m72 (by decide) rfl (sho s_h f_l0) (Nat.le_of_ble_eq_true rfl) (Nat.le_of_ble_eq_true rfl) rfl rfl (T_c_put b L xs (d - 1) (by omega) h s_h l0 l1 f_l0 e_q3) (fun v0 h0 hq => ?_)
      obtain ⟨rfl, hh0, s_q3⟩ := hq
      rw [hh0] at s_q3 ⊢
      simp only [Option.toList_none, List.nil_append]
      refine pw_l (pc := 95) d71_95 rfl rfl rfl ?_
      refine pw_l (pc := 97) d71_97 rfl rfl rfl ?_
      obtain ⟨y4, e_y4, hm⟩ := ob_x hm
      have f_y4 := gA_x e_y4
      refine pw_gr (pc := 98) d71_98 (k71_22 b) (sho s_q3 f_l0) f2_2 f_y4.1 ?_
      refine pw_l (pc := 101) d71_101 rfl rfl rfl ?_
      refine pw_l (pc := 102) d71_102 rfl rfl rfl ?_
      refine pw_s (pc := 103) d71_103 rfl rfl ?_
      refine pw_s (pc := 104) d71_104 rfl rfl ?_
      obtain ⟨q5, e_q5, hm⟩ := ob_x hm
      refine pw_v (pc := 105) (k := l0) (by omega) d71_105 (k71_67 b) (by decide) m73 (by decide) rfl (sho s_q3 f_l0) (Nat.le_of_ble_eq_true rfl) (Nat.le_of_ble_eq_true rfl) rfl rfl (T_c_bagNumber b L xs (d - 1) (by omega) q3 s_q3 l0 (l3 + (Int32.ofInt 1)) f_l0 e_q5) (fun v0 h0 hq => ?_)
      obtain ⟨rfl, hh0, s_q5⟩ := hq
      rw [hh0] at s_q5 ⊢
      simp only [Option.toList_some, List.cons_append, List.nil_append]
      obtain ⟨g6, hm⟩ := gd_x hm
      refine pw_ai (pc := 108) d71_108 (sha s_q3 f_y4.2) (mi_in_x g6) ?_
      refine pw_s (pc := 109) d71_109 rfl rfl ?_
      refine pw_t (pc := 110) d71_110 rfl rfl rfl rfl ?_
      refine pw_l (pc := 112) d71_112 rfl rfl rfl ?_
      obtain rfl := Option.some.inj hm
      refine pw_ri (pc := 114) d71_114 t71 rfl ?_
      exact hE s_q3
noncomputable def c_ordersOfAll_55 (l0 : Nat) (l1 : Int32) (l2 : Int32) (h : pm_H) : Option (Int32 × pm_H) := (i_bitCount l2 h).bind fun q1 => if q1 ≤ (Int32.ofInt 5) then ((gA h l0 2 .int).bind fun y3 => (c_bagNumber l0 q1 h).bind fun q4 => if mi_in q4 (mi_n y3) = true then c_ordersOfAll_79 l0 l1 q1 (h.2.1 y3 q4.toNatClampNeg) h else none) else (c_ordersOfAll_79 l0 l1 q1 (Int32.ofInt 0) h)
theorem t_c_ordersOfAll_55 (b : Bool) (L : Nat) (xs : Nat → Int32) (d : Nat) (hd : 1 ≤ d) {Q : Option Value → pm_H → Prop} (h : pm_H) (s_h : h.1 = tb_SH) (l0 : Nat) (l1 : Int32) (l2 : Int32) (w3 : Value) (w4 : Value) (f_l0 : mi_o l0 2 = true) {r : (Int32 × pm_H)} (hm : c_ordersOfAll_55 l0 l1 l2 h = some r) (hE : r.2.1 = tb_SH → Q (some (Value.int r.1)) r.2) : PW b L xs d 71 0 0 55 [(Value.ref l0), (Value.int l1), (Value.int l2), w3, w4] [] h Q := by
  rw [c_ordersOfAll_55] at hm
  refine pw_l (pc := 55) d71_55 rfl rfl rfl ?_
  obtain ⟨q1, e_q1, hm⟩ := ob_x hm
  refine pw_u (pc := 56) (by omega) d71_56 (k71_90 b) (by decide) m259 (Nat.le_of_ble_eq_true rfl) (Nat.le_of_ble_eq_true rfl) (Nat.le_of_ble_eq_true rfl) rfl rfl (T_i_bitCount b L xs (d - 1) (by omega) h s_h l2  e_q1) (fun v0 h0 hq => ?_)
  obtain ⟨rfl, hh0, s_q1⟩ := hq
  rw [hh0] at s_q1 ⊢
  simp only [Option.toList_some, List.cons_append, List.nil_append]
  refine pw_t (pc := 59) d71_59 rfl rfl rfl rfl ?_
  refine pw_l (pc := 60) d71_60 rfl rfl rfl ?_
  refine pw_s (pc := 61) d71_61 rfl rfl ?_
  refine pw_ile (pc := 62) (t := 69) d71_62 (by decide) (fun c2 => ?_) (fun c2 => ?_)
  · rw [if_pos c2] at hm
    refine pw_l (pc := 69) d71_69 rfl rfl rfl ?_
    obtain ⟨y3, e_y3, hm⟩ := ob_x hm
    have f_y3 := gA_x e_y3
    refine pw_gr (pc := 70) d71_70 (k71_22 b) (sho s_h f_l0) f2_2 f_y3.1 ?_
    refine pw_l (pc := 73) d71_73 rfl rfl rfl ?_
    refine pw_l (pc := 74) d71_74 rfl rfl rfl ?_
    obtain ⟨q4, e_q4, hm⟩ := ob_x hm
    refine pw_v (pc := 75) (k := l0) (by omega) d71_75 (k71_67 b) (by decide) m73 (by decide) rfl (sho s_h f_l0) (Nat.le_of_ble_eq_true rfl) (Nat.le_of_ble_eq_true rfl) rfl rfl (T_c_bagNumber b L xs (d - 1) (by omega) h s_h l0 q1 f_l0 e_q4) (fun v0 h0 hq => ?_)
    obtain ⟨rfl, hh0, s_q4⟩ := hq
    rw [hh0] at s_q4 ⊢
    simp only [Option.toList_some, List.cons_append, List.nil_append]
    obtain ⟨g5, hm⟩ := gd_x hm
    refine pw_ai (pc := 78) d71_78 (sha s_h f_y3.2) (mi_in_x g5) ?_
    exact t_c_ordersOfAll_79 b L xs d hd h s_h l0 l1 q1 (h.2.1 y3 q4.toNatClampNeg) (Value.int l2) w4 f_l0  hm hE
  · rw [if_neg c2] at hm
    refine pw_s (pc := 65) d71_65 rfl rfl ?_
    refine pw_go (pc := 66) (t := 79) d71_66 (by decide) ?_
    exact t_c_ordersOfAll_79 b L xs d hd h s_h l0 l1 q1 (Int32.ofInt 0) (Value.int l2) w4 f_l0  hm hE
noncomputable def c_ordersOfAll_10 (l0 : Nat) (l1 : Int32) (l2 : Int32) (l3 : Int32) (h : pm_H) : Option ((Int32 × pm_H) ⊕ pm_H) := if h.2.2.2 l0 0 = none then (some (.inr h)) else ((gO h l0 0 7).bind fun y2 => if (h.2.1 y2 1) ≤ l3 then (some (.inr h)) else ((x_bit l2 l3 h).bind fun q4 => if ¬ q4 = (Int32.ofInt 1) then (some (.inl ((l3 + Int32.ofInt 1), h))) else ((gO h l0 0 7).bind fun y6 => (s_wordOf y6 l3 h).bind fun q7 => (c_put l0 q7 h).bind fun q8 => some (.inl ((l3 + Int32.ofInt 1), q8)))))
theorem t_c_ordersOfAll_10 (b : Bool) (L : Nat) (xs : Nat → Int32) (d : Nat) (hd : 1 ≤ d) {Q : Option Value → pm_H → Prop} (h : pm_H) (s_h : h.1 = tb_SH) (l0 : Nat) (l1 : Int32) (l2 : Int32) (l3 : Int32) (w4 : Value) (f_l0 : mi_o l0 2 = true) {r : ((Int32 × pm_H) ⊕ pm_H)} (hm : c_ordersOfAll_10 l0 l1 l2 l3 h = some r) (hE : E_c_ordersOfAll_10 b L xs d Q l0 l1 l2 r) : PW b L xs d 71 0 0 10 [(Value.ref l0), (Value.int l1), (Value.int l2), (Value.int l3), w4] [] h Q := by
  rw [c_ordersOfAll_10] at hm
  refine pw_l (pc := 10) d71_10 rfl rfl rfl ?_
  refine pw_gnu (pc := 11) (t := 55) d71_11 (k71_9 b) (sho s_h f_l0) f2_0 d71_14 (by decide) (fun c1 => ?_) (fun c1 => ?_)
  · rw [if_pos c1] at hm
    obtain rfl := Option.some.inj hm
    exact hE s_h  (Value.int l3) w4
  · rw [if_neg c1] at hm
    refine pw_l (pc := 17) d71_17 rfl rfl rfl ?_
    refine pw_l (pc := 18) d71_18 rfl rfl rfl ?_
    obtain ⟨y2, e_y2, hm⟩ := ob_x hm
    have f_y2 := gO_x e_y2
    refine pw_gr (pc := 19) d71_19 (k71_9 b) (sho s_h f_l0) f2_0 f_y2.1 ?_
    refine pw_gi (pc := 22) d71_22 (k71_76 b) (sho s_h f_y2.2) f7_1 ?_
    refine pw_ige (pc := 25) (t := 55) d71_25 (by decide) (fun c3 => ?_) (fun c3 => ?_)
    · rw [if_pos c3] at hm
      obtain rfl := Option.some.inj hm
      exact hE s_h  (Value.int l3) w4
    · rw [if_neg c3] at hm
      refine pw_l (pc := 28) d71_28 rfl rfl rfl ?_
      refine pw_l (pc := 29) d71_29 rfl rfl rfl ?_
      obtain ⟨q4, e_q4, hm⟩ := ob_x hm
      refine pw_u (pc := 30) (by omega) d71_30 (k71_70 b) (by decide) m34 (Nat.le_of_ble_eq_true rfl) (Nat.le_of_ble_eq_true rfl) (Nat.le_of_ble_eq_true rfl) rfl rfl (T_x_bit b L xs (d - 1) (by omega) h s_h l2 l3  e_q4) (fun v0 h0 hq => ?_)
      obtain ⟨rfl, hh0, s_q4⟩ := hq
      rw [hh0] at s_q4 ⊢
      simp only [Option.toList_some, List.cons_append, List.nil_append]
      refine pw_s (pc := 33) d71_33 rfl rfl ?_
      refine pw_ine (pc := 34) (t := 49) d71_34 (by decide) (fun c5 => ?_) (fun c5 => ?_)
      · rw [if_pos c5] at hm
        refine pw_t (pc := 49) d71_49 rfl rfl rfl rfl ?_
        refine pw_go (pc := 52) (t := 10) d71_52 (by decide) ?_
        obtain rfl := Option.some.inj hm
        exact hE s_h  w4
      · rw [if_neg c5] at hm
        refine pw_l (pc := 37) d71_37 rfl rfl rfl ?_
        refine pw_l (pc := 38) d71_38 rfl rfl rfl ?_
        obtain ⟨y6, e_y6, hm⟩ := ob_x hm
        have f_y6 := gO_x e_y6
        refine pw_gr (pc := 39) d71_39 (k71_9 b) (sho s_h f_l0) f2_0 f_y6.1 ?_
        refine pw_l (pc := 42) d71_42 rfl rfl rfl ?_
        obtain ⟨q7, e_q7, hm⟩ := ob_x hm
        refine pw_v (pc := 43) (k := y6) (by omega) d71_43 (k71_87 b) (by decide) m115 (by decide) rfl (sho s_h f_y6.2) (Nat.le_of_ble_eq_true rfl) (Nat.le_of_ble_eq_true rfl) rfl rfl (T_s_wordOf b L xs (d - 1) (by omega) h s_h y6 l3 f_y6.2 e_q7) (fun v0 h0 hq => ?_)
        obtain ⟨rfl, hh0, s_q7⟩ := hq
        rw [hh0] at s_q7 ⊢
        simp only [Option.toList_some, List.cons_append, List.nil_append]
        obtain ⟨q8, e_q8, hm⟩ := ob_x hm
        refine pw_v (pc := 46) (k := l0) (by omega) d71_46 (k71_63 b) (by decide) m72 (by decide) rfl (sho s_h f_l0) (Nat.le_of_ble_eq_true rfl) (Nat.le_of_ble_eq_true rfl) rfl rfl (T_c_put b L xs (d - 1) (by omega) h s_h l0 q7 f_l0 e_q8) (fun v0 h0 hq => ?_)
        obtain ⟨rfl, hh0, s_q8⟩ := hq
        rw [hh0] at s_q8 ⊢
        simp only [Option.toList_none, List.nil_append]
        refine pw_t (pc := 49) d71_49 rfl rfl rfl rfl ?_
        refine pw_go (pc := 52) (t := 10) d71_52 (by decide) ?_
        obtain rfl := Option.some.inj hm
        exact hE s_q8  w4
noncomputable def c_ordersOfAll (l0 : Nat) (l1 : Int32) (l2 : Int32) (h : pm_H) : Option (Int32 × pm_H) := (gA h l0 5 .int).bind fun y1 => (y_fill y1 (Int32.ofInt 0) h).bind fun q2 => (wh (fun s : (Int32 × pm_H) => c_ordersOfAll_10 l0 l1 l2 s.1 s.2) ((Int32.ofInt 0), q2)).bind fun q3 => c_ordersOfAll_55 l0 l1 l2 q3
theorem T_c_ordersOfAll (b : Bool) (L : Nat) (xs : Nat → Int32) (d : Nat) (hd : 1 ≤ d) (h : pm_H) (s_h : h.1 = tb_SH) (l0 : Nat) (l1 : Int32) (l2 : Int32) (f_l0 : mi_o l0 2 = true) {r : (Int32 × pm_H)} (hm : c_ordersOfAll l0 l1 l2 h = some r) : PC b L xs d 71 [(Value.ref l0), (Value.int l1), (Value.int l2)] h (fun (v0 : Option Value) (h2 : pm_H) => v0 = (some (Value.int r.1)) ∧ h2 = r.2 ∧ h2.1 = tb_SH) := by
  refine pc_in e71 (ls0 := [(Value.ref l0), (Value.int l1), (Value.int l2), Value.retAddr 0, Value.retAddr 0]) rfl ?_
  have key : ∀ (Q : Option Value → pm_H → Prop), (r.2.1 = tb_SH → Q (some (Value.int r.1)) r.2) → PW b L xs d 71 0 0 0 [(Value.ref l0), (Value.int l1), (Value.int l2), Value.retAddr 0, Value.retAddr 0] [] h Q := by
    intro Q hE
    rw [c_ordersOfAll] at hm
    refine pw_l (pc := 0) d71_0 rfl rfl rfl ?_
    obtain ⟨y1, e_y1, hm⟩ := ob_x hm
    have f_y1 := gA_x e_y1
    refine pw_gr (pc := 1) d71_1 (k71_33 b) (sho s_h f_l0) f2_5 f_y1.1 ?_
    refine pw_s (pc := 4) d71_4 rfl rfl ?_
    obtain ⟨q2, e_q2, hm⟩ := ob_x hm
    refine pw_u (pc := 5) (by omega) d71_5 (k71_36 b) (by decide) m270 (Nat.le_of_ble_eq_true rfl) (Nat.le_of_ble_eq_true rfl) (Nat.le_of_ble_eq_true rfl) rfl rfl (T_y_fill b L xs (d - 1) (by omega) h s_h y1 (Int32.ofInt 0) f_y1.2 e_q2) (fun v0 h0 hq => ?_)
    obtain ⟨rfl, hh0, s_q2⟩ := hq
    rw [hh0] at s_q2 ⊢
    simp only [Option.toList_none, List.nil_append]
    refine pw_s (pc := 8) d71_8 rfl rfl ?_
    refine pw_t (pc := 9) d71_9 rfl rfl rfl rfl ?_
    obtain ⟨q3, e_q3, hm⟩ := ob_x hm
    refine wh_ind e_q3 (fun s : (Int32 × pm_H) => s.2.1 = tb_SH → ∀ w4 : Value, PW b L xs d 71 0 0 10 [(Value.ref l0), (Value.int l1), (Value.int l2), (Value.int s.1), w4] [] s.2 Q) (fun s s2 hf ih sx w4 => t_c_ordersOfAll_10 b L xs d hd s.2 sx l0 l1 l2 s.1 w4 f_l0 hf ih) (fun s hf sx w4 => t_c_ordersOfAll_10 b L xs d hd s.2 sx l0 l1 l2 s.1 w4 f_l0 hf ?_) s_q2  (Value.retAddr 0)
    intro s_q3_0 w3 w4
    exact t_c_ordersOfAll_55 b L xs d hd q3 s_q3_0 l0 l1 l2 w3 w4 f_l0  hm hE
  exact key _ (fun q => ⟨rfl, rfl, q⟩)
noncomputable def r_wordAt (l0 : Nat) (l1 : Int32) (h : pm_H) : Option Int32 := (r_at l0 (h.2.1 l0 6) l1 h).bind fun q1 => some q1
theorem T_r_wordAt (b : Bool) (L : Nat) (xs : Nat → Int32) (d : Nat) (hd : 1 ≤ d) (h : pm_H) (s_h : h.1 = tb_SH) (l0 : Nat) (l1 : Int32) (f_l0 : mi_o l0 5 = true) {r : Int32} (hm : r_wordAt l0 l1 h = some r) : PC b L xs d 88 [(Value.ref l0), (Value.int l1)] h (fun (v0 : Option Value) (h2 : pm_H) => v0 = (some (Value.int r)) ∧ h2 = h ∧ h2.1 = tb_SH) := by
  refine pc_in e88 (ls0 := [(Value.ref l0), (Value.int l1)]) rfl ?_
  have key : ∀ (Q : Option Value → pm_H → Prop), (Q (some (Value.int r)) h) → PW b L xs d 88 0 0 0 [(Value.ref l0), (Value.int l1)] [] h Q := by
    intro Q hE
    rw [r_wordAt] at hm
    refine pw_l (pc := 0) d88_0 rfl rfl rfl ?_
    refine pw_l (pc := 1) d88_1 rfl rfl rfl ?_
    refine pw_gi (pc := 2) d88_2 (k88_33 b) (sho s_h f_l0) f5_6 ?_
    refine pw_l (pc := 5) d88_5 rfl rfl rfl ?_
    obtain ⟨q1, e_q1, hm⟩ := ob_x hm
    refine pw_v (pc := 6) (k := l0) (by omega) d88_6 (k88_48 b) (by decide) m89 (by decide) rfl (sho s_h f_l0) (Nat.le_of_ble_eq_true rfl) (Nat.le_of_ble_eq_true rfl) rfl rfl (T_r_at b L xs (d - 1) (by omega) h s_h l0 (h.2.1 l0 6) l1 f_l0 e_q1) (fun v0 h0 hq => ?_)
    obtain ⟨rfl, hh0, s_q1⟩ := hq
    rw [hh0] at s_q1 ⊢
    simp only [Option.toList_some, List.cons_append, List.nil_append]
    obtain rfl := Option.some.inj hm
    refine pw_ri (pc := 9) d88_9 t88 rfl ?_
    exact hE
  exact key _ ⟨rfl, rfl, s_h⟩
def E_r_part_76 (b : Bool) (L : Nat) (xs : Nat → Int32) (d : Nat) (Q : Option Value → pm_H → Prop) (l0 : Nat) (l1 : Int32) : ((Int32 × pm_H) ⊕ (Int32 × pm_H) ⊕ pm_H) → Prop
  | .inl s => s.2.1 = tb_SH → PW b L xs d 91 0 0 76 [(Value.ref l0), (Value.int l1), (Value.int s.1)] [] s.2 Q
  | .inr (.inl e) => e.2.1 = tb_SH → PW b L xs d 91 0 0 118 [(Value.ref l0), (Value.int l1), (Value.int e.1)] [] e.2 Q
  | .inr (.inr e) => e.1 = tb_SH → ∀ w2 : Value, PW b L xs d 91 0 0 171 [(Value.ref l0), (Value.int l1), w2] [] e Q
def E_r_part_19 (b : Bool) (L : Nat) (xs : Nat → Int32) (d : Nat) (Q : Option Value → pm_H → Prop) (l0 : Nat) : ((Int32 × pm_H) ⊕ pm_H ⊕ (Int32 × Int32 × pm_H) ⊕ pm_H) → Prop
  | .inl s => s.2.1 = tb_SH → ∀ w2 : Value, PW b L xs d 91 0 0 19 [(Value.ref l0), (Value.int s.1), w2] [] s.2 Q
  | .inr (.inl e) => e.1 = tb_SH → ∀ w0 w1 w2 : Value, PW b L xs d 91 0 0 64 [w0, w1, w2] [] e Q
  | .inr (.inr (.inl e)) => e.2.2.1 = tb_SH → PW b L xs d 91 0 0 118 [(Value.ref l0), (Value.int e.1), (Value.int e.2.1)] [] e.2.2 Q
  | .inr (.inr (.inr e)) => e.1 = tb_SH → ∀ w0 w1 w2 : Value, PW b L xs d 91 0 0 187 [w0, w1, w2] [] e Q
noncomputable def r_part_76 (l0 : Nat) (l1 : Int32) (l2 : Int32) (h : pm_H) : Option ((Int32 × pm_H) ⊕ (Int32 × pm_H) ⊕ pm_H) := (gO h l0 0 7).bind fun y1 => if (h.2.1 y1 3) ≤ l2 then (some (.inr (.inr h))) else ((gO h l0 0 7).bind fun y3 => (r_at l0 (h.2.1 l0 6) (l1 - (Int32.ofInt 1)) h).bind fun q4 => (r_at l0 (h.2.1 l0 6) l1 h).bind fun q5 => (s_parts y3 q4 q5 l2 h).bind fun q6 => if q6 = 0 then (some (.inl ((l2 + Int32.ofInt 1), h))) else (some (.inr (.inl (l2, h)))))
theorem t_r_part_76 (b : Bool) (L : Nat) (xs : Nat → Int32) (d : Nat) (hd : 2 ≤ d) {Q : Option Value → pm_H → Prop} (h : pm_H) (s_h : h.1 = tb_SH) (l0 : Nat) (l1 : Int32) (l2 : Int32) (f_l0 : mi_o l0 5 = true) {r : ((Int32 × pm_H) ⊕ (Int32 × pm_H) ⊕ pm_H)} (hm : r_part_76 l0 l1 l2 h = some r) (hE : E_r_part_76 b L xs d Q l0 l1 r) : PW b L xs d 91 0 0 76 [(Value.ref l0), (Value.int l1), (Value.int l2)] [] h Q := by
  rw [r_part_76] at hm
  refine pw_l (pc := 76) d91_76 rfl rfl rfl ?_
  refine pw_l (pc := 77) d91_77 rfl rfl rfl ?_
  obtain ⟨y1, e_y1, hm⟩ := ob_x hm
  have f_y1 := gO_x e_y1
  refine pw_gr (pc := 78) d91_78 (k91_9 b) (sho s_h f_l0) f5_0 f_y1.1 ?_
  refine pw_gi (pc := 81) d91_81 (k91_59 b) (sho s_h f_y1.2) f7_3 ?_
  refine pw_ige (pc := 84) (t := 171) d91_84 (by decide) (fun c2 => ?_) (fun c2 => ?_)
  · rw [if_pos c2] at hm
    obtain rfl := Option.some.inj hm
    exact hE s_h  (Value.int l2)
  · rw [if_neg c2] at hm
    refine pw_l (pc := 87) d91_87 rfl rfl rfl ?_
    obtain ⟨y3, e_y3, hm⟩ := ob_x hm
    have f_y3 := gO_x e_y3
    refine pw_gr (pc := 88) d91_88 (k91_9 b) (sho s_h f_l0) f5_0 f_y3.1 ?_
    refine pw_l (pc := 91) d91_91 rfl rfl rfl ?_
    refine pw_l (pc := 92) d91_92 rfl rfl rfl ?_
    refine pw_gi (pc := 93) d91_93 (k91_33 b) (sho s_h f_l0) f5_6 ?_
    refine pw_l (pc := 96) d91_96 rfl rfl rfl ?_
    refine pw_s (pc := 97) d91_97 rfl rfl ?_
    refine pw_s (pc := 98) d91_98 rfl rfl ?_
    obtain ⟨q4, e_q4, hm⟩ := ob_x hm
    refine pw_v (pc := 99) (k := l0) (by omega) d91_99 (k91_48 b) (by decide) m89 (by decide) rfl (sho s_h f_l0) (Nat.le_of_ble_eq_true rfl) (Nat.le_of_ble_eq_true rfl) rfl rfl (T_r_at b L xs (d - 1) (by omega) h s_h l0 (h.2.1 l0 6) (l1 - (Int32.ofInt 1)) f_l0 e_q4) (fun v0 h0 hq => ?_)
    obtain ⟨rfl, hh0, s_q4⟩ := hq
    rw [hh0] at s_q4 ⊢
    simp only [Option.toList_some, List.cons_append, List.nil_append]
    refine pw_l (pc := 102) d91_102 rfl rfl rfl ?_
    refine pw_l (pc := 103) d91_103 rfl rfl rfl ?_
    refine pw_gi (pc := 104) d91_104 (k91_33 b) (sho s_h f_l0) f5_6 ?_
    refine pw_l (pc := 107) d91_107 rfl rfl rfl ?_
    obtain ⟨q5, e_q5, hm⟩ := ob_x hm
    refine pw_v (pc := 108) (k := l0) (by omega) d91_108 (k91_48 b) (by decide) m89 (by decide) rfl (sho s_h f_l0) (Nat.le_of_ble_eq_true rfl) (Nat.le_of_ble_eq_true rfl) rfl rfl (T_r_at b L xs (d - 1) (by omega) h s_h l0 (h.2.1 l0 6) l1 f_l0 e_q5) (fun v0 h0 hq => ?_)
    obtain ⟨rfl, hh0, s_q5⟩ := hq
    rw [hh0] at s_q5 ⊢
    simp only [Option.toList_some, List.cons_append, List.nil_append]
    refine pw_l (pc := 111) d91_111 rfl rfl rfl ?_
    obtain ⟨q6, e_q6, hm⟩ := ob_x hm
    refine pw_v (pc := 112) (k := y3) (by omega) d91_112 (k91_62 b) (by decide) m123 (by decide) rfl (sho s_h f_y3.2) (Nat.le_of_ble_eq_true rfl) (Nat.le_of_ble_eq_true rfl) rfl rfl (T_s_parts b L xs (d - 1) (by omega) h s_h y3 q4 q5 l2 f_y3.2 e_q6) (fun v0 h0 hq => ?_)
    obtain ⟨rfl, hh0, s_q6⟩ := hq
    rw [hh0] at s_q6 ⊢
    simp only [Option.toList_some, List.cons_append, List.nil_append]
    refine pw_zeq (pc := 115) (t := 165) d91_115 (by decide) (fun c7 => ?_) (fun c7 => ?_)
    · rw [if_pos c7] at hm
      refine pw_t (pc := 165) d91_165 rfl rfl rfl rfl ?_
      refine pw_go (pc := 168) (t := 76) d91_168 (by decide) ?_
      obtain rfl := Option.some.inj hm
      exact hE s_h  
    · rw [if_neg c7] at hm
      obtain rfl := Option.some.inj hm
      exact hE s_h  
noncomputable def r_part_66 (l0 : Nat) (l1 : Int32) (h : pm_H) : Option ((Int32 × pm_H) ⊕ pm_H ⊕ (Int32 × Int32 × pm_H) ⊕ pm_H) := (gA h l0 3 .int).bind fun y1 => if mi_in (h.2.1 l0 6) (mi_n y1) = true then (wh (fun s : (Int32 × pm_H) => r_part_76 l0 l1 s.1 s.2) ((h.2.1 y1 (h.2.1 l0 6).toNatClampNeg), h)).bind fun q3 => (match q3 with | (.inl eq3_0) => some (.inr (.inr (.inl (l1, eq3_0.1, eq3_0.2)))) | (.inr eq3_1) => (gA eq3_1 l0 3 .int).bind fun y4 => if mi_in (eq3_1.2.1 l0 6) (mi_n y4) = true then bd (pm_setI eq3_1 y4 (eq3_1.2.1 l0 6).toNatClampNeg (Int32.ofInt 0)) fun h6 => some (.inl ((l1 + Int32.ofInt 1), h6)) else none) else none
theorem t_r_part_66 (b : Bool) (L : Nat) (xs : Nat → Int32) (d : Nat) (hd : 2 ≤ d) {Q : Option Value → pm_H → Prop} (h : pm_H) (s_h : h.1 = tb_SH) (l0 : Nat) (l1 : Int32) (w2 : Value) (f_l0 : mi_o l0 5 = true) {r : ((Int32 × pm_H) ⊕ pm_H ⊕ (Int32 × Int32 × pm_H) ⊕ pm_H)} (hm : r_part_66 l0 l1 h = some r) (hE : E_r_part_19 b L xs d Q l0 r) : PW b L xs d 91 0 0 66 [(Value.ref l0), (Value.int l1), w2] [] h Q := by
  rw [r_part_66] at hm
  refine pw_l (pc := 66) d91_66 rfl rfl rfl ?_
  obtain ⟨y1, e_y1, hm⟩ := ob_x hm
  have f_y1 := gA_x e_y1
  refine pw_gr (pc := 67) d91_67 (k91_22 b) (sho s_h f_l0) f5_3 f_y1.1 ?_
  refine pw_l (pc := 70) d91_70 rfl rfl rfl ?_
  refine pw_gi (pc := 71) d91_71 (k91_33 b) (sho s_h f_l0) f5_6 ?_
  obtain ⟨g2, hm⟩ := gd_x hm
  refine pw_ai (pc := 74) d91_74 (sha s_h f_y1.2) (mi_in_x g2) ?_
  refine pw_t (pc := 75) d91_75 rfl rfl rfl rfl ?_
  obtain ⟨q3, e_q3, hm⟩ := ob_x hm
  refine wh_ind e_q3 (fun s : (Int32 × pm_H) => s.2.1 = tb_SH → PW b L xs d 91 0 0 76 [(Value.ref l0), (Value.int l1), (Value.int s.1)] [] s.2 Q) (fun s s2 hf ih sx => t_r_part_76 b L xs d hd s.2 sx l0 l1 s.1  f_l0 hf ih) (fun s hf sx => t_r_part_76 b L xs d hd s.2 sx l0 l1 s.1  f_l0 hf ?_) s_h  
  rcases q3 with eq3_0 | eq3_1
  · dsimp only at hm
    intro s_q3_0
    obtain rfl := Option.some.inj hm
    exact hE s_q3_0  
  · dsimp only at hm
    intro s_q3_1 w2
    refine pw_l (pc := 171) d91_171 rfl rfl rfl ?_
    obtain ⟨y4, e_y4, hm⟩ := ob_x hm
    have f_y4 := gA_x e_y4
    refine pw_gr (pc := 172) d91_172 (k91_22 b) (sho s_q3_1 f_l0) f5_3 f_y4.1 ?_
    refine pw_l (pc := 175) d91_175 rfl rfl rfl ?_
    refine pw_gi (pc := 176) d91_176 (k91_33 b) (sho s_q3_1 f_l0) f5_6 ?_
    refine pw_s (pc := 179) d91_179 rfl rfl ?_
    obtain ⟨g5, hm⟩ := gd_x hm
    refine pw_si (pc := 180) d91_180 (sha s_q3_1 f_y4.2) (mi_in_x g5) ?_
    obtain ⟨h6, e_h6, hm⟩ := bd_x hm
    rw [e_h6]
    have s_h6 : h6.1 = tb_SH := by rw [← e_h6]; exact s_q3_1
    refine pw_t (pc := 181) d91_181 rfl rfl rfl rfl ?_
    refine pw_go (pc := 184) (t := 19) d91_184 (by decide) ?_
    obtain rfl := Option.some.inj hm
    exact hE s_h6  w2
noncomputable def r_part_19 (l0 : Nat) (l1 : Int32) (h : pm_H) : Option ((Int32 × pm_H) ⊕ pm_H ⊕ (Int32 × Int32 × pm_H) ⊕ pm_H) := if (h.2.1 l0 6) ≤ l1 then (some (.inr (.inr (.inr h)))) else (if l1 ≤ (Int32.ofInt 1) then (r_part_66 l0 l1 h) else ((gO h l0 0 7).bind fun y3 => (r_at l0 (h.2.1 l0 6) (l1 - (Int32.ofInt 2)) h).bind fun q4 => (r_at l0 (h.2.1 l0 6) (l1 - (Int32.ofInt 1)) h).bind fun q5 => (s_pair y3 q4 q5 h).bind fun q6 => if q6 < 0 then (r_part_66 l0 l1 h) else (some (.inr (.inl h)))))
theorem t_r_part_19 (b : Bool) (L : Nat) (xs : Nat → Int32) (d : Nat) (hd : 2 ≤ d) {Q : Option Value → pm_H → Prop} (h : pm_H) (s_h : h.1 = tb_SH) (l0 : Nat) (l1 : Int32) (w2 : Value) (f_l0 : mi_o l0 5 = true) {r : ((Int32 × pm_H) ⊕ pm_H ⊕ (Int32 × Int32 × pm_H) ⊕ pm_H)} (hm : r_part_19 l0 l1 h = some r) (hE : E_r_part_19 b L xs d Q l0 r) : PW b L xs d 91 0 0 19 [(Value.ref l0), (Value.int l1), w2] [] h Q := by
  rw [r_part_19] at hm
  refine pw_l (pc := 19) d91_19 rfl rfl rfl ?_
  refine pw_l (pc := 20) d91_20 rfl rfl rfl ?_
  refine pw_gi (pc := 21) d91_21 (k91_33 b) (sho s_h f_l0) f5_6 ?_
  refine pw_ige (pc := 24) (t := 187) d91_24 (by decide) (fun c1 => ?_) (fun c1 => ?_)
  · rw [if_pos c1] at hm
    obtain rfl := Option.some.inj hm
    exact hE s_h  (Value.ref l0) (Value.int l1) w2
  · rw [if_neg c1] at hm
    refine pw_l (pc := 27) d91_27 rfl rfl rfl ?_
    refine pw_s (pc := 28) d91_28 rfl rfl ?_
    refine pw_ile (pc := 29) (t := 66) d91_29 (by decide) (fun c2 => ?_) (fun c2 => ?_)
    · rw [if_pos c2] at hm
      exact t_r_part_66 b L xs d hd h s_h l0 l1 w2 f_l0  hm hE
    · rw [if_neg c2] at hm
      refine pw_l (pc := 32) d91_32 rfl rfl rfl ?_
      obtain ⟨y3, e_y3, hm⟩ := ob_x hm
      have f_y3 := gO_x e_y3
      refine pw_gr (pc := 33) d91_33 (k91_9 b) (sho s_h f_l0) f5_0 f_y3.1 ?_
      refine pw_l (pc := 36) d91_36 rfl rfl rfl ?_
      refine pw_l (pc := 37) d91_37 rfl rfl rfl ?_
      refine pw_gi (pc := 38) d91_38 (k91_33 b) (sho s_h f_l0) f5_6 ?_
      refine pw_l (pc := 41) d91_41 rfl rfl rfl ?_
      refine pw_s (pc := 42) d91_42 rfl rfl ?_
      refine pw_s (pc := 43) d91_43 rfl rfl ?_
      obtain ⟨q4, e_q4, hm⟩ := ob_x hm
      refine pw_v (pc := 44) (k := l0) (by omega) d91_44 (k91_48 b) (by decide) m89 (by decide) rfl (sho s_h f_l0) (Nat.le_of_ble_eq_true rfl) (Nat.le_of_ble_eq_true rfl) rfl rfl (T_r_at b L xs (d - 1) (by omega) h s_h l0 (h.2.1 l0 6) (l1 - (Int32.ofInt 2)) f_l0 e_q4) (fun v0 h0 hq => ?_)
      obtain ⟨rfl, hh0, s_q4⟩ := hq
      rw [hh0] at s_q4 ⊢
      simp only [Option.toList_some, List.cons_append, List.nil_append]
      refine pw_l (pc := 47) d91_47 rfl rfl rfl ?_
      refine pw_l (pc := 48) d91_48 rfl rfl rfl ?_
      refine pw_gi (pc := 49) d91_49 (k91_33 b) (sho s_h f_l0) f5_6 ?_
      refine pw_l (pc := 52) d91_52 rfl rfl rfl ?_
      refine pw_s (pc := 53) d91_53 rfl rfl ?_
      refine pw_s (pc := 54) d91_54 rfl rfl ?_
      obtain ⟨q5, e_q5, hm⟩ := ob_x hm
      refine pw_v (pc := 55) (k := l0) (by omega) d91_55 (k91_48 b) (by decide) m89 (by decide) rfl (sho s_h f_l0) (Nat.le_of_ble_eq_true rfl) (Nat.le_of_ble_eq_true rfl) rfl rfl (T_r_at b L xs (d - 1) (by omega) h s_h l0 (h.2.1 l0 6) (l1 - (Int32.ofInt 1)) f_l0 e_q5) (fun v0 h0 hq => ?_)
      obtain ⟨rfl, hh0, s_q5⟩ := hq
      rw [hh0] at s_q5 ⊢
      simp only [Option.toList_some, List.cons_append, List.nil_append]
      obtain ⟨q6, e_q6, hm⟩ := ob_x hm
      refine pw_v (pc := 58) (k := y3) (by omega) d91_58 (k91_56 b) (by decide) m117 (by decide) rfl (sho s_h f_y3.2) (Nat.le_of_ble_eq_true rfl) (Nat.le_of_ble_eq_true rfl) rfl rfl (T_s_pair b L xs (d - 1) (by omega) h s_h y3 q4 q5 f_y3.2 e_q6) (fun v0 h0 hq => ?_)
      obtain ⟨rfl, hh0, s_q6⟩ := hq
      rw [hh0] at s_q6 ⊢
      simp only [Option.toList_some, List.cons_append, List.nil_append]
      refine pw_zlt (pc := 61) (t := 66) d91_61 (by decide) (fun c7 => ?_) (fun c7 => ?_)
      · rw [if_pos c7] at hm
        exact t_r_part_66 b L xs d hd h s_h l0 l1 w2 f_l0  hm hE
      · rw [if_neg c7] at hm
        obtain rfl := Option.some.inj hm
        exact hE s_h  (Value.ref l0) (Value.int l1) w2
noncomputable def r_part (l0 : Nat) (h : pm_H) : Option (Int32 × pm_H) := if ¬ h.2.2.2 l0 0 = none then ((gA h l0 2 .int).bind fun y2 => if mi_in (h.2.1 l0 6) (mi_n y2) = true then (wh (fun s : (Int32 × pm_H) => r_part_19 l0 s.1 s.2) ((h.2.1 y2 (h.2.1 l0 6).toNatClampNeg), h)).bind fun q4 => (match q4 with | (.inl eq4_0) => some ((Int32.ofInt 0), eq4_0) | (.inr (.inl eq4_1)) => (gA eq4_1.2.2 l0 2 .int).bind fun y5 => if mi_in (eq4_1.2.2.2.1 l0 6) (mi_n y5) = true then bd (pm_setI eq4_1.2.2 y5 (eq4_1.2.2.2.1 l0 6).toNatClampNeg eq4_1.1) fun h7 => (gA h7 l0 3 .int).bind fun y8 => if mi_in (h7.2.1 l0 6) (mi_n y8) = true then bd (pm_setI h7 y8 (h7.2.1 l0 6).toNatClampNeg (eq4_1.2.1 + (Int32.ofInt 1))) fun h10 => (gO h10 l0 0 7).bind fun y11 => (gA h10 y11 9 .int).bind fun y12 => if mi_in eq4_1.2.1 (mi_n y12) = true then (gO h10 l0 0 7).bind fun y14 => (gA h10 y14 10 .int).bind fun y15 => if mi_in eq4_1.2.1 (mi_n y15) = true then (r_grow l0 eq4_1.1 (h10.2.1 y12 eq4_1.2.1.toNatClampNeg) (h10.2.1 y15 eq4_1.2.1.toNatClampNeg) h10).bind fun q17 => some ((Int32.ofInt 1), q17) else none else none else none else none | (.inr (.inr eq4_2)) => some ((Int32.ofInt 0), eq4_2)) else none) else (some ((Int32.ofInt 0), h))
theorem T_r_part (b : Bool) (L : Nat) (xs : Nat → Int32) (d : Nat) (hd : 2 ≤ d) (h : pm_H) (s_h : h.1 = tb_SH) (l0 : Nat) (f_l0 : mi_o l0 5 = true) {r : (Int32 × pm_H)} (hm : r_part l0 h = some r) : PC b L xs d 91 [(Value.ref l0)] h (fun (v0 : Option Value) (h2 : pm_H) => v0 = (some (Value.int r.1)) ∧ h2 = r.2 ∧ h2.1 = tb_SH) := by
  refine pc_in e91 (ls0 := [(Value.ref l0), Value.retAddr 0, Value.retAddr 0]) rfl ?_
  have key : ∀ (Q : Option Value → pm_H → Prop), (r.2.1 = tb_SH → Q (some (Value.int r.1)) r.2) → PW b L xs d 91 0 0 0 [(Value.ref l0), Value.retAddr 0, Value.retAddr 0] [] h Q := by
    intro Q hE
    rw [r_part] at hm
    refine pw_l (pc := 0) d91_0 rfl rfl rfl ?_
    refine pw_gnn (pc := 1) (t := 9) d91_1 (k91_9 b) (sho s_h f_l0) f5_0 d91_4 (by decide) (fun c1 => ?_) (fun c1 => ?_)
    · rw [if_pos c1] at hm
      refine pw_l (pc := 9) d91_9 rfl rfl rfl ?_
      obtain ⟨y2, e_y2, hm⟩ := ob_x hm
      have f_y2 := gA_x e_y2
      refine pw_gr (pc := 10) d91_10 (k91_19 b) (sho s_h f_l0) f5_2 f_y2.1 ?_
      refine pw_l (pc := 13) d91_13 rfl rfl rfl ?_
      refine pw_gi (pc := 14) d91_14 (k91_33 b) (sho s_h f_l0) f5_6 ?_
      obtain ⟨g3, hm⟩ := gd_x hm
      refine pw_ai (pc := 17) d91_17 (sha s_h f_y2.2) (mi_in_x g3) ?_
      refine pw_t (pc := 18) d91_18 rfl rfl rfl rfl ?_
      obtain ⟨q4, e_q4, hm⟩ := ob_x hm
      refine wh_ind e_q4 (fun s : (Int32 × pm_H) => s.2.1 = tb_SH → ∀ w2 : Value, PW b L xs d 91 0 0 19 [(Value.ref l0), (Value.int s.1), w2] [] s.2 Q) (fun s s2 hf ih sx w2 => t_r_part_19 b L xs d hd s.2 sx l0 s.1 w2 f_l0 hf ih) (fun s hf sx w2 => t_r_part_19 b L xs d hd s.2 sx l0 s.1 w2 f_l0 hf ?_) s_h  (Value.retAddr 0)
      rcases q4 with eq4_0 | eq4_1 | eq4_2
      · dsimp only at hm
        intro s_q4_0 w0 w1 w2
        refine pw_s (pc := 64) d91_64 rfl rfl ?_
        obtain rfl := Option.some.inj hm
        refine pw_ri (pc := 65) d91_65 t91 rfl ?_
        exact hE s_q4_0
      · dsimp only at hm
        intro s_q4_1
        refine pw_l (pc := 118) d91_118 rfl rfl rfl ?_
        obtain ⟨y5, e_y5, hm⟩ := ob_x hm
        have f_y5 := gA_x e_y5
        refine pw_gr (pc := 119) d91_119 (k91_19 b) (sho s_q4_1 f_l0) f5_2 f_y5.1 ?_
        refine pw_l (pc := 122) d91_122 rfl rfl rfl ?_
        refine pw_gi (pc := 123) d91_123 (k91_33 b) (sho s_q4_1 f_l0) f5_6 ?_
        refine pw_l (pc := 126) d91_126 rfl rfl rfl ?_
        obtain ⟨g6, hm⟩ := gd_x hm
        refine pw_si (pc := 127) d91_127 (sha s_q4_1 f_y5.2) (mi_in_x g6) ?_
        obtain ⟨h7, e_h7, hm⟩ := bd_x hm
        rw [e_h7]
        have s_h7 : h7.1 = tb_SH := by rw [← e_h7]; exact s_q4_1
        refine pw_l (pc := 128) d91_128 rfl rfl rfl ?_
        obtain ⟨y8, e_y8, hm⟩ := ob_x hm
        have f_y8 := gA_x e_y8
        refine pw_gr (pc := 129) d91_129 (k91_22 b) (sho s_h7 f_l0) f5_3 f_y8.1 ?_
        refine pw_l (pc := 132) d91_132 rfl rfl rfl ?_
        refine pw_gi (pc := 133) d91_133 (k91_33 b) (sho s_h7 f_l0) f5_6 ?_
        refine pw_l (pc := 136) d91_136 rfl rfl rfl ?_
        refine pw_s (pc := 137) d91_137 rfl rfl ?_
        refine pw_s (pc := 138) d91_138 rfl rfl ?_
        obtain ⟨g9, hm⟩ := gd_x hm
        refine pw_si (pc := 139) d91_139 (sha s_h7 f_y8.2) (mi_in_x g9) ?_
        obtain ⟨h10, e_h10, hm⟩ := bd_x hm
        rw [e_h10]
        have s_h10 : h10.1 = tb_SH := by rw [← e_h10]; exact s_h7
        refine pw_l (pc := 140) d91_140 rfl rfl rfl ?_
        refine pw_l (pc := 141) d91_141 rfl rfl rfl ?_
        refine pw_l (pc := 142) d91_142 rfl rfl rfl ?_
        obtain ⟨y11, e_y11, hm⟩ := ob_x hm
        have f_y11 := gO_x e_y11
        refine pw_gr (pc := 143) d91_143 (k91_9 b) (sho s_h10 f_l0) f5_0 f_y11.1 ?_
        obtain ⟨y12, e_y12, hm⟩ := ob_x hm
        have f_y12 := gA_x e_y12
        refine pw_gr (pc := 146) d91_146 (k91_66 b) (sho s_h10 f_y11.2) f7_9 f_y12.1 ?_
        refine pw_l (pc := 149) d91_149 rfl rfl rfl ?_
        obtain ⟨g13, hm⟩ := gd_x hm
        refine pw_ai (pc := 150) d91_150 (sha s_h10 f_y12.2) (mi_in_x g13) ?_
        refine pw_l (pc := 151) d91_151 rfl rfl rfl ?_
        obtain ⟨y14, e_y14, hm⟩ := ob_x hm
        have f_y14 := gO_x e_y14
        refine pw_gr (pc := 152) d91_152 (k91_9 b) (sho s_h10 f_l0) f5_0 f_y14.1 ?_
        obtain ⟨y15, e_y15, hm⟩ := ob_x hm
        have f_y15 := gA_x e_y15
        refine pw_gr (pc := 155) d91_155 (k91_69 b) (sho s_h10 f_y14.2) f7_10 f_y15.1 ?_
        refine pw_l (pc := 158) d91_158 rfl rfl rfl ?_
        obtain ⟨g16, hm⟩ := gd_x hm
        refine pw_ai (pc := 159) d91_159 (sha s_h10 f_y15.2) (mi_in_x g16) ?_
        obtain ⟨q17, e_q17, hm⟩ := ob_x hm
        refine pw_v (pc := 160) (k := l0) (by omega) d91_160 (k91_72 b) (by decide) m92 (by decide) rfl (sho s_h10 f_l0) (Nat.le_of_ble_eq_true rfl) (Nat.le_of_ble_eq_true rfl) rfl rfl (T_r_grow b L xs (d - 1) (by omega) h10 s_h10 l0 eq4_1.1 (h10.2.1 y12 eq4_1.2.1.toNatClampNeg) (h10.2.1 y15 eq4_1.2.1.toNatClampNeg) f_l0 e_q17) (fun v0 h0 hq => ?_)
        obtain ⟨rfl, hh0, s_q17⟩ := hq
        rw [hh0] at s_q17 ⊢
        simp only [Option.toList_none, List.nil_append]
        refine pw_s (pc := 163) d91_163 rfl rfl ?_
        obtain rfl := Option.some.inj hm
        refine pw_ri (pc := 164) d91_164 t91 rfl ?_
        exact hE s_q17
      · dsimp only at hm
        intro s_q4_2 w0 w1 w2
        refine pw_s (pc := 187) d91_187 rfl rfl ?_
        obtain rfl := Option.some.inj hm
        refine pw_ri (pc := 188) d91_188 t91 rfl ?_
        exact hE s_q4_2
    · rw [if_neg (fun q => q c1)] at hm
      refine pw_s (pc := 7) d91_7 rfl rfl ?_
      obtain rfl := Option.some.inj hm
      refine pw_ri (pc := 8) d91_8 t91 rfl ?_
      exact hE s_h
  exact key _ (fun q => ⟨rfl, rfl, q⟩)
def E_c_fill_54 (b : Bool) (L : Nat) (xs : Nat → Int32) (d : Nat) (Q : Option Value → pm_H → Prop) (l0 : Nat) (l1 : Int32) (l2 : Int32) (l3 : Int32) (l4 : Int32) (l5 : Int32) : ((Int32 × Int32 × pm_H) ⊕ (Int32 × pm_H)) → Prop
  | .inl s => s.2.2.1 = tb_SH → PW b L xs d 70 0 0 54 [(Value.ref l0), (Value.int l1), (Value.int l2), (Value.int l3), (Value.int l4), (Value.int l5), (Value.int s.1), (Value.int s.2.1)] [] s.2.2 Q
  | .inr e => e.2.1 = tb_SH → ∀ w7 : Value, PW b L xs d 70 0 0 96 [(Value.ref l0), (Value.int l1), (Value.int l2), (Value.int l3), (Value.int l4), (Value.int l5), (Value.int e.1), w7] [] e.2 Q
def E_c_fill_41 (b : Bool) (L : Nat) (xs : Nat → Int32) (d : Nat) (Q : Option Value → pm_H → Prop) (l0 : Nat) (l1 : Int32) (l2 : Int32) (l3 : Int32) (l4 : Int32) : ((Int32 × pm_H) ⊕ pm_H) → Prop
  | .inl s => s.2.1 = tb_SH → ∀ w6 w7 : Value, PW b L xs d 70 0 0 41 [(Value.ref l0), (Value.int l1), (Value.int l2), (Value.int l3), (Value.int l4), (Value.int s.1), w6, w7] [] s.2 Q
  | .inr e => e.1 = tb_SH → ∀ w0 w1 w2 w3 w4 w5 w6 w7 : Value, PW b L xs d 70 0 0 121 [w0, w1, w2, w3, w4, w5, w6, w7] [] e Q
noncomputable def c_fill_54 (l0 : Nat) (l1 : Int32) (l2 : Int32) (l3 : Int32) (l4 : Int32) (l5 : Int32) (l6 : Int32) (l7 : Int32) (h : pm_H) : Option ((Int32 × Int32 × pm_H) ⊕ (Int32 × pm_H)) := if l3 ≤ l7 then (some (.inr (l6, h))) else ((x_bit l5 l7 h).bind fun q2 => if ¬ q2 = (Int32.ofInt 1) then (some (.inl (l6, (l7 + Int32.ofInt 1), h))) else ((gA h l0 3 .int).bind fun y4 => if mi_in ((l2 + l5) - ((Int32.ofInt 1) <<< (l7 &&& 31))) (mi_n y4) = true then some (.inl ((l6 ||| (h.2.1 y4 ((l2 + l5) - ((Int32.ofInt 1) <<< (l7 &&& 31))).toNatClampNeg)), (l7 + Int32.ofInt 1), h)) else none))
theorem t_c_fill_54 (b : Bool) (L : Nat) (xs : Nat → Int32) (d : Nat) (hd : 2 ≤ d) {Q : Option Value → pm_H → Prop} (h : pm_H) (s_h : h.1 = tb_SH) (l0 : Nat) (l1 : Int32) (l2 : Int32) (l3 : Int32) (l4 : Int32) (l5 : Int32) (l6 : Int32) (l7 : Int32) (f_l0 : mi_o l0 2 = true) {r : ((Int32 × Int32 × pm_H) ⊕ (Int32 × pm_H))} (hm : c_fill_54 l0 l1 l2 l3 l4 l5 l6 l7 h = some r) (hE : E_c_fill_54 b L xs d Q l0 l1 l2 l3 l4 l5 r) : PW b L xs d 70 0 0 54 [(Value.ref l0), (Value.int l1), (Value.int l2), (Value.int l3), (Value.int l4), (Value.int l5), (Value.int l6), (Value.int l7)] [] h Q := by
  rw [c_fill_54] at hm
  refine pw_l (pc := 54) d70_54 rfl rfl rfl ?_
  refine pw_l (pc := 56) d70_56 rfl rfl rfl ?_
  refine pw_ige (pc := 57) (t := 96) d70_57 (by decide) (fun c1 => ?_) (fun c1 => ?_)
  · rw [if_pos c1] at hm
    obtain rfl := Option.some.inj hm
    exact hE s_h  (Value.int l7)
  · rw [if_neg c1] at hm
    refine pw_l (pc := 60) d70_60 rfl rfl rfl ?_
    refine pw_l (pc := 62) d70_62 rfl rfl rfl ?_
    obtain ⟨q2, e_q2, hm⟩ := ob_x hm
    refine pw_u (pc := 64) (by omega) d70_64 (k70_70 b) (by decide) m34 (Nat.le_of_ble_eq_true rfl) (Nat.le_of_ble_eq_true rfl) (Nat.le_of_ble_eq_true rfl) rfl rfl (T_x_bit b L xs (d - 1) (by omega) h s_h l5 l7  e_q2) (fun v0 h0 hq => ?_)
    obtain ⟨rfl, hh0, s_q2⟩ := hq
    rw [hh0] at s_q2 ⊢
    simp only [Option.toList_some, List.cons_append, List.nil_append]
    refine pw_s (pc := 67) d70_67 rfl rfl ?_
    refine pw_ine (pc := 68) (t := 90) d70_68 (by decide) (fun c3 => ?_) (fun c3 => ?_)
    · rw [if_pos c3] at hm
      refine pw_t (pc := 90) d70_90 rfl rfl rfl rfl ?_
      refine pw_go (pc := 93) (t := 54) d70_93 (by decide) ?_
      obtain rfl := Option.some.inj hm
      exact hE s_h  
    · rw [if_neg c3] at hm
      refine pw_l (pc := 71) d70_71 rfl rfl rfl ?_
      refine pw_l (pc := 73) d70_73 rfl rfl rfl ?_
      obtain ⟨y4, e_y4, hm⟩ := ob_x hm
      have f_y4 := gA_x e_y4
      refine pw_gr (pc := 74) d70_74 (k70_26 b) (sho s_h f_l0) f2_3 f_y4.1 ?_
      refine pw_l (pc := 77) d70_77 rfl rfl rfl ?_
      refine pw_l (pc := 78) d70_78 rfl rfl rfl ?_
      refine pw_s (pc := 80) d70_80 rfl rfl ?_
      refine pw_s (pc := 81) d70_81 rfl rfl ?_
      refine pw_l (pc := 82) d70_82 rfl rfl rfl ?_
      refine pw_s (pc := 84) d70_84 rfl rfl ?_
      refine pw_s (pc := 85) d70_85 rfl rfl ?_
      obtain ⟨g5, hm⟩ := gd_x hm
      refine pw_ai (pc := 86) d70_86 (sha s_h f_y4.2) (mi_in_x g5) ?_
      refine pw_s (pc := 87) d70_87 rfl rfl ?_
      refine pw_t (pc := 88) d70_88 rfl rfl rfl rfl ?_
      refine pw_t (pc := 90) d70_90 rfl rfl rfl rfl ?_
      refine pw_go (pc := 93) (t := 54) d70_93 (by decide) ?_
      obtain rfl := Option.some.inj hm
      exact hE s_h  
noncomputable def c_fill_41 (l0 : Nat) (l1 : Int32) (l2 : Int32) (l3 : Int32) (l4 : Int32) (l5 : Int32) (h : pm_H) : Option ((Int32 × pm_H) ⊕ pm_H) := if l4 ≤ l5 then (some (.inr h)) else ((wh (fun s : (Int32 × Int32 × pm_H) => c_fill_54 l0 l1 l2 l3 l4 l5 s.1 s.2.1 s.2.2) ((Int32.ofInt 0), (Int32.ofInt 0), h)).bind fun q2 => (gA q2.2 l0 3 .int).bind fun y3 => (c_ordersOfAll l0 l1 l5 q2.2).bind fun q4 => if mi_in (l2 + l5) (mi_n y3) = true then bd (pm_setI q4.2 y3 (l2 + l5).toNatClampNeg (q2.1 ||| q4.1)) fun h6 => some (.inl ((l5 + Int32.ofInt 1), h6)) else none)
theorem t_c_fill_41 (b : Bool) (L : Nat) (xs : Nat → Int32) (d : Nat) (hd : 2 ≤ d) {Q : Option Value → pm_H → Prop} (h : pm_H) (s_h : h.1 = tb_SH) (l0 : Nat) (l1 : Int32) (l2 : Int32) (l3 : Int32) (l4 : Int32) (l5 : Int32) (w6 : Value) (w7 : Value) (f_l0 : mi_o l0 2 = true) {r : ((Int32 × pm_H) ⊕ pm_H)} (hm : c_fill_41 l0 l1 l2 l3 l4 l5 h = some r) (hE : E_c_fill_41 b L xs d Q l0 l1 l2 l3 l4 r) : PW b L xs d 70 0 0 41 [(Value.ref l0), (Value.int l1), (Value.int l2), (Value.int l3), (Value.int l4), (Value.int l5), w6, w7] [] h Q := by
  rw [c_fill_41] at hm
  refine pw_l (pc := 41) d70_41 rfl rfl rfl ?_
  refine pw_l (pc := 43) d70_43 rfl rfl rfl ?_
  refine pw_ige (pc := 45) (t := 121) d70_45 (by decide) (fun c1 => ?_) (fun c1 => ?_)
  · rw [if_pos c1] at hm
    obtain rfl := Option.some.inj hm
    exact hE s_h  (Value.ref l0) (Value.int l1) (Value.int l2) (Value.int l3) (Value.int l4) (Value.int l5) w6 w7
  · rw [if_neg c1] at hm
    refine pw_s (pc := 48) d70_48 rfl rfl ?_
    refine pw_t (pc := 49) d70_49 rfl rfl rfl rfl ?_
    refine pw_s (pc := 51) d70_51 rfl rfl ?_
    refine pw_t (pc := 52) d70_52 rfl rfl rfl rfl ?_
    obtain ⟨q2, e_q2, hm⟩ := ob_x hm
    refine wh_ind e_q2 (fun s : (Int32 × Int32 × pm_H) => s.2.2.1 = tb_SH → PW b L xs d 70 0 0 54 [(Value.ref l0), (Value.int l1), (Value.int l2), (Value.int l3), (Value.int l4), (Value.int l5), (Value.int s.1), (Value.int s.2.1)] [] s.2.2 Q) (fun s s2 hf ih sx => t_c_fill_54 b L xs d hd s.2.2 sx l0 l1 l2 l3 l4 l5 s.1 s.2.1  f_l0 hf ih) (fun s hf sx => t_c_fill_54 b L xs d hd s.2.2 sx l0 l1 l2 l3 l4 l5 s.1 s.2.1  f_l0 hf ?_) s_h  
    intro s_q2_0 w7
    refine pw_l (pc := 96) d70_96 rfl rfl rfl ?_
    obtain ⟨y3, e_y3, hm⟩ := ob_x hm
    have f_y3 := gA_x e_y3
    refine pw_gr (pc := 97) d70_97 (k70_26 b) (sho s_q2_0 f_l0) f2_3 f_y3.1 ?_
    refine pw_l (pc := 100) d70_100 rfl rfl rfl ?_
    refine pw_l (pc := 101) d70_101 rfl rfl rfl ?_
    refine pw_s (pc := 103) d70_103 rfl rfl ?_
    refine pw_l (pc := 104) d70_104 rfl rfl rfl ?_
    refine pw_l (pc := 106) d70_106 rfl rfl rfl ?_
    refine pw_l (pc := 107) d70_107 rfl rfl rfl ?_
    refine pw_l (pc := 108) d70_108 rfl rfl rfl ?_
    obtain ⟨q4, e_q4, hm⟩ := ob_x hm
    refine pw_v (pc := 110) (k := l0) (by omega) d70_110 (k70_84 b) (by decide) m71 (by decide) rfl (sho s_q2_0 f_l0) (Nat.le_of_ble_eq_true rfl) (Nat.le_of_ble_eq_true rfl) rfl rfl (T_c_ordersOfAll b L xs (d - 1) (by omega) q2.2 s_q2_0 l0 l1 l5 f_l0 e_q4) (fun v0 h0 hq => ?_)
    obtain ⟨rfl, hh0, s_q4⟩ := hq
    rw [hh0] at s_q4 ⊢
    simp only [Option.toList_some, List.cons_append, List.nil_append]
    refine pw_s (pc := 113) d70_113 rfl rfl ?_
    obtain ⟨g5, hm⟩ := gd_x hm
    refine pw_si (pc := 114) d70_114 (sha s_q4 f_y3.2) (mi_in_x g5) ?_
    obtain ⟨h6, e_h6, hm⟩ := bd_x hm
    rw [e_h6]
    have s_h6 : h6.1 = tb_SH := by rw [← e_h6]; exact s_q4
    refine pw_t (pc := 115) d70_115 rfl rfl rfl rfl ?_
    refine pw_go (pc := 118) (t := 41) d70_118 (by decide) ?_
    obtain rfl := Option.some.inj hm
    exact hE s_h6  (Value.int q2.1) w7
noncomputable def c_fill_26 (l0 : Nat) (l1 : Int32) (l2 : Int32) (z0 : Int32) (h : pm_H) : Option pm_H := (wh (fun s : (Int32 × pm_H) => c_fill_41 l0 l1 l2 z0 (if (Int16.ofInt 256).toInt32 < ((Int32.ofInt 1) <<< (z0 &&& 31)) then (Int16.ofInt 256).toInt32 else ((Int32.ofInt 1) <<< (z0 &&& 31))) s.1 s.2) ((Int32.ofInt 0), h)).bind fun q1 => some q1
theorem t_c_fill_26 (b : Bool) (L : Nat) (xs : Nat → Int32) (d : Nat) (hd : 2 ≤ d) {Q : Option Value → pm_H → Prop} (h : pm_H) (s_h : h.1 = tb_SH) (l0 : Nat) (l1 : Int32) (l2 : Int32) (z0 : Int32) (w3 : Value) (w4 : Value) (w5 : Value) (w6 : Value) (w7 : Value) (f_l0 : mi_o l0 2 = true) {r : pm_H} (hm : c_fill_26 l0 l1 l2 z0 h = some r) (hE : r.1 = tb_SH → Q none r) : PW b L xs d 70 0 0 26 [(Value.ref l0), (Value.int l1), (Value.int l2), w3, w4, w5, w6, w7] [(Value.int z0)] h Q := by
  rw [c_fill_26] at hm
  refine pw_t (pc := 26) d70_26 rfl rfl rfl rfl ?_
  refine pw_s (pc := 27) d70_27 rfl rfl ?_
  refine pw_l (pc := 28) d70_28 rfl rfl rfl ?_
  refine pw_s (pc := 29) d70_29 rfl rfl ?_
  refine pw_s (pc := 30) d70_30 rfl rfl ?_
  refine pw_mn (pc := 33) (by omega) d70_33 (k70_79 b) (Nat.le_of_ble_eq_true rfl) ?_
  refine pw_t (pc := 36) d70_36 rfl rfl rfl rfl ?_
  refine pw_s (pc := 38) d70_38 rfl rfl ?_
  refine pw_t (pc := 39) d70_39 rfl rfl rfl rfl ?_
  obtain ⟨q1, e_q1, hm⟩ := ob_x hm
  refine wh_ind e_q1 (fun s : (Int32 × pm_H) => s.2.1 = tb_SH → ∀ w6 w7 : Value, PW b L xs d 70 0 0 41 [(Value.ref l0), (Value.int l1), (Value.int l2), (Value.int z0), (Value.int (if (Int16.ofInt 256).toInt32 < ((Int32.ofInt 1) <<< (z0 &&& 31)) then (Int16.ofInt 256).toInt32 else ((Int32.ofInt 1) <<< (z0 &&& 31)))), (Value.int s.1), w6, w7] [] s.2 Q) (fun s s2 hf ih sx w6 w7 => t_c_fill_41 b L xs d hd s.2 sx l0 l1 l2 z0 (if (Int16.ofInt 256).toInt32 < ((Int32.ofInt 1) <<< (z0 &&& 31)) then (Int16.ofInt 256).toInt32 else ((Int32.ofInt 1) <<< (z0 &&& 31))) s.1 w6 w7 f_l0 hf ih) (fun s hf sx w6 w7 => t_c_fill_41 b L xs d hd s.2 sx l0 l1 l2 z0 (if (Int16.ofInt 256).toInt32 < ((Int32.ofInt 1) <<< (z0 &&& 31)) then (Int16.ofInt 256).toInt32 else ((Int32.ofInt 1) <<< (z0 &&& 31))) s.1 w6 w7 f_l0 hf ?_) s_h  w6 w7
  intro s_q1_0 w0 w1 w2 w3 w4 w5 w6 w7
  obtain rfl := Option.some.inj hm
  refine pw_rv (pc := 121) d70_121 t70 ?_
  exact hE s_q1_0
noncomputable def c_fill (l0 : Nat) (l1 : Int32) (h : pm_H) : Option pm_H := if ¬ h.2.2.2 l0 0 = none then ((gO h l0 0 7).bind fun y2 => c_fill_26 l0 l1 ((l1 + (Int32.ofInt 1)) * (Int16.ofInt 256).toInt32) (h.2.1 y2 1) h) else (c_fill_26 l0 l1 ((l1 + (Int32.ofInt 1)) * (Int16.ofInt 256).toInt32) (Int32.ofInt 0) h)
theorem T_c_fill (b : Bool) (L : Nat) (xs : Nat → Int32) (d : Nat) (hd : 2 ≤ d) (h : pm_H) (s_h : h.1 = tb_SH) (l0 : Nat) (l1 : Int32) (f_l0 : mi_o l0 2 = true) {r : pm_H} (hm : c_fill l0 l1 h = some r) : PC b L xs d 70 [(Value.ref l0), (Value.int l1)] h (fun (v0 : Option Value) (h2 : pm_H) => v0 = none ∧ h2 = r ∧ h2.1 = tb_SH) := by
  refine pc_in e70 (ls0 := [(Value.ref l0), (Value.int l1), Value.retAddr 0, Value.retAddr 0, Value.retAddr 0, Value.retAddr 0, Value.retAddr 0, Value.retAddr 0]) rfl ?_
  have key : ∀ (Q : Option Value → pm_H → Prop), (r.1 = tb_SH → Q none r) → PW b L xs d 70 0 0 0 [(Value.ref l0), (Value.int l1), Value.retAddr 0, Value.retAddr 0, Value.retAddr 0, Value.retAddr 0, Value.retAddr 0, Value.retAddr 0] [] h Q := by
    intro Q hE
    rw [c_fill] at hm
    refine pw_l (pc := 0) d70_0 rfl rfl rfl ?_
    refine pw_s (pc := 1) d70_1 rfl rfl ?_
    refine pw_s (pc := 2) d70_2 rfl rfl ?_
    refine pw_s (pc := 3) d70_3 rfl rfl ?_
    refine pw_s (pc := 6) d70_6 rfl rfl ?_
    refine pw_t (pc := 7) d70_7 rfl rfl rfl rfl ?_
    refine pw_l (pc := 8) d70_8 rfl rfl rfl ?_
    refine pw_gnn (pc := 9) (t := 19) d70_9 (k70_9 b) (sho s_h f_l0) f2_0 d70_12 (by decide) (fun c1 => ?_) (fun c1 => ?_)
    · rw [if_pos c1] at hm
      refine pw_l (pc := 19) d70_19 rfl rfl rfl ?_
      obtain ⟨y2, e_y2, hm⟩ := ob_x hm
      have f_y2 := gO_x e_y2
      refine pw_gr (pc := 20) d70_20 (k70_9 b) (sho s_h f_l0) f2_0 f_y2.1 ?_
      refine pw_gi (pc := 23) d70_23 (k70_76 b) (sho s_h f_y2.2) f7_1 ?_
      exact t_c_fill_26 b L xs d hd h s_h l0 l1 ((l1 + (Int32.ofInt 1)) * (Int16.ofInt 256).toInt32) (h.2.1 y2 1) (Value.retAddr 0) (Value.retAddr 0) (Value.retAddr 0) (Value.retAddr 0) (Value.retAddr 0) f_l0  hm hE
    · rw [if_neg (fun q => q c1)] at hm
      refine pw_s (pc := 15) d70_15 rfl rfl ?_
      refine pw_go (pc := 16) (t := 26) d70_16 (by decide) ?_
      exact t_c_fill_26 b L xs d hd h s_h l0 l1 ((l1 + (Int32.ofInt 1)) * (Int16.ofInt 256).toInt32) (Int32.ofInt 0) (Value.retAddr 0) (Value.retAddr 0) (Value.retAddr 0) (Value.retAddr 0) (Value.retAddr 0) f_l0  hm hE
  exact key _ (fun q => ⟨rfl, rfl, q⟩)
def E_r_advance_27 (b : Bool) (L : Nat) (xs : Nat → Int32) (d : Nat) (Q : Option Value → pm_H → Prop) (l0 : Nat) : ((Int32 × pm_H) ⊕ pm_H ⊕ pm_H) → Prop
  | .inl s => s.2.1 = tb_SH → PW b L xs d 90 0 0 27 [(Value.ref l0), (Value.int s.1)] [] s.2 Q
  | .inr (.inl e) => e.1 = tb_SH → ∀ w1 : Value, PW b L xs d 90 0 0 66 [(Value.ref l0), w1] [] e Q
  | .inr (.inr e) => e.1 = tb_SH → ∀ w0 w1 : Value, PW b L xs d 90 0 0 94 [w0, w1] [] e Q
noncomputable def r_advance_78 (l0 : Nat) (l1 : Int32) (h : pm_H) : Option ((Int32 × pm_H) ⊕ pm_H ⊕ pm_H) := bd (pm_setI h l0 6 ((h.2.1 l0 6) - (Int32.ofInt 1))) fun h1 => some (.inl ((l1 + Int32.ofInt 1), h1))
theorem t_r_advance_78 (b : Bool) (L : Nat) (xs : Nat → Int32) (d : Nat) (hd : 3 ≤ d) {Q : Option Value → pm_H → Prop} (h : pm_H) (s_h : h.1 = tb_SH) (l0 : Nat) (l1 : Int32) (f_l0 : mi_o l0 5 = true) {r : ((Int32 × pm_H) ⊕ pm_H ⊕ pm_H)} (hm : r_advance_78 l0 l1 h = some r) (hE : E_r_advance_27 b L xs d Q l0 r) : PW b L xs d 90 0 0 78 [(Value.ref l0), (Value.int l1)] [] h Q := by
  rw [r_advance_78] at hm
  refine pw_l (pc := 78) d90_78 rfl rfl rfl ?_
  refine pw_s (pc := 79) d90_79 rfl rfl ?_
  refine pw_gi (pc := 80) d90_80 (k90_33 b) (sho s_h f_l0) f5_6 ?_
  refine pw_s (pc := 83) d90_83 rfl rfl ?_
  refine pw_s (pc := 84) d90_84 rfl rfl ?_
  refine pw_pi (pc := 85) d90_85 (k90_33 b) (sho s_h f_l0) p90_5_6 ?_
  obtain ⟨h1, e_h1, hm⟩ := bd_x hm
  rw [e_h1]
  have s_h1 : h1.1 = tb_SH := by rw [← e_h1]; exact s_h
  refine pw_t (pc := 88) d90_88 rfl rfl rfl rfl ?_
  refine pw_go (pc := 91) (t := 27) d90_91 (by decide) ?_
  obtain rfl := Option.some.inj hm
  exact hE s_h1  
noncomputable def r_advance_27 (l0 : Nat) (l1 : Int32) (h : pm_H) : Option ((Int32 × pm_H) ⊕ pm_H ⊕ pm_H) := if (1000000 : Int32) ≤ l1 then (some (.inr (.inr h))) else (if (h.2.1 l0 6) < (h.2.1 l0 4) then (some (.inr (.inr h))) else (if (h.2.1 l0 6) ≤ 0 then (some (.inr (.inr h))) else (if (Int32.ofInt 5) ≤ (h.2.1 l0 6) then (r_advance_78 l0 l1 h) else ((r_part l0 h).bind fun q5 => if q5.1 = 0 then (r_advance_78 l0 l1 q5.2) else (some (.inr (.inl q5.2)))))))
theorem t_r_advance_27 (b : Bool) (L : Nat) (xs : Nat → Int32) (d : Nat) (hd : 3 ≤ d) {Q : Option Value → pm_H → Prop} (h : pm_H) (s_h : h.1 = tb_SH) (l0 : Nat) (l1 : Int32) (f_l0 : mi_o l0 5 = true) {r : ((Int32 × pm_H) ⊕ pm_H ⊕ pm_H)} (hm : r_advance_27 l0 l1 h = some r) (hE : E_r_advance_27 b L xs d Q l0 r) : PW b L xs d 90 0 0 27 [(Value.ref l0), (Value.int l1)] [] h Q := by
  rw [r_advance_27] at hm
  refine pw_l (pc := 27) d90_27 rfl rfl rfl ?_
  refine pw_ci (pc := 28) d90_28 (k90_51 b) ?_
  refine pw_ige (pc := 30) (t := 94) d90_30 (by decide) (fun c1 => ?_) (fun c1 => ?_)
  · rw [if_pos c1] at hm
    obtain rfl := Option.some.inj hm
    exact hE s_h  (Value.ref l0) (Value.int l1)
  · rw [if_neg c1] at hm
    refine pw_l (pc := 33) d90_33 rfl rfl rfl ?_
    refine pw_gi (pc := 34) d90_34 (k90_33 b) (sho s_h f_l0) f5_6 ?_
    refine pw_l (pc := 37) d90_37 rfl rfl rfl ?_
    refine pw_gi (pc := 38) d90_38 (k90_25 b) (sho s_h f_l0) f5_4 ?_
    refine pw_ilt (pc := 41) (t := 94) d90_41 (by decide) (fun c2 => ?_) (fun c2 => ?_)
    · rw [if_pos c2] at hm
      obtain rfl := Option.some.inj hm
      exact hE s_h  (Value.ref l0) (Value.int l1)
    · rw [if_neg c2] at hm
      refine pw_l (pc := 44) d90_44 rfl rfl rfl ?_
      refine pw_gi (pc := 45) d90_45 (k90_33 b) (sho s_h f_l0) f5_6 ?_
      refine pw_zle (pc := 48) (t := 94) d90_48 (by decide) (fun c3 => ?_) (fun c3 => ?_)
      · rw [if_pos c3] at hm
        obtain rfl := Option.some.inj hm
        exact hE s_h  (Value.ref l0) (Value.int l1)
      · rw [if_neg c3] at hm
        refine pw_l (pc := 51) d90_51 rfl rfl rfl ?_
        refine pw_gi (pc := 52) d90_52 (k90_33 b) (sho s_h f_l0) f5_6 ?_
        refine pw_s (pc := 55) d90_55 rfl rfl ?_
        refine pw_ige (pc := 56) (t := 78) d90_56 (by decide) (fun c4 => ?_) (fun c4 => ?_)
        · rw [if_pos c4] at hm
          exact t_r_advance_78 b L xs d hd h s_h l0 l1  f_l0  hm hE
        · rw [if_neg c4] at hm
          refine pw_l (pc := 59) d90_59 rfl rfl rfl ?_
          obtain ⟨q5, e_q5, hm⟩ := ob_x hm
          refine pw_v (pc := 60) (k := l0) (by omega) d90_60 (k90_52 b) (by decide) m91 (by decide) rfl (sho s_h f_l0) (Nat.le_of_ble_eq_true rfl) (Nat.le_of_ble_eq_true rfl) rfl rfl (T_r_part b L xs (d - 1) (by omega) h s_h l0 f_l0 e_q5) (fun v0 h0 hq => ?_)
          obtain ⟨rfl, hh0, s_q5⟩ := hq
          rw [hh0] at s_q5 ⊢
          simp only [Option.toList_some, List.cons_append, List.nil_append]
          refine pw_zeq (pc := 63) (t := 78) d90_63 (by decide) (fun c6 => ?_) (fun c6 => ?_)
          · rw [if_pos c6] at hm
            exact t_r_advance_78 b L xs d hd q5.2 s_q5 l0 l1  f_l0  hm hE
          · rw [if_neg c6] at hm
            obtain rfl := Option.some.inj hm
            exact hE s_q5  (Value.int l1)
noncomputable def r_advance (l0 : Nat) (h : pm_H) : Option (Int32 × pm_H) := if (h.2.1 l0 5) = 0 then ((wh (fun s : (Int32 × pm_H) => r_advance_27 l0 s.1 s.2) ((Int32.ofInt 0), h)).bind fun q2 => (match q2 with | (.inl eq2_0) => bd (pm_setI eq2_0 l0 6 ((eq2_0.2.1 l0 6) + (Int32.ofInt 1))) fun h3 => some ((Int32.ofInt 1), h3) | (.inr eq2_1) => some ((Int32.ofInt 0), eq2_1))) else (bd (pm_setI h l0 5 (Int32.ofInt 0)) fun h4 => if (h4.2.1 l0 6) ≤ 0 then (some ((Int32.ofInt 0), h4)) else (some ((Int32.ofInt 1), h4)))
theorem T_r_advance (b : Bool) (L : Nat) (xs : Nat → Int32) (d : Nat) (hd : 3 ≤ d) (h : pm_H) (s_h : h.1 = tb_SH) (l0 : Nat) (f_l0 : mi_o l0 5 = true) {r : (Int32 × pm_H)} (hm : r_advance l0 h = some r) : PC b L xs d 90 [(Value.ref l0)] h (fun (v0 : Option Value) (h2 : pm_H) => v0 = (some (Value.int r.1)) ∧ h2 = r.2 ∧ h2.1 = tb_SH) := by
  refine pc_in e90 (ls0 := [(Value.ref l0), Value.retAddr 0]) rfl ?_
  have key : ∀ (Q : Option Value → pm_H → Prop), (r.2.1 = tb_SH → Q (some (Value.int r.1)) r.2) → PW b L xs d 90 0 0 0 [(Value.ref l0), Value.retAddr 0] [] h Q := by
    intro Q hE
    rw [r_advance] at hm
    refine pw_l (pc := 0) d90_0 rfl rfl rfl ?_
    refine pw_gi (pc := 1) d90_1 (k90_29 b) (sho s_h f_l0) f5_5 ?_
    refine pw_zeq (pc := 4) (t := 25) d90_4 (by decide) (fun c1 => ?_) (fun c1 => ?_)
    · rw [if_pos c1] at hm
      refine pw_s (pc := 25) d90_25 rfl rfl ?_
      refine pw_t (pc := 26) d90_26 rfl rfl rfl rfl ?_
      obtain ⟨q2, e_q2, hm⟩ := ob_x hm
      refine wh_ind e_q2 (fun s : (Int32 × pm_H) => s.2.1 = tb_SH → PW b L xs d 90 0 0 27 [(Value.ref l0), (Value.int s.1)] [] s.2 Q) (fun s s2 hf ih sx => t_r_advance_27 b L xs d hd s.2 sx l0 s.1  f_l0 hf ih) (fun s hf sx => t_r_advance_27 b L xs d hd s.2 sx l0 s.1  f_l0 hf ?_) s_h  
      rcases q2 with eq2_0 | eq2_1
      · dsimp only at hm
        intro s_q2_0 w1
        refine pw_l (pc := 66) d90_66 rfl rfl rfl ?_
        refine pw_s (pc := 67) d90_67 rfl rfl ?_
        refine pw_gi (pc := 68) d90_68 (k90_33 b) (sho s_q2_0 f_l0) f5_6 ?_
        refine pw_s (pc := 71) d90_71 rfl rfl ?_
        refine pw_s (pc := 72) d90_72 rfl rfl ?_
        refine pw_pi (pc := 73) d90_73 (k90_33 b) (sho s_q2_0 f_l0) p90_5_6 ?_
        obtain ⟨h3, e_h3, hm⟩ := bd_x hm
        rw [e_h3]
        have s_h3 : h3.1 = tb_SH := by rw [← e_h3]; exact s_q2_0
        refine pw_s (pc := 76) d90_76 rfl rfl ?_
        obtain rfl := Option.some.inj hm
        refine pw_ri (pc := 77) d90_77 t90 rfl ?_
        exact hE s_h3
      · dsimp only at hm
        intro s_q2_1 w0 w1
        refine pw_s (pc := 94) d90_94 rfl rfl ?_
        obtain rfl := Option.some.inj hm
        refine pw_ri (pc := 95) d90_95 t90 rfl ?_
        exact hE s_q2_1
    · rw [if_neg c1] at hm
      refine pw_l (pc := 7) d90_7 rfl rfl rfl ?_
      refine pw_s (pc := 8) d90_8 rfl rfl ?_
      refine pw_pz (pc := 9) d90_9 (k90_29 b) (sho s_h f_l0) p90_5_5 (by decide) ?_
      obtain ⟨h4, e_h4, hm⟩ := bd_x hm
      rw [e_h4]
      have s_h4 : h4.1 = tb_SH := by rw [← e_h4]; exact s_h
      refine pw_l (pc := 12) d90_12 rfl rfl rfl ?_
      refine pw_gi (pc := 13) d90_13 (k90_33 b) (sho s_h4 f_l0) f5_6 ?_
      refine pw_zle (pc := 16) (t := 23) d90_16 (by decide) (fun c5 => ?_) (fun c5 => ?_)
      · rw [if_pos c5] at hm
        refine pw_s (pc := 23) d90_23 rfl rfl ?_
        obtain rfl := Option.some.inj hm
        refine pw_ri (pc := 24) d90_24 t90 rfl ?_
        exact hE s_h4
      · rw [if_neg c5] at hm
        refine pw_s (pc := 19) d90_19 rfl rfl ?_
        refine pw_go (pc := 20) (t := 24) d90_20 (by decide) ?_
        obtain rfl := Option.some.inj hm
        refine pw_ri (pc := 24) d90_24 t90 rfl ?_
        exact hE s_h4
  exact key _ (fun q => ⟨rfl, rfl, q⟩)
def E_c_learn_66 (b : Bool) (L : Nat) (xs : Nat → Int32) (d : Nat) (Q : Option Value → pm_H → Prop) (l0 : Nat) (l1 : Nat) (l2 : Int32) (l3 : Int32) : ((Int32 × pm_H) ⊕ pm_H) → Prop
  | .inl s => s.2.1 = tb_SH → PW b L xs d 68 0 0 66 [(Value.ref l0), (Value.ref l1), (Value.int l2), (Value.int l3), (Value.int s.1)] [] s.2 Q
  | .inr e => e.1 = tb_SH → ∀ w4 : Value, PW b L xs d 68 0 0 97 [(Value.ref l0), (Value.ref l1), (Value.int l2), (Value.int l3), w4] [] e Q
def E_c_learn_39 (b : Bool) (L : Nat) (xs : Nat → Int32) (d : Nat) (Q : Option Value → pm_H → Prop) (l0 : Nat) (l1 : Nat) (l2 : Int32) : ((Int32 × pm_H) ⊕ pm_H) → Prop
  | .inl s => s.2.1 = tb_SH → ∀ w4 : Value, PW b L xs d 68 0 0 39 [(Value.ref l0), (Value.ref l1), (Value.int l2), (Value.int s.1), w4] [] s.2 Q
  | .inr e => e.1 = tb_SH → ∀ w3 w4 : Value, PW b L xs d 68 0 0 125 [(Value.ref l0), (Value.ref l1), (Value.int l2), w3, w4] [] e Q
def E_c_learn_20 (b : Bool) (L : Nat) (xs : Nat → Int32) (d : Nat) (Q : Option Value → pm_H → Prop) (l0 : Nat) (l1 : Nat) : ((Int32 × pm_H) ⊕ pm_H) → Prop
  | .inl s => s.2.1 = tb_SH → ∀ w3 w4 : Value, PW b L xs d 68 0 0 20 [(Value.ref l0), (Value.ref l1), (Value.int s.1), w3, w4] [] s.2 Q
  | .inr e => e.1 = tb_SH → ∀ w0 w1 w2 w3 w4 : Value, PW b L xs d 68 0 0 131 [w0, w1, w2, w3, w4] [] e Q
noncomputable def c_learn_66 (l0 : Nat) (l1 : Nat) (l2 : Int32) (l3 : Int32) (l4 : Int32) (h : pm_H) : Option ((Int32 × pm_H) ⊕ pm_H) := (gO h l0 1 5).bind fun y1 => if (h.2.1 y1 6) ≤ l4 then (some (.inr h)) else ((gO h l0 1 5).bind fun y3 => (r_wordAt y3 l4 h).bind fun q4 => (c_put l0 q4 h).bind fun q5 => some (.inl ((l4 + Int32.ofInt 1), q5)))
theorem t_c_learn_66 (b : Bool) (L : Nat) (xs : Nat → Int32) (d : Nat) (hd : 5 ≤ d) {Q : Option Value → pm_H → Prop} (h : pm_H) (s_h : h.1 = tb_SH) (l0 : Nat) (l1 : Nat) (l2 : Int32) (l3 : Int32) (l4 : Int32) (f_l0 : mi_o l0 2 = true) (f_l1 : mi_o l1 7 = true) {r : ((Int32 × pm_H) ⊕ pm_H)} (hm : c_learn_66 l0 l1 l2 l3 l4 h = some r) (hE : E_c_learn_66 b L xs d Q l0 l1 l2 l3 r) : PW b L xs d 68 0 0 66 [(Value.ref l0), (Value.ref l1), (Value.int l2), (Value.int l3), (Value.int l4)] [] h Q := by
  rw [c_learn_66] at hm
  refine pw_l (pc := 66) d68_66 rfl rfl rfl ?_
  refine pw_l (pc := 68) d68_68 rfl rfl rfl ?_
  obtain ⟨y1, e_y1, hm⟩ := ob_x hm
  have f_y1 := gO_x e_y1
  refine pw_gr (pc := 69) d68_69 (k68_18 b) (sho s_h f_l0) f2_1 f_y1.1 ?_
  refine pw_gi (pc := 72) d68_72 (k68_56 b) (sho s_h f_y1.2) f5_6 ?_
  refine pw_ige (pc := 75) (t := 97) d68_75 (by decide) (fun c2 => ?_) (fun c2 => ?_)
  · rw [if_pos c2] at hm
    obtain rfl := Option.some.inj hm
    exact hE s_h  (Value.int l4)
  · rw [if_neg c2] at hm
    refine pw_l (pc := 78) d68_78 rfl rfl rfl ?_
    refine pw_l (pc := 79) d68_79 rfl rfl rfl ?_
    obtain ⟨y3, e_y3, hm⟩ := ob_x hm
    have f_y3 := gO_x e_y3
    refine pw_gr (pc := 80) d68_80 (k68_18 b) (sho s_h f_l0) f2_1 f_y3.1 ?_
    refine pw_l (pc := 83) d68_83 rfl rfl rfl ?_
    obtain ⟨q4, e_q4, hm⟩ := ob_x hm
    refine pw_v (pc := 85) (k := y3) (by omega) d68_85 (k68_59 b) (by decide) m88 (by decide) rfl (sho s_h f_y3.2) (Nat.le_of_ble_eq_true rfl) (Nat.le_of_ble_eq_true rfl) rfl rfl (T_r_wordAt b L xs (d - 1) (by omega) h s_h y3 l4 f_y3.2 e_q4) (fun v0 h0 hq => ?_)
    obtain ⟨rfl, hh0, s_q4⟩ := hq
    rw [hh0] at s_q4 ⊢
    simp only [Option.toList_some, List.cons_append, List.nil_append]
    obtain ⟨q5, e_q5, hm⟩ := ob_x hm
    refine pw_v (pc := 88) (k := l0) (by omega) d68_88 (k68_63 b) (by decide) m72 (by decide) rfl (sho s_h f_l0) (Nat.le_of_ble_eq_true rfl) (Nat.le_of_ble_eq_true rfl) rfl rfl (T_c_put b L xs (d - 1) (by omega) h s_h l0 q4 f_l0 e_q5) (fun v0 h0 hq => ?_)
    obtain ⟨rfl, hh0, s_q5⟩ := hq
    rw [hh0] at s_q5 ⊢
    simp only [Option.toList_none, List.nil_append]
    refine pw_t (pc := 91) d68_91 rfl rfl rfl rfl ?_
    refine pw_go (pc := 94) (t := 66) d68_94 (by decide) ?_
    obtain rfl := Option.some.inj hm
    exact hE s_q5  
noncomputable def c_learn_39 (l0 : Nat) (l1 : Nat) (l2 : Int32) (l3 : Int32) (h : pm_H) : Option ((Int32 × pm_H) ⊕ pm_H) := if (1000000 : Int32) ≤ l3 then (some (.inr h)) else ((gO h l0 1 5).bind fun y2 => (r_advance y2 h).bind fun q3 => if q3.1 = 0 then (some (.inr q3.2)) else ((gA q3.2 l0 5 .int).bind fun y5 => (y_fill y5 (Int32.ofInt 0) q3.2).bind fun q6 => (wh (fun s : (Int32 × pm_H) => c_learn_66 l0 l1 l2 l3 s.1 s.2) ((Int32.ofInt 0), q6)).bind fun q7 => (gA q7 l0 2 .int).bind fun y8 => (gO q7 l0 1 5).bind fun y9 => (c_bagNumber l0 (q7.2.1 y9 6) q7).bind fun q10 => if mi_in q10 (mi_n y8) = true then if mi_in q10 (mi_n y8) = true then bd (pm_setI q7 y8 q10.toNatClampNeg ((q7.2.1 y8 q10.toNatClampNeg) ||| ((Int32.ofInt 1) <<< (l2 &&& 31)))) fun h13 => some (.inl ((l3 + Int32.ofInt 1), h13)) else none else none))
theorem t_c_learn_39 (b : Bool) (L : Nat) (xs : Nat → Int32) (d : Nat) (hd : 5 ≤ d) {Q : Option Value → pm_H → Prop} (h : pm_H) (s_h : h.1 = tb_SH) (l0 : Nat) (l1 : Nat) (l2 : Int32) (l3 : Int32) (w4 : Value) (f_l0 : mi_o l0 2 = true) (f_l1 : mi_o l1 7 = true) {r : ((Int32 × pm_H) ⊕ pm_H)} (hm : c_learn_39 l0 l1 l2 l3 h = some r) (hE : E_c_learn_39 b L xs d Q l0 l1 l2 r) : PW b L xs d 68 0 0 39 [(Value.ref l0), (Value.ref l1), (Value.int l2), (Value.int l3), w4] [] h Q := by
  rw [c_learn_39] at hm
  refine pw_l (pc := 39) d68_39 rfl rfl rfl ?_
  refine pw_ci (pc := 40) d68_40 (k68_51 b) ?_
  refine pw_ige (pc := 42) (t := 125) d68_42 (by decide) (fun c1 => ?_) (fun c1 => ?_)
  · rw [if_pos c1] at hm
    obtain rfl := Option.some.inj hm
    exact hE s_h  (Value.int l3) w4
  · rw [if_neg c1] at hm
    refine pw_l (pc := 45) d68_45 rfl rfl rfl ?_
    obtain ⟨y2, e_y2, hm⟩ := ob_x hm
    have f_y2 := gO_x e_y2
    refine pw_gr (pc := 46) d68_46 (k68_18 b) (sho s_h f_l0) f2_1 f_y2.1 ?_
    obtain ⟨q3, e_q3, hm⟩ := ob_x hm
    refine pw_v (pc := 49) (k := y2) (by omega) d68_49 (k68_52 b) (by decide) m90 (by decide) rfl (sho s_h f_y2.2) (Nat.le_of_ble_eq_true rfl) (Nat.le_of_ble_eq_true rfl) rfl rfl (T_r_advance b L xs (d - 1) (by omega) h s_h y2 f_y2.2 e_q3) (fun v0 h0 hq => ?_)
    obtain ⟨rfl, hh0, s_q3⟩ := hq
    rw [hh0] at s_q3 ⊢
    simp only [Option.toList_some, List.cons_append, List.nil_append]
    refine pw_zeq (pc := 52) (t := 125) d68_52 (by decide) (fun c4 => ?_) (fun c4 => ?_)
    · rw [if_pos c4] at hm
      obtain rfl := Option.some.inj hm
      exact hE s_q3  (Value.int l3) w4
    · rw [if_neg c4] at hm
      refine pw_l (pc := 55) d68_55 rfl rfl rfl ?_
      obtain ⟨y5, e_y5, hm⟩ := ob_x hm
      have f_y5 := gA_x e_y5
      refine pw_gr (pc := 56) d68_56 (k68_33 b) (sho s_q3 f_l0) f2_5 f_y5.1 ?_
      refine pw_s (pc := 59) d68_59 rfl rfl ?_
      obtain ⟨q6, e_q6, hm⟩ := ob_x hm
      refine pw_u (pc := 60) (by omega) d68_60 (k68_36 b) (by decide) m270 (Nat.le_of_ble_eq_true rfl) (Nat.le_of_ble_eq_true rfl) (Nat.le_of_ble_eq_true rfl) rfl rfl (T_y_fill b L xs (d - 1) (by omega) q3.2 s_q3 y5 (Int32.ofInt 0) f_y5.2 e_q6) (fun v0 h0 hq => ?_)
      obtain ⟨rfl, hh0, s_q6⟩ := hq
      rw [hh0] at s_q6 ⊢
      simp only [Option.toList_none, List.nil_append]
      refine pw_s (pc := 63) d68_63 rfl rfl ?_
      refine pw_t (pc := 64) d68_64 rfl rfl rfl rfl ?_
      obtain ⟨q7, e_q7, hm⟩ := ob_x hm
      refine wh_ind e_q7 (fun s : (Int32 × pm_H) => s.2.1 = tb_SH → PW b L xs d 68 0 0 66 [(Value.ref l0), (Value.ref l1), (Value.int l2), (Value.int l3), (Value.int s.1)] [] s.2 Q) (fun s s2 hf ih sx => t_c_learn_66 b L xs d hd s.2 sx l0 l1 l2 l3 s.1  f_l0 f_l1 hf ih) (fun s hf sx => t_c_learn_66 b L xs d hd s.2 sx l0 l1 l2 l3 s.1  f_l0 f_l1 hf ?_) s_q6  
      intro s_q7_0 w4
      refine pw_l (pc := 97) d68_97 rfl rfl rfl ?_
      obtain ⟨y8, e_y8, hm⟩ := ob_x hm
      have f_y8 := gA_x e_y8
      refine pw_gr (pc := 98) d68_98 (k68_22 b) (sho s_q7_0 f_l0) f2_2 f_y8.1 ?_
      refine pw_l (pc := 101) d68_101 rfl rfl rfl ?_
      refine pw_l (pc := 102) d68_102 rfl rfl rfl ?_
      obtain ⟨y9, e_y9, hm⟩ := ob_x hm
      have f_y9 := gO_x e_y9
      refine pw_gr (pc := 103) d68_103 (k68_18 b) (sho s_q7_0 f_l0) f2_1 f_y9.1 ?_
      refine pw_gi (pc := 106) d68_106 (k68_56 b) (sho s_q7_0 f_y9.2) f5_6 ?_
      obtain ⟨q10, e_q10, hm⟩ := ob_x hm
      refine pw_v (pc := 109) (k := l0) (by omega) d68_109 (k68_67 b) (by decide) m73 (by decide) rfl (sho s_q7_0 f_l0) (Nat.le_of_ble_eq_true rfl) (Nat.le_of_ble_eq_true rfl) rfl rfl (T_c_bagNumber b L xs (d - 1) (by omega) q7 s_q7_0 l0 (q7.2.1 y9 6) f_l0 e_q10) (fun v0 h0 hq => ?_)
      obtain ⟨rfl, hh0, s_q10⟩ := hq
      rw [hh0] at s_q10 ⊢
      simp only [Option.toList_some, List.cons_append, List.nil_append]
      refine pw_s (pc := 112) d68_112 rfl rfl ?_
      obtain ⟨g11, hm⟩ := gd_x hm
      refine pw_ai (pc := 113) d68_113 (sha s_q7_0 f_y8.2) (mi_in_x g11) ?_
      refine pw_s (pc := 114) d68_114 rfl rfl ?_
      refine pw_l (pc := 115) d68_115 rfl rfl rfl ?_
      refine pw_s (pc := 116) d68_116 rfl rfl ?_
      refine pw_s (pc := 117) d68_117 rfl rfl ?_
      obtain ⟨g12, hm⟩ := gd_x hm
      refine pw_si (pc := 118) d68_118 (sha s_q7_0 f_y8.2) (mi_in_x g12) ?_
      obtain ⟨h13, e_h13, hm⟩ := bd_x hm
      rw [e_h13]
      have s_h13 : h13.1 = tb_SH := by rw [← e_h13]; exact s_q7_0
      refine pw_t (pc := 119) d68_119 rfl rfl rfl rfl ?_
      refine pw_go (pc := 122) (t := 39) d68_122 (by decide) ?_
      obtain rfl := Option.some.inj hm
      exact hE s_h13  w4
noncomputable def c_learn_20 (l0 : Nat) (l1 : Nat) (l2 : Int32) (h : pm_H) : Option ((Int32 × pm_H) ⊕ pm_H) := if (h.2.1 l1 2) ≤ l2 then (some (.inr h)) else ((gO h l0 1 5).bind fun y2 => (r_begin y2 l1 l2 h).bind fun q3 => (wh (fun s : (Int32 × pm_H) => c_learn_39 l0 l1 l2 s.1 s.2) ((Int32.ofInt 0), q3)).bind fun q4 => some (.inl ((l2 + Int32.ofInt 1), q4)))
theorem t_c_learn_20 (b : Bool) (L : Nat) (xs : Nat → Int32) (d : Nat) (hd : 5 ≤ d) {Q : Option Value → pm_H → Prop} (h : pm_H) (s_h : h.1 = tb_SH) (l0 : Nat) (l1 : Nat) (l2 : Int32) (w3 : Value) (w4 : Value) (f_l0 : mi_o l0 2 = true) (f_l1 : mi_o l1 7 = true) {r : ((Int32 × pm_H) ⊕ pm_H)} (hm : c_learn_20 l0 l1 l2 h = some r) (hE : E_c_learn_20 b L xs d Q l0 l1 r) : PW b L xs d 68 0 0 20 [(Value.ref l0), (Value.ref l1), (Value.int l2), w3, w4] [] h Q := by
  rw [c_learn_20] at hm
  refine pw_l (pc := 20) d68_20 rfl rfl rfl ?_
  refine pw_l (pc := 21) d68_21 rfl rfl rfl ?_
  refine pw_gi (pc := 22) d68_22 (k68_42 b) (sho s_h f_l1) f7_2 ?_
  refine pw_ige (pc := 25) (t := 131) d68_25 (by decide) (fun c1 => ?_) (fun c1 => ?_)
  · rw [if_pos c1] at hm
    obtain rfl := Option.some.inj hm
    exact hE s_h  (Value.ref l0) (Value.ref l1) (Value.int l2) w3 w4
  · rw [if_neg c1] at hm
    refine pw_l (pc := 28) d68_28 rfl rfl rfl ?_
    obtain ⟨y2, e_y2, hm⟩ := ob_x hm
    have f_y2 := gO_x e_y2
    refine pw_gr (pc := 29) d68_29 (k68_18 b) (sho s_h f_l0) f2_1 f_y2.1 ?_
    refine pw_l (pc := 32) d68_32 rfl rfl rfl ?_
    refine pw_l (pc := 33) d68_33 rfl rfl rfl ?_
    obtain ⟨q3, e_q3, hm⟩ := ob_x hm
    refine pw_v (pc := 34) (k := y2) (by omega) d68_34 (k68_47 b) (by decide) m87 (by decide) rfl (sho s_h f_y2.2) (Nat.le_of_ble_eq_true rfl) (Nat.le_of_ble_eq_true rfl) rfl rfl (T_r_begin b L xs (d - 1) (by omega) h s_h y2 l1 l2 f_y2.2 f_l1 e_q3) (fun v0 h0 hq => ?_)
    obtain ⟨rfl, hh0, s_q3⟩ := hq
    rw [hh0] at s_q3 ⊢
    simp only [Option.toList_none, List.nil_append]
    refine pw_s (pc := 37) d68_37 rfl rfl ?_
    refine pw_t (pc := 38) d68_38 rfl rfl rfl rfl ?_
    obtain ⟨q4, e_q4, hm⟩ := ob_x hm
    refine wh_ind e_q4 (fun s : (Int32 × pm_H) => s.2.1 = tb_SH → ∀ w4 : Value, PW b L xs d 68 0 0 39 [(Value.ref l0), (Value.ref l1), (Value.int l2), (Value.int s.1), w4] [] s.2 Q) (fun s s2 hf ih sx w4 => t_c_learn_39 b L xs d hd s.2 sx l0 l1 l2 s.1 w4 f_l0 f_l1 hf ih) (fun s hf sx w4 => t_c_learn_39 b L xs d hd s.2 sx l0 l1 l2 s.1 w4 f_l0 f_l1 hf ?_) s_q3  w4
    intro s_q4_0 w3 w4
    refine pw_t (pc := 125) d68_125 rfl rfl rfl rfl ?_
    refine pw_go (pc := 128) (t := 20) d68_128 (by decide) ?_
    obtain rfl := Option.some.inj hm
    exact hE s_q4_0  w3 w4
noncomputable def c_learn (l0 : Nat) (l1 : Nat) (h : pm_H) : Option pm_H := bd (pm_setR h l0 0 (some l1)) fun h1 => bd (pm_setI h1 l0 4 (Int32.ofInt 0)) fun h2 => (gA h2 l0 2 .int).bind fun y3 => (y_fill y3 (Int32.ofInt 0) h2).bind fun q4 => (wh (fun s : (Int32 × pm_H) => c_learn_20 l0 l1 s.1 s.2) ((Int32.ofInt 0), q4)).bind fun q5 => some q5
theorem T_c_learn (b : Bool) (L : Nat) (xs : Nat → Int32) (d : Nat) (hd : 5 ≤ d) (h : pm_H) (s_h : h.1 = tb_SH) (l0 : Nat) (l1 : Nat) (f_l0 : mi_o l0 2 = true) (f_l1 : mi_o l1 7 = true) {r : pm_H} (hm : c_learn l0 l1 h = some r) : PC b L xs d 68 [(Value.ref l0), (Value.ref l1)] h (fun (v0 : Option Value) (h2 : pm_H) => v0 = none ∧ h2 = r ∧ h2.1 = tb_SH) := by
  refine pc_in e68 (ls0 := [(Value.ref l0), (Value.ref l1), Value.retAddr 0, Value.retAddr 0, Value.retAddr 0]) rfl ?_
  have key : ∀ (Q : Option Value → pm_H → Prop), (r.1 = tb_SH → Q none r) → PW b L xs d 68 0 0 0 [(Value.ref l0), (Value.ref l1), Value.retAddr 0, Value.retAddr 0, Value.retAddr 0] [] h Q := by
    intro Q hE
    rw [c_learn] at hm
    refine pw_l (pc := 0) d68_0 rfl rfl rfl ?_
    refine pw_l (pc := 1) d68_1 rfl rfl rfl ?_
    refine pw_pr (pc := 2) d68_2 (k68_9 b) (sho s_h f_l0) p68_2_0 ?_
    obtain ⟨h1, e_h1, hm⟩ := bd_x hm
    rw [e_h1]
    have s_h1 : h1.1 = tb_SH := by rw [← e_h1]; exact s_h
    refine pw_l (pc := 5) d68_5 rfl rfl rfl ?_
    refine pw_s (pc := 6) d68_6 rfl rfl ?_
    refine pw_pi (pc := 7) d68_7 (k68_29 b) (sho s_h1 f_l0) p68_2_4 ?_
    obtain ⟨h2, e_h2, hm⟩ := bd_x hm
    rw [e_h2]
    have s_h2 : h2.1 = tb_SH := by rw [← e_h2]; exact s_h1
    refine pw_l (pc := 10) d68_10 rfl rfl rfl ?_
    obtain ⟨y3, e_y3, hm⟩ := ob_x hm
    have f_y3 := gA_x e_y3
    refine pw_gr (pc := 11) d68_11 (k68_22 b) (sho s_h2 f_l0) f2_2 f_y3.1 ?_
    refine pw_s (pc := 14) d68_14 rfl rfl ?_
    obtain ⟨q4, e_q4, hm⟩ := ob_x hm
    refine pw_u (pc := 15) (by omega) d68_15 (k68_36 b) (by decide) m270 (Nat.le_of_ble_eq_true rfl) (Nat.le_of_ble_eq_true rfl) (Nat.le_of_ble_eq_true rfl) rfl rfl (T_y_fill b L xs (d - 1) (by omega) h2 s_h2 y3 (Int32.ofInt 0) f_y3.2 e_q4) (fun v0 h0 hq => ?_)
    obtain ⟨rfl, hh0, s_q4⟩ := hq
    rw [hh0] at s_q4 ⊢
    simp only [Option.toList_none, List.nil_append]
    refine pw_s (pc := 18) d68_18 rfl rfl ?_
    refine pw_t (pc := 19) d68_19 rfl rfl rfl rfl ?_
    obtain ⟨q5, e_q5, hm⟩ := ob_x hm
    refine wh_ind e_q5 (fun s : (Int32 × pm_H) => s.2.1 = tb_SH → ∀ w3 w4 : Value, PW b L xs d 68 0 0 20 [(Value.ref l0), (Value.ref l1), (Value.int s.1), w3, w4] [] s.2 Q) (fun s s2 hf ih sx w3 w4 => t_c_learn_20 b L xs d hd s.2 sx l0 l1 s.1 w3 w4 f_l0 f_l1 hf ih) (fun s hf sx w3 w4 => t_c_learn_20 b L xs d hd s.2 sx l0 l1 s.1 w3 w4 f_l0 f_l1 hf ?_) s_q4  (Value.retAddr 0) (Value.retAddr 0)
    intro s_q5_0 w0 w1 w2 w3 w4
    obtain rfl := Option.some.inj hm
    refine pw_rv (pc := 131) d68_131 t68 ?_
    exact hE s_q5_0
  exact key _ (fun q => ⟨rfl, rfl, q⟩)
noncomputable def c_orders_45 (l0 : Nat) (l1 : Int32) (l2 : Int32) (h : pm_H) : Option (Int32 × pm_H) := (gA h l0 3 .int).bind fun y1 => if mi_in (((l1 + (Int32.ofInt 1)) * (Int16.ofInt 256).toInt32) + (l2 &&& (Int16.ofInt 255).toInt32)) (mi_n y1) = true then some ((h.2.1 y1 (((l1 + (Int32.ofInt 1)) * (Int16.ofInt 256).toInt32) + (l2 &&& (Int16.ofInt 255).toInt32)).toNatClampNeg), h) else none
theorem t_c_orders_45 (b : Bool) (L : Nat) (xs : Nat → Int32) (d : Nat) (hd : 3 ≤ d) {Q : Option Value → pm_H → Prop} (h : pm_H) (s_h : h.1 = tb_SH) (l0 : Nat) (l1 : Int32) (l2 : Int32) (f_l0 : mi_o l0 2 = true) {r : (Int32 × pm_H)} (hm : c_orders_45 l0 l1 l2 h = some r) (hE : r.2.1 = tb_SH → Q (some (Value.int r.1)) r.2) : PW b L xs d 69 0 0 45 [(Value.ref l0), (Value.int l1), (Value.int l2)] [] h Q := by
  rw [c_orders_45] at hm
  refine pw_l (pc := 45) d69_45 rfl rfl rfl ?_
  obtain ⟨y1, e_y1, hm⟩ := ob_x hm
  have f_y1 := gA_x e_y1
  refine pw_gr (pc := 46) d69_46 (k69_26 b) (sho s_h f_l0) f2_3 f_y1.1 ?_
  refine pw_l (pc := 49) d69_49 rfl rfl rfl ?_
  refine pw_s (pc := 50) d69_50 rfl rfl ?_
  refine pw_s (pc := 51) d69_51 rfl rfl ?_
  refine pw_s (pc := 52) d69_52 rfl rfl ?_
  refine pw_s (pc := 55) d69_55 rfl rfl ?_
  refine pw_l (pc := 56) d69_56 rfl rfl rfl ?_
  refine pw_s (pc := 57) d69_57 rfl rfl ?_
  refine pw_s (pc := 60) d69_60 rfl rfl ?_
  refine pw_s (pc := 61) d69_61 rfl rfl ?_
  obtain ⟨g2, hm⟩ := gd_x hm
  refine pw_ai (pc := 62) d69_62 (sha s_h f_y1.2) (mi_in_x g2) ?_
  obtain rfl := Option.some.inj hm
  refine pw_ri (pc := 63) d69_63 t69 rfl ?_
  exact hE s_h
noncomputable def c_orders (l0 : Nat) (l1 : Int32) (l2 : Int32) (h : pm_H) : Option (Int32 × pm_H) := if l1 < (Int32.ofInt (-1)) then (some ((Int32.ofInt 0), h)) else (if l1 < (Int8.ofInt 10).toInt32 then ((x_bit (h.2.1 l0 4) (l1 + (Int32.ofInt 1)) h).bind fun q3 => if ¬ q3 = 0 then (c_orders_45 l0 l1 l2 h) else ((c_fill l0 l1 h).bind fun q5 => bd (pm_setI q5 l0 4 ((q5.2.1 l0 4) ||| ((Int32.ofInt 1) <<< ((l1 + (Int32.ofInt 1)) &&& 31)))) fun h6 => c_orders_45 l0 l1 l2 h6)) else (some ((Int32.ofInt 0), h)))
theorem T_c_orders (b : Bool) (L : Nat) (xs : Nat → Int32) (d : Nat) (hd : 3 ≤ d) (h : pm_H) (s_h : h.1 = tb_SH) (l0 : Nat) (l1 : Int32) (l2 : Int32) (f_l0 : mi_o l0 2 = true) {r : (Int32 × pm_H)} (hm : c_orders l0 l1 l2 h = some r) : PC b L xs d 69 [(Value.ref l0), (Value.int l1), (Value.int l2)] h (fun (v0 : Option Value) (h2 : pm_H) => v0 = (some (Value.int r.1)) ∧ h2 = r.2 ∧ h2.1 = tb_SH) := by
  refine pc_in e69 (ls0 := [(Value.ref l0), (Value.int l1), (Value.int l2)]) rfl ?_
  have key : ∀ (Q : Option Value → pm_H → Prop), (r.2.1 = tb_SH → Q (some (Value.int r.1)) r.2) → PW b L xs d 69 0 0 0 [(Value.ref l0), (Value.int l1), (Value.int l2)] [] h Q := by
    intro Q hE
    rw [c_orders] at hm
    refine pw_l (pc := 0) d69_0 rfl rfl rfl ?_
    refine pw_s (pc := 1) d69_1 rfl rfl ?_
    refine pw_ilt (pc := 2) (t := 11) d69_2 (by decide) (fun c1 => ?_) (fun c1 => ?_)
    · rw [if_pos c1] at hm
      refine pw_s (pc := 11) d69_11 rfl rfl ?_
      obtain rfl := Option.some.inj hm
      refine pw_ri (pc := 12) d69_12 t69 rfl ?_
      exact hE s_h
    · rw [if_neg c1] at hm
      refine pw_l (pc := 5) d69_5 rfl rfl rfl ?_
      refine pw_s (pc := 6) d69_6 rfl rfl ?_
      refine pw_ilt (pc := 8) (t := 13) d69_8 (by decide) (fun c2 => ?_) (fun c2 => ?_)
      · rw [if_pos c2] at hm
        refine pw_l (pc := 13) d69_13 rfl rfl rfl ?_
        refine pw_gi (pc := 14) d69_14 (k69_29 b) (sho s_h f_l0) f2_4 ?_
        refine pw_l (pc := 17) d69_17 rfl rfl rfl ?_
        refine pw_s (pc := 18) d69_18 rfl rfl ?_
        refine pw_s (pc := 19) d69_19 rfl rfl ?_
        obtain ⟨q3, e_q3, hm⟩ := ob_x hm
        refine pw_u (pc := 20) (by omega) d69_20 (k69_70 b) (by decide) m34 (Nat.le_of_ble_eq_true rfl) (Nat.le_of_ble_eq_true rfl) (Nat.le_of_ble_eq_true rfl) rfl rfl (T_x_bit b L xs (d - 1) (by omega) h s_h (h.2.1 l0 4) (l1 + (Int32.ofInt 1))  e_q3) (fun v0 h0 hq => ?_)
        obtain ⟨rfl, hh0, s_q3⟩ := hq
        rw [hh0] at s_q3 ⊢
        simp only [Option.toList_some, List.cons_append, List.nil_append]
        refine pw_zne (pc := 23) (t := 45) d69_23 (by decide) (fun c4 => ?_) (fun c4 => ?_)
        · rw [if_pos c4] at hm
          exact t_c_orders_45 b L xs d hd h s_h l0 l1 l2  f_l0  hm hE
        · rw [if_neg c4] at hm
          refine pw_l (pc := 26) d69_26 rfl rfl rfl ?_
          refine pw_l (pc := 27) d69_27 rfl rfl rfl ?_
          obtain ⟨q5, e_q5, hm⟩ := ob_x hm
          refine pw_v (pc := 28) (k := l0) (by omega) d69_28 (k69_74 b) (by decide) m70 (by decide) rfl (sho s_h f_l0) (Nat.le_of_ble_eq_true rfl) (Nat.le_of_ble_eq_true rfl) rfl rfl (T_c_fill b L xs (d - 1) (by omega) h s_h l0 l1 f_l0 e_q5) (fun v0 h0 hq => ?_)
          obtain ⟨rfl, hh0, s_q5⟩ := hq
          rw [hh0] at s_q5 ⊢
          simp only [Option.toList_none, List.nil_append]
          refine pw_l (pc := 31) d69_31 rfl rfl rfl ?_
          refine pw_s (pc := 32) d69_32 rfl rfl ?_
          refine pw_gi (pc := 33) d69_33 (k69_29 b) (sho s_q5 f_l0) f2_4 ?_
          refine pw_s (pc := 36) d69_36 rfl rfl ?_
          refine pw_l (pc := 37) d69_37 rfl rfl rfl ?_
          refine pw_s (pc := 38) d69_38 rfl rfl ?_
          refine pw_s (pc := 39) d69_39 rfl rfl ?_
          refine pw_s (pc := 40) d69_40 rfl rfl ?_
          refine pw_s (pc := 41) d69_41 rfl rfl ?_
          refine pw_pi (pc := 42) d69_42 (k69_29 b) (sho s_q5 f_l0) p69_2_4 ?_
          obtain ⟨h6, e_h6, hm⟩ := bd_x hm
          rw [e_h6]
          have s_h6 : h6.1 = tb_SH := by rw [← e_h6]; exact s_q5
          exact t_c_orders_45 b L xs d hd h6 s_h6 l0 l1 l2  f_l0  hm hE
      · rw [if_neg c2] at hm
        refine pw_s (pc := 11) d69_11 rfl rfl ?_
        obtain rfl := Option.some.inj hm
        refine pw_ri (pc := 12) d69_12 t69 rfl ?_
        exact hE s_h
  exact key _ (fun q => ⟨rfl, rfl, q⟩)
