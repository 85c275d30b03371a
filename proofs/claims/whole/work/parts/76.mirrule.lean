/-! Mirrors, written by wip/mir.py. -/
theorem d97_0 : decode (tb_me 97).1.2.1 0 = .ok (.aload_n 0, 1) := by decide +kernel
theorem d97_1 : decode (tb_me 97).1.2.1 1 = .ok (.bipush 93, 2) := by decide +kernel
theorem d97_3 : decode (tb_me 97).1.2.1 3 = .ok (.invokevirtual 67, 3) := by decide +kernel
theorem k97_67 (b : Bool) : tb_lk b 97 67 = (2, 140, 0, 0, 0) := by cases b <;> decide +kernel
theorem d97_6 : decode (tb_me 97).1.2.1 6 = .ok (.ifCond .ne 13, 3) := by decide +kernel
theorem d97_19 : decode (tb_me 97).1.2.1 19 = .ok (.aload_n 0, 1) := by decide +kernel
theorem d97_20 : decode (tb_me 97).1.2.1 20 = .ok (.invokevirtual 47, 3) := by decide +kernel
theorem k97_47 (b : Bool) : tb_lk b 97 47 = (2, 136, 0, 0, 0) := by cases b <;> decide +kernel
theorem d97_23 : decode (tb_me 97).1.2.1 23 = .ok (.iconst 1, 1) := by decide +kernel
theorem d97_24 : decode (tb_me 97).1.2.1 24 = .ok (.ireturn, 1) := by decide +kernel
theorem t97 : (tb_me 97).1.2.2.2 = some .boolean := by decide +kernel
theorem d97_9 : decode (tb_me 97).1.2.1 9 = .ok (.aload_n 0, 1) := by decide +kernel
theorem d97_10 : decode (tb_me 97).1.2.1 10 = .ok (.aload_n 0, 1) := by decide +kernel
theorem d97_11 : decode (tb_me 97).1.2.1 11 = .ok (.getfield 40, 3) := by decide +kernel
theorem k97_40 (b : Bool) : tb_lk b 97 40 = (1, 8, 3, 0, 0) := by cases b <;> decide +kernel
theorem d97_14 : decode (tb_me 97).1.2.1 14 = .ok (.iconst 0, 1) := by decide +kernel
theorem d97_15 : decode (tb_me 97).1.2.1 15 = .ok (.invokevirtual 43, 3) := by decide +kernel
theorem k97_43 (b : Bool) : tb_lk b 97 43 = (2, 141, 0, 0, 0) := by cases b <;> decide +kernel
theorem d97_18 : decode (tb_me 97).1.2.1 18 = .ok (.ireturn, 1) := by decide +kernel
theorem e97 : (tb_me 97).2.1 = (0, 0) ∧ (tb_me 97).1.2.2.1 = 1 := by decide +kernel
theorem d100_32 : decode (tb_me 100).1.2.1 32 = .ok (.iconst 1, 1) := by decide +kernel
theorem d100_33 : decode (tb_me 100).1.2.1 33 = .ok (.goto 4, 3) := by decide +kernel
theorem d100_37 : decode (tb_me 100).1.2.1 37 = .ok (.ireturn, 1) := by decide +kernel
theorem t100 : (tb_me 100).1.2.2.2 = some .boolean := by decide +kernel
theorem d100_0 : decode (tb_me 100).1.2.1 0 = .ok (.iload_n 0, 1) := by decide +kernel
theorem d100_1 : decode (tb_me 100).1.2.1 1 = .ok (.bipush 60, 2) := by decide +kernel
theorem d100_3 : decode (tb_me 100).1.2.1 3 = .ok (.if_icmp .eq 29, 3) := by decide +kernel
theorem d100_6 : decode (tb_me 100).1.2.1 6 = .ok (.iload_n 0, 1) := by decide +kernel
theorem d100_7 : decode (tb_me 100).1.2.1 7 = .ok (.bipush 61, 2) := by decide +kernel
theorem d100_9 : decode (tb_me 100).1.2.1 9 = .ok (.if_icmp .eq 23, 3) := by decide +kernel
theorem d100_12 : decode (tb_me 100).1.2.1 12 = .ok (.iload_n 0, 1) := by decide +kernel
theorem d100_13 : decode (tb_me 100).1.2.1 13 = .ok (.bipush 62, 2) := by decide +kernel
theorem d100_15 : decode (tb_me 100).1.2.1 15 = .ok (.if_icmp .eq 17, 3) := by decide +kernel
theorem d100_18 : decode (tb_me 100).1.2.1 18 = .ok (.iload_n 0, 1) := by decide +kernel
theorem d100_19 : decode (tb_me 100).1.2.1 19 = .ok (.sipush 316, 3) := by decide +kernel
theorem d100_22 : decode (tb_me 100).1.2.1 22 = .ok (.if_icmp .eq 10, 3) := by decide +kernel
theorem d100_25 : decode (tb_me 100).1.2.1 25 = .ok (.iload_n 0, 1) := by decide +kernel
theorem d100_26 : decode (tb_me 100).1.2.1 26 = .ok (.sipush 318, 3) := by decide +kernel
theorem d100_29 : decode (tb_me 100).1.2.1 29 = .ok (.if_icmp .ne 7, 3) := by decide +kernel
theorem d100_36 : decode (tb_me 100).1.2.1 36 = .ok (.iconst 0, 1) := by decide +kernel
theorem e100 : (tb_me 100).2.1 = (0, 0) ∧ (tb_me 100).1.2.2.1 = 1 := by decide +kernel
theorem d101_0 : decode (tb_me 101).1.2.1 0 = .ok (.aload_n 0, 1) := by decide +kernel
theorem d101_1 : decode (tb_me 101).1.2.1 1 = .ok (.getfield 15, 3) := by decide +kernel
theorem k101_15 (b : Bool) : tb_lk b 101 15 = (1, 6, 1, 0, 0) := by cases b <;> decide +kernel
theorem f6_1 : (1 < pm_nf tb_cl 6) ∧ tb_ft 6 1 ≠ .long ∧ pm_isR (tb_ft 6 1) = false := by decide +kernel
theorem d101_4 : decode (tb_me 101).1.2.1 4 = .ok (.ifCond .lt 35, 3) := by decide +kernel
theorem d101_39 : decode (tb_me 101).1.2.1 39 = .ok (.return_, 1) := by decide +kernel
theorem t101 : (tb_me 101).1.2.2.2 = none := by decide +kernel
theorem d101_7 : decode (tb_me 101).1.2.1 7 = .ok (.aload_n 0, 1) := by decide +kernel
theorem d101_8 : decode (tb_me 101).1.2.1 8 = .ok (.getfield 15, 3) := by decide +kernel
theorem d101_11 : decode (tb_me 101).1.2.1 11 = .ok (.aload_n 0, 1) := by decide +kernel
theorem d101_12 : decode (tb_me 101).1.2.1 12 = .ok (.getfield 11, 3) := by decide +kernel
theorem k101_11 (b : Bool) : tb_lk b 101 11 = (1, 6, 0, 0, 0) := by cases b <;> decide +kernel
theorem f6_0 : (0 < pm_nf tb_cl 6) ∧ tb_ft 6 0 ≠ .long ∧ pm_isR (tb_ft 6 0) = true := by decide +kernel
theorem d101_15 : decode (tb_me 101).1.2.1 15 = .ok (.arraylength, 1) := by decide +kernel
theorem d101_16 : decode (tb_me 101).1.2.1 16 = .ok (.if_icmp .ge 23, 3) := by decide +kernel
theorem d101_19 : decode (tb_me 101).1.2.1 19 = .ok (.aload_n 0, 1) := by decide +kernel
theorem d101_20 : decode (tb_me 101).1.2.1 20 = .ok (.getfield 11, 3) := by decide +kernel
theorem d101_23 : decode (tb_me 101).1.2.1 23 = .ok (.aload_n 0, 1) := by decide +kernel
theorem d101_24 : decode (tb_me 101).1.2.1 24 = .ok (.getfield 15, 3) := by decide +kernel
theorem d101_27 : decode (tb_me 101).1.2.1 27 = .ok (.iload_n 1, 1) := by decide +kernel
theorem d101_28 : decode (tb_me 101).1.2.1 28 = .ok (.iastore, 1) := by decide +kernel
theorem d101_29 : decode (tb_me 101).1.2.1 29 = .ok (.aload_n 0, 1) := by decide +kernel
theorem d101_30 : decode (tb_me 101).1.2.1 30 = .ok (.dup, 1) := by decide +kernel
theorem d101_31 : decode (tb_me 101).1.2.1 31 = .ok (.getfield 15, 3) := by decide +kernel
theorem d101_34 : decode (tb_me 101).1.2.1 34 = .ok (.iconst 1, 1) := by decide +kernel
theorem d101_35 : decode (tb_me 101).1.2.1 35 = .ok (.iadd, 1) := by decide +kernel
theorem d101_36 : decode (tb_me 101).1.2.1 36 = .ok (.putfield 15, 3) := by decide +kernel
theorem p101_6_1 : (1 < pm_nf tb_cl 6) ∧ tb_ft 6 1 = .int ∧ pm_fin tb_cl (tb_me 101).1.1 6 1 = true := by decide +kernel
theorem e101 : (tb_me 101).2.1 = (0, 0) ∧ (tb_me 101).1.2.2.1 = 2 := by decide +kernel
theorem d103_0 : decode (tb_me 103).1.2.1 0 = .ok (.aload_n 0, 1) := by decide +kernel
theorem d103_1 : decode (tb_me 103).1.2.1 1 = .ok (.getfield 26, 3) := by decide +kernel
theorem k103_26 (b : Bool) : tb_lk b 103 26 = (1, 6, 4, 0, 0) := by cases b <;> decide +kernel
theorem f6_4 : (4 < pm_nf tb_cl 6) ∧ tb_ft 6 4 ≠ .long ∧ pm_isR (tb_ft 6 4) = false := by decide +kernel
theorem d103_4 : decode (tb_me 103).1.2.1 4 = .ok (.ifCond .lt 35, 3) := by decide +kernel
theorem d103_39 : decode (tb_me 103).1.2.1 39 = .ok (.return_, 1) := by decide +kernel
theorem t103 : (tb_me 103).1.2.2.2 = none := by decide +kernel
theorem d103_7 : decode (tb_me 103).1.2.1 7 = .ok (.aload_n 0, 1) := by decide +kernel
theorem d103_8 : decode (tb_me 103).1.2.1 8 = .ok (.getfield 26, 3) := by decide +kernel
theorem d103_11 : decode (tb_me 103).1.2.1 11 = .ok (.aload_n 0, 1) := by decide +kernel
theorem d103_12 : decode (tb_me 103).1.2.1 12 = .ok (.getfield 22, 3) := by decide +kernel
theorem k103_22 (b : Bool) : tb_lk b 103 22 = (1, 6, 3, 0, 0) := by cases b <;> decide +kernel
theorem f6_3 : (3 < pm_nf tb_cl 6) ∧ tb_ft 6 3 ≠ .long ∧ pm_isR (tb_ft 6 3) = true := by decide +kernel
theorem d103_15 : decode (tb_me 103).1.2.1 15 = .ok (.arraylength, 1) := by decide +kernel
theorem d103_16 : decode (tb_me 103).1.2.1 16 = .ok (.if_icmp .ge 23, 3) := by decide +kernel
theorem d103_19 : decode (tb_me 103).1.2.1 19 = .ok (.aload_n 0, 1) := by decide +kernel
theorem d103_20 : decode (tb_me 103).1.2.1 20 = .ok (.getfield 22, 3) := by decide +kernel
theorem d103_23 : decode (tb_me 103).1.2.1 23 = .ok (.aload_n 0, 1) := by decide +kernel
theorem d103_24 : decode (tb_me 103).1.2.1 24 = .ok (.getfield 26, 3) := by decide +kernel
theorem d103_27 : decode (tb_me 103).1.2.1 27 = .ok (.lload_n 1, 1) := by decide +kernel
theorem d103_28 : decode (tb_me 103).1.2.1 28 = .ok (.lastore, 1) := by decide +kernel
theorem d103_29 : decode (tb_me 103).1.2.1 29 = .ok (.aload_n 0, 1) := by decide +kernel
theorem d103_30 : decode (tb_me 103).1.2.1 30 = .ok (.dup, 1) := by decide +kernel
theorem d103_31 : decode (tb_me 103).1.2.1 31 = .ok (.getfield 26, 3) := by decide +kernel
theorem d103_34 : decode (tb_me 103).1.2.1 34 = .ok (.iconst 1, 1) := by decide +kernel
theorem d103_35 : decode (tb_me 103).1.2.1 35 = .ok (.iadd, 1) := by decide +kernel
theorem d103_36 : decode (tb_me 103).1.2.1 36 = .ok (.putfield 26, 3) := by decide +kernel
theorem p103_6_4 : (4 < pm_nf tb_cl 6) ∧ tb_ft 6 4 = .int ∧ pm_fin tb_cl (tb_me 103).1.1 6 4 = true := by decide +kernel
theorem e103 : (tb_me 103).2.1 = (0, 0) ∧ (tb_me 103).1.2.2.1 = 3 := by decide +kernel
theorem d104_20 : decode (tb_me 104).1.2.1 20 = .ok (.lconst 0, 1) := by decide +kernel
theorem d104_21 : decode (tb_me 104).1.2.1 21 = .ok (.lreturn, 1) := by decide +kernel
theorem t104 : (tb_me 104).1.2.2.2 = some .long := by decide +kernel
theorem d104_0 : decode (tb_me 104).1.2.1 0 = .ok (.aload_n 0, 1) := by decide +kernel
theorem d104_1 : decode (tb_me 104).1.2.1 1 = .ok (.getfield 26, 3) := by decide +kernel
theorem k104_26 (b : Bool) : tb_lk b 104 26 = (1, 6, 4, 0, 0) := by cases b <;> decide +kernel
theorem d104_4 : decode (tb_me 104).1.2.1 4 = .ok (.iconst 1, 1) := by decide +kernel
theorem d104_5 : decode (tb_me 104).1.2.1 5 = .ok (.if_icmp .lt 15, 3) := by decide +kernel
theorem d104_8 : decode (tb_me 104).1.2.1 8 = .ok (.aload_n 0, 1) := by decide +kernel
theorem d104_9 : decode (tb_me 104).1.2.1 9 = .ok (.getfield 26, 3) := by decide +kernel
theorem d104_12 : decode (tb_me 104).1.2.1 12 = .ok (.aload_n 0, 1) := by decide +kernel
theorem d104_13 : decode (tb_me 104).1.2.1 13 = .ok (.getfield 22, 3) := by decide +kernel
theorem k104_22 (b : Bool) : tb_lk b 104 22 = (1, 6, 3, 0, 0) := by cases b <;> decide +kernel
theorem d104_16 : decode (tb_me 104).1.2.1 16 = .ok (.arraylength, 1) := by decide +kernel
theorem d104_17 : decode (tb_me 104).1.2.1 17 = .ok (.if_icmp .le 5, 3) := by decide +kernel
theorem d104_22 : decode (tb_me 104).1.2.1 22 = .ok (.aload_n 0, 1) := by decide +kernel
theorem d104_23 : decode (tb_me 104).1.2.1 23 = .ok (.dup, 1) := by decide +kernel
theorem d104_24 : decode (tb_me 104).1.2.1 24 = .ok (.getfield 26, 3) := by decide +kernel
theorem d104_27 : decode (tb_me 104).1.2.1 27 = .ok (.iconst 1, 1) := by decide +kernel
theorem d104_28 : decode (tb_me 104).1.2.1 28 = .ok (.isub, 1) := by decide +kernel
theorem d104_29 : decode (tb_me 104).1.2.1 29 = .ok (.putfield 26, 3) := by decide +kernel
theorem p104_6_4 : (4 < pm_nf tb_cl 6) ∧ tb_ft 6 4 = .int ∧ pm_fin tb_cl (tb_me 104).1.1 6 4 = true := by decide +kernel
theorem d104_32 : decode (tb_me 104).1.2.1 32 = .ok (.aload_n 0, 1) := by decide +kernel
theorem d104_33 : decode (tb_me 104).1.2.1 33 = .ok (.getfield 22, 3) := by decide +kernel
theorem d104_36 : decode (tb_me 104).1.2.1 36 = .ok (.aload_n 0, 1) := by decide +kernel
theorem d104_37 : decode (tb_me 104).1.2.1 37 = .ok (.getfield 26, 3) := by decide +kernel
theorem d104_40 : decode (tb_me 104).1.2.1 40 = .ok (.laload, 1) := by decide +kernel
theorem d104_41 : decode (tb_me 104).1.2.1 41 = .ok (.lreturn, 1) := by decide +kernel
theorem e104 : (tb_me 104).2.1 = (0, 0) ∧ (tb_me 104).1.2.2.1 = 1 := by decide +kernel
theorem d105_12 : decode (tb_me 105).1.2.1 12 = .ok (.iload_n 0, 1) := by decide +kernel
theorem d105_13 : decode (tb_me 105).1.2.1 13 = .ok (.bipush (-13), 2) := by decide +kernel
theorem d105_15 : decode (tb_me 105).1.2.1 15 = .ok (.if_icmp .ne 9, 3) := by decide +kernel
theorem d105_24 : decode (tb_me 105).1.2.1 24 = .ok (.lload_n 1, 1) := by decide +kernel
theorem d105_25 : decode (tb_me 105).1.2.1 25 = .ok (.lload_n 3, 1) := by decide +kernel
theorem d105_26 : decode (tb_me 105).1.2.1 26 = .ok (.lor, 1) := by decide +kernel
theorem d105_27 : decode (tb_me 105).1.2.1 27 = .ok (.lreturn, 1) := by decide +kernel
theorem t105 : (tb_me 105).1.2.2.2 = some .long := by decide +kernel
theorem d105_18 : decode (tb_me 105).1.2.1 18 = .ok (.lload_n 1, 1) := by decide +kernel
theorem d105_19 : decode (tb_me 105).1.2.1 19 = .ok (.lload_n 3, 1) := by decide +kernel
theorem d105_20 : decode (tb_me 105).1.2.1 20 = .ok (.land, 1) := by decide +kernel
theorem d105_21 : decode (tb_me 105).1.2.1 21 = .ok (.goto 6, 3) := by decide +kernel
theorem d105_0 : decode (tb_me 105).1.2.1 0 = .ok (.iload_n 0, 1) := by decide +kernel
theorem d105_1 : decode (tb_me 105).1.2.1 1 = .ok (.bipush (-13), 2) := by decide +kernel
theorem d105_3 : decode (tb_me 105).1.2.1 3 = .ok (.if_icmp .eq 9, 3) := by decide +kernel
theorem d105_6 : decode (tb_me 105).1.2.1 6 = .ok (.iload_n 0, 1) := by decide +kernel
theorem d105_7 : decode (tb_me 105).1.2.1 7 = .ok (.bipush (-14), 2) := by decide +kernel
theorem d105_9 : decode (tb_me 105).1.2.1 9 = .ok (.if_icmp .ne 19, 3) := by decide +kernel
theorem d105_28 : decode (tb_me 105).1.2.1 28 = .ok (.bipush (-100), 2) := by decide +kernel
theorem d105_30 : decode (tb_me 105).1.2.1 30 = .ok (.iload_n 0, 1) := by decide +kernel
theorem d105_31 : decode (tb_me 105).1.2.1 31 = .ok (.isub, 1) := by decide +kernel
theorem d105_32 : decode (tb_me 105).1.2.1 32 = .ok (.lookupswitch 192 #[(37, 118), (42, 100), (43, 92), (45, 96), (47, 104), (60, 132), (61, 144), (62, 156), (316, 168), (318, 180)], 92) := by decide +kernel
theorem d105_150 : decode (tb_me 105).1.2.1 150 = .ok (.lload_n 3, 1) := by decide +kernel
theorem d105_151 : decode (tb_me 105).1.2.1 151 = .ok (.lconst 0, 1) := by decide +kernel
theorem d105_152 : decode (tb_me 105).1.2.1 152 = .ok (.lcmp, 1) := by decide +kernel
theorem d105_153 : decode (tb_me 105).1.2.1 153 = .ok (.ifCond .ne 7, 3) := by decide +kernel
theorem d105_160 : decode (tb_me 105).1.2.1 160 = .ok (.lload_n 1, 1) := by decide +kernel
theorem d105_161 : decode (tb_me 105).1.2.1 161 = .ok (.lload_n 3, 1) := by decide +kernel
theorem d105_162 : decode (tb_me 105).1.2.1 162 = .ok (.lrem, 1) := by decide +kernel
theorem d105_163 : decode (tb_me 105).1.2.1 163 = .ok (.lreturn, 1) := by decide +kernel
theorem d105_156 : decode (tb_me 105).1.2.1 156 = .ok (.lconst 0, 1) := by decide +kernel
theorem d105_157 : decode (tb_me 105).1.2.1 157 = .ok (.goto 6, 3) := by decide +kernel
theorem d105_132 : decode (tb_me 105).1.2.1 132 = .ok (.lload_n 1, 1) := by decide +kernel
theorem d105_133 : decode (tb_me 105).1.2.1 133 = .ok (.lload_n 3, 1) := by decide +kernel
theorem d105_134 : decode (tb_me 105).1.2.1 134 = .ok (.lmul, 1) := by decide +kernel
theorem d105_135 : decode (tb_me 105).1.2.1 135 = .ok (.lreturn, 1) := by decide +kernel
theorem d105_124 : decode (tb_me 105).1.2.1 124 = .ok (.lload_n 1, 1) := by decide +kernel
theorem d105_125 : decode (tb_me 105).1.2.1 125 = .ok (.lload_n 3, 1) := by decide +kernel
theorem d105_126 : decode (tb_me 105).1.2.1 126 = .ok (.ladd, 1) := by decide +kernel
theorem d105_127 : decode (tb_me 105).1.2.1 127 = .ok (.lreturn, 1) := by decide +kernel
theorem d105_128 : decode (tb_me 105).1.2.1 128 = .ok (.lload_n 1, 1) := by decide +kernel
theorem d105_129 : decode (tb_me 105).1.2.1 129 = .ok (.lload_n 3, 1) := by decide +kernel
theorem d105_130 : decode (tb_me 105).1.2.1 130 = .ok (.lsub, 1) := by decide +kernel
theorem d105_131 : decode (tb_me 105).1.2.1 131 = .ok (.lreturn, 1) := by decide +kernel
theorem d105_136 : decode (tb_me 105).1.2.1 136 = .ok (.lload_n 3, 1) := by decide +kernel
theorem d105_137 : decode (tb_me 105).1.2.1 137 = .ok (.lconst 0, 1) := by decide +kernel
theorem d105_138 : decode (tb_me 105).1.2.1 138 = .ok (.lcmp, 1) := by decide +kernel
theorem d105_139 : decode (tb_me 105).1.2.1 139 = .ok (.ifCond .ne 7, 3) := by decide +kernel
theorem d105_146 : decode (tb_me 105).1.2.1 146 = .ok (.lload_n 1, 1) := by decide +kernel
theorem d105_147 : decode (tb_me 105).1.2.1 147 = .ok (.lload_n 3, 1) := by decide +kernel
theorem d105_148 : decode (tb_me 105).1.2.1 148 = .ok (.ldiv, 1) := by decide +kernel
theorem d105_149 : decode (tb_me 105).1.2.1 149 = .ok (.lreturn, 1) := by decide +kernel
theorem d105_142 : decode (tb_me 105).1.2.1 142 = .ok (.lconst 0, 1) := by decide +kernel
theorem d105_143 : decode (tb_me 105).1.2.1 143 = .ok (.goto 6, 3) := by decide +kernel
theorem d105_164 : decode (tb_me 105).1.2.1 164 = .ok (.lload_n 1, 1) := by decide +kernel
theorem d105_165 : decode (tb_me 105).1.2.1 165 = .ok (.lload_n 3, 1) := by decide +kernel
theorem d105_166 : decode (tb_me 105).1.2.1 166 = .ok (.lcmp, 1) := by decide +kernel
theorem d105_167 : decode (tb_me 105).1.2.1 167 = .ok (.ifCond .ge 7, 3) := by decide +kernel
theorem d105_174 : decode (tb_me 105).1.2.1 174 = .ok (.lconst 0, 1) := by decide +kernel
theorem d105_175 : decode (tb_me 105).1.2.1 175 = .ok (.lreturn, 1) := by decide +kernel
theorem d105_170 : decode (tb_me 105).1.2.1 170 = .ok (.lconst 1, 1) := by decide +kernel
theorem d105_171 : decode (tb_me 105).1.2.1 171 = .ok (.goto 4, 3) := by decide +kernel
theorem d105_176 : decode (tb_me 105).1.2.1 176 = .ok (.lload_n 1, 1) := by decide +kernel
theorem d105_177 : decode (tb_me 105).1.2.1 177 = .ok (.lload_n 3, 1) := by decide +kernel
theorem d105_178 : decode (tb_me 105).1.2.1 178 = .ok (.lcmp, 1) := by decide +kernel
theorem d105_179 : decode (tb_me 105).1.2.1 179 = .ok (.ifCond .ne 7, 3) := by decide +kernel
theorem d105_186 : decode (tb_me 105).1.2.1 186 = .ok (.lconst 0, 1) := by decide +kernel
theorem d105_187 : decode (tb_me 105).1.2.1 187 = .ok (.lreturn, 1) := by decide +kernel
theorem d105_182 : decode (tb_me 105).1.2.1 182 = .ok (.lconst 1, 1) := by decide +kernel
theorem d105_183 : decode (tb_me 105).1.2.1 183 = .ok (.goto 4, 3) := by decide +kernel
theorem d105_188 : decode (tb_me 105).1.2.1 188 = .ok (.lload_n 1, 1) := by decide +kernel
theorem d105_189 : decode (tb_me 105).1.2.1 189 = .ok (.lload_n 3, 1) := by decide +kernel
theorem d105_190 : decode (tb_me 105).1.2.1 190 = .ok (.lcmp, 1) := by decide +kernel
theorem d105_191 : decode (tb_me 105).1.2.1 191 = .ok (.ifCond .le 7, 3) := by decide +kernel
theorem d105_198 : decode (tb_me 105).1.2.1 198 = .ok (.lconst 0, 1) := by decide +kernel
theorem d105_199 : decode (tb_me 105).1.2.1 199 = .ok (.lreturn, 1) := by decide +kernel
theorem d105_194 : decode (tb_me 105).1.2.1 194 = .ok (.lconst 1, 1) := by decide +kernel
theorem d105_195 : decode (tb_me 105).1.2.1 195 = .ok (.goto 4, 3) := by decide +kernel
theorem d105_200 : decode (tb_me 105).1.2.1 200 = .ok (.lload_n 1, 1) := by decide +kernel
theorem d105_201 : decode (tb_me 105).1.2.1 201 = .ok (.lload_n 3, 1) := by decide +kernel
theorem d105_202 : decode (tb_me 105).1.2.1 202 = .ok (.lcmp, 1) := by decide +kernel
theorem d105_203 : decode (tb_me 105).1.2.1 203 = .ok (.ifCond .gt 7, 3) := by decide +kernel
theorem d105_210 : decode (tb_me 105).1.2.1 210 = .ok (.lconst 0, 1) := by decide +kernel
theorem d105_211 : decode (tb_me 105).1.2.1 211 = .ok (.lreturn, 1) := by decide +kernel
theorem d105_206 : decode (tb_me 105).1.2.1 206 = .ok (.lconst 1, 1) := by decide +kernel
theorem d105_207 : decode (tb_me 105).1.2.1 207 = .ok (.goto 4, 3) := by decide +kernel
theorem d105_212 : decode (tb_me 105).1.2.1 212 = .ok (.lload_n 1, 1) := by decide +kernel
theorem d105_213 : decode (tb_me 105).1.2.1 213 = .ok (.lload_n 3, 1) := by decide +kernel
theorem d105_214 : decode (tb_me 105).1.2.1 214 = .ok (.lcmp, 1) := by decide +kernel
theorem d105_215 : decode (tb_me 105).1.2.1 215 = .ok (.ifCond .lt 7, 3) := by decide +kernel
theorem d105_222 : decode (tb_me 105).1.2.1 222 = .ok (.lconst 0, 1) := by decide +kernel
theorem d105_223 : decode (tb_me 105).1.2.1 223 = .ok (.lreturn, 1) := by decide +kernel
theorem d105_218 : decode (tb_me 105).1.2.1 218 = .ok (.lconst 1, 1) := by decide +kernel
theorem d105_219 : decode (tb_me 105).1.2.1 219 = .ok (.goto 4, 3) := by decide +kernel
theorem d105_224 : decode (tb_me 105).1.2.1 224 = .ok (.lconst 0, 1) := by decide +kernel
theorem d105_225 : decode (tb_me 105).1.2.1 225 = .ok (.lreturn, 1) := by decide +kernel
theorem e105 : (tb_me 105).2.1 = (0, 0) ∧ (tb_me 105).1.2.2.1 = 5 := by decide +kernel
theorem d107_37 : decode (tb_me 107).1.2.1 37 = .ok (.istore 5, 2) := by decide +kernel
theorem d107_39 : decode (tb_me 107).1.2.1 39 = .ok (.iload 5, 2) := by decide +kernel
theorem d107_41 : decode (tb_me 107).1.2.1 41 = .ok (.ifCond .eq 20, 3) := by decide +kernel
theorem d107_61 : decode (tb_me 107).1.2.1 61 = .ok (.iinc 4 1, 3) := by decide +kernel
theorem d107_64 : decode (tb_me 107).1.2.1 64 = .ok (.goto (-59), 3) := by decide +kernel
theorem d107_44 : decode (tb_me 107).1.2.1 44 = .ok (.aload_n 0, 1) := by decide +kernel
theorem d107_45 : decode (tb_me 107).1.2.1 45 = .ok (.iload 4, 2) := by decide +kernel
theorem d107_47 : decode (tb_me 107).1.2.1 47 = .ok (.invokevirtual 171, 3) := by decide +kernel
theorem k107_171 (b : Bool) : tb_lk b 107 171 = (2, 115, 0, 0, 0) := by cases b <;> decide +kernel
theorem d107_50 : decode (tb_me 107).1.2.1 50 = .ok (.aload_n 0, 1) := by decide +kernel
theorem d107_51 : decode (tb_me 107).1.2.1 51 = .ok (.iload_n 2, 1) := by decide +kernel
theorem d107_52 : decode (tb_me 107).1.2.1 52 = .ok (.invokevirtual 171, 3) := by decide +kernel
theorem d107_55 : decode (tb_me 107).1.2.1 55 = .ok (.if_icmp .ne 6, 3) := by decide +kernel
theorem d107_58 : decode (tb_me 107).1.2.1 58 = .ok (.iinc 3 1, 3) := by decide +kernel
theorem d107_5 : decode (tb_me 107).1.2.1 5 = .ok (.iload 4, 2) := by decide +kernel
theorem d107_7 : decode (tb_me 107).1.2.1 7 = .ok (.aload_n 0, 1) := by decide +kernel
theorem d107_8 : decode (tb_me 107).1.2.1 8 = .ok (.getfield 161, 3) := by decide +kernel
theorem k107_161 (b : Bool) : tb_lk b 107 161 = (1, 7, 1, 0, 0) := by cases b <;> decide +kernel
theorem d107_11 : decode (tb_me 107).1.2.1 11 = .ok (.if_icmp .ge 56, 3) := by decide +kernel
theorem d107_14 : decode (tb_me 107).1.2.1 14 = .ok (.iload 4, 2) := by decide +kernel
theorem d107_16 : decode (tb_me 107).1.2.1 16 = .ok (.iload_n 2, 1) := by decide +kernel
theorem d107_17 : decode (tb_me 107).1.2.1 17 = .ok (.if_icmp .eq 19, 3) := by decide +kernel
theorem d107_36 : decode (tb_me 107).1.2.1 36 = .ok (.iconst 0, 1) := by decide +kernel
theorem d107_20 : decode (tb_me 107).1.2.1 20 = .ok (.aload_n 1, 1) := by decide +kernel
theorem d107_21 : decode (tb_me 107).1.2.1 21 = .ok (.getfield 164, 3) := by decide +kernel
theorem k107_164 (b : Bool) : tb_lk b 107 164 = (1, 3, 1, 0, 0) := by cases b <;> decide +kernel
theorem d107_24 : decode (tb_me 107).1.2.1 24 = .ok (.iload 4, 2) := by decide +kernel
theorem d107_26 : decode (tb_me 107).1.2.1 26 = .ok (.invokestatic 167, 3) := by decide +kernel
theorem k107_167 (b : Bool) : tb_lk b 107 167 = (5, 34, 0, 0, 0) := by cases b <;> decide +kernel
theorem d107_29 : decode (tb_me 107).1.2.1 29 = .ok (.ifCond .ne 7, 3) := by decide +kernel
theorem d107_32 : decode (tb_me 107).1.2.1 32 = .ok (.iconst 1, 1) := by decide +kernel
theorem d107_33 : decode (tb_me 107).1.2.1 33 = .ok (.goto 4, 3) := by decide +kernel
theorem d107_0 : decode (tb_me 107).1.2.1 0 = .ok (.iconst 0, 1) := by decide +kernel
theorem d107_1 : decode (tb_me 107).1.2.1 1 = .ok (.istore_n 3, 1) := by decide +kernel
theorem d107_2 : decode (tb_me 107).1.2.1 2 = .ok (.iconst 0, 1) := by decide +kernel
theorem d107_3 : decode (tb_me 107).1.2.1 3 = .ok (.istore 4, 2) := by decide +kernel
theorem d107_67 : decode (tb_me 107).1.2.1 67 = .ok (.iload_n 3, 1) := by decide +kernel
theorem d107_68 : decode (tb_me 107).1.2.1 68 = .ok (.ireturn, 1) := by decide +kernel
theorem t107 : (tb_me 107).1.2.2.2 = some .int := by decide +kernel
theorem e107 : (tb_me 107).2.1 = (0, 0) ∧ (tb_me 107).1.2.2.1 = 6 := by decide +kernel
theorem d108_21 : decode (tb_me 108).1.2.1 21 = .ok (.iload 4, 2) := by decide +kernel
theorem d108_23 : decode (tb_me 108).1.2.1 23 = .ok (.aload_n 0, 1) := by decide +kernel
theorem d108_24 : decode (tb_me 108).1.2.1 24 = .ok (.getfield 176, 3) := by decide +kernel
theorem k108_176 (b : Bool) : tb_lk b 108 176 = (1, 7, 7, 0, 0) := by cases b <;> decide +kernel
theorem d108_27 : decode (tb_me 108).1.2.1 27 = .ok (.iload_n 3, 1) := by decide +kernel
theorem d108_28 : decode (tb_me 108).1.2.1 28 = .ok (.iaload, 1) := by decide +kernel
theorem d108_29 : decode (tb_me 108).1.2.1 29 = .ok (.if_icmp .ge 31, 3) := by decide +kernel
theorem d108_32 : decode (tb_me 108).1.2.1 32 = .ok (.aload_n 0, 1) := by decide +kernel
theorem d108_33 : decode (tb_me 108).1.2.1 33 = .ok (.iload_n 3, 1) := by decide +kernel
theorem d108_34 : decode (tb_me 108).1.2.1 34 = .ok (.iload 4, 2) := by decide +kernel
theorem d108_36 : decode (tb_me 108).1.2.1 36 = .ok (.invokevirtual 179, 3) := by decide +kernel
theorem k108_179 (b : Bool) : tb_lk b 108 179 = (2, 116, 0, 0, 0) := by cases b <;> decide +kernel
theorem d108_39 : decode (tb_me 108).1.2.1 39 = .ok (.iload_n 1, 1) := by decide +kernel
theorem d108_40 : decode (tb_me 108).1.2.1 40 = .ok (.if_icmp .ne 14, 3) := by decide +kernel
theorem d108_54 : decode (tb_me 108).1.2.1 54 = .ok (.iinc 4 1, 3) := by decide +kernel
theorem d108_57 : decode (tb_me 108).1.2.1 57 = .ok (.goto (-36), 3) := by decide +kernel
theorem d108_43 : decode (tb_me 108).1.2.1 43 = .ok (.iload_n 2, 1) := by decide +kernel
theorem d108_44 : decode (tb_me 108).1.2.1 44 = .ok (.aload_n 0, 1) := by decide +kernel
theorem d108_45 : decode (tb_me 108).1.2.1 45 = .ok (.getfield 182, 3) := by decide +kernel
theorem k108_182 (b : Bool) : tb_lk b 108 182 = (1, 7, 6, 0, 0) := by cases b <;> decide +kernel
theorem d108_48 : decode (tb_me 108).1.2.1 48 = .ok (.iload_n 3, 1) := by decide +kernel
theorem d108_49 : decode (tb_me 108).1.2.1 49 = .ok (.iaload, 1) := by decide +kernel
theorem d108_50 : decode (tb_me 108).1.2.1 50 = .ok (.invokestatic 185, 3) := by decide +kernel
theorem k108_185 (b : Bool) : tb_lk b 108 185 = (16, 0, 0, 0, 0) := by cases b <;> decide +kernel
theorem d108_53 : decode (tb_me 108).1.2.1 53 = .ok (.istore_n 2, 1) := by decide +kernel
theorem d108_4 : decode (tb_me 108).1.2.1 4 = .ok (.iload_n 3, 1) := by decide +kernel
theorem d108_5 : decode (tb_me 108).1.2.1 5 = .ok (.aload_n 0, 1) := by decide +kernel
theorem d108_6 : decode (tb_me 108).1.2.1 6 = .ok (.getfield 173, 3) := by decide +kernel
theorem k108_173 (b : Bool) : tb_lk b 108 173 = (1, 7, 2, 0, 0) := by cases b <;> decide +kernel
theorem d108_9 : decode (tb_me 108).1.2.1 9 = .ok (.if_icmp .ge 57, 3) := by decide +kernel
theorem d108_12 : decode (tb_me 108).1.2.1 12 = .ok (.iload_n 3, 1) := by decide +kernel
theorem d108_13 : decode (tb_me 108).1.2.1 13 = .ok (.bipush 8, 2) := by decide +kernel
theorem d108_15 : decode (tb_me 108).1.2.1 15 = .ok (.if_icmp .ge 51, 3) := by decide +kernel
theorem d108_18 : decode (tb_me 108).1.2.1 18 = .ok (.iconst 0, 1) := by decide +kernel
theorem d108_19 : decode (tb_me 108).1.2.1 19 = .ok (.istore 4, 2) := by decide +kernel
theorem d108_60 : decode (tb_me 108).1.2.1 60 = .ok (.iinc 3 1, 3) := by decide +kernel
theorem d108_63 : decode (tb_me 108).1.2.1 63 = .ok (.goto (-59), 3) := by decide +kernel
theorem d108_0 : decode (tb_me 108).1.2.1 0 = .ok (.iconst 0, 1) := by decide +kernel
theorem d108_1 : decode (tb_me 108).1.2.1 1 = .ok (.istore_n 2, 1) := by decide +kernel
theorem d108_2 : decode (tb_me 108).1.2.1 2 = .ok (.iconst 0, 1) := by decide +kernel
theorem d108_3 : decode (tb_me 108).1.2.1 3 = .ok (.istore_n 3, 1) := by decide +kernel
theorem d108_66 : decode (tb_me 108).1.2.1 66 = .ok (.iload_n 2, 1) := by decide +kernel
theorem d108_67 : decode (tb_me 108).1.2.1 67 = .ok (.ireturn, 1) := by decide +kernel
theorem t108 : (tb_me 108).1.2.2.2 = some .int := by decide +kernel
theorem e108 : (tb_me 108).2.1 = (0, 0) ∧ (tb_me 108).1.2.2.1 = 5 := by decide +kernel
theorem d95_110 : decode (tb_me 95).1.2.1 110 = .ok (.iload_n 3, 1) := by decide +kernel
theorem d95_111 : decode (tb_me 95).1.2.1 111 = .ok (.ifCond .eq 9, 3) := by decide +kernel
theorem d95_120 : decode (tb_me 95).1.2.1 120 = .ok (.iload 4, 2) := by decide +kernel
theorem d95_122 : decode (tb_me 95).1.2.1 122 = .ok (.ireturn, 1) := by decide +kernel
theorem t95 : (tb_me 95).1.2.2.2 = some .boolean := by decide +kernel
theorem d95_114 : decode (tb_me 95).1.2.1 114 = .ok (.aload_n 0, 1) := by decide +kernel
theorem d95_115 : decode (tb_me 95).1.2.1 115 = .ok (.bipush (-14), 2) := by decide +kernel
theorem d95_117 : decode (tb_me 95).1.2.1 117 = .ok (.invokevirtual 60, 3) := by decide +kernel
theorem k95_60 (b : Bool) : tb_lk b 95 60 = (2, 101, 0, 0, 0) := by cases b <;> decide +kernel
theorem m101 : (tb_me 101).2 = ((0, 0), (1, 6)) ∧ (tb_me 101).1.2.2.1 = 2 := by decide +kernel
theorem d95_80 : decode (tb_me 95).1.2.1 80 = .ok (.istore_n 3, 1) := by decide +kernel
theorem d95_81 : decode (tb_me 95).1.2.1 81 = .ok (.aload_n 1, 1) := by decide +kernel
theorem d95_82 : decode (tb_me 95).1.2.1 82 = .ok (.invokevirtual 47, 3) := by decide +kernel
theorem k95_47 (b : Bool) : tb_lk b 95 47 = (2, 136, 0, 0, 0) := by cases b <;> decide +kernel
theorem d95_85 : decode (tb_me 95).1.2.1 85 = .ok (.aload_n 0, 1) := by decide +kernel
theorem d95_86 : decode (tb_me 95).1.2.1 86 = .ok (.aload_n 1, 1) := by decide +kernel
theorem d95_87 : decode (tb_me 95).1.2.1 87 = .ok (.iload_n 2, 1) := by decide +kernel
theorem d95_88 : decode (tb_me 95).1.2.1 88 = .ok (.invokevirtual 71, 3) := by decide +kernel
theorem k95_71 (b : Bool) : tb_lk b 95 71 = (2, 96, 0, 0, 0) := by cases b <;> decide +kernel
theorem m96 : (tb_me 96).2 = ((0, 0), (2, 6)) ∧ (tb_me 96).1.2.2.1 = 7 := by decide +kernel
theorem d95_91 : decode (tb_me 95).1.2.1 91 = .ok (.istore 4, 2) := by decide +kernel
theorem d95_93 : decode (tb_me 95).1.2.1 93 = .ok (.iload 6, 2) := by decide +kernel
theorem d95_95 : decode (tb_me 95).1.2.1 95 = .ok (.ifCond .eq 9, 3) := by decide +kernel
theorem d95_104 : decode (tb_me 95).1.2.1 104 = .ok (.iinc 5 1, 3) := by decide +kernel
theorem d95_107 : decode (tb_me 95).1.2.1 107 = .ok (.goto (-94), 3) := by decide +kernel
theorem d95_98 : decode (tb_me 95).1.2.1 98 = .ok (.aload_n 0, 1) := by decide +kernel
theorem d95_99 : decode (tb_me 95).1.2.1 99 = .ok (.bipush (-13), 2) := by decide +kernel
theorem d95_101 : decode (tb_me 95).1.2.1 101 = .ok (.invokevirtual 60, 3) := by decide +kernel
theorem d95_75 : decode (tb_me 95).1.2.1 75 = .ok (.iconst 1, 1) := by decide +kernel
theorem d95_76 : decode (tb_me 95).1.2.1 76 = .ok (.goto 4, 3) := by decide +kernel
theorem d95_66 : decode (tb_me 95).1.2.1 66 = .ok (.iload_n 3, 1) := by decide +kernel
theorem d95_67 : decode (tb_me 95).1.2.1 67 = .ok (.ifCond .ne 8, 3) := by decide +kernel
theorem d95_70 : decode (tb_me 95).1.2.1 70 = .ok (.iload 6, 2) := by decide +kernel
theorem d95_72 : decode (tb_me 95).1.2.1 72 = .ok (.ifCond .ne 7, 3) := by decide +kernel
theorem d95_79 : decode (tb_me 95).1.2.1 79 = .ok (.iconst 0, 1) := by decide +kernel
theorem d95_51 : decode (tb_me 95).1.2.1 51 = .ok (.iload 6, 2) := by decide +kernel
theorem d95_53 : decode (tb_me 95).1.2.1 53 = .ok (.ifCond .ne 13, 3) := by decide +kernel
theorem d95_56 : decode (tb_me 95).1.2.1 56 = .ok (.iload_n 3, 1) := by decide +kernel
theorem d95_57 : decode (tb_me 95).1.2.1 57 = .ok (.ifCond .eq 9, 3) := by decide +kernel
theorem d95_60 : decode (tb_me 95).1.2.1 60 = .ok (.aload_n 0, 1) := by decide +kernel
theorem d95_61 : decode (tb_me 95).1.2.1 61 = .ok (.bipush (-14), 2) := by decide +kernel
theorem d95_63 : decode (tb_me 95).1.2.1 63 = .ok (.invokevirtual 60, 3) := by decide +kernel
theorem d95_13 : decode (tb_me 95).1.2.1 13 = .ok (.iload 4, 2) := by decide +kernel
theorem d95_15 : decode (tb_me 95).1.2.1 15 = .ok (.ifCond .eq 95, 3) := by decide +kernel
theorem d95_18 : decode (tb_me 95).1.2.1 18 = .ok (.iload 5, 2) := by decide +kernel
theorem d95_20 : decode (tb_me 95).1.2.1 20 = .ok (.sipush 400, 3) := by decide +kernel
theorem d95_23 : decode (tb_me 95).1.2.1 23 = .ok (.if_icmp .ge 87, 3) := by decide +kernel
theorem d95_26 : decode (tb_me 95).1.2.1 26 = .ok (.aload_n 1, 1) := by decide +kernel
theorem d95_27 : decode (tb_me 95).1.2.1 27 = .ok (.ldc 74, 2) := by decide +kernel
theorem k95_74 (b : Bool) : tb_lk b 95 74 = (13, 13, 0, 0, 0) := by cases b <;> decide +kernel
theorem d95_29 : decode (tb_me 95).1.2.1 29 = .ok (.invokevirtual 36, 3) := by decide +kernel
theorem k95_36 (b : Bool) : tb_lk b 95 36 = (2, 138, 0, 0, 0) := by cases b <;> decide +kernel
theorem m138 : (tb_me 138).2 = ((0, 0), (1, 8)) ∧ (tb_me 138).1.2.2.1 = 3 := by decide +kernel
theorem d95_32 : decode (tb_me 95).1.2.1 32 = .ok (.istore 6, 2) := by decide +kernel
theorem d95_34 : decode (tb_me 95).1.2.1 34 = .ok (.iload 6, 2) := by decide +kernel
theorem d95_36 : decode (tb_me 95).1.2.1 36 = .ok (.ifCond .ne 15, 3) := by decide +kernel
theorem d95_39 : decode (tb_me 95).1.2.1 39 = .ok (.aload_n 1, 1) := by decide +kernel
theorem d95_40 : decode (tb_me 95).1.2.1 40 = .ok (.ldc 76, 2) := by decide +kernel
theorem k95_76 (b : Bool) : tb_lk b 95 76 = (13, 15, 0, 0, 0) := by cases b <;> decide +kernel
theorem d95_42 : decode (tb_me 95).1.2.1 42 = .ok (.invokevirtual 36, 3) := by decide +kernel
theorem d95_45 : decode (tb_me 95).1.2.1 45 = .ok (.ifCond .ne 6, 3) := by decide +kernel
theorem d95_0 : decode (tb_me 95).1.2.1 0 = .ok (.iconst 0, 1) := by decide +kernel
theorem d95_1 : decode (tb_me 95).1.2.1 1 = .ok (.istore_n 3, 1) := by decide +kernel
theorem d95_2 : decode (tb_me 95).1.2.1 2 = .ok (.aload_n 0, 1) := by decide +kernel
theorem d95_3 : decode (tb_me 95).1.2.1 3 = .ok (.aload_n 1, 1) := by decide +kernel
theorem d95_4 : decode (tb_me 95).1.2.1 4 = .ok (.iload_n 2, 1) := by decide +kernel
theorem d95_5 : decode (tb_me 95).1.2.1 5 = .ok (.invokevirtual 71, 3) := by decide +kernel
theorem d95_8 : decode (tb_me 95).1.2.1 8 = .ok (.istore 4, 2) := by decide +kernel
theorem d95_10 : decode (tb_me 95).1.2.1 10 = .ok (.iconst 0, 1) := by decide +kernel
theorem d95_11 : decode (tb_me 95).1.2.1 11 = .ok (.istore 5, 2) := by decide +kernel
theorem d95_48 : decode (tb_me 95).1.2.1 48 = .ok (.goto 62, 3) := by decide +kernel
theorem e95 : (tb_me 95).2.1 = (0, 0) ∧ (tb_me 95).1.2.2.1 = 7 := by decide +kernel
theorem d99_105 : decode (tb_me 99).1.2.1 105 = .ok (.invokevirtual 60, 3) := by decide +kernel
theorem k99_60 (b : Bool) : tb_lk b 99 60 = (2, 101, 0, 0, 0) := by cases b <;> decide +kernel
theorem d99_108 : decode (tb_me 99).1.2.1 108 = .ok (.aload_n 1, 1) := by decide +kernel
theorem d99_109 : decode (tb_me 99).1.2.1 109 = .ok (.invokevirtual 47, 3) := by decide +kernel
theorem k99_47 (b : Bool) : tb_lk b 99 47 = (2, 136, 0, 0, 0) := by cases b <;> decide +kernel
theorem d99_112 : decode (tb_me 99).1.2.1 112 = .ok (.iconst 1, 1) := by decide +kernel
theorem d99_113 : decode (tb_me 99).1.2.1 113 = .ok (.ireturn, 1) := by decide +kernel
theorem t99 : (tb_me 99).1.2.2.2 = some .boolean := by decide +kernel
theorem d99_61 : decode (tb_me 99).1.2.1 61 = .ok (.aload_n 0, 1) := by decide +kernel
theorem d99_62 : decode (tb_me 99).1.2.1 62 = .ok (.getfield 19, 3) := by decide +kernel
theorem k99_19 (b : Bool) : tb_lk b 99 19 = (1, 6, 2, 0, 0) := by cases b <;> decide +kernel
theorem f6_2 : (2 < pm_nf tb_cl 6) ∧ tb_ft 6 2 ≠ .long ∧ pm_isR (tb_ft 6 2) = false := by decide +kernel
theorem d99_65 : decode (tb_me 99).1.2.1 65 = .ok (.bipush 60, 2) := by decide +kernel
theorem d99_67 : decode (tb_me 99).1.2.1 67 = .ok (.if_icmp .lt 13, 3) := by decide +kernel
theorem d99_80 : decode (tb_me 99).1.2.1 80 = .ok (.aload_n 0, 1) := by decide +kernel
theorem d99_81 : decode (tb_me 99).1.2.1 81 = .ok (.dup, 1) := by decide +kernel
theorem d99_82 : decode (tb_me 99).1.2.1 82 = .ok (.getfield 19, 3) := by decide +kernel
theorem d99_85 : decode (tb_me 99).1.2.1 85 = .ok (.iconst 1, 1) := by decide +kernel
theorem d99_86 : decode (tb_me 99).1.2.1 86 = .ok (.iadd, 1) := by decide +kernel
theorem d99_87 : decode (tb_me 99).1.2.1 87 = .ok (.putfield 19, 3) := by decide +kernel
theorem p99_6_2 : (2 < pm_nf tb_cl 6) ∧ tb_ft 6 2 = .int ∧ pm_fin tb_cl (tb_me 99).1.1 6 2 = true := by decide +kernel
theorem d99_90 : decode (tb_me 99).1.2.1 90 = .ok (.aload_n 0, 1) := by decide +kernel
theorem d99_91 : decode (tb_me 99).1.2.1 91 = .ok (.iload_n 2, 1) := by decide +kernel
theorem d99_92 : decode (tb_me 99).1.2.1 92 = .ok (.ifCond .eq 10, 3) := by decide +kernel
theorem d99_102 : decode (tb_me 99).1.2.1 102 = .ok (.iconst (-1), 1) := by decide +kernel
theorem d99_103 : decode (tb_me 99).1.2.1 103 = .ok (.iload_n 3, 1) := by decide +kernel
theorem d99_104 : decode (tb_me 99).1.2.1 104 = .ok (.isub, 1) := by decide +kernel
theorem d99_95 : decode (tb_me 99).1.2.1 95 = .ok (.aload_n 1, 1) := by decide +kernel
theorem d99_96 : decode (tb_me 99).1.2.1 96 = .ok (.getfield 83, 3) := by decide +kernel
theorem k99_83 (b : Bool) : tb_lk b 99 83 = (1, 8, 6, 0, 0) := by cases b <;> decide +kernel
theorem d99_99 : decode (tb_me 99).1.2.1 99 = .ok (.goto 6, 3) := by decide +kernel
theorem d99_70 : decode (tb_me 99).1.2.1 70 = .ok (.aload_n 1, 1) := by decide +kernel
theorem d99_71 : decode (tb_me 99).1.2.1 71 = .ok (.aload_n 1, 1) := by decide +kernel
theorem d99_72 : decode (tb_me 99).1.2.1 72 = .ok (.getfield 40, 3) := by decide +kernel
theorem k99_40 (b : Bool) : tb_lk b 99 40 = (1, 8, 3, 0, 0) := by cases b <;> decide +kernel
theorem d99_75 : decode (tb_me 99).1.2.1 75 = .ok (.iconst 3, 1) := by decide +kernel
theorem d99_76 : decode (tb_me 99).1.2.1 76 = .ok (.invokevirtual 43, 3) := by decide +kernel
theorem k99_43 (b : Bool) : tb_lk b 99 43 = (2, 141, 0, 0, 0) := by cases b <;> decide +kernel
theorem d99_79 : decode (tb_me 99).1.2.1 79 = .ok (.ireturn, 1) := by decide +kernel
theorem d99_39 : decode (tb_me 99).1.2.1 39 = .ok (.iload_n 2, 1) := by decide +kernel
theorem d99_40 : decode (tb_me 99).1.2.1 40 = .ok (.ifCond .eq 21, 3) := by decide +kernel
theorem d99_43 : decode (tb_me 99).1.2.1 43 = .ok (.aload_n 1, 1) := by decide +kernel
theorem d99_44 : decode (tb_me 99).1.2.1 44 = .ok (.getfield 98, 3) := by decide +kernel
theorem k99_98 (b : Bool) : tb_lk b 99 98 = (1, 8, 5, 0, 0) := by cases b <;> decide +kernel
theorem d99_47 : decode (tb_me 99).1.2.1 47 = .ok (.iconst 5, 1) := by decide +kernel
theorem d99_48 : decode (tb_me 99).1.2.1 48 = .ok (.if_icmp .le 13, 3) := by decide +kernel
theorem d99_51 : decode (tb_me 99).1.2.1 51 = .ok (.aload_n 1, 1) := by decide +kernel
theorem d99_52 : decode (tb_me 99).1.2.1 52 = .ok (.aload_n 1, 1) := by decide +kernel
theorem d99_53 : decode (tb_me 99).1.2.1 53 = .ok (.getfield 40, 3) := by decide +kernel
theorem d99_56 : decode (tb_me 99).1.2.1 56 = .ok (.iconst 1, 1) := by decide +kernel
theorem d99_57 : decode (tb_me 99).1.2.1 57 = .ok (.invokevirtual 43, 3) := by decide +kernel
theorem d99_60 : decode (tb_me 99).1.2.1 60 = .ok (.ireturn, 1) := by decide +kernel
theorem d99_13 : decode (tb_me 99).1.2.1 13 = .ok (.istore_n 2, 1) := by decide +kernel
theorem d99_14 : decode (tb_me 99).1.2.1 14 = .ok (.aload_n 1, 1) := by decide +kernel
theorem d99_15 : decode (tb_me 99).1.2.1 15 = .ok (.ldc 92, 2) := by decide +kernel
theorem k99_92 (b : Bool) : tb_lk b 99 92 = (13, 7, 0, 0, 0) := by cases b <;> decide +kernel
theorem d99_17 : decode (tb_me 99).1.2.1 17 = .ok (.invokevirtual 94, 3) := by decide +kernel
theorem k99_94 (b : Bool) : tb_lk b 99 94 = (2, 139, 0, 0, 0) := by cases b <;> decide +kernel
theorem d99_20 : decode (tb_me 99).1.2.1 20 = .ok (.istore_n 3, 1) := by decide +kernel
theorem d99_21 : decode (tb_me 99).1.2.1 21 = .ok (.iload_n 2, 1) := by decide +kernel
theorem d99_22 : decode (tb_me 99).1.2.1 22 = .ok (.ifCond .ne 17, 3) := by decide +kernel
theorem d99_25 : decode (tb_me 99).1.2.1 25 = .ok (.iload_n 3, 1) := by decide +kernel
theorem d99_26 : decode (tb_me 99).1.2.1 26 = .ok (.ifCond .ge 13, 3) := by decide +kernel
theorem d99_29 : decode (tb_me 99).1.2.1 29 = .ok (.aload_n 1, 1) := by decide +kernel
theorem d99_30 : decode (tb_me 99).1.2.1 30 = .ok (.aload_n 1, 1) := by decide +kernel
theorem d99_31 : decode (tb_me 99).1.2.1 31 = .ok (.getfield 40, 3) := by decide +kernel
theorem d99_34 : decode (tb_me 99).1.2.1 34 = .ok (.iconst 0, 1) := by decide +kernel
theorem d99_35 : decode (tb_me 99).1.2.1 35 = .ok (.invokevirtual 43, 3) := by decide +kernel
theorem d99_38 : decode (tb_me 99).1.2.1 38 = .ok (.ireturn, 1) := by decide +kernel
theorem d99_0 : decode (tb_me 99).1.2.1 0 = .ok (.aload_n 1, 1) := by decide +kernel
theorem d99_1 : decode (tb_me 99).1.2.1 1 = .ok (.getfield 64, 3) := by decide +kernel
theorem k99_64 (b : Bool) : tb_lk b 99 64 = (1, 8, 2, 0, 0) := by cases b <;> decide +kernel
theorem d99_4 : decode (tb_me 99).1.2.1 4 = .ok (.iconst 1, 1) := by decide +kernel
theorem d99_5 : decode (tb_me 99).1.2.1 5 = .ok (.if_icmp .ne 7, 3) := by decide +kernel
theorem d99_12 : decode (tb_me 99).1.2.1 12 = .ok (.iconst 0, 1) := by decide +kernel
theorem d99_8 : decode (tb_me 99).1.2.1 8 = .ok (.iconst 1, 1) := by decide +kernel
theorem d99_9 : decode (tb_me 99).1.2.1 9 = .ok (.goto 4, 3) := by decide +kernel
theorem e99 : (tb_me 99).2.1 = (0, 0) ∧ (tb_me 99).1.2.2.1 = 4 := by decide +kernel
theorem d106_0 : decode (tb_me 106).1.2.1 0 = .ok (.aload_n 1, 1) := by decide +kernel
theorem d106_1 : decode (tb_me 106).1.2.1 1 = .ok (.iload_n 3, 1) := by decide +kernel
theorem d106_2 : decode (tb_me 106).1.2.1 2 = .ok (.invokevirtual 115, 3) := by decide +kernel
theorem k106_115 (b : Bool) : tb_lk b 106 115 = (2, 112, 0, 0, 0) := by cases b <;> decide +kernel
theorem m112 : (tb_me 112).2 = ((0, 0), (1, 7)) ∧ (tb_me 112).1.2.2.1 = 2 := by decide +kernel
theorem d106_5 : decode (tb_me 106).1.2.1 5 = .ok (.ifCond .ne 5, 3) := by decide +kernel
theorem d106_10 : decode (tb_me 106).1.2.1 10 = .ok (.iload_n 0, 1) := by decide +kernel
theorem d106_11 : decode (tb_me 106).1.2.1 11 = .ok (.tableswitch 149 (-11) (-1) #[139, 127, 119, 111, 103, 88, 82, 76, 68, 60, 57], 57) := by decide +kernel
theorem d106_150 : decode (tb_me 106).1.2.1 150 = .ok (.aload_n 2, 1) := by decide +kernel
theorem d106_151 : decode (tb_me 106).1.2.1 151 = .ok (.aload_n 1, 1) := by decide +kernel
theorem d106_152 : decode (tb_me 106).1.2.1 152 = .ok (.invokevirtual 157, 3) := by decide +kernel
theorem k106_157 (b : Bool) : tb_lk b 106 157 = (2, 79, 0, 0, 0) := by cases b <;> decide +kernel
theorem d106_155 : decode (tb_me 106).1.2.1 155 = .ok (.invokestatic 137, 3) := by decide +kernel
theorem k106_137 (b : Bool) : tb_lk b 106 137 = (4, 259, 0, 0, 0) := by cases b <;> decide +kernel
theorem d106_158 : decode (tb_me 106).1.2.1 158 = .ok (.i2l, 1) := by decide +kernel
theorem d106_159 : decode (tb_me 106).1.2.1 159 = .ok (.lreturn, 1) := by decide +kernel
theorem t106 : (tb_me 106).1.2.2.2 = some .long := by decide +kernel
theorem d106_138 : decode (tb_me 106).1.2.1 138 = .ok (.aload_n 1, 1) := by decide +kernel
theorem d106_139 : decode (tb_me 106).1.2.1 139 = .ok (.aload_n 1, 1) := by decide +kernel
theorem d106_140 : decode (tb_me 106).1.2.1 140 = .ok (.getfield 120, 3) := by decide +kernel
theorem k106_120 (b : Bool) : tb_lk b 106 120 = (1, 7, 4, 0, 0) := by cases b <;> decide +kernel
theorem d106_143 : decode (tb_me 106).1.2.1 143 = .ok (.iload_n 3, 1) := by decide +kernel
theorem d106_144 : decode (tb_me 106).1.2.1 144 = .ok (.iaload, 1) := by decide +kernel
theorem d106_145 : decode (tb_me 106).1.2.1 145 = .ok (.invokestatic 153, 3) := by decide +kernel
theorem k106_153 (b : Bool) : tb_lk b 106 153 = (4, 108, 0, 0, 0) := by cases b <;> decide +kernel
theorem m108 : (tb_me 108).2 = ((0, 0), (2, 999)) ∧ (tb_me 108).1.2.2.1 = 5 := by decide +kernel
theorem d106_148 : decode (tb_me 106).1.2.1 148 = .ok (.i2l, 1) := by decide +kernel
theorem d106_149 : decode (tb_me 106).1.2.1 149 = .ok (.lreturn, 1) := by decide +kernel
theorem d106_130 : decode (tb_me 106).1.2.1 130 = .ok (.aload_n 1, 1) := by decide +kernel
theorem d106_131 : decode (tb_me 106).1.2.1 131 = .ok (.aload_n 2, 1) := by decide +kernel
theorem d106_132 : decode (tb_me 106).1.2.1 132 = .ok (.iload_n 3, 1) := by decide +kernel
theorem d106_133 : decode (tb_me 106).1.2.1 133 = .ok (.invokestatic 149, 3) := by decide +kernel
theorem k106_149 (b : Bool) : tb_lk b 106 149 = (4, 107, 0, 0, 0) := by cases b <;> decide +kernel
theorem m107 : (tb_me 107).2 = ((0, 0), (3, 999)) ∧ (tb_me 107).1.2.2.1 = 6 := by decide +kernel
theorem d106_136 : decode (tb_me 106).1.2.1 136 = .ok (.i2l, 1) := by decide +kernel
theorem d106_137 : decode (tb_me 106).1.2.1 137 = .ok (.lreturn, 1) := by decide +kernel
theorem d106_122 : decode (tb_me 106).1.2.1 122 = .ok (.aload_n 2, 1) := by decide +kernel
theorem d106_123 : decode (tb_me 106).1.2.1 123 = .ok (.getfield 146, 3) := by decide +kernel
theorem k106_146 (b : Bool) : tb_lk b 106 146 = (1, 3, 6, 0, 0) := by cases b <;> decide +kernel
theorem d106_126 : decode (tb_me 106).1.2.1 126 = .ok (.iload_n 3, 1) := by decide +kernel
theorem d106_127 : decode (tb_me 106).1.2.1 127 = .ok (.iaload, 1) := by decide +kernel
theorem d106_128 : decode (tb_me 106).1.2.1 128 = .ok (.i2l, 1) := by decide +kernel
theorem d106_129 : decode (tb_me 106).1.2.1 129 = .ok (.lreturn, 1) := by decide +kernel
theorem d106_114 : decode (tb_me 106).1.2.1 114 = .ok (.aload_n 2, 1) := by decide +kernel
theorem d106_115 : decode (tb_me 106).1.2.1 115 = .ok (.getfield 143, 3) := by decide +kernel
theorem k106_143 (b : Bool) : tb_lk b 106 143 = (1, 3, 5, 0, 0) := by cases b <;> decide +kernel
theorem d106_118 : decode (tb_me 106).1.2.1 118 = .ok (.iload_n 3, 1) := by decide +kernel
theorem d106_119 : decode (tb_me 106).1.2.1 119 = .ok (.iaload, 1) := by decide +kernel
theorem d106_120 : decode (tb_me 106).1.2.1 120 = .ok (.i2l, 1) := by decide +kernel
theorem d106_121 : decode (tb_me 106).1.2.1 121 = .ok (.lreturn, 1) := by decide +kernel
theorem d106_99 : decode (tb_me 106).1.2.1 99 = .ok (.aload_n 2, 1) := by decide +kernel
theorem d106_100 : decode (tb_me 106).1.2.1 100 = .ok (.getfield 134, 3) := by decide +kernel
theorem k106_134 (b : Bool) : tb_lk b 106 134 = (1, 3, 0, 0, 0) := by cases b <;> decide +kernel
theorem d106_103 : decode (tb_me 106).1.2.1 103 = .ok (.iconst 1, 1) := by decide +kernel
theorem d106_104 : decode (tb_me 106).1.2.1 104 = .ok (.iload_n 3, 1) := by decide +kernel
theorem d106_105 : decode (tb_me 106).1.2.1 105 = .ok (.ishl, 1) := by decide +kernel
theorem d106_106 : decode (tb_me 106).1.2.1 106 = .ok (.iconst (-1), 1) := by decide +kernel
theorem d106_107 : decode (tb_me 106).1.2.1 107 = .ok (.ixor, 1) := by decide +kernel
theorem d106_108 : decode (tb_me 106).1.2.1 108 = .ok (.iand, 1) := by decide +kernel
theorem d106_109 : decode (tb_me 106).1.2.1 109 = .ok (.invokestatic 137, 3) := by decide +kernel
theorem d106_112 : decode (tb_me 106).1.2.1 112 = .ok (.i2l, 1) := by decide +kernel
theorem d106_113 : decode (tb_me 106).1.2.1 113 = .ok (.lreturn, 1) := by decide +kernel
theorem d106_93 : decode (tb_me 106).1.2.1 93 = .ok (.aload_n 2, 1) := by decide +kernel
theorem d106_94 : decode (tb_me 106).1.2.1 94 = .ok (.getfield 131, 3) := by decide +kernel
theorem k106_131 (b : Bool) : tb_lk b 106 131 = (1, 3, 3, 0, 0) := by cases b <;> decide +kernel
theorem d106_97 : decode (tb_me 106).1.2.1 97 = .ok (.i2l, 1) := by decide +kernel
theorem d106_98 : decode (tb_me 106).1.2.1 98 = .ok (.lreturn, 1) := by decide +kernel
theorem d106_87 : decode (tb_me 106).1.2.1 87 = .ok (.aload_n 2, 1) := by decide +kernel
theorem d106_88 : decode (tb_me 106).1.2.1 88 = .ok (.getfield 126, 3) := by decide +kernel
theorem k106_126 (b : Bool) : tb_lk b 106 126 = (1, 3, 2, 0, 0) := by cases b <;> decide +kernel
theorem d106_91 : decode (tb_me 106).1.2.1 91 = .ok (.i2l, 1) := by decide +kernel
theorem d106_92 : decode (tb_me 106).1.2.1 92 = .ok (.lreturn, 1) := by decide +kernel
theorem d106_79 : decode (tb_me 106).1.2.1 79 = .ok (.aload_n 1, 1) := by decide +kernel
theorem d106_80 : decode (tb_me 106).1.2.1 80 = .ok (.getfield 123, 3) := by decide +kernel
theorem k106_123 (b : Bool) : tb_lk b 106 123 = (1, 7, 5, 0, 0) := by cases b <;> decide +kernel
theorem d106_83 : decode (tb_me 106).1.2.1 83 = .ok (.iload_n 3, 1) := by decide +kernel
theorem d106_84 : decode (tb_me 106).1.2.1 84 = .ok (.iaload, 1) := by decide +kernel
theorem d106_85 : decode (tb_me 106).1.2.1 85 = .ok (.i2l, 1) := by decide +kernel
theorem d106_86 : decode (tb_me 106).1.2.1 86 = .ok (.lreturn, 1) := by decide +kernel
theorem d106_71 : decode (tb_me 106).1.2.1 71 = .ok (.aload_n 1, 1) := by decide +kernel
theorem d106_72 : decode (tb_me 106).1.2.1 72 = .ok (.getfield 120, 3) := by decide +kernel
theorem d106_75 : decode (tb_me 106).1.2.1 75 = .ok (.iload_n 3, 1) := by decide +kernel
theorem d106_76 : decode (tb_me 106).1.2.1 76 = .ok (.iaload, 1) := by decide +kernel
theorem d106_77 : decode (tb_me 106).1.2.1 77 = .ok (.i2l, 1) := by decide +kernel
theorem d106_78 : decode (tb_me 106).1.2.1 78 = .ok (.lreturn, 1) := by decide +kernel
theorem d106_68 : decode (tb_me 106).1.2.1 68 = .ok (.iload_n 3, 1) := by decide +kernel
theorem d106_69 : decode (tb_me 106).1.2.1 69 = .ok (.i2l, 1) := by decide +kernel
theorem d106_70 : decode (tb_me 106).1.2.1 70 = .ok (.lreturn, 1) := by decide +kernel
theorem d106_160 : decode (tb_me 106).1.2.1 160 = .ok (.lconst 0, 1) := by decide +kernel
theorem d106_161 : decode (tb_me 106).1.2.1 161 = .ok (.lreturn, 1) := by decide +kernel
theorem d106_8 : decode (tb_me 106).1.2.1 8 = .ok (.lconst 0, 1) := by decide +kernel
theorem d106_9 : decode (tb_me 106).1.2.1 9 = .ok (.lreturn, 1) := by decide +kernel
theorem e106 : (tb_me 106).2.1 = (0, 0) ∧ (tb_me 106).1.2.2.1 = 4 := by decide +kernel
theorem d98_150 : decode (tb_me 98).1.2.1 150 = .ok (.iload_n 2, 1) := by decide +kernel
theorem d98_151 : decode (tb_me 98).1.2.1 151 = .ok (.ifCond .lt 11, 3) := by decide +kernel
theorem d98_162 : decode (tb_me 98).1.2.1 162 = .ok (.iload_n 3, 1) := by decide +kernel
theorem d98_163 : decode (tb_me 98).1.2.1 163 = .ok (.ireturn, 1) := by decide +kernel
theorem t98 : (tb_me 98).1.2.2.2 = some .boolean := by decide +kernel
theorem d98_154 : decode (tb_me 98).1.2.1 154 = .ok (.aload_n 0, 1) := by decide +kernel
theorem d98_155 : decode (tb_me 98).1.2.1 155 = .ok (.bipush (-100), 2) := by decide +kernel
theorem d98_157 : decode (tb_me 98).1.2.1 157 = .ok (.iload_n 2, 1) := by decide +kernel
theorem d98_158 : decode (tb_me 98).1.2.1 158 = .ok (.isub, 1) := by decide +kernel
theorem d98_159 : decode (tb_me 98).1.2.1 159 = .ok (.invokevirtual 60, 3) := by decide +kernel
theorem k98_60 (b : Bool) : tb_lk b 98 60 = (2, 101, 0, 0, 0) := by cases b <;> decide +kernel
theorem d98_119 : decode (tb_me 98).1.2.1 119 = .ok (.istore_n 2, 1) := by decide +kernel
theorem d98_120 : decode (tb_me 98).1.2.1 120 = .ok (.aload_n 1, 1) := by decide +kernel
theorem d98_121 : decode (tb_me 98).1.2.1 121 = .ok (.invokevirtual 47, 3) := by decide +kernel
theorem k98_47 (b : Bool) : tb_lk b 98 47 = (2, 136, 0, 0, 0) := by cases b <;> decide +kernel
theorem d98_124 : decode (tb_me 98).1.2.1 124 = .ok (.aload_n 0, 1) := by decide +kernel
theorem d98_125 : decode (tb_me 98).1.2.1 125 = .ok (.aload_n 1, 1) := by decide +kernel
theorem d98_126 : decode (tb_me 98).1.2.1 126 = .ok (.invokevirtual 89, 3) := by decide +kernel
theorem k98_89 (b : Bool) : tb_lk b 98 89 = (2, 99, 0, 0, 0) := by cases b <;> decide +kernel
theorem m99 : (tb_me 99).2 = ((0, 0), (1, 6)) ∧ (tb_me 99).1.2.2.1 = 4 := by decide +kernel
theorem d98_129 : decode (tb_me 98).1.2.1 129 = .ok (.istore_n 3, 1) := by decide +kernel
theorem d98_130 : decode (tb_me 98).1.2.1 130 = .ok (.iload 6, 2) := by decide +kernel
theorem d98_132 : decode (tb_me 98).1.2.1 132 = .ok (.ifCond .eq 12, 3) := by decide +kernel
theorem d98_144 : decode (tb_me 98).1.2.1 144 = .ok (.iinc 4 1, 3) := by decide +kernel
theorem d98_147 : decode (tb_me 98).1.2.1 147 = .ok (.goto (-136), 3) := by decide +kernel
theorem d98_135 : decode (tb_me 98).1.2.1 135 = .ok (.aload_n 0, 1) := by decide +kernel
theorem d98_136 : decode (tb_me 98).1.2.1 136 = .ok (.bipush (-100), 2) := by decide +kernel
theorem d98_138 : decode (tb_me 98).1.2.1 138 = .ok (.iload 5, 2) := by decide +kernel
theorem d98_140 : decode (tb_me 98).1.2.1 140 = .ok (.isub, 1) := by decide +kernel
theorem d98_141 : decode (tb_me 98).1.2.1 141 = .ok (.invokevirtual 60, 3) := by decide +kernel
theorem d98_108 : decode (tb_me 98).1.2.1 108 = .ok (.iload 6, 2) := by decide +kernel
theorem d98_110 : decode (tb_me 98).1.2.1 110 = .ok (.ifCond .eq 7, 3) := by decide +kernel
theorem d98_117 : decode (tb_me 98).1.2.1 117 = .ok (.iload 5, 2) := by decide +kernel
theorem d98_113 : decode (tb_me 98).1.2.1 113 = .ok (.iload_n 2, 1) := by decide +kernel
theorem d98_114 : decode (tb_me 98).1.2.1 114 = .ok (.goto 5, 3) := by decide +kernel
theorem d98_91 : decode (tb_me 98).1.2.1 91 = .ok (.iload 6, 2) := by decide +kernel
theorem d98_93 : decode (tb_me 98).1.2.1 93 = .ok (.ifCond .ne 15, 3) := by decide +kernel
theorem d98_96 : decode (tb_me 98).1.2.1 96 = .ok (.iload_n 2, 1) := by decide +kernel
theorem d98_97 : decode (tb_me 98).1.2.1 97 = .ok (.ifCond .lt 11, 3) := by decide +kernel
theorem d98_100 : decode (tb_me 98).1.2.1 100 = .ok (.aload_n 0, 1) := by decide +kernel
theorem d98_101 : decode (tb_me 98).1.2.1 101 = .ok (.bipush (-100), 2) := by decide +kernel
theorem d98_103 : decode (tb_me 98).1.2.1 103 = .ok (.iload_n 2, 1) := by decide +kernel
theorem d98_104 : decode (tb_me 98).1.2.1 104 = .ok (.isub, 1) := by decide +kernel
theorem d98_105 : decode (tb_me 98).1.2.1 105 = .ok (.invokevirtual 60, 3) := by decide +kernel
theorem d98_67 : decode (tb_me 98).1.2.1 67 = .ok (.istore 6, 2) := by decide +kernel
theorem d98_69 : decode (tb_me 98).1.2.1 69 = .ok (.iload 6, 2) := by decide +kernel
theorem d98_71 : decode (tb_me 98).1.2.1 71 = .ok (.ifCond .ne 20, 3) := by decide +kernel
theorem d98_74 : decode (tb_me 98).1.2.1 74 = .ok (.iload 5, 2) := by decide +kernel
theorem d98_76 : decode (tb_me 98).1.2.1 76 = .ok (.bipush 43, 2) := by decide +kernel
theorem d98_78 : decode (tb_me 98).1.2.1 78 = .ok (.if_icmp .eq 13, 3) := by decide +kernel
theorem d98_81 : decode (tb_me 98).1.2.1 81 = .ok (.iload 5, 2) := by decide +kernel
theorem d98_83 : decode (tb_me 98).1.2.1 83 = .ok (.bipush 45, 2) := by decide +kernel
theorem d98_85 : decode (tb_me 98).1.2.1 85 = .ok (.if_icmp .eq 6, 3) := by decide +kernel
theorem d98_62 : decode (tb_me 98).1.2.1 62 = .ok (.iconst 1, 1) := by decide +kernel
theorem d98_63 : decode (tb_me 98).1.2.1 63 = .ok (.goto 4, 3) := by decide +kernel
theorem d98_39 : decode (tb_me 98).1.2.1 39 = .ok (.istore 5, 2) := by decide +kernel
theorem d98_41 : decode (tb_me 98).1.2.1 41 = .ok (.iload 5, 2) := by decide +kernel
theorem d98_43 : decode (tb_me 98).1.2.1 43 = .ok (.bipush 42, 2) := by decide +kernel
theorem d98_45 : decode (tb_me 98).1.2.1 45 = .ok (.if_icmp .eq 17, 3) := by decide +kernel
theorem d98_48 : decode (tb_me 98).1.2.1 48 = .ok (.iload 5, 2) := by decide +kernel
theorem d98_50 : decode (tb_me 98).1.2.1 50 = .ok (.bipush 47, 2) := by decide +kernel
theorem d98_52 : decode (tb_me 98).1.2.1 52 = .ok (.if_icmp .eq 10, 3) := by decide +kernel
theorem d98_55 : decode (tb_me 98).1.2.1 55 = .ok (.iload 5, 2) := by decide +kernel
theorem d98_57 : decode (tb_me 98).1.2.1 57 = .ok (.bipush 37, 2) := by decide +kernel
theorem d98_59 : decode (tb_me 98).1.2.1 59 = .ok (.if_icmp .ne 7, 3) := by decide +kernel
theorem d98_66 : decode (tb_me 98).1.2.1 66 = .ok (.iconst 0, 1) := by decide +kernel
theorem d98_11 : decode (tb_me 98).1.2.1 11 = .ok (.iload_n 3, 1) := by decide +kernel
theorem d98_12 : decode (tb_me 98).1.2.1 12 = .ok (.ifCond .eq 138, 3) := by decide +kernel
theorem d98_15 : decode (tb_me 98).1.2.1 15 = .ok (.iload 4, 2) := by decide +kernel
theorem d98_17 : decode (tb_me 98).1.2.1 17 = .ok (.sipush 400, 3) := by decide +kernel
theorem d98_20 : decode (tb_me 98).1.2.1 20 = .ok (.if_icmp .ge 130, 3) := by decide +kernel
theorem d98_23 : decode (tb_me 98).1.2.1 23 = .ok (.aload_n 1, 1) := by decide +kernel
theorem d98_24 : decode (tb_me 98).1.2.1 24 = .ok (.getfield 64, 3) := by decide +kernel
theorem k98_64 (b : Bool) : tb_lk b 98 64 = (1, 8, 2, 0, 0) := by cases b <;> decide +kernel
theorem d98_27 : decode (tb_me 98).1.2.1 27 = .ok (.iconst 3, 1) := by decide +kernel
theorem d98_28 : decode (tb_me 98).1.2.1 28 = .ok (.if_icmp .ne 10, 3) := by decide +kernel
theorem d98_38 : decode (tb_me 98).1.2.1 38 = .ok (.iconst (-1), 1) := by decide +kernel
theorem d98_31 : decode (tb_me 98).1.2.1 31 = .ok (.aload_n 1, 1) := by decide +kernel
theorem d98_32 : decode (tb_me 98).1.2.1 32 = .ok (.getfield 83, 3) := by decide +kernel
theorem k98_83 (b : Bool) : tb_lk b 98 83 = (1, 8, 6, 0, 0) := by cases b <;> decide +kernel
theorem d98_35 : decode (tb_me 98).1.2.1 35 = .ok (.goto 4, 3) := by decide +kernel
theorem d98_0 : decode (tb_me 98).1.2.1 0 = .ok (.iconst (-1), 1) := by decide +kernel
theorem d98_1 : decode (tb_me 98).1.2.1 1 = .ok (.istore_n 2, 1) := by decide +kernel
theorem d98_2 : decode (tb_me 98).1.2.1 2 = .ok (.aload_n 0, 1) := by decide +kernel
theorem d98_3 : decode (tb_me 98).1.2.1 3 = .ok (.aload_n 1, 1) := by decide +kernel
theorem d98_4 : decode (tb_me 98).1.2.1 4 = .ok (.invokevirtual 89, 3) := by decide +kernel
theorem d98_7 : decode (tb_me 98).1.2.1 7 = .ok (.istore_n 3, 1) := by decide +kernel
theorem d98_8 : decode (tb_me 98).1.2.1 8 = .ok (.iconst 0, 1) := by decide +kernel
theorem d98_9 : decode (tb_me 98).1.2.1 9 = .ok (.istore 4, 2) := by decide +kernel
theorem d98_88 : decode (tb_me 98).1.2.1 88 = .ok (.goto 62, 3) := by decide +kernel
theorem e98 : (tb_me 98).2.1 = (0, 0) ∧ (tb_me 98).1.2.2.1 = 7 := by decide +kernel
theorem d102_167 : decode (tb_me 102).1.2.1 167 = .ok (.invokevirtual 103, 3) := by decide +kernel
theorem k102_103 (b : Bool) : tb_lk b 102 103 = (2, 103, 0, 0, 0) := by cases b <;> decide +kernel
theorem m103 : (tb_me 103).2 = ((0, 0), (1, 6)) ∧ (tb_me 103).1.2.2.1 = 3 := by decide +kernel
theorem d102_170 : decode (tb_me 102).1.2.1 170 = .ok (.goto 28, 3) := by decide +kernel
theorem d102_198 : decode (tb_me 102).1.2.1 198 = .ok (.iinc 4 1, 3) := by decide +kernel
theorem d102_201 : decode (tb_me 102).1.2.1 201 = .ok (.goto (-193), 3) := by decide +kernel
theorem d102_79 : decode (tb_me 102).1.2.1 79 = .ok (.istore 6, 2) := by decide +kernel
theorem d102_81 : decode (tb_me 102).1.2.1 81 = .ok (.aload_n 0, 1) := by decide +kernel
theorem d102_82 : decode (tb_me 102).1.2.1 82 = .ok (.invokevirtual 99, 3) := by decide +kernel
theorem k102_99 (b : Bool) : tb_lk b 102 99 = (2, 104, 0, 0, 0) := by cases b <;> decide +kernel
theorem m104 : (tb_me 104).2 = ((0, 0), (0, 6)) ∧ (tb_me 104).1.2.2.1 = 1 := by decide +kernel
theorem d102_85 : decode (tb_me 102).1.2.1 85 = .ok (.lstore 7, 2) := by decide +kernel
theorem d102_87 : decode (tb_me 102).1.2.1 87 = .ok (.iload 6, 2) := by decide +kernel
theorem d102_89 : decode (tb_me 102).1.2.1 89 = .ok (.ifCond .eq 16, 3) := by decide +kernel
theorem d102_105 : decode (tb_me 102).1.2.1 105 = .ok (.goto 93, 3) := by decide +kernel
theorem d102_8 : decode (tb_me 102).1.2.1 8 = .ok (.iload 4, 2) := by decide +kernel
theorem d102_10 : decode (tb_me 102).1.2.1 10 = .ok (.aload_n 0, 1) := by decide +kernel
theorem d102_11 : decode (tb_me 102).1.2.1 11 = .ok (.getfield 15, 3) := by decide +kernel
theorem k102_15 (b : Bool) : tb_lk b 102 15 = (1, 6, 1, 0, 0) := by cases b <;> decide +kernel
theorem d102_14 : decode (tb_me 102).1.2.1 14 = .ok (.if_icmp .ge 190, 3) := by decide +kernel
theorem d102_17 : decode (tb_me 102).1.2.1 17 = .ok (.iload 4, 2) := by decide +kernel
theorem d102_19 : decode (tb_me 102).1.2.1 19 = .ok (.aload_n 0, 1) := by decide +kernel
theorem d102_20 : decode (tb_me 102).1.2.1 20 = .ok (.getfield 11, 3) := by decide +kernel
theorem k102_11 (b : Bool) : tb_lk b 102 11 = (1, 6, 0, 0, 0) := by cases b <;> decide +kernel
theorem d102_23 : decode (tb_me 102).1.2.1 23 = .ok (.arraylength, 1) := by decide +kernel
theorem d102_24 : decode (tb_me 102).1.2.1 24 = .ok (.if_icmp .ge 180, 3) := by decide +kernel
theorem d102_27 : decode (tb_me 102).1.2.1 27 = .ok (.aload_n 0, 1) := by decide +kernel
theorem d102_28 : decode (tb_me 102).1.2.1 28 = .ok (.getfield 11, 3) := by decide +kernel
theorem d102_31 : decode (tb_me 102).1.2.1 31 = .ok (.iload 4, 2) := by decide +kernel
theorem d102_33 : decode (tb_me 102).1.2.1 33 = .ok (.iaload, 1) := by decide +kernel
theorem d102_34 : decode (tb_me 102).1.2.1 34 = .ok (.istore 5, 2) := by decide +kernel
theorem d102_36 : decode (tb_me 102).1.2.1 36 = .ok (.iload 5, 2) := by decide +kernel
theorem d102_38 : decode (tb_me 102).1.2.1 38 = .ok (.bipush (-15), 2) := by decide +kernel
theorem d102_40 : decode (tb_me 102).1.2.1 40 = .ok (.if_icmp .ne 18, 3) := by decide +kernel
theorem d102_58 : decode (tb_me 102).1.2.1 58 = .ok (.iload 5, 2) := by decide +kernel
theorem d102_60 : decode (tb_me 102).1.2.1 60 = .ok (.bipush (-16), 2) := by decide +kernel
theorem d102_62 : decode (tb_me 102).1.2.1 62 = .ok (.if_icmp .ne 46, 3) := by decide +kernel
theorem d102_108 : decode (tb_me 102).1.2.1 108 = .ok (.iload 5, 2) := by decide +kernel
theorem d102_110 : decode (tb_me 102).1.2.1 110 = .ok (.ifCond .lt 13, 3) := by decide +kernel
theorem d102_123 : decode (tb_me 102).1.2.1 123 = .ok (.iload 5, 2) := by decide +kernel
theorem d102_125 : decode (tb_me 102).1.2.1 125 = .ok (.bipush (-11), 2) := by decide +kernel
theorem d102_127 : decode (tb_me 102).1.2.1 127 = .ok (.if_icmp .lt 18, 3) := by decide +kernel
theorem d102_145 : decode (tb_me 102).1.2.1 145 = .ok (.iload 5, 2) := by decide +kernel
theorem d102_147 : decode (tb_me 102).1.2.1 147 = .ok (.bipush (-12), 2) := by decide +kernel
theorem d102_149 : decode (tb_me 102).1.2.1 149 = .ok (.if_icmp .ne 24, 3) := by decide +kernel
theorem d102_173 : decode (tb_me 102).1.2.1 173 = .ok (.aload_n 0, 1) := by decide +kernel
theorem d102_174 : decode (tb_me 102).1.2.1 174 = .ok (.invokevirtual 99, 3) := by decide +kernel
theorem d102_177 : decode (tb_me 102).1.2.1 177 = .ok (.lstore 6, 2) := by decide +kernel
theorem d102_179 : decode (tb_me 102).1.2.1 179 = .ok (.aload_n 0, 1) := by decide +kernel
theorem d102_180 : decode (tb_me 102).1.2.1 180 = .ok (.invokevirtual 99, 3) := by decide +kernel
theorem d102_183 : decode (tb_me 102).1.2.1 183 = .ok (.lstore 8, 2) := by decide +kernel
theorem d102_185 : decode (tb_me 102).1.2.1 185 = .ok (.aload_n 0, 1) := by decide +kernel
theorem d102_186 : decode (tb_me 102).1.2.1 186 = .ok (.iload 5, 2) := by decide +kernel
theorem d102_188 : decode (tb_me 102).1.2.1 188 = .ok (.lload 8, 2) := by decide +kernel
theorem d102_190 : decode (tb_me 102).1.2.1 190 = .ok (.lload 6, 2) := by decide +kernel
theorem d102_192 : decode (tb_me 102).1.2.1 192 = .ok (.invokestatic 111, 3) := by decide +kernel
theorem k102_111 (b : Bool) : tb_lk b 102 111 = (4, 105, 0, 0, 0) := by cases b <;> decide +kernel
theorem m105 : (tb_me 105).2 = ((0, 0), (3, 999)) ∧ (tb_me 105).1.2.2.1 = 5 := by decide +kernel
theorem d102_195 : decode (tb_me 102).1.2.1 195 = .ok (.invokevirtual 103, 3) := by decide +kernel
theorem d102_152 : decode (tb_me 102).1.2.1 152 = .ok (.aload_n 0, 1) := by decide +kernel
theorem d102_153 : decode (tb_me 102).1.2.1 153 = .ok (.aload_n 0, 1) := by decide +kernel
theorem d102_154 : decode (tb_me 102).1.2.1 154 = .ok (.invokevirtual 99, 3) := by decide +kernel
theorem d102_157 : decode (tb_me 102).1.2.1 157 = .ok (.lconst 0, 1) := by decide +kernel
theorem d102_158 : decode (tb_me 102).1.2.1 158 = .ok (.lcmp, 1) := by decide +kernel
theorem d102_159 : decode (tb_me 102).1.2.1 159 = .ok (.ifCond .ne 7, 3) := by decide +kernel
theorem d102_166 : decode (tb_me 102).1.2.1 166 = .ok (.lconst 0, 1) := by decide +kernel
theorem d102_162 : decode (tb_me 102).1.2.1 162 = .ok (.lconst 1, 1) := by decide +kernel
theorem d102_163 : decode (tb_me 102).1.2.1 163 = .ok (.goto 4, 3) := by decide +kernel
theorem d102_130 : decode (tb_me 102).1.2.1 130 = .ok (.aload_n 0, 1) := by decide +kernel
theorem d102_131 : decode (tb_me 102).1.2.1 131 = .ok (.iload 5, 2) := by decide +kernel
theorem d102_133 : decode (tb_me 102).1.2.1 133 = .ok (.aload_n 1, 1) := by decide +kernel
theorem d102_134 : decode (tb_me 102).1.2.1 134 = .ok (.aload_n 2, 1) := by decide +kernel
theorem d102_135 : decode (tb_me 102).1.2.1 135 = .ok (.iload_n 3, 1) := by decide +kernel
theorem d102_136 : decode (tb_me 102).1.2.1 136 = .ok (.invokestatic 107, 3) := by decide +kernel
theorem k102_107 (b : Bool) : tb_lk b 102 107 = (4, 106, 0, 0, 0) := by cases b <;> decide +kernel
theorem m106 : (tb_me 106).2 = ((0, 0), (4, 999)) ∧ (tb_me 106).1.2.2.1 = 4 := by decide +kernel
theorem d102_139 : decode (tb_me 102).1.2.1 139 = .ok (.invokevirtual 103, 3) := by decide +kernel
theorem d102_142 : decode (tb_me 102).1.2.1 142 = .ok (.goto 56, 3) := by decide +kernel
theorem d102_113 : decode (tb_me 102).1.2.1 113 = .ok (.aload_n 0, 1) := by decide +kernel
theorem d102_114 : decode (tb_me 102).1.2.1 114 = .ok (.iload 5, 2) := by decide +kernel
theorem d102_116 : decode (tb_me 102).1.2.1 116 = .ok (.i2l, 1) := by decide +kernel
theorem d102_117 : decode (tb_me 102).1.2.1 117 = .ok (.invokevirtual 103, 3) := by decide +kernel
theorem d102_120 : decode (tb_me 102).1.2.1 120 = .ok (.goto 78, 3) := by decide +kernel
theorem d102_65 : decode (tb_me 102).1.2.1 65 = .ok (.aload_n 0, 1) := by decide +kernel
theorem d102_66 : decode (tb_me 102).1.2.1 66 = .ok (.invokevirtual 99, 3) := by decide +kernel
theorem d102_69 : decode (tb_me 102).1.2.1 69 = .ok (.lconst 0, 1) := by decide +kernel
theorem d102_70 : decode (tb_me 102).1.2.1 70 = .ok (.lcmp, 1) := by decide +kernel
theorem d102_71 : decode (tb_me 102).1.2.1 71 = .ok (.ifCond .eq 7, 3) := by decide +kernel
theorem d102_78 : decode (tb_me 102).1.2.1 78 = .ok (.iconst 0, 1) := by decide +kernel
theorem d102_74 : decode (tb_me 102).1.2.1 74 = .ok (.iconst 1, 1) := by decide +kernel
theorem d102_75 : decode (tb_me 102).1.2.1 75 = .ok (.goto 4, 3) := by decide +kernel
theorem d102_0 : decode (tb_me 102).1.2.1 0 = .ok (.aload_n 0, 1) := by decide +kernel
theorem d102_1 : decode (tb_me 102).1.2.1 1 = .ok (.iconst 0, 1) := by decide +kernel
theorem d102_2 : decode (tb_me 102).1.2.1 2 = .ok (.putfield 26, 3) := by decide +kernel
theorem k102_26 (b : Bool) : tb_lk b 102 26 = (1, 6, 4, 0, 0) := by cases b <;> decide +kernel
theorem p102_6_4 : (4 < pm_nf tb_cl 6) ∧ tb_ft 6 4 = .int ∧ pm_fin tb_cl (tb_me 102).1.1 6 4 = true := by decide +kernel
theorem d102_5 : decode (tb_me 102).1.2.1 5 = .ok (.iconst 0, 1) := by decide +kernel
theorem d102_6 : decode (tb_me 102).1.2.1 6 = .ok (.istore 4, 2) := by decide +kernel
theorem d102_43 : decode (tb_me 102).1.2.1 43 = .ok (.aload_n 0, 1) := by decide +kernel
theorem d102_44 : decode (tb_me 102).1.2.1 44 = .ok (.invokevirtual 99, 3) := by decide +kernel
theorem d102_47 : decode (tb_me 102).1.2.1 47 = .ok (.lconst 0, 1) := by decide +kernel
theorem d102_48 : decode (tb_me 102).1.2.1 48 = .ok (.lcmp, 1) := by decide +kernel
theorem d102_49 : decode (tb_me 102).1.2.1 49 = .ok (.ifCond .le 7, 3) := by decide +kernel
theorem d102_56 : decode (tb_me 102).1.2.1 56 = .ok (.iconst 0, 1) := by decide +kernel
theorem d102_57 : decode (tb_me 102).1.2.1 57 = .ok (.ireturn, 1) := by decide +kernel
theorem t102 : (tb_me 102).1.2.2.2 = some .boolean := by decide +kernel
theorem d102_52 : decode (tb_me 102).1.2.1 52 = .ok (.iconst 1, 1) := by decide +kernel
theorem d102_53 : decode (tb_me 102).1.2.1 53 = .ok (.goto 4, 3) := by decide +kernel
theorem d102_92 : decode (tb_me 102).1.2.1 92 = .ok (.lload 7, 2) := by decide +kernel
theorem d102_94 : decode (tb_me 102).1.2.1 94 = .ok (.lconst 0, 1) := by decide +kernel
theorem d102_95 : decode (tb_me 102).1.2.1 95 = .ok (.lcmp, 1) := by decide +kernel
theorem d102_96 : decode (tb_me 102).1.2.1 96 = .ok (.ifCond .le 7, 3) := by decide +kernel
theorem d102_103 : decode (tb_me 102).1.2.1 103 = .ok (.iconst 0, 1) := by decide +kernel
theorem d102_104 : decode (tb_me 102).1.2.1 104 = .ok (.ireturn, 1) := by decide +kernel
theorem d102_99 : decode (tb_me 102).1.2.1 99 = .ok (.iconst 1, 1) := by decide +kernel
theorem d102_100 : decode (tb_me 102).1.2.1 100 = .ok (.goto 4, 3) := by decide +kernel
theorem d102_204 : decode (tb_me 102).1.2.1 204 = .ok (.iconst 0, 1) := by decide +kernel
theorem d102_205 : decode (tb_me 102).1.2.1 205 = .ok (.ireturn, 1) := by decide +kernel
theorem e102 : (tb_me 102).2.1 = (0, 0) ∧ (tb_me 102).1.2.2.1 = 10 := by decide +kernel
theorem d96_126 : decode (tb_me 96).1.2.1 126 = .ok (.istore 5, 2) := by decide +kernel
theorem d96_128 : decode (tb_me 96).1.2.1 128 = .ok (.iload 5, 2) := by decide +kernel
theorem d96_130 : decode (tb_me 96).1.2.1 130 = .ok (.invokestatic 86, 3) := by decide +kernel
theorem k96_86 (b : Bool) : tb_lk b 96 86 = (4, 100, 0, 0, 0) := by cases b <;> decide +kernel
theorem m100 : (tb_me 100).2 = ((0, 0), (1, 999)) ∧ (tb_me 100).1.2.2.1 = 1 := by decide +kernel
theorem d96_133 : decode (tb_me 96).1.2.1 133 = .ok (.ifCond .ne 13, 3) := by decide +kernel
theorem d96_146 : decode (tb_me 96).1.2.1 146 = .ok (.aload_n 0, 1) := by decide +kernel
theorem d96_147 : decode (tb_me 96).1.2.1 147 = .ok (.getfield 19, 3) := by decide +kernel
theorem k96_19 (b : Bool) : tb_lk b 96 19 = (1, 6, 2, 0, 0) := by cases b <;> decide +kernel
theorem d96_150 : decode (tb_me 96).1.2.1 150 = .ok (.bipush 60, 2) := by decide +kernel
theorem d96_152 : decode (tb_me 96).1.2.1 152 = .ok (.if_icmp .lt 13, 3) := by decide +kernel
theorem d96_165 : decode (tb_me 96).1.2.1 165 = .ok (.aload_n 0, 1) := by decide +kernel
theorem d96_166 : decode (tb_me 96).1.2.1 166 = .ok (.dup, 1) := by decide +kernel
theorem d96_167 : decode (tb_me 96).1.2.1 167 = .ok (.getfield 19, 3) := by decide +kernel
theorem d96_170 : decode (tb_me 96).1.2.1 170 = .ok (.iconst 1, 1) := by decide +kernel
theorem d96_171 : decode (tb_me 96).1.2.1 171 = .ok (.iadd, 1) := by decide +kernel
theorem d96_172 : decode (tb_me 96).1.2.1 172 = .ok (.putfield 19, 3) := by decide +kernel
theorem p96_6_2 : (2 < pm_nf tb_cl 6) ∧ tb_ft 6 2 = .int ∧ pm_fin tb_cl (tb_me 96).1.1 6 2 = true := by decide +kernel
theorem d96_175 : decode (tb_me 96).1.2.1 175 = .ok (.aload_n 1, 1) := by decide +kernel
theorem d96_176 : decode (tb_me 96).1.2.1 176 = .ok (.invokevirtual 47, 3) := by decide +kernel
theorem k96_47 (b : Bool) : tb_lk b 96 47 = (2, 136, 0, 0, 0) := by cases b <;> decide +kernel
theorem d96_179 : decode (tb_me 96).1.2.1 179 = .ok (.aload_n 0, 1) := by decide +kernel
theorem d96_180 : decode (tb_me 96).1.2.1 180 = .ok (.aload_n 1, 1) := by decide +kernel
theorem d96_181 : decode (tb_me 96).1.2.1 181 = .ok (.invokevirtual 50, 3) := by decide +kernel
theorem k96_50 (b : Bool) : tb_lk b 96 50 = (2, 98, 0, 0, 0) := by cases b <;> decide +kernel
theorem m98 : (tb_me 98).2 = ((0, 0), (1, 6)) ∧ (tb_me 98).1.2.2.1 = 7 := by decide +kernel
theorem d96_184 : decode (tb_me 96).1.2.1 184 = .ok (.istore 6, 2) := by decide +kernel
theorem d96_186 : decode (tb_me 96).1.2.1 186 = .ok (.aload_n 0, 1) := by decide +kernel
theorem d96_187 : decode (tb_me 96).1.2.1 187 = .ok (.bipush (-100), 2) := by decide +kernel
theorem d96_189 : decode (tb_me 96).1.2.1 189 = .ok (.iload 5, 2) := by decide +kernel
theorem d96_191 : decode (tb_me 96).1.2.1 191 = .ok (.isub, 1) := by decide +kernel
theorem d96_192 : decode (tb_me 96).1.2.1 192 = .ok (.invokevirtual 60, 3) := by decide +kernel
theorem k96_60 (b : Bool) : tb_lk b 96 60 = (2, 101, 0, 0, 0) := by cases b <;> decide +kernel
theorem d96_195 : decode (tb_me 96).1.2.1 195 = .ok (.iload 6, 2) := by decide +kernel
theorem d96_197 : decode (tb_me 96).1.2.1 197 = .ok (.ireturn, 1) := by decide +kernel
theorem t96 : (tb_me 96).1.2.2.2 = some .boolean := by decide +kernel
theorem d96_155 : decode (tb_me 96).1.2.1 155 = .ok (.aload_n 1, 1) := by decide +kernel
theorem d96_156 : decode (tb_me 96).1.2.1 156 = .ok (.aload_n 1, 1) := by decide +kernel
theorem d96_157 : decode (tb_me 96).1.2.1 157 = .ok (.getfield 40, 3) := by decide +kernel
theorem k96_40 (b : Bool) : tb_lk b 96 40 = (1, 8, 3, 0, 0) := by cases b <;> decide +kernel
theorem d96_160 : decode (tb_me 96).1.2.1 160 = .ok (.iconst 3, 1) := by decide +kernel
theorem d96_161 : decode (tb_me 96).1.2.1 161 = .ok (.invokevirtual 43, 3) := by decide +kernel
theorem k96_43 (b : Bool) : tb_lk b 96 43 = (2, 141, 0, 0, 0) := by cases b <;> decide +kernel
theorem d96_164 : decode (tb_me 96).1.2.1 164 = .ok (.ireturn, 1) := by decide +kernel
theorem d96_136 : decode (tb_me 96).1.2.1 136 = .ok (.aload_n 1, 1) := by decide +kernel
theorem d96_137 : decode (tb_me 96).1.2.1 137 = .ok (.aload_n 1, 1) := by decide +kernel
theorem d96_138 : decode (tb_me 96).1.2.1 138 = .ok (.getfield 40, 3) := by decide +kernel
theorem d96_141 : decode (tb_me 96).1.2.1 141 = .ok (.iconst 0, 1) := by decide +kernel
theorem d96_142 : decode (tb_me 96).1.2.1 142 = .ok (.invokevirtual 43, 3) := by decide +kernel
theorem d96_145 : decode (tb_me 96).1.2.1 145 = .ok (.ireturn, 1) := by decide +kernel
theorem d96_40 : decode (tb_me 96).1.2.1 40 = .ok (.iload_n 3, 1) := by decide +kernel
theorem d96_41 : decode (tb_me 96).1.2.1 41 = .ok (.ifCond .eq 26, 3) := by decide +kernel
theorem d96_67 : decode (tb_me 96).1.2.1 67 = .ok (.iload 4, 2) := by decide +kernel
theorem d96_69 : decode (tb_me 96).1.2.1 69 = .ok (.ifCond .eq 31, 3) := by decide +kernel
theorem d96_100 : decode (tb_me 96).1.2.1 100 = .ok (.aload_n 0, 1) := by decide +kernel
theorem d96_101 : decode (tb_me 96).1.2.1 101 = .ok (.aload_n 1, 1) := by decide +kernel
theorem d96_102 : decode (tb_me 96).1.2.1 102 = .ok (.invokevirtual 50, 3) := by decide +kernel
theorem d96_105 : decode (tb_me 96).1.2.1 105 = .ok (.ifCond .ne 5, 3) := by decide +kernel
theorem d96_110 : decode (tb_me 96).1.2.1 110 = .ok (.aload_n 1, 1) := by decide +kernel
theorem d96_111 : decode (tb_me 96).1.2.1 111 = .ok (.getfield 64, 3) := by decide +kernel
theorem k96_64 (b : Bool) : tb_lk b 96 64 = (1, 8, 2, 0, 0) := by cases b <;> decide +kernel
theorem d96_114 : decode (tb_me 96).1.2.1 114 = .ok (.iconst 3, 1) := by decide +kernel
theorem d96_115 : decode (tb_me 96).1.2.1 115 = .ok (.if_icmp .ne 10, 3) := by decide +kernel
theorem d96_125 : decode (tb_me 96).1.2.1 125 = .ok (.iconst (-1), 1) := by decide +kernel
theorem d96_118 : decode (tb_me 96).1.2.1 118 = .ok (.aload_n 1, 1) := by decide +kernel
theorem d96_119 : decode (tb_me 96).1.2.1 119 = .ok (.getfield 83, 3) := by decide +kernel
theorem k96_83 (b : Bool) : tb_lk b 96 83 = (1, 8, 6, 0, 0) := by cases b <;> decide +kernel
theorem d96_122 : decode (tb_me 96).1.2.1 122 = .ok (.goto 4, 3) := by decide +kernel
theorem d96_108 : decode (tb_me 96).1.2.1 108 = .ok (.iconst 0, 1) := by decide +kernel
theorem d96_109 : decode (tb_me 96).1.2.1 109 = .ok (.ireturn, 1) := by decide +kernel
theorem d96_72 : decode (tb_me 96).1.2.1 72 = .ok (.aload_n 1, 1) := by decide +kernel
theorem d96_73 : decode (tb_me 96).1.2.1 73 = .ok (.invokevirtual 47, 3) := by decide +kernel
theorem d96_76 : decode (tb_me 96).1.2.1 76 = .ok (.aload_n 0, 1) := by decide +kernel
theorem d96_77 : decode (tb_me 96).1.2.1 77 = .ok (.aload_n 1, 1) := by decide +kernel
theorem d96_78 : decode (tb_me 96).1.2.1 78 = .ok (.iload_n 2, 1) := by decide +kernel
theorem d96_79 : decode (tb_me 96).1.2.1 79 = .ok (.iconst 1, 1) := by decide +kernel
theorem d96_80 : decode (tb_me 96).1.2.1 80 = .ok (.iadd, 1) := by decide +kernel
theorem d96_81 : decode (tb_me 96).1.2.1 81 = .ok (.invokevirtual 56, 3) := by decide +kernel
theorem k96_56 (b : Bool) : tb_lk b 96 56 = (2, 95, 0, 0, 0) := by cases b <;> decide +kernel
theorem m95 : (tb_me 95).2 = ((0, 0), (2, 6)) ∧ (tb_me 95).1.2.2.1 = 7 := by decide +kernel
theorem d96_84 : decode (tb_me 96).1.2.1 84 = .ok (.ifCond .eq 14, 3) := by decide +kernel
theorem d96_98 : decode (tb_me 96).1.2.1 98 = .ok (.iconst 0, 1) := by decide +kernel
theorem d96_99 : decode (tb_me 96).1.2.1 99 = .ok (.ireturn, 1) := by decide +kernel
theorem d96_87 : decode (tb_me 96).1.2.1 87 = .ok (.aload_n 1, 1) := by decide +kernel
theorem d96_88 : decode (tb_me 96).1.2.1 88 = .ok (.invokestatic 80, 3) := by decide +kernel
theorem k96_80 (b : Bool) : tb_lk b 96 80 = (4, 97, 0, 0, 0) := by cases b <;> decide +kernel
theorem m97 : (tb_me 97).2 = ((0, 0), (1, 999)) ∧ (tb_me 97).1.2.2.1 = 1 := by decide +kernel
theorem d96_91 : decode (tb_me 96).1.2.1 91 = .ok (.ifCond .eq 7, 3) := by decide +kernel
theorem d96_94 : decode (tb_me 96).1.2.1 94 = .ok (.iconst 1, 1) := by decide +kernel
theorem d96_95 : decode (tb_me 96).1.2.1 95 = .ok (.goto 4, 3) := by decide +kernel
theorem d96_44 : decode (tb_me 96).1.2.1 44 = .ok (.aload_n 1, 1) := by decide +kernel
theorem d96_45 : decode (tb_me 96).1.2.1 45 = .ok (.invokevirtual 47, 3) := by decide +kernel
theorem d96_48 : decode (tb_me 96).1.2.1 48 = .ok (.aload_n 0, 1) := by decide +kernel
theorem d96_49 : decode (tb_me 96).1.2.1 49 = .ok (.aload_n 1, 1) := by decide +kernel
theorem d96_50 : decode (tb_me 96).1.2.1 50 = .ok (.iload_n 2, 1) := by decide +kernel
theorem d96_51 : decode (tb_me 96).1.2.1 51 = .ok (.iconst 1, 1) := by decide +kernel
theorem d96_52 : decode (tb_me 96).1.2.1 52 = .ok (.iadd, 1) := by decide +kernel
theorem d96_53 : decode (tb_me 96).1.2.1 53 = .ok (.invokevirtual 71, 3) := by decide +kernel
theorem k96_71 (b : Bool) : tb_lk b 96 71 = (2, 96, 0, 0, 0) := by cases b <;> decide +kernel
theorem d96_56 : decode (tb_me 96).1.2.1 56 = .ok (.istore 5, 2) := by decide +kernel
theorem d96_58 : decode (tb_me 96).1.2.1 58 = .ok (.aload_n 0, 1) := by decide +kernel
theorem d96_59 : decode (tb_me 96).1.2.1 59 = .ok (.bipush (-12), 2) := by decide +kernel
theorem d96_61 : decode (tb_me 96).1.2.1 61 = .ok (.invokevirtual 60, 3) := by decide +kernel
theorem d96_64 : decode (tb_me 96).1.2.1 64 = .ok (.iload 5, 2) := by decide +kernel
theorem d96_66 : decode (tb_me 96).1.2.1 66 = .ok (.ireturn, 1) := by decide +kernel
theorem d96_24 : decode (tb_me 96).1.2.1 24 = .ok (.iload_n 2, 1) := by decide +kernel
theorem d96_25 : decode (tb_me 96).1.2.1 25 = .ok (.bipush 10, 2) := by decide +kernel
theorem d96_27 : decode (tb_me 96).1.2.1 27 = .ok (.if_icmp .lt 13, 3) := by decide +kernel
theorem d96_30 : decode (tb_me 96).1.2.1 30 = .ok (.aload_n 1, 1) := by decide +kernel
theorem d96_31 : decode (tb_me 96).1.2.1 31 = .ok (.aload_n 1, 1) := by decide +kernel
theorem d96_32 : decode (tb_me 96).1.2.1 32 = .ok (.getfield 40, 3) := by decide +kernel
theorem d96_35 : decode (tb_me 96).1.2.1 35 = .ok (.iconst 2, 1) := by decide +kernel
theorem d96_36 : decode (tb_me 96).1.2.1 36 = .ok (.invokevirtual 43, 3) := by decide +kernel
theorem d96_39 : decode (tb_me 96).1.2.1 39 = .ok (.ireturn, 1) := by decide +kernel
theorem d96_0 : decode (tb_me 96).1.2.1 0 = .ok (.aload_n 1, 1) := by decide +kernel
theorem d96_1 : decode (tb_me 96).1.2.1 1 = .ok (.ldc 78, 2) := by decide +kernel
theorem k96_78 (b : Bool) : tb_lk b 96 78 = (13, 11, 0, 0, 0) := by cases b <;> decide +kernel
theorem d96_3 : decode (tb_me 96).1.2.1 3 = .ok (.invokevirtual 36, 3) := by decide +kernel
theorem k96_36 (b : Bool) : tb_lk b 96 36 = (2, 138, 0, 0, 0) := by cases b <;> decide +kernel
theorem d96_6 : decode (tb_me 96).1.2.1 6 = .ok (.istore_n 3, 1) := by decide +kernel
theorem d96_7 : decode (tb_me 96).1.2.1 7 = .ok (.aload_n 1, 1) := by decide +kernel
theorem d96_8 : decode (tb_me 96).1.2.1 8 = .ok (.bipush 91, 2) := by decide +kernel
theorem d96_10 : decode (tb_me 96).1.2.1 10 = .ok (.invokevirtual 67, 3) := by decide +kernel
theorem k96_67 (b : Bool) : tb_lk b 96 67 = (2, 140, 0, 0, 0) := by cases b <;> decide +kernel
theorem d96_13 : decode (tb_me 96).1.2.1 13 = .ok (.istore 4, 2) := by decide +kernel
theorem d96_15 : decode (tb_me 96).1.2.1 15 = .ok (.iload_n 3, 1) := by decide +kernel
theorem d96_16 : decode (tb_me 96).1.2.1 16 = .ok (.ifCond .ne 8, 3) := by decide +kernel
theorem d96_19 : decode (tb_me 96).1.2.1 19 = .ok (.iload 4, 2) := by decide +kernel
theorem d96_21 : decode (tb_me 96).1.2.1 21 = .ok (.ifCond .eq 19, 3) := by decide +kernel
theorem e96 : (tb_me 96).2.1 = (0, 0) ∧ (tb_me 96).1.2.2.1 = 7 := by decide +kernel
noncomputable def u_readClosing (l0 : Nat) (h : pm_H) : Option (Int32 × pm_H) := (t_isSign l0 ((Int8.ofInt 93).toInt32) h).bind fun q1 => if ¬ q1 = 0 then ((t_advance l0 h).bind fun q3 => some ((Int32.ofInt 1), q3)) else ((t_blame l0 (h.2.1 l0 3) (Int32.ofInt 0) h).bind fun q4 => if mi_bo q4.1 = true then some (q4.1, q4.2) else none)
theorem T_u_readClosing (b : Bool) (L : Nat) (xs : Nat → Int32) (d : Nat) (hd : 2 ≤ d) (h : pm_H) (s_h : h.1 = tb_SH) (l0 : Nat) (f_l0 : mi_o l0 8 = true) {r : (Int32 × pm_H)} (hm : u_readClosing l0 h = some r) : PC b L xs d 97 [(Value.ref l0)] h (fun (v0 : Option Value) (h2 : pm_H) => v0 = (some (Value.int r.1)) ∧ h2 = r.2 ∧ h2.1 = tb_SH) := by
  refine pc_in e97 (ls0 := [(Value.ref l0)]) rfl ?_
  have key : ∀ (Q : Option Value → pm_H → Prop), (r.2.1 = tb_SH → Q (some (Value.int r.1)) r.2) → PW b L xs d 97 0 0 0 [(Value.ref l0)] [] h Q := by
    intro Q hE
    rw [u_readClosing] at hm
    refine pw_l (pc := 0) d97_0 rfl rfl rfl ?_
    refine pw_s (pc := 1) d97_1 rfl rfl ?_
    obtain ⟨q1, e_q1, hm⟩ := ob_x hm
    refine pw_v (pc := 3) (k := l0) (by omega) d97_3 (k97_67 b) (by decide) m140 (by decide) rfl (sho s_h f_l0) (Nat.le_of_ble_eq_true rfl) (Nat.le_of_ble_eq_true rfl) rfl rfl (T_t_isSign b L xs (d - 1) (by omega) h s_h l0 ((Int8.ofInt 93).toInt32) f_l0 e_q1) (fun v0 h0 hq => ?_)
    obtain ⟨rfl, hh0, s_q1⟩ := hq
    rw [hh0] at s_q1 ⊢
    simp only [Option.toList_some, List.cons_append, List.nil_append]
    refine pw_zne (pc := 6) (t := 19) d97_6 (by decide) (fun c2 => ?_) (fun c2 => ?_)
    · rw [if_pos c2] at hm
      refine pw_l (pc := 19) d97_19 rfl rfl rfl ?_
      obtain ⟨q3, e_q3, hm⟩ := ob_x hm
      refine pw_v (pc := 20) (k := l0) (by omega) d97_20 (k97_47 b) (by decide) m136 (by decide) rfl (sho s_h f_l0) (Nat.le_of_ble_eq_true rfl) (Nat.le_of_ble_eq_true rfl) rfl rfl (T_t_advance b L xs (d - 1) (by omega) h s_h l0 f_l0 e_q3) (fun v0 h0 hq => ?_)
      obtain ⟨rfl, hh0, s_q3⟩ := hq
      rw [hh0] at s_q3 ⊢
      simp only [Option.toList_none, List.nil_append]
      refine pw_s (pc := 23) d97_23 rfl rfl ?_
      obtain rfl := Option.some.inj hm
      refine pw_ri (pc := 24) d97_24 t97 rfl ?_
      exact hE s_q3
    · rw [if_neg c2] at hm
      refine pw_l (pc := 9) d97_9 rfl rfl rfl ?_
      refine pw_l (pc := 10) d97_10 rfl rfl rfl ?_
      refine pw_gi (pc := 11) d97_11 (k97_40 b) (sho s_h f_l0) f8_3 ?_
      refine pw_s (pc := 14) d97_14 rfl rfl ?_
      obtain ⟨q4, e_q4, hm⟩ := ob_x hm
      refine pw_v (pc := 15) (k := l0) (by omega) d97_15 (k97_43 b) (by decide) m141 (by decide) rfl (sho s_h f_l0) (Nat.le_of_ble_eq_true rfl) (Nat.le_of_ble_eq_true rfl) rfl rfl (T_t_blame b L xs (d - 1) (by omega) h s_h l0 (h.2.1 l0 3) (Int32.ofInt 0) f_l0 e_q4) (fun v0 h0 hq => ?_)
      obtain ⟨rfl, hh0, s_q4⟩ := hq
      rw [hh0] at s_q4 ⊢
      simp only [Option.toList_some, List.cons_append, List.nil_append]
      obtain ⟨g5, hm⟩ := gd_x hm
      obtain rfl := Option.some.inj hm
      refine pw_ri (pc := 18) d97_18 t97 (pm_nz (mi_bo_x g5)) ?_
      exact hE s_q4
  exact key _ (fun q => ⟨rfl, rfl, q⟩)
noncomputable def u_compares_32 (h : pm_H) : Option Int32 := some (Int32.ofInt 1)
theorem t_u_compares_32 (b : Bool) (L : Nat) (xs : Nat → Int32) (d : Nat) (hd : 0 ≤ d) {Q : Option Value → pm_H → Prop} (h : pm_H) (s_h : h.1 = tb_SH) (w0 : Value) {r : Int32} (hm : u_compares_32 h = some r) (hE : Q (some (Value.int r)) h) : PW b L xs d 100 0 0 32 [w0] [] h Q := by
  rw [u_compares_32] at hm
  refine pw_s (pc := 32) d100_32 rfl rfl ?_
  refine pw_go (pc := 33) (t := 37) d100_33 (by decide) ?_
  obtain rfl := Option.some.inj hm
  refine pw_ri (pc := 37) d100_37 t100 rfl ?_
  exact hE
noncomputable def u_compares (l0 : Int32) (h : pm_H) : Option Int32 := if l0 = (Int8.ofInt 60).toInt32 then (u_compares_32 h) else (if l0 = (Int8.ofInt 61).toInt32 then (u_compares_32 h) else (if l0 = (Int8.ofInt 62).toInt32 then (u_compares_32 h) else (if l0 = (Int16.ofInt 316).toInt32 then (u_compares_32 h) else (if ¬ l0 = (Int16.ofInt 318).toInt32 then (some (Int32.ofInt 0)) else (u_compares_32 h)))))
theorem T_u_compares (b : Bool) (L : Nat) (xs : Nat → Int32) (d : Nat) (hd : 0 ≤ d) (h : pm_H) (s_h : h.1 = tb_SH) (l0 : Int32) {r : Int32} (hm : u_compares l0 h = some r) : PC b L xs d 100 [(Value.int l0)] h (fun (v0 : Option Value) (h2 : pm_H) => v0 = (some (Value.int r)) ∧ h2 = h ∧ h2.1 = tb_SH) := by
  refine pc_in e100 (ls0 := [(Value.int l0)]) rfl ?_
  have key : ∀ (Q : Option Value → pm_H → Prop), (Q (some (Value.int r)) h) → PW b L xs d 100 0 0 0 [(Value.int l0)] [] h Q := by
    intro Q hE
    rw [u_compares] at hm
    refine pw_l (pc := 0) d100_0 rfl rfl rfl ?_
    refine pw_s (pc := 1) d100_1 rfl rfl ?_
    refine pw_ieq (pc := 3) (t := 32) d100_3 (by decide) (fun c1 => ?_) (fun c1 => ?_)
    · rw [if_pos c1] at hm
      exact t_u_compares_32 b L xs d hd h s_h (Value.int l0)   hm hE
    · rw [if_neg c1] at hm
      refine pw_l (pc := 6) d100_6 rfl rfl rfl ?_
      refine pw_s (pc := 7) d100_7 rfl rfl ?_
      refine pw_ieq (pc := 9) (t := 32) d100_9 (by decide) (fun c2 => ?_) (fun c2 => ?_)
      · rw [if_pos c2] at hm
        exact t_u_compares_32 b L xs d hd h s_h (Value.int l0)   hm hE
      · rw [if_neg c2] at hm
        refine pw_l (pc := 12) d100_12 rfl rfl rfl ?_
        refine pw_s (pc := 13) d100_13 rfl rfl ?_
        refine pw_ieq (pc := 15) (t := 32) d100_15 (by decide) (fun c3 => ?_) (fun c3 => ?_)
        · rw [if_pos c3] at hm
          exact t_u_compares_32 b L xs d hd h s_h (Value.int l0)   hm hE
        · rw [if_neg c3] at hm
          refine pw_l (pc := 18) d100_18 rfl rfl rfl ?_
          refine pw_s (pc := 19) d100_19 rfl rfl ?_
          refine pw_ieq (pc := 22) (t := 32) d100_22 (by decide) (fun c4 => ?_) (fun c4 => ?_)
          · rw [if_pos c4] at hm
            exact t_u_compares_32 b L xs d hd h s_h (Value.int l0)   hm hE
          · rw [if_neg c4] at hm
            refine pw_l (pc := 25) d100_25 rfl rfl rfl ?_
            refine pw_s (pc := 26) d100_26 rfl rfl ?_
            refine pw_ine (pc := 29) (t := 36) d100_29 (by decide) (fun c5 => ?_) (fun c5 => ?_)
            · rw [if_pos c5] at hm
              refine pw_s (pc := 36) d100_36 rfl rfl ?_
              obtain rfl := Option.some.inj hm
              refine pw_ri (pc := 37) d100_37 t100 rfl ?_
              exact hE
            · rw [if_neg c5] at hm
              exact t_u_compares_32 b L xs d hd h s_h (Value.int l0)   hm hE
  exact key _ ⟨rfl, rfl, s_h⟩
noncomputable def u_step (l0 : Nat) (l1 : Int32) (h : pm_H) : Option pm_H := if (h.2.1 l0 1) < 0 then (some h) else ((gA h l0 0 .int).bind fun y2 => if (Int32.ofNat (mi_n y2)) ≤ (h.2.1 l0 1) then (some h) else ((gA h l0 0 .int).bind fun y4 => if mi_in (h.2.1 l0 1) (mi_n y4) = true then bd (pm_setI h y4 (h.2.1 l0 1).toNatClampNeg l1) fun h6 => bd (pm_setI h6 l0 1 ((h6.2.1 l0 1) + (Int32.ofInt 1))) fun h7 => some h7 else none))
theorem T_u_step (b : Bool) (L : Nat) (xs : Nat → Int32) (d : Nat) (hd : 0 ≤ d) (h : pm_H) (s_h : h.1 = tb_SH) (l0 : Nat) (l1 : Int32) (f_l0 : mi_o l0 6 = true) {r : pm_H} (hm : u_step l0 l1 h = some r) : PC b L xs d 101 [(Value.ref l0), (Value.int l1)] h (fun (v0 : Option Value) (h2 : pm_H) => v0 = none ∧ h2 = r ∧ h2.1 = tb_SH) := by
  refine pc_in e101 (ls0 := [(Value.ref l0), (Value.int l1)]) rfl ?_
  have key : ∀ (Q : Option Value → pm_H → Prop), (r.1 = tb_SH → Q none r) → PW b L xs d 101 0 0 0 [(Value.ref l0), (Value.int l1)] [] h Q := by
    intro Q hE
    rw [u_step] at hm
    refine pw_l (pc := 0) d101_0 rfl rfl rfl ?_
    refine pw_gi (pc := 1) d101_1 (k101_15 b) (sho s_h f_l0) f6_1 ?_
    refine pw_zlt (pc := 4) (t := 39) d101_4 (by decide) (fun c1 => ?_) (fun c1 => ?_)
    · rw [if_pos c1] at hm
      obtain rfl := Option.some.inj hm
      refine pw_rv (pc := 39) d101_39 t101 ?_
      exact hE s_h
    · rw [if_neg c1] at hm
      refine pw_l (pc := 7) d101_7 rfl rfl rfl ?_
      refine pw_gi (pc := 8) d101_8 (k101_15 b) (sho s_h f_l0) f6_1 ?_
      refine pw_l (pc := 11) d101_11 rfl rfl rfl ?_
      obtain ⟨y2, e_y2, hm⟩ := ob_x hm
      have f_y2 := gA_x e_y2
      refine pw_gr (pc := 12) d101_12 (k101_11 b) (sho s_h f_l0) f6_0 f_y2.1 ?_
      refine pw_an (pc := 15) d101_15 (sha s_h f_y2.2) ?_
      refine pw_ige (pc := 16) (t := 39) d101_16 (by decide) (fun c3 => ?_) (fun c3 => ?_)
      · rw [if_pos c3] at hm
        obtain rfl := Option.some.inj hm
        refine pw_rv (pc := 39) d101_39 t101 ?_
        exact hE s_h
      · rw [if_neg c3] at hm
        refine pw_l (pc := 19) d101_19 rfl rfl rfl ?_
        obtain ⟨y4, e_y4, hm⟩ := ob_x hm
        have f_y4 := gA_x e_y4
        refine pw_gr (pc := 20) d101_20 (k101_11 b) (sho s_h f_l0) f6_0 f_y4.1 ?_
        refine pw_l (pc := 23) d101_23 rfl rfl rfl ?_
        refine pw_gi (pc := 24) d101_24 (k101_15 b) (sho s_h f_l0) f6_1 ?_
        refine pw_l (pc := 27) d101_27 rfl rfl rfl ?_
        obtain ⟨g5, hm⟩ := gd_x hm
        refine pw_si (pc := 28) d101_28 (sha s_h f_y4.2) (mi_in_x g5) ?_
        obtain ⟨h6, e_h6, hm⟩ := bd_x hm
        rw [e_h6]
        have s_h6 : h6.1 = tb_SH := by rw [← e_h6]; exact s_h
        refine pw_l (pc := 29) d101_29 rfl rfl rfl ?_
        refine pw_s (pc := 30) d101_30 rfl rfl ?_
        refine pw_gi (pc := 31) d101_31 (k101_15 b) (sho s_h6 f_l0) f6_1 ?_
        refine pw_s (pc := 34) d101_34 rfl rfl ?_
        refine pw_s (pc := 35) d101_35 rfl rfl ?_
        refine pw_pi (pc := 36) d101_36 (k101_15 b) (sho s_h6 f_l0) p101_6_1 ?_
        obtain ⟨h7, e_h7, hm⟩ := bd_x hm
        rw [e_h7]
        have s_h7 : h7.1 = tb_SH := by rw [← e_h7]; exact s_h6
        obtain rfl := Option.some.inj hm
        refine pw_rv (pc := 39) d101_39 t101 ?_
        exact hE s_h7
  exact key _ (fun q => ⟨rfl, rfl, q⟩)
noncomputable def u_push (l0 : Nat) (l1 : Int64) (h : pm_H) : Option pm_H := if (h.2.1 l0 4) < 0 then (some h) else ((gA h l0 3 .long).bind fun y2 => if (Int32.ofNat (mi_n y2)) ≤ (h.2.1 l0 4) then (some h) else ((gA h l0 3 .long).bind fun y4 => if mi_in (h.2.1 l0 4) (mi_n y4) = true then bd (pm_setL h y4 (h.2.1 l0 4).toNatClampNeg l1) fun h6 => bd (pm_setI h6 l0 4 ((h6.2.1 l0 4) + (Int32.ofInt 1))) fun h7 => some h7 else none))
theorem T_u_push (b : Bool) (L : Nat) (xs : Nat → Int32) (d : Nat) (hd : 0 ≤ d) (h : pm_H) (s_h : h.1 = tb_SH) (l0 : Nat) (l1 : Int64) (f_l0 : mi_o l0 6 = true) {r : pm_H} (hm : u_push l0 l1 h = some r) : PC b L xs d 103 [(Value.ref l0), (Value.long l1)] h (fun (v0 : Option Value) (h2 : pm_H) => v0 = none ∧ h2 = r ∧ h2.1 = tb_SH) := by
  refine pc_in e103 (ls0 := [(Value.ref l0), (Value.long l1), Value.retAddr 0]) rfl ?_
  have key : ∀ (Q : Option Value → pm_H → Prop), (r.1 = tb_SH → Q none r) → PW b L xs d 103 0 0 0 [(Value.ref l0), (Value.long l1), Value.retAddr 0] [] h Q := by
    intro Q hE
    rw [u_push] at hm
    refine pw_l (pc := 0) d103_0 rfl rfl rfl ?_
    refine pw_gi (pc := 1) d103_1 (k103_26 b) (sho s_h f_l0) f6_4 ?_
    refine pw_zlt (pc := 4) (t := 39) d103_4 (by decide) (fun c1 => ?_) (fun c1 => ?_)
    · rw [if_pos c1] at hm
      obtain rfl := Option.some.inj hm
      refine pw_rv (pc := 39) d103_39 t103 ?_
      exact hE s_h
    · rw [if_neg c1] at hm
      refine pw_l (pc := 7) d103_7 rfl rfl rfl ?_
      refine pw_gi (pc := 8) d103_8 (k103_26 b) (sho s_h f_l0) f6_4 ?_
      refine pw_l (pc := 11) d103_11 rfl rfl rfl ?_
      obtain ⟨y2, e_y2, hm⟩ := ob_x hm
      have f_y2 := gA_x e_y2
      refine pw_gr (pc := 12) d103_12 (k103_22 b) (sho s_h f_l0) f6_3 f_y2.1 ?_
      refine pw_an (pc := 15) d103_15 (sha s_h f_y2.2) ?_
      refine pw_ige (pc := 16) (t := 39) d103_16 (by decide) (fun c3 => ?_) (fun c3 => ?_)
      · rw [if_pos c3] at hm
        obtain rfl := Option.some.inj hm
        refine pw_rv (pc := 39) d103_39 t103 ?_
        exact hE s_h
      · rw [if_neg c3] at hm
        refine pw_l (pc := 19) d103_19 rfl rfl rfl ?_
        obtain ⟨y4, e_y4, hm⟩ := ob_x hm
        have f_y4 := gA_x e_y4
        refine pw_gr (pc := 20) d103_20 (k103_22 b) (sho s_h f_l0) f6_3 f_y4.1 ?_
        refine pw_l (pc := 23) d103_23 rfl rfl rfl ?_
        refine pw_gi (pc := 24) d103_24 (k103_26 b) (sho s_h f_l0) f6_4 ?_
        refine pw_l (pc := 27) d103_27 rfl rfl rfl ?_
        obtain ⟨g5, hm⟩ := gd_x hm
        refine pw_sl (pc := 28) d103_28 (sha s_h f_y4.2) (mi_in_x g5) ?_
        obtain ⟨h6, e_h6, hm⟩ := bd_x hm
        rw [e_h6]
        have s_h6 : h6.1 = tb_SH := by rw [← e_h6]; exact s_h
        refine pw_l (pc := 29) d103_29 rfl rfl rfl ?_
        refine pw_s (pc := 30) d103_30 rfl rfl ?_
        refine pw_gi (pc := 31) d103_31 (k103_26 b) (sho s_h6 f_l0) f6_4 ?_
        refine pw_s (pc := 34) d103_34 rfl rfl ?_
        refine pw_s (pc := 35) d103_35 rfl rfl ?_
        refine pw_pi (pc := 36) d103_36 (k103_26 b) (sho s_h6 f_l0) p103_6_4 ?_
        obtain ⟨h7, e_h7, hm⟩ := bd_x hm
        rw [e_h7]
        have s_h7 : h7.1 = tb_SH := by rw [← e_h7]; exact s_h6
        obtain rfl := Option.some.inj hm
        refine pw_rv (pc := 39) d103_39 t103 ?_
        exact hE s_h7
  exact key _ (fun q => ⟨rfl, rfl, q⟩)
noncomputable def u_pop_20 (h : pm_H) : Option (Int64 × pm_H) := some ((Int64.ofNat 0), h)
theorem t_u_pop_20 (b : Bool) (L : Nat) (xs : Nat → Int32) (d : Nat) (hd : 0 ≤ d) {Q : Option Value → pm_H → Prop} (h : pm_H) (s_h : h.1 = tb_SH) (w0 : Value) {r : (Int64 × pm_H)} (hm : u_pop_20 h = some r) (hE : r.2.1 = tb_SH → Q (some (Value.long r.1)) r.2) : PW b L xs d 104 0 0 20 [w0] [] h Q := by
  rw [u_pop_20] at hm
  refine pw_s (pc := 20) d104_20 rfl rfl ?_
  obtain rfl := Option.some.inj hm
  refine pw_rl (pc := 21) d104_21 t104 ?_
  exact hE s_h
noncomputable def u_pop (l0 : Nat) (h : pm_H) : Option (Int64 × pm_H) := if (h.2.1 l0 4) < (Int32.ofInt 1) then (u_pop_20 h) else ((gA h l0 3 .long).bind fun y2 => if (h.2.1 l0 4) ≤ (Int32.ofNat (mi_n y2)) then (bd (pm_setI h l0 4 ((h.2.1 l0 4) - (Int32.ofInt 1))) fun h4 => (gA h4 l0 3 .long).bind fun y5 => if mi_in (h4.2.1 l0 4) (mi_n y5) = true then some ((h4.2.2.1 y5 (h4.2.1 l0 4).toNatClampNeg), h4) else none) else (u_pop_20 h))
theorem T_u_pop (b : Bool) (L : Nat) (xs : Nat → Int32) (d : Nat) (hd : 0 ≤ d) (h : pm_H) (s_h : h.1 = tb_SH) (l0 : Nat) (f_l0 : mi_o l0 6 = true) {r : (Int64 × pm_H)} (hm : u_pop l0 h = some r) : PC b L xs d 104 [(Value.ref l0)] h (fun (v0 : Option Value) (h2 : pm_H) => v0 = (some (Value.long r.1)) ∧ h2 = r.2 ∧ h2.1 = tb_SH) := by
  refine pc_in e104 (ls0 := [(Value.ref l0)]) rfl ?_
  have key : ∀ (Q : Option Value → pm_H → Prop), (r.2.1 = tb_SH → Q (some (Value.long r.1)) r.2) → PW b L xs d 104 0 0 0 [(Value.ref l0)] [] h Q := by
    intro Q hE
    rw [u_pop] at hm
    refine pw_l (pc := 0) d104_0 rfl rfl rfl ?_
    refine pw_gi (pc := 1) d104_1 (k104_26 b) (sho s_h f_l0) f6_4 ?_
    refine pw_s (pc := 4) d104_4 rfl rfl ?_
    refine pw_ilt (pc := 5) (t := 20) d104_5 (by decide) (fun c1 => ?_) (fun c1 => ?_)
    · rw [if_pos c1] at hm
      exact t_u_pop_20 b L xs d hd h s_h (Value.ref l0)   hm hE
    · rw [if_neg c1] at hm
      refine pw_l (pc := 8) d104_8 rfl rfl rfl ?_
      refine pw_gi (pc := 9) d104_9 (k104_26 b) (sho s_h f_l0) f6_4 ?_
      refine pw_l (pc := 12) d104_12 rfl rfl rfl ?_
      obtain ⟨y2, e_y2, hm⟩ := ob_x hm
      have f_y2 := gA_x e_y2
      refine pw_gr (pc := 13) d104_13 (k104_22 b) (sho s_h f_l0) f6_3 f_y2.1 ?_
      refine pw_an (pc := 16) d104_16 (sha s_h f_y2.2) ?_
      refine pw_ile (pc := 17) (t := 22) d104_17 (by decide) (fun c3 => ?_) (fun c3 => ?_)
      · rw [if_pos c3] at hm
        refine pw_l (pc := 22) d104_22 rfl rfl rfl ?_
        refine pw_s (pc := 23) d104_23 rfl rfl ?_
        refine pw_gi (pc := 24) d104_24 (k104_26 b) (sho s_h f_l0) f6_4 ?_
        refine pw_s (pc := 27) d104_27 rfl rfl ?_
        refine pw_s (pc := 28) d104_28 rfl rfl ?_
        refine pw_pi (pc := 29) d104_29 (k104_26 b) (sho s_h f_l0) p104_6_4 ?_
        obtain ⟨h4, e_h4, hm⟩ := bd_x hm
        rw [e_h4]
        have s_h4 : h4.1 = tb_SH := by rw [← e_h4]; exact s_h
        refine pw_l (pc := 32) d104_32 rfl rfl rfl ?_
        obtain ⟨y5, e_y5, hm⟩ := ob_x hm
        have f_y5 := gA_x e_y5
        refine pw_gr (pc := 33) d104_33 (k104_22 b) (sho s_h4 f_l0) f6_3 f_y5.1 ?_
        refine pw_l (pc := 36) d104_36 rfl rfl rfl ?_
        refine pw_gi (pc := 37) d104_37 (k104_26 b) (sho s_h4 f_l0) f6_4 ?_
        obtain ⟨g6, hm⟩ := gd_x hm
        refine pw_al (pc := 40) d104_40 (sha s_h4 f_y5.2) (mi_in_x g6) ?_
        obtain rfl := Option.some.inj hm
        refine pw_rl (pc := 41) d104_41 t104 ?_
        exact hE s_h4
      · rw [if_neg c3] at hm
        exact t_u_pop_20 b L xs d hd h s_h (Value.ref l0)   hm hE
  exact key _ (fun q => ⟨rfl, rfl, q⟩)
noncomputable def u_combined_12 (l0 : Int32) (l1 : Int64) (l3 : Int64) (h : pm_H) : Option Int64 := if ¬ l0 = (Int8.ofInt (-13)).toInt32 then (some (l1 ||| l3)) else (some (l1 &&& l3))
theorem t_u_combined_12 (b : Bool) (L : Nat) (xs : Nat → Int32) (d : Nat) (hd : 0 ≤ d) {Q : Option Value → pm_H → Prop} (h : pm_H) (s_h : h.1 = tb_SH) (l0 : Int32) (l1 : Int64) (l3 : Int64) {r : Int64} (hm : u_combined_12 l0 l1 l3 h = some r) (hE : Q (some (Value.long r)) h) : PW b L xs d 105 0 0 12 [(Value.int l0), (Value.long l1), Value.retAddr 0, (Value.long l3), Value.retAddr 0] [] h Q := by
  rw [u_combined_12] at hm
  refine pw_l (pc := 12) d105_12 rfl rfl rfl ?_
  refine pw_s (pc := 13) d105_13 rfl rfl ?_
  refine pw_ine (pc := 15) (t := 24) d105_15 (by decide) (fun c1 => ?_) (fun c1 => ?_)
  · rw [if_pos c1] at hm
    refine pw_l (pc := 24) d105_24 rfl rfl rfl ?_
    refine pw_l (pc := 25) d105_25 rfl rfl rfl ?_
    refine pw_s (pc := 26) d105_26 rfl rfl ?_
    obtain rfl := Option.some.inj hm
    refine pw_rl (pc := 27) d105_27 t105 ?_
    exact hE
  · rw [if_neg c1] at hm
    refine pw_l (pc := 18) d105_18 rfl rfl rfl ?_
    refine pw_l (pc := 19) d105_19 rfl rfl rfl ?_
    refine pw_s (pc := 20) d105_20 rfl rfl ?_
    refine pw_go (pc := 21) (t := 27) d105_21 (by decide) ?_
    obtain rfl := Option.some.inj hm
    refine pw_rl (pc := 27) d105_27 t105 ?_
    exact hE
noncomputable def u_combined (l0 : Int32) (l1 : Int64) (l3 : Int64) (h : pm_H) : Option Int64 := if l0 = (Int8.ofInt (-13)).toInt32 then (u_combined_12 l0 l1 l3 h) else (if ¬ l0 = (Int8.ofInt (-14)).toInt32 then (if ((Int8.ofInt (-100)).toInt32 - l0) = (37 : Int32) then (if ¬ (lg_cmp l3 (Int64.ofNat 0)) = 0 then (if mi_nzl l3 = true then some (l1 - l1 / l3 * l3) else none) else (some (Int64.ofNat 0))) else (if ((Int8.ofInt (-100)).toInt32 - l0) = (42 : Int32) then (some (l1 * l3)) else (if ((Int8.ofInt (-100)).toInt32 - l0) = (43 : Int32) then (some (l1 + l3)) else (if ((Int8.ofInt (-100)).toInt32 - l0) = (45 : Int32) then (some (l1 - l3)) else (if ((Int8.ofInt (-100)).toInt32 - l0) = (47 : Int32) then (if ¬ (lg_cmp l3 (Int64.ofNat 0)) = 0 then (if mi_nzl l3 = true then some (l1 / l3) else none) else (some (Int64.ofNat 0))) else (if ((Int8.ofInt (-100)).toInt32 - l0) = (60 : Int32) then (if 0 ≤ (lg_cmp l1 l3) then (some (Int64.ofNat 0)) else (some (Int64.ofNat 1))) else (if ((Int8.ofInt (-100)).toInt32 - l0) = (61 : Int32) then (if ¬ (lg_cmp l1 l3) = 0 then (some (Int64.ofNat 0)) else (some (Int64.ofNat 1))) else (if ((Int8.ofInt (-100)).toInt32 - l0) = (62 : Int32) then (if (lg_cmp l1 l3) ≤ 0 then (some (Int64.ofNat 0)) else (some (Int64.ofNat 1))) else (if ((Int8.ofInt (-100)).toInt32 - l0) = (316 : Int32) then (if 0 < (lg_cmp l1 l3) then (some (Int64.ofNat 0)) else (some (Int64.ofNat 1))) else (if ((Int8.ofInt (-100)).toInt32 - l0) = (318 : Int32) then (if (lg_cmp l1 l3) < 0 then (some (Int64.ofNat 0)) else (some (Int64.ofNat 1))) else (some (Int64.ofNat 0)))))))))))) else (u_combined_12 l0 l1 l3 h))
theorem T_u_combined (b : Bool) (L : Nat) (xs : Nat → Int32) (d : Nat) (hd : 0 ≤ d) (h : pm_H) (s_h : h.1 = tb_SH) (l0 : Int32) (l1 : Int64) (l3 : Int64) {r : Int64} (hm : u_combined l0 l1 l3 h = some r) : PC b L xs d 105 [(Value.int l0), (Value.long l1), (Value.long l3)] h (fun (v0 : Option Value) (h2 : pm_H) => v0 = (some (Value.long r)) ∧ h2 = h ∧ h2.1 = tb_SH) := by
  refine pc_in e105 (ls0 := [(Value.int l0), (Value.long l1), Value.retAddr 0, (Value.long l3), Value.retAddr 0]) rfl ?_
  have key : ∀ (Q : Option Value → pm_H → Prop), (Q (some (Value.long r)) h) → PW b L xs d 105 0 0 0 [(Value.int l0), (Value.long l1), Value.retAddr 0, (Value.long l3), Value.retAddr 0] [] h Q := by
    intro Q hE
    rw [u_combined] at hm
    refine pw_l (pc := 0) d105_0 rfl rfl rfl ?_
    refine pw_s (pc := 1) d105_1 rfl rfl ?_
    refine pw_ieq (pc := 3) (t := 12) d105_3 (by decide) (fun c1 => ?_) (fun c1 => ?_)
    · rw [if_pos c1] at hm
      exact t_u_combined_12 b L xs d hd h s_h l0 l1 l3    hm hE
    · rw [if_neg c1] at hm
      refine pw_l (pc := 6) d105_6 rfl rfl rfl ?_
      refine pw_s (pc := 7) d105_7 rfl rfl ?_
      refine pw_ine (pc := 9) (t := 28) d105_9 (by decide) (fun c2 => ?_) (fun c2 => ?_)
      · rw [if_pos c2] at hm
        refine pw_s (pc := 28) d105_28 rfl rfl ?_
        refine pw_l (pc := 30) d105_30 rfl rfl rfl ?_
        refine pw_s (pc := 31) d105_31 rfl rfl ?_
        by_cases c3 : ((Int8.ofInt (-100)).toInt32 - l0) = (37 : Int32)
        · rw [if_pos c3] at hm
          refine pw_lk (u := ((Int8.ofInt (-100)).toInt32 - l0)) (pc := 32) (t := 150) d105_32 (by decide +kernel) (by rw [c3]; decide +kernel) ?_
          refine pw_l (pc := 150) d105_150 rfl rfl rfl ?_
          refine pw_s (pc := 151) d105_151 rfl rfl ?_
          refine pw_s (pc := 152) d105_152 rfl rfl ?_
          refine pw_zne (pc := 153) (t := 160) d105_153 (by decide) (fun c4 => ?_) (fun c4 => ?_)
          · rw [if_pos (show ¬ (lg_cmp l3 (Int64.ofNat 0)) = 0 from c4)] at hm
            refine pw_l (pc := 160) d105_160 rfl rfl rfl ?_
            refine pw_l (pc := 161) d105_161 rfl rfl rfl ?_
            obtain ⟨g5, hm⟩ := gd_x hm
            refine pw_lre (pc := 162) d105_162 (mi_nzl_x g5) ?_
            obtain rfl := Option.some.inj hm
            refine pw_rl (pc := 163) d105_163 t105 ?_
            exact hE
          · rw [if_neg (show ¬ (¬ (lg_cmp l3 (Int64.ofNat 0)) = 0) from c4)] at hm
            refine pw_s (pc := 156) d105_156 rfl rfl ?_
            refine pw_go (pc := 157) (t := 163) d105_157 (by decide) ?_
            obtain rfl := Option.some.inj hm
            refine pw_rl (pc := 163) d105_163 t105 ?_
            exact hE
        rw [if_neg c3] at hm
        by_cases c6 : ((Int8.ofInt (-100)).toInt32 - l0) = (42 : Int32)
        · rw [if_pos c6] at hm
          refine pw_lk (u := ((Int8.ofInt (-100)).toInt32 - l0)) (pc := 32) (t := 132) d105_32 (by decide +kernel) (by rw [c6]; decide +kernel) ?_
          refine pw_l (pc := 132) d105_132 rfl rfl rfl ?_
          refine pw_l (pc := 133) d105_133 rfl rfl rfl ?_
          refine pw_s (pc := 134) d105_134 rfl rfl ?_
          obtain rfl := Option.some.inj hm
          refine pw_rl (pc := 135) d105_135 t105 ?_
          exact hE
        rw [if_neg c6] at hm
        by_cases c7 : ((Int8.ofInt (-100)).toInt32 - l0) = (43 : Int32)
        · rw [if_pos c7] at hm
          refine pw_lk (u := ((Int8.ofInt (-100)).toInt32 - l0)) (pc := 32) (t := 124) d105_32 (by decide +kernel) (by rw [c7]; decide +kernel) ?_
          refine pw_l (pc := 124) d105_124 rfl rfl rfl ?_
          refine pw_l (pc := 125) d105_125 rfl rfl rfl ?_
          refine pw_s (pc := 126) d105_126 rfl rfl ?_
          obtain rfl := Option.some.inj hm
          refine pw_rl (pc := 127) d105_127 t105 ?_
          exact hE
        rw [if_neg c7] at hm
        by_cases c8 : ((Int8.ofInt (-100)).toInt32 - l0) = (45 : Int32)
        · rw [if_pos c8] at hm
          refine pw_lk (u := ((Int8.ofInt (-100)).toInt32 - l0)) (pc := 32) (t := 128) d105_32 (by decide +kernel) (by rw [c8]; decide +kernel) ?_
          refine pw_l (pc := 128) d105_128 rfl rfl rfl ?_
          refine pw_l (pc := 129) d105_129 rfl rfl rfl ?_
          refine pw_s (pc := 130) d105_130 rfl rfl ?_
          obtain rfl := Option.some.inj hm
          refine pw_rl (pc := 131) d105_131 t105 ?_
          exact hE
        rw [if_neg c8] at hm
        by_cases c9 : ((Int8.ofInt (-100)).toInt32 - l0) = (47 : Int32)
        · rw [if_pos c9] at hm
          refine pw_lk (u := ((Int8.ofInt (-100)).toInt32 - l0)) (pc := 32) (t := 136) d105_32 (by decide +kernel) (by rw [c9]; decide +kernel) ?_
          refine pw_l (pc := 136) d105_136 rfl rfl rfl ?_
          refine pw_s (pc := 137) d105_137 rfl rfl ?_
          refine pw_s (pc := 138) d105_138 rfl rfl ?_
          refine pw_zne (pc := 139) (t := 146) d105_139 (by decide) (fun c10 => ?_) (fun c10 => ?_)
          · rw [if_pos (show ¬ (lg_cmp l3 (Int64.ofNat 0)) = 0 from c10)] at hm
            refine pw_l (pc := 146) d105_146 rfl rfl rfl ?_
            refine pw_l (pc := 147) d105_147 rfl rfl rfl ?_
            obtain ⟨g11, hm⟩ := gd_x hm
            refine pw_ldi (pc := 148) d105_148 (mi_nzl_x g11) ?_
            obtain rfl := Option.some.inj hm
            refine pw_rl (pc := 149) d105_149 t105 ?_
            exact hE
          · rw [if_neg (show ¬ (¬ (lg_cmp l3 (Int64.ofNat 0)) = 0) from c10)] at hm
            refine pw_s (pc := 142) d105_142 rfl rfl ?_
            refine pw_go (pc := 143) (t := 149) d105_143 (by decide) ?_
            obtain rfl := Option.some.inj hm
            refine pw_rl (pc := 149) d105_149 t105 ?_
            exact hE
        rw [if_neg c9] at hm
        by_cases c12 : ((Int8.ofInt (-100)).toInt32 - l0) = (60 : Int32)
        · rw [if_pos c12] at hm
          refine pw_lk (u := ((Int8.ofInt (-100)).toInt32 - l0)) (pc := 32) (t := 164) d105_32 (by decide +kernel) (by rw [c12]; decide +kernel) ?_
          refine pw_l (pc := 164) d105_164 rfl rfl rfl ?_
          refine pw_l (pc := 165) d105_165 rfl rfl rfl ?_
          refine pw_s (pc := 166) d105_166 rfl rfl ?_
          refine pw_zge (pc := 167) (t := 174) d105_167 (by decide) (fun c13 => ?_) (fun c13 => ?_)
          · rw [if_pos (show 0 ≤ (lg_cmp l1 l3) from c13)] at hm
            refine pw_s (pc := 174) d105_174 rfl rfl ?_
            obtain rfl := Option.some.inj hm
            refine pw_rl (pc := 175) d105_175 t105 ?_
            exact hE
          · rw [if_neg (show ¬ (0 ≤ (lg_cmp l1 l3)) from c13)] at hm
            refine pw_s (pc := 170) d105_170 rfl rfl ?_
            refine pw_go (pc := 171) (t := 175) d105_171 (by decide) ?_
            obtain rfl := Option.some.inj hm
            refine pw_rl (pc := 175) d105_175 t105 ?_
            exact hE
        rw [if_neg c12] at hm
        by_cases c14 : ((Int8.ofInt (-100)).toInt32 - l0) = (61 : Int32)
        · rw [if_pos c14] at hm
          refine pw_lk (u := ((Int8.ofInt (-100)).toInt32 - l0)) (pc := 32) (t := 176) d105_32 (by decide +kernel) (by rw [c14]; decide +kernel) ?_
          refine pw_l (pc := 176) d105_176 rfl rfl rfl ?_
          refine pw_l (pc := 177) d105_177 rfl rfl rfl ?_
          refine pw_s (pc := 178) d105_178 rfl rfl ?_
          refine pw_zne (pc := 179) (t := 186) d105_179 (by decide) (fun c15 => ?_) (fun c15 => ?_)
          · rw [if_pos (show ¬ (lg_cmp l1 l3) = 0 from c15)] at hm
            refine pw_s (pc := 186) d105_186 rfl rfl ?_
            obtain rfl := Option.some.inj hm
            refine pw_rl (pc := 187) d105_187 t105 ?_
            exact hE
          · rw [if_neg (show ¬ (¬ (lg_cmp l1 l3) = 0) from c15)] at hm
            refine pw_s (pc := 182) d105_182 rfl rfl ?_
            refine pw_go (pc := 183) (t := 187) d105_183 (by decide) ?_
            obtain rfl := Option.some.inj hm
            refine pw_rl (pc := 187) d105_187 t105 ?_
            exact hE
        rw [if_neg c14] at hm
        by_cases c16 : ((Int8.ofInt (-100)).toInt32 - l0) = (62 : Int32)
        · rw [if_pos c16] at hm
          refine pw_lk (u := ((Int8.ofInt (-100)).toInt32 - l0)) (pc := 32) (t := 188) d105_32 (by decide +kernel) (by rw [c16]; decide +kernel) ?_
          refine pw_l (pc := 188) d105_188 rfl rfl rfl ?_
          refine pw_l (pc := 189) d105_189 rfl rfl rfl ?_
          refine pw_s (pc := 190) d105_190 rfl rfl ?_
          refine pw_zle (pc := 191) (t := 198) d105_191 (by decide) (fun c17 => ?_) (fun c17 => ?_)
          · rw [if_pos (show (lg_cmp l1 l3) ≤ 0 from c17)] at hm
            refine pw_s (pc := 198) d105_198 rfl rfl ?_
            obtain rfl := Option.some.inj hm
            refine pw_rl (pc := 199) d105_199 t105 ?_
            exact hE
          · rw [if_neg (show ¬ ((lg_cmp l1 l3) ≤ 0) from c17)] at hm
            refine pw_s (pc := 194) d105_194 rfl rfl ?_
            refine pw_go (pc := 195) (t := 199) d105_195 (by decide) ?_
            obtain rfl := Option.some.inj hm
            refine pw_rl (pc := 199) d105_199 t105 ?_
            exact hE
        rw [if_neg c16] at hm
        by_cases c18 : ((Int8.ofInt (-100)).toInt32 - l0) = (316 : Int32)
        · rw [if_pos c18] at hm
          refine pw_lk (u := ((Int8.ofInt (-100)).toInt32 - l0)) (pc := 32) (t := 200) d105_32 (by decide +kernel) (by rw [c18]; decide +kernel) ?_
          refine pw_l (pc := 200) d105_200 rfl rfl rfl ?_
          refine pw_l (pc := 201) d105_201 rfl rfl rfl ?_
          refine pw_s (pc := 202) d105_202 rfl rfl ?_
          refine pw_zgt (pc := 203) (t := 210) d105_203 (by decide) (fun c19 => ?_) (fun c19 => ?_)
          · rw [if_pos (show 0 < (lg_cmp l1 l3) from c19)] at hm
            refine pw_s (pc := 210) d105_210 rfl rfl ?_
            obtain rfl := Option.some.inj hm
            refine pw_rl (pc := 211) d105_211 t105 ?_
            exact hE
          · rw [if_neg (show ¬ (0 < (lg_cmp l1 l3)) from c19)] at hm
            refine pw_s (pc := 206) d105_206 rfl rfl ?_
            refine pw_go (pc := 207) (t := 211) d105_207 (by decide) ?_
            obtain rfl := Option.some.inj hm
            refine pw_rl (pc := 211) d105_211 t105 ?_
            exact hE
        rw [if_neg c18] at hm
        by_cases c20 : ((Int8.ofInt (-100)).toInt32 - l0) = (318 : Int32)
        · rw [if_pos c20] at hm
          refine pw_lk (u := ((Int8.ofInt (-100)).toInt32 - l0)) (pc := 32) (t := 212) d105_32 (by decide +kernel) (by rw [c20]; decide +kernel) ?_
          refine pw_l (pc := 212) d105_212 rfl rfl rfl ?_
          refine pw_l (pc := 213) d105_213 rfl rfl rfl ?_
          refine pw_s (pc := 214) d105_214 rfl rfl ?_
          refine pw_zlt (pc := 215) (t := 222) d105_215 (by decide) (fun c21 => ?_) (fun c21 => ?_)
          · rw [if_pos (show (lg_cmp l1 l3) < 0 from c21)] at hm
            refine pw_s (pc := 222) d105_222 rfl rfl ?_
            obtain rfl := Option.some.inj hm
            refine pw_rl (pc := 223) d105_223 t105 ?_
            exact hE
          · rw [if_neg (show ¬ ((lg_cmp l1 l3) < 0) from c21)] at hm
            refine pw_s (pc := 218) d105_218 rfl rfl ?_
            refine pw_go (pc := 219) (t := 223) d105_219 (by decide) ?_
            obtain rfl := Option.some.inj hm
            refine pw_rl (pc := 223) d105_223 t105 ?_
            exact hE
        rw [if_neg c20] at hm
        refine pw_lk (u := ((Int8.ofInt (-100)).toInt32 - l0)) (pc := 32) (t := 224) d105_32 (by decide +kernel) (by rw [mi_lk (((Int8.ofInt (-100)).toInt32 - l0)).toInt (by simp only [List.mem_cons, List.not_mem_nil, or_false, forall_eq_or_imp, forall_eq]; exact ⟨mi_ne c3 rfl, mi_ne c6 rfl, mi_ne c7 rfl, mi_ne c8 rfl, mi_ne c9 rfl, mi_ne c12 rfl, mi_ne c14 rfl, mi_ne c16 rfl, mi_ne c18 rfl, mi_ne c20 rfl⟩)]; decide) ?_
        refine pw_s (pc := 224) d105_224 rfl rfl ?_
        obtain rfl := Option.some.inj hm
        refine pw_rl (pc := 225) d105_225 t105 ?_
        exact hE
      · rw [if_neg c2] at hm
        exact t_u_combined_12 b L xs d hd h s_h l0 l1 l3    hm hE
  exact key _ ⟨rfl, rfl, s_h⟩
def E_u_others_5 (b : Bool) (L : Nat) (xs : Nat → Int32) (d : Nat) (Q : Option Value → pm_H → Prop) (h : pm_H) (l0 : Nat) (l1 : Nat) (l2 : Int32) : ((Int32 × Int32) ⊕ Int32) → Prop
  | .inl s => ∀ w5 : Value, PW b L xs d 107 0 0 5 [(Value.ref l0), (Value.ref l1), (Value.int l2), (Value.int s.1), (Value.int s.2), w5] [] h Q
  | .inr e => ∀ w0 w1 w2 w4 w5 : Value, PW b L xs d 107 0 0 67 [w0, w1, w2, (Value.int e), w4, w5] [] h Q
noncomputable def u_others_37 (l0 : Nat) (l1 : Nat) (l2 : Int32) (l3 : Int32) (l4 : Int32) (z0 : Int32) (h : pm_H) : Option ((Int32 × Int32) ⊕ Int32) := if z0 = 0 then (some (.inl (l3, (l4 + Int32.ofInt 1)))) else ((s_wordOf l0 l4 h).bind fun q2 => (s_wordOf l0 l2 h).bind fun q3 => if ¬ q2 = q3 then (some (.inl (l3, (l4 + Int32.ofInt 1)))) else (some (.inl ((l3 + Int32.ofInt 1), (l4 + Int32.ofInt 1)))))
theorem t_u_others_37 (b : Bool) (L : Nat) (xs : Nat → Int32) (d : Nat) (hd : 1 ≤ d) {Q : Option Value → pm_H → Prop} (h : pm_H) (s_h : h.1 = tb_SH) (l0 : Nat) (l1 : Nat) (l2 : Int32) (l3 : Int32) (l4 : Int32) (z0 : Int32) (w5 : Value) (f_l0 : mi_o l0 7 = true) (f_l1 : mi_o l1 3 = true) {r : ((Int32 × Int32) ⊕ Int32)} (hm : u_others_37 l0 l1 l2 l3 l4 z0 h = some r) (hE : E_u_others_5 b L xs d Q h l0 l1 l2 r) : PW b L xs d 107 0 0 37 [(Value.ref l0), (Value.ref l1), (Value.int l2), (Value.int l3), (Value.int l4), w5] [(Value.int z0)] h Q := by
  rw [u_others_37] at hm
  refine pw_t (pc := 37) d107_37 rfl rfl rfl rfl ?_
  refine pw_l (pc := 39) d107_39 rfl rfl rfl ?_
  refine pw_zeq (pc := 41) (t := 61) d107_41 (by decide) (fun c1 => ?_) (fun c1 => ?_)
  · rw [if_pos c1] at hm
    refine pw_t (pc := 61) d107_61 rfl rfl rfl rfl ?_
    refine pw_go (pc := 64) (t := 5) d107_64 (by decide) ?_
    obtain rfl := Option.some.inj hm
    exact hE   (Value.int z0)
  · rw [if_neg c1] at hm
    refine pw_l (pc := 44) d107_44 rfl rfl rfl ?_
    refine pw_l (pc := 45) d107_45 rfl rfl rfl ?_
    obtain ⟨q2, e_q2, hm⟩ := ob_x hm
    refine pw_v (pc := 47) (k := l0) (by omega) d107_47 (k107_171 b) (by decide) m115 (by decide) rfl (sho s_h f_l0) (Nat.le_of_ble_eq_true rfl) (Nat.le_of_ble_eq_true rfl) rfl rfl (T_s_wordOf b L xs (d - 1) (by omega) h s_h l0 l4 f_l0 e_q2) (fun v0 h0 hq => ?_)
    obtain ⟨rfl, hh0, s_q2⟩ := hq
    rw [hh0] at s_q2 ⊢
    simp only [Option.toList_some, List.cons_append, List.nil_append]
    refine pw_l (pc := 50) d107_50 rfl rfl rfl ?_
    refine pw_l (pc := 51) d107_51 rfl rfl rfl ?_
    obtain ⟨q3, e_q3, hm⟩ := ob_x hm
    refine pw_v (pc := 52) (k := l0) (by omega) d107_52 (k107_171 b) (by decide) m115 (by decide) rfl (sho s_h f_l0) (Nat.le_of_ble_eq_true rfl) (Nat.le_of_ble_eq_true rfl) rfl rfl (T_s_wordOf b L xs (d - 1) (by omega) h s_h l0 l2 f_l0 e_q3) (fun v0 h0 hq => ?_)
    obtain ⟨rfl, hh0, s_q3⟩ := hq
    rw [hh0] at s_q3 ⊢
    simp only [Option.toList_some, List.cons_append, List.nil_append]
    refine pw_ine (pc := 55) (t := 61) d107_55 (by decide) (fun c4 => ?_) (fun c4 => ?_)
    · rw [if_pos c4] at hm
      refine pw_t (pc := 61) d107_61 rfl rfl rfl rfl ?_
      refine pw_go (pc := 64) (t := 5) d107_64 (by decide) ?_
      obtain rfl := Option.some.inj hm
      exact hE   (Value.int z0)
    · rw [if_neg c4] at hm
      refine pw_t (pc := 58) d107_58 rfl rfl rfl rfl ?_
      refine pw_t (pc := 61) d107_61 rfl rfl rfl rfl ?_
      refine pw_go (pc := 64) (t := 5) d107_64 (by decide) ?_
      obtain rfl := Option.some.inj hm
      exact hE   (Value.int z0)
noncomputable def u_others_5 (l0 : Nat) (l1 : Nat) (l2 : Int32) (l3 : Int32) (l4 : Int32) (h : pm_H) : Option ((Int32 × Int32) ⊕ Int32) := if (h.2.1 l0 1) ≤ l4 then (some (.inr l3)) else (if l4 = l2 then (u_others_37 l0 l1 l2 l3 l4 (Int32.ofInt 0) h) else ((x_bit (h.2.1 l1 1) l4 h).bind fun q3 => if ¬ q3 = 0 then (u_others_37 l0 l1 l2 l3 l4 (Int32.ofInt 0) h) else (u_others_37 l0 l1 l2 l3 l4 (Int32.ofInt 1) h)))
theorem t_u_others_5 (b : Bool) (L : Nat) (xs : Nat → Int32) (d : Nat) (hd : 1 ≤ d) {Q : Option Value → pm_H → Prop} (h : pm_H) (s_h : h.1 = tb_SH) (l0 : Nat) (l1 : Nat) (l2 : Int32) (l3 : Int32) (l4 : Int32) (w5 : Value) (f_l0 : mi_o l0 7 = true) (f_l1 : mi_o l1 3 = true) {r : ((Int32 × Int32) ⊕ Int32)} (hm : u_others_5 l0 l1 l2 l3 l4 h = some r) (hE : E_u_others_5 b L xs d Q h l0 l1 l2 r) : PW b L xs d 107 0 0 5 [(Value.ref l0), (Value.ref l1), (Value.int l2), (Value.int l3), (Value.int l4), w5] [] h Q := by
  rw [u_others_5] at hm
  refine pw_l (pc := 5) d107_5 rfl rfl rfl ?_
  refine pw_l (pc := 7) d107_7 rfl rfl rfl ?_
  refine pw_gi (pc := 8) d107_8 (k107_161 b) (sho s_h f_l0) f7_1 ?_
  refine pw_ige (pc := 11) (t := 67) d107_11 (by decide) (fun c1 => ?_) (fun c1 => ?_)
  · rw [if_pos c1] at hm
    obtain rfl := Option.some.inj hm
    exact hE   (Value.ref l0) (Value.ref l1) (Value.int l2) (Value.int l4) w5
  · rw [if_neg c1] at hm
    refine pw_l (pc := 14) d107_14 rfl rfl rfl ?_
    refine pw_l (pc := 16) d107_16 rfl rfl rfl ?_
    refine pw_ieq (pc := 17) (t := 36) d107_17 (by decide) (fun c2 => ?_) (fun c2 => ?_)
    · rw [if_pos c2] at hm
      refine pw_s (pc := 36) d107_36 rfl rfl ?_
      exact t_u_others_37 b L xs d hd h s_h l0 l1 l2 l3 l4 (Int32.ofInt 0) w5 f_l0 f_l1  hm hE
    · rw [if_neg c2] at hm
      refine pw_l (pc := 20) d107_20 rfl rfl rfl ?_
      refine pw_gi (pc := 21) d107_21 (k107_164 b) (sho s_h f_l1) f3_1 ?_
      refine pw_l (pc := 24) d107_24 rfl rfl rfl ?_
      obtain ⟨q3, e_q3, hm⟩ := ob_x hm
      refine pw_u (pc := 26) (by omega) d107_26 (k107_167 b) (by decide) m34 (Nat.le_of_ble_eq_true rfl) (Nat.le_of_ble_eq_true rfl) (Nat.le_of_ble_eq_true rfl) rfl rfl (T_x_bit b L xs (d - 1) (by omega) h s_h (h.2.1 l1 1) l4  e_q3) (fun v0 h0 hq => ?_)
      obtain ⟨rfl, hh0, s_q3⟩ := hq
      rw [hh0] at s_q3 ⊢
      simp only [Option.toList_some, List.cons_append, List.nil_append]
      refine pw_zne (pc := 29) (t := 36) d107_29 (by decide) (fun c4 => ?_) (fun c4 => ?_)
      · rw [if_pos c4] at hm
        refine pw_s (pc := 36) d107_36 rfl rfl ?_
        exact t_u_others_37 b L xs d hd h s_h l0 l1 l2 l3 l4 (Int32.ofInt 0) w5 f_l0 f_l1  hm hE
      · rw [if_neg c4] at hm
        refine pw_s (pc := 32) d107_32 rfl rfl ?_
        refine pw_go (pc := 33) (t := 37) d107_33 (by decide) ?_
        exact t_u_others_37 b L xs d hd h s_h l0 l1 l2 l3 l4 (Int32.ofInt 1) w5 f_l0 f_l1  hm hE
noncomputable def u_others (l0 : Nat) (l1 : Nat) (l2 : Int32) (h : pm_H) : Option Int32 := (wh (fun s : (Int32 × Int32) => u_others_5 l0 l1 l2 s.1 s.2 h) ((Int32.ofInt 0), (Int32.ofInt 0))).bind fun q1 => some q1
theorem T_u_others (b : Bool) (L : Nat) (xs : Nat → Int32) (d : Nat) (hd : 1 ≤ d) (h : pm_H) (s_h : h.1 = tb_SH) (l0 : Nat) (l1 : Nat) (l2 : Int32) (f_l0 : mi_o l0 7 = true) (f_l1 : mi_o l1 3 = true) {r : Int32} (hm : u_others l0 l1 l2 h = some r) : PC b L xs d 107 [(Value.ref l0), (Value.ref l1), (Value.int l2)] h (fun (v0 : Option Value) (h2 : pm_H) => v0 = (some (Value.int r)) ∧ h2 = h ∧ h2.1 = tb_SH) := by
  refine pc_in e107 (ls0 := [(Value.ref l0), (Value.ref l1), (Value.int l2), Value.retAddr 0, Value.retAddr 0, Value.retAddr 0]) rfl ?_
  have key : ∀ (Q : Option Value → pm_H → Prop), (Q (some (Value.int r)) h) → PW b L xs d 107 0 0 0 [(Value.ref l0), (Value.ref l1), (Value.int l2), Value.retAddr 0, Value.retAddr 0, Value.retAddr 0] [] h Q := by
    intro Q hE
    rw [u_others] at hm
    refine pw_s (pc := 0) d107_0 rfl rfl ?_
    refine pw_t (pc := 1) d107_1 rfl rfl rfl rfl ?_
    refine pw_s (pc := 2) d107_2 rfl rfl ?_
    refine pw_t (pc := 3) d107_3 rfl rfl rfl rfl ?_
    obtain ⟨q1, e_q1, hm⟩ := ob_x hm
    refine wh_ind e_q1 (fun s : (Int32 × Int32) => ∀ w5 : Value, PW b L xs d 107 0 0 5 [(Value.ref l0), (Value.ref l1), (Value.int l2), (Value.int s.1), (Value.int s.2), w5] [] h Q) (fun s s2 hf ih w5 => t_u_others_5 b L xs d hd h s_h l0 l1 l2 s.1 s.2 w5 f_l0 f_l1 hf ih) (fun s hf w5 => t_u_others_5 b L xs d hd h s_h l0 l1 l2 s.1 s.2 w5 f_l0 f_l1 hf ?_)   (Value.retAddr 0)
    intro w0 w1 w2 w4 w5
    refine pw_l (pc := 67) d107_67 rfl rfl rfl ?_
    obtain rfl := Option.some.inj hm
    refine pw_ri (pc := 68) d107_68 t107 rfl ?_
    exact hE
  exact key _ ⟨rfl, rfl, s_h⟩
def E_u_greatestNeed_21 (b : Bool) (L : Nat) (xs : Nat → Int32) (d : Nat) (Q : Option Value → pm_H → Prop) (h : pm_H) (l0 : Nat) (l1 : Int32) (l3 : Int32) : ((Int32 × Int32) ⊕ Int32) → Prop
  | .inl s => PW b L xs d 108 0 0 21 [(Value.ref l0), (Value.int l1), (Value.int s.1), (Value.int l3), (Value.int s.2)] [] h Q
  | .inr e => ∀ w4 : Value, PW b L xs d 108 0 0 60 [(Value.ref l0), (Value.int l1), (Value.int e), (Value.int l3), w4] [] h Q
def E_u_greatestNeed_4 (b : Bool) (L : Nat) (xs : Nat → Int32) (d : Nat) (Q : Option Value → pm_H → Prop) (h : pm_H) (l0 : Nat) (l1 : Int32) : ((Int32 × Int32) ⊕ Int32) → Prop
  | .inl s => ∀ w4 : Value, PW b L xs d 108 0 0 4 [(Value.ref l0), (Value.int l1), (Value.int s.1), (Value.int s.2), w4] [] h Q
  | .inr e => ∀ w0 w1 w3 w4 : Value, PW b L xs d 108 0 0 66 [w0, w1, (Value.int e), w3, w4] [] h Q
noncomputable def u_greatestNeed_21 (l0 : Nat) (l1 : Int32) (l2 : Int32) (l3 : Int32) (l4 : Int32) (h : pm_H) : Option ((Int32 × Int32) ⊕ Int32) := (gA h l0 7 .int).bind fun y1 => if mi_in l3 (mi_n y1) = true then if (h.2.1 y1 l3.toNatClampNeg) ≤ l4 then (some (.inr l2)) else ((s_rowWord l0 l3 l4 h).bind fun q4 => if ¬ q4 = l1 then (some (.inl (l2, (l4 + Int32.ofInt 1)))) else ((gA h l0 6 .int).bind fun y6 => if mi_in l3 (mi_n y6) = true then some (.inl ((if l2 < (h.2.1 y6 l3.toNatClampNeg) then (h.2.1 y6 l3.toNatClampNeg) else l2), (l4 + Int32.ofInt 1))) else none)) else none
theorem t_u_greatestNeed_21 (b : Bool) (L : Nat) (xs : Nat → Int32) (d : Nat) (hd : 2 ≤ d) {Q : Option Value → pm_H → Prop} (h : pm_H) (s_h : h.1 = tb_SH) (l0 : Nat) (l1 : Int32) (l2 : Int32) (l3 : Int32) (l4 : Int32) (f_l0 : mi_o l0 7 = true) {r : ((Int32 × Int32) ⊕ Int32)} (hm : u_greatestNeed_21 l0 l1 l2 l3 l4 h = some r) (hE : E_u_greatestNeed_21 b L xs d Q h l0 l1 l3 r) : PW b L xs d 108 0 0 21 [(Value.ref l0), (Value.int l1), (Value.int l2), (Value.int l3), (Value.int l4)] [] h Q := by
  rw [u_greatestNeed_21] at hm
  refine pw_l (pc := 21) d108_21 rfl rfl rfl ?_
  refine pw_l (pc := 23) d108_23 rfl rfl rfl ?_
  obtain ⟨y1, e_y1, hm⟩ := ob_x hm
  have f_y1 := gA_x e_y1
  refine pw_gr (pc := 24) d108_24 (k108_176 b) (sho s_h f_l0) f7_7 f_y1.1 ?_
  refine pw_l (pc := 27) d108_27 rfl rfl rfl ?_
  obtain ⟨g2, hm⟩ := gd_x hm
  refine pw_ai (pc := 28) d108_28 (sha s_h f_y1.2) (mi_in_x g2) ?_
  refine pw_ige (pc := 29) (t := 60) d108_29 (by decide) (fun c3 => ?_) (fun c3 => ?_)
  · rw [if_pos c3] at hm
    obtain rfl := Option.some.inj hm
    exact hE   (Value.int l4)
  · rw [if_neg c3] at hm
    refine pw_l (pc := 32) d108_32 rfl rfl rfl ?_
    refine pw_l (pc := 33) d108_33 rfl rfl rfl ?_
    refine pw_l (pc := 34) d108_34 rfl rfl rfl ?_
    obtain ⟨q4, e_q4, hm⟩ := ob_x hm
    refine pw_v (pc := 36) (k := l0) (by omega) d108_36 (k108_179 b) (by decide) m116 (by decide) rfl (sho s_h f_l0) (Nat.le_of_ble_eq_true rfl) (Nat.le_of_ble_eq_true rfl) rfl rfl (T_s_rowWord b L xs (d - 1) (by omega) h s_h l0 l3 l4 f_l0 e_q4) (fun v0 h0 hq => ?_)
    obtain ⟨rfl, hh0, s_q4⟩ := hq
    rw [hh0] at s_q4 ⊢
    simp only [Option.toList_some, List.cons_append, List.nil_append]
    refine pw_l (pc := 39) d108_39 rfl rfl rfl ?_
    refine pw_ine (pc := 40) (t := 54) d108_40 (by decide) (fun c5 => ?_) (fun c5 => ?_)
    · rw [if_pos c5] at hm
      refine pw_t (pc := 54) d108_54 rfl rfl rfl rfl ?_
      refine pw_go (pc := 57) (t := 21) d108_57 (by decide) ?_
      obtain rfl := Option.some.inj hm
      exact hE   
    · rw [if_neg c5] at hm
      refine pw_l (pc := 43) d108_43 rfl rfl rfl ?_
      refine pw_l (pc := 44) d108_44 rfl rfl rfl ?_
      obtain ⟨y6, e_y6, hm⟩ := ob_x hm
      have f_y6 := gA_x e_y6
      refine pw_gr (pc := 45) d108_45 (k108_182 b) (sho s_h f_l0) f7_6 f_y6.1 ?_
      refine pw_l (pc := 48) d108_48 rfl rfl rfl ?_
      obtain ⟨g7, hm⟩ := gd_x hm
      refine pw_ai (pc := 49) d108_49 (sha s_h f_y6.2) (mi_in_x g7) ?_
      refine pw_mx (pc := 50) (by omega) d108_50 (k108_185 b) (Nat.le_of_ble_eq_true rfl) ?_
      refine pw_t (pc := 53) d108_53 rfl rfl rfl rfl ?_
      refine pw_t (pc := 54) d108_54 rfl rfl rfl rfl ?_
      refine pw_go (pc := 57) (t := 21) d108_57 (by decide) ?_
      obtain rfl := Option.some.inj hm
      exact hE   
noncomputable def u_greatestNeed_4 (l0 : Nat) (l1 : Int32) (l2 : Int32) (l3 : Int32) (h : pm_H) : Option ((Int32 × Int32) ⊕ Int32) := if (h.2.1 l0 2) ≤ l3 then (some (.inr l2)) else (if (Int8.ofInt 8).toInt32 ≤ l3 then (some (.inr l2)) else ((wh (fun s : (Int32 × Int32) => u_greatestNeed_21 l0 l1 s.1 l3 s.2 h) (l2, (Int32.ofInt 0))).bind fun q3 => some (.inl (q3, (l3 + Int32.ofInt 1)))))
theorem t_u_greatestNeed_4 (b : Bool) (L : Nat) (xs : Nat → Int32) (d : Nat) (hd : 2 ≤ d) {Q : Option Value → pm_H → Prop} (h : pm_H) (s_h : h.1 = tb_SH) (l0 : Nat) (l1 : Int32) (l2 : Int32) (l3 : Int32) (w4 : Value) (f_l0 : mi_o l0 7 = true) {r : ((Int32 × Int32) ⊕ Int32)} (hm : u_greatestNeed_4 l0 l1 l2 l3 h = some r) (hE : E_u_greatestNeed_4 b L xs d Q h l0 l1 r) : PW b L xs d 108 0 0 4 [(Value.ref l0), (Value.int l1), (Value.int l2), (Value.int l3), w4] [] h Q := by
  rw [u_greatestNeed_4] at hm
  refine pw_l (pc := 4) d108_4 rfl rfl rfl ?_
  refine pw_l (pc := 5) d108_5 rfl rfl rfl ?_
  refine pw_gi (pc := 6) d108_6 (k108_173 b) (sho s_h f_l0) f7_2 ?_
  refine pw_ige (pc := 9) (t := 66) d108_9 (by decide) (fun c1 => ?_) (fun c1 => ?_)
  · rw [if_pos c1] at hm
    obtain rfl := Option.some.inj hm
    exact hE   (Value.ref l0) (Value.int l1) (Value.int l3) w4
  · rw [if_neg c1] at hm
    refine pw_l (pc := 12) d108_12 rfl rfl rfl ?_
    refine pw_s (pc := 13) d108_13 rfl rfl ?_
    refine pw_ige (pc := 15) (t := 66) d108_15 (by decide) (fun c2 => ?_) (fun c2 => ?_)
    · rw [if_pos c2] at hm
      obtain rfl := Option.some.inj hm
      exact hE   (Value.ref l0) (Value.int l1) (Value.int l3) w4
    · rw [if_neg c2] at hm
      refine pw_s (pc := 18) d108_18 rfl rfl ?_
      refine pw_t (pc := 19) d108_19 rfl rfl rfl rfl ?_
      obtain ⟨q3, e_q3, hm⟩ := ob_x hm
      refine wh_ind e_q3 (fun s : (Int32 × Int32) => PW b L xs d 108 0 0 21 [(Value.ref l0), (Value.int l1), (Value.int s.1), (Value.int l3), (Value.int s.2)] [] h Q) (fun s s2 hf ih  => t_u_greatestNeed_21 b L xs d hd h s_h l0 l1 s.1 l3 s.2  f_l0 hf ih) (fun s hf  => t_u_greatestNeed_21 b L xs d hd h s_h l0 l1 s.1 l3 s.2  f_l0 hf ?_)   
      intro w4
      refine pw_t (pc := 60) d108_60 rfl rfl rfl rfl ?_
      refine pw_go (pc := 63) (t := 4) d108_63 (by decide) ?_
      obtain rfl := Option.some.inj hm
      exact hE   w4
noncomputable def u_greatestNeed (l0 : Nat) (l1 : Int32) (h : pm_H) : Option Int32 := (wh (fun s : (Int32 × Int32) => u_greatestNeed_4 l0 l1 s.1 s.2 h) ((Int32.ofInt 0), (Int32.ofInt 0))).bind fun q1 => some q1
theorem T_u_greatestNeed (b : Bool) (L : Nat) (xs : Nat → Int32) (d : Nat) (hd : 2 ≤ d) (h : pm_H) (s_h : h.1 = tb_SH) (l0 : Nat) (l1 : Int32) (f_l0 : mi_o l0 7 = true) {r : Int32} (hm : u_greatestNeed l0 l1 h = some r) : PC b L xs d 108 [(Value.ref l0), (Value.int l1)] h (fun (v0 : Option Value) (h2 : pm_H) => v0 = (some (Value.int r)) ∧ h2 = h ∧ h2.1 = tb_SH) := by
  refine pc_in e108 (ls0 := [(Value.ref l0), (Value.int l1), Value.retAddr 0, Value.retAddr 0, Value.retAddr 0]) rfl ?_
  have key : ∀ (Q : Option Value → pm_H → Prop), (Q (some (Value.int r)) h) → PW b L xs d 108 0 0 0 [(Value.ref l0), (Value.int l1), Value.retAddr 0, Value.retAddr 0, Value.retAddr 0] [] h Q := by
    intro Q hE
    rw [u_greatestNeed] at hm
    refine pw_s (pc := 0) d108_0 rfl rfl ?_
    refine pw_t (pc := 1) d108_1 rfl rfl rfl rfl ?_
    refine pw_s (pc := 2) d108_2 rfl rfl ?_
    refine pw_t (pc := 3) d108_3 rfl rfl rfl rfl ?_
    obtain ⟨q1, e_q1, hm⟩ := ob_x hm
    refine wh_ind e_q1 (fun s : (Int32 × Int32) => ∀ w4 : Value, PW b L xs d 108 0 0 4 [(Value.ref l0), (Value.int l1), (Value.int s.1), (Value.int s.2), w4] [] h Q) (fun s s2 hf ih w4 => t_u_greatestNeed_4 b L xs d hd h s_h l0 l1 s.1 s.2 w4 f_l0 hf ih) (fun s hf w4 => t_u_greatestNeed_4 b L xs d hd h s_h l0 l1 s.1 s.2 w4 f_l0 hf ?_)   (Value.retAddr 0)
    intro w0 w1 w3 w4
    refine pw_l (pc := 66) d108_66 rfl rfl rfl ?_
    obtain rfl := Option.some.inj hm
    refine pw_ri (pc := 67) d108_67 t108 rfl ?_
    exact hE
  exact key _ ⟨rfl, rfl, s_h⟩
def E_u_readTest_13 (b : Bool) (L : Nat) (xs : Nat → Int32) (d : Nat) (Q : Option Value → pm_H → Prop) (l0 : Nat) (l1 : Nat) (l2 : Int32) : ((Int32 × Int32 × Int32 × pm_H) ⊕ (Int32 × Int32 × pm_H) ⊕ (Int32 × Int32 × pm_H)) → Prop
  | .inl s => s.2.2.2.1 = tb_SH → ∀ w6 : Value, PW b L xs d 95 0 0 13 [(Value.ref l0), (Value.ref l1), (Value.int l2), (Value.int s.1), (Value.int s.2.1), (Value.int s.2.2.1), w6] [] s.2.2.2 Q
  | .inr (.inl e) => e.2.2.1 = tb_SH → ∀ w1 w2 w5 w6 : Value, PW b L xs d 95 0 0 48 [(Value.ref l0), w1, w2, (Value.int e.1), (Value.int e.2.1), w5, w6] [] e.2.2 Q
  | .inr (.inr e) => e.2.2.1 = tb_SH → ∀ w1 w2 w5 w6 : Value, PW b L xs d 95 0 0 110 [(Value.ref l0), w1, w2, (Value.int e.1), (Value.int e.2.1), w5, w6] [] e.2.2 Q
noncomputable def u_readTest_110 (G : Bool → Nat → Nat → Int32 → pm_H → Option (Int32 × pm_H)) (l0 : Nat) (l3 : Int32) (l4 : Int32) (h : pm_H) : Option (Int32 × pm_H) := if l3 = 0 then (if mi_bo l4 = true then some (l4, h) else none) else ((u_step l0 ((Int8.ofInt (-14)).toInt32) h).bind fun q3 => if mi_bo l4 = true then some (l4, q3) else none)
theorem t_u_readTest_110 (b : Bool) (L : Nat) (xs : Nat → Int32) (d : Nat) (hd : 9 ≤ d) {Q : Option Value → pm_H → Prop} (h : pm_H) (s_h : h.1 = tb_SH) (G : Bool → Nat → Nat → Int32 → pm_H → Option (Int32 × pm_H)) (hG : ∀ (bb : Bool) (k t : Nat) (a : Int32) (h : pm_H) (r : Int32 × pm_H), h.1 = tb_SH → mi_o k 6 = true → mi_o t 8 = true → G bb k t a h = some r → PC b L xs (d - 1) (if bb then 95 else 96) [.ref k, .ref t, .int a] h (fun (v0 : Option Value) (h2 : pm_H) => v0 = some (Value.int r.1) ∧ h2 = r.2 ∧ h2.1 = tb_SH)) (l0 : Nat) (l3 : Int32) (l4 : Int32) (w1 : Value) (w2 : Value) (w5 : Value) (w6 : Value) (f_l0 : mi_o l0 6 = true) {r : (Int32 × pm_H)} (hm : u_readTest_110 G l0 l3 l4 h = some r) (hE : r.2.1 = tb_SH → Q (some (Value.int r.1)) r.2) : PW b L xs d 95 0 0 110 [(Value.ref l0), w1, w2, (Value.int l3), (Value.int l4), w5, w6] [] h Q := by
  rw [u_readTest_110] at hm
  refine pw_l (pc := 110) d95_110 rfl rfl rfl ?_
  refine pw_zeq (pc := 111) (t := 120) d95_111 (by decide) (fun c1 => ?_) (fun c1 => ?_)
  · rw [if_pos c1] at hm
    refine pw_l (pc := 120) d95_120 rfl rfl rfl ?_
    obtain ⟨g2, hm⟩ := gd_x hm
    obtain rfl := Option.some.inj hm
    refine pw_ri (pc := 122) d95_122 t95 (pm_nz (mi_bo_x g2)) ?_
    exact hE s_h
  · rw [if_neg c1] at hm
    refine pw_l (pc := 114) d95_114 rfl rfl rfl ?_
    refine pw_s (pc := 115) d95_115 rfl rfl ?_
    obtain ⟨q3, e_q3, hm⟩ := ob_x hm
    refine pw_v (pc := 117) (k := l0) (by omega) d95_117 (k95_60 b) (by decide) m101 (by decide) rfl (sho s_h f_l0) (Nat.le_of_ble_eq_true rfl) (Nat.le_of_ble_eq_true rfl) rfl rfl (T_u_step b L xs (d - 1) (by omega) h s_h l0 ((Int8.ofInt (-14)).toInt32) f_l0 e_q3) (fun v0 h0 hq => ?_)
    obtain ⟨rfl, hh0, s_q3⟩ := hq
    rw [hh0] at s_q3 ⊢
    simp only [Option.toList_none, List.nil_append]
    refine pw_l (pc := 120) d95_120 rfl rfl rfl ?_
    obtain ⟨g4, hm⟩ := gd_x hm
    obtain rfl := Option.some.inj hm
    refine pw_ri (pc := 122) d95_122 t95 (pm_nz (mi_bo_x g4)) ?_
    exact hE s_q3
noncomputable def u_readTest_80 (G : Bool → Nat → Nat → Int32 → pm_H → Option (Int32 × pm_H)) (l0 : Nat) (l1 : Nat) (l2 : Int32) (l5 : Int32) (l6 : Int32) (z0 : Int32) (h : pm_H) : Option ((Int32 × Int32 × Int32 × pm_H) ⊕ (Int32 × Int32 × pm_H) ⊕ (Int32 × Int32 × pm_H)) := (t_advance l1 h).bind fun q1 => (G false l0 l1 l2 q1).bind fun q2 => if l6 = 0 then (some (.inl (z0, q2.1, (l5 + Int32.ofInt 1), q2.2))) else ((u_step l0 ((Int8.ofInt (-13)).toInt32) q2.2).bind fun q4 => some (.inl (z0, q2.1, (l5 + Int32.ofInt 1), q4)))
theorem t_u_readTest_80 (b : Bool) (L : Nat) (xs : Nat → Int32) (d : Nat) (hd : 9 ≤ d) {Q : Option Value → pm_H → Prop} (h : pm_H) (s_h : h.1 = tb_SH) (G : Bool → Nat → Nat → Int32 → pm_H → Option (Int32 × pm_H)) (hG : ∀ (bb : Bool) (k t : Nat) (a : Int32) (h : pm_H) (r : Int32 × pm_H), h.1 = tb_SH → mi_o k 6 = true → mi_o t 8 = true → G bb k t a h = some r → PC b L xs (d - 1) (if bb then 95 else 96) [.ref k, .ref t, .int a] h (fun (v0 : Option Value) (h2 : pm_H) => v0 = some (Value.int r.1) ∧ h2 = r.2 ∧ h2.1 = tb_SH)) (l0 : Nat) (l1 : Nat) (l2 : Int32) (l5 : Int32) (l6 : Int32) (z0 : Int32) (w3 : Value) (w4 : Value) (f_l0 : mi_o l0 6 = true) (f_l1 : mi_o l1 8 = true) {r : ((Int32 × Int32 × Int32 × pm_H) ⊕ (Int32 × Int32 × pm_H) ⊕ (Int32 × Int32 × pm_H))} (hm : u_readTest_80 G l0 l1 l2 l5 l6 z0 h = some r) (hE : E_u_readTest_13 b L xs d Q l0 l1 l2 r) : PW b L xs d 95 0 0 80 [(Value.ref l0), (Value.ref l1), (Value.int l2), w3, w4, (Value.int l5), (Value.int l6)] [(Value.int z0)] h Q := by
  rw [u_readTest_80] at hm
  refine pw_t (pc := 80) d95_80 rfl rfl rfl rfl ?_
  refine pw_l (pc := 81) d95_81 rfl rfl rfl ?_
  obtain ⟨q1, e_q1, hm⟩ := ob_x hm
  refine pw_v (pc := 82) (k := l1) (by omega) d95_82 (k95_47 b) (by decide) m136 (by decide) rfl (sho s_h f_l1) (Nat.le_of_ble_eq_true rfl) (Nat.le_of_ble_eq_true rfl) rfl rfl (T_t_advance b L xs (d - 1) (by omega) h s_h l1 f_l1 e_q1) (fun v0 h0 hq => ?_)
  obtain ⟨rfl, hh0, s_q1⟩ := hq
  rw [hh0] at s_q1 ⊢
  simp only [Option.toList_none, List.nil_append]
  refine pw_l (pc := 85) d95_85 rfl rfl rfl ?_
  refine pw_l (pc := 86) d95_86 rfl rfl rfl ?_
  refine pw_l (pc := 87) d95_87 rfl rfl rfl ?_
  obtain ⟨q2, e_q2, hm⟩ := ob_x hm
  refine pw_v (pc := 88) (k := l0) (by omega) d95_88 (k95_71 b) (by decide) m96 (by decide) rfl (sho s_q1 f_l0) (Nat.le_of_ble_eq_true rfl) (Nat.le_of_ble_eq_true rfl) rfl rfl (hG false l0 l1 l2 q1 q2 s_q1 f_l0 f_l1 e_q2) (fun v0 h0 hq => ?_)
  obtain ⟨rfl, hh0, s_q2⟩ := hq
  rw [hh0] at s_q2 ⊢
  simp only [Option.toList_some, List.cons_append, List.nil_append]
  refine pw_t (pc := 91) d95_91 rfl rfl rfl rfl ?_
  refine pw_l (pc := 93) d95_93 rfl rfl rfl ?_
  refine pw_zeq (pc := 95) (t := 104) d95_95 (by decide) (fun c3 => ?_) (fun c3 => ?_)
  · rw [if_pos c3] at hm
    refine pw_t (pc := 104) d95_104 rfl rfl rfl rfl ?_
    refine pw_go (pc := 107) (t := 13) d95_107 (by decide) ?_
    obtain rfl := Option.some.inj hm
    exact hE s_q2  (Value.int l6)
  · rw [if_neg c3] at hm
    refine pw_l (pc := 98) d95_98 rfl rfl rfl ?_
    refine pw_s (pc := 99) d95_99 rfl rfl ?_
    obtain ⟨q4, e_q4, hm⟩ := ob_x hm
    refine pw_v (pc := 101) (k := l0) (by omega) d95_101 (k95_60 b) (by decide) m101 (by decide) rfl (sho s_q2 f_l0) (Nat.le_of_ble_eq_true rfl) (Nat.le_of_ble_eq_true rfl) rfl rfl (T_u_step b L xs (d - 1) (by omega) q2.2 s_q2 l0 ((Int8.ofInt (-13)).toInt32) f_l0 e_q4) (fun v0 h0 hq => ?_)
    obtain ⟨rfl, hh0, s_q4⟩ := hq
    rw [hh0] at s_q4 ⊢
    simp only [Option.toList_none, List.nil_append]
    refine pw_t (pc := 104) d95_104 rfl rfl rfl rfl ?_
    refine pw_go (pc := 107) (t := 13) d95_107 (by decide) ?_
    obtain rfl := Option.some.inj hm
    exact hE s_q4  (Value.int l6)
noncomputable def u_readTest_75 (G : Bool → Nat → Nat → Int32 → pm_H → Option (Int32 × pm_H)) (l0 : Nat) (l1 : Nat) (l2 : Int32) (l5 : Int32) (l6 : Int32) (h : pm_H) : Option ((Int32 × Int32 × Int32 × pm_H) ⊕ (Int32 × Int32 × pm_H) ⊕ (Int32 × Int32 × pm_H)) := u_readTest_80 G l0 l1 l2 l5 l6 (Int32.ofInt 1) h
theorem t_u_readTest_75 (b : Bool) (L : Nat) (xs : Nat → Int32) (d : Nat) (hd : 9 ≤ d) {Q : Option Value → pm_H → Prop} (h : pm_H) (s_h : h.1 = tb_SH) (G : Bool → Nat → Nat → Int32 → pm_H → Option (Int32 × pm_H)) (hG : ∀ (bb : Bool) (k t : Nat) (a : Int32) (h : pm_H) (r : Int32 × pm_H), h.1 = tb_SH → mi_o k 6 = true → mi_o t 8 = true → G bb k t a h = some r → PC b L xs (d - 1) (if bb then 95 else 96) [.ref k, .ref t, .int a] h (fun (v0 : Option Value) (h2 : pm_H) => v0 = some (Value.int r.1) ∧ h2 = r.2 ∧ h2.1 = tb_SH)) (l0 : Nat) (l1 : Nat) (l2 : Int32) (l5 : Int32) (l6 : Int32) (w3 : Value) (w4 : Value) (f_l0 : mi_o l0 6 = true) (f_l1 : mi_o l1 8 = true) {r : ((Int32 × Int32 × Int32 × pm_H) ⊕ (Int32 × Int32 × pm_H) ⊕ (Int32 × Int32 × pm_H))} (hm : u_readTest_75 G l0 l1 l2 l5 l6 h = some r) (hE : E_u_readTest_13 b L xs d Q l0 l1 l2 r) : PW b L xs d 95 0 0 75 [(Value.ref l0), (Value.ref l1), (Value.int l2), w3, w4, (Value.int l5), (Value.int l6)] [] h Q := by
  rw [u_readTest_75] at hm
  refine pw_s (pc := 75) d95_75 rfl rfl ?_
  refine pw_go (pc := 76) (t := 80) d95_76 (by decide) ?_
  exact t_u_readTest_80 b L xs d hd h s_h G hG l0 l1 l2 l5 l6 (Int32.ofInt 1) w3 w4 f_l0 f_l1  hm hE
noncomputable def u_readTest_66 (G : Bool → Nat → Nat → Int32 → pm_H → Option (Int32 × pm_H)) (l0 : Nat) (l1 : Nat) (l2 : Int32) (l3 : Int32) (l5 : Int32) (l6 : Int32) (h : pm_H) : Option ((Int32 × Int32 × Int32 × pm_H) ⊕ (Int32 × Int32 × pm_H) ⊕ (Int32 × Int32 × pm_H)) := if ¬ l3 = 0 then (u_readTest_75 G l0 l1 l2 l5 l6 h) else (if ¬ l6 = 0 then (u_readTest_80 G l0 l1 l2 l5 l6 (Int32.ofInt 0) h) else (u_readTest_75 G l0 l1 l2 l5 l6 h))
theorem t_u_readTest_66 (b : Bool) (L : Nat) (xs : Nat → Int32) (d : Nat) (hd : 9 ≤ d) {Q : Option Value → pm_H → Prop} (h : pm_H) (s_h : h.1 = tb_SH) (G : Bool → Nat → Nat → Int32 → pm_H → Option (Int32 × pm_H)) (hG : ∀ (bb : Bool) (k t : Nat) (a : Int32) (h : pm_H) (r : Int32 × pm_H), h.1 = tb_SH → mi_o k 6 = true → mi_o t 8 = true → G bb k t a h = some r → PC b L xs (d - 1) (if bb then 95 else 96) [.ref k, .ref t, .int a] h (fun (v0 : Option Value) (h2 : pm_H) => v0 = some (Value.int r.1) ∧ h2 = r.2 ∧ h2.1 = tb_SH)) (l0 : Nat) (l1 : Nat) (l2 : Int32) (l3 : Int32) (l5 : Int32) (l6 : Int32) (w4 : Value) (f_l0 : mi_o l0 6 = true) (f_l1 : mi_o l1 8 = true) {r : ((Int32 × Int32 × Int32 × pm_H) ⊕ (Int32 × Int32 × pm_H) ⊕ (Int32 × Int32 × pm_H))} (hm : u_readTest_66 G l0 l1 l2 l3 l5 l6 h = some r) (hE : E_u_readTest_13 b L xs d Q l0 l1 l2 r) : PW b L xs d 95 0 0 66 [(Value.ref l0), (Value.ref l1), (Value.int l2), (Value.int l3), w4, (Value.int l5), (Value.int l6)] [] h Q := by
  rw [u_readTest_66] at hm
  refine pw_l (pc := 66) d95_66 rfl rfl rfl ?_
  refine pw_zne (pc := 67) (t := 75) d95_67 (by decide) (fun c1 => ?_) (fun c1 => ?_)
  · rw [if_pos c1] at hm
    exact t_u_readTest_75 b L xs d hd h s_h G hG l0 l1 l2 l5 l6 (Value.int l3) w4 f_l0 f_l1  hm hE
  · rw [if_neg c1] at hm
    refine pw_l (pc := 70) d95_70 rfl rfl rfl ?_
    refine pw_zne (pc := 72) (t := 79) d95_72 (by decide) (fun c2 => ?_) (fun c2 => ?_)
    · rw [if_pos c2] at hm
      refine pw_s (pc := 79) d95_79 rfl rfl ?_
      exact t_u_readTest_80 b L xs d hd h s_h G hG l0 l1 l2 l5 l6 (Int32.ofInt 0) (Value.int l3) w4 f_l0 f_l1  hm hE
    · rw [if_neg c2] at hm
      exact t_u_readTest_75 b L xs d hd h s_h G hG l0 l1 l2 l5 l6 (Value.int l3) w4 f_l0 f_l1  hm hE
noncomputable def u_readTest_51 (G : Bool → Nat → Nat → Int32 → pm_H → Option (Int32 × pm_H)) (l0 : Nat) (l1 : Nat) (l2 : Int32) (l3 : Int32) (l5 : Int32) (l6 : Int32) (h : pm_H) : Option ((Int32 × Int32 × Int32 × pm_H) ⊕ (Int32 × Int32 × pm_H) ⊕ (Int32 × Int32 × pm_H)) := if ¬ l6 = 0 then (u_readTest_66 G l0 l1 l2 l3 l5 l6 h) else (if l3 = 0 then (u_readTest_66 G l0 l1 l2 l3 l5 l6 h) else ((u_step l0 ((Int8.ofInt (-14)).toInt32) h).bind fun q3 => u_readTest_66 G l0 l1 l2 l3 l5 l6 q3))
theorem t_u_readTest_51 (b : Bool) (L : Nat) (xs : Nat → Int32) (d : Nat) (hd : 9 ≤ d) {Q : Option Value → pm_H → Prop} (h : pm_H) (s_h : h.1 = tb_SH) (G : Bool → Nat → Nat → Int32 → pm_H → Option (Int32 × pm_H)) (hG : ∀ (bb : Bool) (k t : Nat) (a : Int32) (h : pm_H) (r : Int32 × pm_H), h.1 = tb_SH → mi_o k 6 = true → mi_o t 8 = true → G bb k t a h = some r → PC b L xs (d - 1) (if bb then 95 else 96) [.ref k, .ref t, .int a] h (fun (v0 : Option Value) (h2 : pm_H) => v0 = some (Value.int r.1) ∧ h2 = r.2 ∧ h2.1 = tb_SH)) (l0 : Nat) (l1 : Nat) (l2 : Int32) (l3 : Int32) (l5 : Int32) (l6 : Int32) (w4 : Value) (f_l0 : mi_o l0 6 = true) (f_l1 : mi_o l1 8 = true) {r : ((Int32 × Int32 × Int32 × pm_H) ⊕ (Int32 × Int32 × pm_H) ⊕ (Int32 × Int32 × pm_H))} (hm : u_readTest_51 G l0 l1 l2 l3 l5 l6 h = some r) (hE : E_u_readTest_13 b L xs d Q l0 l1 l2 r) : PW b L xs d 95 0 0 51 [(Value.ref l0), (Value.ref l1), (Value.int l2), (Value.int l3), w4, (Value.int l5), (Value.int l6)] [] h Q := by
  rw [u_readTest_51] at hm
  refine pw_l (pc := 51) d95_51 rfl rfl rfl ?_
  refine pw_zne (pc := 53) (t := 66) d95_53 (by decide) (fun c1 => ?_) (fun c1 => ?_)
  · rw [if_pos c1] at hm
    exact t_u_readTest_66 b L xs d hd h s_h G hG l0 l1 l2 l3 l5 l6 w4 f_l0 f_l1  hm hE
  · rw [if_neg c1] at hm
    refine pw_l (pc := 56) d95_56 rfl rfl rfl ?_
    refine pw_zeq (pc := 57) (t := 66) d95_57 (by decide) (fun c2 => ?_) (fun c2 => ?_)
    · rw [if_pos c2] at hm
      exact t_u_readTest_66 b L xs d hd h s_h G hG l0 l1 l2 l3 l5 l6 w4 f_l0 f_l1  hm hE
    · rw [if_neg c2] at hm
      refine pw_l (pc := 60) d95_60 rfl rfl rfl ?_
      refine pw_s (pc := 61) d95_61 rfl rfl ?_
      obtain ⟨q3, e_q3, hm⟩ := ob_x hm
      refine pw_v (pc := 63) (k := l0) (by omega) d95_63 (k95_60 b) (by decide) m101 (by decide) rfl (sho s_h f_l0) (Nat.le_of_ble_eq_true rfl) (Nat.le_of_ble_eq_true rfl) rfl rfl (T_u_step b L xs (d - 1) (by omega) h s_h l0 ((Int8.ofInt (-14)).toInt32) f_l0 e_q3) (fun v0 h0 hq => ?_)
      obtain ⟨rfl, hh0, s_q3⟩ := hq
      rw [hh0] at s_q3 ⊢
      simp only [Option.toList_none, List.nil_append]
      exact t_u_readTest_66 b L xs d hd q3 s_q3 G hG l0 l1 l2 l3 l5 l6 w4 f_l0 f_l1  hm hE
noncomputable def u_readTest_13 (G : Bool → Nat → Nat → Int32 → pm_H → Option (Int32 × pm_H)) (l0 : Nat) (l1 : Nat) (l2 : Int32) (l3 : Int32) (l4 : Int32) (l5 : Int32) (h : pm_H) : Option ((Int32 × Int32 × Int32 × pm_H) ⊕ (Int32 × Int32 × pm_H) ⊕ (Int32 × Int32 × pm_H)) := if l4 = 0 then (some (.inr (.inr (l3, l4, h)))) else (if (Int16.ofInt 400).toInt32 ≤ l5 then (some (.inr (.inr (l3, l4, h)))) else ((t_isWord l1 13 h).bind fun q3 => if ¬ q3 = 0 then (u_readTest_51 G l0 l1 l2 l3 l5 q3 h) else ((t_isWord l1 15 h).bind fun q5 => if ¬ q5 = 0 then (u_readTest_51 G l0 l1 l2 l3 l5 q3 h) else (some (.inr (.inl (l3, l4, h)))))))
theorem t_u_readTest_13 (b : Bool) (L : Nat) (xs : Nat → Int32) (d : Nat) (hd : 9 ≤ d) {Q : Option Value → pm_H → Prop} (h : pm_H) (s_h : h.1 = tb_SH) (G : Bool → Nat → Nat → Int32 → pm_H → Option (Int32 × pm_H)) (hG : ∀ (bb : Bool) (k t : Nat) (a : Int32) (h : pm_H) (r : Int32 × pm_H), h.1 = tb_SH → mi_o k 6 = true → mi_o t 8 = true → G bb k t a h = some r → PC b L xs (d - 1) (if bb then 95 else 96) [.ref k, .ref t, .int a] h (fun (v0 : Option Value) (h2 : pm_H) => v0 = some (Value.int r.1) ∧ h2 = r.2 ∧ h2.1 = tb_SH)) (l0 : Nat) (l1 : Nat) (l2 : Int32) (l3 : Int32) (l4 : Int32) (l5 : Int32) (w6 : Value) (f_l0 : mi_o l0 6 = true) (f_l1 : mi_o l1 8 = true) {r : ((Int32 × Int32 × Int32 × pm_H) ⊕ (Int32 × Int32 × pm_H) ⊕ (Int32 × Int32 × pm_H))} (hm : u_readTest_13 G l0 l1 l2 l3 l4 l5 h = some r) (hE : E_u_readTest_13 b L xs d Q l0 l1 l2 r) : PW b L xs d 95 0 0 13 [(Value.ref l0), (Value.ref l1), (Value.int l2), (Value.int l3), (Value.int l4), (Value.int l5), w6] [] h Q := by
  rw [u_readTest_13] at hm
  refine pw_l (pc := 13) d95_13 rfl rfl rfl ?_
  refine pw_zeq (pc := 15) (t := 110) d95_15 (by decide) (fun c1 => ?_) (fun c1 => ?_)
  · rw [if_pos c1] at hm
    obtain rfl := Option.some.inj hm
    exact hE s_h  (Value.ref l1) (Value.int l2) (Value.int l5) w6
  · rw [if_neg c1] at hm
    refine pw_l (pc := 18) d95_18 rfl rfl rfl ?_
    refine pw_s (pc := 20) d95_20 rfl rfl ?_
    refine pw_ige (pc := 23) (t := 110) d95_23 (by decide) (fun c2 => ?_) (fun c2 => ?_)
    · rw [if_pos c2] at hm
      obtain rfl := Option.some.inj hm
      exact hE s_h  (Value.ref l1) (Value.int l2) (Value.int l5) w6
    · rw [if_neg c2] at hm
      refine pw_l (pc := 26) d95_26 rfl rfl rfl ?_
      refine pw_tx (pc := 27) d95_27 (k95_74 b) ?_
      obtain ⟨q3, e_q3, hm⟩ := ob_x hm
      refine pw_v (pc := 29) (k := l1) (by omega) d95_29 (k95_36 b) (by decide) m138 (by decide) rfl (sho s_h f_l1) (Nat.le_of_ble_eq_true rfl) (Nat.le_of_ble_eq_true rfl) rfl rfl (T_t_isWord b L xs (d - 1) (by omega) h s_h l1 13 f_l1 e_q3) (fun v0 h0 hq => ?_)
      obtain ⟨rfl, hh0, s_q3⟩ := hq
      rw [hh0] at s_q3 ⊢
      simp only [Option.toList_some, List.cons_append, List.nil_append]
      refine pw_t (pc := 32) d95_32 rfl rfl rfl rfl ?_
      refine pw_l (pc := 34) d95_34 rfl rfl rfl ?_
      refine pw_zne (pc := 36) (t := 51) d95_36 (by decide) (fun c4 => ?_) (fun c4 => ?_)
      · rw [if_pos c4] at hm
        exact t_u_readTest_51 b L xs d hd h s_h G hG l0 l1 l2 l3 l5 q3 (Value.int l4) f_l0 f_l1  hm hE
      · rw [if_neg c4] at hm
        refine pw_l (pc := 39) d95_39 rfl rfl rfl ?_
        refine pw_tx (pc := 40) d95_40 (k95_76 b) ?_
        obtain ⟨q5, e_q5, hm⟩ := ob_x hm
        refine pw_v (pc := 42) (k := l1) (by omega) d95_42 (k95_36 b) (by decide) m138 (by decide) rfl (sho s_h f_l1) (Nat.le_of_ble_eq_true rfl) (Nat.le_of_ble_eq_true rfl) rfl rfl (T_t_isWord b L xs (d - 1) (by omega) h s_h l1 15 f_l1 e_q5) (fun v0 h0 hq => ?_)
        obtain ⟨rfl, hh0, s_q5⟩ := hq
        rw [hh0] at s_q5 ⊢
        simp only [Option.toList_some, List.cons_append, List.nil_append]
        refine pw_zne (pc := 45) (t := 51) d95_45 (by decide) (fun c6 => ?_) (fun c6 => ?_)
        · rw [if_pos c6] at hm
          exact t_u_readTest_51 b L xs d hd h s_h G hG l0 l1 l2 l3 l5 q3 (Value.int l4) f_l0 f_l1  hm hE
        · rw [if_neg c6] at hm
          obtain rfl := Option.some.inj hm
          exact hE s_h  (Value.ref l1) (Value.int l2) (Value.int l5) (Value.int q3)
noncomputable def u_readTest (G : Bool → Nat → Nat → Int32 → pm_H → Option (Int32 × pm_H)) (l0 : Nat) (l1 : Nat) (l2 : Int32) (h : pm_H) : Option (Int32 × pm_H) := (G false l0 l1 l2 h).bind fun q1 => (wh (fun s : (Int32 × Int32 × Int32 × pm_H) => u_readTest_13 G l0 l1 l2 s.1 s.2.1 s.2.2.1 s.2.2.2) ((Int32.ofInt 0), q1.1, (Int32.ofInt 0), q1.2)).bind fun q2 => (match q2 with | (.inl eq2_0) => u_readTest_110 G l0 eq2_0.1 eq2_0.2.1 eq2_0.2.2 | (.inr eq2_1) => u_readTest_110 G l0 eq2_1.1 eq2_1.2.1 eq2_1.2.2)
theorem T_u_readTest (b : Bool) (L : Nat) (xs : Nat → Int32) (d : Nat) (hd : 9 ≤ d) (h : pm_H) (s_h : h.1 = tb_SH) (G : Bool → Nat → Nat → Int32 → pm_H → Option (Int32 × pm_H)) (hG : ∀ (bb : Bool) (k t : Nat) (a : Int32) (h : pm_H) (r : Int32 × pm_H), h.1 = tb_SH → mi_o k 6 = true → mi_o t 8 = true → G bb k t a h = some r → PC b L xs (d - 1) (if bb then 95 else 96) [.ref k, .ref t, .int a] h (fun (v0 : Option Value) (h2 : pm_H) => v0 = some (Value.int r.1) ∧ h2 = r.2 ∧ h2.1 = tb_SH)) (l0 : Nat) (l1 : Nat) (l2 : Int32) (f_l0 : mi_o l0 6 = true) (f_l1 : mi_o l1 8 = true) {r : (Int32 × pm_H)} (hm : u_readTest G l0 l1 l2 h = some r) : PC b L xs d 95 [(Value.ref l0), (Value.ref l1), (Value.int l2)] h (fun (v0 : Option Value) (h2 : pm_H) => v0 = (some (Value.int r.1)) ∧ h2 = r.2 ∧ h2.1 = tb_SH) := by
  refine pc_in e95 (ls0 := [(Value.ref l0), (Value.ref l1), (Value.int l2), Value.retAddr 0, Value.retAddr 0, Value.retAddr 0, Value.retAddr 0]) rfl ?_
  have key : ∀ (Q : Option Value → pm_H → Prop), (r.2.1 = tb_SH → Q (some (Value.int r.1)) r.2) → PW b L xs d 95 0 0 0 [(Value.ref l0), (Value.ref l1), (Value.int l2), Value.retAddr 0, Value.retAddr 0, Value.retAddr 0, Value.retAddr 0] [] h Q := by
    intro Q hE
    rw [u_readTest] at hm
    refine pw_s (pc := 0) d95_0 rfl rfl ?_
    refine pw_t (pc := 1) d95_1 rfl rfl rfl rfl ?_
    refine pw_l (pc := 2) d95_2 rfl rfl rfl ?_
    refine pw_l (pc := 3) d95_3 rfl rfl rfl ?_
    refine pw_l (pc := 4) d95_4 rfl rfl rfl ?_
    obtain ⟨q1, e_q1, hm⟩ := ob_x hm
    refine pw_v (pc := 5) (k := l0) (by omega) d95_5 (k95_71 b) (by decide) m96 (by decide) rfl (sho s_h f_l0) (Nat.le_of_ble_eq_true rfl) (Nat.le_of_ble_eq_true rfl) rfl rfl (hG false l0 l1 l2 h q1 s_h f_l0 f_l1 e_q1) (fun v0 h0 hq => ?_)
    obtain ⟨rfl, hh0, s_q1⟩ := hq
    rw [hh0] at s_q1 ⊢
    simp only [Option.toList_some, List.cons_append, List.nil_append]
    refine pw_t (pc := 8) d95_8 rfl rfl rfl rfl ?_
    refine pw_s (pc := 10) d95_10 rfl rfl ?_
    refine pw_t (pc := 11) d95_11 rfl rfl rfl rfl ?_
    obtain ⟨q2, e_q2, hm⟩ := ob_x hm
    refine wh_ind e_q2 (fun s : (Int32 × Int32 × Int32 × pm_H) => s.2.2.2.1 = tb_SH → ∀ w6 : Value, PW b L xs d 95 0 0 13 [(Value.ref l0), (Value.ref l1), (Value.int l2), (Value.int s.1), (Value.int s.2.1), (Value.int s.2.2.1), w6] [] s.2.2.2 Q) (fun s s2 hf ih sx w6 => t_u_readTest_13 b L xs d hd s.2.2.2 sx G hG l0 l1 l2 s.1 s.2.1 s.2.2.1 w6 f_l0 f_l1 hf ih) (fun s hf sx w6 => t_u_readTest_13 b L xs d hd s.2.2.2 sx G hG l0 l1 l2 s.1 s.2.1 s.2.2.1 w6 f_l0 f_l1 hf ?_) s_q1  (Value.retAddr 0)
    rcases q2 with eq2_0 | eq2_1
    · dsimp only at hm
      intro s_q2_0 w1 w2 w5 w6
      refine pw_go (pc := 48) (t := 110) d95_48 (by decide) ?_
      exact t_u_readTest_110 b L xs d hd eq2_0.2.2 s_q2_0 G hG l0 eq2_0.1 eq2_0.2.1 w1 w2 w5 w6 f_l0  hm hE
    · dsimp only at hm
      intro s_q2_1 w1 w2 w5 w6
      exact t_u_readTest_110 b L xs d hd eq2_1.2.2 s_q2_1 G hG l0 eq2_1.1 eq2_1.2.1 w1 w2 w5 w6 f_l0  hm hE
  exact key _ (fun q => ⟨rfl, rfl, q⟩)
noncomputable def u_readValue_105 (l1 : Nat) (z0 : Int32) (z1 : Nat) (h : pm_H) : Option (Int32 × pm_H) := (u_step z1 z0 h).bind fun q1 => (t_advance l1 q1).bind fun q2 => some ((Int32.ofInt 1), q2)
theorem t_u_readValue_105 (b : Bool) (L : Nat) (xs : Nat → Int32) (d : Nat) (hd : 9 ≤ d) {Q : Option Value → pm_H → Prop} (h : pm_H) (s_h : h.1 = tb_SH) (l1 : Nat) (z0 : Int32) (z1 : Nat) (w0 : Value) (w2 : Value) (w3 : Value) (f_l1 : mi_o l1 8 = true) (f_z1 : mi_o z1 6 = true) {r : (Int32 × pm_H)} (hm : u_readValue_105 l1 z0 z1 h = some r) (hE : r.2.1 = tb_SH → Q (some (Value.int r.1)) r.2) : PW b L xs d 99 0 0 105 [w0, (Value.ref l1), w2, w3] [(Value.int z0), (Value.ref z1)] h Q := by
  rw [u_readValue_105] at hm
  obtain ⟨q1, e_q1, hm⟩ := ob_x hm
  refine pw_v (pc := 105) (k := z1) (by omega) d99_105 (k99_60 b) (by decide) m101 (by decide) rfl (sho s_h f_z1) (Nat.le_of_ble_eq_true rfl) (Nat.le_of_ble_eq_true rfl) rfl rfl (T_u_step b L xs (d - 1) (by omega) h s_h z1 z0 f_z1 e_q1) (fun v0 h0 hq => ?_)
  obtain ⟨rfl, hh0, s_q1⟩ := hq
  rw [hh0] at s_q1 ⊢
  simp only [Option.toList_none, List.nil_append]
  refine pw_l (pc := 108) d99_108 rfl rfl rfl ?_
  obtain ⟨q2, e_q2, hm⟩ := ob_x hm
  refine pw_v (pc := 109) (k := l1) (by omega) d99_109 (k99_47 b) (by decide) m136 (by decide) rfl (sho s_q1 f_l1) (Nat.le_of_ble_eq_true rfl) (Nat.le_of_ble_eq_true rfl) rfl rfl (T_t_advance b L xs (d - 1) (by omega) q1 s_q1 l1 f_l1 e_q2) (fun v0 h0 hq => ?_)
  obtain ⟨rfl, hh0, s_q2⟩ := hq
  rw [hh0] at s_q2 ⊢
  simp only [Option.toList_none, List.nil_append]
  refine pw_s (pc := 112) d99_112 rfl rfl ?_
  obtain rfl := Option.some.inj hm
  refine pw_ri (pc := 113) d99_113 t99 rfl ?_
  exact hE s_q2
noncomputable def u_readValue_61 (l0 : Nat) (l1 : Nat) (l2 : Int32) (l3 : Int32) (h : pm_H) : Option (Int32 × pm_H) := if (h.2.1 l0 2) < (Int8.ofInt 60).toInt32 then (bd (pm_setI h l0 2 ((h.2.1 l0 2) + (Int32.ofInt 1))) fun h2 => if l2 = 0 then (u_readValue_105 l1 ((Int32.ofInt (-1)) - l3) l0 h2) else (u_readValue_105 l1 (h2.2.1 l1 6) l0 h2)) else ((t_blame l1 (h.2.1 l1 3) (Int32.ofInt 3) h).bind fun q4 => if mi_bo q4.1 = true then some (q4.1, q4.2) else none)
theorem t_u_readValue_61 (b : Bool) (L : Nat) (xs : Nat → Int32) (d : Nat) (hd : 9 ≤ d) {Q : Option Value → pm_H → Prop} (h : pm_H) (s_h : h.1 = tb_SH) (l0 : Nat) (l1 : Nat) (l2 : Int32) (l3 : Int32) (f_l0 : mi_o l0 6 = true) (f_l1 : mi_o l1 8 = true) {r : (Int32 × pm_H)} (hm : u_readValue_61 l0 l1 l2 l3 h = some r) (hE : r.2.1 = tb_SH → Q (some (Value.int r.1)) r.2) : PW b L xs d 99 0 0 61 [(Value.ref l0), (Value.ref l1), (Value.int l2), (Value.int l3)] [] h Q := by
  rw [u_readValue_61] at hm
  refine pw_l (pc := 61) d99_61 rfl rfl rfl ?_
  refine pw_gi (pc := 62) d99_62 (k99_19 b) (sho s_h f_l0) f6_2 ?_
  refine pw_s (pc := 65) d99_65 rfl rfl ?_
  refine pw_ilt (pc := 67) (t := 80) d99_67 (by decide) (fun c1 => ?_) (fun c1 => ?_)
  · rw [if_pos c1] at hm
    refine pw_l (pc := 80) d99_80 rfl rfl rfl ?_
    refine pw_s (pc := 81) d99_81 rfl rfl ?_
    refine pw_gi (pc := 82) d99_82 (k99_19 b) (sho s_h f_l0) f6_2 ?_
    refine pw_s (pc := 85) d99_85 rfl rfl ?_
    refine pw_s (pc := 86) d99_86 rfl rfl ?_
    refine pw_pi (pc := 87) d99_87 (k99_19 b) (sho s_h f_l0) p99_6_2 ?_
    obtain ⟨h2, e_h2, hm⟩ := bd_x hm
    rw [e_h2]
    have s_h2 : h2.1 = tb_SH := by rw [← e_h2]; exact s_h
    refine pw_l (pc := 90) d99_90 rfl rfl rfl ?_
    refine pw_l (pc := 91) d99_91 rfl rfl rfl ?_
    refine pw_zeq (pc := 92) (t := 102) d99_92 (by decide) (fun c3 => ?_) (fun c3 => ?_)
    · rw [if_pos c3] at hm
      refine pw_s (pc := 102) d99_102 rfl rfl ?_
      refine pw_l (pc := 103) d99_103 rfl rfl rfl ?_
      refine pw_s (pc := 104) d99_104 rfl rfl ?_
      exact t_u_readValue_105 b L xs d hd h2 s_h2 l1 ((Int32.ofInt (-1)) - l3) l0 (Value.ref l0) (Value.int l2) (Value.int l3) f_l1 f_l0 hm hE
    · rw [if_neg c3] at hm
      refine pw_l (pc := 95) d99_95 rfl rfl rfl ?_
      refine pw_gi (pc := 96) d99_96 (k99_83 b) (sho s_h2 f_l1) f8_6 ?_
      refine pw_go (pc := 99) (t := 105) d99_99 (by decide) ?_
      exact t_u_readValue_105 b L xs d hd h2 s_h2 l1 (h2.2.1 l1 6) l0 (Value.ref l0) (Value.int l2) (Value.int l3) f_l1 f_l0 hm hE
  · rw [if_neg c1] at hm
    refine pw_l (pc := 70) d99_70 rfl rfl rfl ?_
    refine pw_l (pc := 71) d99_71 rfl rfl rfl ?_
    refine pw_gi (pc := 72) d99_72 (k99_40 b) (sho s_h f_l1) f8_3 ?_
    refine pw_s (pc := 75) d99_75 rfl rfl ?_
    obtain ⟨q4, e_q4, hm⟩ := ob_x hm
    refine pw_v (pc := 76) (k := l1) (by omega) d99_76 (k99_43 b) (by decide) m141 (by decide) rfl (sho s_h f_l1) (Nat.le_of_ble_eq_true rfl) (Nat.le_of_ble_eq_true rfl) rfl rfl (T_t_blame b L xs (d - 1) (by omega) h s_h l1 (h.2.1 l1 3) (Int32.ofInt 3) f_l1 e_q4) (fun v0 h0 hq => ?_)
    obtain ⟨rfl, hh0, s_q4⟩ := hq
    rw [hh0] at s_q4 ⊢
    simp only [Option.toList_some, List.cons_append, List.nil_append]
    obtain ⟨g5, hm⟩ := gd_x hm
    obtain rfl := Option.some.inj hm
    refine pw_ri (pc := 79) d99_79 t99 (pm_nz (mi_bo_x g5)) ?_
    exact hE s_q4
noncomputable def u_readValue_39 (l0 : Nat) (l1 : Nat) (l2 : Int32) (l3 : Int32) (h : pm_H) : Option (Int32 × pm_H) := if l2 = 0 then (u_readValue_61 l0 l1 l2 l3 h) else (if (h.2.1 l1 5) ≤ (Int32.ofInt 5) then (u_readValue_61 l0 l1 l2 l3 h) else ((t_blame l1 (h.2.1 l1 3) (Int32.ofInt 1) h).bind fun q3 => if mi_bo q3.1 = true then some (q3.1, q3.2) else none))
theorem t_u_readValue_39 (b : Bool) (L : Nat) (xs : Nat → Int32) (d : Nat) (hd : 9 ≤ d) {Q : Option Value → pm_H → Prop} (h : pm_H) (s_h : h.1 = tb_SH) (l0 : Nat) (l1 : Nat) (l2 : Int32) (l3 : Int32) (f_l0 : mi_o l0 6 = true) (f_l1 : mi_o l1 8 = true) {r : (Int32 × pm_H)} (hm : u_readValue_39 l0 l1 l2 l3 h = some r) (hE : r.2.1 = tb_SH → Q (some (Value.int r.1)) r.2) : PW b L xs d 99 0 0 39 [(Value.ref l0), (Value.ref l1), (Value.int l2), (Value.int l3)] [] h Q := by
  rw [u_readValue_39] at hm
  refine pw_l (pc := 39) d99_39 rfl rfl rfl ?_
  refine pw_zeq (pc := 40) (t := 61) d99_40 (by decide) (fun c1 => ?_) (fun c1 => ?_)
  · rw [if_pos c1] at hm
    exact t_u_readValue_61 b L xs d hd h s_h l0 l1 l2 l3  f_l0 f_l1  hm hE
  · rw [if_neg c1] at hm
    refine pw_l (pc := 43) d99_43 rfl rfl rfl ?_
    refine pw_gi (pc := 44) d99_44 (k99_98 b) (sho s_h f_l1) f8_5 ?_
    refine pw_s (pc := 47) d99_47 rfl rfl ?_
    refine pw_ile (pc := 48) (t := 61) d99_48 (by decide) (fun c2 => ?_) (fun c2 => ?_)
    · rw [if_pos c2] at hm
      exact t_u_readValue_61 b L xs d hd h s_h l0 l1 l2 l3  f_l0 f_l1  hm hE
    · rw [if_neg c2] at hm
      refine pw_l (pc := 51) d99_51 rfl rfl rfl ?_
      refine pw_l (pc := 52) d99_52 rfl rfl rfl ?_
      refine pw_gi (pc := 53) d99_53 (k99_40 b) (sho s_h f_l1) f8_3 ?_
      refine pw_s (pc := 56) d99_56 rfl rfl ?_
      obtain ⟨q3, e_q3, hm⟩ := ob_x hm
      refine pw_v (pc := 57) (k := l1) (by omega) d99_57 (k99_43 b) (by decide) m141 (by decide) rfl (sho s_h f_l1) (Nat.le_of_ble_eq_true rfl) (Nat.le_of_ble_eq_true rfl) rfl rfl (T_t_blame b L xs (d - 1) (by omega) h s_h l1 (h.2.1 l1 3) (Int32.ofInt 1) f_l1 e_q3) (fun v0 h0 hq => ?_)
      obtain ⟨rfl, hh0, s_q3⟩ := hq
      rw [hh0] at s_q3 ⊢
      simp only [Option.toList_some, List.cons_append, List.nil_append]
      obtain ⟨g4, hm⟩ := gd_x hm
      obtain rfl := Option.some.inj hm
      refine pw_ri (pc := 60) d99_60 t99 (pm_nz (mi_bo_x g4)) ?_
      exact hE s_q3
noncomputable def u_readValue_13 (l0 : Nat) (l1 : Nat) (z0 : Int32) (h : pm_H) : Option (Int32 × pm_H) := (t_wordOf l1 7 h).bind fun q1 => if ¬ z0 = 0 then (u_readValue_39 l0 l1 z0 q1 h) else (if 0 ≤ q1 then (u_readValue_39 l0 l1 z0 q1 h) else ((t_blame l1 (h.2.1 l1 3) (Int32.ofInt 0) h).bind fun q4 => if mi_bo q4.1 = true then some (q4.1, q4.2) else none))
theorem t_u_readValue_13 (b : Bool) (L : Nat) (xs : Nat → Int32) (d : Nat) (hd : 9 ≤ d) {Q : Option Value → pm_H → Prop} (h : pm_H) (s_h : h.1 = tb_SH) (l0 : Nat) (l1 : Nat) (z0 : Int32) (w2 : Value) (w3 : Value) (f_l0 : mi_o l0 6 = true) (f_l1 : mi_o l1 8 = true) {r : (Int32 × pm_H)} (hm : u_readValue_13 l0 l1 z0 h = some r) (hE : r.2.1 = tb_SH → Q (some (Value.int r.1)) r.2) : PW b L xs d 99 0 0 13 [(Value.ref l0), (Value.ref l1), w2, w3] [(Value.int z0)] h Q := by
  rw [u_readValue_13] at hm
  refine pw_t (pc := 13) d99_13 rfl rfl rfl rfl ?_
  refine pw_l (pc := 14) d99_14 rfl rfl rfl ?_
  refine pw_tx (pc := 15) d99_15 (k99_92 b) ?_
  obtain ⟨q1, e_q1, hm⟩ := ob_x hm
  refine pw_v (pc := 17) (k := l1) (by omega) d99_17 (k99_94 b) (by decide) m139 (by decide) rfl (sho s_h f_l1) (Nat.le_of_ble_eq_true rfl) (Nat.le_of_ble_eq_true rfl) rfl rfl (T_t_wordOf b L xs (d - 1) (by omega) h s_h l1 7 f_l1 e_q1) (fun v0 h0 hq => ?_)
  obtain ⟨rfl, hh0, s_q1⟩ := hq
  rw [hh0] at s_q1 ⊢
  simp only [Option.toList_some, List.cons_append, List.nil_append]
  refine pw_t (pc := 20) d99_20 rfl rfl rfl rfl ?_
  refine pw_l (pc := 21) d99_21 rfl rfl rfl ?_
  refine pw_zne (pc := 22) (t := 39) d99_22 (by decide) (fun c2 => ?_) (fun c2 => ?_)
  · rw [if_pos c2] at hm
    exact t_u_readValue_39 b L xs d hd h s_h l0 l1 z0 q1  f_l0 f_l1  hm hE
  · rw [if_neg c2] at hm
    refine pw_l (pc := 25) d99_25 rfl rfl rfl ?_
    refine pw_zge (pc := 26) (t := 39) d99_26 (by decide) (fun c3 => ?_) (fun c3 => ?_)
    · rw [if_pos c3] at hm
      exact t_u_readValue_39 b L xs d hd h s_h l0 l1 z0 q1  f_l0 f_l1  hm hE
    · rw [if_neg c3] at hm
      refine pw_l (pc := 29) d99_29 rfl rfl rfl ?_
      refine pw_l (pc := 30) d99_30 rfl rfl rfl ?_
      refine pw_gi (pc := 31) d99_31 (k99_40 b) (sho s_h f_l1) f8_3 ?_
      refine pw_s (pc := 34) d99_34 rfl rfl ?_
      obtain ⟨q4, e_q4, hm⟩ := ob_x hm
      refine pw_v (pc := 35) (k := l1) (by omega) d99_35 (k99_43 b) (by decide) m141 (by decide) rfl (sho s_h f_l1) (Nat.le_of_ble_eq_true rfl) (Nat.le_of_ble_eq_true rfl) rfl rfl (T_t_blame b L xs (d - 1) (by omega) h s_h l1 (h.2.1 l1 3) (Int32.ofInt 0) f_l1 e_q4) (fun v0 h0 hq => ?_)
      obtain ⟨rfl, hh0, s_q4⟩ := hq
      rw [hh0] at s_q4 ⊢
      simp only [Option.toList_some, List.cons_append, List.nil_append]
      obtain ⟨g5, hm⟩ := gd_x hm
      obtain rfl := Option.some.inj hm
      refine pw_ri (pc := 38) d99_38 t99 (pm_nz (mi_bo_x g5)) ?_
      exact hE s_q4
noncomputable def u_readValue (l0 : Nat) (l1 : Nat) (h : pm_H) : Option (Int32 × pm_H) := if ¬ (h.2.1 l1 2) = (Int32.ofInt 1) then (u_readValue_13 l0 l1 (Int32.ofInt 0) h) else (u_readValue_13 l0 l1 (Int32.ofInt 1) h)
theorem T_u_readValue (b : Bool) (L : Nat) (xs : Nat → Int32) (d : Nat) (hd : 9 ≤ d) (h : pm_H) (s_h : h.1 = tb_SH) (l0 : Nat) (l1 : Nat) (f_l0 : mi_o l0 6 = true) (f_l1 : mi_o l1 8 = true) {r : (Int32 × pm_H)} (hm : u_readValue l0 l1 h = some r) : PC b L xs d 99 [(Value.ref l0), (Value.ref l1)] h (fun (v0 : Option Value) (h2 : pm_H) => v0 = (some (Value.int r.1)) ∧ h2 = r.2 ∧ h2.1 = tb_SH) := by
  refine pc_in e99 (ls0 := [(Value.ref l0), (Value.ref l1), Value.retAddr 0, Value.retAddr 0]) rfl ?_
  have key : ∀ (Q : Option Value → pm_H → Prop), (r.2.1 = tb_SH → Q (some (Value.int r.1)) r.2) → PW b L xs d 99 0 0 0 [(Value.ref l0), (Value.ref l1), Value.retAddr 0, Value.retAddr 0] [] h Q := by
    intro Q hE
    rw [u_readValue] at hm
    refine pw_l (pc := 0) d99_0 rfl rfl rfl ?_
    refine pw_gi (pc := 1) d99_1 (k99_64 b) (sho s_h f_l1) f8_2 ?_
    refine pw_s (pc := 4) d99_4 rfl rfl ?_
    refine pw_ine (pc := 5) (t := 12) d99_5 (by decide) (fun c1 => ?_) (fun c1 => ?_)
    · rw [if_pos c1] at hm
      refine pw_s (pc := 12) d99_12 rfl rfl ?_
      exact t_u_readValue_13 b L xs d hd h s_h l0 l1 (Int32.ofInt 0) (Value.retAddr 0) (Value.retAddr 0) f_l0 f_l1  hm hE
    · rw [if_neg c1] at hm
      refine pw_s (pc := 8) d99_8 rfl rfl ?_
      refine pw_go (pc := 9) (t := 13) d99_9 (by decide) ?_
      exact t_u_readValue_13 b L xs d hd h s_h l0 l1 (Int32.ofInt 1) (Value.retAddr 0) (Value.retAddr 0) f_l0 f_l1  hm hE
  exact key _ (fun q => ⟨rfl, rfl, q⟩)
noncomputable def u_letters (l0 : Int32) (l1 : Nat) (l2 : Nat) (l3 : Int32) (h : pm_H) : Option Int64 := (s_hasMan l1 l3 h).bind fun q1 => if ¬ q1 = 0 then (if l0 = ((-11) : Int32) then ((n_living l2 l1 h).bind fun q4 => (i_bitCount q4 h).bind fun q5 => some q5.toInt64) else (if l0 = ((-10) : Int32) then ((gA h l1 4 .int).bind fun y7 => if mi_in l3 (mi_n y7) = true then (u_greatestNeed l1 (h.2.1 y7 l3.toNatClampNeg) h).bind fun q9 => some q9.toInt64 else none) else (if l0 = ((-9) : Int32) then ((u_others l1 l2 l3 h).bind fun q11 => some q11.toInt64) else (if l0 = ((-8) : Int32) then ((gA h l2 6 .int).bind fun y13 => if mi_in l3 (mi_n y13) = true then some ((h.2.1 y13 l3.toNatClampNeg).toInt64) else none) else (if l0 = ((-7) : Int32) then ((gA h l2 5 .int).bind fun y16 => if mi_in l3 (mi_n y16) = true then some ((h.2.1 y16 l3.toNatClampNeg).toInt64) else none) else (if l0 = ((-6) : Int32) then ((i_bitCount ((h.2.1 l2 0) &&& (((Int32.ofInt 1) <<< (l3 &&& 31)) ^^^ (Int32.ofInt (-1)))) h).bind fun q19 => some q19.toInt64) else (if l0 = ((-5) : Int32) then (some ((h.2.1 l2 3).toInt64)) else (if l0 = ((-4) : Int32) then (some ((h.2.1 l2 2).toInt64)) else (if l0 = ((-3) : Int32) then ((gA h l1 5 .int).bind fun y23 => if mi_in l3 (mi_n y23) = true then some ((h.2.1 y23 l3.toNatClampNeg).toInt64) else none) else (if l0 = ((-2) : Int32) then ((gA h l1 4 .int).bind fun y26 => if mi_in l3 (mi_n y26) = true then some ((h.2.1 y26 l3.toNatClampNeg).toInt64) else none) else (if l0 = ((-1) : Int32) then (some l3.toInt64) else (some (Int64.ofNat 0))))))))))))) else (some (Int64.ofNat 0))
theorem T_u_letters (b : Bool) (L : Nat) (xs : Nat → Int32) (d : Nat) (hd : 3 ≤ d) (h : pm_H) (s_h : h.1 = tb_SH) (l0 : Int32) (l1 : Nat) (l2 : Nat) (l3 : Int32) (f_l1 : mi_o l1 7 = true) (f_l2 : mi_o l2 3 = true) {r : Int64} (hm : u_letters l0 l1 l2 l3 h = some r) : PC b L xs d 106 [(Value.int l0), (Value.ref l1), (Value.ref l2), (Value.int l3)] h (fun (v0 : Option Value) (h2 : pm_H) => v0 = (some (Value.long r)) ∧ h2 = h ∧ h2.1 = tb_SH) := by
  refine pc_in e106 (ls0 := [(Value.int l0), (Value.ref l1), (Value.ref l2), (Value.int l3)]) rfl ?_
  have key : ∀ (Q : Option Value → pm_H → Prop), (Q (some (Value.long r)) h) → PW b L xs d 106 0 0 0 [(Value.int l0), (Value.ref l1), (Value.ref l2), (Value.int l3)] [] h Q := by
    intro Q hE
    rw [u_letters] at hm
    refine pw_l (pc := 0) d106_0 rfl rfl rfl ?_
    refine pw_l (pc := 1) d106_1 rfl rfl rfl ?_
    obtain ⟨q1, e_q1, hm⟩ := ob_x hm
    refine pw_v (pc := 2) (k := l1) (by omega) d106_2 (k106_115 b) (by decide) m112 (by decide) rfl (sho s_h f_l1) (Nat.le_of_ble_eq_true rfl) (Nat.le_of_ble_eq_true rfl) rfl rfl (T_s_hasMan b L xs (d - 1) (by omega) h s_h l1 l3 f_l1 e_q1) (fun v0 h0 hq => ?_)
    obtain ⟨rfl, hh0, s_q1⟩ := hq
    rw [hh0] at s_q1 ⊢
    simp only [Option.toList_some, List.cons_append, List.nil_append]
    refine pw_zne (pc := 5) (t := 10) d106_5 (by decide) (fun c2 => ?_) (fun c2 => ?_)
    · rw [if_pos c2] at hm
      refine pw_l (pc := 10) d106_10 rfl rfl rfl ?_
      by_cases c3 : l0 = ((-11) : Int32)
      · rw [if_pos c3] at hm
        refine pw_tin (pc := 11) (t := 150) (off := 139) d106_11 (by rw [c3]; decide) (by rw [c3]; decide +kernel) (by decide) ?_
        refine pw_l (pc := 150) d106_150 rfl rfl rfl ?_
        refine pw_l (pc := 151) d106_151 rfl rfl rfl ?_
        obtain ⟨q4, e_q4, hm⟩ := ob_x hm
        refine pw_v (pc := 152) (k := l2) (by omega) d106_152 (k106_157 b) (by decide) m79 (by decide) rfl (sho s_h f_l2) (Nat.le_of_ble_eq_true rfl) (Nat.le_of_ble_eq_true rfl) rfl rfl (T_n_living b L xs (d - 1) (by omega) h s_h l2 l1 f_l2 f_l1 e_q4) (fun v0 h0 hq => ?_)
        obtain ⟨rfl, hh0, s_q4⟩ := hq
        rw [hh0] at s_q4 ⊢
        simp only [Option.toList_some, List.cons_append, List.nil_append]
        obtain ⟨q5, e_q5, hm⟩ := ob_x hm
        refine pw_u (pc := 155) (by omega) d106_155 (k106_137 b) (by decide) m259 (Nat.le_of_ble_eq_true rfl) (Nat.le_of_ble_eq_true rfl) (Nat.le_of_ble_eq_true rfl) rfl rfl (T_i_bitCount b L xs (d - 1) (by omega) h s_h q4  e_q5) (fun v0 h0 hq => ?_)
        obtain ⟨rfl, hh0, s_q5⟩ := hq
        rw [hh0] at s_q5 ⊢
        simp only [Option.toList_some, List.cons_append, List.nil_append]
        refine pw_s (pc := 158) d106_158 rfl rfl ?_
        obtain rfl := Option.some.inj hm
        refine pw_rl (pc := 159) d106_159 t106 ?_
        exact hE
      rw [if_neg c3] at hm
      by_cases c6 : l0 = ((-10) : Int32)
      · rw [if_pos c6] at hm
        refine pw_tin (pc := 11) (t := 138) (off := 127) d106_11 (by rw [c6]; decide) (by rw [c6]; decide +kernel) (by decide) ?_
        refine pw_l (pc := 138) d106_138 rfl rfl rfl ?_
        refine pw_l (pc := 139) d106_139 rfl rfl rfl ?_
        obtain ⟨y7, e_y7, hm⟩ := ob_x hm
        have f_y7 := gA_x e_y7
        refine pw_gr (pc := 140) d106_140 (k106_120 b) (sho s_h f_l1) f7_4 f_y7.1 ?_
        refine pw_l (pc := 143) d106_143 rfl rfl rfl ?_
        obtain ⟨g8, hm⟩ := gd_x hm
        refine pw_ai (pc := 144) d106_144 (sha s_h f_y7.2) (mi_in_x g8) ?_
        obtain ⟨q9, e_q9, hm⟩ := ob_x hm
        refine pw_u (pc := 145) (by omega) d106_145 (k106_153 b) (by decide) m108 (Nat.le_of_ble_eq_true rfl) (Nat.le_of_ble_eq_true rfl) (Nat.le_of_ble_eq_true rfl) rfl rfl (T_u_greatestNeed b L xs (d - 1) (by omega) h s_h l1 (h.2.1 y7 l3.toNatClampNeg) f_l1 e_q9) (fun v0 h0 hq => ?_)
        obtain ⟨rfl, hh0, s_q9⟩ := hq
        rw [hh0] at s_q9 ⊢
        simp only [Option.toList_some, List.cons_append, List.nil_append]
        refine pw_s (pc := 148) d106_148 rfl rfl ?_
        obtain rfl := Option.some.inj hm
        refine pw_rl (pc := 149) d106_149 t106 ?_
        exact hE
      rw [if_neg c6] at hm
      by_cases c10 : l0 = ((-9) : Int32)
      · rw [if_pos c10] at hm
        refine pw_tin (pc := 11) (t := 130) (off := 119) d106_11 (by rw [c10]; decide) (by rw [c10]; decide +kernel) (by decide) ?_
        refine pw_l (pc := 130) d106_130 rfl rfl rfl ?_
        refine pw_l (pc := 131) d106_131 rfl rfl rfl ?_
        refine pw_l (pc := 132) d106_132 rfl rfl rfl ?_
        obtain ⟨q11, e_q11, hm⟩ := ob_x hm
        refine pw_u (pc := 133) (by omega) d106_133 (k106_149 b) (by decide) m107 (Nat.le_of_ble_eq_true rfl) (Nat.le_of_ble_eq_true rfl) (Nat.le_of_ble_eq_true rfl) rfl rfl (T_u_others b L xs (d - 1) (by omega) h s_h l1 l2 l3 f_l1 f_l2 e_q11) (fun v0 h0 hq => ?_)
        obtain ⟨rfl, hh0, s_q11⟩ := hq
        rw [hh0] at s_q11 ⊢
        simp only [Option.toList_some, List.cons_append, List.nil_append]
        refine pw_s (pc := 136) d106_136 rfl rfl ?_
        obtain rfl := Option.some.inj hm
        refine pw_rl (pc := 137) d106_137 t106 ?_
        exact hE
      rw [if_neg c10] at hm
      by_cases c12 : l0 = ((-8) : Int32)
      · rw [if_pos c12] at hm
        refine pw_tin (pc := 11) (t := 122) (off := 111) d106_11 (by rw [c12]; decide) (by rw [c12]; decide +kernel) (by decide) ?_
        refine pw_l (pc := 122) d106_122 rfl rfl rfl ?_
        obtain ⟨y13, e_y13, hm⟩ := ob_x hm
        have f_y13 := gA_x e_y13
        refine pw_gr (pc := 123) d106_123 (k106_146 b) (sho s_h f_l2) f3_6 f_y13.1 ?_
        refine pw_l (pc := 126) d106_126 rfl rfl rfl ?_
        obtain ⟨g14, hm⟩ := gd_x hm
        refine pw_ai (pc := 127) d106_127 (sha s_h f_y13.2) (mi_in_x g14) ?_
        refine pw_s (pc := 128) d106_128 rfl rfl ?_
        obtain rfl := Option.some.inj hm
        refine pw_rl (pc := 129) d106_129 t106 ?_
        exact hE
      rw [if_neg c12] at hm
      by_cases c15 : l0 = ((-7) : Int32)
      · rw [if_pos c15] at hm
        refine pw_tin (pc := 11) (t := 114) (off := 103) d106_11 (by rw [c15]; decide) (by rw [c15]; decide +kernel) (by decide) ?_
        refine pw_l (pc := 114) d106_114 rfl rfl rfl ?_
        obtain ⟨y16, e_y16, hm⟩ := ob_x hm
        have f_y16 := gA_x e_y16
        refine pw_gr (pc := 115) d106_115 (k106_143 b) (sho s_h f_l2) f3_5 f_y16.1 ?_
        refine pw_l (pc := 118) d106_118 rfl rfl rfl ?_
        obtain ⟨g17, hm⟩ := gd_x hm
        refine pw_ai (pc := 119) d106_119 (sha s_h f_y16.2) (mi_in_x g17) ?_
        refine pw_s (pc := 120) d106_120 rfl rfl ?_
        obtain rfl := Option.some.inj hm
        refine pw_rl (pc := 121) d106_121 t106 ?_
        exact hE
      rw [if_neg c15] at hm
      by_cases c18 : l0 = ((-6) : Int32)
      · rw [if_pos c18] at hm
        refine pw_tin (pc := 11) (t := 99) (off := 88) d106_11 (by rw [c18]; decide) (by rw [c18]; decide +kernel) (by decide) ?_
        refine pw_l (pc := 99) d106_99 rfl rfl rfl ?_
        refine pw_gi (pc := 100) d106_100 (k106_134 b) (sho s_h f_l2) f3_0 ?_
        refine pw_s (pc := 103) d106_103 rfl rfl ?_
        refine pw_l (pc := 104) d106_104 rfl rfl rfl ?_
        refine pw_s (pc := 105) d106_105 rfl rfl ?_
        refine pw_s (pc := 106) d106_106 rfl rfl ?_
        refine pw_s (pc := 107) d106_107 rfl rfl ?_
        refine pw_s (pc := 108) d106_108 rfl rfl ?_
        obtain ⟨q19, e_q19, hm⟩ := ob_x hm
        refine pw_u (pc := 109) (by omega) d106_109 (k106_137 b) (by decide) m259 (Nat.le_of_ble_eq_true rfl) (Nat.le_of_ble_eq_true rfl) (Nat.le_of_ble_eq_true rfl) rfl rfl (T_i_bitCount b L xs (d - 1) (by omega) h s_h ((h.2.1 l2 0) &&& (((Int32.ofInt 1) <<< (l3 &&& 31)) ^^^ (Int32.ofInt (-1))))  e_q19) (fun v0 h0 hq => ?_)
        obtain ⟨rfl, hh0, s_q19⟩ := hq
        rw [hh0] at s_q19 ⊢
        simp only [Option.toList_some, List.cons_append, List.nil_append]
        refine pw_s (pc := 112) d106_112 rfl rfl ?_
        obtain rfl := Option.some.inj hm
        refine pw_rl (pc := 113) d106_113 t106 ?_
        exact hE
      rw [if_neg c18] at hm
      by_cases c20 : l0 = ((-5) : Int32)
      · rw [if_pos c20] at hm
        refine pw_tin (pc := 11) (t := 93) (off := 82) d106_11 (by rw [c20]; decide) (by rw [c20]; decide +kernel) (by decide) ?_
        refine pw_l (pc := 93) d106_93 rfl rfl rfl ?_
        refine pw_gi (pc := 94) d106_94 (k106_131 b) (sho s_h f_l2) f3_3 ?_
        refine pw_s (pc := 97) d106_97 rfl rfl ?_
        obtain rfl := Option.some.inj hm
        refine pw_rl (pc := 98) d106_98 t106 ?_
        exact hE
      rw [if_neg c20] at hm
      by_cases c21 : l0 = ((-4) : Int32)
      · rw [if_pos c21] at hm
        refine pw_tin (pc := 11) (t := 87) (off := 76) d106_11 (by rw [c21]; decide) (by rw [c21]; decide +kernel) (by decide) ?_
        refine pw_l (pc := 87) d106_87 rfl rfl rfl ?_
        refine pw_gi (pc := 88) d106_88 (k106_126 b) (sho s_h f_l2) f3_2 ?_
        refine pw_s (pc := 91) d106_91 rfl rfl ?_
        obtain rfl := Option.some.inj hm
        refine pw_rl (pc := 92) d106_92 t106 ?_
        exact hE
      rw [if_neg c21] at hm
      by_cases c22 : l0 = ((-3) : Int32)
      · rw [if_pos c22] at hm
        refine pw_tin (pc := 11) (t := 79) (off := 68) d106_11 (by rw [c22]; decide) (by rw [c22]; decide +kernel) (by decide) ?_
        refine pw_l (pc := 79) d106_79 rfl rfl rfl ?_
        obtain ⟨y23, e_y23, hm⟩ := ob_x hm
        have f_y23 := gA_x e_y23
        refine pw_gr (pc := 80) d106_80 (k106_123 b) (sho s_h f_l1) f7_5 f_y23.1 ?_
        refine pw_l (pc := 83) d106_83 rfl rfl rfl ?_
        obtain ⟨g24, hm⟩ := gd_x hm
        refine pw_ai (pc := 84) d106_84 (sha s_h f_y23.2) (mi_in_x g24) ?_
        refine pw_s (pc := 85) d106_85 rfl rfl ?_
        obtain rfl := Option.some.inj hm
        refine pw_rl (pc := 86) d106_86 t106 ?_
        exact hE
      rw [if_neg c22] at hm
      by_cases c25 : l0 = ((-2) : Int32)
      · rw [if_pos c25] at hm
        refine pw_tin (pc := 11) (t := 71) (off := 60) d106_11 (by rw [c25]; decide) (by rw [c25]; decide +kernel) (by decide) ?_
        refine pw_l (pc := 71) d106_71 rfl rfl rfl ?_
        obtain ⟨y26, e_y26, hm⟩ := ob_x hm
        have f_y26 := gA_x e_y26
        refine pw_gr (pc := 72) d106_72 (k106_120 b) (sho s_h f_l1) f7_4 f_y26.1 ?_
        refine pw_l (pc := 75) d106_75 rfl rfl rfl ?_
        obtain ⟨g27, hm⟩ := gd_x hm
        refine pw_ai (pc := 76) d106_76 (sha s_h f_y26.2) (mi_in_x g27) ?_
        refine pw_s (pc := 77) d106_77 rfl rfl ?_
        obtain rfl := Option.some.inj hm
        refine pw_rl (pc := 78) d106_78 t106 ?_
        exact hE
      rw [if_neg c25] at hm
      by_cases c28 : l0 = ((-1) : Int32)
      · rw [if_pos c28] at hm
        refine pw_tin (pc := 11) (t := 68) (off := 57) d106_11 (by rw [c28]; decide) (by rw [c28]; decide +kernel) (by decide) ?_
        refine pw_l (pc := 68) d106_68 rfl rfl rfl ?_
        refine pw_s (pc := 69) d106_69 rfl rfl ?_
        obtain rfl := Option.some.inj hm
        refine pw_rl (pc := 70) d106_70 t106 ?_
        exact hE
      rw [if_neg c28] at hm
      refine pw_tout (pc := 11) (t := 160) d106_11 (mi_sw (x := l0) (lo := -11) (n := 11) (by decide) (by decide) (fun j hj => match j, hj with | 0, _ => c3 | 1, _ => c6 | 2, _ => c10 | 3, _ => c12 | 4, _ => c15 | 5, _ => c18 | 6, _ => c20 | 7, _ => c21 | 8, _ => c22 | 9, _ => c25 | 10, _ => c28 | j + 11, h => absurd h (by omega))) (by decide) ?_
      refine pw_s (pc := 160) d106_160 rfl rfl ?_
      obtain rfl := Option.some.inj hm
      refine pw_rl (pc := 161) d106_161 t106 ?_
      exact hE
    · rw [if_neg c2] at hm
      refine pw_s (pc := 8) d106_8 rfl rfl ?_
      obtain rfl := Option.some.inj hm
      refine pw_rl (pc := 9) d106_9 t106 ?_
      exact hE
  exact key _ ⟨rfl, rfl, s_h⟩
def E_u_readSum_11 (b : Bool) (L : Nat) (xs : Nat → Int32) (d : Nat) (Q : Option Value → pm_H → Prop) (l0 : Nat) (l1 : Nat) : ((Int32 × Int32 × Int32 × pm_H) ⊕ (Int32 × Int32 × pm_H) ⊕ (Int32 × Int32 × pm_H)) → Prop
  | .inl s => s.2.2.2.1 = tb_SH → ∀ w5 w6 : Value, PW b L xs d 98 0 0 11 [(Value.ref l0), (Value.ref l1), (Value.int s.1), (Value.int s.2.1), (Value.int s.2.2.1), w5, w6] [] s.2.2.2 Q
  | .inr (.inl e) => e.2.2.1 = tb_SH → ∀ w1 w4 w5 w6 : Value, PW b L xs d 98 0 0 88 [(Value.ref l0), w1, (Value.int e.1), (Value.int e.2.1), w4, w5, w6] [] e.2.2 Q
  | .inr (.inr e) => e.2.2.1 = tb_SH → ∀ w1 w4 w5 w6 : Value, PW b L xs d 98 0 0 150 [(Value.ref l0), w1, (Value.int e.1), (Value.int e.2.1), w4, w5, w6] [] e.2.2 Q
noncomputable def u_readSum_150 (l0 : Nat) (l2 : Int32) (l3 : Int32) (h : pm_H) : Option (Int32 × pm_H) := if l2 < 0 then (if mi_bo l3 = true then some (l3, h) else none) else ((u_step l0 ((Int8.ofInt (-100)).toInt32 - l2) h).bind fun q3 => if mi_bo l3 = true then some (l3, q3) else none)
theorem t_u_readSum_150 (b : Bool) (L : Nat) (xs : Nat → Int32) (d : Nat) (hd : 10 ≤ d) {Q : Option Value → pm_H → Prop} (h : pm_H) (s_h : h.1 = tb_SH) (l0 : Nat) (l2 : Int32) (l3 : Int32) (w1 : Value) (w4 : Value) (w5 : Value) (w6 : Value) (f_l0 : mi_o l0 6 = true) {r : (Int32 × pm_H)} (hm : u_readSum_150 l0 l2 l3 h = some r) (hE : r.2.1 = tb_SH → Q (some (Value.int r.1)) r.2) : PW b L xs d 98 0 0 150 [(Value.ref l0), w1, (Value.int l2), (Value.int l3), w4, w5, w6] [] h Q := by
  rw [u_readSum_150] at hm
  refine pw_l (pc := 150) d98_150 rfl rfl rfl ?_
  refine pw_zlt (pc := 151) (t := 162) d98_151 (by decide) (fun c1 => ?_) (fun c1 => ?_)
  · rw [if_pos c1] at hm
    refine pw_l (pc := 162) d98_162 rfl rfl rfl ?_
    obtain ⟨g2, hm⟩ := gd_x hm
    obtain rfl := Option.some.inj hm
    refine pw_ri (pc := 163) d98_163 t98 (pm_nz (mi_bo_x g2)) ?_
    exact hE s_h
  · rw [if_neg c1] at hm
    refine pw_l (pc := 154) d98_154 rfl rfl rfl ?_
    refine pw_s (pc := 155) d98_155 rfl rfl ?_
    refine pw_l (pc := 157) d98_157 rfl rfl rfl ?_
    refine pw_s (pc := 158) d98_158 rfl rfl ?_
    obtain ⟨q3, e_q3, hm⟩ := ob_x hm
    refine pw_v (pc := 159) (k := l0) (by omega) d98_159 (k98_60 b) (by decide) m101 (by decide) rfl (sho s_h f_l0) (Nat.le_of_ble_eq_true rfl) (Nat.le_of_ble_eq_true rfl) rfl rfl (T_u_step b L xs (d - 1) (by omega) h s_h l0 ((Int8.ofInt (-100)).toInt32 - l2) f_l0 e_q3) (fun v0 h0 hq => ?_)
    obtain ⟨rfl, hh0, s_q3⟩ := hq
    rw [hh0] at s_q3 ⊢
    simp only [Option.toList_none, List.nil_append]
    refine pw_l (pc := 162) d98_162 rfl rfl rfl ?_
    obtain ⟨g4, hm⟩ := gd_x hm
    obtain rfl := Option.some.inj hm
    refine pw_ri (pc := 163) d98_163 t98 (pm_nz (mi_bo_x g4)) ?_
    exact hE s_q3
noncomputable def u_readSum_119 (l0 : Nat) (l1 : Nat) (l4 : Int32) (l5 : Int32) (l6 : Int32) (z0 : Int32) (h : pm_H) : Option ((Int32 × Int32 × Int32 × pm_H) ⊕ (Int32 × Int32 × pm_H) ⊕ (Int32 × Int32 × pm_H)) := (t_advance l1 h).bind fun q1 => (u_readValue l0 l1 q1).bind fun q2 => if l6 = 0 then (some (.inl (z0, q2.1, (l4 + Int32.ofInt 1), q2.2))) else ((u_step l0 ((Int8.ofInt (-100)).toInt32 - l5) q2.2).bind fun q4 => some (.inl (z0, q2.1, (l4 + Int32.ofInt 1), q4)))
theorem t_u_readSum_119 (b : Bool) (L : Nat) (xs : Nat → Int32) (d : Nat) (hd : 10 ≤ d) {Q : Option Value → pm_H → Prop} (h : pm_H) (s_h : h.1 = tb_SH) (l0 : Nat) (l1 : Nat) (l4 : Int32) (l5 : Int32) (l6 : Int32) (z0 : Int32) (w2 : Value) (w3 : Value) (f_l0 : mi_o l0 6 = true) (f_l1 : mi_o l1 8 = true) {r : ((Int32 × Int32 × Int32 × pm_H) ⊕ (Int32 × Int32 × pm_H) ⊕ (Int32 × Int32 × pm_H))} (hm : u_readSum_119 l0 l1 l4 l5 l6 z0 h = some r) (hE : E_u_readSum_11 b L xs d Q l0 l1 r) : PW b L xs d 98 0 0 119 [(Value.ref l0), (Value.ref l1), w2, w3, (Value.int l4), (Value.int l5), (Value.int l6)] [(Value.int z0)] h Q := by
  rw [u_readSum_119] at hm
  refine pw_t (pc := 119) d98_119 rfl rfl rfl rfl ?_
  refine pw_l (pc := 120) d98_120 rfl rfl rfl ?_
  obtain ⟨q1, e_q1, hm⟩ := ob_x hm
  refine pw_v (pc := 121) (k := l1) (by omega) d98_121 (k98_47 b) (by decide) m136 (by decide) rfl (sho s_h f_l1) (Nat.le_of_ble_eq_true rfl) (Nat.le_of_ble_eq_true rfl) rfl rfl (T_t_advance b L xs (d - 1) (by omega) h s_h l1 f_l1 e_q1) (fun v0 h0 hq => ?_)
  obtain ⟨rfl, hh0, s_q1⟩ := hq
  rw [hh0] at s_q1 ⊢
  simp only [Option.toList_none, List.nil_append]
  refine pw_l (pc := 124) d98_124 rfl rfl rfl ?_
  refine pw_l (pc := 125) d98_125 rfl rfl rfl ?_
  obtain ⟨q2, e_q2, hm⟩ := ob_x hm
  refine pw_v (pc := 126) (k := l0) (by omega) d98_126 (k98_89 b) (by decide) m99 (by decide) rfl (sho s_q1 f_l0) (Nat.le_of_ble_eq_true rfl) (Nat.le_of_ble_eq_true rfl) rfl rfl (T_u_readValue b L xs (d - 1) (by omega) q1 s_q1 l0 l1 f_l0 f_l1 e_q2) (fun v0 h0 hq => ?_)
  obtain ⟨rfl, hh0, s_q2⟩ := hq
  rw [hh0] at s_q2 ⊢
  simp only [Option.toList_some, List.cons_append, List.nil_append]
  refine pw_t (pc := 129) d98_129 rfl rfl rfl rfl ?_
  refine pw_l (pc := 130) d98_130 rfl rfl rfl ?_
  refine pw_zeq (pc := 132) (t := 144) d98_132 (by decide) (fun c3 => ?_) (fun c3 => ?_)
  · rw [if_pos c3] at hm
    refine pw_t (pc := 144) d98_144 rfl rfl rfl rfl ?_
    refine pw_go (pc := 147) (t := 11) d98_147 (by decide) ?_
    obtain rfl := Option.some.inj hm
    exact hE s_q2  (Value.int l5) (Value.int l6)
  · rw [if_neg c3] at hm
    refine pw_l (pc := 135) d98_135 rfl rfl rfl ?_
    refine pw_s (pc := 136) d98_136 rfl rfl ?_
    refine pw_l (pc := 138) d98_138 rfl rfl rfl ?_
    refine pw_s (pc := 140) d98_140 rfl rfl ?_
    obtain ⟨q4, e_q4, hm⟩ := ob_x hm
    refine pw_v (pc := 141) (k := l0) (by omega) d98_141 (k98_60 b) (by decide) m101 (by decide) rfl (sho s_q2 f_l0) (Nat.le_of_ble_eq_true rfl) (Nat.le_of_ble_eq_true rfl) rfl rfl (T_u_step b L xs (d - 1) (by omega) q2.2 s_q2 l0 ((Int8.ofInt (-100)).toInt32 - l5) f_l0 e_q4) (fun v0 h0 hq => ?_)
    obtain ⟨rfl, hh0, s_q4⟩ := hq
    rw [hh0] at s_q4 ⊢
    simp only [Option.toList_none, List.nil_append]
    refine pw_t (pc := 144) d98_144 rfl rfl rfl rfl ?_
    refine pw_go (pc := 147) (t := 11) d98_147 (by decide) ?_
    obtain rfl := Option.some.inj hm
    exact hE s_q4  (Value.int l5) (Value.int l6)
noncomputable def u_readSum_108 (l0 : Nat) (l1 : Nat) (l2 : Int32) (l4 : Int32) (l5 : Int32) (l6 : Int32) (h : pm_H) : Option ((Int32 × Int32 × Int32 × pm_H) ⊕ (Int32 × Int32 × pm_H) ⊕ (Int32 × Int32 × pm_H)) := if l6 = 0 then (u_readSum_119 l0 l1 l4 l5 l6 l5 h) else (u_readSum_119 l0 l1 l4 l5 l6 l2 h)
theorem t_u_readSum_108 (b : Bool) (L : Nat) (xs : Nat → Int32) (d : Nat) (hd : 10 ≤ d) {Q : Option Value → pm_H → Prop} (h : pm_H) (s_h : h.1 = tb_SH) (l0 : Nat) (l1 : Nat) (l2 : Int32) (l4 : Int32) (l5 : Int32) (l6 : Int32) (w3 : Value) (f_l0 : mi_o l0 6 = true) (f_l1 : mi_o l1 8 = true) {r : ((Int32 × Int32 × Int32 × pm_H) ⊕ (Int32 × Int32 × pm_H) ⊕ (Int32 × Int32 × pm_H))} (hm : u_readSum_108 l0 l1 l2 l4 l5 l6 h = some r) (hE : E_u_readSum_11 b L xs d Q l0 l1 r) : PW b L xs d 98 0 0 108 [(Value.ref l0), (Value.ref l1), (Value.int l2), w3, (Value.int l4), (Value.int l5), (Value.int l6)] [] h Q := by
  rw [u_readSum_108] at hm
  refine pw_l (pc := 108) d98_108 rfl rfl rfl ?_
  refine pw_zeq (pc := 110) (t := 117) d98_110 (by decide) (fun c1 => ?_) (fun c1 => ?_)
  · rw [if_pos c1] at hm
    refine pw_l (pc := 117) d98_117 rfl rfl rfl ?_
    exact t_u_readSum_119 b L xs d hd h s_h l0 l1 l4 l5 l6 l5 (Value.int l2) w3 f_l0 f_l1  hm hE
  · rw [if_neg c1] at hm
    refine pw_l (pc := 113) d98_113 rfl rfl rfl ?_
    refine pw_go (pc := 114) (t := 119) d98_114 (by decide) ?_
    exact t_u_readSum_119 b L xs d hd h s_h l0 l1 l4 l5 l6 l2 (Value.int l2) w3 f_l0 f_l1  hm hE
noncomputable def u_readSum_91 (l0 : Nat) (l1 : Nat) (l2 : Int32) (l4 : Int32) (l5 : Int32) (l6 : Int32) (h : pm_H) : Option ((Int32 × Int32 × Int32 × pm_H) ⊕ (Int32 × Int32 × pm_H) ⊕ (Int32 × Int32 × pm_H)) := if ¬ l6 = 0 then (u_readSum_108 l0 l1 l2 l4 l5 l6 h) else (if l2 < 0 then (u_readSum_108 l0 l1 l2 l4 l5 l6 h) else ((u_step l0 ((Int8.ofInt (-100)).toInt32 - l2) h).bind fun q3 => u_readSum_108 l0 l1 l2 l4 l5 l6 q3))
theorem t_u_readSum_91 (b : Bool) (L : Nat) (xs : Nat → Int32) (d : Nat) (hd : 10 ≤ d) {Q : Option Value → pm_H → Prop} (h : pm_H) (s_h : h.1 = tb_SH) (l0 : Nat) (l1 : Nat) (l2 : Int32) (l4 : Int32) (l5 : Int32) (l6 : Int32) (w3 : Value) (f_l0 : mi_o l0 6 = true) (f_l1 : mi_o l1 8 = true) {r : ((Int32 × Int32 × Int32 × pm_H) ⊕ (Int32 × Int32 × pm_H) ⊕ (Int32 × Int32 × pm_H))} (hm : u_readSum_91 l0 l1 l2 l4 l5 l6 h = some r) (hE : E_u_readSum_11 b L xs d Q l0 l1 r) : PW b L xs d 98 0 0 91 [(Value.ref l0), (Value.ref l1), (Value.int l2), w3, (Value.int l4), (Value.int l5), (Value.int l6)] [] h Q := by
  rw [u_readSum_91] at hm
  refine pw_l (pc := 91) d98_91 rfl rfl rfl ?_
  refine pw_zne (pc := 93) (t := 108) d98_93 (by decide) (fun c1 => ?_) (fun c1 => ?_)
  · rw [if_pos c1] at hm
    exact t_u_readSum_108 b L xs d hd h s_h l0 l1 l2 l4 l5 l6 w3 f_l0 f_l1  hm hE
  · rw [if_neg c1] at hm
    refine pw_l (pc := 96) d98_96 rfl rfl rfl ?_
    refine pw_zlt (pc := 97) (t := 108) d98_97 (by decide) (fun c2 => ?_) (fun c2 => ?_)
    · rw [if_pos c2] at hm
      exact t_u_readSum_108 b L xs d hd h s_h l0 l1 l2 l4 l5 l6 w3 f_l0 f_l1  hm hE
    · rw [if_neg c2] at hm
      refine pw_l (pc := 100) d98_100 rfl rfl rfl ?_
      refine pw_s (pc := 101) d98_101 rfl rfl ?_
      refine pw_l (pc := 103) d98_103 rfl rfl rfl ?_
      refine pw_s (pc := 104) d98_104 rfl rfl ?_
      obtain ⟨q3, e_q3, hm⟩ := ob_x hm
      refine pw_v (pc := 105) (k := l0) (by omega) d98_105 (k98_60 b) (by decide) m101 (by decide) rfl (sho s_h f_l0) (Nat.le_of_ble_eq_true rfl) (Nat.le_of_ble_eq_true rfl) rfl rfl (T_u_step b L xs (d - 1) (by omega) h s_h l0 ((Int8.ofInt (-100)).toInt32 - l2) f_l0 e_q3) (fun v0 h0 hq => ?_)
      obtain ⟨rfl, hh0, s_q3⟩ := hq
      rw [hh0] at s_q3 ⊢
      simp only [Option.toList_none, List.nil_append]
      exact t_u_readSum_108 b L xs d hd q3 s_q3 l0 l1 l2 l4 l5 l6 w3 f_l0 f_l1  hm hE
noncomputable def u_readSum_67 (l0 : Nat) (l1 : Nat) (l2 : Int32) (l3 : Int32) (l4 : Int32) (l5 : Int32) (z0 : Int32) (h : pm_H) : Option ((Int32 × Int32 × Int32 × pm_H) ⊕ (Int32 × Int32 × pm_H) ⊕ (Int32 × Int32 × pm_H)) := if ¬ z0 = 0 then (u_readSum_91 l0 l1 l2 l4 l5 z0 h) else (if l5 = (Int8.ofInt 43).toInt32 then (u_readSum_91 l0 l1 l2 l4 l5 z0 h) else (if l5 = (Int8.ofInt 45).toInt32 then (u_readSum_91 l0 l1 l2 l4 l5 z0 h) else (some (.inr (.inl (l2, l3, h))))))
theorem t_u_readSum_67 (b : Bool) (L : Nat) (xs : Nat → Int32) (d : Nat) (hd : 10 ≤ d) {Q : Option Value → pm_H → Prop} (h : pm_H) (s_h : h.1 = tb_SH) (l0 : Nat) (l1 : Nat) (l2 : Int32) (l3 : Int32) (l4 : Int32) (l5 : Int32) (z0 : Int32) (w6 : Value) (f_l0 : mi_o l0 6 = true) (f_l1 : mi_o l1 8 = true) {r : ((Int32 × Int32 × Int32 × pm_H) ⊕ (Int32 × Int32 × pm_H) ⊕ (Int32 × Int32 × pm_H))} (hm : u_readSum_67 l0 l1 l2 l3 l4 l5 z0 h = some r) (hE : E_u_readSum_11 b L xs d Q l0 l1 r) : PW b L xs d 98 0 0 67 [(Value.ref l0), (Value.ref l1), (Value.int l2), (Value.int l3), (Value.int l4), (Value.int l5), w6] [(Value.int z0)] h Q := by
  rw [u_readSum_67] at hm
  refine pw_t (pc := 67) d98_67 rfl rfl rfl rfl ?_
  refine pw_l (pc := 69) d98_69 rfl rfl rfl ?_
  refine pw_zne (pc := 71) (t := 91) d98_71 (by decide) (fun c1 => ?_) (fun c1 => ?_)
  · rw [if_pos c1] at hm
    exact t_u_readSum_91 b L xs d hd h s_h l0 l1 l2 l4 l5 z0 (Value.int l3) f_l0 f_l1  hm hE
  · rw [if_neg c1] at hm
    refine pw_l (pc := 74) d98_74 rfl rfl rfl ?_
    refine pw_s (pc := 76) d98_76 rfl rfl ?_
    refine pw_ieq (pc := 78) (t := 91) d98_78 (by decide) (fun c2 => ?_) (fun c2 => ?_)
    · rw [if_pos c2] at hm
      exact t_u_readSum_91 b L xs d hd h s_h l0 l1 l2 l4 l5 z0 (Value.int l3) f_l0 f_l1  hm hE
    · rw [if_neg c2] at hm
      refine pw_l (pc := 81) d98_81 rfl rfl rfl ?_
      refine pw_s (pc := 83) d98_83 rfl rfl ?_
      refine pw_ieq (pc := 85) (t := 91) d98_85 (by decide) (fun c3 => ?_) (fun c3 => ?_)
      · rw [if_pos c3] at hm
        exact t_u_readSum_91 b L xs d hd h s_h l0 l1 l2 l4 l5 z0 (Value.int l3) f_l0 f_l1  hm hE
      · rw [if_neg c3] at hm
        obtain rfl := Option.some.inj hm
        exact hE s_h  (Value.ref l1) (Value.int l4) (Value.int l5) (Value.int z0)
noncomputable def u_readSum_62 (l0 : Nat) (l1 : Nat) (l2 : Int32) (l3 : Int32) (l4 : Int32) (l5 : Int32) (h : pm_H) : Option ((Int32 × Int32 × Int32 × pm_H) ⊕ (Int32 × Int32 × pm_H) ⊕ (Int32 × Int32 × pm_H)) := u_readSum_67 l0 l1 l2 l3 l4 l5 (Int32.ofInt 1) h
theorem t_u_readSum_62 (b : Bool) (L : Nat) (xs : Nat → Int32) (d : Nat) (hd : 10 ≤ d) {Q : Option Value → pm_H → Prop} (h : pm_H) (s_h : h.1 = tb_SH) (l0 : Nat) (l1 : Nat) (l2 : Int32) (l3 : Int32) (l4 : Int32) (l5 : Int32) (w6 : Value) (f_l0 : mi_o l0 6 = true) (f_l1 : mi_o l1 8 = true) {r : ((Int32 × Int32 × Int32 × pm_H) ⊕ (Int32 × Int32 × pm_H) ⊕ (Int32 × Int32 × pm_H))} (hm : u_readSum_62 l0 l1 l2 l3 l4 l5 h = some r) (hE : E_u_readSum_11 b L xs d Q l0 l1 r) : PW b L xs d 98 0 0 62 [(Value.ref l0), (Value.ref l1), (Value.int l2), (Value.int l3), (Value.int l4), (Value.int l5), w6] [] h Q := by
  rw [u_readSum_62] at hm
  refine pw_s (pc := 62) d98_62 rfl rfl ?_
  refine pw_go (pc := 63) (t := 67) d98_63 (by decide) ?_
  exact t_u_readSum_67 b L xs d hd h s_h l0 l1 l2 l3 l4 l5 (Int32.ofInt 1) w6 f_l0 f_l1  hm hE
noncomputable def u_readSum_39 (l0 : Nat) (l1 : Nat) (l2 : Int32) (l3 : Int32) (l4 : Int32) (z0 : Int32) (h : pm_H) : Option ((Int32 × Int32 × Int32 × pm_H) ⊕ (Int32 × Int32 × pm_H) ⊕ (Int32 × Int32 × pm_H)) := if z0 = (Int8.ofInt 42).toInt32 then (u_readSum_62 l0 l1 l2 l3 l4 z0 h) else (if z0 = (Int8.ofInt 47).toInt32 then (u_readSum_62 l0 l1 l2 l3 l4 z0 h) else (if ¬ z0 = (Int8.ofInt 37).toInt32 then (u_readSum_67 l0 l1 l2 l3 l4 z0 (Int32.ofInt 0) h) else (u_readSum_62 l0 l1 l2 l3 l4 z0 h)))
theorem t_u_readSum_39 (b : Bool) (L : Nat) (xs : Nat → Int32) (d : Nat) (hd : 10 ≤ d) {Q : Option Value → pm_H → Prop} (h : pm_H) (s_h : h.1 = tb_SH) (l0 : Nat) (l1 : Nat) (l2 : Int32) (l3 : Int32) (l4 : Int32) (z0 : Int32) (w5 : Value) (w6 : Value) (f_l0 : mi_o l0 6 = true) (f_l1 : mi_o l1 8 = true) {r : ((Int32 × Int32 × Int32 × pm_H) ⊕ (Int32 × Int32 × pm_H) ⊕ (Int32 × Int32 × pm_H))} (hm : u_readSum_39 l0 l1 l2 l3 l4 z0 h = some r) (hE : E_u_readSum_11 b L xs d Q l0 l1 r) : PW b L xs d 98 0 0 39 [(Value.ref l0), (Value.ref l1), (Value.int l2), (Value.int l3), (Value.int l4), w5, w6] [(Value.int z0)] h Q := by
  rw [u_readSum_39] at hm
  refine pw_t (pc := 39) d98_39 rfl rfl rfl rfl ?_
  refine pw_l (pc := 41) d98_41 rfl rfl rfl ?_
  refine pw_s (pc := 43) d98_43 rfl rfl ?_
  refine pw_ieq (pc := 45) (t := 62) d98_45 (by decide) (fun c1 => ?_) (fun c1 => ?_)
  · rw [if_pos c1] at hm
    exact t_u_readSum_62 b L xs d hd h s_h l0 l1 l2 l3 l4 z0 w6 f_l0 f_l1  hm hE
  · rw [if_neg c1] at hm
    refine pw_l (pc := 48) d98_48 rfl rfl rfl ?_
    refine pw_s (pc := 50) d98_50 rfl rfl ?_
    refine pw_ieq (pc := 52) (t := 62) d98_52 (by decide) (fun c2 => ?_) (fun c2 => ?_)
    · rw [if_pos c2] at hm
      exact t_u_readSum_62 b L xs d hd h s_h l0 l1 l2 l3 l4 z0 w6 f_l0 f_l1  hm hE
    · rw [if_neg c2] at hm
      refine pw_l (pc := 55) d98_55 rfl rfl rfl ?_
      refine pw_s (pc := 57) d98_57 rfl rfl ?_
      refine pw_ine (pc := 59) (t := 66) d98_59 (by decide) (fun c3 => ?_) (fun c3 => ?_)
      · rw [if_pos c3] at hm
        refine pw_s (pc := 66) d98_66 rfl rfl ?_
        exact t_u_readSum_67 b L xs d hd h s_h l0 l1 l2 l3 l4 z0 (Int32.ofInt 0) w6 f_l0 f_l1  hm hE
      · rw [if_neg c3] at hm
        exact t_u_readSum_62 b L xs d hd h s_h l0 l1 l2 l3 l4 z0 w6 f_l0 f_l1  hm hE
noncomputable def u_readSum_11 (l0 : Nat) (l1 : Nat) (l2 : Int32) (l3 : Int32) (l4 : Int32) (h : pm_H) : Option ((Int32 × Int32 × Int32 × pm_H) ⊕ (Int32 × Int32 × pm_H) ⊕ (Int32 × Int32 × pm_H)) := if l3 = 0 then (some (.inr (.inr (l2, l3, h)))) else (if (Int16.ofInt 400).toInt32 ≤ l4 then (some (.inr (.inr (l2, l3, h)))) else (if ¬ (h.2.1 l1 2) = (Int32.ofInt 3) then (u_readSum_39 l0 l1 l2 l3 l4 (Int32.ofInt (-1)) h) else (u_readSum_39 l0 l1 l2 l3 l4 (h.2.1 l1 6) h)))
theorem t_u_readSum_11 (b : Bool) (L : Nat) (xs : Nat → Int32) (d : Nat) (hd : 10 ≤ d) {Q : Option Value → pm_H → Prop} (h : pm_H) (s_h : h.1 = tb_SH) (l0 : Nat) (l1 : Nat) (l2 : Int32) (l3 : Int32) (l4 : Int32) (w5 : Value) (w6 : Value) (f_l0 : mi_o l0 6 = true) (f_l1 : mi_o l1 8 = true) {r : ((Int32 × Int32 × Int32 × pm_H) ⊕ (Int32 × Int32 × pm_H) ⊕ (Int32 × Int32 × pm_H))} (hm : u_readSum_11 l0 l1 l2 l3 l4 h = some r) (hE : E_u_readSum_11 b L xs d Q l0 l1 r) : PW b L xs d 98 0 0 11 [(Value.ref l0), (Value.ref l1), (Value.int l2), (Value.int l3), (Value.int l4), w5, w6] [] h Q := by
  rw [u_readSum_11] at hm
  refine pw_l (pc := 11) d98_11 rfl rfl rfl ?_
  refine pw_zeq (pc := 12) (t := 150) d98_12 (by decide) (fun c1 => ?_) (fun c1 => ?_)
  · rw [if_pos c1] at hm
    obtain rfl := Option.some.inj hm
    exact hE s_h  (Value.ref l1) (Value.int l4) w5 w6
  · rw [if_neg c1] at hm
    refine pw_l (pc := 15) d98_15 rfl rfl rfl ?_
    refine pw_s (pc := 17) d98_17 rfl rfl ?_
    refine pw_ige (pc := 20) (t := 150) d98_20 (by decide) (fun c2 => ?_) (fun c2 => ?_)
    · rw [if_pos c2] at hm
      obtain rfl := Option.some.inj hm
      exact hE s_h  (Value.ref l1) (Value.int l4) w5 w6
    · rw [if_neg c2] at hm
      refine pw_l (pc := 23) d98_23 rfl rfl rfl ?_
      refine pw_gi (pc := 24) d98_24 (k98_64 b) (sho s_h f_l1) f8_2 ?_
      refine pw_s (pc := 27) d98_27 rfl rfl ?_
      refine pw_ine (pc := 28) (t := 38) d98_28 (by decide) (fun c3 => ?_) (fun c3 => ?_)
      · rw [if_pos c3] at hm
        refine pw_s (pc := 38) d98_38 rfl rfl ?_
        exact t_u_readSum_39 b L xs d hd h s_h l0 l1 l2 l3 l4 (Int32.ofInt (-1)) w5 w6 f_l0 f_l1  hm hE
      · rw [if_neg c3] at hm
        refine pw_l (pc := 31) d98_31 rfl rfl rfl ?_
        refine pw_gi (pc := 32) d98_32 (k98_83 b) (sho s_h f_l1) f8_6 ?_
        refine pw_go (pc := 35) (t := 39) d98_35 (by decide) ?_
        exact t_u_readSum_39 b L xs d hd h s_h l0 l1 l2 l3 l4 (h.2.1 l1 6) w5 w6 f_l0 f_l1  hm hE
noncomputable def u_readSum (l0 : Nat) (l1 : Nat) (h : pm_H) : Option (Int32 × pm_H) := (u_readValue l0 l1 h).bind fun q1 => (wh (fun s : (Int32 × Int32 × Int32 × pm_H) => u_readSum_11 l0 l1 s.1 s.2.1 s.2.2.1 s.2.2.2) ((Int32.ofInt (-1)), q1.1, (Int32.ofInt 0), q1.2)).bind fun q2 => (match q2 with | (.inl eq2_0) => u_readSum_150 l0 eq2_0.1 eq2_0.2.1 eq2_0.2.2 | (.inr eq2_1) => u_readSum_150 l0 eq2_1.1 eq2_1.2.1 eq2_1.2.2)
theorem T_u_readSum (b : Bool) (L : Nat) (xs : Nat → Int32) (d : Nat) (hd : 10 ≤ d) (h : pm_H) (s_h : h.1 = tb_SH) (l0 : Nat) (l1 : Nat) (f_l0 : mi_o l0 6 = true) (f_l1 : mi_o l1 8 = true) {r : (Int32 × pm_H)} (hm : u_readSum l0 l1 h = some r) : PC b L xs d 98 [(Value.ref l0), (Value.ref l1)] h (fun (v0 : Option Value) (h2 : pm_H) => v0 = (some (Value.int r.1)) ∧ h2 = r.2 ∧ h2.1 = tb_SH) := by
  refine pc_in e98 (ls0 := [(Value.ref l0), (Value.ref l1), Value.retAddr 0, Value.retAddr 0, Value.retAddr 0, Value.retAddr 0, Value.retAddr 0]) rfl ?_
  have key : ∀ (Q : Option Value → pm_H → Prop), (r.2.1 = tb_SH → Q (some (Value.int r.1)) r.2) → PW b L xs d 98 0 0 0 [(Value.ref l0), (Value.ref l1), Value.retAddr 0, Value.retAddr 0, Value.retAddr 0, Value.retAddr 0, Value.retAddr 0] [] h Q := by
    intro Q hE
    rw [u_readSum] at hm
    refine pw_s (pc := 0) d98_0 rfl rfl ?_
    refine pw_t (pc := 1) d98_1 rfl rfl rfl rfl ?_
    refine pw_l (pc := 2) d98_2 rfl rfl rfl ?_
    refine pw_l (pc := 3) d98_3 rfl rfl rfl ?_
    obtain ⟨q1, e_q1, hm⟩ := ob_x hm
    refine pw_v (pc := 4) (k := l0) (by omega) d98_4 (k98_89 b) (by decide) m99 (by decide) rfl (sho s_h f_l0) (Nat.le_of_ble_eq_true rfl) (Nat.le_of_ble_eq_true rfl) rfl rfl (T_u_readValue b L xs (d - 1) (by omega) h s_h l0 l1 f_l0 f_l1 e_q1) (fun v0 h0 hq => ?_)
    obtain ⟨rfl, hh0, s_q1⟩ := hq
    rw [hh0] at s_q1 ⊢
    simp only [Option.toList_some, List.cons_append, List.nil_append]
    refine pw_t (pc := 7) d98_7 rfl rfl rfl rfl ?_
    refine pw_s (pc := 8) d98_8 rfl rfl ?_
    refine pw_t (pc := 9) d98_9 rfl rfl rfl rfl ?_
    obtain ⟨q2, e_q2, hm⟩ := ob_x hm
    refine wh_ind e_q2 (fun s : (Int32 × Int32 × Int32 × pm_H) => s.2.2.2.1 = tb_SH → ∀ w5 w6 : Value, PW b L xs d 98 0 0 11 [(Value.ref l0), (Value.ref l1), (Value.int s.1), (Value.int s.2.1), (Value.int s.2.2.1), w5, w6] [] s.2.2.2 Q) (fun s s2 hf ih sx w5 w6 => t_u_readSum_11 b L xs d hd s.2.2.2 sx l0 l1 s.1 s.2.1 s.2.2.1 w5 w6 f_l0 f_l1 hf ih) (fun s hf sx w5 w6 => t_u_readSum_11 b L xs d hd s.2.2.2 sx l0 l1 s.1 s.2.1 s.2.2.1 w5 w6 f_l0 f_l1 hf ?_) s_q1  (Value.retAddr 0) (Value.retAddr 0)
    rcases q2 with eq2_0 | eq2_1
    · dsimp only at hm
      intro s_q2_0 w1 w4 w5 w6
      refine pw_go (pc := 88) (t := 150) d98_88 (by decide) ?_
      exact t_u_readSum_150 b L xs d hd eq2_0.2.2 s_q2_0 l0 eq2_0.1 eq2_0.2.1 w1 w4 w5 w6 f_l0  hm hE
    · dsimp only at hm
      intro s_q2_1 w1 w4 w5 w6
      exact t_u_readSum_150 b L xs d hd eq2_1.2.2 s_q2_1 l0 eq2_1.1 eq2_1.2.1 w1 w4 w5 w6 f_l0  hm hE
  exact key _ (fun q => ⟨rfl, rfl, q⟩)
def E_u_wakes_8 (b : Bool) (L : Nat) (xs : Nat → Int32) (d : Nat) (Q : Option Value → pm_H → Prop) (l0 : Nat) (l1 : Nat) (l2 : Nat) (l3 : Int32) : ((Int32 × pm_H) ⊕ pm_H ⊕ (Int64 × pm_H) ⊕ pm_H) → Prop
  | .inl s => s.2.1 = tb_SH → ∀ w5 w6 w7 w8 w9 : Value, PW b L xs d 102 0 0 8 [(Value.ref l0), (Value.ref l1), (Value.ref l2), (Value.int l3), (Value.int s.1), w5, w6, w7, w8, w9] [] s.2 Q
  | .inr (.inl e) => e.1 = tb_SH → ∀ w1 w2 w3 w4 w5 w6 w7 w8 w9 : Value, PW b L xs d 102 0 0 43 [(Value.ref l0), w1, w2, w3, w4, w5, w6, w7, w8, w9] [] e Q
  | .inr (.inr (.inl e)) => e.2.1 = tb_SH → ∀ w0 w1 w2 w3 w4 w5 w6 w9 : Value, PW b L xs d 102 0 0 92 [w0, w1, w2, w3, w4, w5, w6, (Value.long e.1), Value.retAddr 0, w9] [] e.2 Q
  | .inr (.inr (.inr e)) => e.1 = tb_SH → ∀ w0 w1 w2 w3 w4 w5 w6 w7 w8 w9 : Value, PW b L xs d 102 0 0 204 [w0, w1, w2, w3, w4, w5, w6, w7, w8, w9] [] e Q
noncomputable def u_wakes_167 (l0 : Nat) (l1 : Nat) (l2 : Nat) (l3 : Int32) (l4 : Int32) (z0 : Int64) (z1 : Nat) (h : pm_H) : Option ((Int32 × pm_H) ⊕ pm_H ⊕ (Int64 × pm_H) ⊕ pm_H) := (u_push z1 z0 h).bind fun q1 => some (.inl ((l4 + Int32.ofInt 1), q1))
theorem t_u_wakes_167 (b : Bool) (L : Nat) (xs : Nat → Int32) (d : Nat) (hd : 4 ≤ d) {Q : Option Value → pm_H → Prop} (h : pm_H) (s_h : h.1 = tb_SH) (l0 : Nat) (l1 : Nat) (l2 : Nat) (l3 : Int32) (l4 : Int32) (z0 : Int64) (z1 : Nat) (w5 : Value) (w6 : Value) (w7 : Value) (w8 : Value) (w9 : Value) (f_l0 : mi_o l0 6 = true) (f_l1 : mi_o l1 7 = true) (f_l2 : mi_o l2 3 = true) (f_z1 : mi_o z1 6 = true) {r : ((Int32 × pm_H) ⊕ pm_H ⊕ (Int64 × pm_H) ⊕ pm_H)} (hm : u_wakes_167 l0 l1 l2 l3 l4 z0 z1 h = some r) (hE : E_u_wakes_8 b L xs d Q l0 l1 l2 l3 r) : PW b L xs d 102 0 0 167 [(Value.ref l0), (Value.ref l1), (Value.ref l2), (Value.int l3), (Value.int l4), w5, w6, w7, w8, w9] [(Value.long z0), (Value.ref z1)] h Q := by
  rw [u_wakes_167] at hm
  obtain ⟨q1, e_q1, hm⟩ := ob_x hm
  refine pw_v (pc := 167) (k := z1) (by omega) d102_167 (k102_103 b) (by decide) m103 (by decide) rfl (sho s_h f_z1) (Nat.le_of_ble_eq_true rfl) (Nat.le_of_ble_eq_true rfl) rfl rfl (T_u_push b L xs (d - 1) (by omega) h s_h z1 z0 f_z1 e_q1) (fun v0 h0 hq => ?_)
  obtain ⟨rfl, hh0, s_q1⟩ := hq
  rw [hh0] at s_q1 ⊢
  simp only [Option.toList_none, List.nil_append]
  refine pw_go (pc := 170) (t := 198) d102_170 (by decide) ?_
  refine pw_t (pc := 198) d102_198 rfl rfl rfl rfl ?_
  refine pw_go (pc := 201) (t := 8) d102_201 (by decide) ?_
  obtain rfl := Option.some.inj hm
  exact hE s_q1  w5 w6 w7 w8 w9
noncomputable def u_wakes_79 (l0 : Nat) (l1 : Nat) (l2 : Nat) (l3 : Int32) (l4 : Int32) (z0 : Int32) (h : pm_H) : Option ((Int32 × pm_H) ⊕ pm_H ⊕ (Int64 × pm_H) ⊕ pm_H) := (u_pop l0 h).bind fun q1 => if z0 = 0 then (some (.inl ((l4 + Int32.ofInt 1), q1.2))) else (some (.inr (.inr (.inl (q1.1, q1.2)))))
theorem t_u_wakes_79 (b : Bool) (L : Nat) (xs : Nat → Int32) (d : Nat) (hd : 4 ≤ d) {Q : Option Value → pm_H → Prop} (h : pm_H) (s_h : h.1 = tb_SH) (l0 : Nat) (l1 : Nat) (l2 : Nat) (l3 : Int32) (l4 : Int32) (z0 : Int32) (w5 : Value) (w6 : Value) (w7 : Value) (w8 : Value) (w9 : Value) (f_l0 : mi_o l0 6 = true) (f_l1 : mi_o l1 7 = true) (f_l2 : mi_o l2 3 = true) {r : ((Int32 × pm_H) ⊕ pm_H ⊕ (Int64 × pm_H) ⊕ pm_H)} (hm : u_wakes_79 l0 l1 l2 l3 l4 z0 h = some r) (hE : E_u_wakes_8 b L xs d Q l0 l1 l2 l3 r) : PW b L xs d 102 0 0 79 [(Value.ref l0), (Value.ref l1), (Value.ref l2), (Value.int l3), (Value.int l4), w5, w6, w7, w8, w9] [(Value.int z0)] h Q := by
  rw [u_wakes_79] at hm
  refine pw_t (pc := 79) d102_79 rfl rfl rfl (n := 2) (ls' := [(Value.ref l0), (Value.ref l1), (Value.ref l2), (Value.int l3), (Value.int l4), (mi_w w5), (Value.int z0), w7, w8, w9]) (st' := []) (by by_cases hw : Value.category w5 = 2 <;> simp [pm_sto, pm_sI, pm_sL, pm_sA, pm_inc, pm_st1, pm_st2, pm_pre, mi_w, hw] <;> first | done | exact ⟨by decide, rfl⟩ | rfl) ?_
  refine pw_l (pc := 81) d102_81 rfl rfl rfl ?_
  obtain ⟨q1, e_q1, hm⟩ := ob_x hm
  refine pw_v (pc := 82) (k := l0) (by omega) d102_82 (k102_99 b) (by decide) m104 (by decide) rfl (sho s_h f_l0) (Nat.le_of_ble_eq_true rfl) (Nat.le_of_ble_eq_true rfl) rfl rfl (T_u_pop b L xs (d - 1) (by omega) h s_h l0 f_l0 e_q1) (fun v0 h0 hq => ?_)
  obtain ⟨rfl, hh0, s_q1⟩ := hq
  rw [hh0] at s_q1 ⊢
  simp only [Option.toList_some, List.cons_append, List.nil_append]
  refine pw_t (pc := 85) d102_85 rfl rfl rfl rfl ?_
  refine pw_l (pc := 87) d102_87 rfl rfl rfl ?_
  refine pw_zeq (pc := 89) (t := 105) d102_89 (by decide) (fun c2 => ?_) (fun c2 => ?_)
  · rw [if_pos c2] at hm
    refine pw_go (pc := 105) (t := 198) d102_105 (by decide) ?_
    refine pw_t (pc := 198) d102_198 rfl rfl rfl rfl ?_
    refine pw_go (pc := 201) (t := 8) d102_201 (by decide) ?_
    obtain rfl := Option.some.inj hm
    exact hE s_q1  (mi_w w5) (Value.int z0) (Value.long q1.1) (Value.retAddr 0) w9
  · rw [if_neg c2] at hm
    obtain rfl := Option.some.inj hm
    exact hE s_q1  (Value.ref l0) (Value.ref l1) (Value.ref l2) (Value.int l3) (Value.int l4) (mi_w w5) (Value.int z0) w9
noncomputable def u_wakes_8 (l0 : Nat) (l1 : Nat) (l2 : Nat) (l3 : Int32) (l4 : Int32) (h : pm_H) : Option ((Int32 × pm_H) ⊕ pm_H ⊕ (Int64 × pm_H) ⊕ pm_H) := if (h.2.1 l0 1) ≤ l4 then (some (.inr (.inr (.inr h)))) else ((gA h l0 0 .int).bind fun y2 => if (Int32.ofNat (mi_n y2)) ≤ l4 then (some (.inr (.inr (.inr h)))) else ((gA h l0 0 .int).bind fun y4 => if mi_in l4 (mi_n y4) = true then if ¬ (h.2.1 y4 l4.toNatClampNeg) = (Int8.ofInt (-15)).toInt32 then (if ¬ (h.2.1 y4 l4.toNatClampNeg) = (Int8.ofInt (-16)).toInt32 then (if (h.2.1 y4 l4.toNatClampNeg) < 0 then (if (h.2.1 y4 l4.toNatClampNeg) < (Int8.ofInt (-11)).toInt32 then (if ¬ (h.2.1 y4 l4.toNatClampNeg) = (Int8.ofInt (-12)).toInt32 then ((u_pop l0 h).bind fun q11 => (u_pop l0 q11.2).bind fun q12 => (u_combined (h.2.1 y4 l4.toNatClampNeg) q12.1 q11.1 q12.2).bind fun q13 => (u_push l0 q13 q12.2).bind fun q14 => some (.inl ((l4 + Int32.ofInt 1), q14))) else ((u_pop l0 h).bind fun q15 => if ¬ (lg_cmp q15.1 (Int64.ofNat 0)) = 0 then (u_wakes_167 l0 l1 l2 l3 l4 (Int64.ofNat 0) l0 q15.2) else (u_wakes_167 l0 l1 l2 l3 l4 (Int64.ofNat 1) l0 q15.2))) else ((u_letters (h.2.1 y4 l4.toNatClampNeg) l1 l2 l3 h).bind fun q17 => (u_push l0 q17 h).bind fun q18 => some (.inl ((l4 + Int32.ofInt 1), q18)))) else ((u_push l0 ((h.2.1 y4 l4.toNatClampNeg).toInt64) h).bind fun q19 => some (.inl ((l4 + Int32.ofInt 1), q19)))) else ((u_pop l0 h).bind fun q20 => if (lg_cmp q20.1 (Int64.ofNat 0)) = 0 then (u_wakes_79 l0 l1 l2 l3 l4 (Int32.ofInt 0) q20.2) else (u_wakes_79 l0 l1 l2 l3 l4 (Int32.ofInt 1) q20.2))) else (some (.inr (.inl h))) else none))
theorem t_u_wakes_8 (b : Bool) (L : Nat) (xs : Nat → Int32) (d : Nat) (hd : 4 ≤ d) {Q : Option Value → pm_H → Prop} (h : pm_H) (s_h : h.1 = tb_SH) (l0 : Nat) (l1 : Nat) (l2 : Nat) (l3 : Int32) (l4 : Int32) (w5 : Value) (w6 : Value) (w7 : Value) (w8 : Value) (w9 : Value) (f_l0 : mi_o l0 6 = true) (f_l1 : mi_o l1 7 = true) (f_l2 : mi_o l2 3 = true) {r : ((Int32 × pm_H) ⊕ pm_H ⊕ (Int64 × pm_H) ⊕ pm_H)} (hm : u_wakes_8 l0 l1 l2 l3 l4 h = some r) (hE : E_u_wakes_8 b L xs d Q l0 l1 l2 l3 r) : PW b L xs d 102 0 0 8 [(Value.ref l0), (Value.ref l1), (Value.ref l2), (Value.int l3), (Value.int l4), w5, w6, w7, w8, w9] [] h Q := by
  rw [u_wakes_8] at hm
  refine pw_l (pc := 8) d102_8 rfl rfl rfl ?_
  refine pw_l (pc := 10) d102_10 rfl rfl rfl ?_
  refine pw_gi (pc := 11) d102_11 (k102_15 b) (sho s_h f_l0) f6_1 ?_
  refine pw_ige (pc := 14) (t := 204) d102_14 (by decide) (fun c1 => ?_) (fun c1 => ?_)
  · rw [if_pos c1] at hm
    obtain rfl := Option.some.inj hm
    exact hE s_h  (Value.ref l0) (Value.ref l1) (Value.ref l2) (Value.int l3) (Value.int l4) w5 w6 w7 w8 w9
  · rw [if_neg c1] at hm
    refine pw_l (pc := 17) d102_17 rfl rfl rfl ?_
    refine pw_l (pc := 19) d102_19 rfl rfl rfl ?_
    obtain ⟨y2, e_y2, hm⟩ := ob_x hm
    have f_y2 := gA_x e_y2
    refine pw_gr (pc := 20) d102_20 (k102_11 b) (sho s_h f_l0) f6_0 f_y2.1 ?_
    refine pw_an (pc := 23) d102_23 (sha s_h f_y2.2) ?_
    refine pw_ige (pc := 24) (t := 204) d102_24 (by decide) (fun c3 => ?_) (fun c3 => ?_)
    · rw [if_pos c3] at hm
      obtain rfl := Option.some.inj hm
      exact hE s_h  (Value.ref l0) (Value.ref l1) (Value.ref l2) (Value.int l3) (Value.int l4) w5 w6 w7 w8 w9
    · rw [if_neg c3] at hm
      refine pw_l (pc := 27) d102_27 rfl rfl rfl ?_
      obtain ⟨y4, e_y4, hm⟩ := ob_x hm
      have f_y4 := gA_x e_y4
      refine pw_gr (pc := 28) d102_28 (k102_11 b) (sho s_h f_l0) f6_0 f_y4.1 ?_
      refine pw_l (pc := 31) d102_31 rfl rfl rfl ?_
      obtain ⟨g5, hm⟩ := gd_x hm
      refine pw_ai (pc := 33) d102_33 (sha s_h f_y4.2) (mi_in_x g5) ?_
      refine pw_t (pc := 34) d102_34 rfl rfl rfl rfl ?_
      refine pw_l (pc := 36) d102_36 rfl rfl rfl ?_
      refine pw_s (pc := 38) d102_38 rfl rfl ?_
      refine pw_ine (pc := 40) (t := 58) d102_40 (by decide) (fun c6 => ?_) (fun c6 => ?_)
      · rw [if_pos c6] at hm
        refine pw_l (pc := 58) d102_58 rfl rfl rfl ?_
        refine pw_s (pc := 60) d102_60 rfl rfl ?_
        refine pw_ine (pc := 62) (t := 108) d102_62 (by decide) (fun c7 => ?_) (fun c7 => ?_)
        · rw [if_pos c7] at hm
          refine pw_l (pc := 108) d102_108 rfl rfl rfl ?_
          refine pw_zlt (pc := 110) (t := 123) d102_110 (by decide) (fun c8 => ?_) (fun c8 => ?_)
          · rw [if_pos c8] at hm
            refine pw_l (pc := 123) d102_123 rfl rfl rfl ?_
            refine pw_s (pc := 125) d102_125 rfl rfl ?_
            refine pw_ilt (pc := 127) (t := 145) d102_127 (by decide) (fun c9 => ?_) (fun c9 => ?_)
            · rw [if_pos c9] at hm
              refine pw_l (pc := 145) d102_145 rfl rfl rfl ?_
              refine pw_s (pc := 147) d102_147 rfl rfl ?_
              refine pw_ine (pc := 149) (t := 173) d102_149 (by decide) (fun c10 => ?_) (fun c10 => ?_)
              · rw [if_pos c10] at hm
                refine pw_l (pc := 173) d102_173 rfl rfl rfl ?_
                obtain ⟨q11, e_q11, hm⟩ := ob_x hm
                refine pw_v (pc := 174) (k := l0) (by omega) d102_174 (k102_99 b) (by decide) m104 (by decide) rfl (sho s_h f_l0) (Nat.le_of_ble_eq_true rfl) (Nat.le_of_ble_eq_true rfl) rfl rfl (T_u_pop b L xs (d - 1) (by omega) h s_h l0 f_l0 e_q11) (fun v0 h0 hq => ?_)
                obtain ⟨rfl, hh0, s_q11⟩ := hq
                rw [hh0] at s_q11 ⊢
                simp only [Option.toList_some, List.cons_append, List.nil_append]
                refine pw_t (pc := 177) d102_177 rfl rfl rfl rfl ?_
                refine pw_l (pc := 179) d102_179 rfl rfl rfl ?_
                obtain ⟨q12, e_q12, hm⟩ := ob_x hm
                refine pw_v (pc := 180) (k := l0) (by omega) d102_180 (k102_99 b) (by decide) m104 (by decide) rfl (sho s_q11 f_l0) (Nat.le_of_ble_eq_true rfl) (Nat.le_of_ble_eq_true rfl) rfl rfl (T_u_pop b L xs (d - 1) (by omega) q11.2 s_q11 l0 f_l0 e_q12) (fun v0 h0 hq => ?_)
                obtain ⟨rfl, hh0, s_q12⟩ := hq
                rw [hh0] at s_q12 ⊢
                simp only [Option.toList_some, List.cons_append, List.nil_append]
                refine pw_t (pc := 183) d102_183 rfl rfl rfl rfl ?_
                refine pw_l (pc := 185) d102_185 rfl rfl rfl ?_
                refine pw_l (pc := 186) d102_186 rfl rfl rfl ?_
                refine pw_l (pc := 188) d102_188 rfl rfl rfl ?_
                refine pw_l (pc := 190) d102_190 rfl rfl rfl ?_
                obtain ⟨q13, e_q13, hm⟩ := ob_x hm
                refine pw_u (pc := 192) (by omega) d102_192 (k102_111 b) (by decide) m105 (Nat.le_of_ble_eq_true rfl) (Nat.le_of_ble_eq_true rfl) (Nat.le_of_ble_eq_true rfl) rfl rfl (T_u_combined b L xs (d - 1) (by omega) q12.2 s_q12 (h.2.1 y4 l4.toNatClampNeg) q12.1 q11.1  e_q13) (fun v0 h0 hq => ?_)
                obtain ⟨rfl, hh0, s_q13⟩ := hq
                rw [hh0] at s_q13 ⊢
                simp only [Option.toList_some, List.cons_append, List.nil_append]
                obtain ⟨q14, e_q14, hm⟩ := ob_x hm
                refine pw_v (pc := 195) (k := l0) (by omega) d102_195 (k102_103 b) (by decide) m103 (by decide) rfl (sho s_q12 f_l0) (Nat.le_of_ble_eq_true rfl) (Nat.le_of_ble_eq_true rfl) rfl rfl (T_u_push b L xs (d - 1) (by omega) q12.2 s_q12 l0 q13 f_l0 e_q14) (fun v0 h0 hq => ?_)
                obtain ⟨rfl, hh0, s_q14⟩ := hq
                rw [hh0] at s_q14 ⊢
                simp only [Option.toList_none, List.nil_append]
                refine pw_t (pc := 198) d102_198 rfl rfl rfl rfl ?_
                refine pw_go (pc := 201) (t := 8) d102_201 (by decide) ?_
                obtain rfl := Option.some.inj hm
                exact hE s_q14  (Value.int (h.2.1 y4 l4.toNatClampNeg)) (Value.long q11.1) (Value.retAddr 0) (Value.long q12.1) (Value.retAddr 0)
              · rw [if_neg c10] at hm
                refine pw_l (pc := 152) d102_152 rfl rfl rfl ?_
                refine pw_l (pc := 153) d102_153 rfl rfl rfl ?_
                obtain ⟨q15, e_q15, hm⟩ := ob_x hm
                refine pw_v (pc := 154) (k := l0) (by omega) d102_154 (k102_99 b) (by decide) m104 (by decide) rfl (sho s_h f_l0) (Nat.le_of_ble_eq_true rfl) (Nat.le_of_ble_eq_true rfl) rfl rfl (T_u_pop b L xs (d - 1) (by omega) h s_h l0 f_l0 e_q15) (fun v0 h0 hq => ?_)
                obtain ⟨rfl, hh0, s_q15⟩ := hq
                rw [hh0] at s_q15 ⊢
                simp only [Option.toList_some, List.cons_append, List.nil_append]
                refine pw_s (pc := 157) d102_157 rfl rfl ?_
                refine pw_s (pc := 158) d102_158 rfl rfl ?_
                refine pw_zne (pc := 159) (t := 166) d102_159 (by decide) (fun c16 => ?_) (fun c16 => ?_)
                · rw [if_pos (show ¬ (lg_cmp q15.1 (Int64.ofNat 0)) = 0 from c16)] at hm
                  refine pw_s (pc := 166) d102_166 rfl rfl ?_
                  exact t_u_wakes_167 b L xs d hd q15.2 s_q15 l0 l1 l2 l3 l4 (Int64.ofNat 0) l0 (Value.int (h.2.1 y4 l4.toNatClampNeg)) w6 w7 w8 w9 f_l0 f_l1 f_l2 f_l0 hm hE
                · rw [if_neg (show ¬ (¬ (lg_cmp q15.1 (Int64.ofNat 0)) = 0) from c16)] at hm
                  refine pw_s (pc := 162) d102_162 rfl rfl ?_
                  refine pw_go (pc := 163) (t := 167) d102_163 (by decide) ?_
                  exact t_u_wakes_167 b L xs d hd q15.2 s_q15 l0 l1 l2 l3 l4 (Int64.ofNat 1) l0 (Value.int (h.2.1 y4 l4.toNatClampNeg)) w6 w7 w8 w9 f_l0 f_l1 f_l2 f_l0 hm hE
            · rw [if_neg c9] at hm
              refine pw_l (pc := 130) d102_130 rfl rfl rfl ?_
              refine pw_l (pc := 131) d102_131 rfl rfl rfl ?_
              refine pw_l (pc := 133) d102_133 rfl rfl rfl ?_
              refine pw_l (pc := 134) d102_134 rfl rfl rfl ?_
              refine pw_l (pc := 135) d102_135 rfl rfl rfl ?_
              obtain ⟨q17, e_q17, hm⟩ := ob_x hm
              refine pw_u (pc := 136) (by omega) d102_136 (k102_107 b) (by decide) m106 (Nat.le_of_ble_eq_true rfl) (Nat.le_of_ble_eq_true rfl) (Nat.le_of_ble_eq_true rfl) rfl rfl (T_u_letters b L xs (d - 1) (by omega) h s_h (h.2.1 y4 l4.toNatClampNeg) l1 l2 l3 f_l1 f_l2 e_q17) (fun v0 h0 hq => ?_)
              obtain ⟨rfl, hh0, s_q17⟩ := hq
              rw [hh0] at s_q17 ⊢
              simp only [Option.toList_some, List.cons_append, List.nil_append]
              obtain ⟨q18, e_q18, hm⟩ := ob_x hm
              refine pw_v (pc := 139) (k := l0) (by omega) d102_139 (k102_103 b) (by decide) m103 (by decide) rfl (sho s_h f_l0) (Nat.le_of_ble_eq_true rfl) (Nat.le_of_ble_eq_true rfl) rfl rfl (T_u_push b L xs (d - 1) (by omega) h s_h l0 q17 f_l0 e_q18) (fun v0 h0 hq => ?_)
              obtain ⟨rfl, hh0, s_q18⟩ := hq
              rw [hh0] at s_q18 ⊢
              simp only [Option.toList_none, List.nil_append]
              refine pw_go (pc := 142) (t := 198) d102_142 (by decide) ?_
              refine pw_t (pc := 198) d102_198 rfl rfl rfl rfl ?_
              refine pw_go (pc := 201) (t := 8) d102_201 (by decide) ?_
              obtain rfl := Option.some.inj hm
              exact hE s_q18  (Value.int (h.2.1 y4 l4.toNatClampNeg)) w6 w7 w8 w9
          · rw [if_neg c8] at hm
            refine pw_l (pc := 113) d102_113 rfl rfl rfl ?_
            refine pw_l (pc := 114) d102_114 rfl rfl rfl ?_
            refine pw_s (pc := 116) d102_116 rfl rfl ?_
            obtain ⟨q19, e_q19, hm⟩ := ob_x hm
            refine pw_v (pc := 117) (k := l0) (by omega) d102_117 (k102_103 b) (by decide) m103 (by decide) rfl (sho s_h f_l0) (Nat.le_of_ble_eq_true rfl) (Nat.le_of_ble_eq_true rfl) rfl rfl (T_u_push b L xs (d - 1) (by omega) h s_h l0 ((h.2.1 y4 l4.toNatClampNeg).toInt64) f_l0 e_q19) (fun v0 h0 hq => ?_)
            obtain ⟨rfl, hh0, s_q19⟩ := hq
            rw [hh0] at s_q19 ⊢
            simp only [Option.toList_none, List.nil_append]
            refine pw_go (pc := 120) (t := 198) d102_120 (by decide) ?_
            refine pw_t (pc := 198) d102_198 rfl rfl rfl rfl ?_
            refine pw_go (pc := 201) (t := 8) d102_201 (by decide) ?_
            obtain rfl := Option.some.inj hm
            exact hE s_q19  (Value.int (h.2.1 y4 l4.toNatClampNeg)) w6 w7 w8 w9
        · rw [if_neg c7] at hm
          refine pw_l (pc := 65) d102_65 rfl rfl rfl ?_
          obtain ⟨q20, e_q20, hm⟩ := ob_x hm
          refine pw_v (pc := 66) (k := l0) (by omega) d102_66 (k102_99 b) (by decide) m104 (by decide) rfl (sho s_h f_l0) (Nat.le_of_ble_eq_true rfl) (Nat.le_of_ble_eq_true rfl) rfl rfl (T_u_pop b L xs (d - 1) (by omega) h s_h l0 f_l0 e_q20) (fun v0 h0 hq => ?_)
          obtain ⟨rfl, hh0, s_q20⟩ := hq
          rw [hh0] at s_q20 ⊢
          simp only [Option.toList_some, List.cons_append, List.nil_append]
          refine pw_s (pc := 69) d102_69 rfl rfl ?_
          refine pw_s (pc := 70) d102_70 rfl rfl ?_
          refine pw_zeq (pc := 71) (t := 78) d102_71 (by decide) (fun c21 => ?_) (fun c21 => ?_)
          · rw [if_pos (show (lg_cmp q20.1 (Int64.ofNat 0)) = 0 from c21)] at hm
            refine pw_s (pc := 78) d102_78 rfl rfl ?_
            exact t_u_wakes_79 b L xs d hd q20.2 s_q20 l0 l1 l2 l3 l4 (Int32.ofInt 0) (Value.int (h.2.1 y4 l4.toNatClampNeg)) w6 w7 w8 w9 f_l0 f_l1 f_l2  hm hE
          · rw [if_neg (show ¬ ((lg_cmp q20.1 (Int64.ofNat 0)) = 0) from c21)] at hm
            refine pw_s (pc := 74) d102_74 rfl rfl ?_
            refine pw_go (pc := 75) (t := 79) d102_75 (by decide) ?_
            exact t_u_wakes_79 b L xs d hd q20.2 s_q20 l0 l1 l2 l3 l4 (Int32.ofInt 1) (Value.int (h.2.1 y4 l4.toNatClampNeg)) w6 w7 w8 w9 f_l0 f_l1 f_l2  hm hE
      · rw [if_neg c6] at hm
        obtain rfl := Option.some.inj hm
        exact hE s_h  (Value.ref l1) (Value.ref l2) (Value.int l3) (Value.int l4) (Value.int (h.2.1 y4 l4.toNatClampNeg)) w6 w7 w8 w9
noncomputable def u_wakes (l0 : Nat) (l1 : Nat) (l2 : Nat) (l3 : Int32) (h : pm_H) : Option (Int32 × pm_H) := bd (pm_setI h l0 4 (Int32.ofInt 0)) fun h1 => (wh (fun s : (Int32 × pm_H) => u_wakes_8 l0 l1 l2 l3 s.1 s.2) ((Int32.ofInt 0), h1)).bind fun q2 => (match q2 with | (.inl eq2_0) => (u_pop l0 eq2_0).bind fun q3 => if (lg_cmp q3.1 (Int64.ofNat 0)) ≤ 0 then (some ((Int32.ofInt 0), q3.2)) else (some ((Int32.ofInt 1), q3.2)) | (.inr (.inl eq2_1)) => if (lg_cmp eq2_1.1 (Int64.ofNat 0)) ≤ 0 then (some ((Int32.ofInt 0), eq2_1.2)) else (some ((Int32.ofInt 1), eq2_1.2)) | (.inr (.inr eq2_2)) => some ((Int32.ofInt 0), eq2_2))
theorem T_u_wakes (b : Bool) (L : Nat) (xs : Nat → Int32) (d : Nat) (hd : 4 ≤ d) (h : pm_H) (s_h : h.1 = tb_SH) (l0 : Nat) (l1 : Nat) (l2 : Nat) (l3 : Int32) (f_l0 : mi_o l0 6 = true) (f_l1 : mi_o l1 7 = true) (f_l2 : mi_o l2 3 = true) {r : (Int32 × pm_H)} (hm : u_wakes l0 l1 l2 l3 h = some r) : PC b L xs d 102 [(Value.ref l0), (Value.ref l1), (Value.ref l2), (Value.int l3)] h (fun (v0 : Option Value) (h2 : pm_H) => v0 = (some (Value.int r.1)) ∧ h2 = r.2 ∧ h2.1 = tb_SH) := by
  refine pc_in e102 (ls0 := [(Value.ref l0), (Value.ref l1), (Value.ref l2), (Value.int l3), Value.retAddr 0, Value.retAddr 0, Value.retAddr 0, Value.retAddr 0, Value.retAddr 0, Value.retAddr 0]) rfl ?_
  have key : ∀ (Q : Option Value → pm_H → Prop), (r.2.1 = tb_SH → Q (some (Value.int r.1)) r.2) → PW b L xs d 102 0 0 0 [(Value.ref l0), (Value.ref l1), (Value.ref l2), (Value.int l3), Value.retAddr 0, Value.retAddr 0, Value.retAddr 0, Value.retAddr 0, Value.retAddr 0, Value.retAddr 0] [] h Q := by
    intro Q hE
    rw [u_wakes] at hm
    refine pw_l (pc := 0) d102_0 rfl rfl rfl ?_
    refine pw_s (pc := 1) d102_1 rfl rfl ?_
    refine pw_pi (pc := 2) d102_2 (k102_26 b) (sho s_h f_l0) p102_6_4 ?_
    obtain ⟨h1, e_h1, hm⟩ := bd_x hm
    rw [e_h1]
    have s_h1 : h1.1 = tb_SH := by rw [← e_h1]; exact s_h
    refine pw_s (pc := 5) d102_5 rfl rfl ?_
    refine pw_t (pc := 6) d102_6 rfl rfl rfl rfl ?_
    obtain ⟨q2, e_q2, hm⟩ := ob_x hm
    refine wh_ind e_q2 (fun s : (Int32 × pm_H) => s.2.1 = tb_SH → ∀ w5 w6 w7 w8 w9 : Value, PW b L xs d 102 0 0 8 [(Value.ref l0), (Value.ref l1), (Value.ref l2), (Value.int l3), (Value.int s.1), w5, w6, w7, w8, w9] [] s.2 Q) (fun s s2 hf ih sx w5 w6 w7 w8 w9 => t_u_wakes_8 b L xs d hd s.2 sx l0 l1 l2 l3 s.1 w5 w6 w7 w8 w9 f_l0 f_l1 f_l2 hf ih) (fun s hf sx w5 w6 w7 w8 w9 => t_u_wakes_8 b L xs d hd s.2 sx l0 l1 l2 l3 s.1 w5 w6 w7 w8 w9 f_l0 f_l1 f_l2 hf ?_) s_h1  (Value.retAddr 0) (Value.retAddr 0) (Value.retAddr 0) (Value.retAddr 0) (Value.retAddr 0)
    rcases q2 with eq2_0 | eq2_1 | eq2_2
    · dsimp only at hm
      intro s_q2_0 w1 w2 w3 w4 w5 w6 w7 w8 w9
      refine pw_l (pc := 43) d102_43 rfl rfl rfl ?_
      obtain ⟨q3, e_q3, hm⟩ := ob_x hm
      refine pw_v (pc := 44) (k := l0) (by omega) d102_44 (k102_99 b) (by decide) m104 (by decide) rfl (sho s_q2_0 f_l0) (Nat.le_of_ble_eq_true rfl) (Nat.le_of_ble_eq_true rfl) rfl rfl (T_u_pop b L xs (d - 1) (by omega) eq2_0 s_q2_0 l0 f_l0 e_q3) (fun v0 h0 hq => ?_)
      obtain ⟨rfl, hh0, s_q3⟩ := hq
      rw [hh0] at s_q3 ⊢
      simp only [Option.toList_some, List.cons_append, List.nil_append]
      refine pw_s (pc := 47) d102_47 rfl rfl ?_
      refine pw_s (pc := 48) d102_48 rfl rfl ?_
      refine pw_zle (pc := 49) (t := 56) d102_49 (by decide) (fun c4 => ?_) (fun c4 => ?_)
      · rw [if_pos (show (lg_cmp q3.1 (Int64.ofNat 0)) ≤ 0 from c4)] at hm
        refine pw_s (pc := 56) d102_56 rfl rfl ?_
        obtain rfl := Option.some.inj hm
        refine pw_ri (pc := 57) d102_57 t102 rfl ?_
        exact hE s_q3
      · rw [if_neg (show ¬ ((lg_cmp q3.1 (Int64.ofNat 0)) ≤ 0) from c4)] at hm
        refine pw_s (pc := 52) d102_52 rfl rfl ?_
        refine pw_go (pc := 53) (t := 57) d102_53 (by decide) ?_
        obtain rfl := Option.some.inj hm
        refine pw_ri (pc := 57) d102_57 t102 rfl ?_
        exact hE s_q3
    · dsimp only at hm
      intro s_q2_1 w0 w1 w2 w3 w4 w5 w6 w9
      refine pw_l (pc := 92) d102_92 rfl rfl rfl ?_
      refine pw_s (pc := 94) d102_94 rfl rfl ?_
      refine pw_s (pc := 95) d102_95 rfl rfl ?_
      refine pw_zle (pc := 96) (t := 103) d102_96 (by decide) (fun c5 => ?_) (fun c5 => ?_)
      · rw [if_pos (show (lg_cmp eq2_1.1 (Int64.ofNat 0)) ≤ 0 from c5)] at hm
        refine pw_s (pc := 103) d102_103 rfl rfl ?_
        obtain rfl := Option.some.inj hm
        refine pw_ri (pc := 104) d102_104 t102 rfl ?_
        exact hE s_q2_1
      · rw [if_neg (show ¬ ((lg_cmp eq2_1.1 (Int64.ofNat 0)) ≤ 0) from c5)] at hm
        refine pw_s (pc := 99) d102_99 rfl rfl ?_
        refine pw_go (pc := 100) (t := 104) d102_100 (by decide) ?_
        obtain rfl := Option.some.inj hm
        refine pw_ri (pc := 104) d102_104 t102 rfl ?_
        exact hE s_q2_1
    · dsimp only at hm
      intro s_q2_2 w0 w1 w2 w3 w4 w5 w6 w7 w8 w9
      refine pw_s (pc := 204) d102_204 rfl rfl ?_
      obtain rfl := Option.some.inj hm
      refine pw_ri (pc := 205) d102_205 t102 rfl ?_
      exact hE s_q2_2
  exact key _ (fun q => ⟨rfl, rfl, q⟩)
noncomputable def u_readFact_126 (G : Bool → Nat → Nat → Int32 → pm_H → Option (Int32 × pm_H)) (l0 : Nat) (l1 : Nat) (z0 : Int32) (h : pm_H) : Option (Int32 × pm_H) := (u_compares z0 h).bind fun q1 => if ¬ q1 = 0 then (if (h.2.1 l0 2) < (Int8.ofInt 60).toInt32 then (bd (pm_setI h l0 2 ((h.2.1 l0 2) + (Int32.ofInt 1))) fun h4 => (t_advance l1 h4).bind fun q5 => (u_readSum l0 l1 q5).bind fun q6 => (u_step l0 ((Int8.ofInt (-100)).toInt32 - z0) q6.2).bind fun q7 => if mi_bo q6.1 = true then some (q6.1, q7) else none) else ((t_blame l1 (h.2.1 l1 3) (Int32.ofInt 3) h).bind fun q9 => if mi_bo q9.1 = true then some (q9.1, q9.2) else none)) else ((t_blame l1 (h.2.1 l1 3) (Int32.ofInt 0) h).bind fun q11 => if mi_bo q11.1 = true then some (q11.1, q11.2) else none)
theorem t_u_readFact_126 (b : Bool) (L : Nat) (xs : Nat → Int32) (d : Nat) (hd : 11 ≤ d) {Q : Option Value → pm_H → Prop} (h : pm_H) (s_h : h.1 = tb_SH) (G : Bool → Nat → Nat → Int32 → pm_H → Option (Int32 × pm_H)) (hG : ∀ (bb : Bool) (k t : Nat) (a : Int32) (h : pm_H) (r : Int32 × pm_H), h.1 = tb_SH → mi_o k 6 = true → mi_o t 8 = true → G bb k t a h = some r → PC b L xs (d - 1) (if bb then 95 else 96) [.ref k, .ref t, .int a] h (fun (v0 : Option Value) (h2 : pm_H) => v0 = some (Value.int r.1) ∧ h2 = r.2 ∧ h2.1 = tb_SH)) (l0 : Nat) (l1 : Nat) (z0 : Int32) (w2 : Value) (w3 : Value) (w4 : Value) (w5 : Value) (w6 : Value) (f_l0 : mi_o l0 6 = true) (f_l1 : mi_o l1 8 = true) {r : (Int32 × pm_H)} (hm : u_readFact_126 G l0 l1 z0 h = some r) (hE : r.2.1 = tb_SH → Q (some (Value.int r.1)) r.2) : PW b L xs d 96 0 0 126 [(Value.ref l0), (Value.ref l1), w2, w3, w4, w5, w6] [(Value.int z0)] h Q := by
  rw [u_readFact_126] at hm
  refine pw_t (pc := 126) d96_126 rfl rfl rfl (n := 2) (ls' := [(Value.ref l0), (Value.ref l1), w2, w3, (mi_w w4), (Value.int z0), w6]) (st' := []) (by by_cases hw : Value.category w4 = 2 <;> simp [pm_sto, pm_sI, pm_sL, pm_sA, pm_inc, pm_st1, pm_st2, pm_pre, mi_w, hw] <;> first | done | exact ⟨by decide, rfl⟩ | rfl) ?_
  refine pw_l (pc := 128) d96_128 rfl rfl rfl ?_
  obtain ⟨q1, e_q1, hm⟩ := ob_x hm
  refine pw_u (pc := 130) (by omega) d96_130 (k96_86 b) (by decide) m100 (Nat.le_of_ble_eq_true rfl) (Nat.le_of_ble_eq_true rfl) (Nat.le_of_ble_eq_true rfl) rfl rfl (T_u_compares b L xs (d - 1) (by omega) h s_h z0  e_q1) (fun v0 h0 hq => ?_)
  obtain ⟨rfl, hh0, s_q1⟩ := hq
  rw [hh0] at s_q1 ⊢
  simp only [Option.toList_some, List.cons_append, List.nil_append]
  refine pw_zne (pc := 133) (t := 146) d96_133 (by decide) (fun c2 => ?_) (fun c2 => ?_)
  · rw [if_pos c2] at hm
    refine pw_l (pc := 146) d96_146 rfl rfl rfl ?_
    refine pw_gi (pc := 147) d96_147 (k96_19 b) (sho s_h f_l0) f6_2 ?_
    refine pw_s (pc := 150) d96_150 rfl rfl ?_
    refine pw_ilt (pc := 152) (t := 165) d96_152 (by decide) (fun c3 => ?_) (fun c3 => ?_)
    · rw [if_pos c3] at hm
      refine pw_l (pc := 165) d96_165 rfl rfl rfl ?_
      refine pw_s (pc := 166) d96_166 rfl rfl ?_
      refine pw_gi (pc := 167) d96_167 (k96_19 b) (sho s_h f_l0) f6_2 ?_
      refine pw_s (pc := 170) d96_170 rfl rfl ?_
      refine pw_s (pc := 171) d96_171 rfl rfl ?_
      refine pw_pi (pc := 172) d96_172 (k96_19 b) (sho s_h f_l0) p96_6_2 ?_
      obtain ⟨h4, e_h4, hm⟩ := bd_x hm
      rw [e_h4]
      have s_h4 : h4.1 = tb_SH := by rw [← e_h4]; exact s_h
      refine pw_l (pc := 175) d96_175 rfl rfl rfl ?_
      obtain ⟨q5, e_q5, hm⟩ := ob_x hm
      refine pw_v (pc := 176) (k := l1) (by omega) d96_176 (k96_47 b) (by decide) m136 (by decide) rfl (sho s_h4 f_l1) (Nat.le_of_ble_eq_true rfl) (Nat.le_of_ble_eq_true rfl) rfl rfl (T_t_advance b L xs (d - 1) (by omega) h4 s_h4 l1 f_l1 e_q5) (fun v0 h0 hq => ?_)
      obtain ⟨rfl, hh0, s_q5⟩ := hq
      rw [hh0] at s_q5 ⊢
      simp only [Option.toList_none, List.nil_append]
      refine pw_l (pc := 179) d96_179 rfl rfl rfl ?_
      refine pw_l (pc := 180) d96_180 rfl rfl rfl ?_
      obtain ⟨q6, e_q6, hm⟩ := ob_x hm
      refine pw_v (pc := 181) (k := l0) (by omega) d96_181 (k96_50 b) (by decide) m98 (by decide) rfl (sho s_q5 f_l0) (Nat.le_of_ble_eq_true rfl) (Nat.le_of_ble_eq_true rfl) rfl rfl (T_u_readSum b L xs (d - 1) (by omega) q5 s_q5 l0 l1 f_l0 f_l1 e_q6) (fun v0 h0 hq => ?_)
      obtain ⟨rfl, hh0, s_q6⟩ := hq
      rw [hh0] at s_q6 ⊢
      simp only [Option.toList_some, List.cons_append, List.nil_append]
      refine pw_t (pc := 184) d96_184 rfl rfl rfl rfl ?_
      refine pw_l (pc := 186) d96_186 rfl rfl rfl ?_
      refine pw_s (pc := 187) d96_187 rfl rfl ?_
      refine pw_l (pc := 189) d96_189 rfl rfl rfl ?_
      refine pw_s (pc := 191) d96_191 rfl rfl ?_
      obtain ⟨q7, e_q7, hm⟩ := ob_x hm
      refine pw_v (pc := 192) (k := l0) (by omega) d96_192 (k96_60 b) (by decide) m101 (by decide) rfl (sho s_q6 f_l0) (Nat.le_of_ble_eq_true rfl) (Nat.le_of_ble_eq_true rfl) rfl rfl (T_u_step b L xs (d - 1) (by omega) q6.2 s_q6 l0 ((Int8.ofInt (-100)).toInt32 - z0) f_l0 e_q7) (fun v0 h0 hq => ?_)
      obtain ⟨rfl, hh0, s_q7⟩ := hq
      rw [hh0] at s_q7 ⊢
      simp only [Option.toList_none, List.nil_append]
      refine pw_l (pc := 195) d96_195 rfl rfl rfl ?_
      obtain ⟨g8, hm⟩ := gd_x hm
      obtain rfl := Option.some.inj hm
      refine pw_ri (pc := 197) d96_197 t96 (pm_nz (mi_bo_x g8)) ?_
      exact hE s_q7
    · rw [if_neg c3] at hm
      refine pw_l (pc := 155) d96_155 rfl rfl rfl ?_
      refine pw_l (pc := 156) d96_156 rfl rfl rfl ?_
      refine pw_gi (pc := 157) d96_157 (k96_40 b) (sho s_h f_l1) f8_3 ?_
      refine pw_s (pc := 160) d96_160 rfl rfl ?_
      obtain ⟨q9, e_q9, hm⟩ := ob_x hm
      refine pw_v (pc := 161) (k := l1) (by omega) d96_161 (k96_43 b) (by decide) m141 (by decide) rfl (sho s_h f_l1) (Nat.le_of_ble_eq_true rfl) (Nat.le_of_ble_eq_true rfl) rfl rfl (T_t_blame b L xs (d - 1) (by omega) h s_h l1 (h.2.1 l1 3) (Int32.ofInt 3) f_l1 e_q9) (fun v0 h0 hq => ?_)
      obtain ⟨rfl, hh0, s_q9⟩ := hq
      rw [hh0] at s_q9 ⊢
      simp only [Option.toList_some, List.cons_append, List.nil_append]
      obtain ⟨g10, hm⟩ := gd_x hm
      obtain rfl := Option.some.inj hm
      refine pw_ri (pc := 164) d96_164 t96 (pm_nz (mi_bo_x g10)) ?_
      exact hE s_q9
  · rw [if_neg c2] at hm
    refine pw_l (pc := 136) d96_136 rfl rfl rfl ?_
    refine pw_l (pc := 137) d96_137 rfl rfl rfl ?_
    refine pw_gi (pc := 138) d96_138 (k96_40 b) (sho s_h f_l1) f8_3 ?_
    refine pw_s (pc := 141) d96_141 rfl rfl ?_
    obtain ⟨q11, e_q11, hm⟩ := ob_x hm
    refine pw_v (pc := 142) (k := l1) (by omega) d96_142 (k96_43 b) (by decide) m141 (by decide) rfl (sho s_h f_l1) (Nat.le_of_ble_eq_true rfl) (Nat.le_of_ble_eq_true rfl) rfl rfl (T_t_blame b L xs (d - 1) (by omega) h s_h l1 (h.2.1 l1 3) (Int32.ofInt 0) f_l1 e_q11) (fun v0 h0 hq => ?_)
    obtain ⟨rfl, hh0, s_q11⟩ := hq
    rw [hh0] at s_q11 ⊢
    simp only [Option.toList_some, List.cons_append, List.nil_append]
    obtain ⟨g12, hm⟩ := gd_x hm
    obtain rfl := Option.some.inj hm
    refine pw_ri (pc := 145) d96_145 t96 (pm_nz (mi_bo_x g12)) ?_
    exact hE s_q11
noncomputable def u_readFact_40 (G : Bool → Nat → Nat → Int32 → pm_H → Option (Int32 × pm_H)) (l0 : Nat) (l1 : Nat) (l2 : Int32) (l3 : Int32) (l4 : Int32) (h : pm_H) : Option (Int32 × pm_H) := if l3 = 0 then (if l4 = 0 then ((u_readSum l0 l1 h).bind fun q3 => if ¬ q3.1 = 0 then (if ¬ (q3.2.2.1 l1 2) = (Int32.ofInt 3) then (u_readFact_126 G l0 l1 (Int32.ofInt (-1)) q3.2) else (u_readFact_126 G l0 l1 (q3.2.2.1 l1 6) q3.2)) else (some ((Int32.ofInt 0), q3.2))) else ((t_advance l1 h).bind fun q6 => (G true l0 l1 (l2 + (Int32.ofInt 1)) q6).bind fun q7 => if q7.1 = 0 then (some ((Int32.ofInt 0), q7.2)) else ((u_readClosing l1 q7.2).bind fun q9 => if q9.1 = 0 then (some ((Int32.ofInt 0), q9.2)) else (some ((Int32.ofInt 1), q9.2))))) else ((t_advance l1 h).bind fun q11 => (G false l0 l1 (l2 + (Int32.ofInt 1)) q11).bind fun q12 => (u_step l0 ((Int8.ofInt (-12)).toInt32) q12.2).bind fun q13 => if mi_bo q12.1 = true then some (q12.1, q13) else none)
theorem t_u_readFact_40 (b : Bool) (L : Nat) (xs : Nat → Int32) (d : Nat) (hd : 11 ≤ d) {Q : Option Value → pm_H → Prop} (h : pm_H) (s_h : h.1 = tb_SH) (G : Bool → Nat → Nat → Int32 → pm_H → Option (Int32 × pm_H)) (hG : ∀ (bb : Bool) (k t : Nat) (a : Int32) (h : pm_H) (r : Int32 × pm_H), h.1 = tb_SH → mi_o k 6 = true → mi_o t 8 = true → G bb k t a h = some r → PC b L xs (d - 1) (if bb then 95 else 96) [.ref k, .ref t, .int a] h (fun (v0 : Option Value) (h2 : pm_H) => v0 = some (Value.int r.1) ∧ h2 = r.2 ∧ h2.1 = tb_SH)) (l0 : Nat) (l1 : Nat) (l2 : Int32) (l3 : Int32) (l4 : Int32) (w5 : Value) (w6 : Value) (f_l0 : mi_o l0 6 = true) (f_l1 : mi_o l1 8 = true) {r : (Int32 × pm_H)} (hm : u_readFact_40 G l0 l1 l2 l3 l4 h = some r) (hE : r.2.1 = tb_SH → Q (some (Value.int r.1)) r.2) : PW b L xs d 96 0 0 40 [(Value.ref l0), (Value.ref l1), (Value.int l2), (Value.int l3), (Value.int l4), w5, w6] [] h Q := by
  rw [u_readFact_40] at hm
  refine pw_l (pc := 40) d96_40 rfl rfl rfl ?_
  refine pw_zeq (pc := 41) (t := 67) d96_41 (by decide) (fun c1 => ?_) (fun c1 => ?_)
  · rw [if_pos c1] at hm
    refine pw_l (pc := 67) d96_67 rfl rfl rfl ?_
    refine pw_zeq (pc := 69) (t := 100) d96_69 (by decide) (fun c2 => ?_) (fun c2 => ?_)
    · rw [if_pos c2] at hm
      refine pw_l (pc := 100) d96_100 rfl rfl rfl ?_
      refine pw_l (pc := 101) d96_101 rfl rfl rfl ?_
      obtain ⟨q3, e_q3, hm⟩ := ob_x hm
      refine pw_v (pc := 102) (k := l0) (by omega) d96_102 (k96_50 b) (by decide) m98 (by decide) rfl (sho s_h f_l0) (Nat.le_of_ble_eq_true rfl) (Nat.le_of_ble_eq_true rfl) rfl rfl (T_u_readSum b L xs (d - 1) (by omega) h s_h l0 l1 f_l0 f_l1 e_q3) (fun v0 h0 hq => ?_)
      obtain ⟨rfl, hh0, s_q3⟩ := hq
      rw [hh0] at s_q3 ⊢
      simp only [Option.toList_some, List.cons_append, List.nil_append]
      refine pw_zne (pc := 105) (t := 110) d96_105 (by decide) (fun c4 => ?_) (fun c4 => ?_)
      · rw [if_pos c4] at hm
        refine pw_l (pc := 110) d96_110 rfl rfl rfl ?_
        refine pw_gi (pc := 111) d96_111 (k96_64 b) (sho s_q3 f_l1) f8_2 ?_
        refine pw_s (pc := 114) d96_114 rfl rfl ?_
        refine pw_ine (pc := 115) (t := 125) d96_115 (by decide) (fun c5 => ?_) (fun c5 => ?_)
        · rw [if_pos c5] at hm
          refine pw_s (pc := 125) d96_125 rfl rfl ?_
          exact t_u_readFact_126 b L xs d hd q3.2 s_q3 G hG l0 l1 (Int32.ofInt (-1)) (Value.int l2) (Value.int l3) (Value.int l4) w5 w6 f_l0 f_l1  hm hE
        · rw [if_neg c5] at hm
          refine pw_l (pc := 118) d96_118 rfl rfl rfl ?_
          refine pw_gi (pc := 119) d96_119 (k96_83 b) (sho s_q3 f_l1) f8_6 ?_
          refine pw_go (pc := 122) (t := 126) d96_122 (by decide) ?_
          exact t_u_readFact_126 b L xs d hd q3.2 s_q3 G hG l0 l1 (q3.2.2.1 l1 6) (Value.int l2) (Value.int l3) (Value.int l4) w5 w6 f_l0 f_l1  hm hE
      · rw [if_neg c4] at hm
        refine pw_s (pc := 108) d96_108 rfl rfl ?_
        obtain rfl := Option.some.inj hm
        refine pw_ri (pc := 109) d96_109 t96 rfl ?_
        exact hE s_q3
    · rw [if_neg c2] at hm
      refine pw_l (pc := 72) d96_72 rfl rfl rfl ?_
      obtain ⟨q6, e_q6, hm⟩ := ob_x hm
      refine pw_v (pc := 73) (k := l1) (by omega) d96_73 (k96_47 b) (by decide) m136 (by decide) rfl (sho s_h f_l1) (Nat.le_of_ble_eq_true rfl) (Nat.le_of_ble_eq_true rfl) rfl rfl (T_t_advance b L xs (d - 1) (by omega) h s_h l1 f_l1 e_q6) (fun v0 h0 hq => ?_)
      obtain ⟨rfl, hh0, s_q6⟩ := hq
      rw [hh0] at s_q6 ⊢
      simp only [Option.toList_none, List.nil_append]
      refine pw_l (pc := 76) d96_76 rfl rfl rfl ?_
      refine pw_l (pc := 77) d96_77 rfl rfl rfl ?_
      refine pw_l (pc := 78) d96_78 rfl rfl rfl ?_
      refine pw_s (pc := 79) d96_79 rfl rfl ?_
      refine pw_s (pc := 80) d96_80 rfl rfl ?_
      obtain ⟨q7, e_q7, hm⟩ := ob_x hm
      refine pw_v (pc := 81) (k := l0) (by omega) d96_81 (k96_56 b) (by decide) m95 (by decide) rfl (sho s_q6 f_l0) (Nat.le_of_ble_eq_true rfl) (Nat.le_of_ble_eq_true rfl) rfl rfl (hG true l0 l1 (l2 + (Int32.ofInt 1)) q6 q7 s_q6 f_l0 f_l1 e_q7) (fun v0 h0 hq => ?_)
      obtain ⟨rfl, hh0, s_q7⟩ := hq
      rw [hh0] at s_q7 ⊢
      simp only [Option.toList_some, List.cons_append, List.nil_append]
      refine pw_zeq (pc := 84) (t := 98) d96_84 (by decide) (fun c8 => ?_) (fun c8 => ?_)
      · rw [if_pos c8] at hm
        refine pw_s (pc := 98) d96_98 rfl rfl ?_
        obtain rfl := Option.some.inj hm
        refine pw_ri (pc := 99) d96_99 t96 rfl ?_
        exact hE s_q7
      · rw [if_neg c8] at hm
        refine pw_l (pc := 87) d96_87 rfl rfl rfl ?_
        obtain ⟨q9, e_q9, hm⟩ := ob_x hm
        refine pw_u (pc := 88) (by omega) d96_88 (k96_80 b) (by decide) m97 (Nat.le_of_ble_eq_true rfl) (Nat.le_of_ble_eq_true rfl) (Nat.le_of_ble_eq_true rfl) rfl rfl (T_u_readClosing b L xs (d - 1) (by omega) q7.2 s_q7 l1 f_l1 e_q9) (fun v0 h0 hq => ?_)
        obtain ⟨rfl, hh0, s_q9⟩ := hq
        rw [hh0] at s_q9 ⊢
        simp only [Option.toList_some, List.cons_append, List.nil_append]
        refine pw_zeq (pc := 91) (t := 98) d96_91 (by decide) (fun c10 => ?_) (fun c10 => ?_)
        · rw [if_pos c10] at hm
          refine pw_s (pc := 98) d96_98 rfl rfl ?_
          obtain rfl := Option.some.inj hm
          refine pw_ri (pc := 99) d96_99 t96 rfl ?_
          exact hE s_q9
        · rw [if_neg c10] at hm
          refine pw_s (pc := 94) d96_94 rfl rfl ?_
          refine pw_go (pc := 95) (t := 99) d96_95 (by decide) ?_
          obtain rfl := Option.some.inj hm
          refine pw_ri (pc := 99) d96_99 t96 rfl ?_
          exact hE s_q9
  · rw [if_neg c1] at hm
    refine pw_l (pc := 44) d96_44 rfl rfl rfl ?_
    obtain ⟨q11, e_q11, hm⟩ := ob_x hm
    refine pw_v (pc := 45) (k := l1) (by omega) d96_45 (k96_47 b) (by decide) m136 (by decide) rfl (sho s_h f_l1) (Nat.le_of_ble_eq_true rfl) (Nat.le_of_ble_eq_true rfl) rfl rfl (T_t_advance b L xs (d - 1) (by omega) h s_h l1 f_l1 e_q11) (fun v0 h0 hq => ?_)
    obtain ⟨rfl, hh0, s_q11⟩ := hq
    rw [hh0] at s_q11 ⊢
    simp only [Option.toList_none, List.nil_append]
    refine pw_l (pc := 48) d96_48 rfl rfl rfl ?_
    refine pw_l (pc := 49) d96_49 rfl rfl rfl ?_
    refine pw_l (pc := 50) d96_50 rfl rfl rfl ?_
    refine pw_s (pc := 51) d96_51 rfl rfl ?_
    refine pw_s (pc := 52) d96_52 rfl rfl ?_
    obtain ⟨q12, e_q12, hm⟩ := ob_x hm
    refine pw_v (pc := 53) (k := l0) (by omega) d96_53 (k96_71 b) (by decide) m96 (by decide) rfl (sho s_q11 f_l0) (Nat.le_of_ble_eq_true rfl) (Nat.le_of_ble_eq_true rfl) rfl rfl (hG false l0 l1 (l2 + (Int32.ofInt 1)) q11 q12 s_q11 f_l0 f_l1 e_q12) (fun v0 h0 hq => ?_)
    obtain ⟨rfl, hh0, s_q12⟩ := hq
    rw [hh0] at s_q12 ⊢
    simp only [Option.toList_some, List.cons_append, List.nil_append]
    refine pw_t (pc := 56) d96_56 rfl rfl rfl rfl ?_
    refine pw_l (pc := 58) d96_58 rfl rfl rfl ?_
    refine pw_s (pc := 59) d96_59 rfl rfl ?_
    obtain ⟨q13, e_q13, hm⟩ := ob_x hm
    refine pw_v (pc := 61) (k := l0) (by omega) d96_61 (k96_60 b) (by decide) m101 (by decide) rfl (sho s_q12 f_l0) (Nat.le_of_ble_eq_true rfl) (Nat.le_of_ble_eq_true rfl) rfl rfl (T_u_step b L xs (d - 1) (by omega) q12.2 s_q12 l0 ((Int8.ofInt (-12)).toInt32) f_l0 e_q13) (fun v0 h0 hq => ?_)
    obtain ⟨rfl, hh0, s_q13⟩ := hq
    rw [hh0] at s_q13 ⊢
    simp only [Option.toList_none, List.nil_append]
    refine pw_l (pc := 64) d96_64 rfl rfl rfl ?_
    obtain ⟨g14, hm⟩ := gd_x hm
    obtain rfl := Option.some.inj hm
    refine pw_ri (pc := 66) d96_66 t96 (pm_nz (mi_bo_x g14)) ?_
    exact hE s_q13
noncomputable def u_readFact_24 (G : Bool → Nat → Nat → Int32 → pm_H → Option (Int32 × pm_H)) (l0 : Nat) (l1 : Nat) (l2 : Int32) (l3 : Int32) (l4 : Int32) (h : pm_H) : Option (Int32 × pm_H) := if l2 < (Int8.ofInt 10).toInt32 then (u_readFact_40 G l0 l1 l2 l3 l4 h) else ((t_blame l1 (h.2.1 l1 3) (Int32.ofInt 2) h).bind fun q2 => if mi_bo q2.1 = true then some (q2.1, q2.2) else none)
theorem t_u_readFact_24 (b : Bool) (L : Nat) (xs : Nat → Int32) (d : Nat) (hd : 11 ≤ d) {Q : Option Value → pm_H → Prop} (h : pm_H) (s_h : h.1 = tb_SH) (G : Bool → Nat → Nat → Int32 → pm_H → Option (Int32 × pm_H)) (hG : ∀ (bb : Bool) (k t : Nat) (a : Int32) (h : pm_H) (r : Int32 × pm_H), h.1 = tb_SH → mi_o k 6 = true → mi_o t 8 = true → G bb k t a h = some r → PC b L xs (d - 1) (if bb then 95 else 96) [.ref k, .ref t, .int a] h (fun (v0 : Option Value) (h2 : pm_H) => v0 = some (Value.int r.1) ∧ h2 = r.2 ∧ h2.1 = tb_SH)) (l0 : Nat) (l1 : Nat) (l2 : Int32) (l3 : Int32) (l4 : Int32) (w5 : Value) (w6 : Value) (f_l0 : mi_o l0 6 = true) (f_l1 : mi_o l1 8 = true) {r : (Int32 × pm_H)} (hm : u_readFact_24 G l0 l1 l2 l3 l4 h = some r) (hE : r.2.1 = tb_SH → Q (some (Value.int r.1)) r.2) : PW b L xs d 96 0 0 24 [(Value.ref l0), (Value.ref l1), (Value.int l2), (Value.int l3), (Value.int l4), w5, w6] [] h Q := by
  rw [u_readFact_24] at hm
  refine pw_l (pc := 24) d96_24 rfl rfl rfl ?_
  refine pw_s (pc := 25) d96_25 rfl rfl ?_
  refine pw_ilt (pc := 27) (t := 40) d96_27 (by decide) (fun c1 => ?_) (fun c1 => ?_)
  · rw [if_pos c1] at hm
    exact t_u_readFact_40 b L xs d hd h s_h G hG l0 l1 l2 l3 l4 w5 w6 f_l0 f_l1  hm hE
  · rw [if_neg c1] at hm
    refine pw_l (pc := 30) d96_30 rfl rfl rfl ?_
    refine pw_l (pc := 31) d96_31 rfl rfl rfl ?_
    refine pw_gi (pc := 32) d96_32 (k96_40 b) (sho s_h f_l1) f8_3 ?_
    refine pw_s (pc := 35) d96_35 rfl rfl ?_
    obtain ⟨q2, e_q2, hm⟩ := ob_x hm
    refine pw_v (pc := 36) (k := l1) (by omega) d96_36 (k96_43 b) (by decide) m141 (by decide) rfl (sho s_h f_l1) (Nat.le_of_ble_eq_true rfl) (Nat.le_of_ble_eq_true rfl) rfl rfl (T_t_blame b L xs (d - 1) (by omega) h s_h l1 (h.2.1 l1 3) (Int32.ofInt 2) f_l1 e_q2) (fun v0 h0 hq => ?_)
    obtain ⟨rfl, hh0, s_q2⟩ := hq
    rw [hh0] at s_q2 ⊢
    simp only [Option.toList_some, List.cons_append, List.nil_append]
    obtain ⟨g3, hm⟩ := gd_x hm
    obtain rfl := Option.some.inj hm
    refine pw_ri (pc := 39) d96_39 t96 (pm_nz (mi_bo_x g3)) ?_
    exact hE s_q2
noncomputable def u_readFact (G : Bool → Nat → Nat → Int32 → pm_H → Option (Int32 × pm_H)) (l0 : Nat) (l1 : Nat) (l2 : Int32) (h : pm_H) : Option (Int32 × pm_H) := (t_isWord l1 11 h).bind fun q1 => (t_isSign l1 ((Int8.ofInt 91).toInt32) h).bind fun q2 => if ¬ q1 = 0 then (u_readFact_24 G l0 l1 l2 q1 q2 h) else (if q2 = 0 then (u_readFact_40 G l0 l1 l2 q1 q2 h) else (u_readFact_24 G l0 l1 l2 q1 q2 h))
theorem T_u_readFact (b : Bool) (L : Nat) (xs : Nat → Int32) (d : Nat) (hd : 11 ≤ d) (h : pm_H) (s_h : h.1 = tb_SH) (G : Bool → Nat → Nat → Int32 → pm_H → Option (Int32 × pm_H)) (hG : ∀ (bb : Bool) (k t : Nat) (a : Int32) (h : pm_H) (r : Int32 × pm_H), h.1 = tb_SH → mi_o k 6 = true → mi_o t 8 = true → G bb k t a h = some r → PC b L xs (d - 1) (if bb then 95 else 96) [.ref k, .ref t, .int a] h (fun (v0 : Option Value) (h2 : pm_H) => v0 = some (Value.int r.1) ∧ h2 = r.2 ∧ h2.1 = tb_SH)) (l0 : Nat) (l1 : Nat) (l2 : Int32) (f_l0 : mi_o l0 6 = true) (f_l1 : mi_o l1 8 = true) {r : (Int32 × pm_H)} (hm : u_readFact G l0 l1 l2 h = some r) : PC b L xs d 96 [(Value.ref l0), (Value.ref l1), (Value.int l2)] h (fun (v0 : Option Value) (h2 : pm_H) => v0 = (some (Value.int r.1)) ∧ h2 = r.2 ∧ h2.1 = tb_SH) := by
  refine pc_in e96 (ls0 := [(Value.ref l0), (Value.ref l1), (Value.int l2), Value.retAddr 0, Value.retAddr 0, Value.retAddr 0, Value.retAddr 0]) rfl ?_
  have key : ∀ (Q : Option Value → pm_H → Prop), (r.2.1 = tb_SH → Q (some (Value.int r.1)) r.2) → PW b L xs d 96 0 0 0 [(Value.ref l0), (Value.ref l1), (Value.int l2), Value.retAddr 0, Value.retAddr 0, Value.retAddr 0, Value.retAddr 0] [] h Q := by
    intro Q hE
    rw [u_readFact] at hm
    refine pw_l (pc := 0) d96_0 rfl rfl rfl ?_
    refine pw_tx (pc := 1) d96_1 (k96_78 b) ?_
    obtain ⟨q1, e_q1, hm⟩ := ob_x hm
    refine pw_v (pc := 3) (k := l1) (by omega) d96_3 (k96_36 b) (by decide) m138 (by decide) rfl (sho s_h f_l1) (Nat.le_of_ble_eq_true rfl) (Nat.le_of_ble_eq_true rfl) rfl rfl (T_t_isWord b L xs (d - 1) (by omega) h s_h l1 11 f_l1 e_q1) (fun v0 h0 hq => ?_)
    obtain ⟨rfl, hh0, s_q1⟩ := hq
    rw [hh0] at s_q1 ⊢
    simp only [Option.toList_some, List.cons_append, List.nil_append]
    refine pw_t (pc := 6) d96_6 rfl rfl rfl rfl ?_
    refine pw_l (pc := 7) d96_7 rfl rfl rfl ?_
    refine pw_s (pc := 8) d96_8 rfl rfl ?_
    obtain ⟨q2, e_q2, hm⟩ := ob_x hm
    refine pw_v (pc := 10) (k := l1) (by omega) d96_10 (k96_67 b) (by decide) m140 (by decide) rfl (sho s_h f_l1) (Nat.le_of_ble_eq_true rfl) (Nat.le_of_ble_eq_true rfl) rfl rfl (T_t_isSign b L xs (d - 1) (by omega) h s_h l1 ((Int8.ofInt 91).toInt32) f_l1 e_q2) (fun v0 h0 hq => ?_)
    obtain ⟨rfl, hh0, s_q2⟩ := hq
    rw [hh0] at s_q2 ⊢
    simp only [Option.toList_some, List.cons_append, List.nil_append]
    refine pw_t (pc := 13) d96_13 rfl rfl rfl rfl ?_
    refine pw_l (pc := 15) d96_15 rfl rfl rfl ?_
    refine pw_zne (pc := 16) (t := 24) d96_16 (by decide) (fun c3 => ?_) (fun c3 => ?_)
    · rw [if_pos c3] at hm
      exact t_u_readFact_24 b L xs d hd h s_h G hG l0 l1 l2 q1 q2 (Value.retAddr 0) (Value.retAddr 0) f_l0 f_l1  hm hE
    · rw [if_neg c3] at hm
      refine pw_l (pc := 19) d96_19 rfl rfl rfl ?_
      refine pw_zeq (pc := 21) (t := 40) d96_21 (by decide) (fun c4 => ?_) (fun c4 => ?_)
      · rw [if_pos c4] at hm
        exact t_u_readFact_40 b L xs d hd h s_h G hG l0 l1 l2 q1 q2 (Value.retAddr 0) (Value.retAddr 0) f_l0 f_l1  hm hE
      · rw [if_neg c4] at hm
        exact t_u_readFact_24 b L xs d hd h s_h G hG l0 l1 l2 q1 q2 (Value.retAddr 0) (Value.retAddr 0) f_l0 f_l1  hm hE
  exact key _ (fun q => ⟨rfl, rfl, q⟩)
/-- the two readers that call each other, so deep -/
noncomputable def u_rt : Nat → Bool → Nat → Nat → Int32 → pm_H → Option (Int32 × pm_H)
  | 0 => fun _ _ _ _ _ => none
  | n + 1 => fun bb k t a h => if bb = true then u_readTest (u_rt n) k t a h else u_readFact (u_rt n) k t a h
theorem T_u_rt (b : Bool) (L : Nat) (xs : Nat → Int32) : ∀ (n d : Nat), 11 + n ≤ d → ∀ (bb : Bool) (k t : Nat) (a : Int32) (h : pm_H) (r : Int32 × pm_H), h.1 = tb_SH → mi_o k 6 = true → mi_o t 8 = true → u_rt n bb k t a h = some r → PC b L xs d (if bb then 95 else 96) [.ref k, .ref t, .int a] h (fun (v0 : Option Value) (h2 : pm_H) => v0 = some (Value.int r.1) ∧ h2 = r.2 ∧ h2.1 = tb_SH) := by
  intro n
  induction n with
  | zero => intro d hd bb k t a h r s_h f1 f2 hm; cases hm
  | succ n ih =>
    intro d hd bb k t a h r s_h f1 f2 hm
    cases bb with
    | true => exact T_u_readTest b L xs d (by omega) h s_h (u_rt n) (ih (d - 1) (by omega)) k t a f1 f2 hm
    | false => exact T_u_readFact b L xs d (by omega) h s_h (u_rt n) (ih (d - 1) (by omega)) k t a f1 f2 hm
theorem T_u_rt30 (b : Bool) (L : Nat) (xs : Nat → Int32) (d : Nat) (hd : 11 + 30 ≤ d) (h : pm_H) (s_h : h.1 = tb_SH) (k t : Nat) (a : Int32) (f1 : mi_o k 6 = true) (f2 : mi_o t 8 = true) {r : Int32 × pm_H} (hm : u_rt 30 true k t a h = some r) : PC b L xs d 95 [.ref k, .ref t, .int a] h (fun (v0 : Option Value) (h2 : pm_H) => v0 = some (Value.int r.1) ∧ h2 = r.2 ∧ h2.1 = tb_SH) := T_u_rt b L xs 30 d hd true k t a h r s_h f1 f2 hm
