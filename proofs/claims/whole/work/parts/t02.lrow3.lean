/-! The law: rows (written by wip/gen8.py). -/
theorem d0_1092 : decode (tb_me 0).1.2.1 1092 = .ok (.aload_n 0, 1) := by decide +kernel
theorem d0_1093 : decode (tb_me 0).1.2.1 1093 = .ok (.iload_n 3, 1) := by decide +kernel
theorem d0_1094 : decode (tb_me 0).1.2.1 1094 = .ok (.iconst 1, 1) := by decide +kernel
theorem d0_1095 : decode (tb_me 0).1.2.1 1095 = .ok (.iadd, 1) := by decide +kernel
theorem d0_1096 : decode (tb_me 0).1.2.1 1096 = .ok (.iaload, 1) := by decide +kernel
theorem d0_1097 : decode (tb_me 0).1.2.1 1097 = .ok (.invokevirtual 145, 3) := by decide +kernel
theorem d0_1100 : decode (tb_me 0).1.2.1 1100 = .ok (.aload_n 2, 1) := by decide +kernel
theorem d0_1101 : decode (tb_me 0).1.2.1 1101 = .ok (.aload_n 0, 1) := by decide +kernel
theorem d0_1102 : decode (tb_me 0).1.2.1 1102 = .ok (.iload_n 3, 1) := by decide +kernel
theorem d0_1103 : decode (tb_me 0).1.2.1 1103 = .ok (.iconst 1, 1) := by decide +kernel
theorem d0_1104 : decode (tb_me 0).1.2.1 1104 = .ok (.iadd, 1) := by decide +kernel
theorem d0_1105 : decode (tb_me 0).1.2.1 1105 = .ok (.iaload, 1) := by decide +kernel
theorem d0_1106 : decode (tb_me 0).1.2.1 1106 = .ok (.invokevirtual 148, 3) := by decide +kernel
theorem d0_1109 : decode (tb_me 0).1.2.1 1109 = .ok (.if_icmp .eq 5, 3) := by decide +kernel
theorem d0_18 : decode (tb_me 0).1.2.1 18 = .ok (.iload_n 3, 1) := by decide +kernel
theorem d0_19 : decode (tb_me 0).1.2.1 19 = .ok (.aload_n 0, 1) := by decide +kernel
theorem d0_20 : decode (tb_me 0).1.2.1 20 = .ok (.arraylength, 1) := by decide +kernel
theorem d0_21 : decode (tb_me 0).1.2.1 21 = .ok (.bipush 6, 2) := by decide +kernel
theorem d0_23 : decode (tb_me 0).1.2.1 23 = .ok (.isub, 1) := by decide +kernel
theorem d0_24 : decode (tb_me 0).1.2.1 24 = .ok (.if_icmp .gt 1096, 3) := by decide +kernel
theorem d0_1120 : decode (tb_me 0).1.2.1 1120 = .ok (.iconst 1, 1) := by decide +kernel
theorem d0_1121 : decode (tb_me 0).1.2.1 1121 = .ok (.ireturn, 1) := by decide +kernel
theorem d0_27 : decode (tb_me 0).1.2.1 27 = .ok (.aload_n 0, 1) := by decide +kernel
theorem d0_28 : decode (tb_me 0).1.2.1 28 = .ok (.iload_n 3, 1) := by decide +kernel
theorem d0_29 : decode (tb_me 0).1.2.1 29 = .ok (.iaload, 1) := by decide +kernel
theorem d0_30 : decode (tb_me 0).1.2.1 30 = .ok (.bipush 31, 2) := by decide +kernel
theorem d0_32 : decode (tb_me 0).1.2.1 32 = .ok (.iand, 1) := by decide +kernel
theorem d0_1114 : decode (tb_me 0).1.2.1 1114 = .ok (.iinc 3 6, 3) := by decide +kernel
theorem d0_1117 : decode (tb_me 0).1.2.1 1117 = .ok (.goto (-1099), 3) := by decide +kernel
theorem d0_33 : decode (tb_me 0).1.2.1 33 = .ok (.tableswitch 1081 0 31 #[143, 206, 229, 242, 255, 288, 321, 354, 387, 420, 433, 482, 515, 538, 561, 584, 597, 630, 643, 676, 709, 742, 765, 798, 841, 890, 913, 936, 959, 1012, 1035, 1058], 143) := by decide +kernel
theorem k0_7 (b : Bool) : tb_lk b 0 7 = (9, 0, 0, 0, 0) := by cases b <;> decide +kernel
theorem k0_9 (b : Bool) : tb_lk b 0 9 = (6, 1, 0, 0, 0) := by cases b <;> decide +kernel
theorem k0_10 (b : Bool) : tb_lk b 0 10 = (9, 10, 0, 0, 0) := by cases b <;> decide +kernel
theorem k0_12 (b : Bool) : tb_lk b 0 12 = (6, 147, 0, 0, 0) := by cases b <;> decide +kernel
theorem mmX : (tb_me 1).2 = ((192, 11274), (0, 0)) ∧ (tb_me 1).1.2.2.1 = 2 := by decide +kernel
theorem mmM : (tb_me 147).2 = ((20, 6697), (0, 10)) ∧ (tb_me 147).1.2.2.1 = 2 := by decide +kernel
theorem d0_0 : decode (tb_me 0).1.2.1 0 = .ok (.new 7, 3) := by decide +kernel
theorem d0_3 : decode (tb_me 0).1.2.1 3 = .ok (.dup, 1) := by decide +kernel
theorem d0_4 : decode (tb_me 0).1.2.1 4 = .ok (.invokespecial 9, 3) := by decide +kernel
theorem d0_7 : decode (tb_me 0).1.2.1 7 = .ok (.astore_n 1, 1) := by decide +kernel
theorem d0_8 : decode (tb_me 0).1.2.1 8 = .ok (.new 10, 3) := by decide +kernel
theorem d0_11 : decode (tb_me 0).1.2.1 11 = .ok (.dup, 1) := by decide +kernel
theorem d0_12 : decode (tb_me 0).1.2.1 12 = .ok (.invokespecial 12, 3) := by decide +kernel
theorem d0_15 : decode (tb_me 0).1.2.1 15 = .ok (.astore_n 2, 1) := by decide +kernel
theorem d0_16 : decode (tb_me 0).1.2.1 16 = .ok (.iconst 0, 1) := by decide +kernel
theorem d0_17 : decode (tb_me 0).1.2.1 17 = .ok (.istore_n 3, 1) := by decide +kernel
