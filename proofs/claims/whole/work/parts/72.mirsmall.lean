/-! Mirrors, written by wip/mir.py. -/
theorem d259_0 : decode (tb_me 259).1.2.1 0 = .ok (.iload_n 0, 1) := by decide +kernel
theorem d259_1 : decode (tb_me 259).1.2.1 1 = .ok (.iload_n 0, 1) := by decide +kernel
theorem d259_2 : decode (tb_me 259).1.2.1 2 = .ok (.iconst 1, 1) := by decide +kernel
theorem d259_3 : decode (tb_me 259).1.2.1 3 = .ok (.iushr, 1) := by decide +kernel
theorem d259_4 : decode (tb_me 259).1.2.1 4 = .ok (.ldc_w 265, 3) := by decide +kernel
theorem k259_265 (b : Bool) : tb_lk b 259 265 = (11, 0, 0, 1431655765, 0) := by cases b <;> decide +kernel
theorem d259_7 : decode (tb_me 259).1.2.1 7 = .ok (.iand, 1) := by decide +kernel
theorem d259_8 : decode (tb_me 259).1.2.1 8 = .ok (.isub, 1) := by decide +kernel
theorem d259_9 : decode (tb_me 259).1.2.1 9 = .ok (.istore_n 0, 1) := by decide +kernel
theorem d259_10 : decode (tb_me 259).1.2.1 10 = .ok (.iload_n 0, 1) := by decide +kernel
theorem d259_11 : decode (tb_me 259).1.2.1 11 = .ok (.ldc_w 266, 3) := by decide +kernel
theorem k259_266 (b : Bool) : tb_lk b 259 266 = (11, 0, 0, 858993459, 0) := by cases b <;> decide +kernel
theorem d259_14 : decode (tb_me 259).1.2.1 14 = .ok (.iand, 1) := by decide +kernel
theorem d259_15 : decode (tb_me 259).1.2.1 15 = .ok (.iload_n 0, 1) := by decide +kernel
theorem d259_16 : decode (tb_me 259).1.2.1 16 = .ok (.iconst 2, 1) := by decide +kernel
theorem d259_17 : decode (tb_me 259).1.2.1 17 = .ok (.iushr, 1) := by decide +kernel
theorem d259_18 : decode (tb_me 259).1.2.1 18 = .ok (.ldc_w 266, 3) := by decide +kernel
theorem d259_21 : decode (tb_me 259).1.2.1 21 = .ok (.iand, 1) := by decide +kernel
theorem d259_22 : decode (tb_me 259).1.2.1 22 = .ok (.iadd, 1) := by decide +kernel
theorem d259_23 : decode (tb_me 259).1.2.1 23 = .ok (.istore_n 0, 1) := by decide +kernel
theorem d259_24 : decode (tb_me 259).1.2.1 24 = .ok (.iload_n 0, 1) := by decide +kernel
theorem d259_25 : decode (tb_me 259).1.2.1 25 = .ok (.iload_n 0, 1) := by decide +kernel
theorem d259_26 : decode (tb_me 259).1.2.1 26 = .ok (.iconst 4, 1) := by decide +kernel
theorem d259_27 : decode (tb_me 259).1.2.1 27 = .ok (.iushr, 1) := by decide +kernel
theorem d259_28 : decode (tb_me 259).1.2.1 28 = .ok (.iadd, 1) := by decide +kernel
theorem d259_29 : decode (tb_me 259).1.2.1 29 = .ok (.ldc_w 267, 3) := by decide +kernel
theorem k259_267 (b : Bool) : tb_lk b 259 267 = (11, 0, 0, 252645135, 0) := by cases b <;> decide +kernel
theorem d259_32 : decode (tb_me 259).1.2.1 32 = .ok (.iand, 1) := by decide +kernel
theorem d259_33 : decode (tb_me 259).1.2.1 33 = .ok (.istore_n 0, 1) := by decide +kernel
theorem d259_34 : decode (tb_me 259).1.2.1 34 = .ok (.iload_n 0, 1) := by decide +kernel
theorem d259_35 : decode (tb_me 259).1.2.1 35 = .ok (.iload_n 0, 1) := by decide +kernel
theorem d259_36 : decode (tb_me 259).1.2.1 36 = .ok (.bipush 8, 2) := by decide +kernel
theorem d259_38 : decode (tb_me 259).1.2.1 38 = .ok (.iushr, 1) := by decide +kernel
theorem d259_39 : decode (tb_me 259).1.2.1 39 = .ok (.iadd, 1) := by decide +kernel
theorem d259_40 : decode (tb_me 259).1.2.1 40 = .ok (.istore_n 0, 1) := by decide +kernel
theorem d259_41 : decode (tb_me 259).1.2.1 41 = .ok (.iload_n 0, 1) := by decide +kernel
theorem d259_42 : decode (tb_me 259).1.2.1 42 = .ok (.iload_n 0, 1) := by decide +kernel
theorem d259_43 : decode (tb_me 259).1.2.1 43 = .ok (.bipush 16, 2) := by decide +kernel
theorem d259_45 : decode (tb_me 259).1.2.1 45 = .ok (.iushr, 1) := by decide +kernel
theorem d259_46 : decode (tb_me 259).1.2.1 46 = .ok (.iadd, 1) := by decide +kernel
theorem d259_47 : decode (tb_me 259).1.2.1 47 = .ok (.istore_n 0, 1) := by decide +kernel
theorem d259_48 : decode (tb_me 259).1.2.1 48 = .ok (.iload_n 0, 1) := by decide +kernel
theorem d259_49 : decode (tb_me 259).1.2.1 49 = .ok (.bipush 63, 2) := by decide +kernel
theorem d259_51 : decode (tb_me 259).1.2.1 51 = .ok (.iand, 1) := by decide +kernel
theorem d259_52 : decode (tb_me 259).1.2.1 52 = .ok (.ireturn, 1) := by decide +kernel
theorem t259 : (tb_me 259).1.2.2.2 = some .int := by decide +kernel
theorem e259 : (tb_me 259).2.1 = (0, 0) ∧ (tb_me 259).1.2.2.1 = 1 := by decide +kernel
theorem d270_5 : decode (tb_me 270).1.2.1 5 = .ok (.iload_n 2, 1) := by decide +kernel
theorem d270_6 : decode (tb_me 270).1.2.1 6 = .ok (.iload_n 3, 1) := by decide +kernel
theorem d270_7 : decode (tb_me 270).1.2.1 7 = .ok (.if_icmp .ge 13, 3) := by decide +kernel
theorem d270_10 : decode (tb_me 270).1.2.1 10 = .ok (.aload_n 0, 1) := by decide +kernel
theorem d270_11 : decode (tb_me 270).1.2.1 11 = .ok (.iload_n 2, 1) := by decide +kernel
theorem d270_12 : decode (tb_me 270).1.2.1 12 = .ok (.iload_n 1, 1) := by decide +kernel
theorem d270_13 : decode (tb_me 270).1.2.1 13 = .ok (.iastore, 1) := by decide +kernel
theorem d270_14 : decode (tb_me 270).1.2.1 14 = .ok (.iinc 2 1, 3) := by decide +kernel
theorem d270_17 : decode (tb_me 270).1.2.1 17 = .ok (.goto (-12), 3) := by decide +kernel
theorem d270_0 : decode (tb_me 270).1.2.1 0 = .ok (.iconst 0, 1) := by decide +kernel
theorem d270_1 : decode (tb_me 270).1.2.1 1 = .ok (.istore_n 2, 1) := by decide +kernel
theorem d270_2 : decode (tb_me 270).1.2.1 2 = .ok (.aload_n 0, 1) := by decide +kernel
theorem d270_3 : decode (tb_me 270).1.2.1 3 = .ok (.arraylength, 1) := by decide +kernel
theorem d270_4 : decode (tb_me 270).1.2.1 4 = .ok (.istore_n 3, 1) := by decide +kernel
theorem d270_20 : decode (tb_me 270).1.2.1 20 = .ok (.return_, 1) := by decide +kernel
theorem t270 : (tb_me 270).1.2.2.2 = none := by decide +kernel
theorem e270 : (tb_me 270).2.1 = (0, 0) ∧ (tb_me 270).1.2.2.1 = 4 := by decide +kernel
theorem d75_0 : decode (tb_me 75).1.2.1 0 = .ok (.aload_n 0, 1) := by decide +kernel
theorem d75_1 : decode (tb_me 75).1.2.1 1 = .ok (.iconst 1, 1) := by decide +kernel
theorem d75_2 : decode (tb_me 75).1.2.1 2 = .ok (.iload_n 1, 1) := by decide +kernel
theorem d75_3 : decode (tb_me 75).1.2.1 3 = .ok (.ishl, 1) := by decide +kernel
theorem d75_4 : decode (tb_me 75).1.2.1 4 = .ok (.iconst 1, 1) := by decide +kernel
theorem d75_5 : decode (tb_me 75).1.2.1 5 = .ok (.isub, 1) := by decide +kernel
theorem d75_6 : decode (tb_me 75).1.2.1 6 = .ok (.putfield 9, 3) := by decide +kernel
theorem k75_9 (b : Bool) : tb_lk b 75 9 = (1, 3, 0, 0, 0) := by cases b <;> decide +kernel
theorem p75_3_0 : (0 < pm_nf tb_cl 3) ∧ tb_ft 3 0 = .int ∧ pm_fin tb_cl (tb_me 75).1.1 3 0 = true := by decide +kernel
theorem d75_9 : decode (tb_me 75).1.2.1 9 = .ok (.aload_n 0, 1) := by decide +kernel
theorem d75_10 : decode (tb_me 75).1.2.1 10 = .ok (.iconst 0, 1) := by decide +kernel
theorem d75_11 : decode (tb_me 75).1.2.1 11 = .ok (.putfield 15, 3) := by decide +kernel
theorem k75_15 (b : Bool) : tb_lk b 75 15 = (1, 3, 1, 0, 0) := by cases b <;> decide +kernel
theorem p75_3_1 : (1 < pm_nf tb_cl 3) ∧ tb_ft 3 1 = .int ∧ pm_fin tb_cl (tb_me 75).1.1 3 1 = true := by decide +kernel
theorem d75_14 : decode (tb_me 75).1.2.1 14 = .ok (.aload_n 0, 1) := by decide +kernel
theorem d75_15 : decode (tb_me 75).1.2.1 15 = .ok (.iconst 0, 1) := by decide +kernel
theorem d75_16 : decode (tb_me 75).1.2.1 16 = .ok (.putfield 18, 3) := by decide +kernel
theorem k75_18 (b : Bool) : tb_lk b 75 18 = (1, 3, 2, 0, 0) := by cases b <;> decide +kernel
theorem p75_3_2 : (2 < pm_nf tb_cl 3) ∧ tb_ft 3 2 = .int ∧ pm_fin tb_cl (tb_me 75).1.1 3 2 = true := by decide +kernel
theorem d75_19 : decode (tb_me 75).1.2.1 19 = .ok (.aload_n 0, 1) := by decide +kernel
theorem d75_20 : decode (tb_me 75).1.2.1 20 = .ok (.iconst 0, 1) := by decide +kernel
theorem d75_21 : decode (tb_me 75).1.2.1 21 = .ok (.putfield 21, 3) := by decide +kernel
theorem k75_21 (b : Bool) : tb_lk b 75 21 = (1, 3, 3, 0, 0) := by cases b <;> decide +kernel
theorem p75_3_3 : (3 < pm_nf tb_cl 3) ∧ tb_ft 3 3 = .int ∧ pm_fin tb_cl (tb_me 75).1.1 3 3 = true := by decide +kernel
theorem d75_24 : decode (tb_me 75).1.2.1 24 = .ok (.aload_n 0, 1) := by decide +kernel
theorem d75_25 : decode (tb_me 75).1.2.1 25 = .ok (.iconst (-1), 1) := by decide +kernel
theorem d75_26 : decode (tb_me 75).1.2.1 26 = .ok (.putfield 24, 3) := by decide +kernel
theorem k75_24 (b : Bool) : tb_lk b 75 24 = (1, 3, 4, 0, 0) := by cases b <;> decide +kernel
theorem p75_3_4 : (4 < pm_nf tb_cl 3) ∧ tb_ft 3 4 = .int ∧ pm_fin tb_cl (tb_me 75).1.1 3 4 = true := by decide +kernel
theorem d75_29 : decode (tb_me 75).1.2.1 29 = .ok (.aload_n 0, 1) := by decide +kernel
theorem d75_30 : decode (tb_me 75).1.2.1 30 = .ok (.getfield 27, 3) := by decide +kernel
theorem k75_27 (b : Bool) : tb_lk b 75 27 = (1, 3, 5, 0, 0) := by cases b <;> decide +kernel
theorem f3_5 : (5 < pm_nf tb_cl 3) ∧ tb_ft 3 5 ≠ .long ∧ pm_isR (tb_ft 3 5) = true := by decide +kernel
theorem d75_33 : decode (tb_me 75).1.2.1 33 = .ok (.iconst 0, 1) := by decide +kernel
theorem d75_34 : decode (tb_me 75).1.2.1 34 = .ok (.invokestatic 34, 3) := by decide +kernel
theorem k75_34 (b : Bool) : tb_lk b 75 34 = (4, 270, 0, 0, 0) := by cases b <;> decide +kernel
theorem m270 : (tb_me 270).2 = ((0, 0), (2, 999)) ∧ (tb_me 270).1.2.2.1 = 4 := by decide +kernel
theorem d75_37 : decode (tb_me 75).1.2.1 37 = .ok (.aload_n 0, 1) := by decide +kernel
theorem d75_38 : decode (tb_me 75).1.2.1 38 = .ok (.getfield 31, 3) := by decide +kernel
theorem k75_31 (b : Bool) : tb_lk b 75 31 = (1, 3, 6, 0, 0) := by cases b <;> decide +kernel
theorem f3_6 : (6 < pm_nf tb_cl 3) ∧ tb_ft 3 6 ≠ .long ∧ pm_isR (tb_ft 3 6) = true := by decide +kernel
theorem d75_41 : decode (tb_me 75).1.2.1 41 = .ok (.iconst 0, 1) := by decide +kernel
theorem d75_42 : decode (tb_me 75).1.2.1 42 = .ok (.invokestatic 34, 3) := by decide +kernel
theorem d75_45 : decode (tb_me 75).1.2.1 45 = .ok (.return_, 1) := by decide +kernel
theorem t75 : (tb_me 75).1.2.2.2 = none := by decide +kernel
theorem e75 : (tb_me 75).2.1 = (0, 0) ∧ (tb_me 75).1.2.2.1 = 2 := by decide +kernel
theorem d76_0 : decode (tb_me 76).1.2.1 0 = .ok (.aload_n 0, 1) := by decide +kernel
theorem d76_1 : decode (tb_me 76).1.2.1 1 = .ok (.aload_n 1, 1) := by decide +kernel
theorem d76_2 : decode (tb_me 76).1.2.1 2 = .ok (.getfield 9, 3) := by decide +kernel
theorem k76_9 (b : Bool) : tb_lk b 76 9 = (1, 3, 0, 0, 0) := by cases b <;> decide +kernel
theorem f3_0 : (0 < pm_nf tb_cl 3) ∧ tb_ft 3 0 ≠ .long ∧ pm_isR (tb_ft 3 0) = false := by decide +kernel
theorem d76_5 : decode (tb_me 76).1.2.1 5 = .ok (.putfield 9, 3) := by decide +kernel
theorem p76_3_0 : (0 < pm_nf tb_cl 3) ∧ tb_ft 3 0 = .int ∧ pm_fin tb_cl (tb_me 76).1.1 3 0 = true := by decide +kernel
theorem d76_8 : decode (tb_me 76).1.2.1 8 = .ok (.aload_n 0, 1) := by decide +kernel
theorem d76_9 : decode (tb_me 76).1.2.1 9 = .ok (.aload_n 1, 1) := by decide +kernel
theorem d76_10 : decode (tb_me 76).1.2.1 10 = .ok (.getfield 15, 3) := by decide +kernel
theorem k76_15 (b : Bool) : tb_lk b 76 15 = (1, 3, 1, 0, 0) := by cases b <;> decide +kernel
theorem f3_1 : (1 < pm_nf tb_cl 3) ∧ tb_ft 3 1 ≠ .long ∧ pm_isR (tb_ft 3 1) = false := by decide +kernel
theorem d76_13 : decode (tb_me 76).1.2.1 13 = .ok (.putfield 15, 3) := by decide +kernel
theorem p76_3_1 : (1 < pm_nf tb_cl 3) ∧ tb_ft 3 1 = .int ∧ pm_fin tb_cl (tb_me 76).1.1 3 1 = true := by decide +kernel
theorem d76_16 : decode (tb_me 76).1.2.1 16 = .ok (.aload_n 0, 1) := by decide +kernel
theorem d76_17 : decode (tb_me 76).1.2.1 17 = .ok (.aload_n 1, 1) := by decide +kernel
theorem d76_18 : decode (tb_me 76).1.2.1 18 = .ok (.getfield 18, 3) := by decide +kernel
theorem k76_18 (b : Bool) : tb_lk b 76 18 = (1, 3, 2, 0, 0) := by cases b <;> decide +kernel
theorem f3_2 : (2 < pm_nf tb_cl 3) ∧ tb_ft 3 2 ≠ .long ∧ pm_isR (tb_ft 3 2) = false := by decide +kernel
theorem d76_21 : decode (tb_me 76).1.2.1 21 = .ok (.putfield 18, 3) := by decide +kernel
theorem p76_3_2 : (2 < pm_nf tb_cl 3) ∧ tb_ft 3 2 = .int ∧ pm_fin tb_cl (tb_me 76).1.1 3 2 = true := by decide +kernel
theorem d76_24 : decode (tb_me 76).1.2.1 24 = .ok (.aload_n 0, 1) := by decide +kernel
theorem d76_25 : decode (tb_me 76).1.2.1 25 = .ok (.aload_n 1, 1) := by decide +kernel
theorem d76_26 : decode (tb_me 76).1.2.1 26 = .ok (.getfield 21, 3) := by decide +kernel
theorem k76_21 (b : Bool) : tb_lk b 76 21 = (1, 3, 3, 0, 0) := by cases b <;> decide +kernel
theorem f3_3 : (3 < pm_nf tb_cl 3) ∧ tb_ft 3 3 ≠ .long ∧ pm_isR (tb_ft 3 3) = false := by decide +kernel
theorem d76_29 : decode (tb_me 76).1.2.1 29 = .ok (.putfield 21, 3) := by decide +kernel
theorem p76_3_3 : (3 < pm_nf tb_cl 3) ∧ tb_ft 3 3 = .int ∧ pm_fin tb_cl (tb_me 76).1.1 3 3 = true := by decide +kernel
theorem d76_32 : decode (tb_me 76).1.2.1 32 = .ok (.aload_n 0, 1) := by decide +kernel
theorem d76_33 : decode (tb_me 76).1.2.1 33 = .ok (.aload_n 1, 1) := by decide +kernel
theorem d76_34 : decode (tb_me 76).1.2.1 34 = .ok (.getfield 24, 3) := by decide +kernel
theorem k76_24 (b : Bool) : tb_lk b 76 24 = (1, 3, 4, 0, 0) := by cases b <;> decide +kernel
theorem f3_4 : (4 < pm_nf tb_cl 3) ∧ tb_ft 3 4 ≠ .long ∧ pm_isR (tb_ft 3 4) = false := by decide +kernel
theorem d76_37 : decode (tb_me 76).1.2.1 37 = .ok (.putfield 24, 3) := by decide +kernel
theorem p76_3_4 : (4 < pm_nf tb_cl 3) ∧ tb_ft 3 4 = .int ∧ pm_fin tb_cl (tb_me 76).1.1 3 4 = true := by decide +kernel
theorem d76_40 : decode (tb_me 76).1.2.1 40 = .ok (.aload_n 1, 1) := by decide +kernel
theorem d76_41 : decode (tb_me 76).1.2.1 41 = .ok (.getfield 27, 3) := by decide +kernel
theorem k76_27 (b : Bool) : tb_lk b 76 27 = (1, 3, 5, 0, 0) := by cases b <;> decide +kernel
theorem d76_44 : decode (tb_me 76).1.2.1 44 = .ok (.iconst 0, 1) := by decide +kernel
theorem d76_45 : decode (tb_me 76).1.2.1 45 = .ok (.aload_n 0, 1) := by decide +kernel
theorem d76_46 : decode (tb_me 76).1.2.1 46 = .ok (.getfield 27, 3) := by decide +kernel
theorem d76_49 : decode (tb_me 76).1.2.1 49 = .ok (.iconst 0, 1) := by decide +kernel
theorem d76_50 : decode (tb_me 76).1.2.1 50 = .ok (.bipush 8, 2) := by decide +kernel
theorem d76_52 : decode (tb_me 76).1.2.1 52 = .ok (.invokestatic 40, 3) := by decide +kernel
theorem k76_40 (b : Bool) : tb_lk b 76 40 = (14, 0, 0, 0, 0) := by cases b <;> decide +kernel
theorem d76_55 : decode (tb_me 76).1.2.1 55 = .ok (.aload_n 1, 1) := by decide +kernel
theorem d76_56 : decode (tb_me 76).1.2.1 56 = .ok (.getfield 31, 3) := by decide +kernel
theorem k76_31 (b : Bool) : tb_lk b 76 31 = (1, 3, 6, 0, 0) := by cases b <;> decide +kernel
theorem d76_59 : decode (tb_me 76).1.2.1 59 = .ok (.iconst 0, 1) := by decide +kernel
theorem d76_60 : decode (tb_me 76).1.2.1 60 = .ok (.aload_n 0, 1) := by decide +kernel
theorem d76_61 : decode (tb_me 76).1.2.1 61 = .ok (.getfield 31, 3) := by decide +kernel
theorem d76_64 : decode (tb_me 76).1.2.1 64 = .ok (.iconst 0, 1) := by decide +kernel
theorem d76_65 : decode (tb_me 76).1.2.1 65 = .ok (.bipush 8, 2) := by decide +kernel
theorem d76_67 : decode (tb_me 76).1.2.1 67 = .ok (.invokestatic 40, 3) := by decide +kernel
theorem d76_70 : decode (tb_me 76).1.2.1 70 = .ok (.return_, 1) := by decide +kernel
theorem t76 : (tb_me 76).1.2.2.2 = none := by decide +kernel
theorem e76 : (tb_me 76).2.1 = (0, 0) ∧ (tb_me 76).1.2.2.1 = 2 := by decide +kernel
theorem d77_26 : decode (tb_me 77).1.2.1 26 = .ok (.putfield 9, 3) := by decide +kernel
theorem k77_9 (b : Bool) : tb_lk b 77 9 = (1, 3, 0, 0, 0) := by cases b <;> decide +kernel
theorem p77_3_0 : (0 < pm_nf tb_cl 3) ∧ tb_ft 3 0 = .int ∧ pm_fin tb_cl (tb_me 77).1.1 3 0 = true := by decide +kernel
theorem d77_29 : decode (tb_me 77).1.2.1 29 = .ok (.return_, 1) := by decide +kernel
theorem t77 : (tb_me 77).1.2.2.2 = none := by decide +kernel
theorem d77_0 : decode (tb_me 77).1.2.1 0 = .ok (.aload_n 0, 1) := by decide +kernel
theorem d77_1 : decode (tb_me 77).1.2.1 1 = .ok (.iload_n 2, 1) := by decide +kernel
theorem d77_2 : decode (tb_me 77).1.2.1 2 = .ok (.ifCond .eq 14, 3) := by decide +kernel
theorem d77_16 : decode (tb_me 77).1.2.1 16 = .ok (.aload_n 0, 1) := by decide +kernel
theorem d77_17 : decode (tb_me 77).1.2.1 17 = .ok (.getfield 9, 3) := by decide +kernel
theorem d77_20 : decode (tb_me 77).1.2.1 20 = .ok (.iconst 1, 1) := by decide +kernel
theorem d77_21 : decode (tb_me 77).1.2.1 21 = .ok (.iload_n 1, 1) := by decide +kernel
theorem d77_22 : decode (tb_me 77).1.2.1 22 = .ok (.ishl, 1) := by decide +kernel
theorem d77_23 : decode (tb_me 77).1.2.1 23 = .ok (.iconst (-1), 1) := by decide +kernel
theorem d77_24 : decode (tb_me 77).1.2.1 24 = .ok (.ixor, 1) := by decide +kernel
theorem d77_25 : decode (tb_me 77).1.2.1 25 = .ok (.iand, 1) := by decide +kernel
theorem d77_5 : decode (tb_me 77).1.2.1 5 = .ok (.aload_n 0, 1) := by decide +kernel
theorem d77_6 : decode (tb_me 77).1.2.1 6 = .ok (.getfield 9, 3) := by decide +kernel
theorem d77_9 : decode (tb_me 77).1.2.1 9 = .ok (.iconst 1, 1) := by decide +kernel
theorem d77_10 : decode (tb_me 77).1.2.1 10 = .ok (.iload_n 1, 1) := by decide +kernel
theorem d77_11 : decode (tb_me 77).1.2.1 11 = .ok (.ishl, 1) := by decide +kernel
theorem d77_12 : decode (tb_me 77).1.2.1 12 = .ok (.ior, 1) := by decide +kernel
theorem d77_13 : decode (tb_me 77).1.2.1 13 = .ok (.goto 13, 3) := by decide +kernel
theorem e77 : (tb_me 77).2.1 = (0, 0) ∧ (tb_me 77).1.2.2.1 = 3 := by decide +kernel
theorem d79_0 : decode (tb_me 79).1.2.1 0 = .ok (.iconst 1, 1) := by decide +kernel
theorem d79_1 : decode (tb_me 79).1.2.1 1 = .ok (.aload_n 1, 1) := by decide +kernel
theorem d79_2 : decode (tb_me 79).1.2.1 2 = .ok (.getfield 55, 3) := by decide +kernel
theorem k79_55 (b : Bool) : tb_lk b 79 55 = (1, 7, 1, 0, 0) := by cases b <;> decide +kernel
theorem f7_1 : (1 < pm_nf tb_cl 7) ∧ tb_ft 7 1 ≠ .long ∧ pm_isR (tb_ft 7 1) = false := by decide +kernel
theorem d79_5 : decode (tb_me 79).1.2.1 5 = .ok (.ishl, 1) := by decide +kernel
theorem d79_6 : decode (tb_me 79).1.2.1 6 = .ok (.iconst 1, 1) := by decide +kernel
theorem d79_7 : decode (tb_me 79).1.2.1 7 = .ok (.isub, 1) := by decide +kernel
theorem d79_8 : decode (tb_me 79).1.2.1 8 = .ok (.aload_n 0, 1) := by decide +kernel
theorem d79_9 : decode (tb_me 79).1.2.1 9 = .ok (.getfield 15, 3) := by decide +kernel
theorem k79_15 (b : Bool) : tb_lk b 79 15 = (1, 3, 1, 0, 0) := by cases b <;> decide +kernel
theorem d79_12 : decode (tb_me 79).1.2.1 12 = .ok (.iconst (-1), 1) := by decide +kernel
theorem d79_13 : decode (tb_me 79).1.2.1 13 = .ok (.ixor, 1) := by decide +kernel
theorem d79_14 : decode (tb_me 79).1.2.1 14 = .ok (.iand, 1) := by decide +kernel
theorem d79_15 : decode (tb_me 79).1.2.1 15 = .ok (.ireturn, 1) := by decide +kernel
theorem t79 : (tb_me 79).1.2.2.2 = some .int := by decide +kernel
theorem e79 : (tb_me 79).2.1 = (0, 0) ∧ (tb_me 79).1.2.2.1 = 2 := by decide +kernel
theorem d80_63 : decode (tb_me 80).1.2.1 63 = .ok (.iload_n 2, 1) := by decide +kernel
theorem d80_64 : decode (tb_me 80).1.2.1 64 = .ok (.iconst 1, 1) := by decide +kernel
theorem d80_65 : decode (tb_me 80).1.2.1 65 = .ok (.iload_n 3, 1) := by decide +kernel
theorem d80_66 : decode (tb_me 80).1.2.1 66 = .ok (.ishl, 1) := by decide +kernel
theorem d80_67 : decode (tb_me 80).1.2.1 67 = .ok (.iconst (-1), 1) := by decide +kernel
theorem d80_68 : decode (tb_me 80).1.2.1 68 = .ok (.ixor, 1) := by decide +kernel
theorem d80_69 : decode (tb_me 80).1.2.1 69 = .ok (.iand, 1) := by decide +kernel
theorem d80_70 : decode (tb_me 80).1.2.1 70 = .ok (.istore_n 2, 1) := by decide +kernel
theorem d80_71 : decode (tb_me 80).1.2.1 71 = .ok (.iinc 3 1, 3) := by decide +kernel
theorem d80_74 : decode (tb_me 80).1.2.1 74 = .ok (.goto (-66), 3) := by decide +kernel
theorem d80_47 : decode (tb_me 80).1.2.1 47 = .ok (.istore 4, 2) := by decide +kernel
theorem d80_49 : decode (tb_me 80).1.2.1 49 = .ok (.iload 4, 2) := by decide +kernel
theorem d80_51 : decode (tb_me 80).1.2.1 51 = .ok (.ifCond .ne 12, 3) := by decide +kernel
theorem d80_54 : decode (tb_me 80).1.2.1 54 = .ok (.aload_n 0, 1) := by decide +kernel
theorem d80_55 : decode (tb_me 80).1.2.1 55 = .ok (.getfield 27, 3) := by decide +kernel
theorem k80_27 (b : Bool) : tb_lk b 80 27 = (1, 3, 5, 0, 0) := by cases b <;> decide +kernel
theorem d80_58 : decode (tb_me 80).1.2.1 58 = .ok (.iload_n 3, 1) := by decide +kernel
theorem d80_59 : decode (tb_me 80).1.2.1 59 = .ok (.iaload, 1) := by decide +kernel
theorem d80_60 : decode (tb_me 80).1.2.1 60 = .ok (.ifCond .le 11, 3) := by decide +kernel
theorem d80_8 : decode (tb_me 80).1.2.1 8 = .ok (.iload_n 3, 1) := by decide +kernel
theorem d80_9 : decode (tb_me 80).1.2.1 9 = .ok (.aload_n 1, 1) := by decide +kernel
theorem d80_10 : decode (tb_me 80).1.2.1 10 = .ok (.getfield 55, 3) := by decide +kernel
theorem k80_55 (b : Bool) : tb_lk b 80 55 = (1, 7, 1, 0, 0) := by cases b <;> decide +kernel
theorem d80_13 : decode (tb_me 80).1.2.1 13 = .ok (.if_icmp .ge 64, 3) := by decide +kernel
theorem d80_16 : decode (tb_me 80).1.2.1 16 = .ok (.iload_n 3, 1) := by decide +kernel
theorem d80_17 : decode (tb_me 80).1.2.1 17 = .ok (.bipush 8, 2) := by decide +kernel
theorem d80_19 : decode (tb_me 80).1.2.1 19 = .ok (.if_icmp .ge 58, 3) := by decide +kernel
theorem d80_22 : decode (tb_me 80).1.2.1 22 = .ok (.aload_n 0, 1) := by decide +kernel
theorem d80_23 : decode (tb_me 80).1.2.1 23 = .ok (.getfield 21, 3) := by decide +kernel
theorem k80_21 (b : Bool) : tb_lk b 80 21 = (1, 3, 3, 0, 0) := by cases b <;> decide +kernel
theorem d80_26 : decode (tb_me 80).1.2.1 26 = .ok (.ifCond .eq 20, 3) := by decide +kernel
theorem d80_46 : decode (tb_me 80).1.2.1 46 = .ok (.iconst 0, 1) := by decide +kernel
theorem d80_29 : decode (tb_me 80).1.2.1 29 = .ok (.aload_n 1, 1) := by decide +kernel
theorem d80_30 : decode (tb_me 80).1.2.1 30 = .ok (.getfield 64, 3) := by decide +kernel
theorem k80_64 (b : Bool) : tb_lk b 80 64 = (1, 7, 5, 0, 0) := by cases b <;> decide +kernel
theorem f7_5 : (5 < pm_nf tb_cl 7) ∧ tb_ft 7 5 ≠ .long ∧ pm_isR (tb_ft 7 5) = true := by decide +kernel
theorem d80_33 : decode (tb_me 80).1.2.1 33 = .ok (.iload_n 3, 1) := by decide +kernel
theorem d80_34 : decode (tb_me 80).1.2.1 34 = .ok (.iaload, 1) := by decide +kernel
theorem d80_35 : decode (tb_me 80).1.2.1 35 = .ok (.aload_n 0, 1) := by decide +kernel
theorem d80_36 : decode (tb_me 80).1.2.1 36 = .ok (.getfield 21, 3) := by decide +kernel
theorem d80_39 : decode (tb_me 80).1.2.1 39 = .ok (.if_icmp .ne 7, 3) := by decide +kernel
theorem d80_42 : decode (tb_me 80).1.2.1 42 = .ok (.iconst 1, 1) := by decide +kernel
theorem d80_43 : decode (tb_me 80).1.2.1 43 = .ok (.goto 4, 3) := by decide +kernel
theorem d80_0 : decode (tb_me 80).1.2.1 0 = .ok (.aload_n 0, 1) := by decide +kernel
theorem d80_1 : decode (tb_me 80).1.2.1 1 = .ok (.aload_n 1, 1) := by decide +kernel
theorem d80_2 : decode (tb_me 80).1.2.1 2 = .ok (.invokevirtual 60, 3) := by decide +kernel
theorem k80_60 (b : Bool) : tb_lk b 80 60 = (2, 79, 0, 0, 0) := by cases b <;> decide +kernel
theorem m79 : (tb_me 79).2 = ((0, 0), (1, 3)) ∧ (tb_me 79).1.2.2.1 = 2 := by decide +kernel
theorem d80_5 : decode (tb_me 80).1.2.1 5 = .ok (.istore_n 2, 1) := by decide +kernel
theorem d80_6 : decode (tb_me 80).1.2.1 6 = .ok (.iconst 0, 1) := by decide +kernel
theorem d80_7 : decode (tb_me 80).1.2.1 7 = .ok (.istore_n 3, 1) := by decide +kernel
theorem d80_77 : decode (tb_me 80).1.2.1 77 = .ok (.iload_n 2, 1) := by decide +kernel
theorem d80_78 : decode (tb_me 80).1.2.1 78 = .ok (.ireturn, 1) := by decide +kernel
theorem t80 : (tb_me 80).1.2.2.2 = some .int := by decide +kernel
theorem e80 : (tb_me 80).2.1 = (0, 0) ∧ (tb_me 80).1.2.2.1 = 5 := by decide +kernel
theorem d81_0 : decode (tb_me 81).1.2.1 0 = .ok (.aload_n 0, 1) := by decide +kernel
theorem d81_1 : decode (tb_me 81).1.2.1 1 = .ok (.aload_n 1, 1) := by decide +kernel
theorem d81_2 : decode (tb_me 81).1.2.1 2 = .ok (.invokevirtual 67, 3) := by decide +kernel
theorem k81_67 (b : Bool) : tb_lk b 81 67 = (2, 80, 0, 0, 0) := by cases b <;> decide +kernel
theorem m80 : (tb_me 80).2 = ((0, 0), (1, 3)) ∧ (tb_me 80).1.2.2.1 = 5 := by decide +kernel
theorem d81_5 : decode (tb_me 81).1.2.1 5 = .ok (.aload_n 0, 1) := by decide +kernel
theorem d81_6 : decode (tb_me 81).1.2.1 6 = .ok (.getfield 9, 3) := by decide +kernel
theorem k81_9 (b : Bool) : tb_lk b 81 9 = (1, 3, 0, 0, 0) := by cases b <;> decide +kernel
theorem d81_9 : decode (tb_me 81).1.2.1 9 = .ok (.iand, 1) := by decide +kernel
theorem d81_10 : decode (tb_me 81).1.2.1 10 = .ok (.istore_n 2, 1) := by decide +kernel
theorem d81_11 : decode (tb_me 81).1.2.1 11 = .ok (.aload_n 0, 1) := by decide +kernel
theorem d81_12 : decode (tb_me 81).1.2.1 12 = .ok (.getfield 24, 3) := by decide +kernel
theorem k81_24 (b : Bool) : tb_lk b 81 24 = (1, 3, 4, 0, 0) := by cases b <;> decide +kernel
theorem d81_15 : decode (tb_me 81).1.2.1 15 = .ok (.ifCond .lt 11, 3) := by decide +kernel
theorem d81_26 : decode (tb_me 81).1.2.1 26 = .ok (.iload_n 2, 1) := by decide +kernel
theorem d81_27 : decode (tb_me 81).1.2.1 27 = .ok (.ireturn, 1) := by decide +kernel
theorem t81 : (tb_me 81).1.2.2.2 = some .int := by decide +kernel
theorem d81_18 : decode (tb_me 81).1.2.1 18 = .ok (.iload_n 2, 1) := by decide +kernel
theorem d81_19 : decode (tb_me 81).1.2.1 19 = .ok (.sipush 256, 3) := by decide +kernel
theorem d81_22 : decode (tb_me 81).1.2.1 22 = .ok (.ior, 1) := by decide +kernel
theorem d81_23 : decode (tb_me 81).1.2.1 23 = .ok (.goto 4, 3) := by decide +kernel
theorem e81 : (tb_me 81).2.1 = (0, 0) ∧ (tb_me 81).1.2.2.1 = 3 := by decide +kernel
theorem d83_0 : decode (tb_me 83).1.2.1 0 = .ok (.aload_n 0, 1) := by decide +kernel
theorem d83_1 : decode (tb_me 83).1.2.1 1 = .ok (.iconst 0, 1) := by decide +kernel
theorem d83_2 : decode (tb_me 83).1.2.1 2 = .ok (.putfield 21, 3) := by decide +kernel
theorem k83_21 (b : Bool) : tb_lk b 83 21 = (1, 4, 2, 0, 0) := by cases b <;> decide +kernel
theorem p83_4_2 : (2 < pm_nf tb_cl 4) ∧ tb_ft 4 2 = .int ∧ pm_fin tb_cl (tb_me 83).1.1 4 2 = true := by decide +kernel
theorem d83_5 : decode (tb_me 83).1.2.1 5 = .ok (.return_, 1) := by decide +kernel
theorem t83 : (tb_me 83).1.2.2.2 = none := by decide +kernel
theorem e83 : (tb_me 83).2.1 = (0, 0) ∧ (tb_me 83).1.2.2.1 = 1 := by decide +kernel
theorem d84_0 : decode (tb_me 84).1.2.1 0 = .ok (.aload_n 0, 1) := by decide +kernel
theorem d84_1 : decode (tb_me 84).1.2.1 1 = .ok (.aload_n 0, 1) := by decide +kernel
theorem d84_2 : decode (tb_me 84).1.2.1 2 = .ok (.getfield 17, 3) := by decide +kernel
theorem k84_17 (b : Bool) : tb_lk b 84 17 = (1, 4, 1, 0, 0) := by cases b <;> decide +kernel
theorem f4_1 : (1 < pm_nf tb_cl 4) ∧ tb_ft 4 1 ≠ .long ∧ pm_isR (tb_ft 4 1) = false := by decide +kernel
theorem d84_5 : decode (tb_me 84).1.2.1 5 = .ok (.iconst 1, 1) := by decide +kernel
theorem d84_6 : decode (tb_me 84).1.2.1 6 = .ok (.iadd, 1) := by decide +kernel
theorem d84_7 : decode (tb_me 84).1.2.1 7 = .ok (.bipush 20, 2) := by decide +kernel
theorem d84_9 : decode (tb_me 84).1.2.1 9 = .ok (.irem, 1) := by decide +kernel
theorem d84_10 : decode (tb_me 84).1.2.1 10 = .ok (.putfield 17, 3) := by decide +kernel
theorem p84_4_1 : (1 < pm_nf tb_cl 4) ∧ tb_ft 4 1 = .int ∧ pm_fin tb_cl (tb_me 84).1.1 4 1 = true := by decide +kernel
theorem d84_13 : decode (tb_me 84).1.2.1 13 = .ok (.aload_n 0, 1) := by decide +kernel
theorem d84_14 : decode (tb_me 84).1.2.1 14 = .ok (.getfield 11, 3) := by decide +kernel
theorem k84_11 (b : Bool) : tb_lk b 84 11 = (1, 4, 0, 0, 0) := by cases b <;> decide +kernel
theorem f4_0 : (0 < pm_nf tb_cl 4) ∧ tb_ft 4 0 ≠ .long ∧ pm_isR (tb_ft 4 0) = true := by decide +kernel
theorem d84_17 : decode (tb_me 84).1.2.1 17 = .ok (.aload_n 0, 1) := by decide +kernel
theorem d84_18 : decode (tb_me 84).1.2.1 18 = .ok (.getfield 17, 3) := by decide +kernel
theorem d84_21 : decode (tb_me 84).1.2.1 21 = .ok (.aaload, 1) := by decide +kernel
theorem d84_22 : decode (tb_me 84).1.2.1 22 = .ok (.aload_n 1, 1) := by decide +kernel
theorem d84_23 : decode (tb_me 84).1.2.1 23 = .ok (.invokevirtual 25, 3) := by decide +kernel
theorem k84_25 (b : Bool) : tb_lk b 84 25 = (2, 76, 0, 0, 0) := by cases b <;> decide +kernel
theorem m76 : (tb_me 76).2 = ((0, 0), (1, 3)) ∧ (tb_me 76).1.2.2.1 = 2 := by decide +kernel
theorem d84_26 : decode (tb_me 84).1.2.1 26 = .ok (.aload_n 0, 1) := by decide +kernel
theorem d84_27 : decode (tb_me 84).1.2.1 27 = .ok (.aload_n 0, 1) := by decide +kernel
theorem d84_28 : decode (tb_me 84).1.2.1 28 = .ok (.getfield 21, 3) := by decide +kernel
theorem k84_21 (b : Bool) : tb_lk b 84 21 = (1, 4, 2, 0, 0) := by cases b <;> decide +kernel
theorem f4_2 : (2 < pm_nf tb_cl 4) ∧ tb_ft 4 2 ≠ .long ∧ pm_isR (tb_ft 4 2) = false := by decide +kernel
theorem d84_31 : decode (tb_me 84).1.2.1 31 = .ok (.iconst 1, 1) := by decide +kernel
theorem d84_32 : decode (tb_me 84).1.2.1 32 = .ok (.iadd, 1) := by decide +kernel
theorem d84_33 : decode (tb_me 84).1.2.1 33 = .ok (.bipush 20, 2) := by decide +kernel
theorem d84_35 : decode (tb_me 84).1.2.1 35 = .ok (.invokestatic 29, 3) := by decide +kernel
theorem k84_29 (b : Bool) : tb_lk b 84 29 = (17, 0, 0, 0, 0) := by cases b <;> decide +kernel
theorem d84_38 : decode (tb_me 84).1.2.1 38 = .ok (.putfield 21, 3) := by decide +kernel
theorem p84_4_2 : (2 < pm_nf tb_cl 4) ∧ tb_ft 4 2 = .int ∧ pm_fin tb_cl (tb_me 84).1.1 4 2 = true := by decide +kernel
theorem d84_41 : decode (tb_me 84).1.2.1 41 = .ok (.return_, 1) := by decide +kernel
theorem t84 : (tb_me 84).1.2.2.2 = none := by decide +kernel
theorem e84 : (tb_me 84).2.1 = (0, 0) ∧ (tb_me 84).1.2.2.1 = 2 := by decide +kernel
theorem d85_0 : decode (tb_me 85).1.2.1 0 = .ok (.aload_n 0, 1) := by decide +kernel
theorem d85_1 : decode (tb_me 85).1.2.1 1 = .ok (.getfield 21, 3) := by decide +kernel
theorem k85_21 (b : Bool) : tb_lk b 85 21 = (1, 4, 2, 0, 0) := by cases b <;> decide +kernel
theorem d85_4 : decode (tb_me 85).1.2.1 4 = .ok (.iconst 1, 1) := by decide +kernel
theorem d85_5 : decode (tb_me 85).1.2.1 5 = .ok (.if_icmp .ge 5, 3) := by decide +kernel
theorem d85_10 : decode (tb_me 85).1.2.1 10 = .ok (.aload_n 1, 1) := by decide +kernel
theorem d85_11 : decode (tb_me 85).1.2.1 11 = .ok (.aload_n 0, 1) := by decide +kernel
theorem d85_12 : decode (tb_me 85).1.2.1 12 = .ok (.getfield 11, 3) := by decide +kernel
theorem k85_11 (b : Bool) : tb_lk b 85 11 = (1, 4, 0, 0, 0) := by cases b <;> decide +kernel
theorem d85_15 : decode (tb_me 85).1.2.1 15 = .ok (.aload_n 0, 1) := by decide +kernel
theorem d85_16 : decode (tb_me 85).1.2.1 16 = .ok (.getfield 17, 3) := by decide +kernel
theorem k85_17 (b : Bool) : tb_lk b 85 17 = (1, 4, 1, 0, 0) := by cases b <;> decide +kernel
theorem d85_19 : decode (tb_me 85).1.2.1 19 = .ok (.aaload, 1) := by decide +kernel
theorem d85_20 : decode (tb_me 85).1.2.1 20 = .ok (.invokevirtual 25, 3) := by decide +kernel
theorem k85_25 (b : Bool) : tb_lk b 85 25 = (2, 76, 0, 0, 0) := by cases b <;> decide +kernel
theorem d85_23 : decode (tb_me 85).1.2.1 23 = .ok (.aload_n 0, 1) := by decide +kernel
theorem d85_24 : decode (tb_me 85).1.2.1 24 = .ok (.aload_n 0, 1) := by decide +kernel
theorem d85_25 : decode (tb_me 85).1.2.1 25 = .ok (.getfield 17, 3) := by decide +kernel
theorem d85_28 : decode (tb_me 85).1.2.1 28 = .ok (.bipush 20, 2) := by decide +kernel
theorem d85_30 : decode (tb_me 85).1.2.1 30 = .ok (.iadd, 1) := by decide +kernel
theorem d85_31 : decode (tb_me 85).1.2.1 31 = .ok (.iconst 1, 1) := by decide +kernel
theorem d85_32 : decode (tb_me 85).1.2.1 32 = .ok (.isub, 1) := by decide +kernel
theorem d85_33 : decode (tb_me 85).1.2.1 33 = .ok (.bipush 20, 2) := by decide +kernel
theorem d85_35 : decode (tb_me 85).1.2.1 35 = .ok (.irem, 1) := by decide +kernel
theorem d85_36 : decode (tb_me 85).1.2.1 36 = .ok (.putfield 17, 3) := by decide +kernel
theorem p85_4_1 : (1 < pm_nf tb_cl 4) ∧ tb_ft 4 1 = .int ∧ pm_fin tb_cl (tb_me 85).1.1 4 1 = true := by decide +kernel
theorem d85_39 : decode (tb_me 85).1.2.1 39 = .ok (.aload_n 0, 1) := by decide +kernel
theorem d85_40 : decode (tb_me 85).1.2.1 40 = .ok (.dup, 1) := by decide +kernel
theorem d85_41 : decode (tb_me 85).1.2.1 41 = .ok (.getfield 21, 3) := by decide +kernel
theorem d85_44 : decode (tb_me 85).1.2.1 44 = .ok (.iconst 1, 1) := by decide +kernel
theorem d85_45 : decode (tb_me 85).1.2.1 45 = .ok (.isub, 1) := by decide +kernel
theorem d85_46 : decode (tb_me 85).1.2.1 46 = .ok (.putfield 21, 3) := by decide +kernel
theorem p85_4_2 : (2 < pm_nf tb_cl 4) ∧ tb_ft 4 2 = .int ∧ pm_fin tb_cl (tb_me 85).1.1 4 2 = true := by decide +kernel
theorem d85_49 : decode (tb_me 85).1.2.1 49 = .ok (.iconst 1, 1) := by decide +kernel
theorem d85_50 : decode (tb_me 85).1.2.1 50 = .ok (.ireturn, 1) := by decide +kernel
theorem t85 : (tb_me 85).1.2.2.2 = some .boolean := by decide +kernel
theorem d85_8 : decode (tb_me 85).1.2.1 8 = .ok (.iconst 0, 1) := by decide +kernel
theorem d85_9 : decode (tb_me 85).1.2.1 9 = .ok (.ireturn, 1) := by decide +kernel
theorem e85 : (tb_me 85).2.1 = (0, 0) ∧ (tb_me 85).1.2.2.1 = 2 := by decide +kernel
theorem d144_0 : decode (tb_me 144).1.2.1 0 = .ok (.aload_n 0, 1) := by decide +kernel
theorem d144_1 : decode (tb_me 144).1.2.1 1 = .ok (.aload_n 1, 1) := by decide +kernel
theorem d144_2 : decode (tb_me 144).1.2.1 2 = .ok (.getfield 36, 3) := by decide +kernel
theorem k144_36 (b : Bool) : tb_lk b 144 36 = (1, 9, 0, 0, 0) := by cases b <;> decide +kernel
theorem f9_0 : (0 < pm_nf tb_cl 9) ∧ tb_ft 9 0 ≠ .long ∧ pm_isR (tb_ft 9 0) = true := by decide +kernel
theorem d144_5 : decode (tb_me 144).1.2.1 5 = .ok (.putfield 36, 3) := by decide +kernel
theorem p144_9_0 : (0 < pm_nf tb_cl 9) ∧ pm_isR (tb_ft 9 0) = true ∧ pm_fin tb_cl (tb_me 144).1.1 9 0 = true := by decide +kernel
theorem d144_8 : decode (tb_me 144).1.2.1 8 = .ok (.aload_n 0, 1) := by decide +kernel
theorem d144_9 : decode (tb_me 144).1.2.1 9 = .ok (.getfield 12, 3) := by decide +kernel
theorem k144_12 (b : Bool) : tb_lk b 144 12 = (1, 9, 1, 0, 0) := by cases b <;> decide +kernel
theorem f9_1 : (1 < pm_nf tb_cl 9) ∧ tb_ft 9 1 ≠ .long ∧ pm_isR (tb_ft 9 1) = true := by decide +kernel
theorem d144_12 : decode (tb_me 144).1.2.1 12 = .ok (.aload_n 1, 1) := by decide +kernel
theorem d144_13 : decode (tb_me 144).1.2.1 13 = .ok (.getfield 12, 3) := by decide +kernel
theorem d144_16 : decode (tb_me 144).1.2.1 16 = .ok (.invokevirtual 40, 3) := by decide +kernel
theorem k144_40 (b : Bool) : tb_lk b 144 40 = (2, 76, 0, 0, 0) := by cases b <;> decide +kernel
theorem d144_19 : decode (tb_me 144).1.2.1 19 = .ok (.aload_n 0, 1) := by decide +kernel
theorem d144_20 : decode (tb_me 144).1.2.1 20 = .ok (.aload_n 1, 1) := by decide +kernel
theorem d144_21 : decode (tb_me 144).1.2.1 21 = .ok (.getfield 18, 3) := by decide +kernel
theorem k144_18 (b : Bool) : tb_lk b 144 18 = (1, 9, 2, 0, 0) := by cases b <;> decide +kernel
theorem f9_2 : (2 < pm_nf tb_cl 9) ∧ tb_ft 9 2 ≠ .long ∧ pm_isR (tb_ft 9 2) = false := by decide +kernel
theorem d144_24 : decode (tb_me 144).1.2.1 24 = .ok (.putfield 18, 3) := by decide +kernel
theorem p144_9_2 : (2 < pm_nf tb_cl 9) ∧ tb_ft 9 2 = .int ∧ pm_fin tb_cl (tb_me 144).1.1 9 2 = true := by decide +kernel
theorem d144_27 : decode (tb_me 144).1.2.1 27 = .ok (.aload_n 1, 1) := by decide +kernel
theorem d144_28 : decode (tb_me 144).1.2.1 28 = .ok (.getfield 22, 3) := by decide +kernel
theorem k144_22 (b : Bool) : tb_lk b 144 22 = (1, 9, 3, 0, 0) := by cases b <;> decide +kernel
theorem f9_3 : (3 < pm_nf tb_cl 9) ∧ tb_ft 9 3 ≠ .long ∧ pm_isR (tb_ft 9 3) = true := by decide +kernel
theorem d144_31 : decode (tb_me 144).1.2.1 31 = .ok (.iconst 0, 1) := by decide +kernel
theorem d144_32 : decode (tb_me 144).1.2.1 32 = .ok (.aload_n 0, 1) := by decide +kernel
theorem d144_33 : decode (tb_me 144).1.2.1 33 = .ok (.getfield 22, 3) := by decide +kernel
theorem d144_36 : decode (tb_me 144).1.2.1 36 = .ok (.iconst 0, 1) := by decide +kernel
theorem d144_37 : decode (tb_me 144).1.2.1 37 = .ok (.bipush 10, 2) := by decide +kernel
theorem d144_39 : decode (tb_me 144).1.2.1 39 = .ok (.invokestatic 44, 3) := by decide +kernel
theorem k144_44 (b : Bool) : tb_lk b 144 44 = (14, 0, 0, 0, 0) := by cases b <;> decide +kernel
theorem d144_42 : decode (tb_me 144).1.2.1 42 = .ok (.aload_n 0, 1) := by decide +kernel
theorem d144_43 : decode (tb_me 144).1.2.1 43 = .ok (.aload_n 1, 1) := by decide +kernel
theorem d144_44 : decode (tb_me 144).1.2.1 44 = .ok (.getfield 26, 3) := by decide +kernel
theorem k144_26 (b : Bool) : tb_lk b 144 26 = (1, 9, 4, 0, 0) := by cases b <;> decide +kernel
theorem f9_4 : (4 < pm_nf tb_cl 9) ∧ tb_ft 9 4 ≠ .long ∧ pm_isR (tb_ft 9 4) = false := by decide +kernel
theorem d144_47 : decode (tb_me 144).1.2.1 47 = .ok (.putfield 26, 3) := by decide +kernel
theorem p144_9_4 : (4 < pm_nf tb_cl 9) ∧ tb_ft 9 4 = .int ∧ pm_fin tb_cl (tb_me 144).1.1 9 4 = true := by decide +kernel
theorem d144_50 : decode (tb_me 144).1.2.1 50 = .ok (.aload_n 0, 1) := by decide +kernel
theorem d144_51 : decode (tb_me 144).1.2.1 51 = .ok (.aload_n 1, 1) := by decide +kernel
theorem d144_52 : decode (tb_me 144).1.2.1 52 = .ok (.getfield 29, 3) := by decide +kernel
theorem k144_29 (b : Bool) : tb_lk b 144 29 = (1, 9, 5, 0, 0) := by cases b <;> decide +kernel
theorem f9_5 : (5 < pm_nf tb_cl 9) ∧ tb_ft 9 5 ≠ .long ∧ pm_isR (tb_ft 9 5) = false := by decide +kernel
theorem d144_55 : decode (tb_me 144).1.2.1 55 = .ok (.putfield 29, 3) := by decide +kernel
theorem p144_9_5 : (5 < pm_nf tb_cl 9) ∧ tb_ft 9 5 = .int ∧ pm_fin tb_cl (tb_me 144).1.1 9 5 = true := by decide +kernel
theorem d144_58 : decode (tb_me 144).1.2.1 58 = .ok (.return_, 1) := by decide +kernel
theorem t144 : (tb_me 144).1.2.2.2 = none := by decide +kernel
theorem e144 : (tb_me 144).2.1 = (0, 0) ∧ (tb_me 144).1.2.2.1 = 2 := by decide +kernel
theorem d145_56 : decode (tb_me 145).1.2.1 56 = .ok (.putfield 26, 3) := by decide +kernel
theorem k145_26 (b : Bool) : tb_lk b 145 26 = (1, 9, 4, 0, 0) := by cases b <;> decide +kernel
theorem p145_9_4 : (4 < pm_nf tb_cl 9) ∧ tb_ft 9 4 = .int ∧ pm_fin tb_cl (tb_me 145).1.1 9 4 = true := by decide +kernel
theorem d145_59 : decode (tb_me 145).1.2.1 59 = .ok (.aload_n 0, 1) := by decide +kernel
theorem d145_60 : decode (tb_me 145).1.2.1 60 = .ok (.dup, 1) := by decide +kernel
theorem d145_61 : decode (tb_me 145).1.2.1 61 = .ok (.getfield 18, 3) := by decide +kernel
theorem k145_18 (b : Bool) : tb_lk b 145 18 = (1, 9, 2, 0, 0) := by cases b <;> decide +kernel
theorem d145_64 : decode (tb_me 145).1.2.1 64 = .ok (.iconst 1, 1) := by decide +kernel
theorem d145_65 : decode (tb_me 145).1.2.1 65 = .ok (.iadd, 1) := by decide +kernel
theorem d145_66 : decode (tb_me 145).1.2.1 66 = .ok (.putfield 18, 3) := by decide +kernel
theorem p145_9_2 : (2 < pm_nf tb_cl 9) ∧ tb_ft 9 2 = .int ∧ pm_fin tb_cl (tb_me 145).1.1 9 2 = true := by decide +kernel
theorem d145_69 : decode (tb_me 145).1.2.1 69 = .ok (.return_, 1) := by decide +kernel
theorem t145 : (tb_me 145).1.2.2.2 = none := by decide +kernel
theorem d145_0 : decode (tb_me 145).1.2.1 0 = .ok (.aload_n 0, 1) := by decide +kernel
theorem d145_1 : decode (tb_me 145).1.2.1 1 = .ok (.getfield 18, 3) := by decide +kernel
theorem d145_4 : decode (tb_me 145).1.2.1 4 = .ok (.ifCond .lt 12, 3) := by decide +kernel
theorem d145_16 : decode (tb_me 145).1.2.1 16 = .ok (.return_, 1) := by decide +kernel
theorem d145_7 : decode (tb_me 145).1.2.1 7 = .ok (.aload_n 0, 1) := by decide +kernel
theorem d145_8 : decode (tb_me 145).1.2.1 8 = .ok (.getfield 18, 3) := by decide +kernel
theorem d145_11 : decode (tb_me 145).1.2.1 11 = .ok (.bipush 10, 2) := by decide +kernel
theorem d145_13 : decode (tb_me 145).1.2.1 13 = .ok (.if_icmp .lt 4, 3) := by decide +kernel
theorem d145_17 : decode (tb_me 145).1.2.1 17 = .ok (.aload_n 0, 1) := by decide +kernel
theorem d145_18 : decode (tb_me 145).1.2.1 18 = .ok (.getfield 22, 3) := by decide +kernel
theorem k145_22 (b : Bool) : tb_lk b 145 22 = (1, 9, 3, 0, 0) := by cases b <;> decide +kernel
theorem d145_21 : decode (tb_me 145).1.2.1 21 = .ok (.aload_n 0, 1) := by decide +kernel
theorem d145_22 : decode (tb_me 145).1.2.1 22 = .ok (.getfield 18, 3) := by decide +kernel
theorem d145_25 : decode (tb_me 145).1.2.1 25 = .ok (.iload_n 1, 1) := by decide +kernel
theorem d145_26 : decode (tb_me 145).1.2.1 26 = .ok (.iastore, 1) := by decide +kernel
theorem d145_27 : decode (tb_me 145).1.2.1 27 = .ok (.iconst 1, 1) := by decide +kernel
theorem d145_28 : decode (tb_me 145).1.2.1 28 = .ok (.aload_n 0, 1) := by decide +kernel
theorem d145_29 : decode (tb_me 145).1.2.1 29 = .ok (.getfield 18, 3) := by decide +kernel
theorem d145_32 : decode (tb_me 145).1.2.1 32 = .ok (.ishl, 1) := by decide +kernel
theorem d145_33 : decode (tb_me 145).1.2.1 33 = .ok (.istore_n 3, 1) := by decide +kernel
theorem d145_34 : decode (tb_me 145).1.2.1 34 = .ok (.aload_n 0, 1) := by decide +kernel
theorem d145_35 : decode (tb_me 145).1.2.1 35 = .ok (.iload_n 2, 1) := by decide +kernel
theorem d145_36 : decode (tb_me 145).1.2.1 36 = .ok (.ifCond .eq 12, 3) := by decide +kernel
theorem d145_48 : decode (tb_me 145).1.2.1 48 = .ok (.aload_n 0, 1) := by decide +kernel
theorem d145_49 : decode (tb_me 145).1.2.1 49 = .ok (.getfield 26, 3) := by decide +kernel
theorem d145_52 : decode (tb_me 145).1.2.1 52 = .ok (.iload_n 3, 1) := by decide +kernel
theorem d145_53 : decode (tb_me 145).1.2.1 53 = .ok (.iconst (-1), 1) := by decide +kernel
theorem d145_54 : decode (tb_me 145).1.2.1 54 = .ok (.ixor, 1) := by decide +kernel
theorem d145_55 : decode (tb_me 145).1.2.1 55 = .ok (.iand, 1) := by decide +kernel
theorem d145_39 : decode (tb_me 145).1.2.1 39 = .ok (.aload_n 0, 1) := by decide +kernel
theorem d145_40 : decode (tb_me 145).1.2.1 40 = .ok (.getfield 26, 3) := by decide +kernel
theorem d145_43 : decode (tb_me 145).1.2.1 43 = .ok (.iload_n 3, 1) := by decide +kernel
theorem d145_44 : decode (tb_me 145).1.2.1 44 = .ok (.ior, 1) := by decide +kernel
theorem d145_45 : decode (tb_me 145).1.2.1 45 = .ok (.goto 11, 3) := by decide +kernel
theorem e145 : (tb_me 145).2.1 = (0, 0) ∧ (tb_me 145).1.2.2.1 = 4 := by decide +kernel
theorem d110_0 : decode (tb_me 110).1.2.1 0 = .ok (.aload_n 0, 1) := by decide +kernel
theorem d110_1 : decode (tb_me 110).1.2.1 1 = .ok (.getfield 9, 3) := by decide +kernel
theorem k110_9 (b : Bool) : tb_lk b 110 9 = (1, 7, 0, 0, 0) := by cases b <;> decide +kernel
theorem f7_0 : (0 < pm_nf tb_cl 7) ∧ tb_ft 7 0 ≠ .long ∧ pm_isR (tb_ft 7 0) = false := by decide +kernel
theorem d110_4 : decode (tb_me 110).1.2.1 4 = .ok (.ifCond .le 7, 3) := by decide +kernel
theorem d110_11 : decode (tb_me 110).1.2.1 11 = .ok (.iconst 0, 1) := by decide +kernel
theorem d110_12 : decode (tb_me 110).1.2.1 12 = .ok (.ireturn, 1) := by decide +kernel
theorem t110 : (tb_me 110).1.2.2.2 = some .boolean := by decide +kernel
theorem d110_7 : decode (tb_me 110).1.2.1 7 = .ok (.iconst 1, 1) := by decide +kernel
theorem d110_8 : decode (tb_me 110).1.2.1 8 = .ok (.goto 4, 3) := by decide +kernel
theorem e110 : (tb_me 110).2.1 = (0, 0) ∧ (tb_me 110).1.2.2.1 = 1 := by decide +kernel
theorem d111_0 : decode (tb_me 111).1.2.1 0 = .ok (.iload_n 1, 1) := by decide +kernel
theorem d111_1 : decode (tb_me 111).1.2.1 1 = .ok (.ifCond .lt 15, 3) := by decide +kernel
theorem d111_16 : decode (tb_me 111).1.2.1 16 = .ok (.iconst 0, 1) := by decide +kernel
theorem d111_17 : decode (tb_me 111).1.2.1 17 = .ok (.ireturn, 1) := by decide +kernel
theorem t111 : (tb_me 111).1.2.2.2 = some .boolean := by decide +kernel
theorem d111_4 : decode (tb_me 111).1.2.1 4 = .ok (.iload_n 1, 1) := by decide +kernel
theorem d111_5 : decode (tb_me 111).1.2.1 5 = .ok (.aload_n 0, 1) := by decide +kernel
theorem d111_6 : decode (tb_me 111).1.2.1 6 = .ok (.getfield 9, 3) := by decide +kernel
theorem k111_9 (b : Bool) : tb_lk b 111 9 = (1, 7, 0, 0, 0) := by cases b <;> decide +kernel
theorem d111_9 : decode (tb_me 111).1.2.1 9 = .ok (.if_icmp .ge 7, 3) := by decide +kernel
theorem d111_12 : decode (tb_me 111).1.2.1 12 = .ok (.iconst 1, 1) := by decide +kernel
theorem d111_13 : decode (tb_me 111).1.2.1 13 = .ok (.goto 4, 3) := by decide +kernel
theorem e111 : (tb_me 111).2.1 = (0, 0) ∧ (tb_me 111).1.2.2.1 = 2 := by decide +kernel
theorem d112_0 : decode (tb_me 112).1.2.1 0 = .ok (.iload_n 1, 1) := by decide +kernel
theorem d112_1 : decode (tb_me 112).1.2.1 1 = .ok (.ifCond .lt 21, 3) := by decide +kernel
theorem d112_22 : decode (tb_me 112).1.2.1 22 = .ok (.iconst 0, 1) := by decide +kernel
theorem d112_23 : decode (tb_me 112).1.2.1 23 = .ok (.ireturn, 1) := by decide +kernel
theorem t112 : (tb_me 112).1.2.2.2 = some .boolean := by decide +kernel
theorem d112_4 : decode (tb_me 112).1.2.1 4 = .ok (.iload_n 1, 1) := by decide +kernel
theorem d112_5 : decode (tb_me 112).1.2.1 5 = .ok (.aload_n 0, 1) := by decide +kernel
theorem d112_6 : decode (tb_me 112).1.2.1 6 = .ok (.getfield 15, 3) := by decide +kernel
theorem k112_15 (b : Bool) : tb_lk b 112 15 = (1, 7, 1, 0, 0) := by cases b <;> decide +kernel
theorem d112_9 : decode (tb_me 112).1.2.1 9 = .ok (.if_icmp .ge 13, 3) := by decide +kernel
theorem d112_12 : decode (tb_me 112).1.2.1 12 = .ok (.iload_n 1, 1) := by decide +kernel
theorem d112_13 : decode (tb_me 112).1.2.1 13 = .ok (.bipush 8, 2) := by decide +kernel
theorem d112_15 : decode (tb_me 112).1.2.1 15 = .ok (.if_icmp .ge 7, 3) := by decide +kernel
theorem d112_18 : decode (tb_me 112).1.2.1 18 = .ok (.iconst 1, 1) := by decide +kernel
theorem d112_19 : decode (tb_me 112).1.2.1 19 = .ok (.goto 4, 3) := by decide +kernel
theorem e112 : (tb_me 112).2.1 = (0, 0) ∧ (tb_me 112).1.2.2.1 = 2 := by decide +kernel
theorem d113_0 : decode (tb_me 113).1.2.1 0 = .ok (.iload_n 1, 1) := by decide +kernel
theorem d113_1 : decode (tb_me 113).1.2.1 1 = .ok (.ifCond .lt 21, 3) := by decide +kernel
theorem d113_22 : decode (tb_me 113).1.2.1 22 = .ok (.iconst 0, 1) := by decide +kernel
theorem d113_23 : decode (tb_me 113).1.2.1 23 = .ok (.ireturn, 1) := by decide +kernel
theorem t113 : (tb_me 113).1.2.2.2 = some .boolean := by decide +kernel
theorem d113_4 : decode (tb_me 113).1.2.1 4 = .ok (.iload_n 1, 1) := by decide +kernel
theorem d113_5 : decode (tb_me 113).1.2.1 5 = .ok (.aload_n 0, 1) := by decide +kernel
theorem d113_6 : decode (tb_me 113).1.2.1 6 = .ok (.getfield 18, 3) := by decide +kernel
theorem k113_18 (b : Bool) : tb_lk b 113 18 = (1, 7, 2, 0, 0) := by cases b <;> decide +kernel
theorem f7_2 : (2 < pm_nf tb_cl 7) ∧ tb_ft 7 2 ≠ .long ∧ pm_isR (tb_ft 7 2) = false := by decide +kernel
theorem d113_9 : decode (tb_me 113).1.2.1 9 = .ok (.if_icmp .ge 13, 3) := by decide +kernel
theorem d113_12 : decode (tb_me 113).1.2.1 12 = .ok (.iload_n 1, 1) := by decide +kernel
theorem d113_13 : decode (tb_me 113).1.2.1 13 = .ok (.bipush 8, 2) := by decide +kernel
theorem d113_15 : decode (tb_me 113).1.2.1 15 = .ok (.if_icmp .ge 7, 3) := by decide +kernel
theorem d113_18 : decode (tb_me 113).1.2.1 18 = .ok (.iconst 1, 1) := by decide +kernel
theorem d113_19 : decode (tb_me 113).1.2.1 19 = .ok (.goto 4, 3) := by decide +kernel
theorem e113 : (tb_me 113).2.1 = (0, 0) ∧ (tb_me 113).1.2.2.1 = 2 := by decide +kernel
theorem d114_0 : decode (tb_me 114).1.2.1 0 = .ok (.aload_n 0, 1) := by decide +kernel
theorem d114_1 : decode (tb_me 114).1.2.1 1 = .ok (.invokevirtual 52, 3) := by decide +kernel
theorem k114_52 (b : Bool) : tb_lk b 114 52 = (2, 110, 0, 0, 0) := by cases b <;> decide +kernel
theorem m110 : (tb_me 110).2 = ((0, 0), (0, 7)) ∧ (tb_me 110).1.2.2.1 = 1 := by decide +kernel
theorem d114_4 : decode (tb_me 114).1.2.1 4 = .ok (.ifCond .eq 21, 3) := by decide +kernel
theorem d114_25 : decode (tb_me 114).1.2.1 25 = .ok (.iconst 0, 1) := by decide +kernel
theorem d114_26 : decode (tb_me 114).1.2.1 26 = .ok (.ireturn, 1) := by decide +kernel
theorem t114 : (tb_me 114).1.2.2.2 = some .boolean := by decide +kernel
theorem d114_7 : decode (tb_me 114).1.2.1 7 = .ok (.iload_n 1, 1) := by decide +kernel
theorem d114_8 : decode (tb_me 114).1.2.1 8 = .ok (.ifCond .lt 17, 3) := by decide +kernel
theorem d114_11 : decode (tb_me 114).1.2.1 11 = .ok (.iload_n 1, 1) := by decide +kernel
theorem d114_12 : decode (tb_me 114).1.2.1 12 = .ok (.iconst 1, 1) := by decide +kernel
theorem d114_13 : decode (tb_me 114).1.2.1 13 = .ok (.aload_n 0, 1) := by decide +kernel
theorem d114_14 : decode (tb_me 114).1.2.1 14 = .ok (.getfield 18, 3) := by decide +kernel
theorem k114_18 (b : Bool) : tb_lk b 114 18 = (1, 7, 2, 0, 0) := by cases b <;> decide +kernel
theorem d114_17 : decode (tb_me 114).1.2.1 17 = .ok (.ishl, 1) := by decide +kernel
theorem d114_18 : decode (tb_me 114).1.2.1 18 = .ok (.if_icmp .ge 7, 3) := by decide +kernel
theorem d114_21 : decode (tb_me 114).1.2.1 21 = .ok (.iconst 1, 1) := by decide +kernel
theorem d114_22 : decode (tb_me 114).1.2.1 22 = .ok (.goto 4, 3) := by decide +kernel
theorem e114 : (tb_me 114).2.1 = (0, 0) ∧ (tb_me 114).1.2.2.1 = 2 := by decide +kernel
theorem d115_0 : decode (tb_me 115).1.2.1 0 = .ok (.iload_n 1, 1) := by decide +kernel
theorem d115_1 : decode (tb_me 115).1.2.1 1 = .ok (.ifCond .lt 26, 3) := by decide +kernel
theorem d115_27 : decode (tb_me 115).1.2.1 27 = .ok (.iconst (-1), 1) := by decide +kernel
theorem d115_28 : decode (tb_me 115).1.2.1 28 = .ok (.ireturn, 1) := by decide +kernel
theorem t115 : (tb_me 115).1.2.2.2 = some .int := by decide +kernel
theorem d115_4 : decode (tb_me 115).1.2.1 4 = .ok (.iload_n 1, 1) := by decide +kernel
theorem d115_5 : decode (tb_me 115).1.2.1 5 = .ok (.aload_n 0, 1) := by decide +kernel
theorem d115_6 : decode (tb_me 115).1.2.1 6 = .ok (.getfield 15, 3) := by decide +kernel
theorem k115_15 (b : Bool) : tb_lk b 115 15 = (1, 7, 1, 0, 0) := by cases b <;> decide +kernel
theorem d115_9 : decode (tb_me 115).1.2.1 9 = .ok (.if_icmp .ge 18, 3) := by decide +kernel
theorem d115_12 : decode (tb_me 115).1.2.1 12 = .ok (.iload_n 1, 1) := by decide +kernel
theorem d115_13 : decode (tb_me 115).1.2.1 13 = .ok (.bipush 8, 2) := by decide +kernel
theorem d115_15 : decode (tb_me 115).1.2.1 15 = .ok (.if_icmp .ge 12, 3) := by decide +kernel
theorem d115_18 : decode (tb_me 115).1.2.1 18 = .ok (.aload_n 0, 1) := by decide +kernel
theorem d115_19 : decode (tb_me 115).1.2.1 19 = .ok (.getfield 24, 3) := by decide +kernel
theorem k115_24 (b : Bool) : tb_lk b 115 24 = (1, 7, 4, 0, 0) := by cases b <;> decide +kernel
theorem f7_4 : (4 < pm_nf tb_cl 7) ∧ tb_ft 7 4 ≠ .long ∧ pm_isR (tb_ft 7 4) = true := by decide +kernel
theorem d115_22 : decode (tb_me 115).1.2.1 22 = .ok (.iload_n 1, 1) := by decide +kernel
theorem d115_23 : decode (tb_me 115).1.2.1 23 = .ok (.iaload, 1) := by decide +kernel
theorem d115_24 : decode (tb_me 115).1.2.1 24 = .ok (.goto 4, 3) := by decide +kernel
theorem e115 : (tb_me 115).2.1 = (0, 0) ∧ (tb_me 115).1.2.2.1 = 2 := by decide +kernel
theorem d116_32 : decode (tb_me 116).1.2.1 32 = .ok (.istore_n 3, 1) := by decide +kernel
theorem d116_33 : decode (tb_me 116).1.2.1 33 = .ok (.iload_n 3, 1) := by decide +kernel
theorem d116_34 : decode (tb_me 116).1.2.1 34 = .ok (.ifCond .eq 16, 3) := by decide +kernel
theorem d116_50 : decode (tb_me 116).1.2.1 50 = .ok (.iconst (-1), 1) := by decide +kernel
theorem d116_51 : decode (tb_me 116).1.2.1 51 = .ok (.ireturn, 1) := by decide +kernel
theorem t116 : (tb_me 116).1.2.2.2 = some .int := by decide +kernel
theorem d116_37 : decode (tb_me 116).1.2.1 37 = .ok (.aload_n 0, 1) := by decide +kernel
theorem d116_38 : decode (tb_me 116).1.2.1 38 = .ok (.getfield 37, 3) := by decide +kernel
theorem k116_37 (b : Bool) : tb_lk b 116 37 = (1, 7, 8, 0, 0) := by cases b <;> decide +kernel
theorem f7_8 : (8 < pm_nf tb_cl 7) ∧ tb_ft 7 8 ≠ .long ∧ pm_isR (tb_ft 7 8) = true := by decide +kernel
theorem d116_41 : decode (tb_me 116).1.2.1 41 = .ok (.iload_n 1, 1) := by decide +kernel
theorem d116_42 : decode (tb_me 116).1.2.1 42 = .ok (.iconst 4, 1) := by decide +kernel
theorem d116_43 : decode (tb_me 116).1.2.1 43 = .ok (.imul, 1) := by decide +kernel
theorem d116_44 : decode (tb_me 116).1.2.1 44 = .ok (.iload_n 2, 1) := by decide +kernel
theorem d116_45 : decode (tb_me 116).1.2.1 45 = .ok (.iadd, 1) := by decide +kernel
theorem d116_46 : decode (tb_me 116).1.2.1 46 = .ok (.iaload, 1) := by decide +kernel
theorem d116_47 : decode (tb_me 116).1.2.1 47 = .ok (.goto 4, 3) := by decide +kernel
theorem d116_0 : decode (tb_me 116).1.2.1 0 = .ok (.aload_n 0, 1) := by decide +kernel
theorem d116_1 : decode (tb_me 116).1.2.1 1 = .ok (.iload_n 1, 1) := by decide +kernel
theorem d116_2 : decode (tb_me 116).1.2.1 2 = .ok (.invokevirtual 56, 3) := by decide +kernel
theorem k116_56 (b : Bool) : tb_lk b 116 56 = (2, 113, 0, 0, 0) := by cases b <;> decide +kernel
theorem m113 : (tb_me 113).2 = ((0, 0), (1, 7)) ∧ (tb_me 113).1.2.2.1 = 2 := by decide +kernel
theorem d116_5 : decode (tb_me 116).1.2.1 5 = .ok (.ifCond .eq 26, 3) := by decide +kernel
theorem d116_31 : decode (tb_me 116).1.2.1 31 = .ok (.iconst 0, 1) := by decide +kernel
theorem d116_8 : decode (tb_me 116).1.2.1 8 = .ok (.iload_n 2, 1) := by decide +kernel
theorem d116_9 : decode (tb_me 116).1.2.1 9 = .ok (.ifCond .lt 22, 3) := by decide +kernel
theorem d116_12 : decode (tb_me 116).1.2.1 12 = .ok (.iload_n 2, 1) := by decide +kernel
theorem d116_13 : decode (tb_me 116).1.2.1 13 = .ok (.iconst 4, 1) := by decide +kernel
theorem d116_14 : decode (tb_me 116).1.2.1 14 = .ok (.if_icmp .ge 17, 3) := by decide +kernel
theorem d116_17 : decode (tb_me 116).1.2.1 17 = .ok (.iload_n 2, 1) := by decide +kernel
theorem d116_18 : decode (tb_me 116).1.2.1 18 = .ok (.aload_n 0, 1) := by decide +kernel
theorem d116_19 : decode (tb_me 116).1.2.1 19 = .ok (.getfield 34, 3) := by decide +kernel
theorem k116_34 (b : Bool) : tb_lk b 116 34 = (1, 7, 7, 0, 0) := by cases b <;> decide +kernel
theorem f7_7 : (7 < pm_nf tb_cl 7) ∧ tb_ft 7 7 ≠ .long ∧ pm_isR (tb_ft 7 7) = true := by decide +kernel
theorem d116_22 : decode (tb_me 116).1.2.1 22 = .ok (.iload_n 1, 1) := by decide +kernel
theorem d116_23 : decode (tb_me 116).1.2.1 23 = .ok (.iaload, 1) := by decide +kernel
theorem d116_24 : decode (tb_me 116).1.2.1 24 = .ok (.if_icmp .ge 7, 3) := by decide +kernel
theorem d116_27 : decode (tb_me 116).1.2.1 27 = .ok (.iconst 1, 1) := by decide +kernel
theorem d116_28 : decode (tb_me 116).1.2.1 28 = .ok (.goto 4, 3) := by decide +kernel
theorem e116 : (tb_me 116).2.1 = (0, 0) ∧ (tb_me 116).1.2.2.1 = 4 := by decide +kernel
theorem d117_25 : decode (tb_me 117).1.2.1 25 = .ok (.istore_n 3, 1) := by decide +kernel
theorem d117_26 : decode (tb_me 117).1.2.1 26 = .ok (.iload_n 3, 1) := by decide +kernel
theorem d117_27 : decode (tb_me 117).1.2.1 27 = .ok (.ifCond .eq 17, 3) := by decide +kernel
theorem d117_44 : decode (tb_me 117).1.2.1 44 = .ok (.bipush (-2), 2) := by decide +kernel
theorem d117_46 : decode (tb_me 117).1.2.1 46 = .ok (.ireturn, 1) := by decide +kernel
theorem t117 : (tb_me 117).1.2.2.2 = some .int := by decide +kernel
theorem d117_30 : decode (tb_me 117).1.2.1 30 = .ok (.aload_n 0, 1) := by decide +kernel
theorem d117_31 : decode (tb_me 117).1.2.1 31 = .ok (.getfield 49, 3) := by decide +kernel
theorem k117_49 (b : Bool) : tb_lk b 117 49 = (1, 7, 12, 0, 0) := by cases b <;> decide +kernel
theorem f7_12 : (12 < pm_nf tb_cl 7) ∧ tb_ft 7 12 ≠ .long ∧ pm_isR (tb_ft 7 12) = true := by decide +kernel
theorem d117_34 : decode (tb_me 117).1.2.1 34 = .ok (.iload_n 1, 1) := by decide +kernel
theorem d117_35 : decode (tb_me 117).1.2.1 35 = .ok (.bipush 10, 2) := by decide +kernel
theorem d117_37 : decode (tb_me 117).1.2.1 37 = .ok (.imul, 1) := by decide +kernel
theorem d117_38 : decode (tb_me 117).1.2.1 38 = .ok (.iload_n 2, 1) := by decide +kernel
theorem d117_39 : decode (tb_me 117).1.2.1 39 = .ok (.iadd, 1) := by decide +kernel
theorem d117_40 : decode (tb_me 117).1.2.1 40 = .ok (.iaload, 1) := by decide +kernel
theorem d117_41 : decode (tb_me 117).1.2.1 41 = .ok (.goto 5, 3) := by decide +kernel
theorem d117_0 : decode (tb_me 117).1.2.1 0 = .ok (.iload_n 1, 1) := by decide +kernel
theorem d117_1 : decode (tb_me 117).1.2.1 1 = .ok (.ifCond .lt 23, 3) := by decide +kernel
theorem d117_24 : decode (tb_me 117).1.2.1 24 = .ok (.iconst 0, 1) := by decide +kernel
theorem d117_4 : decode (tb_me 117).1.2.1 4 = .ok (.iload_n 1, 1) := by decide +kernel
theorem d117_5 : decode (tb_me 117).1.2.1 5 = .ok (.bipush 10, 2) := by decide +kernel
theorem d117_7 : decode (tb_me 117).1.2.1 7 = .ok (.if_icmp .ge 17, 3) := by decide +kernel
theorem d117_10 : decode (tb_me 117).1.2.1 10 = .ok (.iload_n 2, 1) := by decide +kernel
theorem d117_11 : decode (tb_me 117).1.2.1 11 = .ok (.ifCond .lt 13, 3) := by decide +kernel
theorem d117_14 : decode (tb_me 117).1.2.1 14 = .ok (.iload_n 2, 1) := by decide +kernel
theorem d117_15 : decode (tb_me 117).1.2.1 15 = .ok (.bipush 10, 2) := by decide +kernel
theorem d117_17 : decode (tb_me 117).1.2.1 17 = .ok (.if_icmp .ge 7, 3) := by decide +kernel
theorem d117_20 : decode (tb_me 117).1.2.1 20 = .ok (.iconst 1, 1) := by decide +kernel
theorem d117_21 : decode (tb_me 117).1.2.1 21 = .ok (.goto 4, 3) := by decide +kernel
theorem e117 : (tb_me 117).2.1 = (0, 0) ∧ (tb_me 117).1.2.2.1 = 4 := by decide +kernel
theorem d119_2 : decode (tb_me 119).1.2.1 2 = .ok (.iload_n 3, 1) := by decide +kernel
theorem d119_3 : decode (tb_me 119).1.2.1 3 = .ok (.iconst 1, 1) := by decide +kernel
theorem d119_4 : decode (tb_me 119).1.2.1 4 = .ok (.iadd, 1) := by decide +kernel
theorem d119_5 : decode (tb_me 119).1.2.1 5 = .ok (.iload_n 2, 1) := by decide +kernel
theorem d119_6 : decode (tb_me 119).1.2.1 6 = .ok (.if_icmp .ge 34, 3) := by decide +kernel
theorem d119_9 : decode (tb_me 119).1.2.1 9 = .ok (.iload_n 3, 1) := by decide +kernel
theorem d119_10 : decode (tb_me 119).1.2.1 10 = .ok (.iconst 1, 1) := by decide +kernel
theorem d119_11 : decode (tb_me 119).1.2.1 11 = .ok (.iadd, 1) := by decide +kernel
theorem d119_12 : decode (tb_me 119).1.2.1 12 = .ok (.aload_n 1, 1) := by decide +kernel
theorem d119_13 : decode (tb_me 119).1.2.1 13 = .ok (.arraylength, 1) := by decide +kernel
theorem d119_14 : decode (tb_me 119).1.2.1 14 = .ok (.if_icmp .ge 26, 3) := by decide +kernel
theorem d119_17 : decode (tb_me 119).1.2.1 17 = .ok (.aload_n 0, 1) := by decide +kernel
theorem d119_18 : decode (tb_me 119).1.2.1 18 = .ok (.aload_n 1, 1) := by decide +kernel
theorem d119_19 : decode (tb_me 119).1.2.1 19 = .ok (.iload_n 3, 1) := by decide +kernel
theorem d119_20 : decode (tb_me 119).1.2.1 20 = .ok (.iaload, 1) := by decide +kernel
theorem d119_21 : decode (tb_me 119).1.2.1 21 = .ok (.aload_n 1, 1) := by decide +kernel
theorem d119_22 : decode (tb_me 119).1.2.1 22 = .ok (.iload_n 3, 1) := by decide +kernel
theorem d119_23 : decode (tb_me 119).1.2.1 23 = .ok (.iconst 1, 1) := by decide +kernel
theorem d119_24 : decode (tb_me 119).1.2.1 24 = .ok (.iadd, 1) := by decide +kernel
theorem d119_25 : decode (tb_me 119).1.2.1 25 = .ok (.iaload, 1) := by decide +kernel
theorem d119_26 : decode (tb_me 119).1.2.1 26 = .ok (.invokevirtual 70, 3) := by decide +kernel
theorem k119_70 (b : Bool) : tb_lk b 119 70 = (2, 117, 0, 0, 0) := by cases b <;> decide +kernel
theorem m117 : (tb_me 117).2 = ((0, 0), (2, 7)) ∧ (tb_me 117).1.2.2.1 = 4 := by decide +kernel
theorem d119_29 : decode (tb_me 119).1.2.1 29 = .ok (.ifCond .lt 5, 3) := by decide +kernel
theorem d119_34 : decode (tb_me 119).1.2.1 34 = .ok (.iinc 3 1, 3) := by decide +kernel
theorem d119_37 : decode (tb_me 119).1.2.1 37 = .ok (.goto (-35), 3) := by decide +kernel
theorem d119_0 : decode (tb_me 119).1.2.1 0 = .ok (.iconst 0, 1) := by decide +kernel
theorem d119_1 : decode (tb_me 119).1.2.1 1 = .ok (.istore_n 3, 1) := by decide +kernel
theorem d119_32 : decode (tb_me 119).1.2.1 32 = .ok (.iload_n 3, 1) := by decide +kernel
theorem d119_33 : decode (tb_me 119).1.2.1 33 = .ok (.ireturn, 1) := by decide +kernel
theorem t119 : (tb_me 119).1.2.2.2 = some .int := by decide +kernel
theorem d119_40 : decode (tb_me 119).1.2.1 40 = .ok (.iconst (-1), 1) := by decide +kernel
theorem d119_41 : decode (tb_me 119).1.2.1 41 = .ok (.ireturn, 1) := by decide +kernel
theorem e119 : (tb_me 119).2.1 = (0, 0) ∧ (tb_me 119).1.2.2.1 = 4 := by decide +kernel
theorem d122_61 : decode (tb_me 122).1.2.1 61 = .ok (.istore_n 3, 1) := by decide +kernel
theorem d122_62 : decode (tb_me 122).1.2.1 62 = .ok (.iinc 4 1, 3) := by decide +kernel
theorem d122_65 : decode (tb_me 122).1.2.1 65 = .ok (.goto (-41), 3) := by decide +kernel
theorem d122_24 : decode (tb_me 122).1.2.1 24 = .ok (.iload_n 3, 1) := by decide +kernel
theorem d122_25 : decode (tb_me 122).1.2.1 25 = .ok (.ifCond .eq 43, 3) := by decide +kernel
theorem d122_28 : decode (tb_me 122).1.2.1 28 = .ok (.iload 4, 2) := by decide +kernel
theorem d122_30 : decode (tb_me 122).1.2.1 30 = .ok (.aload_n 0, 1) := by decide +kernel
theorem d122_31 : decode (tb_me 122).1.2.1 31 = .ok (.getfield 34, 3) := by decide +kernel
theorem k122_34 (b : Bool) : tb_lk b 122 34 = (1, 7, 7, 0, 0) := by cases b <;> decide +kernel
theorem d122_34 : decode (tb_me 122).1.2.1 34 = .ok (.iload_n 2, 1) := by decide +kernel
theorem d122_35 : decode (tb_me 122).1.2.1 35 = .ok (.iaload, 1) := by decide +kernel
theorem d122_36 : decode (tb_me 122).1.2.1 36 = .ok (.if_icmp .ge 32, 3) := by decide +kernel
theorem d122_39 : decode (tb_me 122).1.2.1 39 = .ok (.aload_n 0, 1) := by decide +kernel
theorem d122_40 : decode (tb_me 122).1.2.1 40 = .ok (.iload_n 1, 1) := by decide +kernel
theorem d122_41 : decode (tb_me 122).1.2.1 41 = .ok (.iload 4, 2) := by decide +kernel
theorem d122_43 : decode (tb_me 122).1.2.1 43 = .ok (.invokevirtual 77, 3) := by decide +kernel
theorem k122_77 (b : Bool) : tb_lk b 122 77 = (2, 116, 0, 0, 0) := by cases b <;> decide +kernel
theorem m116 : (tb_me 116).2 = ((0, 0), (2, 7)) ∧ (tb_me 116).1.2.2.1 = 4 := by decide +kernel
theorem d122_46 : decode (tb_me 122).1.2.1 46 = .ok (.aload_n 0, 1) := by decide +kernel
theorem d122_47 : decode (tb_me 122).1.2.1 47 = .ok (.iload_n 2, 1) := by decide +kernel
theorem d122_48 : decode (tb_me 122).1.2.1 48 = .ok (.iload 4, 2) := by decide +kernel
theorem d122_50 : decode (tb_me 122).1.2.1 50 = .ok (.invokevirtual 77, 3) := by decide +kernel
theorem d122_53 : decode (tb_me 122).1.2.1 53 = .ok (.if_icmp .ne 7, 3) := by decide +kernel
theorem d122_60 : decode (tb_me 122).1.2.1 60 = .ok (.iconst 0, 1) := by decide +kernel
theorem d122_56 : decode (tb_me 122).1.2.1 56 = .ok (.iconst 1, 1) := by decide +kernel
theorem d122_57 : decode (tb_me 122).1.2.1 57 = .ok (.goto 4, 3) := by decide +kernel
theorem d122_20 : decode (tb_me 122).1.2.1 20 = .ok (.istore_n 3, 1) := by decide +kernel
theorem d122_21 : decode (tb_me 122).1.2.1 21 = .ok (.iconst 0, 1) := by decide +kernel
theorem d122_22 : decode (tb_me 122).1.2.1 22 = .ok (.istore 4, 2) := by decide +kernel
theorem d122_68 : decode (tb_me 122).1.2.1 68 = .ok (.iload_n 3, 1) := by decide +kernel
theorem d122_69 : decode (tb_me 122).1.2.1 69 = .ok (.ireturn, 1) := by decide +kernel
theorem t122 : (tb_me 122).1.2.2.2 = some .boolean := by decide +kernel
theorem d122_0 : decode (tb_me 122).1.2.1 0 = .ok (.aload_n 0, 1) := by decide +kernel
theorem d122_1 : decode (tb_me 122).1.2.1 1 = .ok (.getfield 34, 3) := by decide +kernel
theorem d122_4 : decode (tb_me 122).1.2.1 4 = .ok (.iload_n 1, 1) := by decide +kernel
theorem d122_5 : decode (tb_me 122).1.2.1 5 = .ok (.iaload, 1) := by decide +kernel
theorem d122_6 : decode (tb_me 122).1.2.1 6 = .ok (.aload_n 0, 1) := by decide +kernel
theorem d122_7 : decode (tb_me 122).1.2.1 7 = .ok (.getfield 34, 3) := by decide +kernel
theorem d122_10 : decode (tb_me 122).1.2.1 10 = .ok (.iload_n 2, 1) := by decide +kernel
theorem d122_11 : decode (tb_me 122).1.2.1 11 = .ok (.iaload, 1) := by decide +kernel
theorem d122_12 : decode (tb_me 122).1.2.1 12 = .ok (.if_icmp .ne 7, 3) := by decide +kernel
theorem d122_19 : decode (tb_me 122).1.2.1 19 = .ok (.iconst 0, 1) := by decide +kernel
theorem d122_15 : decode (tb_me 122).1.2.1 15 = .ok (.iconst 1, 1) := by decide +kernel
theorem d122_16 : decode (tb_me 122).1.2.1 16 = .ok (.goto 4, 3) := by decide +kernel
theorem e122 : (tb_me 122).2.1 = (0, 0) ∧ (tb_me 122).1.2.2.1 = 5 := by decide +kernel
theorem d123_23 : decode (tb_me 123).1.2.1 23 = .ok (.istore 4, 2) := by decide +kernel
theorem d123_25 : decode (tb_me 123).1.2.1 25 = .ok (.iload 4, 2) := by decide +kernel
theorem d123_27 : decode (tb_me 123).1.2.1 27 = .ok (.ifCond .eq 31, 3) := by decide +kernel
theorem d123_58 : decode (tb_me 123).1.2.1 58 = .ok (.iconst 0, 1) := by decide +kernel
theorem d123_59 : decode (tb_me 123).1.2.1 59 = .ok (.ireturn, 1) := by decide +kernel
theorem t123 : (tb_me 123).1.2.2.2 = some .boolean := by decide +kernel
theorem d123_30 : decode (tb_me 123).1.2.1 30 = .ok (.aload_n 0, 1) := by decide +kernel
theorem d123_31 : decode (tb_me 123).1.2.1 31 = .ok (.getfield 46, 3) := by decide +kernel
theorem k123_46 (b : Bool) : tb_lk b 123 46 = (1, 7, 11, 0, 0) := by cases b <;> decide +kernel
theorem f7_11 : (11 < pm_nf tb_cl 7) ∧ tb_ft 7 11 ≠ .long ∧ pm_isR (tb_ft 7 11) = true := by decide +kernel
theorem d123_34 : decode (tb_me 123).1.2.1 34 = .ok (.iload_n 3, 1) := by decide +kernel
theorem d123_35 : decode (tb_me 123).1.2.1 35 = .ok (.iaload, 1) := by decide +kernel
theorem d123_36 : decode (tb_me 123).1.2.1 36 = .ok (.iload_n 2, 1) := by decide +kernel
theorem d123_37 : decode (tb_me 123).1.2.1 37 = .ok (.if_icmp .ne 21, 3) := by decide +kernel
theorem d123_40 : decode (tb_me 123).1.2.1 40 = .ok (.aload_n 0, 1) := by decide +kernel
theorem d123_41 : decode (tb_me 123).1.2.1 41 = .ok (.iload_n 1, 1) := by decide +kernel
theorem d123_42 : decode (tb_me 123).1.2.1 42 = .ok (.aload_n 0, 1) := by decide +kernel
theorem d123_43 : decode (tb_me 123).1.2.1 43 = .ok (.getfield 40, 3) := by decide +kernel
theorem k123_40 (b : Bool) : tb_lk b 123 40 = (1, 7, 9, 0, 0) := by cases b <;> decide +kernel
theorem f7_9 : (9 < pm_nf tb_cl 7) ∧ tb_ft 7 9 ≠ .long ∧ pm_isR (tb_ft 7 9) = true := by decide +kernel
theorem d123_46 : decode (tb_me 123).1.2.1 46 = .ok (.iload_n 3, 1) := by decide +kernel
theorem d123_47 : decode (tb_me 123).1.2.1 47 = .ok (.iaload, 1) := by decide +kernel
theorem d123_48 : decode (tb_me 123).1.2.1 48 = .ok (.invokevirtual 70, 3) := by decide +kernel
theorem k123_70 (b : Bool) : tb_lk b 123 70 = (2, 117, 0, 0, 0) := by cases b <;> decide +kernel
theorem d123_51 : decode (tb_me 123).1.2.1 51 = .ok (.ifCond .ge 7, 3) := by decide +kernel
theorem d123_54 : decode (tb_me 123).1.2.1 54 = .ok (.iconst 1, 1) := by decide +kernel
theorem d123_55 : decode (tb_me 123).1.2.1 55 = .ok (.goto 4, 3) := by decide +kernel
theorem d123_0 : decode (tb_me 123).1.2.1 0 = .ok (.iload_n 3, 1) := by decide +kernel
theorem d123_1 : decode (tb_me 123).1.2.1 1 = .ok (.ifCond .lt 21, 3) := by decide +kernel
theorem d123_22 : decode (tb_me 123).1.2.1 22 = .ok (.iconst 0, 1) := by decide +kernel
theorem d123_4 : decode (tb_me 123).1.2.1 4 = .ok (.iload_n 3, 1) := by decide +kernel
theorem d123_5 : decode (tb_me 123).1.2.1 5 = .ok (.aload_n 0, 1) := by decide +kernel
theorem d123_6 : decode (tb_me 123).1.2.1 6 = .ok (.getfield 21, 3) := by decide +kernel
theorem k123_21 (b : Bool) : tb_lk b 123 21 = (1, 7, 3, 0, 0) := by cases b <;> decide +kernel
theorem f7_3 : (3 < pm_nf tb_cl 7) ∧ tb_ft 7 3 ≠ .long ∧ pm_isR (tb_ft 7 3) = false := by decide +kernel
theorem d123_9 : decode (tb_me 123).1.2.1 9 = .ok (.if_icmp .ge 13, 3) := by decide +kernel
theorem d123_12 : decode (tb_me 123).1.2.1 12 = .ok (.iload_n 3, 1) := by decide +kernel
theorem d123_13 : decode (tb_me 123).1.2.1 13 = .ok (.bipush 10, 2) := by decide +kernel
theorem d123_15 : decode (tb_me 123).1.2.1 15 = .ok (.if_icmp .ge 7, 3) := by decide +kernel
theorem d123_18 : decode (tb_me 123).1.2.1 18 = .ok (.iconst 1, 1) := by decide +kernel
theorem d123_19 : decode (tb_me 123).1.2.1 19 = .ok (.goto 4, 3) := by decide +kernel
theorem e123 : (tb_me 123).2.1 = (0, 0) ∧ (tb_me 123).1.2.2.1 = 5 := by decide +kernel
theorem d124_29 : decode (tb_me 124).1.2.1 29 = .ok (.iload 4, 2) := by decide +kernel
theorem d124_31 : decode (tb_me 124).1.2.1 31 = .ok (.iload_n 3, 1) := by decide +kernel
theorem d124_32 : decode (tb_me 124).1.2.1 32 = .ok (.if_icmp .ge 25, 3) := by decide +kernel
theorem d124_35 : decode (tb_me 124).1.2.1 35 = .ok (.aload_n 0, 1) := by decide +kernel
theorem d124_36 : decode (tb_me 124).1.2.1 36 = .ok (.iload_n 1, 1) := by decide +kernel
theorem d124_37 : decode (tb_me 124).1.2.1 37 = .ok (.iload 4, 2) := by decide +kernel
theorem d124_39 : decode (tb_me 124).1.2.1 39 = .ok (.invokevirtual 77, 3) := by decide +kernel
theorem k124_77 (b : Bool) : tb_lk b 124 77 = (2, 116, 0, 0, 0) := by cases b <;> decide +kernel
theorem d124_42 : decode (tb_me 124).1.2.1 42 = .ok (.aload_n 2, 1) := by decide +kernel
theorem d124_43 : decode (tb_me 124).1.2.1 43 = .ok (.iload 4, 2) := by decide +kernel
theorem d124_45 : decode (tb_me 124).1.2.1 45 = .ok (.iaload, 1) := by decide +kernel
theorem d124_46 : decode (tb_me 124).1.2.1 46 = .ok (.if_icmp .eq 5, 3) := by decide +kernel
theorem d124_51 : decode (tb_me 124).1.2.1 51 = .ok (.iinc 4 1, 3) := by decide +kernel
theorem d124_54 : decode (tb_me 124).1.2.1 54 = .ok (.goto (-25), 3) := by decide +kernel
theorem d124_0 : decode (tb_me 124).1.2.1 0 = .ok (.aload_n 0, 1) := by decide +kernel
theorem d124_1 : decode (tb_me 124).1.2.1 1 = .ok (.iload_n 1, 1) := by decide +kernel
theorem d124_2 : decode (tb_me 124).1.2.1 2 = .ok (.invokevirtual 56, 3) := by decide +kernel
theorem k124_56 (b : Bool) : tb_lk b 124 56 = (2, 113, 0, 0, 0) := by cases b <;> decide +kernel
theorem d124_5 : decode (tb_me 124).1.2.1 5 = .ok (.ifCond .eq 19, 3) := by decide +kernel
theorem d124_24 : decode (tb_me 124).1.2.1 24 = .ok (.iconst 0, 1) := by decide +kernel
theorem d124_25 : decode (tb_me 124).1.2.1 25 = .ok (.ireturn, 1) := by decide +kernel
theorem t124 : (tb_me 124).1.2.2.2 = some .boolean := by decide +kernel
theorem d124_8 : decode (tb_me 124).1.2.1 8 = .ok (.aload_n 0, 1) := by decide +kernel
theorem d124_9 : decode (tb_me 124).1.2.1 9 = .ok (.getfield 34, 3) := by decide +kernel
theorem k124_34 (b : Bool) : tb_lk b 124 34 = (1, 7, 7, 0, 0) := by cases b <;> decide +kernel
theorem d124_12 : decode (tb_me 124).1.2.1 12 = .ok (.iload_n 1, 1) := by decide +kernel
theorem d124_13 : decode (tb_me 124).1.2.1 13 = .ok (.iaload, 1) := by decide +kernel
theorem d124_14 : decode (tb_me 124).1.2.1 14 = .ok (.iload_n 3, 1) := by decide +kernel
theorem d124_15 : decode (tb_me 124).1.2.1 15 = .ok (.if_icmp .ne 9, 3) := by decide +kernel
theorem d124_18 : decode (tb_me 124).1.2.1 18 = .ok (.iload_n 3, 1) := by decide +kernel
theorem d124_19 : decode (tb_me 124).1.2.1 19 = .ok (.aload_n 2, 1) := by decide +kernel
theorem d124_20 : decode (tb_me 124).1.2.1 20 = .ok (.arraylength, 1) := by decide +kernel
theorem d124_21 : decode (tb_me 124).1.2.1 21 = .ok (.if_icmp .le 5, 3) := by decide +kernel
theorem d124_26 : decode (tb_me 124).1.2.1 26 = .ok (.iconst 0, 1) := by decide +kernel
theorem d124_27 : decode (tb_me 124).1.2.1 27 = .ok (.istore 4, 2) := by decide +kernel
theorem d124_49 : decode (tb_me 124).1.2.1 49 = .ok (.iconst 0, 1) := by decide +kernel
theorem d124_50 : decode (tb_me 124).1.2.1 50 = .ok (.ireturn, 1) := by decide +kernel
theorem d124_57 : decode (tb_me 124).1.2.1 57 = .ok (.iconst 1, 1) := by decide +kernel
theorem d124_58 : decode (tb_me 124).1.2.1 58 = .ok (.ireturn, 1) := by decide +kernel
theorem e124 : (tb_me 124).2.1 = (0, 0) ∧ (tb_me 124).1.2.2.1 = 5 := by decide +kernel
theorem d34_0 : decode (tb_me 34).1.2.1 0 = .ok (.iload_n 0, 1) := by decide +kernel
theorem d34_1 : decode (tb_me 34).1.2.1 1 = .ok (.iload_n 1, 1) := by decide +kernel
theorem d34_2 : decode (tb_me 34).1.2.1 2 = .ok (.ishr, 1) := by decide +kernel
theorem d34_3 : decode (tb_me 34).1.2.1 3 = .ok (.iconst 1, 1) := by decide +kernel
theorem d34_4 : decode (tb_me 34).1.2.1 4 = .ok (.iand, 1) := by decide +kernel
theorem d34_5 : decode (tb_me 34).1.2.1 5 = .ok (.ireturn, 1) := by decide +kernel
theorem t34 : (tb_me 34).1.2.2.2 = some .int := by decide +kernel
theorem e34 : (tb_me 34).2.1 = (0, 0) ∧ (tb_me 34).1.2.2.1 = 2 := by decide +kernel
theorem d78_65 : decode (tb_me 78).1.2.1 65 = .ok (.iastore, 1) := by decide +kernel
theorem d78_66 : decode (tb_me 78).1.2.1 66 = .ok (.iinc 1 1, 3) := by decide +kernel
theorem d78_69 : decode (tb_me 78).1.2.1 69 = .ok (.goto (-57), 3) := by decide +kernel
theorem d78_12 : decode (tb_me 78).1.2.1 12 = .ok (.iload_n 1, 1) := by decide +kernel
theorem d78_13 : decode (tb_me 78).1.2.1 13 = .ok (.bipush 8, 2) := by decide +kernel
theorem d78_15 : decode (tb_me 78).1.2.1 15 = .ok (.if_icmp .ge 57, 3) := by decide +kernel
theorem d78_18 : decode (tb_me 78).1.2.1 18 = .ok (.aload_n 0, 1) := by decide +kernel
theorem d78_19 : decode (tb_me 78).1.2.1 19 = .ok (.getfield 27, 3) := by decide +kernel
theorem k78_27 (b : Bool) : tb_lk b 78 27 = (1, 3, 5, 0, 0) := by cases b <;> decide +kernel
theorem d78_22 : decode (tb_me 78).1.2.1 22 = .ok (.iload_n 1, 1) := by decide +kernel
theorem d78_23 : decode (tb_me 78).1.2.1 23 = .ok (.iconst 0, 1) := by decide +kernel
theorem d78_24 : decode (tb_me 78).1.2.1 24 = .ok (.aload_n 0, 1) := by decide +kernel
theorem d78_25 : decode (tb_me 78).1.2.1 25 = .ok (.getfield 27, 3) := by decide +kernel
theorem d78_28 : decode (tb_me 78).1.2.1 28 = .ok (.iload_n 1, 1) := by decide +kernel
theorem d78_29 : decode (tb_me 78).1.2.1 29 = .ok (.iaload, 1) := by decide +kernel
theorem d78_30 : decode (tb_me 78).1.2.1 30 = .ok (.iconst 1, 1) := by decide +kernel
theorem d78_31 : decode (tb_me 78).1.2.1 31 = .ok (.isub, 1) := by decide +kernel
theorem d78_32 : decode (tb_me 78).1.2.1 32 = .ok (.invokestatic 46, 3) := by decide +kernel
theorem k78_46 (b : Bool) : tb_lk b 78 46 = (16, 0, 0, 0, 0) := by cases b <;> decide +kernel
theorem d78_35 : decode (tb_me 78).1.2.1 35 = .ok (.iastore, 1) := by decide +kernel
theorem d78_36 : decode (tb_me 78).1.2.1 36 = .ok (.aload_n 0, 1) := by decide +kernel
theorem d78_37 : decode (tb_me 78).1.2.1 37 = .ok (.getfield 31, 3) := by decide +kernel
theorem k78_31 (b : Bool) : tb_lk b 78 31 = (1, 3, 6, 0, 0) := by cases b <;> decide +kernel
theorem d78_40 : decode (tb_me 78).1.2.1 40 = .ok (.iload_n 1, 1) := by decide +kernel
theorem d78_41 : decode (tb_me 78).1.2.1 41 = .ok (.aload_n 0, 1) := by decide +kernel
theorem d78_42 : decode (tb_me 78).1.2.1 42 = .ok (.getfield 9, 3) := by decide +kernel
theorem k78_9 (b : Bool) : tb_lk b 78 9 = (1, 3, 0, 0, 0) := by cases b <;> decide +kernel
theorem d78_45 : decode (tb_me 78).1.2.1 45 = .ok (.iload_n 1, 1) := by decide +kernel
theorem d78_46 : decode (tb_me 78).1.2.1 46 = .ok (.invokestatic 52, 3) := by decide +kernel
theorem k78_52 (b : Bool) : tb_lk b 78 52 = (5, 34, 0, 0, 0) := by cases b <;> decide +kernel
theorem m34 : (tb_me 34).2 = ((0, 0), (2, 999)) ∧ (tb_me 34).1.2.2.1 = 2 := by decide +kernel
theorem d78_49 : decode (tb_me 78).1.2.1 49 = .ok (.iconst 1, 1) := by decide +kernel
theorem d78_50 : decode (tb_me 78).1.2.1 50 = .ok (.if_icmp .ne 14, 3) := by decide +kernel
theorem d78_64 : decode (tb_me 78).1.2.1 64 = .ok (.iconst 0, 1) := by decide +kernel
theorem d78_53 : decode (tb_me 78).1.2.1 53 = .ok (.aload_n 0, 1) := by decide +kernel
theorem d78_54 : decode (tb_me 78).1.2.1 54 = .ok (.getfield 31, 3) := by decide +kernel
theorem d78_57 : decode (tb_me 78).1.2.1 57 = .ok (.iload_n 1, 1) := by decide +kernel
theorem d78_58 : decode (tb_me 78).1.2.1 58 = .ok (.iaload, 1) := by decide +kernel
theorem d78_59 : decode (tb_me 78).1.2.1 59 = .ok (.iconst 1, 1) := by decide +kernel
theorem d78_60 : decode (tb_me 78).1.2.1 60 = .ok (.iadd, 1) := by decide +kernel
theorem d78_61 : decode (tb_me 78).1.2.1 61 = .ok (.goto 4, 3) := by decide +kernel
theorem d78_0 : decode (tb_me 78).1.2.1 0 = .ok (.aload_n 0, 1) := by decide +kernel
theorem d78_1 : decode (tb_me 78).1.2.1 1 = .ok (.dup, 1) := by decide +kernel
theorem d78_2 : decode (tb_me 78).1.2.1 2 = .ok (.getfield 18, 3) := by decide +kernel
theorem k78_18 (b : Bool) : tb_lk b 78 18 = (1, 3, 2, 0, 0) := by cases b <;> decide +kernel
theorem d78_5 : decode (tb_me 78).1.2.1 5 = .ok (.iconst 1, 1) := by decide +kernel
theorem d78_6 : decode (tb_me 78).1.2.1 6 = .ok (.iadd, 1) := by decide +kernel
theorem d78_7 : decode (tb_me 78).1.2.1 7 = .ok (.putfield 18, 3) := by decide +kernel
theorem p78_3_2 : (2 < pm_nf tb_cl 3) ∧ tb_ft 3 2 = .int ∧ pm_fin tb_cl (tb_me 78).1.1 3 2 = true := by decide +kernel
theorem d78_10 : decode (tb_me 78).1.2.1 10 = .ok (.iconst 0, 1) := by decide +kernel
theorem d78_11 : decode (tb_me 78).1.2.1 11 = .ok (.istore_n 1, 1) := by decide +kernel
theorem d78_72 : decode (tb_me 78).1.2.1 72 = .ok (.return_, 1) := by decide +kernel
theorem t78 : (tb_me 78).1.2.2.2 = none := by decide +kernel
theorem e78 : (tb_me 78).2.1 = (0, 0) ∧ (tb_me 78).1.2.2.1 = 2 := by decide +kernel
theorem d146_2 : decode (tb_me 146).1.2.1 2 = .ok (.iload_n 2, 1) := by decide +kernel
theorem d146_3 : decode (tb_me 146).1.2.1 3 = .ok (.aload_n 0, 1) := by decide +kernel
theorem d146_4 : decode (tb_me 146).1.2.1 4 = .ok (.getfield 18, 3) := by decide +kernel
theorem k146_18 (b : Bool) : tb_lk b 146 18 = (1, 9, 2, 0, 0) := by cases b <;> decide +kernel
theorem d146_7 : decode (tb_me 146).1.2.1 7 = .ok (.if_icmp .ge 38, 3) := by decide +kernel
theorem d146_10 : decode (tb_me 146).1.2.1 10 = .ok (.iload_n 2, 1) := by decide +kernel
theorem d146_11 : decode (tb_me 146).1.2.1 11 = .ok (.bipush 10, 2) := by decide +kernel
theorem d146_13 : decode (tb_me 146).1.2.1 13 = .ok (.if_icmp .ge 32, 3) := by decide +kernel
theorem d146_16 : decode (tb_me 146).1.2.1 16 = .ok (.iload_n 1, 1) := by decide +kernel
theorem d146_17 : decode (tb_me 146).1.2.1 17 = .ok (.aload_n 0, 1) := by decide +kernel
theorem d146_18 : decode (tb_me 146).1.2.1 18 = .ok (.getfield 22, 3) := by decide +kernel
theorem k146_22 (b : Bool) : tb_lk b 146 22 = (1, 9, 3, 0, 0) := by cases b <;> decide +kernel
theorem d146_21 : decode (tb_me 146).1.2.1 21 = .ok (.iload_n 2, 1) := by decide +kernel
theorem d146_22 : decode (tb_me 146).1.2.1 22 = .ok (.iaload, 1) := by decide +kernel
theorem d146_23 : decode (tb_me 146).1.2.1 23 = .ok (.invokestatic 50, 3) := by decide +kernel
theorem k146_50 (b : Bool) : tb_lk b 146 50 = (5, 34, 0, 0, 0) := by cases b <;> decide +kernel
theorem d146_26 : decode (tb_me 146).1.2.1 26 = .ok (.aload_n 0, 1) := by decide +kernel
theorem d146_27 : decode (tb_me 146).1.2.1 27 = .ok (.getfield 26, 3) := by decide +kernel
theorem k146_26 (b : Bool) : tb_lk b 146 26 = (1, 9, 4, 0, 0) := by cases b <;> decide +kernel
theorem d146_30 : decode (tb_me 146).1.2.1 30 = .ok (.iload_n 2, 1) := by decide +kernel
theorem d146_31 : decode (tb_me 146).1.2.1 31 = .ok (.invokestatic 50, 3) := by decide +kernel
theorem d146_34 : decode (tb_me 146).1.2.1 34 = .ok (.if_icmp .eq 5, 3) := by decide +kernel
theorem d146_39 : decode (tb_me 146).1.2.1 39 = .ok (.iinc 2 1, 3) := by decide +kernel
theorem d146_42 : decode (tb_me 146).1.2.1 42 = .ok (.goto (-40), 3) := by decide +kernel
theorem d146_0 : decode (tb_me 146).1.2.1 0 = .ok (.iconst 0, 1) := by decide +kernel
theorem d146_1 : decode (tb_me 146).1.2.1 1 = .ok (.istore_n 2, 1) := by decide +kernel
theorem d146_37 : decode (tb_me 146).1.2.1 37 = .ok (.iconst 0, 1) := by decide +kernel
theorem d146_38 : decode (tb_me 146).1.2.1 38 = .ok (.ireturn, 1) := by decide +kernel
theorem t146 : (tb_me 146).1.2.2.2 = some .boolean := by decide +kernel
theorem d146_45 : decode (tb_me 146).1.2.1 45 = .ok (.iconst 1, 1) := by decide +kernel
theorem d146_46 : decode (tb_me 146).1.2.1 46 = .ok (.ireturn, 1) := by decide +kernel
theorem e146 : (tb_me 146).2.1 = (0, 0) ∧ (tb_me 146).1.2.2.1 = 3 := by decide +kernel
theorem d118_49 : decode (tb_me 118).1.2.1 49 = .ok (.iload 5, 2) := by decide +kernel
theorem d118_51 : decode (tb_me 118).1.2.1 51 = .ok (.iload_n 3, 1) := by decide +kernel
theorem d118_52 : decode (tb_me 118).1.2.1 52 = .ok (.iconst 1, 1) := by decide +kernel
theorem d118_53 : decode (tb_me 118).1.2.1 53 = .ok (.isub, 1) := by decide +kernel
theorem d118_54 : decode (tb_me 118).1.2.1 54 = .ok (.if_icmp .ge 19, 3) := by decide +kernel
theorem d118_57 : decode (tb_me 118).1.2.1 57 = .ok (.aload_n 1, 1) := by decide +kernel
theorem d118_58 : decode (tb_me 118).1.2.1 58 = .ok (.iload 5, 2) := by decide +kernel
theorem d118_60 : decode (tb_me 118).1.2.1 60 = .ok (.aload_n 1, 1) := by decide +kernel
theorem d118_61 : decode (tb_me 118).1.2.1 61 = .ok (.iload 5, 2) := by decide +kernel
theorem d118_63 : decode (tb_me 118).1.2.1 63 = .ok (.iconst 1, 1) := by decide +kernel
theorem d118_64 : decode (tb_me 118).1.2.1 64 = .ok (.iadd, 1) := by decide +kernel
theorem d118_65 : decode (tb_me 118).1.2.1 65 = .ok (.iaload, 1) := by decide +kernel
theorem d118_66 : decode (tb_me 118).1.2.1 66 = .ok (.iastore, 1) := by decide +kernel
theorem d118_67 : decode (tb_me 118).1.2.1 67 = .ok (.iinc 5 1, 3) := by decide +kernel
theorem d118_70 : decode (tb_me 118).1.2.1 70 = .ok (.goto (-21), 3) := by decide +kernel
theorem d118_15 : decode (tb_me 118).1.2.1 15 = .ok (.iload 4, 2) := by decide +kernel
theorem d118_17 : decode (tb_me 118).1.2.1 17 = .ok (.ifCond .lt 70, 3) := by decide +kernel
theorem d118_20 : decode (tb_me 118).1.2.1 20 = .ok (.iload_n 3, 1) := by decide +kernel
theorem d118_21 : decode (tb_me 118).1.2.1 21 = .ok (.iconst 1, 1) := by decide +kernel
theorem d118_22 : decode (tb_me 118).1.2.1 22 = .ok (.if_icmp .le 65, 3) := by decide +kernel
theorem d118_25 : decode (tb_me 118).1.2.1 25 = .ok (.aload_n 1, 1) := by decide +kernel
theorem d118_26 : decode (tb_me 118).1.2.1 26 = .ok (.iload 4, 2) := by decide +kernel
theorem d118_28 : decode (tb_me 118).1.2.1 28 = .ok (.aload_n 0, 1) := by decide +kernel
theorem d118_29 : decode (tb_me 118).1.2.1 29 = .ok (.aload_n 1, 1) := by decide +kernel
theorem d118_30 : decode (tb_me 118).1.2.1 30 = .ok (.iload 4, 2) := by decide +kernel
theorem d118_32 : decode (tb_me 118).1.2.1 32 = .ok (.iaload, 1) := by decide +kernel
theorem d118_33 : decode (tb_me 118).1.2.1 33 = .ok (.aload_n 1, 1) := by decide +kernel
theorem d118_34 : decode (tb_me 118).1.2.1 34 = .ok (.iload 4, 2) := by decide +kernel
theorem d118_36 : decode (tb_me 118).1.2.1 36 = .ok (.iconst 1, 1) := by decide +kernel
theorem d118_37 : decode (tb_me 118).1.2.1 37 = .ok (.iadd, 1) := by decide +kernel
theorem d118_38 : decode (tb_me 118).1.2.1 38 = .ok (.iaload, 1) := by decide +kernel
theorem d118_39 : decode (tb_me 118).1.2.1 39 = .ok (.invokevirtual 70, 3) := by decide +kernel
theorem k118_70 (b : Bool) : tb_lk b 118 70 = (2, 117, 0, 0, 0) := by cases b <;> decide +kernel
theorem d118_42 : decode (tb_me 118).1.2.1 42 = .ok (.iastore, 1) := by decide +kernel
theorem d118_43 : decode (tb_me 118).1.2.1 43 = .ok (.iload 4, 2) := by decide +kernel
theorem d118_45 : decode (tb_me 118).1.2.1 45 = .ok (.iconst 1, 1) := by decide +kernel
theorem d118_46 : decode (tb_me 118).1.2.1 46 = .ok (.iadd, 1) := by decide +kernel
theorem d118_47 : decode (tb_me 118).1.2.1 47 = .ok (.istore 5, 2) := by decide +kernel
theorem d118_73 : decode (tb_me 118).1.2.1 73 = .ok (.iinc 3 (-1), 3) := by decide +kernel
theorem d118_76 : decode (tb_me 118).1.2.1 76 = .ok (.aload_n 0, 1) := by decide +kernel
theorem d118_77 : decode (tb_me 118).1.2.1 77 = .ok (.aload_n 1, 1) := by decide +kernel
theorem d118_78 : decode (tb_me 118).1.2.1 78 = .ok (.iload_n 3, 1) := by decide +kernel
theorem d118_79 : decode (tb_me 118).1.2.1 79 = .ok (.invokevirtual 66, 3) := by decide +kernel
theorem k118_66 (b : Bool) : tb_lk b 118 66 = (2, 119, 0, 0, 0) := by cases b <;> decide +kernel
theorem m119 : (tb_me 119).2 = ((0, 0), (2, 7)) ∧ (tb_me 119).1.2.2.1 = 4 := by decide +kernel
theorem d118_82 : decode (tb_me 118).1.2.1 82 = .ok (.istore 4, 2) := by decide +kernel
theorem d118_84 : decode (tb_me 118).1.2.1 84 = .ok (.goto (-69), 3) := by decide +kernel
theorem d118_0 : decode (tb_me 118).1.2.1 0 = .ok (.iload_n 2, 1) := by decide +kernel
theorem d118_1 : decode (tb_me 118).1.2.1 1 = .ok (.aload_n 1, 1) := by decide +kernel
theorem d118_2 : decode (tb_me 118).1.2.1 2 = .ok (.arraylength, 1) := by decide +kernel
theorem d118_3 : decode (tb_me 118).1.2.1 3 = .ok (.invokestatic 60, 3) := by decide +kernel
theorem k118_60 (b : Bool) : tb_lk b 118 60 = (17, 0, 0, 0, 0) := by cases b <;> decide +kernel
theorem d118_6 : decode (tb_me 118).1.2.1 6 = .ok (.istore_n 3, 1) := by decide +kernel
theorem d118_7 : decode (tb_me 118).1.2.1 7 = .ok (.aload_n 0, 1) := by decide +kernel
theorem d118_8 : decode (tb_me 118).1.2.1 8 = .ok (.aload_n 1, 1) := by decide +kernel
theorem d118_9 : decode (tb_me 118).1.2.1 9 = .ok (.iload_n 3, 1) := by decide +kernel
theorem d118_10 : decode (tb_me 118).1.2.1 10 = .ok (.invokevirtual 66, 3) := by decide +kernel
theorem d118_13 : decode (tb_me 118).1.2.1 13 = .ok (.istore 4, 2) := by decide +kernel
theorem d118_87 : decode (tb_me 118).1.2.1 87 = .ok (.iload_n 3, 1) := by decide +kernel
theorem d118_88 : decode (tb_me 118).1.2.1 88 = .ok (.ireturn, 1) := by decide +kernel
theorem t118 : (tb_me 118).1.2.2.2 = some .int := by decide +kernel
theorem e118 : (tb_me 118).2.1 = (0, 0) ∧ (tb_me 118).1.2.2.1 = 6 := by decide +kernel
theorem d120_2 : decode (tb_me 120).1.2.1 2 = .ok (.iload_n 3, 1) := by decide +kernel
theorem d120_3 : decode (tb_me 120).1.2.1 3 = .ok (.aload_n 0, 1) := by decide +kernel
theorem d120_4 : decode (tb_me 120).1.2.1 4 = .ok (.getfield 18, 3) := by decide +kernel
theorem k120_18 (b : Bool) : tb_lk b 120 18 = (1, 7, 2, 0, 0) := by cases b <;> decide +kernel
theorem d120_7 : decode (tb_me 120).1.2.1 7 = .ok (.if_icmp .ge 21, 3) := by decide +kernel
theorem d120_10 : decode (tb_me 120).1.2.1 10 = .ok (.aload_n 0, 1) := by decide +kernel
theorem d120_11 : decode (tb_me 120).1.2.1 11 = .ok (.iload_n 3, 1) := by decide +kernel
theorem d120_12 : decode (tb_me 120).1.2.1 12 = .ok (.aload_n 1, 1) := by decide +kernel
theorem d120_13 : decode (tb_me 120).1.2.1 13 = .ok (.iload_n 2, 1) := by decide +kernel
theorem d120_14 : decode (tb_me 120).1.2.1 14 = .ok (.invokevirtual 73, 3) := by decide +kernel
theorem k120_73 (b : Bool) : tb_lk b 120 73 = (2, 124, 0, 0, 0) := by cases b <;> decide +kernel
theorem m124 : (tb_me 124).2 = ((0, 0), (3, 7)) ∧ (tb_me 124).1.2.2.1 = 5 := by decide +kernel
theorem d120_17 : decode (tb_me 120).1.2.1 17 = .ok (.ifCond .eq 5, 3) := by decide +kernel
theorem d120_22 : decode (tb_me 120).1.2.1 22 = .ok (.iinc 3 1, 3) := by decide +kernel
theorem d120_25 : decode (tb_me 120).1.2.1 25 = .ok (.goto (-23), 3) := by decide +kernel
theorem d120_0 : decode (tb_me 120).1.2.1 0 = .ok (.iconst 0, 1) := by decide +kernel
theorem d120_1 : decode (tb_me 120).1.2.1 1 = .ok (.istore_n 3, 1) := by decide +kernel
theorem d120_20 : decode (tb_me 120).1.2.1 20 = .ok (.iload_n 3, 1) := by decide +kernel
theorem d120_21 : decode (tb_me 120).1.2.1 21 = .ok (.ireturn, 1) := by decide +kernel
theorem t120 : (tb_me 120).1.2.2.2 = some .int := by decide +kernel
theorem d120_28 : decode (tb_me 120).1.2.1 28 = .ok (.bipush (-2), 2) := by decide +kernel
theorem d120_30 : decode (tb_me 120).1.2.1 30 = .ok (.ireturn, 1) := by decide +kernel
theorem e120 : (tb_me 120).2.1 = (0, 0) ∧ (tb_me 120).1.2.2.1 = 4 := by decide +kernel
theorem d121_55 : decode (tb_me 121).1.2.1 55 = .ok (.iload_n 2, 1) := by decide +kernel
theorem d121_56 : decode (tb_me 121).1.2.1 56 = .ok (.iload_n 1, 1) := by decide +kernel
theorem d121_57 : decode (tb_me 121).1.2.1 57 = .ok (.if_icmp .ge 20, 3) := by decide +kernel
theorem d121_60 : decode (tb_me 121).1.2.1 60 = .ok (.aload_n 0, 1) := by decide +kernel
theorem d121_61 : decode (tb_me 121).1.2.1 61 = .ok (.iload_n 2, 1) := by decide +kernel
theorem d121_62 : decode (tb_me 121).1.2.1 62 = .ok (.iload_n 1, 1) := by decide +kernel
theorem d121_63 : decode (tb_me 121).1.2.1 63 = .ok (.invokevirtual 80, 3) := by decide +kernel
theorem k121_80 (b : Bool) : tb_lk b 121 80 = (2, 122, 0, 0, 0) := by cases b <;> decide +kernel
theorem m122 : (tb_me 122).2 = ((0, 0), (2, 7)) ∧ (tb_me 122).1.2.2.1 = 5 := by decide +kernel
theorem d121_66 : decode (tb_me 121).1.2.1 66 = .ok (.ifCond .eq 5, 3) := by decide +kernel
theorem d121_71 : decode (tb_me 121).1.2.1 71 = .ok (.iinc 2 1, 3) := by decide +kernel
theorem d121_74 : decode (tb_me 121).1.2.1 74 = .ok (.goto (-19), 3) := by decide +kernel
theorem d121_12 : decode (tb_me 121).1.2.1 12 = .ok (.iload_n 2, 1) := by decide +kernel
theorem d121_13 : decode (tb_me 121).1.2.1 13 = .ok (.iconst 1, 1) := by decide +kernel
theorem d121_14 : decode (tb_me 121).1.2.1 14 = .ok (.iadd, 1) := by decide +kernel
theorem d121_15 : decode (tb_me 121).1.2.1 15 = .ok (.aload_n 0, 1) := by decide +kernel
theorem d121_16 : decode (tb_me 121).1.2.1 16 = .ok (.getfield 34, 3) := by decide +kernel
theorem k121_34 (b : Bool) : tb_lk b 121 34 = (1, 7, 7, 0, 0) := by cases b <;> decide +kernel
theorem d121_19 : decode (tb_me 121).1.2.1 19 = .ok (.iload_n 1, 1) := by decide +kernel
theorem d121_20 : decode (tb_me 121).1.2.1 20 = .ok (.iaload, 1) := by decide +kernel
theorem d121_21 : decode (tb_me 121).1.2.1 21 = .ok (.if_icmp .ge 32, 3) := by decide +kernel
theorem d121_24 : decode (tb_me 121).1.2.1 24 = .ok (.aload_n 0, 1) := by decide +kernel
theorem d121_25 : decode (tb_me 121).1.2.1 25 = .ok (.aload_n 0, 1) := by decide +kernel
theorem d121_26 : decode (tb_me 121).1.2.1 26 = .ok (.iload_n 1, 1) := by decide +kernel
theorem d121_27 : decode (tb_me 121).1.2.1 27 = .ok (.iload_n 2, 1) := by decide +kernel
theorem d121_28 : decode (tb_me 121).1.2.1 28 = .ok (.invokevirtual 77, 3) := by decide +kernel
theorem k121_77 (b : Bool) : tb_lk b 121 77 = (2, 116, 0, 0, 0) := by cases b <;> decide +kernel
theorem d121_31 : decode (tb_me 121).1.2.1 31 = .ok (.aload_n 0, 1) := by decide +kernel
theorem d121_32 : decode (tb_me 121).1.2.1 32 = .ok (.iload_n 1, 1) := by decide +kernel
theorem d121_33 : decode (tb_me 121).1.2.1 33 = .ok (.iload_n 2, 1) := by decide +kernel
theorem d121_34 : decode (tb_me 121).1.2.1 34 = .ok (.iconst 1, 1) := by decide +kernel
theorem d121_35 : decode (tb_me 121).1.2.1 35 = .ok (.iadd, 1) := by decide +kernel
theorem d121_36 : decode (tb_me 121).1.2.1 36 = .ok (.invokevirtual 77, 3) := by decide +kernel
theorem d121_39 : decode (tb_me 121).1.2.1 39 = .ok (.invokevirtual 70, 3) := by decide +kernel
theorem k121_70 (b : Bool) : tb_lk b 121 70 = (2, 117, 0, 0, 0) := by cases b <;> decide +kernel
theorem d121_42 : decode (tb_me 121).1.2.1 42 = .ok (.ifCond .lt 5, 3) := by decide +kernel
theorem d121_47 : decode (tb_me 121).1.2.1 47 = .ok (.iinc 2 1, 3) := by decide +kernel
theorem d121_50 : decode (tb_me 121).1.2.1 50 = .ok (.goto (-38), 3) := by decide +kernel
theorem d121_0 : decode (tb_me 121).1.2.1 0 = .ok (.aload_n 0, 1) := by decide +kernel
theorem d121_1 : decode (tb_me 121).1.2.1 1 = .ok (.iload_n 1, 1) := by decide +kernel
theorem d121_2 : decode (tb_me 121).1.2.1 2 = .ok (.invokevirtual 56, 3) := by decide +kernel
theorem k121_56 (b : Bool) : tb_lk b 121 56 = (2, 113, 0, 0, 0) := by cases b <;> decide +kernel
theorem d121_5 : decode (tb_me 121).1.2.1 5 = .ok (.ifCond .ne 5, 3) := by decide +kernel
theorem d121_10 : decode (tb_me 121).1.2.1 10 = .ok (.iconst 0, 1) := by decide +kernel
theorem d121_11 : decode (tb_me 121).1.2.1 11 = .ok (.istore_n 2, 1) := by decide +kernel
theorem d121_45 : decode (tb_me 121).1.2.1 45 = .ok (.iconst 0, 1) := by decide +kernel
theorem d121_46 : decode (tb_me 121).1.2.1 46 = .ok (.ireturn, 1) := by decide +kernel
theorem t121 : (tb_me 121).1.2.2.2 = some .boolean := by decide +kernel
theorem d121_53 : decode (tb_me 121).1.2.1 53 = .ok (.iconst 0, 1) := by decide +kernel
theorem d121_54 : decode (tb_me 121).1.2.1 54 = .ok (.istore_n 2, 1) := by decide +kernel
theorem d121_69 : decode (tb_me 121).1.2.1 69 = .ok (.iconst 0, 1) := by decide +kernel
theorem d121_70 : decode (tb_me 121).1.2.1 70 = .ok (.ireturn, 1) := by decide +kernel
theorem d121_77 : decode (tb_me 121).1.2.1 77 = .ok (.iconst 1, 1) := by decide +kernel
theorem d121_78 : decode (tb_me 121).1.2.1 78 = .ok (.ireturn, 1) := by decide +kernel
theorem d121_8 : decode (tb_me 121).1.2.1 8 = .ok (.iconst 0, 1) := by decide +kernel
theorem d121_9 : decode (tb_me 121).1.2.1 9 = .ok (.ireturn, 1) := by decide +kernel
theorem e121 : (tb_me 121).2.1 = (0, 0) ∧ (tb_me 121).1.2.2.1 = 3 := by decide +kernel
noncomputable def i_bitCount (l0 : Int32) (h : pm_H) : Option Int32 := some ((((((((l0 - ((l0.toUInt32 >>> ((Int32.ofInt 1).toUInt32 &&& Int32.toUInt32 31)).toInt32 &&& (1431655765 : Int32))) &&& (858993459 : Int32)) + (((l0 - ((l0.toUInt32 >>> ((Int32.ofInt 1).toUInt32 &&& Int32.toUInt32 31)).toInt32 &&& (1431655765 : Int32))).toUInt32 >>> ((Int32.ofInt 2).toUInt32 &&& Int32.toUInt32 31)).toInt32 &&& (858993459 : Int32))) + ((((l0 - ((l0.toUInt32 >>> ((Int32.ofInt 1).toUInt32 &&& Int32.toUInt32 31)).toInt32 &&& (1431655765 : Int32))) &&& (858993459 : Int32)) + (((l0 - ((l0.toUInt32 >>> ((Int32.ofInt 1).toUInt32 &&& Int32.toUInt32 31)).toInt32 &&& (1431655765 : Int32))).toUInt32 >>> ((Int32.ofInt 2).toUInt32 &&& Int32.toUInt32 31)).toInt32 &&& (858993459 : Int32))).toUInt32 >>> ((Int32.ofInt 4).toUInt32 &&& Int32.toUInt32 31)).toInt32) &&& (252645135 : Int32)) + ((((((l0 - ((l0.toUInt32 >>> ((Int32.ofInt 1).toUInt32 &&& Int32.toUInt32 31)).toInt32 &&& (1431655765 : Int32))) &&& (858993459 : Int32)) + (((l0 - ((l0.toUInt32 >>> ((Int32.ofInt 1).toUInt32 &&& Int32.toUInt32 31)).toInt32 &&& (1431655765 : Int32))).toUInt32 >>> ((Int32.ofInt 2).toUInt32 &&& Int32.toUInt32 31)).toInt32 &&& (858993459 : Int32))) + ((((l0 - ((l0.toUInt32 >>> ((Int32.ofInt 1).toUInt32 &&& Int32.toUInt32 31)).toInt32 &&& (1431655765 : Int32))) &&& (858993459 : Int32)) + (((l0 - ((l0.toUInt32 >>> ((Int32.ofInt 1).toUInt32 &&& Int32.toUInt32 31)).toInt32 &&& (1431655765 : Int32))).toUInt32 >>> ((Int32.ofInt 2).toUInt32 &&& Int32.toUInt32 31)).toInt32 &&& (858993459 : Int32))).toUInt32 >>> ((Int32.ofInt 4).toUInt32 &&& Int32.toUInt32 31)).toInt32) &&& (252645135 : Int32)).toUInt32 >>> (((Int8.ofInt 8).toInt32).toUInt32 &&& Int32.toUInt32 31)).toInt32) + (((((((l0 - ((l0.toUInt32 >>> ((Int32.ofInt 1).toUInt32 &&& Int32.toUInt32 31)).toInt32 &&& (1431655765 : Int32))) &&& (858993459 : Int32)) + (((l0 - ((l0.toUInt32 >>> ((Int32.ofInt 1).toUInt32 &&& Int32.toUInt32 31)).toInt32 &&& (1431655765 : Int32))).toUInt32 >>> ((Int32.ofInt 2).toUInt32 &&& Int32.toUInt32 31)).toInt32 &&& (858993459 : Int32))) + ((((l0 - ((l0.toUInt32 >>> ((Int32.ofInt 1).toUInt32 &&& Int32.toUInt32 31)).toInt32 &&& (1431655765 : Int32))) &&& (858993459 : Int32)) + (((l0 - ((l0.toUInt32 >>> ((Int32.ofInt 1).toUInt32 &&& Int32.toUInt32 31)).toInt32 &&& (1431655765 : Int32))).toUInt32 >>> ((Int32.ofInt 2).toUInt32 &&& Int32.toUInt32 31)).toInt32 &&& (858993459 : Int32))).toUInt32 >>> ((Int32.ofInt 4).toUInt32 &&& Int32.toUInt32 31)).toInt32) &&& (252645135 : Int32)) + ((((((l0 - ((l0.toUInt32 >>> ((Int32.ofInt 1).toUInt32 &&& Int32.toUInt32 31)).toInt32 &&& (1431655765 : Int32))) &&& (858993459 : Int32)) + (((l0 - ((l0.toUInt32 >>> ((Int32.ofInt 1).toUInt32 &&& Int32.toUInt32 31)).toInt32 &&& (1431655765 : Int32))).toUInt32 >>> ((Int32.ofInt 2).toUInt32 &&& Int32.toUInt32 31)).toInt32 &&& (858993459 : Int32))) + ((((l0 - ((l0.toUInt32 >>> ((Int32.ofInt 1).toUInt32 &&& Int32.toUInt32 31)).toInt32 &&& (1431655765 : Int32))) &&& (858993459 : Int32)) + (((l0 - ((l0.toUInt32 >>> ((Int32.ofInt 1).toUInt32 &&& Int32.toUInt32 31)).toInt32 &&& (1431655765 : Int32))).toUInt32 >>> ((Int32.ofInt 2).toUInt32 &&& Int32.toUInt32 31)).toInt32 &&& (858993459 : Int32))).toUInt32 >>> ((Int32.ofInt 4).toUInt32 &&& Int32.toUInt32 31)).toInt32) &&& (252645135 : Int32)).toUInt32 >>> (((Int8.ofInt 8).toInt32).toUInt32 &&& Int32.toUInt32 31)).toInt32).toUInt32 >>> (((Int8.ofInt 16).toInt32).toUInt32 &&& Int32.toUInt32 31)).toInt32) &&& (Int8.ofInt 63).toInt32)
theorem T_i_bitCount (b : Bool) (L : Nat) (xs : Nat → Int32) (d : Nat) (hd : 0 ≤ d) (h : pm_H) (s_h : h.1 = tb_SH) (l0 : Int32) {r : Int32} (hm : i_bitCount l0 h = some r) : PC b L xs d 259 [(Value.int l0)] h (fun (v0 : Option Value) (h2 : pm_H) => v0 = (some (Value.int r)) ∧ h2 = h ∧ h2.1 = tb_SH) := by
  refine pc_in e259 (ls0 := [(Value.int l0)]) rfl ?_
  have key : ∀ (Q : Option Value → pm_H → Prop), (Q (some (Value.int r)) h) → PW b L xs d 259 0 0 0 [(Value.int l0)] [] h Q := by
    intro Q hE
    rw [i_bitCount] at hm
    refine pw_l (pc := 0) d259_0 rfl rfl rfl ?_
    refine pw_l (pc := 1) d259_1 rfl rfl rfl ?_
    refine pw_s (pc := 2) d259_2 rfl rfl ?_
    refine pw_s (pc := 3) d259_3 rfl rfl ?_
    refine pw_cw (pc := 4) d259_4 (k259_265 b) ?_
    refine pw_s (pc := 7) d259_7 rfl rfl ?_
    refine pw_s (pc := 8) d259_8 rfl rfl ?_
    refine pw_t (pc := 9) d259_9 rfl rfl rfl rfl ?_
    refine pw_l (pc := 10) d259_10 rfl rfl rfl ?_
    refine pw_cw (pc := 11) d259_11 (k259_266 b) ?_
    refine pw_s (pc := 14) d259_14 rfl rfl ?_
    refine pw_l (pc := 15) d259_15 rfl rfl rfl ?_
    refine pw_s (pc := 16) d259_16 rfl rfl ?_
    refine pw_s (pc := 17) d259_17 rfl rfl ?_
    refine pw_cw (pc := 18) d259_18 (k259_266 b) ?_
    refine pw_s (pc := 21) d259_21 rfl rfl ?_
    refine pw_s (pc := 22) d259_22 rfl rfl ?_
    refine pw_t (pc := 23) d259_23 rfl rfl rfl rfl ?_
    refine pw_l (pc := 24) d259_24 rfl rfl rfl ?_
    refine pw_l (pc := 25) d259_25 rfl rfl rfl ?_
    refine pw_s (pc := 26) d259_26 rfl rfl ?_
    refine pw_s (pc := 27) d259_27 rfl rfl ?_
    refine pw_s (pc := 28) d259_28 rfl rfl ?_
    refine pw_cw (pc := 29) d259_29 (k259_267 b) ?_
    refine pw_s (pc := 32) d259_32 rfl rfl ?_
    refine pw_t (pc := 33) d259_33 rfl rfl rfl rfl ?_
    refine pw_l (pc := 34) d259_34 rfl rfl rfl ?_
    refine pw_l (pc := 35) d259_35 rfl rfl rfl ?_
    refine pw_s (pc := 36) d259_36 rfl rfl ?_
    refine pw_s (pc := 38) d259_38 rfl rfl ?_
    refine pw_s (pc := 39) d259_39 rfl rfl ?_
    refine pw_t (pc := 40) d259_40 rfl rfl rfl rfl ?_
    refine pw_l (pc := 41) d259_41 rfl rfl rfl ?_
    refine pw_l (pc := 42) d259_42 rfl rfl rfl ?_
    refine pw_s (pc := 43) d259_43 rfl rfl ?_
    refine pw_s (pc := 45) d259_45 rfl rfl ?_
    refine pw_s (pc := 46) d259_46 rfl rfl ?_
    refine pw_t (pc := 47) d259_47 rfl rfl rfl rfl ?_
    refine pw_l (pc := 48) d259_48 rfl rfl rfl ?_
    refine pw_s (pc := 49) d259_49 rfl rfl ?_
    refine pw_s (pc := 51) d259_51 rfl rfl ?_
    obtain rfl := Option.some.inj hm
    refine pw_ri (pc := 52) d259_52 t259 rfl ?_
    exact hE
  exact key _ ⟨rfl, rfl, s_h⟩
def E_y_fill_5 (b : Bool) (L : Nat) (xs : Nat → Int32) (d : Nat) (Q : Option Value → pm_H → Prop) (l0 : Nat) (l1 : Int32) (l3 : Int32) : ((Int32 × pm_H) ⊕ pm_H) → Prop
  | .inl s => s.2.1 = tb_SH → PW b L xs d 270 0 0 5 [(Value.ref l0), (Value.int l1), (Value.int s.1), (Value.int l3)] [] s.2 Q
  | .inr e => e.1 = tb_SH → ∀ w0 w1 w2 w3 : Value, PW b L xs d 270 0 0 20 [w0, w1, w2, w3] [] e Q
noncomputable def y_fill_5 (l0 : Nat) (l1 : Int32) (l2 : Int32) (l3 : Int32) (h : pm_H) : Option ((Int32 × pm_H) ⊕ pm_H) := if l3 ≤ l2 then (some (.inr h)) else (if mi_in l2 (mi_n l0) = true then bd (pm_setI h l0 l2.toNatClampNeg l1) fun h3 => some (.inl ((l2 + Int32.ofInt 1), h3)) else none)
theorem t_y_fill_5 (b : Bool) (L : Nat) (xs : Nat → Int32) (d : Nat) (hd : 0 ≤ d) {Q : Option Value → pm_H → Prop} (h : pm_H) (s_h : h.1 = tb_SH) (l0 : Nat) (l1 : Int32) (l2 : Int32) (l3 : Int32) (f_l0 : mi_a l0 .int = true) {r : ((Int32 × pm_H) ⊕ pm_H)} (hm : y_fill_5 l0 l1 l2 l3 h = some r) (hE : E_y_fill_5 b L xs d Q l0 l1 l3 r) : PW b L xs d 270 0 0 5 [(Value.ref l0), (Value.int l1), (Value.int l2), (Value.int l3)] [] h Q := by
  rw [y_fill_5] at hm
  refine pw_l (pc := 5) d270_5 rfl rfl rfl ?_
  refine pw_l (pc := 6) d270_6 rfl rfl rfl ?_
  refine pw_ige (pc := 7) (t := 20) d270_7 (by decide) (fun c1 => ?_) (fun c1 => ?_)
  · rw [if_pos c1] at hm
    obtain rfl := Option.some.inj hm
    exact hE s_h  (Value.ref l0) (Value.int l1) (Value.int l2) (Value.int l3)
  · rw [if_neg c1] at hm
    refine pw_l (pc := 10) d270_10 rfl rfl rfl ?_
    refine pw_l (pc := 11) d270_11 rfl rfl rfl ?_
    refine pw_l (pc := 12) d270_12 rfl rfl rfl ?_
    obtain ⟨g2, hm⟩ := gd_x hm
    refine pw_si (pc := 13) d270_13 (sha s_h f_l0) (mi_in_x g2) ?_
    obtain ⟨h3, e_h3, hm⟩ := bd_x hm
    rw [e_h3]
    have s_h3 : h3.1 = tb_SH := by rw [← e_h3]; exact s_h
    refine pw_t (pc := 14) d270_14 rfl rfl rfl rfl ?_
    refine pw_go (pc := 17) (t := 5) d270_17 (by decide) ?_
    obtain rfl := Option.some.inj hm
    exact hE s_h3  
noncomputable def y_fill (l0 : Nat) (l1 : Int32) (h : pm_H) : Option pm_H := (wh (fun s : (Int32 × pm_H) => y_fill_5 l0 l1 s.1 (Int32.ofNat (mi_n l0)) s.2) ((Int32.ofInt 0), h)).bind fun q1 => some q1
theorem T_y_fill (b : Bool) (L : Nat) (xs : Nat → Int32) (d : Nat) (hd : 0 ≤ d) (h : pm_H) (s_h : h.1 = tb_SH) (l0 : Nat) (l1 : Int32) (f_l0 : mi_a l0 .int = true) {r : pm_H} (hm : y_fill l0 l1 h = some r) : PC b L xs d 270 [(Value.ref l0), (Value.int l1)] h (fun (v0 : Option Value) (h2 : pm_H) => v0 = none ∧ h2 = r ∧ h2.1 = tb_SH) := by
  refine pc_in e270 (ls0 := [(Value.ref l0), (Value.int l1), Value.retAddr 0, Value.retAddr 0]) rfl ?_
  have key : ∀ (Q : Option Value → pm_H → Prop), (r.1 = tb_SH → Q none r) → PW b L xs d 270 0 0 0 [(Value.ref l0), (Value.int l1), Value.retAddr 0, Value.retAddr 0] [] h Q := by
    intro Q hE
    rw [y_fill] at hm
    refine pw_s (pc := 0) d270_0 rfl rfl ?_
    refine pw_t (pc := 1) d270_1 rfl rfl rfl rfl ?_
    refine pw_l (pc := 2) d270_2 rfl rfl rfl ?_
    refine pw_an (pc := 3) d270_3 (sha s_h f_l0) ?_
    refine pw_t (pc := 4) d270_4 rfl rfl rfl rfl ?_
    obtain ⟨q1, e_q1, hm⟩ := ob_x hm
    refine wh_ind e_q1 (fun s : (Int32 × pm_H) => s.2.1 = tb_SH → PW b L xs d 270 0 0 5 [(Value.ref l0), (Value.int l1), (Value.int s.1), (Value.int (Int32.ofNat (mi_n l0)))] [] s.2 Q) (fun s s2 hf ih sx => t_y_fill_5 b L xs d hd s.2 sx l0 l1 s.1 (Int32.ofNat (mi_n l0))  f_l0 hf ih) (fun s hf sx => t_y_fill_5 b L xs d hd s.2 sx l0 l1 s.1 (Int32.ofNat (mi_n l0))  f_l0 hf ?_) s_h  
    intro s_q1_0 w0 w1 w2 w3
    obtain rfl := Option.some.inj hm
    refine pw_rv (pc := 20) d270_20 t270 ?_
    exact hE s_q1_0
  exact key _ (fun q => ⟨rfl, rfl, q⟩)
noncomputable def n_begin (l0 : Nat) (l1 : Int32) (h : pm_H) : Option pm_H := bd (pm_setI h l0 0 (((Int32.ofInt 1) <<< (l1 &&& 31)) - (Int32.ofInt 1))) fun h1 => bd (pm_setI h1 l0 1 (Int32.ofInt 0)) fun h2 => bd (pm_setI h2 l0 2 (Int32.ofInt 0)) fun h3 => bd (pm_setI h3 l0 3 (Int32.ofInt 0)) fun h4 => bd (pm_setI h4 l0 4 (Int32.ofInt (-1))) fun h5 => (gA h5 l0 5 .int).bind fun y6 => (y_fill y6 (Int32.ofInt 0) h5).bind fun q7 => (gA q7 l0 6 .int).bind fun y8 => (y_fill y8 (Int32.ofInt 0) q7).bind fun q9 => some q9
theorem T_n_begin (b : Bool) (L : Nat) (xs : Nat → Int32) (d : Nat) (hd : 1 ≤ d) (h : pm_H) (s_h : h.1 = tb_SH) (l0 : Nat) (l1 : Int32) (f_l0 : mi_o l0 3 = true) {r : pm_H} (hm : n_begin l0 l1 h = some r) : PC b L xs d 75 [(Value.ref l0), (Value.int l1)] h (fun (v0 : Option Value) (h2 : pm_H) => v0 = none ∧ h2 = r ∧ h2.1 = tb_SH) := by
  refine pc_in e75 (ls0 := [(Value.ref l0), (Value.int l1)]) rfl ?_
  have key : ∀ (Q : Option Value → pm_H → Prop), (r.1 = tb_SH → Q none r) → PW b L xs d 75 0 0 0 [(Value.ref l0), (Value.int l1)] [] h Q := by
    intro Q hE
    rw [n_begin] at hm
    refine pw_l (pc := 0) d75_0 rfl rfl rfl ?_
    refine pw_s (pc := 1) d75_1 rfl rfl ?_
    refine pw_l (pc := 2) d75_2 rfl rfl rfl ?_
    refine pw_s (pc := 3) d75_3 rfl rfl ?_
    refine pw_s (pc := 4) d75_4 rfl rfl ?_
    refine pw_s (pc := 5) d75_5 rfl rfl ?_
    refine pw_pi (pc := 6) d75_6 (k75_9 b) (sho s_h f_l0) p75_3_0 ?_
    obtain ⟨h1, e_h1, hm⟩ := bd_x hm
    rw [e_h1]
    have s_h1 : h1.1 = tb_SH := by rw [← e_h1]; exact s_h
    refine pw_l (pc := 9) d75_9 rfl rfl rfl ?_
    refine pw_s (pc := 10) d75_10 rfl rfl ?_
    refine pw_pi (pc := 11) d75_11 (k75_15 b) (sho s_h1 f_l0) p75_3_1 ?_
    obtain ⟨h2, e_h2, hm⟩ := bd_x hm
    rw [e_h2]
    have s_h2 : h2.1 = tb_SH := by rw [← e_h2]; exact s_h1
    refine pw_l (pc := 14) d75_14 rfl rfl rfl ?_
    refine pw_s (pc := 15) d75_15 rfl rfl ?_
    refine pw_pi (pc := 16) d75_16 (k75_18 b) (sho s_h2 f_l0) p75_3_2 ?_
    obtain ⟨h3, e_h3, hm⟩ := bd_x hm
    rw [e_h3]
    have s_h3 : h3.1 = tb_SH := by rw [← e_h3]; exact s_h2
    refine pw_l (pc := 19) d75_19 rfl rfl rfl ?_
    refine pw_s (pc := 20) d75_20 rfl rfl ?_
    refine pw_pi (pc := 21) d75_21 (k75_21 b) (sho s_h3 f_l0) p75_3_3 ?_
    obtain ⟨h4, e_h4, hm⟩ := bd_x hm
    rw [e_h4]
    have s_h4 : h4.1 = tb_SH := by rw [← e_h4]; exact s_h3
    refine pw_l (pc := 24) d75_24 rfl rfl rfl ?_
    refine pw_s (pc := 25) d75_25 rfl rfl ?_
    refine pw_pi (pc := 26) d75_26 (k75_24 b) (sho s_h4 f_l0) p75_3_4 ?_
    obtain ⟨h5, e_h5, hm⟩ := bd_x hm
    rw [e_h5]
    have s_h5 : h5.1 = tb_SH := by rw [← e_h5]; exact s_h4
    refine pw_l (pc := 29) d75_29 rfl rfl rfl ?_
    obtain ⟨y6, e_y6, hm⟩ := ob_x hm
    have f_y6 := gA_x e_y6
    refine pw_gr (pc := 30) d75_30 (k75_27 b) (sho s_h5 f_l0) f3_5 f_y6.1 ?_
    refine pw_s (pc := 33) d75_33 rfl rfl ?_
    obtain ⟨q7, e_q7, hm⟩ := ob_x hm
    refine pw_u (pc := 34) (by omega) d75_34 (k75_34 b) (by decide) m270 (Nat.le_of_ble_eq_true rfl) (Nat.le_of_ble_eq_true rfl) (Nat.le_of_ble_eq_true rfl) rfl rfl (T_y_fill b L xs (d - 1) (by omega) h5 s_h5 y6 (Int32.ofInt 0) f_y6.2 e_q7) (fun v0 h0 hq => ?_)
    obtain ⟨rfl, hh0, s_q7⟩ := hq
    rw [hh0] at s_q7 ⊢
    simp only [Option.toList_none, List.nil_append]
    refine pw_l (pc := 37) d75_37 rfl rfl rfl ?_
    obtain ⟨y8, e_y8, hm⟩ := ob_x hm
    have f_y8 := gA_x e_y8
    refine pw_gr (pc := 38) d75_38 (k75_31 b) (sho s_q7 f_l0) f3_6 f_y8.1 ?_
    refine pw_s (pc := 41) d75_41 rfl rfl ?_
    obtain ⟨q9, e_q9, hm⟩ := ob_x hm
    refine pw_u (pc := 42) (by omega) d75_42 (k75_34 b) (by decide) m270 (Nat.le_of_ble_eq_true rfl) (Nat.le_of_ble_eq_true rfl) (Nat.le_of_ble_eq_true rfl) rfl rfl (T_y_fill b L xs (d - 1) (by omega) q7 s_q7 y8 (Int32.ofInt 0) f_y8.2 e_q9) (fun v0 h0 hq => ?_)
    obtain ⟨rfl, hh0, s_q9⟩ := hq
    rw [hh0] at s_q9 ⊢
    simp only [Option.toList_none, List.nil_append]
    obtain rfl := Option.some.inj hm
    refine pw_rv (pc := 45) d75_45 t75 ?_
    exact hE s_q9
  exact key _ (fun q => ⟨rfl, rfl, q⟩)
noncomputable def n_copy (l0 : Nat) (l1 : Nat) (h : pm_H) : Option pm_H := bd (pm_setI h l0 0 (h.2.1 l1 0)) fun h1 => bd (pm_setI h1 l0 1 (h1.2.1 l1 1)) fun h2 => bd (pm_setI h2 l0 2 (h2.2.1 l1 2)) fun h3 => bd (pm_setI h3 l0 3 (h3.2.1 l1 3)) fun h4 => bd (pm_setI h4 l0 4 (h4.2.1 l1 4)) fun h5 => (gA h5 l1 5 .int).bind fun y6 => (gA h5 l0 5 .int).bind fun y7 => if mi_cp (mi_n y6) (mi_n y7) (Int32.ofInt 0) (Int32.ofInt 0) ((Int8.ofInt 8).toInt32) = true then bd (pm_rowI h5 y7 (va_cpy (h5.2.1 y6) (h5.2.1 y7) (Int32.ofInt 0).toNatClampNeg (Int32.ofInt 0).toNatClampNeg ((Int8.ofInt 8).toInt32).toNatClampNeg)) fun h9 => (gA h9 l1 6 .int).bind fun y10 => (gA h9 l0 6 .int).bind fun y11 => if mi_cp (mi_n y10) (mi_n y11) (Int32.ofInt 0) (Int32.ofInt 0) ((Int8.ofInt 8).toInt32) = true then bd (pm_rowI h9 y11 (va_cpy (h9.2.1 y10) (h9.2.1 y11) (Int32.ofInt 0).toNatClampNeg (Int32.ofInt 0).toNatClampNeg ((Int8.ofInt 8).toInt32).toNatClampNeg)) fun h13 => some h13 else none else none
theorem T_n_copy (b : Bool) (L : Nat) (xs : Nat → Int32) (d : Nat) (hd : 1 ≤ d) (h : pm_H) (s_h : h.1 = tb_SH) (l0 : Nat) (l1 : Nat) (f_l0 : mi_o l0 3 = true) (f_l1 : mi_o l1 3 = true) {r : pm_H} (hm : n_copy l0 l1 h = some r) : PC b L xs d 76 [(Value.ref l0), (Value.ref l1)] h (fun (v0 : Option Value) (h2 : pm_H) => v0 = none ∧ h2 = r ∧ h2.1 = tb_SH) := by
  refine pc_in e76 (ls0 := [(Value.ref l0), (Value.ref l1)]) rfl ?_
  have key : ∀ (Q : Option Value → pm_H → Prop), (r.1 = tb_SH → Q none r) → PW b L xs d 76 0 0 0 [(Value.ref l0), (Value.ref l1)] [] h Q := by
    intro Q hE
    rw [n_copy] at hm
    refine pw_l (pc := 0) d76_0 rfl rfl rfl ?_
    refine pw_l (pc := 1) d76_1 rfl rfl rfl ?_
    refine pw_gi (pc := 2) d76_2 (k76_9 b) (sho s_h f_l1) f3_0 ?_
    refine pw_pi (pc := 5) d76_5 (k76_9 b) (sho s_h f_l0) p76_3_0 ?_
    obtain ⟨h1, e_h1, hm⟩ := bd_x hm
    rw [e_h1]
    have s_h1 : h1.1 = tb_SH := by rw [← e_h1]; exact s_h
    refine pw_l (pc := 8) d76_8 rfl rfl rfl ?_
    refine pw_l (pc := 9) d76_9 rfl rfl rfl ?_
    refine pw_gi (pc := 10) d76_10 (k76_15 b) (sho s_h1 f_l1) f3_1 ?_
    refine pw_pi (pc := 13) d76_13 (k76_15 b) (sho s_h1 f_l0) p76_3_1 ?_
    obtain ⟨h2, e_h2, hm⟩ := bd_x hm
    rw [e_h2]
    have s_h2 : h2.1 = tb_SH := by rw [← e_h2]; exact s_h1
    refine pw_l (pc := 16) d76_16 rfl rfl rfl ?_
    refine pw_l (pc := 17) d76_17 rfl rfl rfl ?_
    refine pw_gi (pc := 18) d76_18 (k76_18 b) (sho s_h2 f_l1) f3_2 ?_
    refine pw_pi (pc := 21) d76_21 (k76_18 b) (sho s_h2 f_l0) p76_3_2 ?_
    obtain ⟨h3, e_h3, hm⟩ := bd_x hm
    rw [e_h3]
    have s_h3 : h3.1 = tb_SH := by rw [← e_h3]; exact s_h2
    refine pw_l (pc := 24) d76_24 rfl rfl rfl ?_
    refine pw_l (pc := 25) d76_25 rfl rfl rfl ?_
    refine pw_gi (pc := 26) d76_26 (k76_21 b) (sho s_h3 f_l1) f3_3 ?_
    refine pw_pi (pc := 29) d76_29 (k76_21 b) (sho s_h3 f_l0) p76_3_3 ?_
    obtain ⟨h4, e_h4, hm⟩ := bd_x hm
    rw [e_h4]
    have s_h4 : h4.1 = tb_SH := by rw [← e_h4]; exact s_h3
    refine pw_l (pc := 32) d76_32 rfl rfl rfl ?_
    refine pw_l (pc := 33) d76_33 rfl rfl rfl ?_
    refine pw_gi (pc := 34) d76_34 (k76_24 b) (sho s_h4 f_l1) f3_4 ?_
    refine pw_pi (pc := 37) d76_37 (k76_24 b) (sho s_h4 f_l0) p76_3_4 ?_
    obtain ⟨h5, e_h5, hm⟩ := bd_x hm
    rw [e_h5]
    have s_h5 : h5.1 = tb_SH := by rw [← e_h5]; exact s_h4
    refine pw_l (pc := 40) d76_40 rfl rfl rfl ?_
    obtain ⟨y6, e_y6, hm⟩ := ob_x hm
    have f_y6 := gA_x e_y6
    refine pw_gr (pc := 41) d76_41 (k76_27 b) (sho s_h5 f_l1) f3_5 f_y6.1 ?_
    refine pw_s (pc := 44) d76_44 rfl rfl ?_
    refine pw_l (pc := 45) d76_45 rfl rfl rfl ?_
    obtain ⟨y7, e_y7, hm⟩ := ob_x hm
    have f_y7 := gA_x e_y7
    refine pw_gr (pc := 46) d76_46 (k76_27 b) (sho s_h5 f_l0) f3_5 f_y7.1 ?_
    refine pw_s (pc := 49) d76_49 rfl rfl ?_
    refine pw_s (pc := 50) d76_50 rfl rfl ?_
    obtain ⟨g8, hm⟩ := gd_x hm
    refine pw_cpy (pc := 52) (by omega) d76_52 (k76_40 b) (sha s_h5 f_y6.2) (sha s_h5 f_y7.2) g8 (Nat.le_of_ble_eq_true rfl) ?_
    obtain ⟨h9, e_h9, hm⟩ := bd_x hm
    rw [e_h9]
    have s_h9 : h9.1 = tb_SH := by rw [← e_h9]; exact s_h5
    refine pw_l (pc := 55) d76_55 rfl rfl rfl ?_
    obtain ⟨y10, e_y10, hm⟩ := ob_x hm
    have f_y10 := gA_x e_y10
    refine pw_gr (pc := 56) d76_56 (k76_31 b) (sho s_h9 f_l1) f3_6 f_y10.1 ?_
    refine pw_s (pc := 59) d76_59 rfl rfl ?_
    refine pw_l (pc := 60) d76_60 rfl rfl rfl ?_
    obtain ⟨y11, e_y11, hm⟩ := ob_x hm
    have f_y11 := gA_x e_y11
    refine pw_gr (pc := 61) d76_61 (k76_31 b) (sho s_h9 f_l0) f3_6 f_y11.1 ?_
    refine pw_s (pc := 64) d76_64 rfl rfl ?_
    refine pw_s (pc := 65) d76_65 rfl rfl ?_
    obtain ⟨g12, hm⟩ := gd_x hm
    refine pw_cpy (pc := 67) (by omega) d76_67 (k76_40 b) (sha s_h9 f_y10.2) (sha s_h9 f_y11.2) g12 (Nat.le_of_ble_eq_true rfl) ?_
    obtain ⟨h13, e_h13, hm⟩ := bd_x hm
    rw [e_h13]
    have s_h13 : h13.1 = tb_SH := by rw [← e_h13]; exact s_h9
    obtain rfl := Option.some.inj hm
    refine pw_rv (pc := 70) d76_70 t76 ?_
    exact hE s_h13
  exact key _ (fun q => ⟨rfl, rfl, q⟩)
noncomputable def n_rouse_26 (z0 : Int32) (z1 : Nat) (h : pm_H) : Option pm_H := bd (pm_setI h z1 0 z0) fun h1 => some h1
theorem t_n_rouse_26 (b : Bool) (L : Nat) (xs : Nat → Int32) (d : Nat) (hd : 0 ≤ d) {Q : Option Value → pm_H → Prop} (h : pm_H) (s_h : h.1 = tb_SH) (z0 : Int32) (z1 : Nat) (w0 : Value) (w1 : Value) (w2 : Value) (f_z1 : mi_o z1 3 = true) {r : pm_H} (hm : n_rouse_26 z0 z1 h = some r) (hE : r.1 = tb_SH → Q none r) : PW b L xs d 77 0 0 26 [w0, w1, w2] [(Value.int z0), (Value.ref z1)] h Q := by
  rw [n_rouse_26] at hm
  refine pw_pi (pc := 26) d77_26 (k77_9 b) (sho s_h f_z1) p77_3_0 ?_
  obtain ⟨h1, e_h1, hm⟩ := bd_x hm
  rw [e_h1]
  have s_h1 : h1.1 = tb_SH := by rw [← e_h1]; exact s_h
  obtain rfl := Option.some.inj hm
  refine pw_rv (pc := 29) d77_29 t77 ?_
  exact hE s_h1
noncomputable def n_rouse (l0 : Nat) (l1 : Int32) (l2 : Int32) (h : pm_H) : Option pm_H := if l2 = 0 then (n_rouse_26 ((h.2.1 l0 0) &&& (((Int32.ofInt 1) <<< (l1 &&& 31)) ^^^ (Int32.ofInt (-1)))) l0 h) else (n_rouse_26 ((h.2.1 l0 0) ||| ((Int32.ofInt 1) <<< (l1 &&& 31))) l0 h)
theorem T_n_rouse (b : Bool) (L : Nat) (xs : Nat → Int32) (d : Nat) (hd : 0 ≤ d) (h : pm_H) (s_h : h.1 = tb_SH) (l0 : Nat) (l1 : Int32) (l2 : Int32) (f_l0 : mi_o l0 3 = true) {r : pm_H} (hm : n_rouse l0 l1 l2 h = some r) : PC b L xs d 77 [(Value.ref l0), (Value.int l1), (Value.int l2)] h (fun (v0 : Option Value) (h2 : pm_H) => v0 = none ∧ h2 = r ∧ h2.1 = tb_SH) := by
  refine pc_in e77 (ls0 := [(Value.ref l0), (Value.int l1), (Value.int l2)]) rfl ?_
  have key : ∀ (Q : Option Value → pm_H → Prop), (r.1 = tb_SH → Q none r) → PW b L xs d 77 0 0 0 [(Value.ref l0), (Value.int l1), (Value.int l2)] [] h Q := by
    intro Q hE
    rw [n_rouse] at hm
    refine pw_l (pc := 0) d77_0 rfl rfl rfl ?_
    refine pw_l (pc := 1) d77_1 rfl rfl rfl ?_
    refine pw_zeq (pc := 2) (t := 16) d77_2 (by decide) (fun c1 => ?_) (fun c1 => ?_)
    · rw [if_pos c1] at hm
      refine pw_l (pc := 16) d77_16 rfl rfl rfl ?_
      refine pw_gi (pc := 17) d77_17 (k77_9 b) (sho s_h f_l0) f3_0 ?_
      refine pw_s (pc := 20) d77_20 rfl rfl ?_
      refine pw_l (pc := 21) d77_21 rfl rfl rfl ?_
      refine pw_s (pc := 22) d77_22 rfl rfl ?_
      refine pw_s (pc := 23) d77_23 rfl rfl ?_
      refine pw_s (pc := 24) d77_24 rfl rfl ?_
      refine pw_s (pc := 25) d77_25 rfl rfl ?_
      exact t_n_rouse_26 b L xs d hd h s_h ((h.2.1 l0 0) &&& (((Int32.ofInt 1) <<< (l1 &&& 31)) ^^^ (Int32.ofInt (-1)))) l0 (Value.ref l0) (Value.int l1) (Value.int l2)  f_l0 hm hE
    · rw [if_neg c1] at hm
      refine pw_l (pc := 5) d77_5 rfl rfl rfl ?_
      refine pw_gi (pc := 6) d77_6 (k77_9 b) (sho s_h f_l0) f3_0 ?_
      refine pw_s (pc := 9) d77_9 rfl rfl ?_
      refine pw_l (pc := 10) d77_10 rfl rfl rfl ?_
      refine pw_s (pc := 11) d77_11 rfl rfl ?_
      refine pw_s (pc := 12) d77_12 rfl rfl ?_
      refine pw_go (pc := 13) (t := 26) d77_13 (by decide) ?_
      exact t_n_rouse_26 b L xs d hd h s_h ((h.2.1 l0 0) ||| ((Int32.ofInt 1) <<< (l1 &&& 31))) l0 (Value.ref l0) (Value.int l1) (Value.int l2)  f_l0 hm hE
  exact key _ (fun q => ⟨rfl, rfl, q⟩)
noncomputable def n_living (l0 : Nat) (l1 : Nat) (h : pm_H) : Option Int32 := some ((((Int32.ofInt 1) <<< ((h.2.1 l1 1) &&& 31)) - (Int32.ofInt 1)) &&& ((h.2.1 l0 1) ^^^ (Int32.ofInt (-1))))
theorem T_n_living (b : Bool) (L : Nat) (xs : Nat → Int32) (d : Nat) (hd : 0 ≤ d) (h : pm_H) (s_h : h.1 = tb_SH) (l0 : Nat) (l1 : Nat) (f_l0 : mi_o l0 3 = true) (f_l1 : mi_o l1 7 = true) {r : Int32} (hm : n_living l0 l1 h = some r) : PC b L xs d 79 [(Value.ref l0), (Value.ref l1)] h (fun (v0 : Option Value) (h2 : pm_H) => v0 = (some (Value.int r)) ∧ h2 = h ∧ h2.1 = tb_SH) := by
  refine pc_in e79 (ls0 := [(Value.ref l0), (Value.ref l1)]) rfl ?_
  have key : ∀ (Q : Option Value → pm_H → Prop), (Q (some (Value.int r)) h) → PW b L xs d 79 0 0 0 [(Value.ref l0), (Value.ref l1)] [] h Q := by
    intro Q hE
    rw [n_living] at hm
    refine pw_s (pc := 0) d79_0 rfl rfl ?_
    refine pw_l (pc := 1) d79_1 rfl rfl rfl ?_
    refine pw_gi (pc := 2) d79_2 (k79_55 b) (sho s_h f_l1) f7_1 ?_
    refine pw_s (pc := 5) d79_5 rfl rfl ?_
    refine pw_s (pc := 6) d79_6 rfl rfl ?_
    refine pw_s (pc := 7) d79_7 rfl rfl ?_
    refine pw_l (pc := 8) d79_8 rfl rfl rfl ?_
    refine pw_gi (pc := 9) d79_9 (k79_15 b) (sho s_h f_l0) f3_1 ?_
    refine pw_s (pc := 12) d79_12 rfl rfl ?_
    refine pw_s (pc := 13) d79_13 rfl rfl ?_
    refine pw_s (pc := 14) d79_14 rfl rfl ?_
    obtain rfl := Option.some.inj hm
    refine pw_ri (pc := 15) d79_15 t79 rfl ?_
    exact hE
  exact key _ ⟨rfl, rfl, s_h⟩
def E_n_fit_8 (b : Bool) (L : Nat) (xs : Nat → Int32) (d : Nat) (Q : Option Value → pm_H → Prop) (h : pm_H) (l0 : Nat) (l1 : Nat) : ((Int32 × Int32) ⊕ Int32) → Prop
  | .inl s => ∀ w4 : Value, PW b L xs d 80 0 0 8 [(Value.ref l0), (Value.ref l1), (Value.int s.1), (Value.int s.2), w4] [] h Q
  | .inr e => ∀ w0 w1 w3 w4 : Value, PW b L xs d 80 0 0 77 [w0, w1, (Value.int e), w3, w4] [] h Q
noncomputable def n_fit_63 (l0 : Nat) (l1 : Nat) (l2 : Int32) (l3 : Int32) (h : pm_H) : Option ((Int32 × Int32) ⊕ Int32) := some (.inl ((l2 &&& (((Int32.ofInt 1) <<< (l3 &&& 31)) ^^^ (Int32.ofInt (-1)))), (l3 + Int32.ofInt 1)))
theorem t_n_fit_63 (b : Bool) (L : Nat) (xs : Nat → Int32) (d : Nat) (hd : 1 ≤ d) {Q : Option Value → pm_H → Prop} (h : pm_H) (s_h : h.1 = tb_SH) (l0 : Nat) (l1 : Nat) (l2 : Int32) (l3 : Int32) (w4 : Value) (f_l0 : mi_o l0 3 = true) (f_l1 : mi_o l1 7 = true) {r : ((Int32 × Int32) ⊕ Int32)} (hm : n_fit_63 l0 l1 l2 l3 h = some r) (hE : E_n_fit_8 b L xs d Q h l0 l1 r) : PW b L xs d 80 0 0 63 [(Value.ref l0), (Value.ref l1), (Value.int l2), (Value.int l3), w4] [] h Q := by
  rw [n_fit_63] at hm
  refine pw_l (pc := 63) d80_63 rfl rfl rfl ?_
  refine pw_s (pc := 64) d80_64 rfl rfl ?_
  refine pw_l (pc := 65) d80_65 rfl rfl rfl ?_
  refine pw_s (pc := 66) d80_66 rfl rfl ?_
  refine pw_s (pc := 67) d80_67 rfl rfl ?_
  refine pw_s (pc := 68) d80_68 rfl rfl ?_
  refine pw_s (pc := 69) d80_69 rfl rfl ?_
  refine pw_t (pc := 70) d80_70 rfl rfl rfl rfl ?_
  refine pw_t (pc := 71) d80_71 rfl rfl rfl rfl ?_
  refine pw_go (pc := 74) (t := 8) d80_74 (by decide) ?_
  obtain rfl := Option.some.inj hm
  exact hE   w4
noncomputable def n_fit_47 (l0 : Nat) (l1 : Nat) (l2 : Int32) (l3 : Int32) (z0 : Int32) (h : pm_H) : Option ((Int32 × Int32) ⊕ Int32) := if ¬ z0 = 0 then (n_fit_63 l0 l1 l2 l3 h) else ((gA h l0 5 .int).bind fun y2 => if mi_in l3 (mi_n y2) = true then if (h.2.1 y2 l3.toNatClampNeg) ≤ 0 then (some (.inl (l2, (l3 + Int32.ofInt 1)))) else (n_fit_63 l0 l1 l2 l3 h) else none)
theorem t_n_fit_47 (b : Bool) (L : Nat) (xs : Nat → Int32) (d : Nat) (hd : 1 ≤ d) {Q : Option Value → pm_H → Prop} (h : pm_H) (s_h : h.1 = tb_SH) (l0 : Nat) (l1 : Nat) (l2 : Int32) (l3 : Int32) (z0 : Int32) (w4 : Value) (f_l0 : mi_o l0 3 = true) (f_l1 : mi_o l1 7 = true) {r : ((Int32 × Int32) ⊕ Int32)} (hm : n_fit_47 l0 l1 l2 l3 z0 h = some r) (hE : E_n_fit_8 b L xs d Q h l0 l1 r) : PW b L xs d 80 0 0 47 [(Value.ref l0), (Value.ref l1), (Value.int l2), (Value.int l3), w4] [(Value.int z0)] h Q := by
  rw [n_fit_47] at hm
  refine pw_t (pc := 47) d80_47 rfl rfl rfl rfl ?_
  refine pw_l (pc := 49) d80_49 rfl rfl rfl ?_
  refine pw_zne (pc := 51) (t := 63) d80_51 (by decide) (fun c1 => ?_) (fun c1 => ?_)
  · rw [if_pos c1] at hm
    exact t_n_fit_63 b L xs d hd h s_h l0 l1 l2 l3 (Value.int z0) f_l0 f_l1  hm hE
  · rw [if_neg c1] at hm
    refine pw_l (pc := 54) d80_54 rfl rfl rfl ?_
    obtain ⟨y2, e_y2, hm⟩ := ob_x hm
    have f_y2 := gA_x e_y2
    refine pw_gr (pc := 55) d80_55 (k80_27 b) (sho s_h f_l0) f3_5 f_y2.1 ?_
    refine pw_l (pc := 58) d80_58 rfl rfl rfl ?_
    obtain ⟨g3, hm⟩ := gd_x hm
    refine pw_ai (pc := 59) d80_59 (sha s_h f_y2.2) (mi_in_x g3) ?_
    refine pw_zle (pc := 60) (t := 71) d80_60 (by decide) (fun c4 => ?_) (fun c4 => ?_)
    · rw [if_pos c4] at hm
      refine pw_t (pc := 71) d80_71 rfl rfl rfl rfl ?_
      refine pw_go (pc := 74) (t := 8) d80_74 (by decide) ?_
      obtain rfl := Option.some.inj hm
      exact hE   (Value.int z0)
    · rw [if_neg c4] at hm
      exact t_n_fit_63 b L xs d hd h s_h l0 l1 l2 l3 (Value.int z0) f_l0 f_l1  hm hE
noncomputable def n_fit_8 (l0 : Nat) (l1 : Nat) (l2 : Int32) (l3 : Int32) (h : pm_H) : Option ((Int32 × Int32) ⊕ Int32) := if (h.2.1 l1 1) ≤ l3 then (some (.inr l2)) else (if (Int8.ofInt 8).toInt32 ≤ l3 then (some (.inr l2)) else (if (h.2.1 l0 3) = 0 then (n_fit_47 l0 l1 l2 l3 (Int32.ofInt 0) h) else ((gA h l1 5 .int).bind fun y4 => if mi_in l3 (mi_n y4) = true then if ¬ (h.2.1 y4 l3.toNatClampNeg) = (h.2.1 l0 3) then (n_fit_47 l0 l1 l2 l3 (Int32.ofInt 0) h) else (n_fit_47 l0 l1 l2 l3 (Int32.ofInt 1) h) else none)))
theorem t_n_fit_8 (b : Bool) (L : Nat) (xs : Nat → Int32) (d : Nat) (hd : 1 ≤ d) {Q : Option Value → pm_H → Prop} (h : pm_H) (s_h : h.1 = tb_SH) (l0 : Nat) (l1 : Nat) (l2 : Int32) (l3 : Int32) (w4 : Value) (f_l0 : mi_o l0 3 = true) (f_l1 : mi_o l1 7 = true) {r : ((Int32 × Int32) ⊕ Int32)} (hm : n_fit_8 l0 l1 l2 l3 h = some r) (hE : E_n_fit_8 b L xs d Q h l0 l1 r) : PW b L xs d 80 0 0 8 [(Value.ref l0), (Value.ref l1), (Value.int l2), (Value.int l3), w4] [] h Q := by
  rw [n_fit_8] at hm
  refine pw_l (pc := 8) d80_8 rfl rfl rfl ?_
  refine pw_l (pc := 9) d80_9 rfl rfl rfl ?_
  refine pw_gi (pc := 10) d80_10 (k80_55 b) (sho s_h f_l1) f7_1 ?_
  refine pw_ige (pc := 13) (t := 77) d80_13 (by decide) (fun c1 => ?_) (fun c1 => ?_)
  · rw [if_pos c1] at hm
    obtain rfl := Option.some.inj hm
    exact hE   (Value.ref l0) (Value.ref l1) (Value.int l3) w4
  · rw [if_neg c1] at hm
    refine pw_l (pc := 16) d80_16 rfl rfl rfl ?_
    refine pw_s (pc := 17) d80_17 rfl rfl ?_
    refine pw_ige (pc := 19) (t := 77) d80_19 (by decide) (fun c2 => ?_) (fun c2 => ?_)
    · rw [if_pos c2] at hm
      obtain rfl := Option.some.inj hm
      exact hE   (Value.ref l0) (Value.ref l1) (Value.int l3) w4
    · rw [if_neg c2] at hm
      refine pw_l (pc := 22) d80_22 rfl rfl rfl ?_
      refine pw_gi (pc := 23) d80_23 (k80_21 b) (sho s_h f_l0) f3_3 ?_
      refine pw_zeq (pc := 26) (t := 46) d80_26 (by decide) (fun c3 => ?_) (fun c3 => ?_)
      · rw [if_pos c3] at hm
        refine pw_s (pc := 46) d80_46 rfl rfl ?_
        exact t_n_fit_47 b L xs d hd h s_h l0 l1 l2 l3 (Int32.ofInt 0) w4 f_l0 f_l1  hm hE
      · rw [if_neg c3] at hm
        refine pw_l (pc := 29) d80_29 rfl rfl rfl ?_
        obtain ⟨y4, e_y4, hm⟩ := ob_x hm
        have f_y4 := gA_x e_y4
        refine pw_gr (pc := 30) d80_30 (k80_64 b) (sho s_h f_l1) f7_5 f_y4.1 ?_
        refine pw_l (pc := 33) d80_33 rfl rfl rfl ?_
        obtain ⟨g5, hm⟩ := gd_x hm
        refine pw_ai (pc := 34) d80_34 (sha s_h f_y4.2) (mi_in_x g5) ?_
        refine pw_l (pc := 35) d80_35 rfl rfl rfl ?_
        refine pw_gi (pc := 36) d80_36 (k80_21 b) (sho s_h f_l0) f3_3 ?_
        refine pw_ine (pc := 39) (t := 46) d80_39 (by decide) (fun c6 => ?_) (fun c6 => ?_)
        · rw [if_pos c6] at hm
          refine pw_s (pc := 46) d80_46 rfl rfl ?_
          exact t_n_fit_47 b L xs d hd h s_h l0 l1 l2 l3 (Int32.ofInt 0) w4 f_l0 f_l1  hm hE
        · rw [if_neg c6] at hm
          refine pw_s (pc := 42) d80_42 rfl rfl ?_
          refine pw_go (pc := 43) (t := 47) d80_43 (by decide) ?_
          exact t_n_fit_47 b L xs d hd h s_h l0 l1 l2 l3 (Int32.ofInt 1) w4 f_l0 f_l1  hm hE
noncomputable def n_fit (l0 : Nat) (l1 : Nat) (h : pm_H) : Option Int32 := (n_living l0 l1 h).bind fun q1 => (wh (fun s : (Int32 × Int32) => n_fit_8 l0 l1 s.1 s.2 h) (q1, (Int32.ofInt 0))).bind fun q2 => some q2
theorem T_n_fit (b : Bool) (L : Nat) (xs : Nat → Int32) (d : Nat) (hd : 1 ≤ d) (h : pm_H) (s_h : h.1 = tb_SH) (l0 : Nat) (l1 : Nat) (f_l0 : mi_o l0 3 = true) (f_l1 : mi_o l1 7 = true) {r : Int32} (hm : n_fit l0 l1 h = some r) : PC b L xs d 80 [(Value.ref l0), (Value.ref l1)] h (fun (v0 : Option Value) (h2 : pm_H) => v0 = (some (Value.int r)) ∧ h2 = h ∧ h2.1 = tb_SH) := by
  refine pc_in e80 (ls0 := [(Value.ref l0), (Value.ref l1), Value.retAddr 0, Value.retAddr 0, Value.retAddr 0]) rfl ?_
  have key : ∀ (Q : Option Value → pm_H → Prop), (Q (some (Value.int r)) h) → PW b L xs d 80 0 0 0 [(Value.ref l0), (Value.ref l1), Value.retAddr 0, Value.retAddr 0, Value.retAddr 0] [] h Q := by
    intro Q hE
    rw [n_fit] at hm
    refine pw_l (pc := 0) d80_0 rfl rfl rfl ?_
    refine pw_l (pc := 1) d80_1 rfl rfl rfl ?_
    obtain ⟨q1, e_q1, hm⟩ := ob_x hm
    refine pw_v (pc := 2) (k := l0) (by omega) d80_2 (k80_60 b) (by decide) m79 (by decide) rfl (sho s_h f_l0) (Nat.le_of_ble_eq_true rfl) (Nat.le_of_ble_eq_true rfl) rfl rfl (T_n_living b L xs (d - 1) (by omega) h s_h l0 l1 f_l0 f_l1 e_q1) (fun v0 h0 hq => ?_)
    obtain ⟨rfl, hh0, s_q1⟩ := hq
    rw [hh0] at s_q1 ⊢
    simp only [Option.toList_some, List.cons_append, List.nil_append]
    refine pw_t (pc := 5) d80_5 rfl rfl rfl rfl ?_
    refine pw_s (pc := 6) d80_6 rfl rfl ?_
    refine pw_t (pc := 7) d80_7 rfl rfl rfl rfl ?_
    obtain ⟨q2, e_q2, hm⟩ := ob_x hm
    refine wh_ind e_q2 (fun s : (Int32 × Int32) => ∀ w4 : Value, PW b L xs d 80 0 0 8 [(Value.ref l0), (Value.ref l1), (Value.int s.1), (Value.int s.2), w4] [] h Q) (fun s s2 hf ih w4 => t_n_fit_8 b L xs d hd h s_h l0 l1 s.1 s.2 w4 f_l0 f_l1 hf ih) (fun s hf w4 => t_n_fit_8 b L xs d hd h s_h l0 l1 s.1 s.2 w4 f_l0 f_l1 hf ?_)   (Value.retAddr 0)
    intro w0 w1 w3 w4
    refine pw_l (pc := 77) d80_77 rfl rfl rfl ?_
    obtain rfl := Option.some.inj hm
    refine pw_ri (pc := 78) d80_78 t80 rfl ?_
    exact hE
  exact key _ ⟨rfl, rfl, s_h⟩
noncomputable def n_heard (l0 : Nat) (l1 : Nat) (h : pm_H) : Option Int32 := (n_fit l0 l1 h).bind fun q1 => if (h.2.1 l0 4) < 0 then (some (q1 &&& (h.2.1 l0 0))) else (some ((q1 &&& (h.2.1 l0 0)) ||| (Int16.ofInt 256).toInt32))
theorem T_n_heard (b : Bool) (L : Nat) (xs : Nat → Int32) (d : Nat) (hd : 2 ≤ d) (h : pm_H) (s_h : h.1 = tb_SH) (l0 : Nat) (l1 : Nat) (f_l0 : mi_o l0 3 = true) (f_l1 : mi_o l1 7 = true) {r : Int32} (hm : n_heard l0 l1 h = some r) : PC b L xs d 81 [(Value.ref l0), (Value.ref l1)] h (fun (v0 : Option Value) (h2 : pm_H) => v0 = (some (Value.int r)) ∧ h2 = h ∧ h2.1 = tb_SH) := by
  refine pc_in e81 (ls0 := [(Value.ref l0), (Value.ref l1), Value.retAddr 0]) rfl ?_
  have key : ∀ (Q : Option Value → pm_H → Prop), (Q (some (Value.int r)) h) → PW b L xs d 81 0 0 0 [(Value.ref l0), (Value.ref l1), Value.retAddr 0] [] h Q := by
    intro Q hE
    rw [n_heard] at hm
    refine pw_l (pc := 0) d81_0 rfl rfl rfl ?_
    refine pw_l (pc := 1) d81_1 rfl rfl rfl ?_
    obtain ⟨q1, e_q1, hm⟩ := ob_x hm
    refine pw_v (pc := 2) (k := l0) (by omega) d81_2 (k81_67 b) (by decide) m80 (by decide) rfl (sho s_h f_l0) (Nat.le_of_ble_eq_true rfl) (Nat.le_of_ble_eq_true rfl) rfl rfl (T_n_fit b L xs (d - 1) (by omega) h s_h l0 l1 f_l0 f_l1 e_q1) (fun v0 h0 hq => ?_)
    obtain ⟨rfl, hh0, s_q1⟩ := hq
    rw [hh0] at s_q1 ⊢
    simp only [Option.toList_some, List.cons_append, List.nil_append]
    refine pw_l (pc := 5) d81_5 rfl rfl rfl ?_
    refine pw_gi (pc := 6) d81_6 (k81_9 b) (sho s_h f_l0) f3_0 ?_
    refine pw_s (pc := 9) d81_9 rfl rfl ?_
    refine pw_t (pc := 10) d81_10 rfl rfl rfl rfl ?_
    refine pw_l (pc := 11) d81_11 rfl rfl rfl ?_
    refine pw_gi (pc := 12) d81_12 (k81_24 b) (sho s_h f_l0) f3_4 ?_
    refine pw_zlt (pc := 15) (t := 26) d81_15 (by decide) (fun c2 => ?_) (fun c2 => ?_)
    · rw [if_pos c2] at hm
      refine pw_l (pc := 26) d81_26 rfl rfl rfl ?_
      obtain rfl := Option.some.inj hm
      refine pw_ri (pc := 27) d81_27 t81 rfl ?_
      exact hE
    · rw [if_neg c2] at hm
      refine pw_l (pc := 18) d81_18 rfl rfl rfl ?_
      refine pw_s (pc := 19) d81_19 rfl rfl ?_
      refine pw_s (pc := 22) d81_22 rfl rfl ?_
      refine pw_go (pc := 23) (t := 27) d81_23 (by decide) ?_
      obtain rfl := Option.some.inj hm
      refine pw_ri (pc := 27) d81_27 t81 rfl ?_
      exact hE
  exact key _ ⟨rfl, rfl, s_h⟩
noncomputable def p_forget (l0 : Nat) (h : pm_H) : Option pm_H := bd (pm_setI h l0 2 (Int32.ofInt 0)) fun h1 => some h1
theorem T_p_forget (b : Bool) (L : Nat) (xs : Nat → Int32) (d : Nat) (hd : 0 ≤ d) (h : pm_H) (s_h : h.1 = tb_SH) (l0 : Nat) (f_l0 : mi_o l0 4 = true) {r : pm_H} (hm : p_forget l0 h = some r) : PC b L xs d 83 [(Value.ref l0)] h (fun (v0 : Option Value) (h2 : pm_H) => v0 = none ∧ h2 = r ∧ h2.1 = tb_SH) := by
  refine pc_in e83 (ls0 := [(Value.ref l0)]) rfl ?_
  have key : ∀ (Q : Option Value → pm_H → Prop), (r.1 = tb_SH → Q none r) → PW b L xs d 83 0 0 0 [(Value.ref l0)] [] h Q := by
    intro Q hE
    rw [p_forget] at hm
    refine pw_l (pc := 0) d83_0 rfl rfl rfl ?_
    refine pw_s (pc := 1) d83_1 rfl rfl ?_
    refine pw_pi (pc := 2) d83_2 (k83_21 b) (sho s_h f_l0) p83_4_2 ?_
    obtain ⟨h1, e_h1, hm⟩ := bd_x hm
    rw [e_h1]
    have s_h1 : h1.1 = tb_SH := by rw [← e_h1]; exact s_h
    obtain rfl := Option.some.inj hm
    refine pw_rv (pc := 5) d83_5 t83 ?_
    exact hE s_h1
  exact key _ (fun q => ⟨rfl, rfl, q⟩)
noncomputable def p_keep (l0 : Nat) (l1 : Nat) (h : pm_H) : Option pm_H := bd (pm_setI h l0 1 (((h.2.1 l0 1) + (Int32.ofInt 1)) - ((h.2.1 l0 1) + (Int32.ofInt 1)) / (Int8.ofInt 20).toInt32 * (Int8.ofInt 20).toInt32)) fun h1 => (gA h1 l0 0 (.object "ChoirShip$Hands")).bind fun y2 => if mi_in (h1.2.1 l0 1) (mi_n y2) = true then (gO h1 y2 (h1.2.1 l0 1).toNatClampNeg 3).bind fun y4 => (n_copy y4 l1 h1).bind fun q5 => bd (pm_setI q5 l0 2 (if (Int8.ofInt 20).toInt32 < ((q5.2.1 l0 2) + (Int32.ofInt 1)) then (Int8.ofInt 20).toInt32 else ((q5.2.1 l0 2) + (Int32.ofInt 1)))) fun h6 => some h6 else none
theorem T_p_keep (b : Bool) (L : Nat) (xs : Nat → Int32) (d : Nat) (hd : 2 ≤ d) (h : pm_H) (s_h : h.1 = tb_SH) (l0 : Nat) (l1 : Nat) (f_l0 : mi_o l0 4 = true) (f_l1 : mi_o l1 3 = true) {r : pm_H} (hm : p_keep l0 l1 h = some r) : PC b L xs d 84 [(Value.ref l0), (Value.ref l1)] h (fun (v0 : Option Value) (h2 : pm_H) => v0 = none ∧ h2 = r ∧ h2.1 = tb_SH) := by
  refine pc_in e84 (ls0 := [(Value.ref l0), (Value.ref l1)]) rfl ?_
  have key : ∀ (Q : Option Value → pm_H → Prop), (r.1 = tb_SH → Q none r) → PW b L xs d 84 0 0 0 [(Value.ref l0), (Value.ref l1)] [] h Q := by
    intro Q hE
    rw [p_keep] at hm
    refine pw_l (pc := 0) d84_0 rfl rfl rfl ?_
    refine pw_l (pc := 1) d84_1 rfl rfl rfl ?_
    refine pw_gi (pc := 2) d84_2 (k84_17 b) (sho s_h f_l0) f4_1 ?_
    refine pw_s (pc := 5) d84_5 rfl rfl ?_
    refine pw_s (pc := 6) d84_6 rfl rfl ?_
    refine pw_s (pc := 7) d84_7 rfl rfl ?_
    refine pw_re (pc := 9) d84_9 (by decide) ?_
    refine pw_pi (pc := 10) d84_10 (k84_17 b) (sho s_h f_l0) p84_4_1 ?_
    obtain ⟨h1, e_h1, hm⟩ := bd_x hm
    rw [e_h1]
    have s_h1 : h1.1 = tb_SH := by rw [← e_h1]; exact s_h
    refine pw_l (pc := 13) d84_13 rfl rfl rfl ?_
    obtain ⟨y2, e_y2, hm⟩ := ob_x hm
    have f_y2 := gA_x e_y2
    refine pw_gr (pc := 14) d84_14 (k84_11 b) (sho s_h1 f_l0) f4_0 f_y2.1 ?_
    refine pw_l (pc := 17) d84_17 rfl rfl rfl ?_
    refine pw_gi (pc := 18) d84_18 (k84_17 b) (sho s_h1 f_l0) f4_1 ?_
    obtain ⟨g3, hm⟩ := gd_x hm
    obtain ⟨y4, e_y4, hm⟩ := ob_x hm
    have f_y4 := gO_x e_y4
    refine pw_ar (pc := 21) d84_21 (sha s_h1 f_y2.2) (mi_in_x g3) f_y4.1 ?_
    refine pw_l (pc := 22) d84_22 rfl rfl rfl ?_
    obtain ⟨q5, e_q5, hm⟩ := ob_x hm
    refine pw_v (pc := 23) (k := y4) (by omega) d84_23 (k84_25 b) (by decide) m76 (by decide) rfl (sho s_h1 f_y4.2) (Nat.le_of_ble_eq_true rfl) (Nat.le_of_ble_eq_true rfl) rfl rfl (T_n_copy b L xs (d - 1) (by omega) h1 s_h1 y4 l1 f_y4.2 f_l1 e_q5) (fun v0 h0 hq => ?_)
    obtain ⟨rfl, hh0, s_q5⟩ := hq
    rw [hh0] at s_q5 ⊢
    simp only [Option.toList_none, List.nil_append]
    refine pw_l (pc := 26) d84_26 rfl rfl rfl ?_
    refine pw_l (pc := 27) d84_27 rfl rfl rfl ?_
    refine pw_gi (pc := 28) d84_28 (k84_21 b) (sho s_q5 f_l0) f4_2 ?_
    refine pw_s (pc := 31) d84_31 rfl rfl ?_
    refine pw_s (pc := 32) d84_32 rfl rfl ?_
    refine pw_s (pc := 33) d84_33 rfl rfl ?_
    refine pw_mn (pc := 35) (by omega) d84_35 (k84_29 b) (Nat.le_of_ble_eq_true rfl) ?_
    refine pw_pi (pc := 38) d84_38 (k84_21 b) (sho s_q5 f_l0) p84_4_2 ?_
    obtain ⟨h6, e_h6, hm⟩ := bd_x hm
    rw [e_h6]
    have s_h6 : h6.1 = tb_SH := by rw [← e_h6]; exact s_q5
    obtain rfl := Option.some.inj hm
    refine pw_rv (pc := 41) d84_41 t84 ?_
    exact hE s_h6
  exact key _ (fun q => ⟨rfl, rfl, q⟩)
noncomputable def p_restore (l0 : Nat) (l1 : Nat) (h : pm_H) : Option (Int32 × pm_H) := if (Int32.ofInt 1) ≤ (h.2.1 l0 2) then ((gA h l0 0 (.object "ChoirShip$Hands")).bind fun y2 => if mi_in (h.2.1 l0 1) (mi_n y2) = true then (gO h y2 (h.2.1 l0 1).toNatClampNeg 3).bind fun y4 => (n_copy l1 y4 h).bind fun q5 => bd (pm_setI q5 l0 1 ((((q5.2.1 l0 1) + (Int8.ofInt 20).toInt32) - (Int32.ofInt 1)) - (((q5.2.1 l0 1) + (Int8.ofInt 20).toInt32) - (Int32.ofInt 1)) / (Int8.ofInt 20).toInt32 * (Int8.ofInt 20).toInt32)) fun h6 => bd (pm_setI h6 l0 2 ((h6.2.1 l0 2) - (Int32.ofInt 1))) fun h7 => some ((Int32.ofInt 1), h7) else none) else (some ((Int32.ofInt 0), h))
theorem T_p_restore (b : Bool) (L : Nat) (xs : Nat → Int32) (d : Nat) (hd : 2 ≤ d) (h : pm_H) (s_h : h.1 = tb_SH) (l0 : Nat) (l1 : Nat) (f_l0 : mi_o l0 4 = true) (f_l1 : mi_o l1 3 = true) {r : (Int32 × pm_H)} (hm : p_restore l0 l1 h = some r) : PC b L xs d 85 [(Value.ref l0), (Value.ref l1)] h (fun (v0 : Option Value) (h2 : pm_H) => v0 = (some (Value.int r.1)) ∧ h2 = r.2 ∧ h2.1 = tb_SH) := by
  refine pc_in e85 (ls0 := [(Value.ref l0), (Value.ref l1)]) rfl ?_
  have key : ∀ (Q : Option Value → pm_H → Prop), (r.2.1 = tb_SH → Q (some (Value.int r.1)) r.2) → PW b L xs d 85 0 0 0 [(Value.ref l0), (Value.ref l1)] [] h Q := by
    intro Q hE
    rw [p_restore] at hm
    refine pw_l (pc := 0) d85_0 rfl rfl rfl ?_
    refine pw_gi (pc := 1) d85_1 (k85_21 b) (sho s_h f_l0) f4_2 ?_
    refine pw_s (pc := 4) d85_4 rfl rfl ?_
    refine pw_ige (pc := 5) (t := 10) d85_5 (by decide) (fun c1 => ?_) (fun c1 => ?_)
    · rw [if_pos c1] at hm
      refine pw_l (pc := 10) d85_10 rfl rfl rfl ?_
      refine pw_l (pc := 11) d85_11 rfl rfl rfl ?_
      obtain ⟨y2, e_y2, hm⟩ := ob_x hm
      have f_y2 := gA_x e_y2
      refine pw_gr (pc := 12) d85_12 (k85_11 b) (sho s_h f_l0) f4_0 f_y2.1 ?_
      refine pw_l (pc := 15) d85_15 rfl rfl rfl ?_
      refine pw_gi (pc := 16) d85_16 (k85_17 b) (sho s_h f_l0) f4_1 ?_
      obtain ⟨g3, hm⟩ := gd_x hm
      obtain ⟨y4, e_y4, hm⟩ := ob_x hm
      have f_y4 := gO_x e_y4
      refine pw_ar (pc := 19) d85_19 (sha s_h f_y2.2) (mi_in_x g3) f_y4.1 ?_
      obtain ⟨q5, e_q5, hm⟩ := ob_x hm
      refine pw_v (pc := 20) (k := l1) (by omega) d85_20 (k85_25 b) (by decide) m76 (by decide) rfl (sho s_h f_l1) (Nat.le_of_ble_eq_true rfl) (Nat.le_of_ble_eq_true rfl) rfl rfl (T_n_copy b L xs (d - 1) (by omega) h s_h l1 y4 f_l1 f_y4.2 e_q5) (fun v0 h0 hq => ?_)
      obtain ⟨rfl, hh0, s_q5⟩ := hq
      rw [hh0] at s_q5 ⊢
      simp only [Option.toList_none, List.nil_append]
      refine pw_l (pc := 23) d85_23 rfl rfl rfl ?_
      refine pw_l (pc := 24) d85_24 rfl rfl rfl ?_
      refine pw_gi (pc := 25) d85_25 (k85_17 b) (sho s_q5 f_l0) f4_1 ?_
      refine pw_s (pc := 28) d85_28 rfl rfl ?_
      refine pw_s (pc := 30) d85_30 rfl rfl ?_
      refine pw_s (pc := 31) d85_31 rfl rfl ?_
      refine pw_s (pc := 32) d85_32 rfl rfl ?_
      refine pw_s (pc := 33) d85_33 rfl rfl ?_
      refine pw_re (pc := 35) d85_35 (by decide) ?_
      refine pw_pi (pc := 36) d85_36 (k85_17 b) (sho s_q5 f_l0) p85_4_1 ?_
      obtain ⟨h6, e_h6, hm⟩ := bd_x hm
      rw [e_h6]
      have s_h6 : h6.1 = tb_SH := by rw [← e_h6]; exact s_q5
      refine pw_l (pc := 39) d85_39 rfl rfl rfl ?_
      refine pw_s (pc := 40) d85_40 rfl rfl ?_
      refine pw_gi (pc := 41) d85_41 (k85_21 b) (sho s_h6 f_l0) f4_2 ?_
      refine pw_s (pc := 44) d85_44 rfl rfl ?_
      refine pw_s (pc := 45) d85_45 rfl rfl ?_
      refine pw_pi (pc := 46) d85_46 (k85_21 b) (sho s_h6 f_l0) p85_4_2 ?_
      obtain ⟨h7, e_h7, hm⟩ := bd_x hm
      rw [e_h7]
      have s_h7 : h7.1 = tb_SH := by rw [← e_h7]; exact s_h6
      refine pw_s (pc := 49) d85_49 rfl rfl ?_
      obtain rfl := Option.some.inj hm
      refine pw_ri (pc := 50) d85_50 t85 rfl ?_
      exact hE s_h7
    · rw [if_neg c1] at hm
      refine pw_s (pc := 8) d85_8 rfl rfl ?_
      obtain rfl := Option.some.inj hm
      refine pw_ri (pc := 9) d85_9 t85 rfl ?_
      exact hE s_h
  exact key _ (fun q => ⟨rfl, rfl, q⟩)
noncomputable def w_copy (l0 : Nat) (l1 : Nat) (h : pm_H) : Option pm_H := (gO h l1 0 7).bind fun y1 => bd (pm_setR h l0 0 (some y1)) fun h2 => (gO h2 l0 1 3).bind fun y3 => (gO h2 l1 1 3).bind fun y4 => (n_copy y3 y4 h2).bind fun q5 => bd (pm_setI q5 l0 2 (q5.2.1 l1 2)) fun h6 => (gA h6 l1 3 .int).bind fun y7 => (gA h6 l0 3 .int).bind fun y8 => if mi_cp (mi_n y7) (mi_n y8) (Int32.ofInt 0) (Int32.ofInt 0) ((Int8.ofInt 10).toInt32) = true then bd (pm_rowI h6 y8 (va_cpy (h6.2.1 y7) (h6.2.1 y8) (Int32.ofInt 0).toNatClampNeg (Int32.ofInt 0).toNatClampNeg ((Int8.ofInt 10).toInt32).toNatClampNeg)) fun h10 => bd (pm_setI h10 l0 4 (h10.2.1 l1 4)) fun h11 => bd (pm_setI h11 l0 5 (h11.2.1 l1 5)) fun h12 => some h12 else none
theorem T_w_copy (b : Bool) (L : Nat) (xs : Nat → Int32) (d : Nat) (hd : 2 ≤ d) (h : pm_H) (s_h : h.1 = tb_SH) (l0 : Nat) (l1 : Nat) (f_l0 : mi_o l0 9 = true) (f_l1 : mi_o l1 9 = true) {r : pm_H} (hm : w_copy l0 l1 h = some r) : PC b L xs d 144 [(Value.ref l0), (Value.ref l1)] h (fun (v0 : Option Value) (h2 : pm_H) => v0 = none ∧ h2 = r ∧ h2.1 = tb_SH) := by
  refine pc_in e144 (ls0 := [(Value.ref l0), (Value.ref l1)]) rfl ?_
  have key : ∀ (Q : Option Value → pm_H → Prop), (r.1 = tb_SH → Q none r) → PW b L xs d 144 0 0 0 [(Value.ref l0), (Value.ref l1)] [] h Q := by
    intro Q hE
    rw [w_copy] at hm
    refine pw_l (pc := 0) d144_0 rfl rfl rfl ?_
    refine pw_l (pc := 1) d144_1 rfl rfl rfl ?_
    obtain ⟨y1, e_y1, hm⟩ := ob_x hm
    have f_y1 := gO_x e_y1
    refine pw_gr (pc := 2) d144_2 (k144_36 b) (sho s_h f_l1) f9_0 f_y1.1 ?_
    refine pw_pr (pc := 5) d144_5 (k144_36 b) (sho s_h f_l0) p144_9_0 ?_
    obtain ⟨h2, e_h2, hm⟩ := bd_x hm
    rw [e_h2]
    have s_h2 : h2.1 = tb_SH := by rw [← e_h2]; exact s_h
    refine pw_l (pc := 8) d144_8 rfl rfl rfl ?_
    obtain ⟨y3, e_y3, hm⟩ := ob_x hm
    have f_y3 := gO_x e_y3
    refine pw_gr (pc := 9) d144_9 (k144_12 b) (sho s_h2 f_l0) f9_1 f_y3.1 ?_
    refine pw_l (pc := 12) d144_12 rfl rfl rfl ?_
    obtain ⟨y4, e_y4, hm⟩ := ob_x hm
    have f_y4 := gO_x e_y4
    refine pw_gr (pc := 13) d144_13 (k144_12 b) (sho s_h2 f_l1) f9_1 f_y4.1 ?_
    obtain ⟨q5, e_q5, hm⟩ := ob_x hm
    refine pw_v (pc := 16) (k := y3) (by omega) d144_16 (k144_40 b) (by decide) m76 (by decide) rfl (sho s_h2 f_y3.2) (Nat.le_of_ble_eq_true rfl) (Nat.le_of_ble_eq_true rfl) rfl rfl (T_n_copy b L xs (d - 1) (by omega) h2 s_h2 y3 y4 f_y3.2 f_y4.2 e_q5) (fun v0 h0 hq => ?_)
    obtain ⟨rfl, hh0, s_q5⟩ := hq
    rw [hh0] at s_q5 ⊢
    simp only [Option.toList_none, List.nil_append]
    refine pw_l (pc := 19) d144_19 rfl rfl rfl ?_
    refine pw_l (pc := 20) d144_20 rfl rfl rfl ?_
    refine pw_gi (pc := 21) d144_21 (k144_18 b) (sho s_q5 f_l1) f9_2 ?_
    refine pw_pi (pc := 24) d144_24 (k144_18 b) (sho s_q5 f_l0) p144_9_2 ?_
    obtain ⟨h6, e_h6, hm⟩ := bd_x hm
    rw [e_h6]
    have s_h6 : h6.1 = tb_SH := by rw [← e_h6]; exact s_q5
    refine pw_l (pc := 27) d144_27 rfl rfl rfl ?_
    obtain ⟨y7, e_y7, hm⟩ := ob_x hm
    have f_y7 := gA_x e_y7
    refine pw_gr (pc := 28) d144_28 (k144_22 b) (sho s_h6 f_l1) f9_3 f_y7.1 ?_
    refine pw_s (pc := 31) d144_31 rfl rfl ?_
    refine pw_l (pc := 32) d144_32 rfl rfl rfl ?_
    obtain ⟨y8, e_y8, hm⟩ := ob_x hm
    have f_y8 := gA_x e_y8
    refine pw_gr (pc := 33) d144_33 (k144_22 b) (sho s_h6 f_l0) f9_3 f_y8.1 ?_
    refine pw_s (pc := 36) d144_36 rfl rfl ?_
    refine pw_s (pc := 37) d144_37 rfl rfl ?_
    obtain ⟨g9, hm⟩ := gd_x hm
    refine pw_cpy (pc := 39) (by omega) d144_39 (k144_44 b) (sha s_h6 f_y7.2) (sha s_h6 f_y8.2) g9 (Nat.le_of_ble_eq_true rfl) ?_
    obtain ⟨h10, e_h10, hm⟩ := bd_x hm
    rw [e_h10]
    have s_h10 : h10.1 = tb_SH := by rw [← e_h10]; exact s_h6
    refine pw_l (pc := 42) d144_42 rfl rfl rfl ?_
    refine pw_l (pc := 43) d144_43 rfl rfl rfl ?_
    refine pw_gi (pc := 44) d144_44 (k144_26 b) (sho s_h10 f_l1) f9_4 ?_
    refine pw_pi (pc := 47) d144_47 (k144_26 b) (sho s_h10 f_l0) p144_9_4 ?_
    obtain ⟨h11, e_h11, hm⟩ := bd_x hm
    rw [e_h11]
    have s_h11 : h11.1 = tb_SH := by rw [← e_h11]; exact s_h10
    refine pw_l (pc := 50) d144_50 rfl rfl rfl ?_
    refine pw_l (pc := 51) d144_51 rfl rfl rfl ?_
    refine pw_gi (pc := 52) d144_52 (k144_29 b) (sho s_h11 f_l1) f9_5 ?_
    refine pw_pi (pc := 55) d144_55 (k144_29 b) (sho s_h11 f_l0) p144_9_5 ?_
    obtain ⟨h12, e_h12, hm⟩ := bd_x hm
    rw [e_h12]
    have s_h12 : h12.1 = tb_SH := by rw [← e_h12]; exact s_h11
    obtain rfl := Option.some.inj hm
    refine pw_rv (pc := 58) d144_58 t144 ?_
    exact hE s_h12
  exact key _ (fun q => ⟨rfl, rfl, q⟩)
noncomputable def w_tell_56 (l0 : Nat) (z0 : Int32) (z1 : Nat) (h : pm_H) : Option pm_H := bd (pm_setI h z1 4 z0) fun h1 => bd (pm_setI h1 l0 2 ((h1.2.1 l0 2) + (Int32.ofInt 1))) fun h2 => some h2
theorem t_w_tell_56 (b : Bool) (L : Nat) (xs : Nat → Int32) (d : Nat) (hd : 0 ≤ d) {Q : Option Value → pm_H → Prop} (h : pm_H) (s_h : h.1 = tb_SH) (l0 : Nat) (z0 : Int32) (z1 : Nat) (w1 : Value) (w2 : Value) (w3 : Value) (f_l0 : mi_o l0 9 = true) (f_z1 : mi_o z1 9 = true) {r : pm_H} (hm : w_tell_56 l0 z0 z1 h = some r) (hE : r.1 = tb_SH → Q none r) : PW b L xs d 145 0 0 56 [(Value.ref l0), w1, w2, w3] [(Value.int z0), (Value.ref z1)] h Q := by
  rw [w_tell_56] at hm
  refine pw_pi (pc := 56) d145_56 (k145_26 b) (sho s_h f_z1) p145_9_4 ?_
  obtain ⟨h1, e_h1, hm⟩ := bd_x hm
  rw [e_h1]
  have s_h1 : h1.1 = tb_SH := by rw [← e_h1]; exact s_h
  refine pw_l (pc := 59) d145_59 rfl rfl rfl ?_
  refine pw_s (pc := 60) d145_60 rfl rfl ?_
  refine pw_gi (pc := 61) d145_61 (k145_18 b) (sho s_h1 f_l0) f9_2 ?_
  refine pw_s (pc := 64) d145_64 rfl rfl ?_
  refine pw_s (pc := 65) d145_65 rfl rfl ?_
  refine pw_pi (pc := 66) d145_66 (k145_18 b) (sho s_h1 f_l0) p145_9_2 ?_
  obtain ⟨h2, e_h2, hm⟩ := bd_x hm
  rw [e_h2]
  have s_h2 : h2.1 = tb_SH := by rw [← e_h2]; exact s_h1
  obtain rfl := Option.some.inj hm
  refine pw_rv (pc := 69) d145_69 t145 ?_
  exact hE s_h2
noncomputable def w_tell (l0 : Nat) (l1 : Int32) (l2 : Int32) (h : pm_H) : Option pm_H := if (h.2.1 l0 2) < 0 then (some h) else (if (h.2.1 l0 2) < (Int8.ofInt 10).toInt32 then ((gA h l0 3 .int).bind fun y3 => if mi_in (h.2.1 l0 2) (mi_n y3) = true then bd (pm_setI h y3 (h.2.1 l0 2).toNatClampNeg l1) fun h5 => if l2 = 0 then (w_tell_56 l0 ((h5.2.1 l0 4) &&& (((Int32.ofInt 1) <<< ((h5.2.1 l0 2) &&& 31)) ^^^ (Int32.ofInt (-1)))) l0 h5) else (w_tell_56 l0 ((h5.2.1 l0 4) ||| ((Int32.ofInt 1) <<< ((h5.2.1 l0 2) &&& 31))) l0 h5) else none) else (some h))
theorem T_w_tell (b : Bool) (L : Nat) (xs : Nat → Int32) (d : Nat) (hd : 0 ≤ d) (h : pm_H) (s_h : h.1 = tb_SH) (l0 : Nat) (l1 : Int32) (l2 : Int32) (f_l0 : mi_o l0 9 = true) {r : pm_H} (hm : w_tell l0 l1 l2 h = some r) : PC b L xs d 145 [(Value.ref l0), (Value.int l1), (Value.int l2)] h (fun (v0 : Option Value) (h2 : pm_H) => v0 = none ∧ h2 = r ∧ h2.1 = tb_SH) := by
  refine pc_in e145 (ls0 := [(Value.ref l0), (Value.int l1), (Value.int l2), Value.retAddr 0]) rfl ?_
  have key : ∀ (Q : Option Value → pm_H → Prop), (r.1 = tb_SH → Q none r) → PW b L xs d 145 0 0 0 [(Value.ref l0), (Value.int l1), (Value.int l2), Value.retAddr 0] [] h Q := by
    intro Q hE
    rw [w_tell] at hm
    refine pw_l (pc := 0) d145_0 rfl rfl rfl ?_
    refine pw_gi (pc := 1) d145_1 (k145_18 b) (sho s_h f_l0) f9_2 ?_
    refine pw_zlt (pc := 4) (t := 16) d145_4 (by decide) (fun c1 => ?_) (fun c1 => ?_)
    · rw [if_pos c1] at hm
      obtain rfl := Option.some.inj hm
      refine pw_rv (pc := 16) d145_16 t145 ?_
      exact hE s_h
    · rw [if_neg c1] at hm
      refine pw_l (pc := 7) d145_7 rfl rfl rfl ?_
      refine pw_gi (pc := 8) d145_8 (k145_18 b) (sho s_h f_l0) f9_2 ?_
      refine pw_s (pc := 11) d145_11 rfl rfl ?_
      refine pw_ilt (pc := 13) (t := 17) d145_13 (by decide) (fun c2 => ?_) (fun c2 => ?_)
      · rw [if_pos c2] at hm
        refine pw_l (pc := 17) d145_17 rfl rfl rfl ?_
        obtain ⟨y3, e_y3, hm⟩ := ob_x hm
        have f_y3 := gA_x e_y3
        refine pw_gr (pc := 18) d145_18 (k145_22 b) (sho s_h f_l0) f9_3 f_y3.1 ?_
        refine pw_l (pc := 21) d145_21 rfl rfl rfl ?_
        refine pw_gi (pc := 22) d145_22 (k145_18 b) (sho s_h f_l0) f9_2 ?_
        refine pw_l (pc := 25) d145_25 rfl rfl rfl ?_
        obtain ⟨g4, hm⟩ := gd_x hm
        refine pw_si (pc := 26) d145_26 (sha s_h f_y3.2) (mi_in_x g4) ?_
        obtain ⟨h5, e_h5, hm⟩ := bd_x hm
        rw [e_h5]
        have s_h5 : h5.1 = tb_SH := by rw [← e_h5]; exact s_h
        refine pw_s (pc := 27) d145_27 rfl rfl ?_
        refine pw_l (pc := 28) d145_28 rfl rfl rfl ?_
        refine pw_gi (pc := 29) d145_29 (k145_18 b) (sho s_h5 f_l0) f9_2 ?_
        refine pw_s (pc := 32) d145_32 rfl rfl ?_
        refine pw_t (pc := 33) d145_33 rfl rfl rfl rfl ?_
        refine pw_l (pc := 34) d145_34 rfl rfl rfl ?_
        refine pw_l (pc := 35) d145_35 rfl rfl rfl ?_
        refine pw_zeq (pc := 36) (t := 48) d145_36 (by decide) (fun c6 => ?_) (fun c6 => ?_)
        · rw [if_pos c6] at hm
          refine pw_l (pc := 48) d145_48 rfl rfl rfl ?_
          refine pw_gi (pc := 49) d145_49 (k145_26 b) (sho s_h5 f_l0) f9_4 ?_
          refine pw_l (pc := 52) d145_52 rfl rfl rfl ?_
          refine pw_s (pc := 53) d145_53 rfl rfl ?_
          refine pw_s (pc := 54) d145_54 rfl rfl ?_
          refine pw_s (pc := 55) d145_55 rfl rfl ?_
          exact t_w_tell_56 b L xs d hd h5 s_h5 l0 ((h5.2.1 l0 4) &&& (((Int32.ofInt 1) <<< ((h5.2.1 l0 2) &&& 31)) ^^^ (Int32.ofInt (-1)))) l0 (Value.int l1) (Value.int l2) (Value.int ((Int32.ofInt 1) <<< ((h5.2.1 l0 2) &&& 31))) f_l0 f_l0 hm hE
        · rw [if_neg c6] at hm
          refine pw_l (pc := 39) d145_39 rfl rfl rfl ?_
          refine pw_gi (pc := 40) d145_40 (k145_26 b) (sho s_h5 f_l0) f9_4 ?_
          refine pw_l (pc := 43) d145_43 rfl rfl rfl ?_
          refine pw_s (pc := 44) d145_44 rfl rfl ?_
          refine pw_go (pc := 45) (t := 56) d145_45 (by decide) ?_
          exact t_w_tell_56 b L xs d hd h5 s_h5 l0 ((h5.2.1 l0 4) ||| ((Int32.ofInt 1) <<< ((h5.2.1 l0 2) &&& 31))) l0 (Value.int l1) (Value.int l2) (Value.int ((Int32.ofInt 1) <<< ((h5.2.1 l0 2) &&& 31))) f_l0 f_l0 hm hE
      · rw [if_neg c2] at hm
        obtain rfl := Option.some.inj hm
        refine pw_rv (pc := 16) d145_16 t145 ?_
        exact hE s_h
  exact key _ (fun q => ⟨rfl, rfl, q⟩)
noncomputable def s_sails (l0 : Nat) (h : pm_H) : Option Int32 := if (h.2.1 l0 0) ≤ 0 then (some (Int32.ofInt 0)) else (some (Int32.ofInt 1))
theorem T_s_sails (b : Bool) (L : Nat) (xs : Nat → Int32) (d : Nat) (hd : 0 ≤ d) (h : pm_H) (s_h : h.1 = tb_SH) (l0 : Nat) (f_l0 : mi_o l0 7 = true) {r : Int32} (hm : s_sails l0 h = some r) : PC b L xs d 110 [(Value.ref l0)] h (fun (v0 : Option Value) (h2 : pm_H) => v0 = (some (Value.int r)) ∧ h2 = h ∧ h2.1 = tb_SH) := by
  refine pc_in e110 (ls0 := [(Value.ref l0)]) rfl ?_
  have key : ∀ (Q : Option Value → pm_H → Prop), (Q (some (Value.int r)) h) → PW b L xs d 110 0 0 0 [(Value.ref l0)] [] h Q := by
    intro Q hE
    rw [s_sails] at hm
    refine pw_l (pc := 0) d110_0 rfl rfl rfl ?_
    refine pw_gi (pc := 1) d110_1 (k110_9 b) (sho s_h f_l0) f7_0 ?_
    refine pw_zle (pc := 4) (t := 11) d110_4 (by decide) (fun c1 => ?_) (fun c1 => ?_)
    · rw [if_pos c1] at hm
      refine pw_s (pc := 11) d110_11 rfl rfl ?_
      obtain rfl := Option.some.inj hm
      refine pw_ri (pc := 12) d110_12 t110 rfl ?_
      exact hE
    · rw [if_neg c1] at hm
      refine pw_s (pc := 7) d110_7 rfl rfl ?_
      refine pw_go (pc := 8) (t := 12) d110_8 (by decide) ?_
      obtain rfl := Option.some.inj hm
      refine pw_ri (pc := 12) d110_12 t110 rfl ?_
      exact hE
  exact key _ ⟨rfl, rfl, s_h⟩
noncomputable def s_hasWord (l0 : Nat) (l1 : Int32) (h : pm_H) : Option Int32 := if l1 < 0 then (some (Int32.ofInt 0)) else (if (h.2.1 l0 0) ≤ l1 then (some (Int32.ofInt 0)) else (some (Int32.ofInt 1)))
theorem T_s_hasWord (b : Bool) (L : Nat) (xs : Nat → Int32) (d : Nat) (hd : 0 ≤ d) (h : pm_H) (s_h : h.1 = tb_SH) (l0 : Nat) (l1 : Int32) (f_l0 : mi_o l0 7 = true) {r : Int32} (hm : s_hasWord l0 l1 h = some r) : PC b L xs d 111 [(Value.ref l0), (Value.int l1)] h (fun (v0 : Option Value) (h2 : pm_H) => v0 = (some (Value.int r)) ∧ h2 = h ∧ h2.1 = tb_SH) := by
  refine pc_in e111 (ls0 := [(Value.ref l0), (Value.int l1)]) rfl ?_
  have key : ∀ (Q : Option Value → pm_H → Prop), (Q (some (Value.int r)) h) → PW b L xs d 111 0 0 0 [(Value.ref l0), (Value.int l1)] [] h Q := by
    intro Q hE
    rw [s_hasWord] at hm
    refine pw_l (pc := 0) d111_0 rfl rfl rfl ?_
    refine pw_zlt (pc := 1) (t := 16) d111_1 (by decide) (fun c1 => ?_) (fun c1 => ?_)
    · rw [if_pos c1] at hm
      refine pw_s (pc := 16) d111_16 rfl rfl ?_
      obtain rfl := Option.some.inj hm
      refine pw_ri (pc := 17) d111_17 t111 rfl ?_
      exact hE
    · rw [if_neg c1] at hm
      refine pw_l (pc := 4) d111_4 rfl rfl rfl ?_
      refine pw_l (pc := 5) d111_5 rfl rfl rfl ?_
      refine pw_gi (pc := 6) d111_6 (k111_9 b) (sho s_h f_l0) f7_0 ?_
      refine pw_ige (pc := 9) (t := 16) d111_9 (by decide) (fun c2 => ?_) (fun c2 => ?_)
      · rw [if_pos c2] at hm
        refine pw_s (pc := 16) d111_16 rfl rfl ?_
        obtain rfl := Option.some.inj hm
        refine pw_ri (pc := 17) d111_17 t111 rfl ?_
        exact hE
      · rw [if_neg c2] at hm
        refine pw_s (pc := 12) d111_12 rfl rfl ?_
        refine pw_go (pc := 13) (t := 17) d111_13 (by decide) ?_
        obtain rfl := Option.some.inj hm
        refine pw_ri (pc := 17) d111_17 t111 rfl ?_
        exact hE
  exact key _ ⟨rfl, rfl, s_h⟩
noncomputable def s_hasMan (l0 : Nat) (l1 : Int32) (h : pm_H) : Option Int32 := if l1 < 0 then (some (Int32.ofInt 0)) else (if (h.2.1 l0 1) ≤ l1 then (some (Int32.ofInt 0)) else (if (Int8.ofInt 8).toInt32 ≤ l1 then (some (Int32.ofInt 0)) else (some (Int32.ofInt 1))))
theorem T_s_hasMan (b : Bool) (L : Nat) (xs : Nat → Int32) (d : Nat) (hd : 0 ≤ d) (h : pm_H) (s_h : h.1 = tb_SH) (l0 : Nat) (l1 : Int32) (f_l0 : mi_o l0 7 = true) {r : Int32} (hm : s_hasMan l0 l1 h = some r) : PC b L xs d 112 [(Value.ref l0), (Value.int l1)] h (fun (v0 : Option Value) (h2 : pm_H) => v0 = (some (Value.int r)) ∧ h2 = h ∧ h2.1 = tb_SH) := by
  refine pc_in e112 (ls0 := [(Value.ref l0), (Value.int l1)]) rfl ?_
  have key : ∀ (Q : Option Value → pm_H → Prop), (Q (some (Value.int r)) h) → PW b L xs d 112 0 0 0 [(Value.ref l0), (Value.int l1)] [] h Q := by
    intro Q hE
    rw [s_hasMan] at hm
    refine pw_l (pc := 0) d112_0 rfl rfl rfl ?_
    refine pw_zlt (pc := 1) (t := 22) d112_1 (by decide) (fun c1 => ?_) (fun c1 => ?_)
    · rw [if_pos c1] at hm
      refine pw_s (pc := 22) d112_22 rfl rfl ?_
      obtain rfl := Option.some.inj hm
      refine pw_ri (pc := 23) d112_23 t112 rfl ?_
      exact hE
    · rw [if_neg c1] at hm
      refine pw_l (pc := 4) d112_4 rfl rfl rfl ?_
      refine pw_l (pc := 5) d112_5 rfl rfl rfl ?_
      refine pw_gi (pc := 6) d112_6 (k112_15 b) (sho s_h f_l0) f7_1 ?_
      refine pw_ige (pc := 9) (t := 22) d112_9 (by decide) (fun c2 => ?_) (fun c2 => ?_)
      · rw [if_pos c2] at hm
        refine pw_s (pc := 22) d112_22 rfl rfl ?_
        obtain rfl := Option.some.inj hm
        refine pw_ri (pc := 23) d112_23 t112 rfl ?_
        exact hE
      · rw [if_neg c2] at hm
        refine pw_l (pc := 12) d112_12 rfl rfl rfl ?_
        refine pw_s (pc := 13) d112_13 rfl rfl ?_
        refine pw_ige (pc := 15) (t := 22) d112_15 (by decide) (fun c3 => ?_) (fun c3 => ?_)
        · rw [if_pos c3] at hm
          refine pw_s (pc := 22) d112_22 rfl rfl ?_
          obtain rfl := Option.some.inj hm
          refine pw_ri (pc := 23) d112_23 t112 rfl ?_
          exact hE
        · rw [if_neg c3] at hm
          refine pw_s (pc := 18) d112_18 rfl rfl ?_
          refine pw_go (pc := 19) (t := 23) d112_19 (by decide) ?_
          obtain rfl := Option.some.inj hm
          refine pw_ri (pc := 23) d112_23 t112 rfl ?_
          exact hE
  exact key _ ⟨rfl, rfl, s_h⟩
noncomputable def s_hasOrder (l0 : Nat) (l1 : Int32) (h : pm_H) : Option Int32 := if l1 < 0 then (some (Int32.ofInt 0)) else (if (h.2.1 l0 2) ≤ l1 then (some (Int32.ofInt 0)) else (if (Int8.ofInt 8).toInt32 ≤ l1 then (some (Int32.ofInt 0)) else (some (Int32.ofInt 1))))
theorem T_s_hasOrder (b : Bool) (L : Nat) (xs : Nat → Int32) (d : Nat) (hd : 0 ≤ d) (h : pm_H) (s_h : h.1 = tb_SH) (l0 : Nat) (l1 : Int32) (f_l0 : mi_o l0 7 = true) {r : Int32} (hm : s_hasOrder l0 l1 h = some r) : PC b L xs d 113 [(Value.ref l0), (Value.int l1)] h (fun (v0 : Option Value) (h2 : pm_H) => v0 = (some (Value.int r)) ∧ h2 = h ∧ h2.1 = tb_SH) := by
  refine pc_in e113 (ls0 := [(Value.ref l0), (Value.int l1)]) rfl ?_
  have key : ∀ (Q : Option Value → pm_H → Prop), (Q (some (Value.int r)) h) → PW b L xs d 113 0 0 0 [(Value.ref l0), (Value.int l1)] [] h Q := by
    intro Q hE
    rw [s_hasOrder] at hm
    refine pw_l (pc := 0) d113_0 rfl rfl rfl ?_
    refine pw_zlt (pc := 1) (t := 22) d113_1 (by decide) (fun c1 => ?_) (fun c1 => ?_)
    · rw [if_pos c1] at hm
      refine pw_s (pc := 22) d113_22 rfl rfl ?_
      obtain rfl := Option.some.inj hm
      refine pw_ri (pc := 23) d113_23 t113 rfl ?_
      exact hE
    · rw [if_neg c1] at hm
      refine pw_l (pc := 4) d113_4 rfl rfl rfl ?_
      refine pw_l (pc := 5) d113_5 rfl rfl rfl ?_
      refine pw_gi (pc := 6) d113_6 (k113_18 b) (sho s_h f_l0) f7_2 ?_
      refine pw_ige (pc := 9) (t := 22) d113_9 (by decide) (fun c2 => ?_) (fun c2 => ?_)
      · rw [if_pos c2] at hm
        refine pw_s (pc := 22) d113_22 rfl rfl ?_
        obtain rfl := Option.some.inj hm
        refine pw_ri (pc := 23) d113_23 t113 rfl ?_
        exact hE
      · rw [if_neg c2] at hm
        refine pw_l (pc := 12) d113_12 rfl rfl rfl ?_
        refine pw_s (pc := 13) d113_13 rfl rfl ?_
        refine pw_ige (pc := 15) (t := 22) d113_15 (by decide) (fun c3 => ?_) (fun c3 => ?_)
        · rw [if_pos c3] at hm
          refine pw_s (pc := 22) d113_22 rfl rfl ?_
          obtain rfl := Option.some.inj hm
          refine pw_ri (pc := 23) d113_23 t113 rfl ?_
          exact hE
        · rw [if_neg c3] at hm
          refine pw_s (pc := 18) d113_18 rfl rfl ?_
          refine pw_go (pc := 19) (t := 23) d113_19 (by decide) ?_
          obtain rfl := Option.some.inj hm
          refine pw_ri (pc := 23) d113_23 t113 rfl ?_
          exact hE
  exact key _ ⟨rfl, rfl, s_h⟩
noncomputable def s_hasOrders (l0 : Nat) (l1 : Int32) (h : pm_H) : Option Int32 := (s_sails l0 h).bind fun q1 => if q1 = 0 then (some (Int32.ofInt 0)) else (if l1 < 0 then (some (Int32.ofInt 0)) else (if ((Int32.ofInt 1) <<< ((h.2.1 l0 2) &&& 31)) ≤ l1 then (some (Int32.ofInt 0)) else (some (Int32.ofInt 1))))
theorem T_s_hasOrders (b : Bool) (L : Nat) (xs : Nat → Int32) (d : Nat) (hd : 1 ≤ d) (h : pm_H) (s_h : h.1 = tb_SH) (l0 : Nat) (l1 : Int32) (f_l0 : mi_o l0 7 = true) {r : Int32} (hm : s_hasOrders l0 l1 h = some r) : PC b L xs d 114 [(Value.ref l0), (Value.int l1)] h (fun (v0 : Option Value) (h2 : pm_H) => v0 = (some (Value.int r)) ∧ h2 = h ∧ h2.1 = tb_SH) := by
  refine pc_in e114 (ls0 := [(Value.ref l0), (Value.int l1)]) rfl ?_
  have key : ∀ (Q : Option Value → pm_H → Prop), (Q (some (Value.int r)) h) → PW b L xs d 114 0 0 0 [(Value.ref l0), (Value.int l1)] [] h Q := by
    intro Q hE
    rw [s_hasOrders] at hm
    refine pw_l (pc := 0) d114_0 rfl rfl rfl ?_
    obtain ⟨q1, e_q1, hm⟩ := ob_x hm
    refine pw_v (pc := 1) (k := l0) (by omega) d114_1 (k114_52 b) (by decide) m110 (by decide) rfl (sho s_h f_l0) (Nat.le_of_ble_eq_true rfl) (Nat.le_of_ble_eq_true rfl) rfl rfl (T_s_sails b L xs (d - 1) (by omega) h s_h l0 f_l0 e_q1) (fun v0 h0 hq => ?_)
    obtain ⟨rfl, hh0, s_q1⟩ := hq
    rw [hh0] at s_q1 ⊢
    simp only [Option.toList_some, List.cons_append, List.nil_append]
    refine pw_zeq (pc := 4) (t := 25) d114_4 (by decide) (fun c2 => ?_) (fun c2 => ?_)
    · rw [if_pos c2] at hm
      refine pw_s (pc := 25) d114_25 rfl rfl ?_
      obtain rfl := Option.some.inj hm
      refine pw_ri (pc := 26) d114_26 t114 rfl ?_
      exact hE
    · rw [if_neg c2] at hm
      refine pw_l (pc := 7) d114_7 rfl rfl rfl ?_
      refine pw_zlt (pc := 8) (t := 25) d114_8 (by decide) (fun c3 => ?_) (fun c3 => ?_)
      · rw [if_pos c3] at hm
        refine pw_s (pc := 25) d114_25 rfl rfl ?_
        obtain rfl := Option.some.inj hm
        refine pw_ri (pc := 26) d114_26 t114 rfl ?_
        exact hE
      · rw [if_neg c3] at hm
        refine pw_l (pc := 11) d114_11 rfl rfl rfl ?_
        refine pw_s (pc := 12) d114_12 rfl rfl ?_
        refine pw_l (pc := 13) d114_13 rfl rfl rfl ?_
        refine pw_gi (pc := 14) d114_14 (k114_18 b) (sho s_h f_l0) f7_2 ?_
        refine pw_s (pc := 17) d114_17 rfl rfl ?_
        refine pw_ige (pc := 18) (t := 25) d114_18 (by decide) (fun c4 => ?_) (fun c4 => ?_)
        · rw [if_pos c4] at hm
          refine pw_s (pc := 25) d114_25 rfl rfl ?_
          obtain rfl := Option.some.inj hm
          refine pw_ri (pc := 26) d114_26 t114 rfl ?_
          exact hE
        · rw [if_neg c4] at hm
          refine pw_s (pc := 21) d114_21 rfl rfl ?_
          refine pw_go (pc := 22) (t := 26) d114_22 (by decide) ?_
          obtain rfl := Option.some.inj hm
          refine pw_ri (pc := 26) d114_26 t114 rfl ?_
          exact hE
  exact key _ ⟨rfl, rfl, s_h⟩
noncomputable def s_wordOf (l0 : Nat) (l1 : Int32) (h : pm_H) : Option Int32 := if l1 < 0 then (some (Int32.ofInt (-1))) else (if (h.2.1 l0 1) ≤ l1 then (some (Int32.ofInt (-1))) else (if (Int8.ofInt 8).toInt32 ≤ l1 then (some (Int32.ofInt (-1))) else ((gA h l0 4 .int).bind fun y4 => if mi_in l1 (mi_n y4) = true then some (h.2.1 y4 l1.toNatClampNeg) else none)))
theorem T_s_wordOf (b : Bool) (L : Nat) (xs : Nat → Int32) (d : Nat) (hd : 0 ≤ d) (h : pm_H) (s_h : h.1 = tb_SH) (l0 : Nat) (l1 : Int32) (f_l0 : mi_o l0 7 = true) {r : Int32} (hm : s_wordOf l0 l1 h = some r) : PC b L xs d 115 [(Value.ref l0), (Value.int l1)] h (fun (v0 : Option Value) (h2 : pm_H) => v0 = (some (Value.int r)) ∧ h2 = h ∧ h2.1 = tb_SH) := by
  refine pc_in e115 (ls0 := [(Value.ref l0), (Value.int l1)]) rfl ?_
  have key : ∀ (Q : Option Value → pm_H → Prop), (Q (some (Value.int r)) h) → PW b L xs d 115 0 0 0 [(Value.ref l0), (Value.int l1)] [] h Q := by
    intro Q hE
    rw [s_wordOf] at hm
    refine pw_l (pc := 0) d115_0 rfl rfl rfl ?_
    refine pw_zlt (pc := 1) (t := 27) d115_1 (by decide) (fun c1 => ?_) (fun c1 => ?_)
    · rw [if_pos c1] at hm
      refine pw_s (pc := 27) d115_27 rfl rfl ?_
      obtain rfl := Option.some.inj hm
      refine pw_ri (pc := 28) d115_28 t115 rfl ?_
      exact hE
    · rw [if_neg c1] at hm
      refine pw_l (pc := 4) d115_4 rfl rfl rfl ?_
      refine pw_l (pc := 5) d115_5 rfl rfl rfl ?_
      refine pw_gi (pc := 6) d115_6 (k115_15 b) (sho s_h f_l0) f7_1 ?_
      refine pw_ige (pc := 9) (t := 27) d115_9 (by decide) (fun c2 => ?_) (fun c2 => ?_)
      · rw [if_pos c2] at hm
        refine pw_s (pc := 27) d115_27 rfl rfl ?_
        obtain rfl := Option.some.inj hm
        refine pw_ri (pc := 28) d115_28 t115 rfl ?_
        exact hE
      · rw [if_neg c2] at hm
        refine pw_l (pc := 12) d115_12 rfl rfl rfl ?_
        refine pw_s (pc := 13) d115_13 rfl rfl ?_
        refine pw_ige (pc := 15) (t := 27) d115_15 (by decide) (fun c3 => ?_) (fun c3 => ?_)
        · rw [if_pos c3] at hm
          refine pw_s (pc := 27) d115_27 rfl rfl ?_
          obtain rfl := Option.some.inj hm
          refine pw_ri (pc := 28) d115_28 t115 rfl ?_
          exact hE
        · rw [if_neg c3] at hm
          refine pw_l (pc := 18) d115_18 rfl rfl rfl ?_
          obtain ⟨y4, e_y4, hm⟩ := ob_x hm
          have f_y4 := gA_x e_y4
          refine pw_gr (pc := 19) d115_19 (k115_24 b) (sho s_h f_l0) f7_4 f_y4.1 ?_
          refine pw_l (pc := 22) d115_22 rfl rfl rfl ?_
          obtain ⟨g5, hm⟩ := gd_x hm
          refine pw_ai (pc := 23) d115_23 (sha s_h f_y4.2) (mi_in_x g5) ?_
          refine pw_go (pc := 24) (t := 28) d115_24 (by decide) ?_
          obtain rfl := Option.some.inj hm
          refine pw_ri (pc := 28) d115_28 t115 rfl ?_
          exact hE
  exact key _ ⟨rfl, rfl, s_h⟩
noncomputable def s_rowWord_32 (l0 : Nat) (l1 : Int32) (l2 : Int32) (z0 : Int32) (h : pm_H) : Option Int32 := if z0 = 0 then (some (Int32.ofInt (-1))) else ((gA h l0 8 .int).bind fun y2 => if mi_in ((l1 * (Int32.ofInt 4)) + l2) (mi_n y2) = true then some (h.2.1 y2 ((l1 * (Int32.ofInt 4)) + l2).toNatClampNeg) else none)
theorem t_s_rowWord_32 (b : Bool) (L : Nat) (xs : Nat → Int32) (d : Nat) (hd : 1 ≤ d) {Q : Option Value → pm_H → Prop} (h : pm_H) (s_h : h.1 = tb_SH) (l0 : Nat) (l1 : Int32) (l2 : Int32) (z0 : Int32) (w3 : Value) (f_l0 : mi_o l0 7 = true) {r : Int32} (hm : s_rowWord_32 l0 l1 l2 z0 h = some r) (hE : Q (some (Value.int r)) h) : PW b L xs d 116 0 0 32 [(Value.ref l0), (Value.int l1), (Value.int l2), w3] [(Value.int z0)] h Q := by
  rw [s_rowWord_32] at hm
  refine pw_t (pc := 32) d116_32 rfl rfl rfl rfl ?_
  refine pw_l (pc := 33) d116_33 rfl rfl rfl ?_
  refine pw_zeq (pc := 34) (t := 50) d116_34 (by decide) (fun c1 => ?_) (fun c1 => ?_)
  · rw [if_pos c1] at hm
    refine pw_s (pc := 50) d116_50 rfl rfl ?_
    obtain rfl := Option.some.inj hm
    refine pw_ri (pc := 51) d116_51 t116 rfl ?_
    exact hE
  · rw [if_neg c1] at hm
    refine pw_l (pc := 37) d116_37 rfl rfl rfl ?_
    obtain ⟨y2, e_y2, hm⟩ := ob_x hm
    have f_y2 := gA_x e_y2
    refine pw_gr (pc := 38) d116_38 (k116_37 b) (sho s_h f_l0) f7_8 f_y2.1 ?_
    refine pw_l (pc := 41) d116_41 rfl rfl rfl ?_
    refine pw_s (pc := 42) d116_42 rfl rfl ?_
    refine pw_s (pc := 43) d116_43 rfl rfl ?_
    refine pw_l (pc := 44) d116_44 rfl rfl rfl ?_
    refine pw_s (pc := 45) d116_45 rfl rfl ?_
    obtain ⟨g3, hm⟩ := gd_x hm
    refine pw_ai (pc := 46) d116_46 (sha s_h f_y2.2) (mi_in_x g3) ?_
    refine pw_go (pc := 47) (t := 51) d116_47 (by decide) ?_
    obtain rfl := Option.some.inj hm
    refine pw_ri (pc := 51) d116_51 t116 rfl ?_
    exact hE
noncomputable def s_rowWord (l0 : Nat) (l1 : Int32) (l2 : Int32) (h : pm_H) : Option Int32 := (s_hasOrder l0 l1 h).bind fun q1 => if q1 = 0 then (s_rowWord_32 l0 l1 l2 (Int32.ofInt 0) h) else (if l2 < 0 then (s_rowWord_32 l0 l1 l2 (Int32.ofInt 0) h) else (if (Int32.ofInt 4) ≤ l2 then (s_rowWord_32 l0 l1 l2 (Int32.ofInt 0) h) else ((gA h l0 7 .int).bind fun y5 => if mi_in l1 (mi_n y5) = true then if (h.2.1 y5 l1.toNatClampNeg) ≤ l2 then (s_rowWord_32 l0 l1 l2 (Int32.ofInt 0) h) else (s_rowWord_32 l0 l1 l2 (Int32.ofInt 1) h) else none)))
theorem T_s_rowWord (b : Bool) (L : Nat) (xs : Nat → Int32) (d : Nat) (hd : 1 ≤ d) (h : pm_H) (s_h : h.1 = tb_SH) (l0 : Nat) (l1 : Int32) (l2 : Int32) (f_l0 : mi_o l0 7 = true) {r : Int32} (hm : s_rowWord l0 l1 l2 h = some r) : PC b L xs d 116 [(Value.ref l0), (Value.int l1), (Value.int l2)] h (fun (v0 : Option Value) (h2 : pm_H) => v0 = (some (Value.int r)) ∧ h2 = h ∧ h2.1 = tb_SH) := by
  refine pc_in e116 (ls0 := [(Value.ref l0), (Value.int l1), (Value.int l2), Value.retAddr 0]) rfl ?_
  have key : ∀ (Q : Option Value → pm_H → Prop), (Q (some (Value.int r)) h) → PW b L xs d 116 0 0 0 [(Value.ref l0), (Value.int l1), (Value.int l2), Value.retAddr 0] [] h Q := by
    intro Q hE
    rw [s_rowWord] at hm
    refine pw_l (pc := 0) d116_0 rfl rfl rfl ?_
    refine pw_l (pc := 1) d116_1 rfl rfl rfl ?_
    obtain ⟨q1, e_q1, hm⟩ := ob_x hm
    refine pw_v (pc := 2) (k := l0) (by omega) d116_2 (k116_56 b) (by decide) m113 (by decide) rfl (sho s_h f_l0) (Nat.le_of_ble_eq_true rfl) (Nat.le_of_ble_eq_true rfl) rfl rfl (T_s_hasOrder b L xs (d - 1) (by omega) h s_h l0 l1 f_l0 e_q1) (fun v0 h0 hq => ?_)
    obtain ⟨rfl, hh0, s_q1⟩ := hq
    rw [hh0] at s_q1 ⊢
    simp only [Option.toList_some, List.cons_append, List.nil_append]
    refine pw_zeq (pc := 5) (t := 31) d116_5 (by decide) (fun c2 => ?_) (fun c2 => ?_)
    · rw [if_pos c2] at hm
      refine pw_s (pc := 31) d116_31 rfl rfl ?_
      exact t_s_rowWord_32 b L xs d hd h s_h l0 l1 l2 (Int32.ofInt 0) (Value.retAddr 0) f_l0  hm hE
    · rw [if_neg c2] at hm
      refine pw_l (pc := 8) d116_8 rfl rfl rfl ?_
      refine pw_zlt (pc := 9) (t := 31) d116_9 (by decide) (fun c3 => ?_) (fun c3 => ?_)
      · rw [if_pos c3] at hm
        refine pw_s (pc := 31) d116_31 rfl rfl ?_
        exact t_s_rowWord_32 b L xs d hd h s_h l0 l1 l2 (Int32.ofInt 0) (Value.retAddr 0) f_l0  hm hE
      · rw [if_neg c3] at hm
        refine pw_l (pc := 12) d116_12 rfl rfl rfl ?_
        refine pw_s (pc := 13) d116_13 rfl rfl ?_
        refine pw_ige (pc := 14) (t := 31) d116_14 (by decide) (fun c4 => ?_) (fun c4 => ?_)
        · rw [if_pos c4] at hm
          refine pw_s (pc := 31) d116_31 rfl rfl ?_
          exact t_s_rowWord_32 b L xs d hd h s_h l0 l1 l2 (Int32.ofInt 0) (Value.retAddr 0) f_l0  hm hE
        · rw [if_neg c4] at hm
          refine pw_l (pc := 17) d116_17 rfl rfl rfl ?_
          refine pw_l (pc := 18) d116_18 rfl rfl rfl ?_
          obtain ⟨y5, e_y5, hm⟩ := ob_x hm
          have f_y5 := gA_x e_y5
          refine pw_gr (pc := 19) d116_19 (k116_34 b) (sho s_h f_l0) f7_7 f_y5.1 ?_
          refine pw_l (pc := 22) d116_22 rfl rfl rfl ?_
          obtain ⟨g6, hm⟩ := gd_x hm
          refine pw_ai (pc := 23) d116_23 (sha s_h f_y5.2) (mi_in_x g6) ?_
          refine pw_ige (pc := 24) (t := 31) d116_24 (by decide) (fun c7 => ?_) (fun c7 => ?_)
          · rw [if_pos c7] at hm
            refine pw_s (pc := 31) d116_31 rfl rfl ?_
            exact t_s_rowWord_32 b L xs d hd h s_h l0 l1 l2 (Int32.ofInt 0) (Value.retAddr 0) f_l0  hm hE
          · rw [if_neg c7] at hm
            refine pw_s (pc := 27) d116_27 rfl rfl ?_
            refine pw_go (pc := 28) (t := 32) d116_28 (by decide) ?_
            exact t_s_rowWord_32 b L xs d hd h s_h l0 l1 l2 (Int32.ofInt 1) (Value.retAddr 0) f_l0  hm hE
  exact key _ ⟨rfl, rfl, s_h⟩
noncomputable def s_pair_25 (l0 : Nat) (l1 : Int32) (l2 : Int32) (z0 : Int32) (h : pm_H) : Option Int32 := if z0 = 0 then (some ((Int8.ofInt (-2)).toInt32)) else ((gA h l0 12 .int).bind fun y2 => if mi_in ((l1 * (Int8.ofInt 10).toInt32) + l2) (mi_n y2) = true then some (h.2.1 y2 ((l1 * (Int8.ofInt 10).toInt32) + l2).toNatClampNeg) else none)
theorem t_s_pair_25 (b : Bool) (L : Nat) (xs : Nat → Int32) (d : Nat) (hd : 0 ≤ d) {Q : Option Value → pm_H → Prop} (h : pm_H) (s_h : h.1 = tb_SH) (l0 : Nat) (l1 : Int32) (l2 : Int32) (z0 : Int32) (w3 : Value) (f_l0 : mi_o l0 7 = true) {r : Int32} (hm : s_pair_25 l0 l1 l2 z0 h = some r) (hE : Q (some (Value.int r)) h) : PW b L xs d 117 0 0 25 [(Value.ref l0), (Value.int l1), (Value.int l2), w3] [(Value.int z0)] h Q := by
  rw [s_pair_25] at hm
  refine pw_t (pc := 25) d117_25 rfl rfl rfl rfl ?_
  refine pw_l (pc := 26) d117_26 rfl rfl rfl ?_
  refine pw_zeq (pc := 27) (t := 44) d117_27 (by decide) (fun c1 => ?_) (fun c1 => ?_)
  · rw [if_pos c1] at hm
    refine pw_s (pc := 44) d117_44 rfl rfl ?_
    obtain rfl := Option.some.inj hm
    refine pw_ri (pc := 46) d117_46 t117 rfl ?_
    exact hE
  · rw [if_neg c1] at hm
    refine pw_l (pc := 30) d117_30 rfl rfl rfl ?_
    obtain ⟨y2, e_y2, hm⟩ := ob_x hm
    have f_y2 := gA_x e_y2
    refine pw_gr (pc := 31) d117_31 (k117_49 b) (sho s_h f_l0) f7_12 f_y2.1 ?_
    refine pw_l (pc := 34) d117_34 rfl rfl rfl ?_
    refine pw_s (pc := 35) d117_35 rfl rfl ?_
    refine pw_s (pc := 37) d117_37 rfl rfl ?_
    refine pw_l (pc := 38) d117_38 rfl rfl rfl ?_
    refine pw_s (pc := 39) d117_39 rfl rfl ?_
    obtain ⟨g3, hm⟩ := gd_x hm
    refine pw_ai (pc := 40) d117_40 (sha s_h f_y2.2) (mi_in_x g3) ?_
    refine pw_go (pc := 41) (t := 46) d117_41 (by decide) ?_
    obtain rfl := Option.some.inj hm
    refine pw_ri (pc := 46) d117_46 t117 rfl ?_
    exact hE
noncomputable def s_pair (l0 : Nat) (l1 : Int32) (l2 : Int32) (h : pm_H) : Option Int32 := if l1 < 0 then (s_pair_25 l0 l1 l2 (Int32.ofInt 0) h) else (if (Int8.ofInt 10).toInt32 ≤ l1 then (s_pair_25 l0 l1 l2 (Int32.ofInt 0) h) else (if l2 < 0 then (s_pair_25 l0 l1 l2 (Int32.ofInt 0) h) else (if (Int8.ofInt 10).toInt32 ≤ l2 then (s_pair_25 l0 l1 l2 (Int32.ofInt 0) h) else (s_pair_25 l0 l1 l2 (Int32.ofInt 1) h))))
theorem T_s_pair (b : Bool) (L : Nat) (xs : Nat → Int32) (d : Nat) (hd : 0 ≤ d) (h : pm_H) (s_h : h.1 = tb_SH) (l0 : Nat) (l1 : Int32) (l2 : Int32) (f_l0 : mi_o l0 7 = true) {r : Int32} (hm : s_pair l0 l1 l2 h = some r) : PC b L xs d 117 [(Value.ref l0), (Value.int l1), (Value.int l2)] h (fun (v0 : Option Value) (h2 : pm_H) => v0 = (some (Value.int r)) ∧ h2 = h ∧ h2.1 = tb_SH) := by
  refine pc_in e117 (ls0 := [(Value.ref l0), (Value.int l1), (Value.int l2), Value.retAddr 0]) rfl ?_
  have key : ∀ (Q : Option Value → pm_H → Prop), (Q (some (Value.int r)) h) → PW b L xs d 117 0 0 0 [(Value.ref l0), (Value.int l1), (Value.int l2), Value.retAddr 0] [] h Q := by
    intro Q hE
    rw [s_pair] at hm
    refine pw_l (pc := 0) d117_0 rfl rfl rfl ?_
    refine pw_zlt (pc := 1) (t := 24) d117_1 (by decide) (fun c1 => ?_) (fun c1 => ?_)
    · rw [if_pos c1] at hm
      refine pw_s (pc := 24) d117_24 rfl rfl ?_
      exact t_s_pair_25 b L xs d hd h s_h l0 l1 l2 (Int32.ofInt 0) (Value.retAddr 0) f_l0  hm hE
    · rw [if_neg c1] at hm
      refine pw_l (pc := 4) d117_4 rfl rfl rfl ?_
      refine pw_s (pc := 5) d117_5 rfl rfl ?_
      refine pw_ige (pc := 7) (t := 24) d117_7 (by decide) (fun c2 => ?_) (fun c2 => ?_)
      · rw [if_pos c2] at hm
        refine pw_s (pc := 24) d117_24 rfl rfl ?_
        exact t_s_pair_25 b L xs d hd h s_h l0 l1 l2 (Int32.ofInt 0) (Value.retAddr 0) f_l0  hm hE
      · rw [if_neg c2] at hm
        refine pw_l (pc := 10) d117_10 rfl rfl rfl ?_
        refine pw_zlt (pc := 11) (t := 24) d117_11 (by decide) (fun c3 => ?_) (fun c3 => ?_)
        · rw [if_pos c3] at hm
          refine pw_s (pc := 24) d117_24 rfl rfl ?_
          exact t_s_pair_25 b L xs d hd h s_h l0 l1 l2 (Int32.ofInt 0) (Value.retAddr 0) f_l0  hm hE
        · rw [if_neg c3] at hm
          refine pw_l (pc := 14) d117_14 rfl rfl rfl ?_
          refine pw_s (pc := 15) d117_15 rfl rfl ?_
          refine pw_ige (pc := 17) (t := 24) d117_17 (by decide) (fun c4 => ?_) (fun c4 => ?_)
          · rw [if_pos c4] at hm
            refine pw_s (pc := 24) d117_24 rfl rfl ?_
            exact t_s_pair_25 b L xs d hd h s_h l0 l1 l2 (Int32.ofInt 0) (Value.retAddr 0) f_l0  hm hE
          · rw [if_neg c4] at hm
            refine pw_s (pc := 20) d117_20 rfl rfl ?_
            refine pw_go (pc := 21) (t := 25) d117_21 (by decide) ?_
            exact t_s_pair_25 b L xs d hd h s_h l0 l1 l2 (Int32.ofInt 1) (Value.retAddr 0) f_l0  hm hE
  exact key _ ⟨rfl, rfl, s_h⟩
def E_s_firstPair_2 (b : Bool) (L : Nat) (xs : Nat → Int32) (d : Nat) (Q : Option Value → pm_H → Prop) (h : pm_H) (l0 : Nat) (l1 : Nat) (l2 : Int32) : (Int32 ⊕ Int32 ⊕ Unit) → Prop
  | .inl s => PW b L xs d 119 0 0 2 [(Value.ref l0), (Value.ref l1), (Value.int l2), (Value.int s)] [] h Q
  | .inr (.inl e) => ∀ w0 w1 w2 : Value, PW b L xs d 119 0 0 32 [w0, w1, w2, (Value.int e)] [] h Q
  | .inr (.inr e) => ∀ w0 w1 w2 w3 : Value, PW b L xs d 119 0 0 40 [w0, w1, w2, w3] [] h Q
noncomputable def s_firstPair_2 (l0 : Nat) (l1 : Nat) (l2 : Int32) (l3 : Int32) (h : pm_H) : Option (Int32 ⊕ Int32 ⊕ Unit) := if l2 ≤ (l3 + (Int32.ofInt 1)) then (some (.inr (.inr ()))) else (if (Int32.ofNat (mi_n l1)) ≤ (l3 + (Int32.ofInt 1)) then (some (.inr (.inr ()))) else (if mi_in l3 (mi_n l1) = true then if mi_in (l3 + (Int32.ofInt 1)) (mi_n l1) = true then (s_pair l0 (h.2.1 l1 l3.toNatClampNeg) (h.2.1 l1 (l3 + (Int32.ofInt 1)).toNatClampNeg) h).bind fun q5 => if q5 < 0 then (some (.inl (l3 + Int32.ofInt 1))) else (some (.inr (.inl l3))) else none else none))
theorem t_s_firstPair_2 (b : Bool) (L : Nat) (xs : Nat → Int32) (d : Nat) (hd : 1 ≤ d) {Q : Option Value → pm_H → Prop} (h : pm_H) (s_h : h.1 = tb_SH) (l0 : Nat) (l1 : Nat) (l2 : Int32) (l3 : Int32) (f_l0 : mi_o l0 7 = true) (f_l1 : mi_a l1 .int = true) {r : (Int32 ⊕ Int32 ⊕ Unit)} (hm : s_firstPair_2 l0 l1 l2 l3 h = some r) (hE : E_s_firstPair_2 b L xs d Q h l0 l1 l2 r) : PW b L xs d 119 0 0 2 [(Value.ref l0), (Value.ref l1), (Value.int l2), (Value.int l3)] [] h Q := by
  rw [s_firstPair_2] at hm
  refine pw_l (pc := 2) d119_2 rfl rfl rfl ?_
  refine pw_s (pc := 3) d119_3 rfl rfl ?_
  refine pw_s (pc := 4) d119_4 rfl rfl ?_
  refine pw_l (pc := 5) d119_5 rfl rfl rfl ?_
  refine pw_ige (pc := 6) (t := 40) d119_6 (by decide) (fun c1 => ?_) (fun c1 => ?_)
  · rw [if_pos c1] at hm
    obtain rfl := Option.some.inj hm
    exact hE   (Value.ref l0) (Value.ref l1) (Value.int l2) (Value.int l3)
  · rw [if_neg c1] at hm
    refine pw_l (pc := 9) d119_9 rfl rfl rfl ?_
    refine pw_s (pc := 10) d119_10 rfl rfl ?_
    refine pw_s (pc := 11) d119_11 rfl rfl ?_
    refine pw_l (pc := 12) d119_12 rfl rfl rfl ?_
    refine pw_an (pc := 13) d119_13 (sha s_h f_l1) ?_
    refine pw_ige (pc := 14) (t := 40) d119_14 (by decide) (fun c2 => ?_) (fun c2 => ?_)
    · rw [if_pos c2] at hm
      obtain rfl := Option.some.inj hm
      exact hE   (Value.ref l0) (Value.ref l1) (Value.int l2) (Value.int l3)
    · rw [if_neg c2] at hm
      refine pw_l (pc := 17) d119_17 rfl rfl rfl ?_
      refine pw_l (pc := 18) d119_18 rfl rfl rfl ?_
      refine pw_l (pc := 19) d119_19 rfl rfl rfl ?_
      obtain ⟨g3, hm⟩ := gd_x hm
      refine pw_ai (pc := 20) d119_20 (sha s_h f_l1) (mi_in_x g3) ?_
      refine pw_l (pc := 21) d119_21 rfl rfl rfl ?_
      refine pw_l (pc := 22) d119_22 rfl rfl rfl ?_
      refine pw_s (pc := 23) d119_23 rfl rfl ?_
      refine pw_s (pc := 24) d119_24 rfl rfl ?_
      obtain ⟨g4, hm⟩ := gd_x hm
      refine pw_ai (pc := 25) d119_25 (sha s_h f_l1) (mi_in_x g4) ?_
      obtain ⟨q5, e_q5, hm⟩ := ob_x hm
      refine pw_v (pc := 26) (k := l0) (by omega) d119_26 (k119_70 b) (by decide) m117 (by decide) rfl (sho s_h f_l0) (Nat.le_of_ble_eq_true rfl) (Nat.le_of_ble_eq_true rfl) rfl rfl (T_s_pair b L xs (d - 1) (by omega) h s_h l0 (h.2.1 l1 l3.toNatClampNeg) (h.2.1 l1 (l3 + (Int32.ofInt 1)).toNatClampNeg) f_l0 e_q5) (fun v0 h0 hq => ?_)
      obtain ⟨rfl, hh0, s_q5⟩ := hq
      rw [hh0] at s_q5 ⊢
      simp only [Option.toList_some, List.cons_append, List.nil_append]
      refine pw_zlt (pc := 29) (t := 34) d119_29 (by decide) (fun c6 => ?_) (fun c6 => ?_)
      · rw [if_pos c6] at hm
        refine pw_t (pc := 34) d119_34 rfl rfl rfl rfl ?_
        refine pw_go (pc := 37) (t := 2) d119_37 (by decide) ?_
        obtain rfl := Option.some.inj hm
        exact hE   
      · rw [if_neg c6] at hm
        obtain rfl := Option.some.inj hm
        exact hE   (Value.ref l0) (Value.ref l1) (Value.int l2)
noncomputable def s_firstPair (l0 : Nat) (l1 : Nat) (l2 : Int32) (h : pm_H) : Option Int32 := (wh (fun s : Int32 => s_firstPair_2 l0 l1 l2 s h) (Int32.ofInt 0)).bind fun q1 => (match q1 with | (.inl eq1_0) => some eq1_0 | (.inr eq1_1) => some (Int32.ofInt (-1)))
theorem T_s_firstPair (b : Bool) (L : Nat) (xs : Nat → Int32) (d : Nat) (hd : 1 ≤ d) (h : pm_H) (s_h : h.1 = tb_SH) (l0 : Nat) (l1 : Nat) (l2 : Int32) (f_l0 : mi_o l0 7 = true) (f_l1 : mi_a l1 .int = true) {r : Int32} (hm : s_firstPair l0 l1 l2 h = some r) : PC b L xs d 119 [(Value.ref l0), (Value.ref l1), (Value.int l2)] h (fun (v0 : Option Value) (h2 : pm_H) => v0 = (some (Value.int r)) ∧ h2 = h ∧ h2.1 = tb_SH) := by
  refine pc_in e119 (ls0 := [(Value.ref l0), (Value.ref l1), (Value.int l2), Value.retAddr 0]) rfl ?_
  have key : ∀ (Q : Option Value → pm_H → Prop), (Q (some (Value.int r)) h) → PW b L xs d 119 0 0 0 [(Value.ref l0), (Value.ref l1), (Value.int l2), Value.retAddr 0] [] h Q := by
    intro Q hE
    rw [s_firstPair] at hm
    refine pw_s (pc := 0) d119_0 rfl rfl ?_
    refine pw_t (pc := 1) d119_1 rfl rfl rfl rfl ?_
    obtain ⟨q1, e_q1, hm⟩ := ob_x hm
    refine wh_ind e_q1 (fun s : Int32 => PW b L xs d 119 0 0 2 [(Value.ref l0), (Value.ref l1), (Value.int l2), (Value.int s)] [] h Q) (fun s s2 hf ih  => t_s_firstPair_2 b L xs d hd h s_h l0 l1 l2 s  f_l0 f_l1 hf ih) (fun s hf  => t_s_firstPair_2 b L xs d hd h s_h l0 l1 l2 s  f_l0 f_l1 hf ?_)   
    rcases q1 with eq1_0 | eq1_1
    · dsimp only at hm
      intro w0 w1 w2
      refine pw_l (pc := 32) d119_32 rfl rfl rfl ?_
      obtain rfl := Option.some.inj hm
      refine pw_ri (pc := 33) d119_33 t119 rfl ?_
      exact hE
    · dsimp only at hm
      intro w0 w1 w2 w3
      refine pw_s (pc := 40) d119_40 rfl rfl ?_
      obtain rfl := Option.some.inj hm
      refine pw_ri (pc := 41) d119_41 t119 rfl ?_
      exact hE
  exact key _ ⟨rfl, rfl, s_h⟩
def E_s_sameRows_24 (b : Bool) (L : Nat) (xs : Nat → Int32) (d : Nat) (Q : Option Value → pm_H → Prop) (h : pm_H) (l0 : Nat) (l1 : Int32) (l2 : Int32) : ((Int32 × Int32) ⊕ Int32) → Prop
  | .inl s => PW b L xs d 122 0 0 24 [(Value.ref l0), (Value.int l1), (Value.int l2), (Value.int s.1), (Value.int s.2)] [] h Q
  | .inr e => ∀ w0 w1 w2 w4 : Value, PW b L xs d 122 0 0 68 [w0, w1, w2, (Value.int e), w4] [] h Q
noncomputable def s_sameRows_61 (l0 : Nat) (l1 : Int32) (l2 : Int32) (l4 : Int32) (z0 : Int32) (h : pm_H) : Option ((Int32 × Int32) ⊕ Int32) := some (.inl (z0, (l4 + Int32.ofInt 1)))
theorem t_s_sameRows_61 (b : Bool) (L : Nat) (xs : Nat → Int32) (d : Nat) (hd : 2 ≤ d) {Q : Option Value → pm_H → Prop} (h : pm_H) (s_h : h.1 = tb_SH) (l0 : Nat) (l1 : Int32) (l2 : Int32) (l4 : Int32) (z0 : Int32) (w3 : Value) (f_l0 : mi_o l0 7 = true) {r : ((Int32 × Int32) ⊕ Int32)} (hm : s_sameRows_61 l0 l1 l2 l4 z0 h = some r) (hE : E_s_sameRows_24 b L xs d Q h l0 l1 l2 r) : PW b L xs d 122 0 0 61 [(Value.ref l0), (Value.int l1), (Value.int l2), w3, (Value.int l4)] [(Value.int z0)] h Q := by
  rw [s_sameRows_61] at hm
  refine pw_t (pc := 61) d122_61 rfl rfl rfl rfl ?_
  refine pw_t (pc := 62) d122_62 rfl rfl rfl rfl ?_
  refine pw_go (pc := 65) (t := 24) d122_65 (by decide) ?_
  obtain rfl := Option.some.inj hm
  exact hE   
noncomputable def s_sameRows_24 (l0 : Nat) (l1 : Int32) (l2 : Int32) (l3 : Int32) (l4 : Int32) (h : pm_H) : Option ((Int32 × Int32) ⊕ Int32) := if l3 = 0 then (some (.inr l3)) else ((gA h l0 7 .int).bind fun y2 => if mi_in l2 (mi_n y2) = true then if (h.2.1 y2 l2.toNatClampNeg) ≤ l4 then (some (.inr l3)) else ((s_rowWord l0 l1 l4 h).bind fun q5 => (s_rowWord l0 l2 l4 h).bind fun q6 => if ¬ q5 = q6 then (s_sameRows_61 l0 l1 l2 l4 (Int32.ofInt 0) h) else (s_sameRows_61 l0 l1 l2 l4 (Int32.ofInt 1) h)) else none)
theorem t_s_sameRows_24 (b : Bool) (L : Nat) (xs : Nat → Int32) (d : Nat) (hd : 2 ≤ d) {Q : Option Value → pm_H → Prop} (h : pm_H) (s_h : h.1 = tb_SH) (l0 : Nat) (l1 : Int32) (l2 : Int32) (l3 : Int32) (l4 : Int32) (f_l0 : mi_o l0 7 = true) {r : ((Int32 × Int32) ⊕ Int32)} (hm : s_sameRows_24 l0 l1 l2 l3 l4 h = some r) (hE : E_s_sameRows_24 b L xs d Q h l0 l1 l2 r) : PW b L xs d 122 0 0 24 [(Value.ref l0), (Value.int l1), (Value.int l2), (Value.int l3), (Value.int l4)] [] h Q := by
  rw [s_sameRows_24] at hm
  refine pw_l (pc := 24) d122_24 rfl rfl rfl ?_
  refine pw_zeq (pc := 25) (t := 68) d122_25 (by decide) (fun c1 => ?_) (fun c1 => ?_)
  · rw [if_pos c1] at hm
    obtain rfl := Option.some.inj hm
    exact hE   (Value.ref l0) (Value.int l1) (Value.int l2) (Value.int l4)
  · rw [if_neg c1] at hm
    refine pw_l (pc := 28) d122_28 rfl rfl rfl ?_
    refine pw_l (pc := 30) d122_30 rfl rfl rfl ?_
    obtain ⟨y2, e_y2, hm⟩ := ob_x hm
    have f_y2 := gA_x e_y2
    refine pw_gr (pc := 31) d122_31 (k122_34 b) (sho s_h f_l0) f7_7 f_y2.1 ?_
    refine pw_l (pc := 34) d122_34 rfl rfl rfl ?_
    obtain ⟨g3, hm⟩ := gd_x hm
    refine pw_ai (pc := 35) d122_35 (sha s_h f_y2.2) (mi_in_x g3) ?_
    refine pw_ige (pc := 36) (t := 68) d122_36 (by decide) (fun c4 => ?_) (fun c4 => ?_)
    · rw [if_pos c4] at hm
      obtain rfl := Option.some.inj hm
      exact hE   (Value.ref l0) (Value.int l1) (Value.int l2) (Value.int l4)
    · rw [if_neg c4] at hm
      refine pw_l (pc := 39) d122_39 rfl rfl rfl ?_
      refine pw_l (pc := 40) d122_40 rfl rfl rfl ?_
      refine pw_l (pc := 41) d122_41 rfl rfl rfl ?_
      obtain ⟨q5, e_q5, hm⟩ := ob_x hm
      refine pw_v (pc := 43) (k := l0) (by omega) d122_43 (k122_77 b) (by decide) m116 (by decide) rfl (sho s_h f_l0) (Nat.le_of_ble_eq_true rfl) (Nat.le_of_ble_eq_true rfl) rfl rfl (T_s_rowWord b L xs (d - 1) (by omega) h s_h l0 l1 l4 f_l0 e_q5) (fun v0 h0 hq => ?_)
      obtain ⟨rfl, hh0, s_q5⟩ := hq
      rw [hh0] at s_q5 ⊢
      simp only [Option.toList_some, List.cons_append, List.nil_append]
      refine pw_l (pc := 46) d122_46 rfl rfl rfl ?_
      refine pw_l (pc := 47) d122_47 rfl rfl rfl ?_
      refine pw_l (pc := 48) d122_48 rfl rfl rfl ?_
      obtain ⟨q6, e_q6, hm⟩ := ob_x hm
      refine pw_v (pc := 50) (k := l0) (by omega) d122_50 (k122_77 b) (by decide) m116 (by decide) rfl (sho s_h f_l0) (Nat.le_of_ble_eq_true rfl) (Nat.le_of_ble_eq_true rfl) rfl rfl (T_s_rowWord b L xs (d - 1) (by omega) h s_h l0 l2 l4 f_l0 e_q6) (fun v0 h0 hq => ?_)
      obtain ⟨rfl, hh0, s_q6⟩ := hq
      rw [hh0] at s_q6 ⊢
      simp only [Option.toList_some, List.cons_append, List.nil_append]
      refine pw_ine (pc := 53) (t := 60) d122_53 (by decide) (fun c7 => ?_) (fun c7 => ?_)
      · rw [if_pos c7] at hm
        refine pw_s (pc := 60) d122_60 rfl rfl ?_
        exact t_s_sameRows_61 b L xs d hd h s_h l0 l1 l2 l4 (Int32.ofInt 0) (Value.int l3) f_l0  hm hE
      · rw [if_neg c7] at hm
        refine pw_s (pc := 56) d122_56 rfl rfl ?_
        refine pw_go (pc := 57) (t := 61) d122_57 (by decide) ?_
        exact t_s_sameRows_61 b L xs d hd h s_h l0 l1 l2 l4 (Int32.ofInt 1) (Value.int l3) f_l0  hm hE
noncomputable def s_sameRows_20 (l0 : Nat) (l1 : Int32) (l2 : Int32) (z0 : Int32) (h : pm_H) : Option Int32 := (wh (fun s : (Int32 × Int32) => s_sameRows_24 l0 l1 l2 s.1 s.2 h) (z0, (Int32.ofInt 0))).bind fun q1 => if mi_bo q1 = true then some q1 else none
theorem t_s_sameRows_20 (b : Bool) (L : Nat) (xs : Nat → Int32) (d : Nat) (hd : 2 ≤ d) {Q : Option Value → pm_H → Prop} (h : pm_H) (s_h : h.1 = tb_SH) (l0 : Nat) (l1 : Int32) (l2 : Int32) (z0 : Int32) (w3 : Value) (w4 : Value) (f_l0 : mi_o l0 7 = true) {r : Int32} (hm : s_sameRows_20 l0 l1 l2 z0 h = some r) (hE : Q (some (Value.int r)) h) : PW b L xs d 122 0 0 20 [(Value.ref l0), (Value.int l1), (Value.int l2), w3, w4] [(Value.int z0)] h Q := by
  rw [s_sameRows_20] at hm
  refine pw_t (pc := 20) d122_20 rfl rfl rfl rfl ?_
  refine pw_s (pc := 21) d122_21 rfl rfl ?_
  refine pw_t (pc := 22) d122_22 rfl rfl rfl rfl ?_
  obtain ⟨q1, e_q1, hm⟩ := ob_x hm
  refine wh_ind e_q1 (fun s : (Int32 × Int32) => PW b L xs d 122 0 0 24 [(Value.ref l0), (Value.int l1), (Value.int l2), (Value.int s.1), (Value.int s.2)] [] h Q) (fun s s2 hf ih  => t_s_sameRows_24 b L xs d hd h s_h l0 l1 l2 s.1 s.2  f_l0 hf ih) (fun s hf  => t_s_sameRows_24 b L xs d hd h s_h l0 l1 l2 s.1 s.2  f_l0 hf ?_)   
  intro w0 w1 w2 w4
  refine pw_l (pc := 68) d122_68 rfl rfl rfl ?_
  obtain ⟨g2, hm⟩ := gd_x hm
  obtain rfl := Option.some.inj hm
  refine pw_ri (pc := 69) d122_69 t122 (pm_nz (mi_bo_x g2)) ?_
  exact hE
noncomputable def s_sameRows (l0 : Nat) (l1 : Int32) (l2 : Int32) (h : pm_H) : Option Int32 := (gA h l0 7 .int).bind fun y1 => if mi_in l1 (mi_n y1) = true then (gA h l0 7 .int).bind fun y3 => if mi_in l2 (mi_n y3) = true then if ¬ (h.2.1 y1 l1.toNatClampNeg) = (h.2.1 y3 l2.toNatClampNeg) then (s_sameRows_20 l0 l1 l2 (Int32.ofInt 0) h) else (s_sameRows_20 l0 l1 l2 (Int32.ofInt 1) h) else none else none
theorem T_s_sameRows (b : Bool) (L : Nat) (xs : Nat → Int32) (d : Nat) (hd : 2 ≤ d) (h : pm_H) (s_h : h.1 = tb_SH) (l0 : Nat) (l1 : Int32) (l2 : Int32) (f_l0 : mi_o l0 7 = true) {r : Int32} (hm : s_sameRows l0 l1 l2 h = some r) : PC b L xs d 122 [(Value.ref l0), (Value.int l1), (Value.int l2)] h (fun (v0 : Option Value) (h2 : pm_H) => v0 = (some (Value.int r)) ∧ h2 = h ∧ h2.1 = tb_SH) := by
  refine pc_in e122 (ls0 := [(Value.ref l0), (Value.int l1), (Value.int l2), Value.retAddr 0, Value.retAddr 0]) rfl ?_
  have key : ∀ (Q : Option Value → pm_H → Prop), (Q (some (Value.int r)) h) → PW b L xs d 122 0 0 0 [(Value.ref l0), (Value.int l1), (Value.int l2), Value.retAddr 0, Value.retAddr 0] [] h Q := by
    intro Q hE
    rw [s_sameRows] at hm
    refine pw_l (pc := 0) d122_0 rfl rfl rfl ?_
    obtain ⟨y1, e_y1, hm⟩ := ob_x hm
    have f_y1 := gA_x e_y1
    refine pw_gr (pc := 1) d122_1 (k122_34 b) (sho s_h f_l0) f7_7 f_y1.1 ?_
    refine pw_l (pc := 4) d122_4 rfl rfl rfl ?_
    obtain ⟨g2, hm⟩ := gd_x hm
    refine pw_ai (pc := 5) d122_5 (sha s_h f_y1.2) (mi_in_x g2) ?_
    refine pw_l (pc := 6) d122_6 rfl rfl rfl ?_
    obtain ⟨y3, e_y3, hm⟩ := ob_x hm
    have f_y3 := gA_x e_y3
    refine pw_gr (pc := 7) d122_7 (k122_34 b) (sho s_h f_l0) f7_7 f_y3.1 ?_
    refine pw_l (pc := 10) d122_10 rfl rfl rfl ?_
    obtain ⟨g4, hm⟩ := gd_x hm
    refine pw_ai (pc := 11) d122_11 (sha s_h f_y3.2) (mi_in_x g4) ?_
    refine pw_ine (pc := 12) (t := 19) d122_12 (by decide) (fun c5 => ?_) (fun c5 => ?_)
    · rw [if_pos c5] at hm
      refine pw_s (pc := 19) d122_19 rfl rfl ?_
      exact t_s_sameRows_20 b L xs d hd h s_h l0 l1 l2 (Int32.ofInt 0) (Value.retAddr 0) (Value.retAddr 0) f_l0  hm hE
    · rw [if_neg c5] at hm
      refine pw_s (pc := 15) d122_15 rfl rfl ?_
      refine pw_go (pc := 16) (t := 20) d122_16 (by decide) ?_
      exact t_s_sameRows_20 b L xs d hd h s_h l0 l1 l2 (Int32.ofInt 1) (Value.retAddr 0) (Value.retAddr 0) f_l0  hm hE
  exact key _ ⟨rfl, rfl, s_h⟩
noncomputable def s_parts_23 (l0 : Nat) (l1 : Int32) (l2 : Int32) (l3 : Int32) (z0 : Int32) (h : pm_H) : Option Int32 := if z0 = 0 then (some (Int32.ofInt 0)) else ((gA h l0 11 .int).bind fun y2 => if mi_in l3 (mi_n y2) = true then if ¬ (h.2.1 y2 l3.toNatClampNeg) = l2 then (some (Int32.ofInt 0)) else ((gA h l0 9 .int).bind fun y5 => if mi_in l3 (mi_n y5) = true then (s_pair l0 l1 (h.2.1 y5 l3.toNatClampNeg) h).bind fun q7 => if 0 ≤ q7 then (some (Int32.ofInt 0)) else (some (Int32.ofInt 1)) else none) else none)
theorem t_s_parts_23 (b : Bool) (L : Nat) (xs : Nat → Int32) (d : Nat) (hd : 1 ≤ d) {Q : Option Value → pm_H → Prop} (h : pm_H) (s_h : h.1 = tb_SH) (l0 : Nat) (l1 : Int32) (l2 : Int32) (l3 : Int32) (z0 : Int32) (w4 : Value) (f_l0 : mi_o l0 7 = true) {r : Int32} (hm : s_parts_23 l0 l1 l2 l3 z0 h = some r) (hE : Q (some (Value.int r)) h) : PW b L xs d 123 0 0 23 [(Value.ref l0), (Value.int l1), (Value.int l2), (Value.int l3), w4] [(Value.int z0)] h Q := by
  rw [s_parts_23] at hm
  refine pw_t (pc := 23) d123_23 rfl rfl rfl rfl ?_
  refine pw_l (pc := 25) d123_25 rfl rfl rfl ?_
  refine pw_zeq (pc := 27) (t := 58) d123_27 (by decide) (fun c1 => ?_) (fun c1 => ?_)
  · rw [if_pos c1] at hm
    refine pw_s (pc := 58) d123_58 rfl rfl ?_
    obtain rfl := Option.some.inj hm
    refine pw_ri (pc := 59) d123_59 t123 rfl ?_
    exact hE
  · rw [if_neg c1] at hm
    refine pw_l (pc := 30) d123_30 rfl rfl rfl ?_
    obtain ⟨y2, e_y2, hm⟩ := ob_x hm
    have f_y2 := gA_x e_y2
    refine pw_gr (pc := 31) d123_31 (k123_46 b) (sho s_h f_l0) f7_11 f_y2.1 ?_
    refine pw_l (pc := 34) d123_34 rfl rfl rfl ?_
    obtain ⟨g3, hm⟩ := gd_x hm
    refine pw_ai (pc := 35) d123_35 (sha s_h f_y2.2) (mi_in_x g3) ?_
    refine pw_l (pc := 36) d123_36 rfl rfl rfl ?_
    refine pw_ine (pc := 37) (t := 58) d123_37 (by decide) (fun c4 => ?_) (fun c4 => ?_)
    · rw [if_pos c4] at hm
      refine pw_s (pc := 58) d123_58 rfl rfl ?_
      obtain rfl := Option.some.inj hm
      refine pw_ri (pc := 59) d123_59 t123 rfl ?_
      exact hE
    · rw [if_neg c4] at hm
      refine pw_l (pc := 40) d123_40 rfl rfl rfl ?_
      refine pw_l (pc := 41) d123_41 rfl rfl rfl ?_
      refine pw_l (pc := 42) d123_42 rfl rfl rfl ?_
      obtain ⟨y5, e_y5, hm⟩ := ob_x hm
      have f_y5 := gA_x e_y5
      refine pw_gr (pc := 43) d123_43 (k123_40 b) (sho s_h f_l0) f7_9 f_y5.1 ?_
      refine pw_l (pc := 46) d123_46 rfl rfl rfl ?_
      obtain ⟨g6, hm⟩ := gd_x hm
      refine pw_ai (pc := 47) d123_47 (sha s_h f_y5.2) (mi_in_x g6) ?_
      obtain ⟨q7, e_q7, hm⟩ := ob_x hm
      refine pw_v (pc := 48) (k := l0) (by omega) d123_48 (k123_70 b) (by decide) m117 (by decide) rfl (sho s_h f_l0) (Nat.le_of_ble_eq_true rfl) (Nat.le_of_ble_eq_true rfl) rfl rfl (T_s_pair b L xs (d - 1) (by omega) h s_h l0 l1 (h.2.1 y5 l3.toNatClampNeg) f_l0 e_q7) (fun v0 h0 hq => ?_)
      obtain ⟨rfl, hh0, s_q7⟩ := hq
      rw [hh0] at s_q7 ⊢
      simp only [Option.toList_some, List.cons_append, List.nil_append]
      refine pw_zge (pc := 51) (t := 58) d123_51 (by decide) (fun c8 => ?_) (fun c8 => ?_)
      · rw [if_pos c8] at hm
        refine pw_s (pc := 58) d123_58 rfl rfl ?_
        obtain rfl := Option.some.inj hm
        refine pw_ri (pc := 59) d123_59 t123 rfl ?_
        exact hE
      · rw [if_neg c8] at hm
        refine pw_s (pc := 54) d123_54 rfl rfl ?_
        refine pw_go (pc := 55) (t := 59) d123_55 (by decide) ?_
        obtain rfl := Option.some.inj hm
        refine pw_ri (pc := 59) d123_59 t123 rfl ?_
        exact hE
noncomputable def s_parts (l0 : Nat) (l1 : Int32) (l2 : Int32) (l3 : Int32) (h : pm_H) : Option Int32 := if l3 < 0 then (s_parts_23 l0 l1 l2 l3 (Int32.ofInt 0) h) else (if (h.2.1 l0 3) ≤ l3 then (s_parts_23 l0 l1 l2 l3 (Int32.ofInt 0) h) else (if (Int8.ofInt 10).toInt32 ≤ l3 then (s_parts_23 l0 l1 l2 l3 (Int32.ofInt 0) h) else (s_parts_23 l0 l1 l2 l3 (Int32.ofInt 1) h)))
theorem T_s_parts (b : Bool) (L : Nat) (xs : Nat → Int32) (d : Nat) (hd : 1 ≤ d) (h : pm_H) (s_h : h.1 = tb_SH) (l0 : Nat) (l1 : Int32) (l2 : Int32) (l3 : Int32) (f_l0 : mi_o l0 7 = true) {r : Int32} (hm : s_parts l0 l1 l2 l3 h = some r) : PC b L xs d 123 [(Value.ref l0), (Value.int l1), (Value.int l2), (Value.int l3)] h (fun (v0 : Option Value) (h2 : pm_H) => v0 = (some (Value.int r)) ∧ h2 = h ∧ h2.1 = tb_SH) := by
  refine pc_in e123 (ls0 := [(Value.ref l0), (Value.int l1), (Value.int l2), (Value.int l3), Value.retAddr 0]) rfl ?_
  have key : ∀ (Q : Option Value → pm_H → Prop), (Q (some (Value.int r)) h) → PW b L xs d 123 0 0 0 [(Value.ref l0), (Value.int l1), (Value.int l2), (Value.int l3), Value.retAddr 0] [] h Q := by
    intro Q hE
    rw [s_parts] at hm
    refine pw_l (pc := 0) d123_0 rfl rfl rfl ?_
    refine pw_zlt (pc := 1) (t := 22) d123_1 (by decide) (fun c1 => ?_) (fun c1 => ?_)
    · rw [if_pos c1] at hm
      refine pw_s (pc := 22) d123_22 rfl rfl ?_
      exact t_s_parts_23 b L xs d hd h s_h l0 l1 l2 l3 (Int32.ofInt 0) (Value.retAddr 0) f_l0  hm hE
    · rw [if_neg c1] at hm
      refine pw_l (pc := 4) d123_4 rfl rfl rfl ?_
      refine pw_l (pc := 5) d123_5 rfl rfl rfl ?_
      refine pw_gi (pc := 6) d123_6 (k123_21 b) (sho s_h f_l0) f7_3 ?_
      refine pw_ige (pc := 9) (t := 22) d123_9 (by decide) (fun c2 => ?_) (fun c2 => ?_)
      · rw [if_pos c2] at hm
        refine pw_s (pc := 22) d123_22 rfl rfl ?_
        exact t_s_parts_23 b L xs d hd h s_h l0 l1 l2 l3 (Int32.ofInt 0) (Value.retAddr 0) f_l0  hm hE
      · rw [if_neg c2] at hm
        refine pw_l (pc := 12) d123_12 rfl rfl rfl ?_
        refine pw_s (pc := 13) d123_13 rfl rfl ?_
        refine pw_ige (pc := 15) (t := 22) d123_15 (by decide) (fun c3 => ?_) (fun c3 => ?_)
        · rw [if_pos c3] at hm
          refine pw_s (pc := 22) d123_22 rfl rfl ?_
          exact t_s_parts_23 b L xs d hd h s_h l0 l1 l2 l3 (Int32.ofInt 0) (Value.retAddr 0) f_l0  hm hE
        · rw [if_neg c3] at hm
          refine pw_s (pc := 18) d123_18 rfl rfl ?_
          refine pw_go (pc := 19) (t := 23) d123_19 (by decide) ?_
          exact t_s_parts_23 b L xs d hd h s_h l0 l1 l2 l3 (Int32.ofInt 1) (Value.retAddr 0) f_l0  hm hE
  exact key _ ⟨rfl, rfl, s_h⟩
def E_s_isRow_29 (b : Bool) (L : Nat) (xs : Nat → Int32) (d : Nat) (Q : Option Value → pm_H → Prop) (h : pm_H) (l0 : Nat) (l1 : Int32) (l2 : Nat) (l3 : Int32) : (Int32 ⊕ Unit ⊕ Unit) → Prop
  | .inl s => PW b L xs d 124 0 0 29 [(Value.ref l0), (Value.int l1), (Value.ref l2), (Value.int l3), (Value.int s)] [] h Q
  | .inr (.inl e) => ∀ w0 w1 w2 w3 w4 : Value, PW b L xs d 124 0 0 49 [w0, w1, w2, w3, w4] [] h Q
  | .inr (.inr e) => ∀ w0 w1 w2 w3 w4 : Value, PW b L xs d 124 0 0 57 [w0, w1, w2, w3, w4] [] h Q
noncomputable def s_isRow_29 (l0 : Nat) (l1 : Int32) (l2 : Nat) (l3 : Int32) (l4 : Int32) (h : pm_H) : Option (Int32 ⊕ Unit ⊕ Unit) := if l3 ≤ l4 then (some (.inr (.inr ()))) else ((s_rowWord l0 l1 l4 h).bind fun q2 => if mi_in l4 (mi_n l2) = true then if q2 = (h.2.1 l2 l4.toNatClampNeg) then (some (.inl (l4 + Int32.ofInt 1))) else (some (.inr (.inl ()))) else none)
theorem t_s_isRow_29 (b : Bool) (L : Nat) (xs : Nat → Int32) (d : Nat) (hd : 2 ≤ d) {Q : Option Value → pm_H → Prop} (h : pm_H) (s_h : h.1 = tb_SH) (l0 : Nat) (l1 : Int32) (l2 : Nat) (l3 : Int32) (l4 : Int32) (f_l0 : mi_o l0 7 = true) (f_l2 : mi_a l2 .int = true) {r : (Int32 ⊕ Unit ⊕ Unit)} (hm : s_isRow_29 l0 l1 l2 l3 l4 h = some r) (hE : E_s_isRow_29 b L xs d Q h l0 l1 l2 l3 r) : PW b L xs d 124 0 0 29 [(Value.ref l0), (Value.int l1), (Value.ref l2), (Value.int l3), (Value.int l4)] [] h Q := by
  rw [s_isRow_29] at hm
  refine pw_l (pc := 29) d124_29 rfl rfl rfl ?_
  refine pw_l (pc := 31) d124_31 rfl rfl rfl ?_
  refine pw_ige (pc := 32) (t := 57) d124_32 (by decide) (fun c1 => ?_) (fun c1 => ?_)
  · rw [if_pos c1] at hm
    obtain rfl := Option.some.inj hm
    exact hE   (Value.ref l0) (Value.int l1) (Value.ref l2) (Value.int l3) (Value.int l4)
  · rw [if_neg c1] at hm
    refine pw_l (pc := 35) d124_35 rfl rfl rfl ?_
    refine pw_l (pc := 36) d124_36 rfl rfl rfl ?_
    refine pw_l (pc := 37) d124_37 rfl rfl rfl ?_
    obtain ⟨q2, e_q2, hm⟩ := ob_x hm
    refine pw_v (pc := 39) (k := l0) (by omega) d124_39 (k124_77 b) (by decide) m116 (by decide) rfl (sho s_h f_l0) (Nat.le_of_ble_eq_true rfl) (Nat.le_of_ble_eq_true rfl) rfl rfl (T_s_rowWord b L xs (d - 1) (by omega) h s_h l0 l1 l4 f_l0 e_q2) (fun v0 h0 hq => ?_)
    obtain ⟨rfl, hh0, s_q2⟩ := hq
    rw [hh0] at s_q2 ⊢
    simp only [Option.toList_some, List.cons_append, List.nil_append]
    refine pw_l (pc := 42) d124_42 rfl rfl rfl ?_
    refine pw_l (pc := 43) d124_43 rfl rfl rfl ?_
    obtain ⟨g3, hm⟩ := gd_x hm
    refine pw_ai (pc := 45) d124_45 (sha s_h f_l2) (mi_in_x g3) ?_
    refine pw_ieq (pc := 46) (t := 51) d124_46 (by decide) (fun c4 => ?_) (fun c4 => ?_)
    · rw [if_pos c4] at hm
      refine pw_t (pc := 51) d124_51 rfl rfl rfl rfl ?_
      refine pw_go (pc := 54) (t := 29) d124_54 (by decide) ?_
      obtain rfl := Option.some.inj hm
      exact hE   
    · rw [if_neg c4] at hm
      obtain rfl := Option.some.inj hm
      exact hE   (Value.ref l0) (Value.int l1) (Value.ref l2) (Value.int l3) (Value.int l4)
noncomputable def s_isRow (l0 : Nat) (l1 : Int32) (l2 : Nat) (l3 : Int32) (h : pm_H) : Option Int32 := (s_hasOrder l0 l1 h).bind fun q1 => if q1 = 0 then (some (Int32.ofInt 0)) else ((gA h l0 7 .int).bind fun y3 => if mi_in l1 (mi_n y3) = true then if ¬ (h.2.1 y3 l1.toNatClampNeg) = l3 then (some (Int32.ofInt 0)) else (if l3 ≤ (Int32.ofNat (mi_n l2)) then ((wh (fun s : Int32 => s_isRow_29 l0 l1 l2 l3 s h) (Int32.ofInt 0)).bind fun q7 => (match q7 with | (.inl eq7_0) => some (Int32.ofInt 0) | (.inr eq7_1) => some (Int32.ofInt 1))) else (some (Int32.ofInt 0))) else none)
theorem T_s_isRow (b : Bool) (L : Nat) (xs : Nat → Int32) (d : Nat) (hd : 2 ≤ d) (h : pm_H) (s_h : h.1 = tb_SH) (l0 : Nat) (l1 : Int32) (l2 : Nat) (l3 : Int32) (f_l0 : mi_o l0 7 = true) (f_l2 : mi_a l2 .int = true) {r : Int32} (hm : s_isRow l0 l1 l2 l3 h = some r) : PC b L xs d 124 [(Value.ref l0), (Value.int l1), (Value.ref l2), (Value.int l3)] h (fun (v0 : Option Value) (h2 : pm_H) => v0 = (some (Value.int r)) ∧ h2 = h ∧ h2.1 = tb_SH) := by
  refine pc_in e124 (ls0 := [(Value.ref l0), (Value.int l1), (Value.ref l2), (Value.int l3), Value.retAddr 0]) rfl ?_
  have key : ∀ (Q : Option Value → pm_H → Prop), (Q (some (Value.int r)) h) → PW b L xs d 124 0 0 0 [(Value.ref l0), (Value.int l1), (Value.ref l2), (Value.int l3), Value.retAddr 0] [] h Q := by
    intro Q hE
    rw [s_isRow] at hm
    refine pw_l (pc := 0) d124_0 rfl rfl rfl ?_
    refine pw_l (pc := 1) d124_1 rfl rfl rfl ?_
    obtain ⟨q1, e_q1, hm⟩ := ob_x hm
    refine pw_v (pc := 2) (k := l0) (by omega) d124_2 (k124_56 b) (by decide) m113 (by decide) rfl (sho s_h f_l0) (Nat.le_of_ble_eq_true rfl) (Nat.le_of_ble_eq_true rfl) rfl rfl (T_s_hasOrder b L xs (d - 1) (by omega) h s_h l0 l1 f_l0 e_q1) (fun v0 h0 hq => ?_)
    obtain ⟨rfl, hh0, s_q1⟩ := hq
    rw [hh0] at s_q1 ⊢
    simp only [Option.toList_some, List.cons_append, List.nil_append]
    refine pw_zeq (pc := 5) (t := 24) d124_5 (by decide) (fun c2 => ?_) (fun c2 => ?_)
    · rw [if_pos c2] at hm
      refine pw_s (pc := 24) d124_24 rfl rfl ?_
      obtain rfl := Option.some.inj hm
      refine pw_ri (pc := 25) d124_25 t124 rfl ?_
      exact hE
    · rw [if_neg c2] at hm
      refine pw_l (pc := 8) d124_8 rfl rfl rfl ?_
      obtain ⟨y3, e_y3, hm⟩ := ob_x hm
      have f_y3 := gA_x e_y3
      refine pw_gr (pc := 9) d124_9 (k124_34 b) (sho s_h f_l0) f7_7 f_y3.1 ?_
      refine pw_l (pc := 12) d124_12 rfl rfl rfl ?_
      obtain ⟨g4, hm⟩ := gd_x hm
      refine pw_ai (pc := 13) d124_13 (sha s_h f_y3.2) (mi_in_x g4) ?_
      refine pw_l (pc := 14) d124_14 rfl rfl rfl ?_
      refine pw_ine (pc := 15) (t := 24) d124_15 (by decide) (fun c5 => ?_) (fun c5 => ?_)
      · rw [if_pos c5] at hm
        refine pw_s (pc := 24) d124_24 rfl rfl ?_
        obtain rfl := Option.some.inj hm
        refine pw_ri (pc := 25) d124_25 t124 rfl ?_
        exact hE
      · rw [if_neg c5] at hm
        refine pw_l (pc := 18) d124_18 rfl rfl rfl ?_
        refine pw_l (pc := 19) d124_19 rfl rfl rfl ?_
        refine pw_an (pc := 20) d124_20 (sha s_h f_l2) ?_
        refine pw_ile (pc := 21) (t := 26) d124_21 (by decide) (fun c6 => ?_) (fun c6 => ?_)
        · rw [if_pos c6] at hm
          refine pw_s (pc := 26) d124_26 rfl rfl ?_
          refine pw_t (pc := 27) d124_27 rfl rfl rfl rfl ?_
          obtain ⟨q7, e_q7, hm⟩ := ob_x hm
          refine wh_ind e_q7 (fun s : Int32 => PW b L xs d 124 0 0 29 [(Value.ref l0), (Value.int l1), (Value.ref l2), (Value.int l3), (Value.int s)] [] h Q) (fun s s2 hf ih  => t_s_isRow_29 b L xs d hd h s_h l0 l1 l2 l3 s  f_l0 f_l2 hf ih) (fun s hf  => t_s_isRow_29 b L xs d hd h s_h l0 l1 l2 l3 s  f_l0 f_l2 hf ?_)   
          rcases q7 with eq7_0 | eq7_1
          · dsimp only at hm
            intro w0 w1 w2 w3 w4
            refine pw_s (pc := 49) d124_49 rfl rfl ?_
            obtain rfl := Option.some.inj hm
            refine pw_ri (pc := 50) d124_50 t124 rfl ?_
            exact hE
          · dsimp only at hm
            intro w0 w1 w2 w3 w4
            refine pw_s (pc := 57) d124_57 rfl rfl ?_
            obtain rfl := Option.some.inj hm
            refine pw_ri (pc := 58) d124_58 t124 rfl ?_
            exact hE
        · rw [if_neg c6] at hm
          refine pw_s (pc := 24) d124_24 rfl rfl ?_
          obtain rfl := Option.some.inj hm
          refine pw_ri (pc := 25) d124_25 t124 rfl ?_
          exact hE
  exact key _ ⟨rfl, rfl, s_h⟩
noncomputable def x_bit (l0 : Int32) (l1 : Int32) (h : pm_H) : Option Int32 := some ((l0 >>> (l1 &&& 31)) &&& (Int32.ofInt 1))
theorem T_x_bit (b : Bool) (L : Nat) (xs : Nat → Int32) (d : Nat) (hd : 0 ≤ d) (h : pm_H) (s_h : h.1 = tb_SH) (l0 : Int32) (l1 : Int32) {r : Int32} (hm : x_bit l0 l1 h = some r) : PC b L xs d 34 [(Value.int l0), (Value.int l1)] h (fun (v0 : Option Value) (h2 : pm_H) => v0 = (some (Value.int r)) ∧ h2 = h ∧ h2.1 = tb_SH) := by
  refine pc_in e34 (ls0 := [(Value.int l0), (Value.int l1)]) rfl ?_
  have key : ∀ (Q : Option Value → pm_H → Prop), (Q (some (Value.int r)) h) → PW b L xs d 34 0 0 0 [(Value.int l0), (Value.int l1)] [] h Q := by
    intro Q hE
    rw [x_bit] at hm
    refine pw_l (pc := 0) d34_0 rfl rfl rfl ?_
    refine pw_l (pc := 1) d34_1 rfl rfl rfl ?_
    refine pw_s (pc := 2) d34_2 rfl rfl ?_
    refine pw_s (pc := 3) d34_3 rfl rfl ?_
    refine pw_s (pc := 4) d34_4 rfl rfl ?_
    obtain rfl := Option.some.inj hm
    refine pw_ri (pc := 5) d34_5 t34 rfl ?_
    exact hE
  exact key _ ⟨rfl, rfl, s_h⟩
def E_n_pass_12 (b : Bool) (L : Nat) (xs : Nat → Int32) (d : Nat) (Q : Option Value → pm_H → Prop) (l0 : Nat) : ((Int32 × pm_H) ⊕ pm_H) → Prop
  | .inl s => s.2.1 = tb_SH → PW b L xs d 78 0 0 12 [(Value.ref l0), (Value.int s.1)] [] s.2 Q
  | .inr e => e.1 = tb_SH → ∀ w0 w1 : Value, PW b L xs d 78 0 0 72 [w0, w1] [] e Q
noncomputable def n_pass_65 (l0 : Nat) (l1 : Int32) (z0 : Int32) (z1 : Int32) (z2 : Nat) (h : pm_H) : Option ((Int32 × pm_H) ⊕ pm_H) := if mi_in z1 (mi_n z2) = true then bd (pm_setI h z2 z1.toNatClampNeg z0) fun h2 => some (.inl ((l1 + Int32.ofInt 1), h2)) else none
theorem t_n_pass_65 (b : Bool) (L : Nat) (xs : Nat → Int32) (d : Nat) (hd : 1 ≤ d) {Q : Option Value → pm_H → Prop} (h : pm_H) (s_h : h.1 = tb_SH) (l0 : Nat) (l1 : Int32) (z0 : Int32) (z1 : Int32) (z2 : Nat) (f_l0 : mi_o l0 3 = true) (f_z2 : mi_a z2 .int = true) {r : ((Int32 × pm_H) ⊕ pm_H)} (hm : n_pass_65 l0 l1 z0 z1 z2 h = some r) (hE : E_n_pass_12 b L xs d Q l0 r) : PW b L xs d 78 0 0 65 [(Value.ref l0), (Value.int l1)] [(Value.int z0), (Value.int z1), (Value.ref z2)] h Q := by
  rw [n_pass_65] at hm
  obtain ⟨g1, hm⟩ := gd_x hm
  refine pw_si (pc := 65) d78_65 (sha s_h f_z2) (mi_in_x g1) ?_
  obtain ⟨h2, e_h2, hm⟩ := bd_x hm
  rw [e_h2]
  have s_h2 : h2.1 = tb_SH := by rw [← e_h2]; exact s_h
  refine pw_t (pc := 66) d78_66 rfl rfl rfl rfl ?_
  refine pw_go (pc := 69) (t := 12) d78_69 (by decide) ?_
  obtain rfl := Option.some.inj hm
  exact hE s_h2  
noncomputable def n_pass_12 (l0 : Nat) (l1 : Int32) (h : pm_H) : Option ((Int32 × pm_H) ⊕ pm_H) := if (Int8.ofInt 8).toInt32 ≤ l1 then (some (.inr h)) else ((gA h l0 5 .int).bind fun y2 => (gA h l0 5 .int).bind fun y3 => if mi_in l1 (mi_n y3) = true then if mi_in l1 (mi_n y2) = true then bd (pm_setI h y2 l1.toNatClampNeg (if (Int32.ofInt 0) < ((h.2.1 y3 l1.toNatClampNeg) - (Int32.ofInt 1)) then ((h.2.1 y3 l1.toNatClampNeg) - (Int32.ofInt 1)) else (Int32.ofInt 0))) fun h6 => (gA h6 l0 6 .int).bind fun y7 => (x_bit (h6.2.1 l0 0) l1 h6).bind fun q8 => if ¬ q8 = (Int32.ofInt 1) then (n_pass_65 l0 l1 (Int32.ofInt 0) l1 y7 h6) else ((gA h6 l0 6 .int).bind fun y10 => if mi_in l1 (mi_n y10) = true then n_pass_65 l0 l1 ((h6.2.1 y10 l1.toNatClampNeg) + (Int32.ofInt 1)) l1 y7 h6 else none) else none else none)
theorem t_n_pass_12 (b : Bool) (L : Nat) (xs : Nat → Int32) (d : Nat) (hd : 1 ≤ d) {Q : Option Value → pm_H → Prop} (h : pm_H) (s_h : h.1 = tb_SH) (l0 : Nat) (l1 : Int32) (f_l0 : mi_o l0 3 = true) {r : ((Int32 × pm_H) ⊕ pm_H)} (hm : n_pass_12 l0 l1 h = some r) (hE : E_n_pass_12 b L xs d Q l0 r) : PW b L xs d 78 0 0 12 [(Value.ref l0), (Value.int l1)] [] h Q := by
  rw [n_pass_12] at hm
  refine pw_l (pc := 12) d78_12 rfl rfl rfl ?_
  refine pw_s (pc := 13) d78_13 rfl rfl ?_
  refine pw_ige (pc := 15) (t := 72) d78_15 (by decide) (fun c1 => ?_) (fun c1 => ?_)
  · rw [if_pos c1] at hm
    obtain rfl := Option.some.inj hm
    exact hE s_h  (Value.ref l0) (Value.int l1)
  · rw [if_neg c1] at hm
    refine pw_l (pc := 18) d78_18 rfl rfl rfl ?_
    obtain ⟨y2, e_y2, hm⟩ := ob_x hm
    have f_y2 := gA_x e_y2
    refine pw_gr (pc := 19) d78_19 (k78_27 b) (sho s_h f_l0) f3_5 f_y2.1 ?_
    refine pw_l (pc := 22) d78_22 rfl rfl rfl ?_
    refine pw_s (pc := 23) d78_23 rfl rfl ?_
    refine pw_l (pc := 24) d78_24 rfl rfl rfl ?_
    obtain ⟨y3, e_y3, hm⟩ := ob_x hm
    have f_y3 := gA_x e_y3
    refine pw_gr (pc := 25) d78_25 (k78_27 b) (sho s_h f_l0) f3_5 f_y3.1 ?_
    refine pw_l (pc := 28) d78_28 rfl rfl rfl ?_
    obtain ⟨g4, hm⟩ := gd_x hm
    refine pw_ai (pc := 29) d78_29 (sha s_h f_y3.2) (mi_in_x g4) ?_
    refine pw_s (pc := 30) d78_30 rfl rfl ?_
    refine pw_s (pc := 31) d78_31 rfl rfl ?_
    refine pw_mx (pc := 32) (by omega) d78_32 (k78_46 b) (Nat.le_of_ble_eq_true rfl) ?_
    obtain ⟨g5, hm⟩ := gd_x hm
    refine pw_si (pc := 35) d78_35 (sha s_h f_y2.2) (mi_in_x g5) ?_
    obtain ⟨h6, e_h6, hm⟩ := bd_x hm
    rw [e_h6]
    have s_h6 : h6.1 = tb_SH := by rw [← e_h6]; exact s_h
    refine pw_l (pc := 36) d78_36 rfl rfl rfl ?_
    obtain ⟨y7, e_y7, hm⟩ := ob_x hm
    have f_y7 := gA_x e_y7
    refine pw_gr (pc := 37) d78_37 (k78_31 b) (sho s_h6 f_l0) f3_6 f_y7.1 ?_
    refine pw_l (pc := 40) d78_40 rfl rfl rfl ?_
    refine pw_l (pc := 41) d78_41 rfl rfl rfl ?_
    refine pw_gi (pc := 42) d78_42 (k78_9 b) (sho s_h6 f_l0) f3_0 ?_
    refine pw_l (pc := 45) d78_45 rfl rfl rfl ?_
    obtain ⟨q8, e_q8, hm⟩ := ob_x hm
    refine pw_u (pc := 46) (by omega) d78_46 (k78_52 b) (by decide) m34 (Nat.le_of_ble_eq_true rfl) (Nat.le_of_ble_eq_true rfl) (Nat.le_of_ble_eq_true rfl) rfl rfl (T_x_bit b L xs (d - 1) (by omega) h6 s_h6 (h6.2.1 l0 0) l1  e_q8) (fun v0 h0 hq => ?_)
    obtain ⟨rfl, hh0, s_q8⟩ := hq
    rw [hh0] at s_q8 ⊢
    simp only [Option.toList_some, List.cons_append, List.nil_append]
    refine pw_s (pc := 49) d78_49 rfl rfl ?_
    refine pw_ine (pc := 50) (t := 64) d78_50 (by decide) (fun c9 => ?_) (fun c9 => ?_)
    · rw [if_pos c9] at hm
      refine pw_s (pc := 64) d78_64 rfl rfl ?_
      exact t_n_pass_65 b L xs d hd h6 s_h6 l0 l1 (Int32.ofInt 0) l1 y7  f_l0 f_y7.2 hm hE
    · rw [if_neg c9] at hm
      refine pw_l (pc := 53) d78_53 rfl rfl rfl ?_
      obtain ⟨y10, e_y10, hm⟩ := ob_x hm
      have f_y10 := gA_x e_y10
      refine pw_gr (pc := 54) d78_54 (k78_31 b) (sho s_h6 f_l0) f3_6 f_y10.1 ?_
      refine pw_l (pc := 57) d78_57 rfl rfl rfl ?_
      obtain ⟨g11, hm⟩ := gd_x hm
      refine pw_ai (pc := 58) d78_58 (sha s_h6 f_y10.2) (mi_in_x g11) ?_
      refine pw_s (pc := 59) d78_59 rfl rfl ?_
      refine pw_s (pc := 60) d78_60 rfl rfl ?_
      refine pw_go (pc := 61) (t := 65) d78_61 (by decide) ?_
      exact t_n_pass_65 b L xs d hd h6 s_h6 l0 l1 ((h6.2.1 y10 l1.toNatClampNeg) + (Int32.ofInt 1)) l1 y7  f_l0 f_y7.2 hm hE
noncomputable def n_pass (l0 : Nat) (h : pm_H) : Option pm_H := bd (pm_setI h l0 2 ((h.2.1 l0 2) + (Int32.ofInt 1))) fun h1 => (wh (fun s : (Int32 × pm_H) => n_pass_12 l0 s.1 s.2) ((Int32.ofInt 0), h1)).bind fun q2 => some q2
theorem T_n_pass (b : Bool) (L : Nat) (xs : Nat → Int32) (d : Nat) (hd : 1 ≤ d) (h : pm_H) (s_h : h.1 = tb_SH) (l0 : Nat) (f_l0 : mi_o l0 3 = true) {r : pm_H} (hm : n_pass l0 h = some r) : PC b L xs d 78 [(Value.ref l0)] h (fun (v0 : Option Value) (h2 : pm_H) => v0 = none ∧ h2 = r ∧ h2.1 = tb_SH) := by
  refine pc_in e78 (ls0 := [(Value.ref l0), Value.retAddr 0]) rfl ?_
  have key : ∀ (Q : Option Value → pm_H → Prop), (r.1 = tb_SH → Q none r) → PW b L xs d 78 0 0 0 [(Value.ref l0), Value.retAddr 0] [] h Q := by
    intro Q hE
    rw [n_pass] at hm
    refine pw_l (pc := 0) d78_0 rfl rfl rfl ?_
    refine pw_s (pc := 1) d78_1 rfl rfl ?_
    refine pw_gi (pc := 2) d78_2 (k78_18 b) (sho s_h f_l0) f3_2 ?_
    refine pw_s (pc := 5) d78_5 rfl rfl ?_
    refine pw_s (pc := 6) d78_6 rfl rfl ?_
    refine pw_pi (pc := 7) d78_7 (k78_18 b) (sho s_h f_l0) p78_3_2 ?_
    obtain ⟨h1, e_h1, hm⟩ := bd_x hm
    rw [e_h1]
    have s_h1 : h1.1 = tb_SH := by rw [← e_h1]; exact s_h
    refine pw_s (pc := 10) d78_10 rfl rfl ?_
    refine pw_t (pc := 11) d78_11 rfl rfl rfl rfl ?_
    obtain ⟨q2, e_q2, hm⟩ := ob_x hm
    refine wh_ind e_q2 (fun s : (Int32 × pm_H) => s.2.1 = tb_SH → PW b L xs d 78 0 0 12 [(Value.ref l0), (Value.int s.1)] [] s.2 Q) (fun s s2 hf ih sx => t_n_pass_12 b L xs d hd s.2 sx l0 s.1  f_l0 hf ih) (fun s hf sx => t_n_pass_12 b L xs d hd s.2 sx l0 s.1  f_l0 hf ?_) s_h1  
    intro s_q2_0 w0 w1
    obtain rfl := Option.some.inj hm
    refine pw_rv (pc := 72) d78_72 t78 ?_
    exact hE s_q2_0
  exact key _ (fun q => ⟨rfl, rfl, q⟩)
def E_w_agrees_2 (b : Bool) (L : Nat) (xs : Nat → Int32) (d : Nat) (Q : Option Value → pm_H → Prop) (h : pm_H) (l0 : Nat) (l1 : Int32) : (Int32 ⊕ Unit ⊕ Unit) → Prop
  | .inl s => PW b L xs d 146 0 0 2 [(Value.ref l0), (Value.int l1), (Value.int s)] [] h Q
  | .inr (.inl e) => ∀ w0 w1 w2 : Value, PW b L xs d 146 0 0 37 [w0, w1, w2] [] h Q
  | .inr (.inr e) => ∀ w0 w1 w2 : Value, PW b L xs d 146 0 0 45 [w0, w1, w2] [] h Q
noncomputable def w_agrees_2 (l0 : Nat) (l1 : Int32) (l2 : Int32) (h : pm_H) : Option (Int32 ⊕ Unit ⊕ Unit) := if (h.2.1 l0 2) ≤ l2 then (some (.inr (.inr ()))) else (if (Int8.ofInt 10).toInt32 ≤ l2 then (some (.inr (.inr ()))) else ((gA h l0 3 .int).bind fun y3 => if mi_in l2 (mi_n y3) = true then (x_bit l1 (h.2.1 y3 l2.toNatClampNeg) h).bind fun q5 => (x_bit (h.2.1 l0 4) l2 h).bind fun q6 => if q5 = q6 then (some (.inl (l2 + Int32.ofInt 1))) else (some (.inr (.inl ()))) else none))
theorem t_w_agrees_2 (b : Bool) (L : Nat) (xs : Nat → Int32) (d : Nat) (hd : 1 ≤ d) {Q : Option Value → pm_H → Prop} (h : pm_H) (s_h : h.1 = tb_SH) (l0 : Nat) (l1 : Int32) (l2 : Int32) (f_l0 : mi_o l0 9 = true) {r : (Int32 ⊕ Unit ⊕ Unit)} (hm : w_agrees_2 l0 l1 l2 h = some r) (hE : E_w_agrees_2 b L xs d Q h l0 l1 r) : PW b L xs d 146 0 0 2 [(Value.ref l0), (Value.int l1), (Value.int l2)] [] h Q := by
  rw [w_agrees_2] at hm
  refine pw_l (pc := 2) d146_2 rfl rfl rfl ?_
  refine pw_l (pc := 3) d146_3 rfl rfl rfl ?_
  refine pw_gi (pc := 4) d146_4 (k146_18 b) (sho s_h f_l0) f9_2 ?_
  refine pw_ige (pc := 7) (t := 45) d146_7 (by decide) (fun c1 => ?_) (fun c1 => ?_)
  · rw [if_pos c1] at hm
    obtain rfl := Option.some.inj hm
    exact hE   (Value.ref l0) (Value.int l1) (Value.int l2)
  · rw [if_neg c1] at hm
    refine pw_l (pc := 10) d146_10 rfl rfl rfl ?_
    refine pw_s (pc := 11) d146_11 rfl rfl ?_
    refine pw_ige (pc := 13) (t := 45) d146_13 (by decide) (fun c2 => ?_) (fun c2 => ?_)
    · rw [if_pos c2] at hm
      obtain rfl := Option.some.inj hm
      exact hE   (Value.ref l0) (Value.int l1) (Value.int l2)
    · rw [if_neg c2] at hm
      refine pw_l (pc := 16) d146_16 rfl rfl rfl ?_
      refine pw_l (pc := 17) d146_17 rfl rfl rfl ?_
      obtain ⟨y3, e_y3, hm⟩ := ob_x hm
      have f_y3 := gA_x e_y3
      refine pw_gr (pc := 18) d146_18 (k146_22 b) (sho s_h f_l0) f9_3 f_y3.1 ?_
      refine pw_l (pc := 21) d146_21 rfl rfl rfl ?_
      obtain ⟨g4, hm⟩ := gd_x hm
      refine pw_ai (pc := 22) d146_22 (sha s_h f_y3.2) (mi_in_x g4) ?_
      obtain ⟨q5, e_q5, hm⟩ := ob_x hm
      refine pw_u (pc := 23) (by omega) d146_23 (k146_50 b) (by decide) m34 (Nat.le_of_ble_eq_true rfl) (Nat.le_of_ble_eq_true rfl) (Nat.le_of_ble_eq_true rfl) rfl rfl (T_x_bit b L xs (d - 1) (by omega) h s_h l1 (h.2.1 y3 l2.toNatClampNeg)  e_q5) (fun v0 h0 hq => ?_)
      obtain ⟨rfl, hh0, s_q5⟩ := hq
      rw [hh0] at s_q5 ⊢
      simp only [Option.toList_some, List.cons_append, List.nil_append]
      refine pw_l (pc := 26) d146_26 rfl rfl rfl ?_
      refine pw_gi (pc := 27) d146_27 (k146_26 b) (sho s_h f_l0) f9_4 ?_
      refine pw_l (pc := 30) d146_30 rfl rfl rfl ?_
      obtain ⟨q6, e_q6, hm⟩ := ob_x hm
      refine pw_u (pc := 31) (by omega) d146_31 (k146_50 b) (by decide) m34 (Nat.le_of_ble_eq_true rfl) (Nat.le_of_ble_eq_true rfl) (Nat.le_of_ble_eq_true rfl) rfl rfl (T_x_bit b L xs (d - 1) (by omega) h s_h (h.2.1 l0 4) l2  e_q6) (fun v0 h0 hq => ?_)
      obtain ⟨rfl, hh0, s_q6⟩ := hq
      rw [hh0] at s_q6 ⊢
      simp only [Option.toList_some, List.cons_append, List.nil_append]
      refine pw_ieq (pc := 34) (t := 39) d146_34 (by decide) (fun c7 => ?_) (fun c7 => ?_)
      · rw [if_pos c7] at hm
        refine pw_t (pc := 39) d146_39 rfl rfl rfl rfl ?_
        refine pw_go (pc := 42) (t := 2) d146_42 (by decide) ?_
        obtain rfl := Option.some.inj hm
        exact hE   
      · rw [if_neg c7] at hm
        obtain rfl := Option.some.inj hm
        exact hE   (Value.ref l0) (Value.int l1) (Value.int l2)
noncomputable def w_agrees (l0 : Nat) (l1 : Int32) (h : pm_H) : Option Int32 := (wh (fun s : Int32 => w_agrees_2 l0 l1 s h) (Int32.ofInt 0)).bind fun q1 => (match q1 with | (.inl eq1_0) => some (Int32.ofInt 0) | (.inr eq1_1) => some (Int32.ofInt 1))
theorem T_w_agrees (b : Bool) (L : Nat) (xs : Nat → Int32) (d : Nat) (hd : 1 ≤ d) (h : pm_H) (s_h : h.1 = tb_SH) (l0 : Nat) (l1 : Int32) (f_l0 : mi_o l0 9 = true) {r : Int32} (hm : w_agrees l0 l1 h = some r) : PC b L xs d 146 [(Value.ref l0), (Value.int l1)] h (fun (v0 : Option Value) (h2 : pm_H) => v0 = (some (Value.int r)) ∧ h2 = h ∧ h2.1 = tb_SH) := by
  refine pc_in e146 (ls0 := [(Value.ref l0), (Value.int l1), Value.retAddr 0]) rfl ?_
  have key : ∀ (Q : Option Value → pm_H → Prop), (Q (some (Value.int r)) h) → PW b L xs d 146 0 0 0 [(Value.ref l0), (Value.int l1), Value.retAddr 0] [] h Q := by
    intro Q hE
    rw [w_agrees] at hm
    refine pw_s (pc := 0) d146_0 rfl rfl ?_
    refine pw_t (pc := 1) d146_1 rfl rfl rfl rfl ?_
    obtain ⟨q1, e_q1, hm⟩ := ob_x hm
    refine wh_ind e_q1 (fun s : Int32 => PW b L xs d 146 0 0 2 [(Value.ref l0), (Value.int l1), (Value.int s)] [] h Q) (fun s s2 hf ih  => t_w_agrees_2 b L xs d hd h s_h l0 l1 s  f_l0 hf ih) (fun s hf  => t_w_agrees_2 b L xs d hd h s_h l0 l1 s  f_l0 hf ?_)   
    rcases q1 with eq1_0 | eq1_1
    · dsimp only at hm
      intro w0 w1 w2
      refine pw_s (pc := 37) d146_37 rfl rfl ?_
      obtain rfl := Option.some.inj hm
      refine pw_ri (pc := 38) d146_38 t146 rfl ?_
      exact hE
    · dsimp only at hm
      intro w0 w1 w2
      refine pw_s (pc := 45) d146_45 rfl rfl ?_
      obtain rfl := Option.some.inj hm
      refine pw_ri (pc := 46) d146_46 t146 rfl ?_
      exact hE
  exact key _ ⟨rfl, rfl, s_h⟩
def E_s_settle_49 (b : Bool) (L : Nat) (xs : Nat → Int32) (d : Nat) (Q : Option Value → pm_H → Prop) (l0 : Nat) (l1 : Nat) (l3 : Int32) : ((Int32 × pm_H) ⊕ pm_H) → Prop
  | .inl s => s.2.1 = tb_SH → ∀ w2 w4 : Value, PW b L xs d 118 0 0 49 [(Value.ref l0), (Value.ref l1), w2, (Value.int l3), w4, (Value.int s.1)] [] s.2 Q
  | .inr e => e.1 = tb_SH → ∀ w2 w4 w5 : Value, PW b L xs d 118 0 0 73 [(Value.ref l0), (Value.ref l1), w2, (Value.int l3), w4, w5] [] e Q
def E_s_settle_15 (b : Bool) (L : Nat) (xs : Nat → Int32) (d : Nat) (Q : Option Value → pm_H → Prop) (l0 : Nat) (l1 : Nat) : ((Int32 × Int32 × pm_H) ⊕ (Int32 × pm_H)) → Prop
  | .inl s => s.2.2.1 = tb_SH → ∀ w2 w5 : Value, PW b L xs d 118 0 0 15 [(Value.ref l0), (Value.ref l1), w2, (Value.int s.1), (Value.int s.2.1), w5] [] s.2.2 Q
  | .inr e => e.2.1 = tb_SH → ∀ w0 w1 w2 w4 w5 : Value, PW b L xs d 118 0 0 87 [w0, w1, w2, (Value.int e.1), w4, w5] [] e.2 Q
noncomputable def s_settle_49 (l0 : Nat) (l1 : Nat) (l3 : Int32) (l5 : Int32) (h : pm_H) : Option ((Int32 × pm_H) ⊕ pm_H) := if (l3 - (Int32.ofInt 1)) ≤ l5 then (some (.inr h)) else (if mi_in (l5 + (Int32.ofInt 1)) (mi_n l1) = true then if mi_in l5 (mi_n l1) = true then bd (pm_setI h l1 l5.toNatClampNeg (h.2.1 l1 (l5 + (Int32.ofInt 1)).toNatClampNeg)) fun h4 => some (.inl ((l5 + Int32.ofInt 1), h4)) else none else none)
theorem t_s_settle_49 (b : Bool) (L : Nat) (xs : Nat → Int32) (d : Nat) (hd : 2 ≤ d) {Q : Option Value → pm_H → Prop} (h : pm_H) (s_h : h.1 = tb_SH) (l0 : Nat) (l1 : Nat) (l3 : Int32) (l5 : Int32) (w2 : Value) (w4 : Value) (f_l0 : mi_o l0 7 = true) (f_l1 : mi_a l1 .int = true) {r : ((Int32 × pm_H) ⊕ pm_H)} (hm : s_settle_49 l0 l1 l3 l5 h = some r) (hE : E_s_settle_49 b L xs d Q l0 l1 l3 r) : PW b L xs d 118 0 0 49 [(Value.ref l0), (Value.ref l1), w2, (Value.int l3), w4, (Value.int l5)] [] h Q := by
  rw [s_settle_49] at hm
  refine pw_l (pc := 49) d118_49 rfl rfl rfl ?_
  refine pw_l (pc := 51) d118_51 rfl rfl rfl ?_
  refine pw_s (pc := 52) d118_52 rfl rfl ?_
  refine pw_s (pc := 53) d118_53 rfl rfl ?_
  refine pw_ige (pc := 54) (t := 73) d118_54 (by decide) (fun c1 => ?_) (fun c1 => ?_)
  · rw [if_pos c1] at hm
    obtain rfl := Option.some.inj hm
    exact hE s_h  w2 w4 (Value.int l5)
  · rw [if_neg c1] at hm
    refine pw_l (pc := 57) d118_57 rfl rfl rfl ?_
    refine pw_l (pc := 58) d118_58 rfl rfl rfl ?_
    refine pw_l (pc := 60) d118_60 rfl rfl rfl ?_
    refine pw_l (pc := 61) d118_61 rfl rfl rfl ?_
    refine pw_s (pc := 63) d118_63 rfl rfl ?_
    refine pw_s (pc := 64) d118_64 rfl rfl ?_
    obtain ⟨g2, hm⟩ := gd_x hm
    refine pw_ai (pc := 65) d118_65 (sha s_h f_l1) (mi_in_x g2) ?_
    obtain ⟨g3, hm⟩ := gd_x hm
    refine pw_si (pc := 66) d118_66 (sha s_h f_l1) (mi_in_x g3) ?_
    obtain ⟨h4, e_h4, hm⟩ := bd_x hm
    rw [e_h4]
    have s_h4 : h4.1 = tb_SH := by rw [← e_h4]; exact s_h
    refine pw_t (pc := 67) d118_67 rfl rfl rfl (n := 3) (ls' := [(Value.ref l0), (Value.ref l1), w2, (Value.int l3), (mi_w w4), (Value.int (l5 + Int32.ofInt 1))]) (st' := []) (by by_cases hw : Value.category w4 = 2 <;> simp [pm_sto, pm_sI, pm_sL, pm_sA, pm_inc, pm_st1, pm_st2, pm_pre, mi_w, hw] <;> first | done | exact ⟨by decide, rfl⟩ | rfl) ?_
    refine pw_go (pc := 70) (t := 49) d118_70 (by decide) ?_
    obtain rfl := Option.some.inj hm
    exact hE s_h4  w2 (mi_w w4)
noncomputable def s_settle_15 (l0 : Nat) (l1 : Nat) (l3 : Int32) (l4 : Int32) (h : pm_H) : Option ((Int32 × Int32 × pm_H) ⊕ (Int32 × pm_H)) := if l4 < 0 then (some (.inr (l3, h))) else (if l3 ≤ (Int32.ofInt 1) then (some (.inr (l3, h))) else (if mi_in l4 (mi_n l1) = true then if mi_in (l4 + (Int32.ofInt 1)) (mi_n l1) = true then (s_pair l0 (h.2.1 l1 l4.toNatClampNeg) (h.2.1 l1 (l4 + (Int32.ofInt 1)).toNatClampNeg) h).bind fun q5 => if mi_in l4 (mi_n l1) = true then bd (pm_setI h l1 l4.toNatClampNeg q5) fun h7 => (wh (fun s : (Int32 × pm_H) => s_settle_49 l0 l1 l3 s.1 s.2) ((l4 + (Int32.ofInt 1)), h7)).bind fun q8 => (s_firstPair l0 l1 (l3 + Int32.ofInt (-1)) q8).bind fun q9 => some (.inl ((l3 + Int32.ofInt (-1)), q9, q8)) else none else none else none))
theorem t_s_settle_15 (b : Bool) (L : Nat) (xs : Nat → Int32) (d : Nat) (hd : 2 ≤ d) {Q : Option Value → pm_H → Prop} (h : pm_H) (s_h : h.1 = tb_SH) (l0 : Nat) (l1 : Nat) (l3 : Int32) (l4 : Int32) (w2 : Value) (w5 : Value) (f_l0 : mi_o l0 7 = true) (f_l1 : mi_a l1 .int = true) {r : ((Int32 × Int32 × pm_H) ⊕ (Int32 × pm_H))} (hm : s_settle_15 l0 l1 l3 l4 h = some r) (hE : E_s_settle_15 b L xs d Q l0 l1 r) : PW b L xs d 118 0 0 15 [(Value.ref l0), (Value.ref l1), w2, (Value.int l3), (Value.int l4), w5] [] h Q := by
  rw [s_settle_15] at hm
  refine pw_l (pc := 15) d118_15 rfl rfl rfl ?_
  refine pw_zlt (pc := 17) (t := 87) d118_17 (by decide) (fun c1 => ?_) (fun c1 => ?_)
  · rw [if_pos c1] at hm
    obtain rfl := Option.some.inj hm
    exact hE s_h  (Value.ref l0) (Value.ref l1) w2 (Value.int l4) w5
  · rw [if_neg c1] at hm
    refine pw_l (pc := 20) d118_20 rfl rfl rfl ?_
    refine pw_s (pc := 21) d118_21 rfl rfl ?_
    refine pw_ile (pc := 22) (t := 87) d118_22 (by decide) (fun c2 => ?_) (fun c2 => ?_)
    · rw [if_pos c2] at hm
      obtain rfl := Option.some.inj hm
      exact hE s_h  (Value.ref l0) (Value.ref l1) w2 (Value.int l4) w5
    · rw [if_neg c2] at hm
      refine pw_l (pc := 25) d118_25 rfl rfl rfl ?_
      refine pw_l (pc := 26) d118_26 rfl rfl rfl ?_
      refine pw_l (pc := 28) d118_28 rfl rfl rfl ?_
      refine pw_l (pc := 29) d118_29 rfl rfl rfl ?_
      refine pw_l (pc := 30) d118_30 rfl rfl rfl ?_
      obtain ⟨g3, hm⟩ := gd_x hm
      refine pw_ai (pc := 32) d118_32 (sha s_h f_l1) (mi_in_x g3) ?_
      refine pw_l (pc := 33) d118_33 rfl rfl rfl ?_
      refine pw_l (pc := 34) d118_34 rfl rfl rfl ?_
      refine pw_s (pc := 36) d118_36 rfl rfl ?_
      refine pw_s (pc := 37) d118_37 rfl rfl ?_
      obtain ⟨g4, hm⟩ := gd_x hm
      refine pw_ai (pc := 38) d118_38 (sha s_h f_l1) (mi_in_x g4) ?_
      obtain ⟨q5, e_q5, hm⟩ := ob_x hm
      refine pw_v (pc := 39) (k := l0) (by omega) d118_39 (k118_70 b) (by decide) m117 (by decide) rfl (sho s_h f_l0) (Nat.le_of_ble_eq_true rfl) (Nat.le_of_ble_eq_true rfl) rfl rfl (T_s_pair b L xs (d - 1) (by omega) h s_h l0 (h.2.1 l1 l4.toNatClampNeg) (h.2.1 l1 (l4 + (Int32.ofInt 1)).toNatClampNeg) f_l0 e_q5) (fun v0 h0 hq => ?_)
      obtain ⟨rfl, hh0, s_q5⟩ := hq
      rw [hh0] at s_q5 ⊢
      simp only [Option.toList_some, List.cons_append, List.nil_append]
      obtain ⟨g6, hm⟩ := gd_x hm
      refine pw_si (pc := 42) d118_42 (sha s_h f_l1) (mi_in_x g6) ?_
      obtain ⟨h7, e_h7, hm⟩ := bd_x hm
      rw [e_h7]
      have s_h7 : h7.1 = tb_SH := by rw [← e_h7]; exact s_h
      refine pw_l (pc := 43) d118_43 rfl rfl rfl ?_
      refine pw_s (pc := 45) d118_45 rfl rfl ?_
      refine pw_s (pc := 46) d118_46 rfl rfl ?_
      refine pw_t (pc := 47) d118_47 rfl rfl rfl rfl ?_
      obtain ⟨q8, e_q8, hm⟩ := ob_x hm
      refine wh_ind e_q8 (fun s : (Int32 × pm_H) => s.2.1 = tb_SH → ∀ w2 w4 : Value, PW b L xs d 118 0 0 49 [(Value.ref l0), (Value.ref l1), w2, (Value.int l3), w4, (Value.int s.1)] [] s.2 Q) (fun s s2 hf ih sx w2 w4 => t_s_settle_49 b L xs d hd s.2 sx l0 l1 l3 s.1 w2 w4 f_l0 f_l1 hf ih) (fun s hf sx w2 w4 => t_s_settle_49 b L xs d hd s.2 sx l0 l1 l3 s.1 w2 w4 f_l0 f_l1 hf ?_) s_h7  w2 (Value.int l4)
      intro s_q8_0 w2 w4 w5
      refine pw_t (pc := 73) d118_73 rfl rfl rfl (n := 3) (ls' := [(Value.ref l0), (Value.ref l1), (mi_w w2), (Value.int (l3 + Int32.ofInt (-1))), w4, w5]) (st' := []) (by by_cases hw : Value.category w2 = 2 <;> simp [pm_sto, pm_sI, pm_sL, pm_sA, pm_inc, pm_st1, pm_st2, pm_pre, mi_w, hw] <;> first | done | exact ⟨by decide, rfl⟩ | rfl) ?_
      refine pw_l (pc := 76) d118_76 rfl rfl rfl ?_
      refine pw_l (pc := 77) d118_77 rfl rfl rfl ?_
      refine pw_l (pc := 78) d118_78 rfl rfl rfl ?_
      obtain ⟨q9, e_q9, hm⟩ := ob_x hm
      refine pw_v (pc := 79) (k := l0) (by omega) d118_79 (k118_66 b) (by decide) m119 (by decide) rfl (sho s_q8_0 f_l0) (Nat.le_of_ble_eq_true rfl) (Nat.le_of_ble_eq_true rfl) rfl rfl (T_s_firstPair b L xs (d - 1) (by omega) q8 s_q8_0 l0 l1 (l3 + Int32.ofInt (-1)) f_l0 f_l1 e_q9) (fun v0 h0 hq => ?_)
      obtain ⟨rfl, hh0, s_q9⟩ := hq
      rw [hh0] at s_q9 ⊢
      simp only [Option.toList_some, List.cons_append, List.nil_append]
      refine pw_t (pc := 82) d118_82 rfl rfl rfl rfl ?_
      refine pw_go (pc := 84) (t := 15) d118_84 (by decide) ?_
      obtain rfl := Option.some.inj hm
      exact hE s_q8_0  (mi_w w2) w5
noncomputable def s_settle (l0 : Nat) (l1 : Nat) (l2 : Int32) (h : pm_H) : Option (Int32 × pm_H) := (s_firstPair l0 l1 (if (Int32.ofNat (mi_n l1)) < l2 then (Int32.ofNat (mi_n l1)) else l2) h).bind fun q1 => (wh (fun s : (Int32 × Int32 × pm_H) => s_settle_15 l0 l1 s.1 s.2.1 s.2.2) ((if (Int32.ofNat (mi_n l1)) < l2 then (Int32.ofNat (mi_n l1)) else l2), q1, h)).bind fun q2 => some (q2.1, q2.2)
theorem T_s_settle (b : Bool) (L : Nat) (xs : Nat → Int32) (d : Nat) (hd : 2 ≤ d) (h : pm_H) (s_h : h.1 = tb_SH) (l0 : Nat) (l1 : Nat) (l2 : Int32) (f_l0 : mi_o l0 7 = true) (f_l1 : mi_a l1 .int = true) {r : (Int32 × pm_H)} (hm : s_settle l0 l1 l2 h = some r) : PC b L xs d 118 [(Value.ref l0), (Value.ref l1), (Value.int l2)] h (fun (v0 : Option Value) (h2 : pm_H) => v0 = (some (Value.int r.1)) ∧ h2 = r.2 ∧ h2.1 = tb_SH) := by
  refine pc_in e118 (ls0 := [(Value.ref l0), (Value.ref l1), (Value.int l2), Value.retAddr 0, Value.retAddr 0, Value.retAddr 0]) rfl ?_
  have key : ∀ (Q : Option Value → pm_H → Prop), (r.2.1 = tb_SH → Q (some (Value.int r.1)) r.2) → PW b L xs d 118 0 0 0 [(Value.ref l0), (Value.ref l1), (Value.int l2), Value.retAddr 0, Value.retAddr 0, Value.retAddr 0] [] h Q := by
    intro Q hE
    rw [s_settle] at hm
    refine pw_l (pc := 0) d118_0 rfl rfl rfl ?_
    refine pw_l (pc := 1) d118_1 rfl rfl rfl ?_
    refine pw_an (pc := 2) d118_2 (sha s_h f_l1) ?_
    refine pw_mn (pc := 3) (by omega) d118_3 (k118_60 b) (Nat.le_of_ble_eq_true rfl) ?_
    refine pw_t (pc := 6) d118_6 rfl rfl rfl rfl ?_
    refine pw_l (pc := 7) d118_7 rfl rfl rfl ?_
    refine pw_l (pc := 8) d118_8 rfl rfl rfl ?_
    refine pw_l (pc := 9) d118_9 rfl rfl rfl ?_
    obtain ⟨q1, e_q1, hm⟩ := ob_x hm
    refine pw_v (pc := 10) (k := l0) (by omega) d118_10 (k118_66 b) (by decide) m119 (by decide) rfl (sho s_h f_l0) (Nat.le_of_ble_eq_true rfl) (Nat.le_of_ble_eq_true rfl) rfl rfl (T_s_firstPair b L xs (d - 1) (by omega) h s_h l0 l1 (if (Int32.ofNat (mi_n l1)) < l2 then (Int32.ofNat (mi_n l1)) else l2) f_l0 f_l1 e_q1) (fun v0 h0 hq => ?_)
    obtain ⟨rfl, hh0, s_q1⟩ := hq
    rw [hh0] at s_q1 ⊢
    simp only [Option.toList_some, List.cons_append, List.nil_append]
    refine pw_t (pc := 13) d118_13 rfl rfl rfl rfl ?_
    obtain ⟨q2, e_q2, hm⟩ := ob_x hm
    refine wh_ind e_q2 (fun s : (Int32 × Int32 × pm_H) => s.2.2.1 = tb_SH → ∀ w2 w5 : Value, PW b L xs d 118 0 0 15 [(Value.ref l0), (Value.ref l1), w2, (Value.int s.1), (Value.int s.2.1), w5] [] s.2.2 Q) (fun s s2 hf ih sx w2 w5 => t_s_settle_15 b L xs d hd s.2.2 sx l0 l1 s.1 s.2.1 w2 w5 f_l0 f_l1 hf ih) (fun s hf sx w2 w5 => t_s_settle_15 b L xs d hd s.2.2 sx l0 l1 s.1 s.2.1 w2 w5 f_l0 f_l1 hf ?_) s_h  (Value.int l2) (Value.retAddr 0)
    intro s_q2_0 w0 w1 w2 w4 w5
    refine pw_l (pc := 87) d118_87 rfl rfl rfl ?_
    obtain rfl := Option.some.inj hm
    refine pw_ri (pc := 88) d118_88 t118 rfl ?_
    exact hE s_q2_0
  exact key _ (fun q => ⟨rfl, rfl, q⟩)
def E_s_orderOf_2 (b : Bool) (L : Nat) (xs : Nat → Int32) (d : Nat) (Q : Option Value → pm_H → Prop) (h : pm_H) (l0 : Nat) (l1 : Nat) (l2 : Int32) : (Int32 ⊕ Int32 ⊕ Unit) → Prop
  | .inl s => PW b L xs d 120 0 0 2 [(Value.ref l0), (Value.ref l1), (Value.int l2), (Value.int s)] [] h Q
  | .inr (.inl e) => ∀ w0 w1 w2 : Value, PW b L xs d 120 0 0 20 [w0, w1, w2, (Value.int e)] [] h Q
  | .inr (.inr e) => ∀ w0 w1 w2 w3 : Value, PW b L xs d 120 0 0 28 [w0, w1, w2, w3] [] h Q
noncomputable def s_orderOf_2 (l0 : Nat) (l1 : Nat) (l2 : Int32) (l3 : Int32) (h : pm_H) : Option (Int32 ⊕ Int32 ⊕ Unit) := if (h.2.1 l0 2) ≤ l3 then (some (.inr (.inr ()))) else ((s_isRow l0 l3 l1 l2 h).bind fun q2 => if q2 = 0 then (some (.inl (l3 + Int32.ofInt 1))) else (some (.inr (.inl l3))))
theorem t_s_orderOf_2 (b : Bool) (L : Nat) (xs : Nat → Int32) (d : Nat) (hd : 3 ≤ d) {Q : Option Value → pm_H → Prop} (h : pm_H) (s_h : h.1 = tb_SH) (l0 : Nat) (l1 : Nat) (l2 : Int32) (l3 : Int32) (f_l0 : mi_o l0 7 = true) (f_l1 : mi_a l1 .int = true) {r : (Int32 ⊕ Int32 ⊕ Unit)} (hm : s_orderOf_2 l0 l1 l2 l3 h = some r) (hE : E_s_orderOf_2 b L xs d Q h l0 l1 l2 r) : PW b L xs d 120 0 0 2 [(Value.ref l0), (Value.ref l1), (Value.int l2), (Value.int l3)] [] h Q := by
  rw [s_orderOf_2] at hm
  refine pw_l (pc := 2) d120_2 rfl rfl rfl ?_
  refine pw_l (pc := 3) d120_3 rfl rfl rfl ?_
  refine pw_gi (pc := 4) d120_4 (k120_18 b) (sho s_h f_l0) f7_2 ?_
  refine pw_ige (pc := 7) (t := 28) d120_7 (by decide) (fun c1 => ?_) (fun c1 => ?_)
  · rw [if_pos c1] at hm
    obtain rfl := Option.some.inj hm
    exact hE   (Value.ref l0) (Value.ref l1) (Value.int l2) (Value.int l3)
  · rw [if_neg c1] at hm
    refine pw_l (pc := 10) d120_10 rfl rfl rfl ?_
    refine pw_l (pc := 11) d120_11 rfl rfl rfl ?_
    refine pw_l (pc := 12) d120_12 rfl rfl rfl ?_
    refine pw_l (pc := 13) d120_13 rfl rfl rfl ?_
    obtain ⟨q2, e_q2, hm⟩ := ob_x hm
    refine pw_v (pc := 14) (k := l0) (by omega) d120_14 (k120_73 b) (by decide) m124 (by decide) rfl (sho s_h f_l0) (Nat.le_of_ble_eq_true rfl) (Nat.le_of_ble_eq_true rfl) rfl rfl (T_s_isRow b L xs (d - 1) (by omega) h s_h l0 l3 l1 l2 f_l0 f_l1 e_q2) (fun v0 h0 hq => ?_)
    obtain ⟨rfl, hh0, s_q2⟩ := hq
    rw [hh0] at s_q2 ⊢
    simp only [Option.toList_some, List.cons_append, List.nil_append]
    refine pw_zeq (pc := 17) (t := 22) d120_17 (by decide) (fun c3 => ?_) (fun c3 => ?_)
    · rw [if_pos c3] at hm
      refine pw_t (pc := 22) d120_22 rfl rfl rfl rfl ?_
      refine pw_go (pc := 25) (t := 2) d120_25 (by decide) ?_
      obtain rfl := Option.some.inj hm
      exact hE   
    · rw [if_neg c3] at hm
      obtain rfl := Option.some.inj hm
      exact hE   (Value.ref l0) (Value.ref l1) (Value.int l2)
noncomputable def s_orderOf (l0 : Nat) (l1 : Nat) (l2 : Int32) (h : pm_H) : Option Int32 := (wh (fun s : Int32 => s_orderOf_2 l0 l1 l2 s h) (Int32.ofInt 0)).bind fun q1 => (match q1 with | (.inl eq1_0) => some eq1_0 | (.inr eq1_1) => some ((Int8.ofInt (-2)).toInt32))
theorem T_s_orderOf (b : Bool) (L : Nat) (xs : Nat → Int32) (d : Nat) (hd : 3 ≤ d) (h : pm_H) (s_h : h.1 = tb_SH) (l0 : Nat) (l1 : Nat) (l2 : Int32) (f_l0 : mi_o l0 7 = true) (f_l1 : mi_a l1 .int = true) {r : Int32} (hm : s_orderOf l0 l1 l2 h = some r) : PC b L xs d 120 [(Value.ref l0), (Value.ref l1), (Value.int l2)] h (fun (v0 : Option Value) (h2 : pm_H) => v0 = (some (Value.int r)) ∧ h2 = h ∧ h2.1 = tb_SH) := by
  refine pc_in e120 (ls0 := [(Value.ref l0), (Value.ref l1), (Value.int l2), Value.retAddr 0]) rfl ?_
  have key : ∀ (Q : Option Value → pm_H → Prop), (Q (some (Value.int r)) h) → PW b L xs d 120 0 0 0 [(Value.ref l0), (Value.ref l1), (Value.int l2), Value.retAddr 0] [] h Q := by
    intro Q hE
    rw [s_orderOf] at hm
    refine pw_s (pc := 0) d120_0 rfl rfl ?_
    refine pw_t (pc := 1) d120_1 rfl rfl rfl rfl ?_
    obtain ⟨q1, e_q1, hm⟩ := ob_x hm
    refine wh_ind e_q1 (fun s : Int32 => PW b L xs d 120 0 0 2 [(Value.ref l0), (Value.ref l1), (Value.int l2), (Value.int s)] [] h Q) (fun s s2 hf ih  => t_s_orderOf_2 b L xs d hd h s_h l0 l1 l2 s  f_l0 f_l1 hf ih) (fun s hf  => t_s_orderOf_2 b L xs d hd h s_h l0 l1 l2 s  f_l0 f_l1 hf ?_)   
    rcases q1 with eq1_0 | eq1_1
    · dsimp only at hm
      intro w0 w1 w2
      refine pw_l (pc := 20) d120_20 rfl rfl rfl ?_
      obtain rfl := Option.some.inj hm
      refine pw_ri (pc := 21) d120_21 t120 rfl ?_
      exact hE
    · dsimp only at hm
      intro w0 w1 w2 w3
      refine pw_s (pc := 28) d120_28 rfl rfl ?_
      obtain rfl := Option.some.inj hm
      refine pw_ri (pc := 30) d120_30 t120 rfl ?_
      exact hE
  exact key _ ⟨rfl, rfl, s_h⟩
def E_s_canBeMeant_55 (b : Bool) (L : Nat) (xs : Nat → Int32) (d : Nat) (Q : Option Value → pm_H → Prop) (h : pm_H) (l0 : Nat) (l1 : Int32) : (Int32 ⊕ Unit ⊕ Unit) → Prop
  | .inl s => PW b L xs d 121 0 0 55 [(Value.ref l0), (Value.int l1), (Value.int s)] [] h Q
  | .inr (.inl e) => ∀ w0 w1 w2 : Value, PW b L xs d 121 0 0 69 [w0, w1, w2] [] h Q
  | .inr (.inr e) => ∀ w0 w1 w2 : Value, PW b L xs d 121 0 0 77 [w0, w1, w2] [] h Q
def E_s_canBeMeant_12 (b : Bool) (L : Nat) (xs : Nat → Int32) (d : Nat) (Q : Option Value → pm_H → Prop) (h : pm_H) (l0 : Nat) (l1 : Int32) : (Int32 ⊕ Unit ⊕ Unit) → Prop
  | .inl s => PW b L xs d 121 0 0 12 [(Value.ref l0), (Value.int l1), (Value.int s)] [] h Q
  | .inr (.inl e) => ∀ w0 w1 w2 : Value, PW b L xs d 121 0 0 45 [w0, w1, w2] [] h Q
  | .inr (.inr e) => ∀ w2 : Value, PW b L xs d 121 0 0 53 [(Value.ref l0), (Value.int l1), w2] [] h Q
noncomputable def s_canBeMeant_55 (l0 : Nat) (l1 : Int32) (l2 : Int32) (h : pm_H) : Option (Int32 ⊕ Unit ⊕ Unit) := if l1 ≤ l2 then (some (.inr (.inr ()))) else ((s_sameRows l0 l2 l1 h).bind fun q2 => if q2 = 0 then (some (.inl (l2 + Int32.ofInt 1))) else (some (.inr (.inl ()))))
theorem t_s_canBeMeant_55 (b : Bool) (L : Nat) (xs : Nat → Int32) (d : Nat) (hd : 3 ≤ d) {Q : Option Value → pm_H → Prop} (h : pm_H) (s_h : h.1 = tb_SH) (l0 : Nat) (l1 : Int32) (l2 : Int32) (f_l0 : mi_o l0 7 = true) {r : (Int32 ⊕ Unit ⊕ Unit)} (hm : s_canBeMeant_55 l0 l1 l2 h = some r) (hE : E_s_canBeMeant_55 b L xs d Q h l0 l1 r) : PW b L xs d 121 0 0 55 [(Value.ref l0), (Value.int l1), (Value.int l2)] [] h Q := by
  rw [s_canBeMeant_55] at hm
  refine pw_l (pc := 55) d121_55 rfl rfl rfl ?_
  refine pw_l (pc := 56) d121_56 rfl rfl rfl ?_
  refine pw_ige (pc := 57) (t := 77) d121_57 (by decide) (fun c1 => ?_) (fun c1 => ?_)
  · rw [if_pos c1] at hm
    obtain rfl := Option.some.inj hm
    exact hE   (Value.ref l0) (Value.int l1) (Value.int l2)
  · rw [if_neg c1] at hm
    refine pw_l (pc := 60) d121_60 rfl rfl rfl ?_
    refine pw_l (pc := 61) d121_61 rfl rfl rfl ?_
    refine pw_l (pc := 62) d121_62 rfl rfl rfl ?_
    obtain ⟨q2, e_q2, hm⟩ := ob_x hm
    refine pw_v (pc := 63) (k := l0) (by omega) d121_63 (k121_80 b) (by decide) m122 (by decide) rfl (sho s_h f_l0) (Nat.le_of_ble_eq_true rfl) (Nat.le_of_ble_eq_true rfl) rfl rfl (T_s_sameRows b L xs (d - 1) (by omega) h s_h l0 l2 l1 f_l0 e_q2) (fun v0 h0 hq => ?_)
    obtain ⟨rfl, hh0, s_q2⟩ := hq
    rw [hh0] at s_q2 ⊢
    simp only [Option.toList_some, List.cons_append, List.nil_append]
    refine pw_zeq (pc := 66) (t := 71) d121_66 (by decide) (fun c3 => ?_) (fun c3 => ?_)
    · rw [if_pos c3] at hm
      refine pw_t (pc := 71) d121_71 rfl rfl rfl rfl ?_
      refine pw_go (pc := 74) (t := 55) d121_74 (by decide) ?_
      obtain rfl := Option.some.inj hm
      exact hE   
    · rw [if_neg c3] at hm
      obtain rfl := Option.some.inj hm
      exact hE   (Value.ref l0) (Value.int l1) (Value.int l2)
noncomputable def s_canBeMeant_12 (l0 : Nat) (l1 : Int32) (l2 : Int32) (h : pm_H) : Option (Int32 ⊕ Unit ⊕ Unit) := (gA h l0 7 .int).bind fun y1 => if mi_in l1 (mi_n y1) = true then if (h.2.1 y1 l1.toNatClampNeg) ≤ (l2 + (Int32.ofInt 1)) then (some (.inr (.inr ()))) else ((s_rowWord l0 l1 l2 h).bind fun q4 => (s_rowWord l0 l1 (l2 + (Int32.ofInt 1)) h).bind fun q5 => (s_pair l0 q4 q5 h).bind fun q6 => if q6 < 0 then (some (.inl (l2 + Int32.ofInt 1))) else (some (.inr (.inl ())))) else none
theorem t_s_canBeMeant_12 (b : Bool) (L : Nat) (xs : Nat → Int32) (d : Nat) (hd : 3 ≤ d) {Q : Option Value → pm_H → Prop} (h : pm_H) (s_h : h.1 = tb_SH) (l0 : Nat) (l1 : Int32) (l2 : Int32) (f_l0 : mi_o l0 7 = true) {r : (Int32 ⊕ Unit ⊕ Unit)} (hm : s_canBeMeant_12 l0 l1 l2 h = some r) (hE : E_s_canBeMeant_12 b L xs d Q h l0 l1 r) : PW b L xs d 121 0 0 12 [(Value.ref l0), (Value.int l1), (Value.int l2)] [] h Q := by
  rw [s_canBeMeant_12] at hm
  refine pw_l (pc := 12) d121_12 rfl rfl rfl ?_
  refine pw_s (pc := 13) d121_13 rfl rfl ?_
  refine pw_s (pc := 14) d121_14 rfl rfl ?_
  refine pw_l (pc := 15) d121_15 rfl rfl rfl ?_
  obtain ⟨y1, e_y1, hm⟩ := ob_x hm
  have f_y1 := gA_x e_y1
  refine pw_gr (pc := 16) d121_16 (k121_34 b) (sho s_h f_l0) f7_7 f_y1.1 ?_
  refine pw_l (pc := 19) d121_19 rfl rfl rfl ?_
  obtain ⟨g2, hm⟩ := gd_x hm
  refine pw_ai (pc := 20) d121_20 (sha s_h f_y1.2) (mi_in_x g2) ?_
  refine pw_ige (pc := 21) (t := 53) d121_21 (by decide) (fun c3 => ?_) (fun c3 => ?_)
  · rw [if_pos c3] at hm
    obtain rfl := Option.some.inj hm
    exact hE   (Value.int l2)
  · rw [if_neg c3] at hm
    refine pw_l (pc := 24) d121_24 rfl rfl rfl ?_
    refine pw_l (pc := 25) d121_25 rfl rfl rfl ?_
    refine pw_l (pc := 26) d121_26 rfl rfl rfl ?_
    refine pw_l (pc := 27) d121_27 rfl rfl rfl ?_
    obtain ⟨q4, e_q4, hm⟩ := ob_x hm
    refine pw_v (pc := 28) (k := l0) (by omega) d121_28 (k121_77 b) (by decide) m116 (by decide) rfl (sho s_h f_l0) (Nat.le_of_ble_eq_true rfl) (Nat.le_of_ble_eq_true rfl) rfl rfl (T_s_rowWord b L xs (d - 1) (by omega) h s_h l0 l1 l2 f_l0 e_q4) (fun v0 h0 hq => ?_)
    obtain ⟨rfl, hh0, s_q4⟩ := hq
    rw [hh0] at s_q4 ⊢
    simp only [Option.toList_some, List.cons_append, List.nil_append]
    refine pw_l (pc := 31) d121_31 rfl rfl rfl ?_
    refine pw_l (pc := 32) d121_32 rfl rfl rfl ?_
    refine pw_l (pc := 33) d121_33 rfl rfl rfl ?_
    refine pw_s (pc := 34) d121_34 rfl rfl ?_
    refine pw_s (pc := 35) d121_35 rfl rfl ?_
    obtain ⟨q5, e_q5, hm⟩ := ob_x hm
    refine pw_v (pc := 36) (k := l0) (by omega) d121_36 (k121_77 b) (by decide) m116 (by decide) rfl (sho s_h f_l0) (Nat.le_of_ble_eq_true rfl) (Nat.le_of_ble_eq_true rfl) rfl rfl (T_s_rowWord b L xs (d - 1) (by omega) h s_h l0 l1 (l2 + (Int32.ofInt 1)) f_l0 e_q5) (fun v0 h0 hq => ?_)
    obtain ⟨rfl, hh0, s_q5⟩ := hq
    rw [hh0] at s_q5 ⊢
    simp only [Option.toList_some, List.cons_append, List.nil_append]
    obtain ⟨q6, e_q6, hm⟩ := ob_x hm
    refine pw_v (pc := 39) (k := l0) (by omega) d121_39 (k121_70 b) (by decide) m117 (by decide) rfl (sho s_h f_l0) (Nat.le_of_ble_eq_true rfl) (Nat.le_of_ble_eq_true rfl) rfl rfl (T_s_pair b L xs (d - 1) (by omega) h s_h l0 q4 q5 f_l0 e_q6) (fun v0 h0 hq => ?_)
    obtain ⟨rfl, hh0, s_q6⟩ := hq
    rw [hh0] at s_q6 ⊢
    simp only [Option.toList_some, List.cons_append, List.nil_append]
    refine pw_zlt (pc := 42) (t := 47) d121_42 (by decide) (fun c7 => ?_) (fun c7 => ?_)
    · rw [if_pos c7] at hm
      refine pw_t (pc := 47) d121_47 rfl rfl rfl rfl ?_
      refine pw_go (pc := 50) (t := 12) d121_50 (by decide) ?_
      obtain rfl := Option.some.inj hm
      exact hE   
    · rw [if_neg c7] at hm
      obtain rfl := Option.some.inj hm
      exact hE   (Value.ref l0) (Value.int l1) (Value.int l2)
noncomputable def s_canBeMeant (l0 : Nat) (l1 : Int32) (h : pm_H) : Option Int32 := (s_hasOrder l0 l1 h).bind fun q1 => if ¬ q1 = 0 then ((wh (fun s : Int32 => s_canBeMeant_12 l0 l1 s h) (Int32.ofInt 0)).bind fun q3 => (match q3 with | (.inl eq3_0) => some (Int32.ofInt 0) | (.inr eq3_1) => (wh (fun s : Int32 => s_canBeMeant_55 l0 l1 s h) (Int32.ofInt 0)).bind fun q4 => (match q4 with | (.inl eq4_0) => some (Int32.ofInt 0) | (.inr eq4_1) => some (Int32.ofInt 1)))) else (some (Int32.ofInt 0))
theorem T_s_canBeMeant (b : Bool) (L : Nat) (xs : Nat → Int32) (d : Nat) (hd : 3 ≤ d) (h : pm_H) (s_h : h.1 = tb_SH) (l0 : Nat) (l1 : Int32) (f_l0 : mi_o l0 7 = true) {r : Int32} (hm : s_canBeMeant l0 l1 h = some r) : PC b L xs d 121 [(Value.ref l0), (Value.int l1)] h (fun (v0 : Option Value) (h2 : pm_H) => v0 = (some (Value.int r)) ∧ h2 = h ∧ h2.1 = tb_SH) := by
  refine pc_in e121 (ls0 := [(Value.ref l0), (Value.int l1), Value.retAddr 0]) rfl ?_
  have key : ∀ (Q : Option Value → pm_H → Prop), (Q (some (Value.int r)) h) → PW b L xs d 121 0 0 0 [(Value.ref l0), (Value.int l1), Value.retAddr 0] [] h Q := by
    intro Q hE
    rw [s_canBeMeant] at hm
    refine pw_l (pc := 0) d121_0 rfl rfl rfl ?_
    refine pw_l (pc := 1) d121_1 rfl rfl rfl ?_
    obtain ⟨q1, e_q1, hm⟩ := ob_x hm
    refine pw_v (pc := 2) (k := l0) (by omega) d121_2 (k121_56 b) (by decide) m113 (by decide) rfl (sho s_h f_l0) (Nat.le_of_ble_eq_true rfl) (Nat.le_of_ble_eq_true rfl) rfl rfl (T_s_hasOrder b L xs (d - 1) (by omega) h s_h l0 l1 f_l0 e_q1) (fun v0 h0 hq => ?_)
    obtain ⟨rfl, hh0, s_q1⟩ := hq
    rw [hh0] at s_q1 ⊢
    simp only [Option.toList_some, List.cons_append, List.nil_append]
    refine pw_zne (pc := 5) (t := 10) d121_5 (by decide) (fun c2 => ?_) (fun c2 => ?_)
    · rw [if_pos c2] at hm
      refine pw_s (pc := 10) d121_10 rfl rfl ?_
      refine pw_t (pc := 11) d121_11 rfl rfl rfl rfl ?_
      obtain ⟨q3, e_q3, hm⟩ := ob_x hm
      refine wh_ind e_q3 (fun s : Int32 => PW b L xs d 121 0 0 12 [(Value.ref l0), (Value.int l1), (Value.int s)] [] h Q) (fun s s2 hf ih  => t_s_canBeMeant_12 b L xs d hd h s_h l0 l1 s  f_l0 hf ih) (fun s hf  => t_s_canBeMeant_12 b L xs d hd h s_h l0 l1 s  f_l0 hf ?_)   
      rcases q3 with eq3_0 | eq3_1
      · dsimp only at hm
        intro w0 w1 w2
        refine pw_s (pc := 45) d121_45 rfl rfl ?_
        obtain rfl := Option.some.inj hm
        refine pw_ri (pc := 46) d121_46 t121 rfl ?_
        exact hE
      · dsimp only at hm
        intro w2
        refine pw_s (pc := 53) d121_53 rfl rfl ?_
        refine pw_t (pc := 54) d121_54 rfl rfl rfl rfl ?_
        obtain ⟨q4, e_q4, hm⟩ := ob_x hm
        refine wh_ind e_q4 (fun s : Int32 => PW b L xs d 121 0 0 55 [(Value.ref l0), (Value.int l1), (Value.int s)] [] h Q) (fun s s2 hf ih  => t_s_canBeMeant_55 b L xs d hd h s_h l0 l1 s  f_l0 hf ih) (fun s hf  => t_s_canBeMeant_55 b L xs d hd h s_h l0 l1 s  f_l0 hf ?_)   
        rcases q4 with eq4_0 | eq4_1
        · dsimp only at hm
          intro w0 w1 w2
          refine pw_s (pc := 69) d121_69 rfl rfl ?_
          obtain rfl := Option.some.inj hm
          refine pw_ri (pc := 70) d121_70 t121 rfl ?_
          exact hE
        · dsimp only at hm
          intro w0 w1 w2
          refine pw_s (pc := 77) d121_77 rfl rfl ?_
          obtain rfl := Option.some.inj hm
          refine pw_ri (pc := 78) d121_78 t121 rfl ?_
          exact hE
    · rw [if_neg c2] at hm
      refine pw_s (pc := 8) d121_8 rfl rfl ?_
      obtain rfl := Option.some.inj hm
      refine pw_ri (pc := 9) d121_9 t121 rfl ?_
      exact hE
  exact key _ ⟨rfl, rfl, s_h⟩
