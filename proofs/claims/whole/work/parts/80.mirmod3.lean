/-! Mirrors, written by wip/mir.py. -/
theorem d222_33 : decode (tb_me 222).1.2.1 33 = .ok (.iadd, 1) := by decide +kernel
theorem d222_34 : decode (tb_me 222).1.2.1 34 = .ok (.istore_n 2, 1) := by decide +kernel
theorem d222_35 : decode (tb_me 222).1.2.1 35 = .ok (.iinc 3 1, 3) := by decide +kernel
theorem d222_38 : decode (tb_me 222).1.2.1 38 = .ok (.goto (-34), 3) := by decide +kernel
theorem d222_4 : decode (tb_me 222).1.2.1 4 = .ok (.iload_n 3, 1) := by decide +kernel
theorem d222_5 : decode (tb_me 222).1.2.1 5 = .ok (.aload_n 0, 1) := by decide +kernel
theorem d222_6 : decode (tb_me 222).1.2.1 6 = .ok (.getfield 39, 3) := by decide +kernel
theorem k222_39 (b : Bool) : tb_lk b 222 39 = (1, 10, 20, 0, 0) := by cases b <;> decide +kernel
theorem d222_9 : decode (tb_me 222).1.2.1 9 = .ok (.iconst 2, 1) := by decide +kernel
theorem d222_10 : decode (tb_me 222).1.2.1 10 = .ok (.iaload, 1) := by decide +kernel
theorem d222_11 : decode (tb_me 222).1.2.1 11 = .ok (.if_icmp .ge 30, 3) := by decide +kernel
theorem d222_14 : decode (tb_me 222).1.2.1 14 = .ok (.iload_n 2, 1) := by decide +kernel
theorem d222_15 : decode (tb_me 222).1.2.1 15 = .ok (.iload_n 1, 1) := by decide +kernel
theorem d222_16 : decode (tb_me 222).1.2.1 16 = .ok (.iload_n 3, 1) := by decide +kernel
theorem d222_17 : decode (tb_me 222).1.2.1 17 = .ok (.invokestatic 318, 3) := by decide +kernel
theorem k222_318 (b : Bool) : tb_lk b 222 318 = (4, 149, 0, 0, 0) := by cases b <;> decide +kernel
theorem d222_20 : decode (tb_me 222).1.2.1 20 = .ok (.ifCond .eq 12, 3) := by decide +kernel
theorem d222_32 : decode (tb_me 222).1.2.1 32 = .ok (.iconst 0, 1) := by decide +kernel
theorem d222_23 : decode (tb_me 222).1.2.1 23 = .ok (.aload_n 0, 1) := by decide +kernel
theorem d222_24 : decode (tb_me 222).1.2.1 24 = .ok (.iload_n 3, 1) := by decide +kernel
theorem d222_25 : decode (tb_me 222).1.2.1 25 = .ok (.iconst 0, 1) := by decide +kernel
theorem d222_26 : decode (tb_me 222).1.2.1 26 = .ok (.invokevirtual 293, 3) := by decide +kernel
theorem k222_293 (b : Bool) : tb_lk b 222 293 = (2, 203, 0, 0, 0) := by cases b <;> decide +kernel
theorem d222_29 : decode (tb_me 222).1.2.1 29 = .ok (.goto 4, 3) := by decide +kernel
theorem d222_0 : decode (tb_me 222).1.2.1 0 = .ok (.iconst 0, 1) := by decide +kernel
theorem d222_1 : decode (tb_me 222).1.2.1 1 = .ok (.istore_n 2, 1) := by decide +kernel
theorem d222_2 : decode (tb_me 222).1.2.1 2 = .ok (.iconst 0, 1) := by decide +kernel
theorem d222_3 : decode (tb_me 222).1.2.1 3 = .ok (.istore_n 3, 1) := by decide +kernel
theorem d222_41 : decode (tb_me 222).1.2.1 41 = .ok (.iload_n 2, 1) := by decide +kernel
theorem d222_42 : decode (tb_me 222).1.2.1 42 = .ok (.ireturn, 1) := by decide +kernel
theorem t222 : (tb_me 222).1.2.2.2 = some .int := by decide +kernel
theorem e222 : (tb_me 222).2.1 = (0, 0) ∧ (tb_me 222).1.2.2.1 = 4 := by decide +kernel
theorem d223_0 : decode (tb_me 223).1.2.1 0 = .ok (.iconst 1, 1) := by decide +kernel
theorem d223_1 : decode (tb_me 223).1.2.1 1 = .ok (.aload_n 0, 1) := by decide +kernel
theorem d223_2 : decode (tb_me 223).1.2.1 2 = .ok (.getfield 39, 3) := by decide +kernel
theorem k223_39 (b : Bool) : tb_lk b 223 39 = (1, 10, 20, 0, 0) := by cases b <;> decide +kernel
theorem d223_5 : decode (tb_me 223).1.2.1 5 = .ok (.iconst 2, 1) := by decide +kernel
theorem d223_6 : decode (tb_me 223).1.2.1 6 = .ok (.iaload, 1) := by decide +kernel
theorem d223_7 : decode (tb_me 223).1.2.1 7 = .ok (.ishl, 1) := by decide +kernel
theorem d223_8 : decode (tb_me 223).1.2.1 8 = .ok (.iconst 1, 1) := by decide +kernel
theorem d223_9 : decode (tb_me 223).1.2.1 9 = .ok (.isub, 1) := by decide +kernel
theorem d223_10 : decode (tb_me 223).1.2.1 10 = .ok (.ireturn, 1) := by decide +kernel
theorem t223 : (tb_me 223).1.2.2.2 = some .int := by decide +kernel
theorem e223 : (tb_me 223).2.1 = (0, 0) ∧ (tb_me 223).1.2.2.1 = 1 := by decide +kernel
theorem d224_52 : decode (tb_me 224).1.2.1 52 = .ok (.iload_n 1, 1) := by decide +kernel
theorem d224_53 : decode (tb_me 224).1.2.1 53 = .ok (.bipush 58, 2) := by decide +kernel
theorem d224_55 : decode (tb_me 224).1.2.1 55 = .ok (.if_icmp .ge 29, 3) := by decide +kernel
theorem d224_58 : decode (tb_me 224).1.2.1 58 = .ok (.aload_n 0, 1) := by decide +kernel
theorem d224_59 : decode (tb_me 224).1.2.1 59 = .ok (.getfield 54, 3) := by decide +kernel
theorem k224_54 (b : Bool) : tb_lk b 224 54 = (1, 10, 27, 0, 0) := by cases b <;> decide +kernel
theorem f10_27 : (27 < pm_nf tb_cl 10) ∧ tb_ft 10 27 ≠ .long ∧ pm_isR (tb_ft 10 27) = true := by decide +kernel
theorem d224_62 : decode (tb_me 224).1.2.1 62 = .ok (.bipush 58, 2) := by decide +kernel
theorem d224_64 : decode (tb_me 224).1.2.1 64 = .ok (.aload_n 0, 1) := by decide +kernel
theorem d224_65 : decode (tb_me 224).1.2.1 65 = .ok (.getfield 252, 3) := by decide +kernel
theorem k224_252 (b : Bool) : tb_lk b 224 252 = (1, 10, 28, 0, 0) := by cases b <;> decide +kernel
theorem f10_28 : (28 < pm_nf tb_cl 10) ∧ tb_ft 10 28 ≠ .long ∧ pm_isR (tb_ft 10 28) = false := by decide +kernel
theorem d224_68 : decode (tb_me 224).1.2.1 68 = .ok (.imul, 1) := by decide +kernel
theorem d224_69 : decode (tb_me 224).1.2.1 69 = .ok (.iload_n 1, 1) := by decide +kernel
theorem d224_70 : decode (tb_me 224).1.2.1 70 = .ok (.iadd, 1) := by decide +kernel
theorem d224_71 : decode (tb_me 224).1.2.1 71 = .ok (.aload_n 0, 1) := by decide +kernel
theorem d224_72 : decode (tb_me 224).1.2.1 72 = .ok (.getfield 39, 3) := by decide +kernel
theorem k224_39 (b : Bool) : tb_lk b 224 39 = (1, 10, 20, 0, 0) := by cases b <;> decide +kernel
theorem d224_75 : decode (tb_me 224).1.2.1 75 = .ok (.iload_n 1, 1) := by decide +kernel
theorem d224_76 : decode (tb_me 224).1.2.1 76 = .ok (.iaload, 1) := by decide +kernel
theorem d224_77 : decode (tb_me 224).1.2.1 77 = .ok (.iastore, 1) := by decide +kernel
theorem d224_78 : decode (tb_me 224).1.2.1 78 = .ok (.iinc 1 1, 3) := by decide +kernel
theorem d224_81 : decode (tb_me 224).1.2.1 81 = .ok (.goto (-29), 3) := by decide +kernel
theorem d224_50 : decode (tb_me 224).1.2.1 50 = .ok (.iconst 0, 1) := by decide +kernel
theorem d224_51 : decode (tb_me 224).1.2.1 51 = .ok (.istore_n 1, 1) := by decide +kernel
theorem d224_84 : decode (tb_me 224).1.2.1 84 = .ok (.aload_n 0, 1) := by decide +kernel
theorem d224_85 : decode (tb_me 224).1.2.1 85 = .ok (.dup, 1) := by decide +kernel
theorem d224_86 : decode (tb_me 224).1.2.1 86 = .ok (.getfield 252, 3) := by decide +kernel
theorem d224_89 : decode (tb_me 224).1.2.1 89 = .ok (.iconst 1, 1) := by decide +kernel
theorem d224_90 : decode (tb_me 224).1.2.1 90 = .ok (.iadd, 1) := by decide +kernel
theorem d224_91 : decode (tb_me 224).1.2.1 91 = .ok (.putfield 252, 3) := by decide +kernel
theorem p224_10_28 : (28 < pm_nf tb_cl 10) ∧ tb_ft 10 28 = .int ∧ pm_fin tb_cl (tb_me 224).1.1 10 28 = true := by decide +kernel
theorem d224_94 : decode (tb_me 224).1.2.1 94 = .ok (.return_, 1) := by decide +kernel
theorem t224 : (tb_me 224).1.2.2.2 = none := by decide +kernel
theorem d224_12 : decode (tb_me 224).1.2.1 12 = .ok (.iload_n 1, 1) := by decide +kernel
theorem d224_13 : decode (tb_me 224).1.2.1 13 = .ok (.sipush 1160, 3) := by decide +kernel
theorem d224_16 : decode (tb_me 224).1.2.1 16 = .ok (.if_icmp .ge 24, 3) := by decide +kernel
theorem d224_19 : decode (tb_me 224).1.2.1 19 = .ok (.aload_n 0, 1) := by decide +kernel
theorem d224_20 : decode (tb_me 224).1.2.1 20 = .ok (.getfield 54, 3) := by decide +kernel
theorem d224_23 : decode (tb_me 224).1.2.1 23 = .ok (.iload_n 1, 1) := by decide +kernel
theorem d224_24 : decode (tb_me 224).1.2.1 24 = .ok (.bipush 58, 2) := by decide +kernel
theorem d224_26 : decode (tb_me 224).1.2.1 26 = .ok (.isub, 1) := by decide +kernel
theorem d224_27 : decode (tb_me 224).1.2.1 27 = .ok (.aload_n 0, 1) := by decide +kernel
theorem d224_28 : decode (tb_me 224).1.2.1 28 = .ok (.getfield 54, 3) := by decide +kernel
theorem d224_31 : decode (tb_me 224).1.2.1 31 = .ok (.iload_n 1, 1) := by decide +kernel
theorem d224_32 : decode (tb_me 224).1.2.1 32 = .ok (.iaload, 1) := by decide +kernel
theorem d224_33 : decode (tb_me 224).1.2.1 33 = .ok (.iastore, 1) := by decide +kernel
theorem d224_34 : decode (tb_me 224).1.2.1 34 = .ok (.iinc 1 1, 3) := by decide +kernel
theorem d224_37 : decode (tb_me 224).1.2.1 37 = .ok (.goto (-25), 3) := by decide +kernel
theorem d224_0 : decode (tb_me 224).1.2.1 0 = .ok (.aload_n 0, 1) := by decide +kernel
theorem d224_1 : decode (tb_me 224).1.2.1 1 = .ok (.getfield 252, 3) := by decide +kernel
theorem d224_4 : decode (tb_me 224).1.2.1 4 = .ok (.bipush 20, 2) := by decide +kernel
theorem d224_6 : decode (tb_me 224).1.2.1 6 = .ok (.if_icmp .ne 44, 3) := by decide +kernel
theorem d224_9 : decode (tb_me 224).1.2.1 9 = .ok (.bipush 58, 2) := by decide +kernel
theorem d224_11 : decode (tb_me 224).1.2.1 11 = .ok (.istore_n 1, 1) := by decide +kernel
theorem d224_40 : decode (tb_me 224).1.2.1 40 = .ok (.aload_n 0, 1) := by decide +kernel
theorem d224_41 : decode (tb_me 224).1.2.1 41 = .ok (.dup, 1) := by decide +kernel
theorem d224_42 : decode (tb_me 224).1.2.1 42 = .ok (.getfield 252, 3) := by decide +kernel
theorem d224_45 : decode (tb_me 224).1.2.1 45 = .ok (.iconst 1, 1) := by decide +kernel
theorem d224_46 : decode (tb_me 224).1.2.1 46 = .ok (.isub, 1) := by decide +kernel
theorem d224_47 : decode (tb_me 224).1.2.1 47 = .ok (.putfield 252, 3) := by decide +kernel
theorem e224 : (tb_me 224).2.1 = (0, 0) ∧ (tb_me 224).1.2.2.1 = 2 := by decide +kernel
theorem d225_21 : decode (tb_me 225).1.2.1 21 = .ok (.iload_n 1, 1) := by decide +kernel
theorem d225_22 : decode (tb_me 225).1.2.1 22 = .ok (.bipush 58, 2) := by decide +kernel
theorem d225_24 : decode (tb_me 225).1.2.1 24 = .ok (.if_icmp .ge 29, 3) := by decide +kernel
theorem d225_27 : decode (tb_me 225).1.2.1 27 = .ok (.aload_n 0, 1) := by decide +kernel
theorem d225_28 : decode (tb_me 225).1.2.1 28 = .ok (.getfield 39, 3) := by decide +kernel
theorem k225_39 (b : Bool) : tb_lk b 225 39 = (1, 10, 20, 0, 0) := by cases b <;> decide +kernel
theorem d225_31 : decode (tb_me 225).1.2.1 31 = .ok (.iload_n 1, 1) := by decide +kernel
theorem d225_32 : decode (tb_me 225).1.2.1 32 = .ok (.aload_n 0, 1) := by decide +kernel
theorem d225_33 : decode (tb_me 225).1.2.1 33 = .ok (.getfield 54, 3) := by decide +kernel
theorem k225_54 (b : Bool) : tb_lk b 225 54 = (1, 10, 27, 0, 0) := by cases b <;> decide +kernel
theorem d225_36 : decode (tb_me 225).1.2.1 36 = .ok (.bipush 58, 2) := by decide +kernel
theorem d225_38 : decode (tb_me 225).1.2.1 38 = .ok (.aload_n 0, 1) := by decide +kernel
theorem d225_39 : decode (tb_me 225).1.2.1 39 = .ok (.getfield 252, 3) := by decide +kernel
theorem k225_252 (b : Bool) : tb_lk b 225 252 = (1, 10, 28, 0, 0) := by cases b <;> decide +kernel
theorem d225_42 : decode (tb_me 225).1.2.1 42 = .ok (.imul, 1) := by decide +kernel
theorem d225_43 : decode (tb_me 225).1.2.1 43 = .ok (.iload_n 1, 1) := by decide +kernel
theorem d225_44 : decode (tb_me 225).1.2.1 44 = .ok (.iadd, 1) := by decide +kernel
theorem d225_45 : decode (tb_me 225).1.2.1 45 = .ok (.iaload, 1) := by decide +kernel
theorem d225_46 : decode (tb_me 225).1.2.1 46 = .ok (.iastore, 1) := by decide +kernel
theorem d225_47 : decode (tb_me 225).1.2.1 47 = .ok (.iinc 1 1, 3) := by decide +kernel
theorem d225_50 : decode (tb_me 225).1.2.1 50 = .ok (.goto (-29), 3) := by decide +kernel
theorem d225_0 : decode (tb_me 225).1.2.1 0 = .ok (.aload_n 0, 1) := by decide +kernel
theorem d225_1 : decode (tb_me 225).1.2.1 1 = .ok (.getfield 252, 3) := by decide +kernel
theorem d225_4 : decode (tb_me 225).1.2.1 4 = .ok (.ifCond .ne 5, 3) := by decide +kernel
theorem d225_9 : decode (tb_me 225).1.2.1 9 = .ok (.aload_n 0, 1) := by decide +kernel
theorem d225_10 : decode (tb_me 225).1.2.1 10 = .ok (.dup, 1) := by decide +kernel
theorem d225_11 : decode (tb_me 225).1.2.1 11 = .ok (.getfield 252, 3) := by decide +kernel
theorem d225_14 : decode (tb_me 225).1.2.1 14 = .ok (.iconst 1, 1) := by decide +kernel
theorem d225_15 : decode (tb_me 225).1.2.1 15 = .ok (.isub, 1) := by decide +kernel
theorem d225_16 : decode (tb_me 225).1.2.1 16 = .ok (.putfield 252, 3) := by decide +kernel
theorem p225_10_28 : (28 < pm_nf tb_cl 10) ∧ tb_ft 10 28 = .int ∧ pm_fin tb_cl (tb_me 225).1.1 10 28 = true := by decide +kernel
theorem d225_19 : decode (tb_me 225).1.2.1 19 = .ok (.iconst 0, 1) := by decide +kernel
theorem d225_20 : decode (tb_me 225).1.2.1 20 = .ok (.istore_n 1, 1) := by decide +kernel
theorem d225_53 : decode (tb_me 225).1.2.1 53 = .ok (.aload_n 0, 1) := by decide +kernel
theorem d225_54 : decode (tb_me 225).1.2.1 54 = .ok (.getfield 252, 3) := by decide +kernel
theorem d225_57 : decode (tb_me 225).1.2.1 57 = .ok (.ireturn, 1) := by decide +kernel
theorem t225 : (tb_me 225).1.2.2.2 = some .int := by decide +kernel
theorem d225_7 : decode (tb_me 225).1.2.1 7 = .ok (.iconst (-1), 1) := by decide +kernel
theorem d225_8 : decode (tb_me 225).1.2.1 8 = .ok (.ireturn, 1) := by decide +kernel
theorem e225 : (tb_me 225).2.1 = (0, 0) ∧ (tb_me 225).1.2.2.1 = 2 := by decide +kernel
theorem d226_13 : decode (tb_me 226).1.2.1 13 = .ok (.iload_n 3, 1) := by decide +kernel
theorem d226_14 : decode (tb_me 226).1.2.1 14 = .ok (.iload_n 2, 1) := by decide +kernel
theorem d226_15 : decode (tb_me 226).1.2.1 15 = .ok (.if_icmp .ge 36, 3) := by decide +kernel
theorem d226_18 : decode (tb_me 226).1.2.1 18 = .ok (.aload_n 0, 1) := by decide +kernel
theorem d226_19 : decode (tb_me 226).1.2.1 19 = .ok (.getfield 45, 3) := by decide +kernel
theorem k226_45 (b : Bool) : tb_lk b 226 45 = (1, 10, 24, 0, 0) := by cases b <;> decide +kernel
theorem d226_22 : decode (tb_me 226).1.2.1 22 = .ok (.iload_n 3, 1) := by decide +kernel
theorem d226_23 : decode (tb_me 226).1.2.1 23 = .ok (.iload_n 1, 1) := by decide +kernel
theorem d226_24 : decode (tb_me 226).1.2.1 24 = .ok (.iload_n 2, 1) := by decide +kernel
theorem d226_25 : decode (tb_me 226).1.2.1 25 = .ok (.iload_n 3, 1) := by decide +kernel
theorem d226_26 : decode (tb_me 226).1.2.1 26 = .ok (.invokestatic 311, 3) := by decide +kernel
theorem k226_311 (b : Bool) : tb_lk b 226 311 = (4, 211, 0, 0, 0) := by cases b <;> decide +kernel
theorem d226_29 : decode (tb_me 226).1.2.1 29 = .ok (.iastore, 1) := by decide +kernel
theorem d226_30 : decode (tb_me 226).1.2.1 30 = .ok (.aload_n 0, 1) := by decide +kernel
theorem d226_31 : decode (tb_me 226).1.2.1 31 = .ok (.aload_n 0, 1) := by decide +kernel
theorem d226_32 : decode (tb_me 226).1.2.1 32 = .ok (.getfield 45, 3) := by decide +kernel
theorem d226_35 : decode (tb_me 226).1.2.1 35 = .ok (.iload_n 3, 1) := by decide +kernel
theorem d226_36 : decode (tb_me 226).1.2.1 36 = .ok (.iaload, 1) := by decide +kernel
theorem d226_37 : decode (tb_me 226).1.2.1 37 = .ok (.invokevirtual 283, 3) := by decide +kernel
theorem k226_283 (b : Bool) : tb_lk b 226 283 = (2, 199, 0, 0, 0) := by cases b <;> decide +kernel
theorem d226_40 : decode (tb_me 226).1.2.1 40 = .ok (.ifCond .ne 5, 3) := by decide +kernel
theorem d226_45 : decode (tb_me 226).1.2.1 45 = .ok (.iinc 3 1, 3) := by decide +kernel
theorem d226_48 : decode (tb_me 226).1.2.1 48 = .ok (.goto (-35), 3) := by decide +kernel
theorem d226_0 : decode (tb_me 226).1.2.1 0 = .ok (.aload_n 0, 1) := by decide +kernel
theorem d226_1 : decode (tb_me 226).1.2.1 1 = .ok (.iload_n 1, 1) := by decide +kernel
theorem d226_2 : decode (tb_me 226).1.2.1 2 = .ok (.iload_n 2, 1) := by decide +kernel
theorem d226_3 : decode (tb_me 226).1.2.1 3 = .ok (.invokevirtual 345, 3) := by decide +kernel
theorem k226_345 (b : Bool) : tb_lk b 226 345 = (2, 214, 0, 0, 0) := by cases b <;> decide +kernel
theorem m214 : (tb_me 214).2 = ((0, 0), (2, 10)) ∧ (tb_me 214).1.2.2.1 = 6 := by decide +kernel
theorem d226_6 : decode (tb_me 226).1.2.1 6 = .ok (.ifCond .ne 5, 3) := by decide +kernel
theorem d226_11 : decode (tb_me 226).1.2.1 11 = .ok (.iconst 0, 1) := by decide +kernel
theorem d226_12 : decode (tb_me 226).1.2.1 12 = .ok (.istore_n 3, 1) := by decide +kernel
theorem d226_43 : decode (tb_me 226).1.2.1 43 = .ok (.iconst (-1), 1) := by decide +kernel
theorem d226_44 : decode (tb_me 226).1.2.1 44 = .ok (.ireturn, 1) := by decide +kernel
theorem t226 : (tb_me 226).1.2.2.2 = some .int := by decide +kernel
theorem d226_51 : decode (tb_me 226).1.2.1 51 = .ok (.aload_n 0, 1) := by decide +kernel
theorem d226_52 : decode (tb_me 226).1.2.1 52 = .ok (.invokevirtual 348, 3) := by decide +kernel
theorem k226_348 (b : Bool) : tb_lk b 226 348 = (2, 224, 0, 0, 0) := by cases b <;> decide +kernel
theorem m224 : (tb_me 224).2 = ((0, 0), (0, 10)) ∧ (tb_me 224).1.2.2.1 = 2 := by decide +kernel
theorem d226_55 : decode (tb_me 226).1.2.1 55 = .ok (.aload_n 0, 1) := by decide +kernel
theorem d226_56 : decode (tb_me 226).1.2.1 56 = .ok (.iload_n 2, 1) := by decide +kernel
theorem d226_57 : decode (tb_me 226).1.2.1 57 = .ok (.invokevirtual 333, 3) := by decide +kernel
theorem k226_333 (b : Bool) : tb_lk b 226 333 = (2, 216, 0, 0, 0) := by cases b <;> decide +kernel
theorem d226_60 : decode (tb_me 226).1.2.1 60 = .ok (.istore_n 3, 1) := by decide +kernel
theorem d226_61 : decode (tb_me 226).1.2.1 61 = .ok (.iload_n 3, 1) := by decide +kernel
theorem d226_62 : decode (tb_me 226).1.2.1 62 = .ok (.ifCond .ge 8, 3) := by decide +kernel
theorem d226_70 : decode (tb_me 226).1.2.1 70 = .ok (.iload_n 3, 1) := by decide +kernel
theorem d226_71 : decode (tb_me 226).1.2.1 71 = .ok (.ireturn, 1) := by decide +kernel
theorem d226_65 : decode (tb_me 226).1.2.1 65 = .ok (.bipush (-2), 2) := by decide +kernel
theorem d226_67 : decode (tb_me 226).1.2.1 67 = .ok (.goto 4, 3) := by decide +kernel
theorem d226_9 : decode (tb_me 226).1.2.1 9 = .ok (.iconst (-1), 1) := by decide +kernel
theorem d226_10 : decode (tb_me 226).1.2.1 10 = .ok (.ireturn, 1) := by decide +kernel
theorem e226 : (tb_me 226).2.1 = (0, 0) ∧ (tb_me 226).1.2.2.1 = 4 := by decide +kernel
theorem d227_76 : decode (tb_me 227).1.2.1 76 = .ok (.iastore, 1) := by decide +kernel
theorem d227_77 : decode (tb_me 227).1.2.1 77 = .ok (.iinc 1 1, 3) := by decide +kernel
theorem d227_80 : decode (tb_me 227).1.2.1 80 = .ok (.goto (-78), 3) := by decide +kernel
theorem d227_43 : decode (tb_me 227).1.2.1 43 = .ok (.aload_n 0, 1) := by decide +kernel
theorem d227_44 : decode (tb_me 227).1.2.1 44 = .ok (.getfield 39, 3) := by decide +kernel
theorem k227_39 (b : Bool) : tb_lk b 227 39 = (1, 10, 20, 0, 0) := by cases b <;> decide +kernel
theorem d227_47 : decode (tb_me 227).1.2.1 47 = .ok (.iload_n 2, 1) := by decide +kernel
theorem d227_48 : decode (tb_me 227).1.2.1 48 = .ok (.iconst 5, 1) := by decide +kernel
theorem d227_49 : decode (tb_me 227).1.2.1 49 = .ok (.iadd, 1) := by decide +kernel
theorem d227_50 : decode (tb_me 227).1.2.1 50 = .ok (.aload_n 0, 1) := by decide +kernel
theorem d227_51 : decode (tb_me 227).1.2.1 51 = .ok (.getfield 39, 3) := by decide +kernel
theorem d227_54 : decode (tb_me 227).1.2.1 54 = .ok (.iload_n 2, 1) := by decide +kernel
theorem d227_55 : decode (tb_me 227).1.2.1 55 = .ok (.iconst 2, 1) := by decide +kernel
theorem d227_56 : decode (tb_me 227).1.2.1 56 = .ok (.iadd, 1) := by decide +kernel
theorem d227_57 : decode (tb_me 227).1.2.1 57 = .ok (.iaload, 1) := by decide +kernel
theorem d227_58 : decode (tb_me 227).1.2.1 58 = .ok (.iconst 1, 1) := by decide +kernel
theorem d227_59 : decode (tb_me 227).1.2.1 59 = .ok (.if_icmp .ne 16, 3) := by decide +kernel
theorem d227_75 : decode (tb_me 227).1.2.1 75 = .ok (.iconst 0, 1) := by decide +kernel
theorem d227_62 : decode (tb_me 227).1.2.1 62 = .ok (.aload_n 0, 1) := by decide +kernel
theorem d227_63 : decode (tb_me 227).1.2.1 63 = .ok (.getfield 39, 3) := by decide +kernel
theorem d227_66 : decode (tb_me 227).1.2.1 66 = .ok (.iload_n 2, 1) := by decide +kernel
theorem d227_67 : decode (tb_me 227).1.2.1 67 = .ok (.iconst 5, 1) := by decide +kernel
theorem d227_68 : decode (tb_me 227).1.2.1 68 = .ok (.iadd, 1) := by decide +kernel
theorem d227_69 : decode (tb_me 227).1.2.1 69 = .ok (.iaload, 1) := by decide +kernel
theorem d227_70 : decode (tb_me 227).1.2.1 70 = .ok (.iconst 1, 1) := by decide +kernel
theorem d227_71 : decode (tb_me 227).1.2.1 71 = .ok (.iadd, 1) := by decide +kernel
theorem d227_72 : decode (tb_me 227).1.2.1 72 = .ok (.goto 4, 3) := by decide +kernel
theorem d227_2 : decode (tb_me 227).1.2.1 2 = .ok (.iload_n 1, 1) := by decide +kernel
theorem d227_3 : decode (tb_me 227).1.2.1 3 = .ok (.aload_n 0, 1) := by decide +kernel
theorem d227_4 : decode (tb_me 227).1.2.1 4 = .ok (.getfield 39, 3) := by decide +kernel
theorem d227_7 : decode (tb_me 227).1.2.1 7 = .ok (.iconst 1, 1) := by decide +kernel
theorem d227_8 : decode (tb_me 227).1.2.1 8 = .ok (.iaload, 1) := by decide +kernel
theorem d227_9 : decode (tb_me 227).1.2.1 9 = .ok (.if_icmp .ge 74, 3) := by decide +kernel
theorem d227_12 : decode (tb_me 227).1.2.1 12 = .ok (.bipush 10, 2) := by decide +kernel
theorem d227_14 : decode (tb_me 227).1.2.1 14 = .ok (.bipush 6, 2) := by decide +kernel
theorem d227_16 : decode (tb_me 227).1.2.1 16 = .ok (.iload_n 1, 1) := by decide +kernel
theorem d227_17 : decode (tb_me 227).1.2.1 17 = .ok (.imul, 1) := by decide +kernel
theorem d227_18 : decode (tb_me 227).1.2.1 18 = .ok (.iadd, 1) := by decide +kernel
theorem d227_19 : decode (tb_me 227).1.2.1 19 = .ok (.istore_n 2, 1) := by decide +kernel
theorem d227_20 : decode (tb_me 227).1.2.1 20 = .ok (.aload_n 0, 1) := by decide +kernel
theorem d227_21 : decode (tb_me 227).1.2.1 21 = .ok (.getfield 39, 3) := by decide +kernel
theorem d227_24 : decode (tb_me 227).1.2.1 24 = .ok (.iload_n 2, 1) := by decide +kernel
theorem d227_25 : decode (tb_me 227).1.2.1 25 = .ok (.iconst 3, 1) := by decide +kernel
theorem d227_26 : decode (tb_me 227).1.2.1 26 = .ok (.iadd, 1) := by decide +kernel
theorem d227_27 : decode (tb_me 227).1.2.1 27 = .ok (.iaload, 1) := by decide +kernel
theorem d227_28 : decode (tb_me 227).1.2.1 28 = .ok (.ifCond .le 15, 3) := by decide +kernel
theorem d227_31 : decode (tb_me 227).1.2.1 31 = .ok (.aload_n 0, 1) := by decide +kernel
theorem d227_32 : decode (tb_me 227).1.2.1 32 = .ok (.getfield 39, 3) := by decide +kernel
theorem d227_35 : decode (tb_me 227).1.2.1 35 = .ok (.iload_n 2, 1) := by decide +kernel
theorem d227_36 : decode (tb_me 227).1.2.1 36 = .ok (.iconst 3, 1) := by decide +kernel
theorem d227_37 : decode (tb_me 227).1.2.1 37 = .ok (.iadd, 1) := by decide +kernel
theorem d227_38 : decode (tb_me 227).1.2.1 38 = .ok (.dup2, 1) := by decide +kernel
theorem d227_39 : decode (tb_me 227).1.2.1 39 = .ok (.iaload, 1) := by decide +kernel
theorem d227_40 : decode (tb_me 227).1.2.1 40 = .ok (.iconst 1, 1) := by decide +kernel
theorem d227_41 : decode (tb_me 227).1.2.1 41 = .ok (.isub, 1) := by decide +kernel
theorem d227_42 : decode (tb_me 227).1.2.1 42 = .ok (.iastore, 1) := by decide +kernel
theorem d227_0 : decode (tb_me 227).1.2.1 0 = .ok (.iconst 0, 1) := by decide +kernel
theorem d227_1 : decode (tb_me 227).1.2.1 1 = .ok (.istore_n 1, 1) := by decide +kernel
theorem d227_83 : decode (tb_me 227).1.2.1 83 = .ok (.aload_n 0, 1) := by decide +kernel
theorem d227_84 : decode (tb_me 227).1.2.1 84 = .ok (.getfield 39, 3) := by decide +kernel
theorem d227_87 : decode (tb_me 227).1.2.1 87 = .ok (.iconst 4, 1) := by decide +kernel
theorem d227_88 : decode (tb_me 227).1.2.1 88 = .ok (.dup2, 1) := by decide +kernel
theorem d227_89 : decode (tb_me 227).1.2.1 89 = .ok (.iaload, 1) := by decide +kernel
theorem d227_90 : decode (tb_me 227).1.2.1 90 = .ok (.iconst 1, 1) := by decide +kernel
theorem d227_91 : decode (tb_me 227).1.2.1 91 = .ok (.iadd, 1) := by decide +kernel
theorem d227_92 : decode (tb_me 227).1.2.1 92 = .ok (.iastore, 1) := by decide +kernel
theorem d227_93 : decode (tb_me 227).1.2.1 93 = .ok (.return_, 1) := by decide +kernel
theorem t227 : (tb_me 227).1.2.2.2 = none := by decide +kernel
theorem e227 : (tb_me 227).2.1 = (0, 0) ∧ (tb_me 227).1.2.2.1 = 3 := by decide +kernel
theorem d228_0 : decode (tb_me 228).1.2.1 0 = .ok (.aload_n 0, 1) := by decide +kernel
theorem d228_1 : decode (tb_me 228).1.2.1 1 = .ok (.invokevirtual 305, 3) := by decide +kernel
theorem k228_305 (b : Bool) : tb_lk b 228 305 = (2, 192, 0, 0, 0) := by cases b <;> decide +kernel
theorem d228_4 : decode (tb_me 228).1.2.1 4 = .ok (.ifCond .eq 15, 3) := by decide +kernel
theorem d228_19 : decode (tb_me 228).1.2.1 19 = .ok (.iconst (-1), 1) := by decide +kernel
theorem d228_20 : decode (tb_me 228).1.2.1 20 = .ok (.ireturn, 1) := by decide +kernel
theorem t228 : (tb_me 228).1.2.2.2 = some .int := by decide +kernel
theorem d228_7 : decode (tb_me 228).1.2.1 7 = .ok (.aload_n 0, 1) := by decide +kernel
theorem d228_8 : decode (tb_me 228).1.2.1 8 = .ok (.getfield 39, 3) := by decide +kernel
theorem k228_39 (b : Bool) : tb_lk b 228 39 = (1, 10, 20, 0, 0) := by cases b <;> decide +kernel
theorem d228_11 : decode (tb_me 228).1.2.1 11 = .ok (.iconst 4, 1) := by decide +kernel
theorem d228_12 : decode (tb_me 228).1.2.1 12 = .ok (.iaload, 1) := by decide +kernel
theorem d228_13 : decode (tb_me 228).1.2.1 13 = .ok (.sipush 999, 3) := by decide +kernel
theorem d228_16 : decode (tb_me 228).1.2.1 16 = .ok (.if_icmp .ne 5, 3) := by decide +kernel
theorem d228_21 : decode (tb_me 228).1.2.1 21 = .ok (.aload_n 0, 1) := by decide +kernel
theorem d228_22 : decode (tb_me 228).1.2.1 22 = .ok (.invokevirtual 348, 3) := by decide +kernel
theorem k228_348 (b : Bool) : tb_lk b 228 348 = (2, 224, 0, 0, 0) := by cases b <;> decide +kernel
theorem d228_25 : decode (tb_me 228).1.2.1 25 = .ok (.aload_n 0, 1) := by decide +kernel
theorem d228_26 : decode (tb_me 228).1.2.1 26 = .ok (.invokevirtual 351, 3) := by decide +kernel
theorem k228_351 (b : Bool) : tb_lk b 228 351 = (2, 227, 0, 0, 0) := by cases b <;> decide +kernel
theorem m227 : (tb_me 227).2 = ((0, 0), (0, 10)) ∧ (tb_me 227).1.2.2.1 = 3 := by decide +kernel
theorem d228_29 : decode (tb_me 228).1.2.1 29 = .ok (.aload_n 0, 1) := by decide +kernel
theorem d228_30 : decode (tb_me 228).1.2.1 30 = .ok (.getfield 39, 3) := by decide +kernel
theorem d228_33 : decode (tb_me 228).1.2.1 33 = .ok (.iconst 4, 1) := by decide +kernel
theorem d228_34 : decode (tb_me 228).1.2.1 34 = .ok (.iaload, 1) := by decide +kernel
theorem d228_35 : decode (tb_me 228).1.2.1 35 = .ok (.ireturn, 1) := by decide +kernel
theorem e228 : (tb_me 228).2.1 = (0, 0) ∧ (tb_me 228).1.2.2.1 = 1 := by decide +kernel
theorem d229_55 : decode (tb_me 229).1.2.1 55 = .ok (.iastore, 1) := by decide +kernel
theorem d229_56 : decode (tb_me 229).1.2.1 56 = .ok (.iconst 1, 1) := by decide +kernel
theorem d229_57 : decode (tb_me 229).1.2.1 57 = .ok (.ireturn, 1) := by decide +kernel
theorem t229 : (tb_me 229).1.2.2.2 = some .boolean := by decide +kernel
theorem d229_23 : decode (tb_me 229).1.2.1 23 = .ok (.iload_n 2, 1) := by decide +kernel
theorem d229_24 : decode (tb_me 229).1.2.1 24 = .ok (.if_icmp .ne 5, 3) := by decide +kernel
theorem d229_29 : decode (tb_me 229).1.2.1 29 = .ok (.aload_n 0, 1) := by decide +kernel
theorem d229_30 : decode (tb_me 229).1.2.1 30 = .ok (.invokevirtual 348, 3) := by decide +kernel
theorem k229_348 (b : Bool) : tb_lk b 229 348 = (2, 224, 0, 0, 0) := by cases b <;> decide +kernel
theorem d229_33 : decode (tb_me 229).1.2.1 33 = .ok (.aload_n 0, 1) := by decide +kernel
theorem d229_34 : decode (tb_me 229).1.2.1 34 = .ok (.getfield 39, 3) := by decide +kernel
theorem k229_39 (b : Bool) : tb_lk b 229 39 = (1, 10, 20, 0, 0) := by cases b <;> decide +kernel
theorem d229_37 : decode (tb_me 229).1.2.1 37 = .ok (.bipush 10, 2) := by decide +kernel
theorem d229_39 : decode (tb_me 229).1.2.1 39 = .ok (.bipush 6, 2) := by decide +kernel
theorem d229_41 : decode (tb_me 229).1.2.1 41 = .ok (.iload_n 1, 1) := by decide +kernel
theorem d229_42 : decode (tb_me 229).1.2.1 42 = .ok (.imul, 1) := by decide +kernel
theorem d229_43 : decode (tb_me 229).1.2.1 43 = .ok (.iadd, 1) := by decide +kernel
theorem d229_44 : decode (tb_me 229).1.2.1 44 = .ok (.iconst 2, 1) := by decide +kernel
theorem d229_45 : decode (tb_me 229).1.2.1 45 = .ok (.iadd, 1) := by decide +kernel
theorem d229_46 : decode (tb_me 229).1.2.1 46 = .ok (.iload_n 2, 1) := by decide +kernel
theorem d229_47 : decode (tb_me 229).1.2.1 47 = .ok (.ifCond .eq 7, 3) := by decide +kernel
theorem d229_54 : decode (tb_me 229).1.2.1 54 = .ok (.iconst 0, 1) := by decide +kernel
theorem d229_50 : decode (tb_me 229).1.2.1 50 = .ok (.iconst 1, 1) := by decide +kernel
theorem d229_51 : decode (tb_me 229).1.2.1 51 = .ok (.goto 4, 3) := by decide +kernel
theorem d229_27 : decode (tb_me 229).1.2.1 27 = .ok (.iconst 0, 1) := by decide +kernel
theorem d229_28 : decode (tb_me 229).1.2.1 28 = .ok (.ireturn, 1) := by decide +kernel
theorem d229_0 : decode (tb_me 229).1.2.1 0 = .ok (.aload_n 0, 1) := by decide +kernel
theorem d229_1 : decode (tb_me 229).1.2.1 1 = .ok (.iload_n 1, 1) := by decide +kernel
theorem d229_2 : decode (tb_me 229).1.2.1 2 = .ok (.invokevirtual 277, 3) := by decide +kernel
theorem k229_277 (b : Bool) : tb_lk b 229 277 = (2, 197, 0, 0, 0) := by cases b <;> decide +kernel
theorem d229_5 : decode (tb_me 229).1.2.1 5 = .ok (.ifCond .eq 22, 3) := by decide +kernel
theorem d229_8 : decode (tb_me 229).1.2.1 8 = .ok (.aload_n 0, 1) := by decide +kernel
theorem d229_9 : decode (tb_me 229).1.2.1 9 = .ok (.iload_n 1, 1) := by decide +kernel
theorem d229_10 : decode (tb_me 229).1.2.1 10 = .ok (.iconst 2, 1) := by decide +kernel
theorem d229_11 : decode (tb_me 229).1.2.1 11 = .ok (.invokevirtual 273, 3) := by decide +kernel
theorem k229_273 (b : Bool) : tb_lk b 229 273 = (2, 196, 0, 0, 0) := by cases b <;> decide +kernel
theorem d229_14 : decode (tb_me 229).1.2.1 14 = .ok (.iconst 1, 1) := by decide +kernel
theorem d229_15 : decode (tb_me 229).1.2.1 15 = .ok (.if_icmp .ne 7, 3) := by decide +kernel
theorem d229_22 : decode (tb_me 229).1.2.1 22 = .ok (.iconst 0, 1) := by decide +kernel
theorem d229_18 : decode (tb_me 229).1.2.1 18 = .ok (.iconst 1, 1) := by decide +kernel
theorem d229_19 : decode (tb_me 229).1.2.1 19 = .ok (.goto 4, 3) := by decide +kernel
theorem e229 : (tb_me 229).2.1 = (0, 0) ∧ (tb_me 229).1.2.2.1 = 3 := by decide +kernel
theorem d230_0 : decode (tb_me 230).1.2.1 0 = .ok (.aload_n 0, 1) := by decide +kernel
theorem d230_1 : decode (tb_me 230).1.2.1 1 = .ok (.iload_n 1, 1) := by decide +kernel
theorem d230_2 : decode (tb_me 230).1.2.1 2 = .ok (.invokevirtual 277, 3) := by decide +kernel
theorem k230_277 (b : Bool) : tb_lk b 230 277 = (2, 197, 0, 0, 0) := by cases b <;> decide +kernel
theorem d230_5 : decode (tb_me 230).1.2.1 5 = .ok (.ifCond .eq 15, 3) := by decide +kernel
theorem d230_20 : decode (tb_me 230).1.2.1 20 = .ok (.iconst (-1), 1) := by decide +kernel
theorem d230_21 : decode (tb_me 230).1.2.1 21 = .ok (.ireturn, 1) := by decide +kernel
theorem t230 : (tb_me 230).1.2.2.2 = some .int := by decide +kernel
theorem d230_8 : decode (tb_me 230).1.2.1 8 = .ok (.iload_n 2, 1) := by decide +kernel
theorem d230_9 : decode (tb_me 230).1.2.1 9 = .ok (.i2l, 1) := by decide +kernel
theorem d230_10 : decode (tb_me 230).1.2.1 10 = .ok (.lconst 0, 1) := by decide +kernel
theorem d230_11 : decode (tb_me 230).1.2.1 11 = .ok (.ldc2_w 354, 3) := by decide +kernel
theorem k230_354 (b : Bool) : tb_lk b 230 354 = (12, 0, 0, 0, 9) := by cases b <;> decide +kernel
theorem d230_14 : decode (tb_me 230).1.2.1 14 = .ok (.invokestatic 112, 3) := by decide +kernel
theorem k230_112 (b : Bool) : tb_lk b 230 112 = (4, 148, 0, 0, 0) := by cases b <;> decide +kernel
theorem d230_17 : decode (tb_me 230).1.2.1 17 = .ok (.ifCond .ne 5, 3) := by decide +kernel
theorem d230_22 : decode (tb_me 230).1.2.1 22 = .ok (.aload_n 0, 1) := by decide +kernel
theorem d230_23 : decode (tb_me 230).1.2.1 23 = .ok (.invokevirtual 348, 3) := by decide +kernel
theorem k230_348 (b : Bool) : tb_lk b 230 348 = (2, 224, 0, 0, 0) := by cases b <;> decide +kernel
theorem d230_26 : decode (tb_me 230).1.2.1 26 = .ok (.aload_n 0, 1) := by decide +kernel
theorem d230_27 : decode (tb_me 230).1.2.1 27 = .ok (.iload_n 1, 1) := by decide +kernel
theorem d230_28 : decode (tb_me 230).1.2.1 28 = .ok (.iconst 3, 1) := by decide +kernel
theorem d230_29 : decode (tb_me 230).1.2.1 29 = .ok (.invokevirtual 273, 3) := by decide +kernel
theorem k230_273 (b : Bool) : tb_lk b 230 273 = (2, 196, 0, 0, 0) := by cases b <;> decide +kernel
theorem d230_32 : decode (tb_me 230).1.2.1 32 = .ok (.istore_n 3, 1) := by decide +kernel
theorem d230_33 : decode (tb_me 230).1.2.1 33 = .ok (.aload_n 0, 1) := by decide +kernel
theorem d230_34 : decode (tb_me 230).1.2.1 34 = .ok (.getfield 39, 3) := by decide +kernel
theorem k230_39 (b : Bool) : tb_lk b 230 39 = (1, 10, 20, 0, 0) := by cases b <;> decide +kernel
theorem d230_37 : decode (tb_me 230).1.2.1 37 = .ok (.bipush 10, 2) := by decide +kernel
theorem d230_39 : decode (tb_me 230).1.2.1 39 = .ok (.bipush 6, 2) := by decide +kernel
theorem d230_41 : decode (tb_me 230).1.2.1 41 = .ok (.iload_n 1, 1) := by decide +kernel
theorem d230_42 : decode (tb_me 230).1.2.1 42 = .ok (.imul, 1) := by decide +kernel
theorem d230_43 : decode (tb_me 230).1.2.1 43 = .ok (.iadd, 1) := by decide +kernel
theorem d230_44 : decode (tb_me 230).1.2.1 44 = .ok (.iconst 3, 1) := by decide +kernel
theorem d230_45 : decode (tb_me 230).1.2.1 45 = .ok (.iadd, 1) := by decide +kernel
theorem d230_46 : decode (tb_me 230).1.2.1 46 = .ok (.iload_n 2, 1) := by decide +kernel
theorem d230_47 : decode (tb_me 230).1.2.1 47 = .ok (.iastore, 1) := by decide +kernel
theorem d230_48 : decode (tb_me 230).1.2.1 48 = .ok (.iload_n 3, 1) := by decide +kernel
theorem d230_49 : decode (tb_me 230).1.2.1 49 = .ok (.ireturn, 1) := by decide +kernel
theorem e230 : (tb_me 230).2.1 = (0, 0) ∧ (tb_me 230).1.2.2.1 = 4 := by decide +kernel
theorem d231_0 : decode (tb_me 231).1.2.1 0 = .ok (.aload_n 0, 1) := by decide +kernel
theorem d231_1 : decode (tb_me 231).1.2.1 1 = .ok (.iload_n 1, 1) := by decide +kernel
theorem d231_2 : decode (tb_me 231).1.2.1 2 = .ok (.invokevirtual 277, 3) := by decide +kernel
theorem k231_277 (b : Bool) : tb_lk b 231 277 = (2, 197, 0, 0, 0) := by cases b <;> decide +kernel
theorem d231_5 : decode (tb_me 231).1.2.1 5 = .ok (.ifCond .ne 5, 3) := by decide +kernel
theorem d231_10 : decode (tb_me 231).1.2.1 10 = .ok (.aload_n 0, 1) := by decide +kernel
theorem d231_11 : decode (tb_me 231).1.2.1 11 = .ok (.invokevirtual 348, 3) := by decide +kernel
theorem k231_348 (b : Bool) : tb_lk b 231 348 = (2, 224, 0, 0, 0) := by cases b <;> decide +kernel
theorem d231_14 : decode (tb_me 231).1.2.1 14 = .ok (.aload_n 0, 1) := by decide +kernel
theorem d231_15 : decode (tb_me 231).1.2.1 15 = .ok (.getfield 39, 3) := by decide +kernel
theorem k231_39 (b : Bool) : tb_lk b 231 39 = (1, 10, 20, 0, 0) := by cases b <;> decide +kernel
theorem d231_18 : decode (tb_me 231).1.2.1 18 = .ok (.bipush 10, 2) := by decide +kernel
theorem d231_20 : decode (tb_me 231).1.2.1 20 = .ok (.bipush 6, 2) := by decide +kernel
theorem d231_22 : decode (tb_me 231).1.2.1 22 = .ok (.iload_n 1, 1) := by decide +kernel
theorem d231_23 : decode (tb_me 231).1.2.1 23 = .ok (.imul, 1) := by decide +kernel
theorem d231_24 : decode (tb_me 231).1.2.1 24 = .ok (.iadd, 1) := by decide +kernel
theorem d231_25 : decode (tb_me 231).1.2.1 25 = .ok (.iconst 4, 1) := by decide +kernel
theorem d231_26 : decode (tb_me 231).1.2.1 26 = .ok (.iadd, 1) := by decide +kernel
theorem d231_27 : decode (tb_me 231).1.2.1 27 = .ok (.iconst 1, 1) := by decide +kernel
theorem d231_28 : decode (tb_me 231).1.2.1 28 = .ok (.iastore, 1) := by decide +kernel
theorem d231_29 : decode (tb_me 231).1.2.1 29 = .ok (.aload_n 0, 1) := by decide +kernel
theorem d231_30 : decode (tb_me 231).1.2.1 30 = .ok (.getfield 39, 3) := by decide +kernel
theorem d231_33 : decode (tb_me 231).1.2.1 33 = .ok (.bipush 10, 2) := by decide +kernel
theorem d231_35 : decode (tb_me 231).1.2.1 35 = .ok (.bipush 6, 2) := by decide +kernel
theorem d231_37 : decode (tb_me 231).1.2.1 37 = .ok (.iload_n 1, 1) := by decide +kernel
theorem d231_38 : decode (tb_me 231).1.2.1 38 = .ok (.imul, 1) := by decide +kernel
theorem d231_39 : decode (tb_me 231).1.2.1 39 = .ok (.iadd, 1) := by decide +kernel
theorem d231_40 : decode (tb_me 231).1.2.1 40 = .ok (.iconst 2, 1) := by decide +kernel
theorem d231_41 : decode (tb_me 231).1.2.1 41 = .ok (.iadd, 1) := by decide +kernel
theorem d231_42 : decode (tb_me 231).1.2.1 42 = .ok (.iconst 0, 1) := by decide +kernel
theorem d231_43 : decode (tb_me 231).1.2.1 43 = .ok (.iastore, 1) := by decide +kernel
theorem d231_44 : decode (tb_me 231).1.2.1 44 = .ok (.aload_n 0, 1) := by decide +kernel
theorem d231_45 : decode (tb_me 231).1.2.1 45 = .ok (.invokevirtual 356, 3) := by decide +kernel
theorem k231_356 (b : Bool) : tb_lk b 231 356 = (2, 201, 0, 0, 0) := by cases b <;> decide +kernel
theorem m201 : (tb_me 201).2 = ((0, 0), (0, 10)) ∧ (tb_me 201).1.2.2.1 = 3 := by decide +kernel
theorem d231_48 : decode (tb_me 231).1.2.1 48 = .ok (.invokestatic 336, 3) := by decide +kernel
theorem k231_336 (b : Bool) : tb_lk b 231 336 = (4, 150, 0, 0, 0) := by cases b <;> decide +kernel
theorem d231_51 : decode (tb_me 231).1.2.1 51 = .ok (.ireturn, 1) := by decide +kernel
theorem t231 : (tb_me 231).1.2.2.2 = some .int := by decide +kernel
theorem d231_8 : decode (tb_me 231).1.2.1 8 = .ok (.iconst (-1), 1) := by decide +kernel
theorem d231_9 : decode (tb_me 231).1.2.1 9 = .ok (.ireturn, 1) := by decide +kernel
theorem e231 : (tb_me 231).2.1 = (0, 0) ∧ (tb_me 231).1.2.2.1 = 2 := by decide +kernel
theorem d232_0 : decode (tb_me 232).1.2.1 0 = .ok (.aload_n 0, 1) := by decide +kernel
theorem d232_1 : decode (tb_me 232).1.2.1 1 = .ok (.iload_n 1, 1) := by decide +kernel
theorem d232_2 : decode (tb_me 232).1.2.1 2 = .ok (.invokevirtual 296, 3) := by decide +kernel
theorem k232_296 (b : Bool) : tb_lk b 232 296 = (2, 195, 0, 0, 0) := by cases b <;> decide +kernel
theorem d232_5 : decode (tb_me 232).1.2.1 5 = .ok (.ifCond .eq 14, 3) := by decide +kernel
theorem d232_19 : decode (tb_me 232).1.2.1 19 = .ok (.bipush (-2), 2) := by decide +kernel
theorem d232_21 : decode (tb_me 232).1.2.1 21 = .ok (.ireturn, 1) := by decide +kernel
theorem t232 : (tb_me 232).1.2.2.2 = some .int := by decide +kernel
theorem d232_8 : decode (tb_me 232).1.2.1 8 = .ok (.aload_n 0, 1) := by decide +kernel
theorem d232_9 : decode (tb_me 232).1.2.1 9 = .ok (.getfield 39, 3) := by decide +kernel
theorem k232_39 (b : Bool) : tb_lk b 232 39 = (1, 10, 20, 0, 0) := by cases b <;> decide +kernel
theorem d232_12 : decode (tb_me 232).1.2.1 12 = .ok (.bipush 6, 2) := by decide +kernel
theorem d232_14 : decode (tb_me 232).1.2.1 14 = .ok (.iaload, 1) := by decide +kernel
theorem d232_15 : decode (tb_me 232).1.2.1 15 = .ok (.iload_n 1, 1) := by decide +kernel
theorem d232_16 : decode (tb_me 232).1.2.1 16 = .ok (.if_icmp .ne 6, 3) := by decide +kernel
theorem d232_22 : decode (tb_me 232).1.2.1 22 = .ok (.aload_n 0, 1) := by decide +kernel
theorem d232_23 : decode (tb_me 232).1.2.1 23 = .ok (.invokevirtual 348, 3) := by decide +kernel
theorem k232_348 (b : Bool) : tb_lk b 232 348 = (2, 224, 0, 0, 0) := by cases b <;> decide +kernel
theorem d232_26 : decode (tb_me 232).1.2.1 26 = .ok (.aload_n 0, 1) := by decide +kernel
theorem d232_27 : decode (tb_me 232).1.2.1 27 = .ok (.getfield 39, 3) := by decide +kernel
theorem d232_30 : decode (tb_me 232).1.2.1 30 = .ok (.bipush 6, 2) := by decide +kernel
theorem d232_32 : decode (tb_me 232).1.2.1 32 = .ok (.iaload, 1) := by decide +kernel
theorem d232_33 : decode (tb_me 232).1.2.1 33 = .ok (.istore_n 2, 1) := by decide +kernel
theorem d232_34 : decode (tb_me 232).1.2.1 34 = .ok (.aload_n 0, 1) := by decide +kernel
theorem d232_35 : decode (tb_me 232).1.2.1 35 = .ok (.getfield 39, 3) := by decide +kernel
theorem d232_38 : decode (tb_me 232).1.2.1 38 = .ok (.bipush 6, 2) := by decide +kernel
theorem d232_40 : decode (tb_me 232).1.2.1 40 = .ok (.iload_n 1, 1) := by decide +kernel
theorem d232_41 : decode (tb_me 232).1.2.1 41 = .ok (.iastore, 1) := by decide +kernel
theorem d232_42 : decode (tb_me 232).1.2.1 42 = .ok (.iload_n 2, 1) := by decide +kernel
theorem d232_43 : decode (tb_me 232).1.2.1 43 = .ok (.ireturn, 1) := by decide +kernel
theorem e232 : (tb_me 232).2.1 = (0, 0) ∧ (tb_me 232).1.2.2.1 = 3 := by decide +kernel
theorem d233_0 : decode (tb_me 233).1.2.1 0 = .ok (.aload_n 0, 1) := by decide +kernel
theorem d233_1 : decode (tb_me 233).1.2.1 1 = .ok (.invokevirtual 305, 3) := by decide +kernel
theorem k233_305 (b : Bool) : tb_lk b 233 305 = (2, 192, 0, 0, 0) := by cases b <;> decide +kernel
theorem d233_4 : decode (tb_me 233).1.2.1 4 = .ok (.ifCond .eq 25, 3) := by decide +kernel
theorem d233_29 : decode (tb_me 233).1.2.1 29 = .ok (.iconst (-1), 1) := by decide +kernel
theorem d233_30 : decode (tb_me 233).1.2.1 30 = .ok (.ireturn, 1) := by decide +kernel
theorem t233 : (tb_me 233).1.2.2.2 = some .int := by decide +kernel
theorem d233_7 : decode (tb_me 233).1.2.1 7 = .ok (.iload_n 1, 1) := by decide +kernel
theorem d233_8 : decode (tb_me 233).1.2.1 8 = .ok (.i2l, 1) := by decide +kernel
theorem d233_9 : decode (tb_me 233).1.2.1 9 = .ok (.lconst 0, 1) := by decide +kernel
theorem d233_10 : decode (tb_me 233).1.2.1 10 = .ok (.ldc2_w 359, 3) := by decide +kernel
theorem k233_359 (b : Bool) : tb_lk b 233 359 = (12, 0, 0, 0, 2) := by cases b <;> decide +kernel
theorem d233_13 : decode (tb_me 233).1.2.1 13 = .ok (.invokestatic 112, 3) := by decide +kernel
theorem k233_112 (b : Bool) : tb_lk b 233 112 = (4, 148, 0, 0, 0) := by cases b <;> decide +kernel
theorem d233_16 : decode (tb_me 233).1.2.1 16 = .ok (.ifCond .eq 13, 3) := by decide +kernel
theorem d233_19 : decode (tb_me 233).1.2.1 19 = .ok (.aload_n 0, 1) := by decide +kernel
theorem d233_20 : decode (tb_me 233).1.2.1 20 = .ok (.getfield 39, 3) := by decide +kernel
theorem k233_39 (b : Bool) : tb_lk b 233 39 = (1, 10, 20, 0, 0) := by cases b <;> decide +kernel
theorem d233_23 : decode (tb_me 233).1.2.1 23 = .ok (.iconst 5, 1) := by decide +kernel
theorem d233_24 : decode (tb_me 233).1.2.1 24 = .ok (.iaload, 1) := by decide +kernel
theorem d233_25 : decode (tb_me 233).1.2.1 25 = .ok (.iload_n 1, 1) := by decide +kernel
theorem d233_26 : decode (tb_me 233).1.2.1 26 = .ok (.if_icmp .ne 5, 3) := by decide +kernel
theorem d233_31 : decode (tb_me 233).1.2.1 31 = .ok (.aload_n 0, 1) := by decide +kernel
theorem d233_32 : decode (tb_me 233).1.2.1 32 = .ok (.invokevirtual 348, 3) := by decide +kernel
theorem k233_348 (b : Bool) : tb_lk b 233 348 = (2, 224, 0, 0, 0) := by cases b <;> decide +kernel
theorem d233_35 : decode (tb_me 233).1.2.1 35 = .ok (.aload_n 0, 1) := by decide +kernel
theorem d233_36 : decode (tb_me 233).1.2.1 36 = .ok (.getfield 39, 3) := by decide +kernel
theorem d233_39 : decode (tb_me 233).1.2.1 39 = .ok (.iconst 5, 1) := by decide +kernel
theorem d233_40 : decode (tb_me 233).1.2.1 40 = .ok (.iaload, 1) := by decide +kernel
theorem d233_41 : decode (tb_me 233).1.2.1 41 = .ok (.istore_n 2, 1) := by decide +kernel
theorem d233_42 : decode (tb_me 233).1.2.1 42 = .ok (.aload_n 0, 1) := by decide +kernel
theorem d233_43 : decode (tb_me 233).1.2.1 43 = .ok (.getfield 39, 3) := by decide +kernel
theorem d233_46 : decode (tb_me 233).1.2.1 46 = .ok (.iconst 5, 1) := by decide +kernel
theorem d233_47 : decode (tb_me 233).1.2.1 47 = .ok (.iload_n 1, 1) := by decide +kernel
theorem d233_48 : decode (tb_me 233).1.2.1 48 = .ok (.iastore, 1) := by decide +kernel
theorem d233_49 : decode (tb_me 233).1.2.1 49 = .ok (.iload_n 2, 1) := by decide +kernel
theorem d233_50 : decode (tb_me 233).1.2.1 50 = .ok (.ireturn, 1) := by decide +kernel
theorem e233 : (tb_me 233).2.1 = (0, 0) ∧ (tb_me 233).1.2.2.1 = 3 := by decide +kernel
theorem d234_87 : decode (tb_me 234).1.2.1 87 = .ok (.istore_n 2, 1) := by decide +kernel
theorem d234_88 : decode (tb_me 234).1.2.1 88 = .ok (.iinc 3 1, 3) := by decide +kernel
theorem d234_91 : decode (tb_me 234).1.2.1 91 = .ok (.goto (-87), 3) := by decide +kernel
theorem d234_54 : decode (tb_me 234).1.2.1 54 = .ok (.istore 4, 2) := by decide +kernel
theorem d234_56 : decode (tb_me 234).1.2.1 56 = .ok (.iinc 5 1, 3) := by decide +kernel
theorem d234_59 : decode (tb_me 234).1.2.1 59 = .ok (.goto (-39), 3) := by decide +kernel
theorem d234_49 : decode (tb_me 234).1.2.1 49 = .ok (.iconst 1, 1) := by decide +kernel
theorem d234_50 : decode (tb_me 234).1.2.1 50 = .ok (.goto 4, 3) := by decide +kernel
theorem d234_20 : decode (tb_me 234).1.2.1 20 = .ok (.iload 5, 2) := by decide +kernel
theorem d234_22 : decode (tb_me 234).1.2.1 22 = .ok (.aload_n 0, 1) := by decide +kernel
theorem d234_23 : decode (tb_me 234).1.2.1 23 = .ok (.iload_n 3, 1) := by decide +kernel
theorem d234_24 : decode (tb_me 234).1.2.1 24 = .ok (.iconst 1, 1) := by decide +kernel
theorem d234_25 : decode (tb_me 234).1.2.1 25 = .ok (.invokevirtual 293, 3) := by decide +kernel
theorem k234_293 (b : Bool) : tb_lk b 234 293 = (2, 203, 0, 0, 0) := by cases b <;> decide +kernel
theorem d234_28 : decode (tb_me 234).1.2.1 28 = .ok (.if_icmp .ge 34, 3) := by decide +kernel
theorem d234_31 : decode (tb_me 234).1.2.1 31 = .ok (.iload 4, 2) := by decide +kernel
theorem d234_33 : decode (tb_me 234).1.2.1 33 = .ok (.ifCond .ne 16, 3) := by decide +kernel
theorem d234_36 : decode (tb_me 234).1.2.1 36 = .ok (.aload_n 0, 1) := by decide +kernel
theorem d234_37 : decode (tb_me 234).1.2.1 37 = .ok (.iload_n 3, 1) := by decide +kernel
theorem d234_38 : decode (tb_me 234).1.2.1 38 = .ok (.iconst 2, 1) := by decide +kernel
theorem d234_39 : decode (tb_me 234).1.2.1 39 = .ok (.iload 5, 2) := by decide +kernel
theorem d234_41 : decode (tb_me 234).1.2.1 41 = .ok (.iadd, 1) := by decide +kernel
theorem d234_42 : decode (tb_me 234).1.2.1 42 = .ok (.invokevirtual 293, 3) := by decide +kernel
theorem d234_45 : decode (tb_me 234).1.2.1 45 = .ok (.iload_n 1, 1) := by decide +kernel
theorem d234_46 : decode (tb_me 234).1.2.1 46 = .ok (.if_icmp .ne 7, 3) := by decide +kernel
theorem d234_53 : decode (tb_me 234).1.2.1 53 = .ok (.iconst 0, 1) := by decide +kernel
theorem d234_4 : decode (tb_me 234).1.2.1 4 = .ok (.iload_n 3, 1) := by decide +kernel
theorem d234_5 : decode (tb_me 234).1.2.1 5 = .ok (.aload_n 0, 1) := by decide +kernel
theorem d234_6 : decode (tb_me 234).1.2.1 6 = .ok (.getfield 39, 3) := by decide +kernel
theorem k234_39 (b : Bool) : tb_lk b 234 39 = (1, 10, 20, 0, 0) := by cases b <;> decide +kernel
theorem d234_9 : decode (tb_me 234).1.2.1 9 = .ok (.iconst 2, 1) := by decide +kernel
theorem d234_10 : decode (tb_me 234).1.2.1 10 = .ok (.iaload, 1) := by decide +kernel
theorem d234_11 : decode (tb_me 234).1.2.1 11 = .ok (.if_icmp .ge 83, 3) := by decide +kernel
theorem d234_14 : decode (tb_me 234).1.2.1 14 = .ok (.iconst 0, 1) := by decide +kernel
theorem d234_15 : decode (tb_me 234).1.2.1 15 = .ok (.istore 4, 2) := by decide +kernel
theorem d234_17 : decode (tb_me 234).1.2.1 17 = .ok (.iconst 0, 1) := by decide +kernel
theorem d234_18 : decode (tb_me 234).1.2.1 18 = .ok (.istore 5, 2) := by decide +kernel
theorem d234_62 : decode (tb_me 234).1.2.1 62 = .ok (.iload 4, 2) := by decide +kernel
theorem d234_64 : decode (tb_me 234).1.2.1 64 = .ok (.ifCond .eq 22, 3) := by decide +kernel
theorem d234_86 : decode (tb_me 234).1.2.1 86 = .ok (.iload_n 2, 1) := by decide +kernel
theorem d234_67 : decode (tb_me 234).1.2.1 67 = .ok (.aload_n 0, 1) := by decide +kernel
theorem d234_68 : decode (tb_me 234).1.2.1 68 = .ok (.iload_n 3, 1) := by decide +kernel
theorem d234_69 : decode (tb_me 234).1.2.1 69 = .ok (.iconst 0, 1) := by decide +kernel
theorem d234_70 : decode (tb_me 234).1.2.1 70 = .ok (.invokevirtual 293, 3) := by decide +kernel
theorem d234_73 : decode (tb_me 234).1.2.1 73 = .ok (.iload_n 2, 1) := by decide +kernel
theorem d234_74 : decode (tb_me 234).1.2.1 74 = .ok (.if_icmp .le 12, 3) := by decide +kernel
theorem d234_77 : decode (tb_me 234).1.2.1 77 = .ok (.aload_n 0, 1) := by decide +kernel
theorem d234_78 : decode (tb_me 234).1.2.1 78 = .ok (.iload_n 3, 1) := by decide +kernel
theorem d234_79 : decode (tb_me 234).1.2.1 79 = .ok (.iconst 0, 1) := by decide +kernel
theorem d234_80 : decode (tb_me 234).1.2.1 80 = .ok (.invokevirtual 293, 3) := by decide +kernel
theorem d234_83 : decode (tb_me 234).1.2.1 83 = .ok (.goto 4, 3) := by decide +kernel
theorem d234_0 : decode (tb_me 234).1.2.1 0 = .ok (.iconst 0, 1) := by decide +kernel
theorem d234_1 : decode (tb_me 234).1.2.1 1 = .ok (.istore_n 2, 1) := by decide +kernel
theorem d234_2 : decode (tb_me 234).1.2.1 2 = .ok (.iconst 0, 1) := by decide +kernel
theorem d234_3 : decode (tb_me 234).1.2.1 3 = .ok (.istore_n 3, 1) := by decide +kernel
theorem d234_94 : decode (tb_me 234).1.2.1 94 = .ok (.iload_n 2, 1) := by decide +kernel
theorem d234_95 : decode (tb_me 234).1.2.1 95 = .ok (.ireturn, 1) := by decide +kernel
theorem t234 : (tb_me 234).1.2.2.2 = some .int := by decide +kernel
theorem e234 : (tb_me 234).2.1 = (0, 0) ∧ (tb_me 234).1.2.2.1 = 6 := by decide +kernel
theorem d235_48 : decode (tb_me 235).1.2.1 48 = .ok (.iadd, 1) := by decide +kernel
theorem d235_49 : decode (tb_me 235).1.2.1 49 = .ok (.istore_n 2, 1) := by decide +kernel
theorem d235_50 : decode (tb_me 235).1.2.1 50 = .ok (.iinc 3 1, 3) := by decide +kernel
theorem d235_53 : decode (tb_me 235).1.2.1 53 = .ok (.goto (-49), 3) := by decide +kernel
theorem d235_4 : decode (tb_me 235).1.2.1 4 = .ok (.iload_n 3, 1) := by decide +kernel
theorem d235_5 : decode (tb_me 235).1.2.1 5 = .ok (.aload_n 0, 1) := by decide +kernel
theorem d235_6 : decode (tb_me 235).1.2.1 6 = .ok (.getfield 39, 3) := by decide +kernel
theorem k235_39 (b : Bool) : tb_lk b 235 39 = (1, 10, 20, 0, 0) := by cases b <;> decide +kernel
theorem d235_9 : decode (tb_me 235).1.2.1 9 = .ok (.iconst 1, 1) := by decide +kernel
theorem d235_10 : decode (tb_me 235).1.2.1 10 = .ok (.iaload, 1) := by decide +kernel
theorem d235_11 : decode (tb_me 235).1.2.1 11 = .ok (.if_icmp .ge 45, 3) := by decide +kernel
theorem d235_14 : decode (tb_me 235).1.2.1 14 = .ok (.iload_n 2, 1) := by decide +kernel
theorem d235_15 : decode (tb_me 235).1.2.1 15 = .ok (.iload_n 3, 1) := by decide +kernel
theorem d235_16 : decode (tb_me 235).1.2.1 16 = .ok (.iload_n 1, 1) := by decide +kernel
theorem d235_17 : decode (tb_me 235).1.2.1 17 = .ok (.if_icmp .eq 30, 3) := by decide +kernel
theorem d235_47 : decode (tb_me 235).1.2.1 47 = .ok (.iconst 0, 1) := by decide +kernel
theorem d235_20 : decode (tb_me 235).1.2.1 20 = .ok (.aload_n 0, 1) := by decide +kernel
theorem d235_21 : decode (tb_me 235).1.2.1 21 = .ok (.iload_n 3, 1) := by decide +kernel
theorem d235_22 : decode (tb_me 235).1.2.1 22 = .ok (.invokevirtual 277, 3) := by decide +kernel
theorem k235_277 (b : Bool) : tb_lk b 235 277 = (2, 197, 0, 0, 0) := by cases b <;> decide +kernel
theorem d235_25 : decode (tb_me 235).1.2.1 25 = .ok (.ifCond .eq 22, 3) := by decide +kernel
theorem d235_28 : decode (tb_me 235).1.2.1 28 = .ok (.aload_n 0, 1) := by decide +kernel
theorem d235_29 : decode (tb_me 235).1.2.1 29 = .ok (.iload_n 3, 1) := by decide +kernel
theorem d235_30 : decode (tb_me 235).1.2.1 30 = .ok (.iconst 0, 1) := by decide +kernel
theorem d235_31 : decode (tb_me 235).1.2.1 31 = .ok (.invokevirtual 273, 3) := by decide +kernel
theorem k235_273 (b : Bool) : tb_lk b 235 273 = (2, 196, 0, 0, 0) := by cases b <;> decide +kernel
theorem d235_34 : decode (tb_me 235).1.2.1 34 = .ok (.aload_n 0, 1) := by decide +kernel
theorem d235_35 : decode (tb_me 235).1.2.1 35 = .ok (.iload_n 1, 1) := by decide +kernel
theorem d235_36 : decode (tb_me 235).1.2.1 36 = .ok (.iconst 0, 1) := by decide +kernel
theorem d235_37 : decode (tb_me 235).1.2.1 37 = .ok (.invokevirtual 273, 3) := by decide +kernel
theorem d235_40 : decode (tb_me 235).1.2.1 40 = .ok (.if_icmp .ne 7, 3) := by decide +kernel
theorem d235_43 : decode (tb_me 235).1.2.1 43 = .ok (.iconst 1, 1) := by decide +kernel
theorem d235_44 : decode (tb_me 235).1.2.1 44 = .ok (.goto 4, 3) := by decide +kernel
theorem d235_0 : decode (tb_me 235).1.2.1 0 = .ok (.iconst 0, 1) := by decide +kernel
theorem d235_1 : decode (tb_me 235).1.2.1 1 = .ok (.istore_n 2, 1) := by decide +kernel
theorem d235_2 : decode (tb_me 235).1.2.1 2 = .ok (.iconst 0, 1) := by decide +kernel
theorem d235_3 : decode (tb_me 235).1.2.1 3 = .ok (.istore_n 3, 1) := by decide +kernel
theorem d235_56 : decode (tb_me 235).1.2.1 56 = .ok (.aload_n 0, 1) := by decide +kernel
theorem d235_57 : decode (tb_me 235).1.2.1 57 = .ok (.getfield 36, 3) := by decide +kernel
theorem k235_36 (b : Bool) : tb_lk b 235 36 = (1, 10, 19, 0, 0) := by cases b <;> decide +kernel
theorem d235_60 : decode (tb_me 235).1.2.1 60 = .ok (.iconst 0, 1) := by decide +kernel
theorem d235_61 : decode (tb_me 235).1.2.1 61 = .ok (.iload_n 1, 1) := by decide +kernel
theorem d235_62 : decode (tb_me 235).1.2.1 62 = .ok (.i2l, 1) := by decide +kernel
theorem d235_63 : decode (tb_me 235).1.2.1 63 = .ok (.lastore, 1) := by decide +kernel
theorem d235_64 : decode (tb_me 235).1.2.1 64 = .ok (.aload_n 0, 1) := by decide +kernel
theorem d235_65 : decode (tb_me 235).1.2.1 65 = .ok (.getfield 36, 3) := by decide +kernel
theorem d235_68 : decode (tb_me 235).1.2.1 68 = .ok (.iconst 1, 1) := by decide +kernel
theorem d235_69 : decode (tb_me 235).1.2.1 69 = .ok (.aload_n 0, 1) := by decide +kernel
theorem d235_70 : decode (tb_me 235).1.2.1 70 = .ok (.iload_n 1, 1) := by decide +kernel
theorem d235_71 : decode (tb_me 235).1.2.1 71 = .ok (.iconst 0, 1) := by decide +kernel
theorem d235_72 : decode (tb_me 235).1.2.1 72 = .ok (.invokevirtual 273, 3) := by decide +kernel
theorem d235_75 : decode (tb_me 235).1.2.1 75 = .ok (.i2l, 1) := by decide +kernel
theorem d235_76 : decode (tb_me 235).1.2.1 76 = .ok (.lastore, 1) := by decide +kernel
theorem d235_77 : decode (tb_me 235).1.2.1 77 = .ok (.aload_n 0, 1) := by decide +kernel
theorem d235_78 : decode (tb_me 235).1.2.1 78 = .ok (.getfield 36, 3) := by decide +kernel
theorem d235_81 : decode (tb_me 235).1.2.1 81 = .ok (.iconst 2, 1) := by decide +kernel
theorem d235_82 : decode (tb_me 235).1.2.1 82 = .ok (.aload_n 0, 1) := by decide +kernel
theorem d235_83 : decode (tb_me 235).1.2.1 83 = .ok (.iload_n 1, 1) := by decide +kernel
theorem d235_84 : decode (tb_me 235).1.2.1 84 = .ok (.iconst 1, 1) := by decide +kernel
theorem d235_85 : decode (tb_me 235).1.2.1 85 = .ok (.invokevirtual 273, 3) := by decide +kernel
theorem d235_88 : decode (tb_me 235).1.2.1 88 = .ok (.i2l, 1) := by decide +kernel
theorem d235_89 : decode (tb_me 235).1.2.1 89 = .ok (.lastore, 1) := by decide +kernel
theorem d235_90 : decode (tb_me 235).1.2.1 90 = .ok (.aload_n 0, 1) := by decide +kernel
theorem d235_91 : decode (tb_me 235).1.2.1 91 = .ok (.getfield 36, 3) := by decide +kernel
theorem d235_94 : decode (tb_me 235).1.2.1 94 = .ok (.iconst 3, 1) := by decide +kernel
theorem d235_95 : decode (tb_me 235).1.2.1 95 = .ok (.aload_n 0, 1) := by decide +kernel
theorem d235_96 : decode (tb_me 235).1.2.1 96 = .ok (.getfield 39, 3) := by decide +kernel
theorem d235_99 : decode (tb_me 235).1.2.1 99 = .ok (.iconst 4, 1) := by decide +kernel
theorem d235_100 : decode (tb_me 235).1.2.1 100 = .ok (.iaload, 1) := by decide +kernel
theorem d235_101 : decode (tb_me 235).1.2.1 101 = .ok (.i2l, 1) := by decide +kernel
theorem d235_102 : decode (tb_me 235).1.2.1 102 = .ok (.lastore, 1) := by decide +kernel
theorem d235_103 : decode (tb_me 235).1.2.1 103 = .ok (.aload_n 0, 1) := by decide +kernel
theorem d235_104 : decode (tb_me 235).1.2.1 104 = .ok (.getfield 36, 3) := by decide +kernel
theorem d235_107 : decode (tb_me 235).1.2.1 107 = .ok (.iconst 4, 1) := by decide +kernel
theorem d235_108 : decode (tb_me 235).1.2.1 108 = .ok (.aload_n 0, 1) := by decide +kernel
theorem d235_109 : decode (tb_me 235).1.2.1 109 = .ok (.getfield 39, 3) := by decide +kernel
theorem d235_112 : decode (tb_me 235).1.2.1 112 = .ok (.iconst 5, 1) := by decide +kernel
theorem d235_113 : decode (tb_me 235).1.2.1 113 = .ok (.iaload, 1) := by decide +kernel
theorem d235_114 : decode (tb_me 235).1.2.1 114 = .ok (.i2l, 1) := by decide +kernel
theorem d235_115 : decode (tb_me 235).1.2.1 115 = .ok (.lastore, 1) := by decide +kernel
theorem d235_116 : decode (tb_me 235).1.2.1 116 = .ok (.aload_n 0, 1) := by decide +kernel
theorem d235_117 : decode (tb_me 235).1.2.1 117 = .ok (.getfield 36, 3) := by decide +kernel
theorem d235_120 : decode (tb_me 235).1.2.1 120 = .ok (.iconst 5, 1) := by decide +kernel
theorem d235_121 : decode (tb_me 235).1.2.1 121 = .ok (.aload_n 0, 1) := by decide +kernel
theorem d235_122 : decode (tb_me 235).1.2.1 122 = .ok (.invokevirtual 361, 3) := by decide +kernel
theorem k235_361 (b : Bool) : tb_lk b 235 361 = (2, 202, 0, 0, 0) := by cases b <;> decide +kernel
theorem m202 : (tb_me 202).2 = ((0, 0), (0, 10)) ∧ (tb_me 202).1.2.2.1 = 3 := by decide +kernel
theorem d235_125 : decode (tb_me 235).1.2.1 125 = .ok (.iconst 1, 1) := by decide +kernel
theorem d235_126 : decode (tb_me 235).1.2.1 126 = .ok (.iload_n 1, 1) := by decide +kernel
theorem d235_127 : decode (tb_me 235).1.2.1 127 = .ok (.ishl, 1) := by decide +kernel
theorem d235_128 : decode (tb_me 235).1.2.1 128 = .ok (.iconst (-1), 1) := by decide +kernel
theorem d235_129 : decode (tb_me 235).1.2.1 129 = .ok (.ixor, 1) := by decide +kernel
theorem d235_130 : decode (tb_me 235).1.2.1 130 = .ok (.iand, 1) := by decide +kernel
theorem d235_131 : decode (tb_me 235).1.2.1 131 = .ok (.invokestatic 336, 3) := by decide +kernel
theorem k235_336 (b : Bool) : tb_lk b 235 336 = (4, 150, 0, 0, 0) := by cases b <;> decide +kernel
theorem d235_134 : decode (tb_me 235).1.2.1 134 = .ok (.i2l, 1) := by decide +kernel
theorem d235_135 : decode (tb_me 235).1.2.1 135 = .ok (.lastore, 1) := by decide +kernel
theorem d235_136 : decode (tb_me 235).1.2.1 136 = .ok (.aload_n 0, 1) := by decide +kernel
theorem d235_137 : decode (tb_me 235).1.2.1 137 = .ok (.getfield 36, 3) := by decide +kernel
theorem d235_140 : decode (tb_me 235).1.2.1 140 = .ok (.bipush 6, 2) := by decide +kernel
theorem d235_142 : decode (tb_me 235).1.2.1 142 = .ok (.aload_n 0, 1) := by decide +kernel
theorem d235_143 : decode (tb_me 235).1.2.1 143 = .ok (.iload_n 1, 1) := by decide +kernel
theorem d235_144 : decode (tb_me 235).1.2.1 144 = .ok (.iconst 3, 1) := by decide +kernel
theorem d235_145 : decode (tb_me 235).1.2.1 145 = .ok (.invokevirtual 273, 3) := by decide +kernel
theorem d235_148 : decode (tb_me 235).1.2.1 148 = .ok (.i2l, 1) := by decide +kernel
theorem d235_149 : decode (tb_me 235).1.2.1 149 = .ok (.lastore, 1) := by decide +kernel
theorem d235_150 : decode (tb_me 235).1.2.1 150 = .ok (.aload_n 0, 1) := by decide +kernel
theorem d235_151 : decode (tb_me 235).1.2.1 151 = .ok (.getfield 36, 3) := by decide +kernel
theorem d235_154 : decode (tb_me 235).1.2.1 154 = .ok (.bipush 7, 2) := by decide +kernel
theorem d235_156 : decode (tb_me 235).1.2.1 156 = .ok (.aload_n 0, 1) := by decide +kernel
theorem d235_157 : decode (tb_me 235).1.2.1 157 = .ok (.iload_n 1, 1) := by decide +kernel
theorem d235_158 : decode (tb_me 235).1.2.1 158 = .ok (.iconst 5, 1) := by decide +kernel
theorem d235_159 : decode (tb_me 235).1.2.1 159 = .ok (.invokevirtual 273, 3) := by decide +kernel
theorem d235_162 : decode (tb_me 235).1.2.1 162 = .ok (.i2l, 1) := by decide +kernel
theorem d235_163 : decode (tb_me 235).1.2.1 163 = .ok (.lastore, 1) := by decide +kernel
theorem d235_164 : decode (tb_me 235).1.2.1 164 = .ok (.aload_n 0, 1) := by decide +kernel
theorem d235_165 : decode (tb_me 235).1.2.1 165 = .ok (.getfield 36, 3) := by decide +kernel
theorem d235_168 : decode (tb_me 235).1.2.1 168 = .ok (.bipush 8, 2) := by decide +kernel
theorem d235_170 : decode (tb_me 235).1.2.1 170 = .ok (.iload_n 2, 1) := by decide +kernel
theorem d235_171 : decode (tb_me 235).1.2.1 171 = .ok (.i2l, 1) := by decide +kernel
theorem d235_172 : decode (tb_me 235).1.2.1 172 = .ok (.lastore, 1) := by decide +kernel
theorem d235_173 : decode (tb_me 235).1.2.1 173 = .ok (.aload_n 0, 1) := by decide +kernel
theorem d235_174 : decode (tb_me 235).1.2.1 174 = .ok (.getfield 36, 3) := by decide +kernel
theorem d235_177 : decode (tb_me 235).1.2.1 177 = .ok (.bipush 9, 2) := by decide +kernel
theorem d235_179 : decode (tb_me 235).1.2.1 179 = .ok (.aload_n 0, 1) := by decide +kernel
theorem d235_180 : decode (tb_me 235).1.2.1 180 = .ok (.aload_n 0, 1) := by decide +kernel
theorem d235_181 : decode (tb_me 235).1.2.1 181 = .ok (.iload_n 1, 1) := by decide +kernel
theorem d235_182 : decode (tb_me 235).1.2.1 182 = .ok (.iconst 0, 1) := by decide +kernel
theorem d235_183 : decode (tb_me 235).1.2.1 183 = .ok (.invokevirtual 273, 3) := by decide +kernel
theorem d235_186 : decode (tb_me 235).1.2.1 186 = .ok (.invokevirtual 364, 3) := by decide +kernel
theorem k235_364 (b : Bool) : tb_lk b 235 364 = (2, 234, 0, 0, 0) := by cases b <;> decide +kernel
theorem m234 : (tb_me 234).2 = ((0, 0), (1, 10)) ∧ (tb_me 234).1.2.2.1 = 6 := by decide +kernel
theorem d235_189 : decode (tb_me 235).1.2.1 189 = .ok (.i2l, 1) := by decide +kernel
theorem d235_190 : decode (tb_me 235).1.2.1 190 = .ok (.lastore, 1) := by decide +kernel
theorem d235_191 : decode (tb_me 235).1.2.1 191 = .ok (.aload_n 0, 1) := by decide +kernel
theorem d235_192 : decode (tb_me 235).1.2.1 192 = .ok (.getfield 36, 3) := by decide +kernel
theorem d235_195 : decode (tb_me 235).1.2.1 195 = .ok (.bipush 10, 2) := by decide +kernel
theorem d235_197 : decode (tb_me 235).1.2.1 197 = .ok (.aload_n 0, 1) := by decide +kernel
theorem d235_198 : decode (tb_me 235).1.2.1 198 = .ok (.invokevirtual 356, 3) := by decide +kernel
theorem k235_356 (b : Bool) : tb_lk b 235 356 = (2, 201, 0, 0, 0) := by cases b <;> decide +kernel
theorem d235_201 : decode (tb_me 235).1.2.1 201 = .ok (.invokestatic 336, 3) := by decide +kernel
theorem d235_204 : decode (tb_me 235).1.2.1 204 = .ok (.i2l, 1) := by decide +kernel
theorem d235_205 : decode (tb_me 235).1.2.1 205 = .ok (.lastore, 1) := by decide +kernel
theorem d235_206 : decode (tb_me 235).1.2.1 206 = .ok (.return_, 1) := by decide +kernel
theorem t235 : (tb_me 235).1.2.2.2 = none := by decide +kernel
theorem e235 : (tb_me 235).2.1 = (0, 0) ∧ (tb_me 235).1.2.2.1 = 4 := by decide +kernel
theorem d236_58 : decode (tb_me 236).1.2.1 58 = .ok (.aload_n 0, 1) := by decide +kernel
theorem d236_59 : decode (tb_me 236).1.2.1 59 = .ok (.iload_n 1, 1) := by decide +kernel
theorem d236_60 : decode (tb_me 236).1.2.1 60 = .ok (.aload_n 0, 1) := by decide +kernel
theorem d236_61 : decode (tb_me 236).1.2.1 61 = .ok (.getfield 20, 3) := by decide +kernel
theorem k236_20 (b : Bool) : tb_lk b 236 20 = (1, 10, 5, 0, 0) := by cases b <;> decide +kernel
theorem d236_64 : decode (tb_me 236).1.2.1 64 = .ok (.iload_n 3, 1) := by decide +kernel
theorem d236_65 : decode (tb_me 236).1.2.1 65 = .ok (.iaload, 1) := by decide +kernel
theorem d236_66 : decode (tb_me 236).1.2.1 66 = .ok (.aload_n 0, 1) := by decide +kernel
theorem d236_67 : decode (tb_me 236).1.2.1 67 = .ok (.getfield 20, 3) := by decide +kernel
theorem d236_70 : decode (tb_me 236).1.2.1 70 = .ok (.iload_n 3, 1) := by decide +kernel
theorem d236_71 : decode (tb_me 236).1.2.1 71 = .ok (.iconst 1, 1) := by decide +kernel
theorem d236_72 : decode (tb_me 236).1.2.1 72 = .ok (.iadd, 1) := by decide +kernel
theorem d236_73 : decode (tb_me 236).1.2.1 73 = .ok (.iaload, 1) := by decide +kernel
theorem d236_74 : decode (tb_me 236).1.2.1 74 = .ok (.invokevirtual 367, 3) := by decide +kernel
theorem k236_367 (b : Bool) : tb_lk b 236 367 = (2, 191, 0, 0, 0) := by cases b <;> decide +kernel
theorem m191 : (tb_me 191).2 = ((0, 0), (3, 10)) ∧ (tb_me 191).1.2.2.1 = 11 := by decide +kernel
theorem d236_77 : decode (tb_me 236).1.2.1 77 = .ok (.lreturn, 1) := by decide +kernel
theorem t236 : (tb_me 236).1.2.2.2 = some .long := by decide +kernel
theorem d236_2 : decode (tb_me 236).1.2.1 2 = .ok (.iload_n 2, 1) := by decide +kernel
theorem d236_3 : decode (tb_me 236).1.2.1 3 = .ok (.aload_n 0, 1) := by decide +kernel
theorem d236_4 : decode (tb_me 236).1.2.1 4 = .ok (.getfield 23, 3) := by decide +kernel
theorem k236_23 (b : Bool) : tb_lk b 236 23 = (1, 10, 6, 0, 0) := by cases b <;> decide +kernel
theorem d236_7 : decode (tb_me 236).1.2.1 7 = .ok (.iload_n 1, 1) := by decide +kernel
theorem d236_8 : decode (tb_me 236).1.2.1 8 = .ok (.iaload, 1) := by decide +kernel
theorem d236_9 : decode (tb_me 236).1.2.1 9 = .ok (.if_icmp .ge 75, 3) := by decide +kernel
theorem d236_12 : decode (tb_me 236).1.2.1 12 = .ok (.bipush 48, 2) := by decide +kernel
theorem d236_14 : decode (tb_me 236).1.2.1 14 = .ok (.iload_n 1, 1) := by decide +kernel
theorem d236_15 : decode (tb_me 236).1.2.1 15 = .ok (.imul, 1) := by decide +kernel
theorem d236_16 : decode (tb_me 236).1.2.1 16 = .ok (.iconst 4, 1) := by decide +kernel
theorem d236_17 : decode (tb_me 236).1.2.1 17 = .ok (.iload_n 2, 1) := by decide +kernel
theorem d236_18 : decode (tb_me 236).1.2.1 18 = .ok (.imul, 1) := by decide +kernel
theorem d236_19 : decode (tb_me 236).1.2.1 19 = .ok (.iadd, 1) := by decide +kernel
theorem d236_20 : decode (tb_me 236).1.2.1 20 = .ok (.istore_n 3, 1) := by decide +kernel
theorem d236_21 : decode (tb_me 236).1.2.1 21 = .ok (.aload_n 0, 1) := by decide +kernel
theorem d236_22 : decode (tb_me 236).1.2.1 22 = .ok (.getfield 20, 3) := by decide +kernel
theorem d236_25 : decode (tb_me 236).1.2.1 25 = .ok (.iload_n 3, 1) := by decide +kernel
theorem d236_26 : decode (tb_me 236).1.2.1 26 = .ok (.iconst 2, 1) := by decide +kernel
theorem d236_27 : decode (tb_me 236).1.2.1 27 = .ok (.iadd, 1) := by decide +kernel
theorem d236_28 : decode (tb_me 236).1.2.1 28 = .ok (.iaload, 1) := by decide +kernel
theorem d236_29 : decode (tb_me 236).1.2.1 29 = .ok (.ifCond .lt 29, 3) := by decide +kernel
theorem d236_32 : decode (tb_me 236).1.2.1 32 = .ok (.aload_n 0, 1) := by decide +kernel
theorem d236_33 : decode (tb_me 236).1.2.1 33 = .ok (.iload_n 1, 1) := by decide +kernel
theorem d236_34 : decode (tb_me 236).1.2.1 34 = .ok (.aload_n 0, 1) := by decide +kernel
theorem d236_35 : decode (tb_me 236).1.2.1 35 = .ok (.getfield 20, 3) := by decide +kernel
theorem d236_38 : decode (tb_me 236).1.2.1 38 = .ok (.iload_n 3, 1) := by decide +kernel
theorem d236_39 : decode (tb_me 236).1.2.1 39 = .ok (.iconst 2, 1) := by decide +kernel
theorem d236_40 : decode (tb_me 236).1.2.1 40 = .ok (.iadd, 1) := by decide +kernel
theorem d236_41 : decode (tb_me 236).1.2.1 41 = .ok (.iaload, 1) := by decide +kernel
theorem d236_42 : decode (tb_me 236).1.2.1 42 = .ok (.aload_n 0, 1) := by decide +kernel
theorem d236_43 : decode (tb_me 236).1.2.1 43 = .ok (.getfield 20, 3) := by decide +kernel
theorem d236_46 : decode (tb_me 236).1.2.1 46 = .ok (.iload_n 3, 1) := by decide +kernel
theorem d236_47 : decode (tb_me 236).1.2.1 47 = .ok (.iconst 3, 1) := by decide +kernel
theorem d236_48 : decode (tb_me 236).1.2.1 48 = .ok (.iadd, 1) := by decide +kernel
theorem d236_49 : decode (tb_me 236).1.2.1 49 = .ok (.iaload, 1) := by decide +kernel
theorem d236_50 : decode (tb_me 236).1.2.1 50 = .ok (.invokevirtual 367, 3) := by decide +kernel
theorem d236_53 : decode (tb_me 236).1.2.1 53 = .ok (.lconst 1, 1) := by decide +kernel
theorem d236_54 : decode (tb_me 236).1.2.1 54 = .ok (.lcmp, 1) := by decide +kernel
theorem d236_55 : decode (tb_me 236).1.2.1 55 = .ok (.ifCond .ne 23, 3) := by decide +kernel
theorem d236_78 : decode (tb_me 236).1.2.1 78 = .ok (.iinc 2 1, 3) := by decide +kernel
theorem d236_81 : decode (tb_me 236).1.2.1 81 = .ok (.goto (-79), 3) := by decide +kernel
theorem d236_0 : decode (tb_me 236).1.2.1 0 = .ok (.iconst 0, 1) := by decide +kernel
theorem d236_1 : decode (tb_me 236).1.2.1 1 = .ok (.istore_n 2, 1) := by decide +kernel
theorem d236_84 : decode (tb_me 236).1.2.1 84 = .ok (.lconst 0, 1) := by decide +kernel
theorem d236_85 : decode (tb_me 236).1.2.1 85 = .ok (.lreturn, 1) := by decide +kernel
theorem e236 : (tb_me 236).2.1 = (0, 0) ∧ (tb_me 236).1.2.2.1 = 4 := by decide +kernel
theorem d237_116 : decode (tb_me 237).1.2.1 116 = .ok (.iastore, 1) := by decide +kernel
theorem d237_117 : decode (tb_me 237).1.2.1 117 = .ok (.iinc 4 1, 3) := by decide +kernel
theorem d237_120 : decode (tb_me 237).1.2.1 120 = .ok (.goto (-62), 3) := by decide +kernel
theorem d237_58 : decode (tb_me 237).1.2.1 58 = .ok (.iload 4, 2) := by decide +kernel
theorem d237_60 : decode (tb_me 237).1.2.1 60 = .ok (.aload_n 0, 1) := by decide +kernel
theorem d237_61 : decode (tb_me 237).1.2.1 61 = .ok (.getfield 39, 3) := by decide +kernel
theorem k237_39 (b : Bool) : tb_lk b 237 39 = (1, 10, 20, 0, 0) := by cases b <;> decide +kernel
theorem d237_64 : decode (tb_me 237).1.2.1 64 = .ok (.iconst 1, 1) := by decide +kernel
theorem d237_65 : decode (tb_me 237).1.2.1 65 = .ok (.iaload, 1) := by decide +kernel
theorem d237_66 : decode (tb_me 237).1.2.1 66 = .ok (.if_icmp .ge 57, 3) := by decide +kernel
theorem d237_69 : decode (tb_me 237).1.2.1 69 = .ok (.aload_n 0, 1) := by decide +kernel
theorem d237_70 : decode (tb_me 237).1.2.1 70 = .ok (.iload 4, 2) := by decide +kernel
theorem d237_72 : decode (tb_me 237).1.2.1 72 = .ok (.invokevirtual 277, 3) := by decide +kernel
theorem k237_277 (b : Bool) : tb_lk b 237 277 = (2, 197, 0, 0, 0) := by cases b <;> decide +kernel
theorem d237_75 : decode (tb_me 237).1.2.1 75 = .ok (.ifCond .ne 6, 3) := by decide +kernel
theorem d237_81 : decode (tb_me 237).1.2.1 81 = .ok (.aload_n 0, 1) := by decide +kernel
theorem d237_82 : decode (tb_me 237).1.2.1 82 = .ok (.iload 4, 2) := by decide +kernel
theorem d237_84 : decode (tb_me 237).1.2.1 84 = .ok (.invokevirtual 376, 3) := by decide +kernel
theorem k237_376 (b : Bool) : tb_lk b 237 376 = (2, 235, 0, 0, 0) := by cases b <;> decide +kernel
theorem m235 : (tb_me 235).2 = ((0, 0), (1, 10)) ∧ (tb_me 235).1.2.2.1 = 4 := by decide +kernel
theorem d237_87 : decode (tb_me 237).1.2.1 87 = .ok (.aload_n 0, 1) := by decide +kernel
theorem d237_88 : decode (tb_me 237).1.2.1 88 = .ok (.getfield 39, 3) := by decide +kernel
theorem d237_91 : decode (tb_me 237).1.2.1 91 = .ok (.bipush 10, 2) := by decide +kernel
theorem d237_93 : decode (tb_me 237).1.2.1 93 = .ok (.bipush 6, 2) := by decide +kernel
theorem d237_95 : decode (tb_me 237).1.2.1 95 = .ok (.iload 4, 2) := by decide +kernel
theorem d237_97 : decode (tb_me 237).1.2.1 97 = .ok (.imul, 1) := by decide +kernel
theorem d237_98 : decode (tb_me 237).1.2.1 98 = .ok (.iadd, 1) := by decide +kernel
theorem d237_99 : decode (tb_me 237).1.2.1 99 = .ok (.iconst 2, 1) := by decide +kernel
theorem d237_100 : decode (tb_me 237).1.2.1 100 = .ok (.iadd, 1) := by decide +kernel
theorem d237_101 : decode (tb_me 237).1.2.1 101 = .ok (.aload_n 0, 1) := by decide +kernel
theorem d237_102 : decode (tb_me 237).1.2.1 102 = .ok (.iload_n 1, 1) := by decide +kernel
theorem d237_103 : decode (tb_me 237).1.2.1 103 = .ok (.invokevirtual 379, 3) := by decide +kernel
theorem k237_379 (b : Bool) : tb_lk b 237 379 = (2, 236, 0, 0, 0) := by cases b <;> decide +kernel
theorem m236 : (tb_me 236).2 = ((0, 0), (1, 10)) ∧ (tb_me 236).1.2.2.1 = 4 := by decide +kernel
theorem d237_106 : decode (tb_me 237).1.2.1 106 = .ok (.lconst 0, 1) := by decide +kernel
theorem d237_107 : decode (tb_me 237).1.2.1 107 = .ok (.lcmp, 1) := by decide +kernel
theorem d237_108 : decode (tb_me 237).1.2.1 108 = .ok (.ifCond .le 7, 3) := by decide +kernel
theorem d237_115 : decode (tb_me 237).1.2.1 115 = .ok (.iconst 0, 1) := by decide +kernel
theorem d237_111 : decode (tb_me 237).1.2.1 111 = .ok (.iconst 1, 1) := by decide +kernel
theorem d237_112 : decode (tb_me 237).1.2.1 112 = .ok (.goto 4, 3) := by decide +kernel
theorem d237_78 : decode (tb_me 237).1.2.1 78 = .ok (.goto 39, 3) := by decide +kernel
theorem d237_50 : decode (tb_me 237).1.2.1 50 = .ok (.iload_n 3, 1) := by decide +kernel
theorem d237_51 : decode (tb_me 237).1.2.1 51 = .ok (.iload_n 2, 1) := by decide +kernel
theorem d237_52 : decode (tb_me 237).1.2.1 52 = .ok (.if_icmp .ge 81, 3) := by decide +kernel
theorem d237_55 : decode (tb_me 237).1.2.1 55 = .ok (.iconst 0, 1) := by decide +kernel
theorem d237_56 : decode (tb_me 237).1.2.1 56 = .ok (.istore 4, 2) := by decide +kernel
theorem d237_123 : decode (tb_me 237).1.2.1 123 = .ok (.aload_n 0, 1) := by decide +kernel
theorem d237_124 : decode (tb_me 237).1.2.1 124 = .ok (.invokevirtual 351, 3) := by decide +kernel
theorem k237_351 (b : Bool) : tb_lk b 237 351 = (2, 227, 0, 0, 0) := by cases b <;> decide +kernel
theorem d237_127 : decode (tb_me 237).1.2.1 127 = .ok (.iinc 3 1, 3) := by decide +kernel
theorem d237_130 : decode (tb_me 237).1.2.1 130 = .ok (.goto (-80), 3) := by decide +kernel
theorem d237_0 : decode (tb_me 237).1.2.1 0 = .ok (.aload_n 0, 1) := by decide +kernel
theorem d237_1 : decode (tb_me 237).1.2.1 1 = .ok (.invokevirtual 305, 3) := by decide +kernel
theorem k237_305 (b : Bool) : tb_lk b 237 305 = (2, 192, 0, 0, 0) := by cases b <;> decide +kernel
theorem d237_4 : decode (tb_me 237).1.2.1 4 = .ok (.ifCond .eq 37, 3) := by decide +kernel
theorem d237_41 : decode (tb_me 237).1.2.1 41 = .ok (.iconst (-1), 1) := by decide +kernel
theorem d237_42 : decode (tb_me 237).1.2.1 42 = .ok (.ireturn, 1) := by decide +kernel
theorem t237 : (tb_me 237).1.2.2.2 = some .int := by decide +kernel
theorem d237_7 : decode (tb_me 237).1.2.1 7 = .ok (.aload_n 0, 1) := by decide +kernel
theorem d237_8 : decode (tb_me 237).1.2.1 8 = .ok (.iload_n 1, 1) := by decide +kernel
theorem d237_9 : decode (tb_me 237).1.2.1 9 = .ok (.invokevirtual 371, 3) := by decide +kernel
theorem k237_371 (b : Bool) : tb_lk b 237 371 = (2, 187, 0, 0, 0) := by cases b <;> decide +kernel
theorem m187 : (tb_me 187).2 = ((0, 0), (1, 10)) ∧ (tb_me 187).1.2.2.1 = 2 := by decide +kernel
theorem d237_12 : decode (tb_me 237).1.2.1 12 = .ok (.ifCond .eq 29, 3) := by decide +kernel
theorem d237_15 : decode (tb_me 237).1.2.1 15 = .ok (.iload_n 2, 1) := by decide +kernel
theorem d237_16 : decode (tb_me 237).1.2.1 16 = .ok (.i2l, 1) := by decide +kernel
theorem d237_17 : decode (tb_me 237).1.2.1 17 = .ok (.lconst 1, 1) := by decide +kernel
theorem d237_18 : decode (tb_me 237).1.2.1 18 = .ok (.ldc2_w 374, 3) := by decide +kernel
theorem k237_374 (b : Bool) : tb_lk b 237 374 = (12, 0, 0, 0, 60) := by cases b <;> decide +kernel
theorem d237_21 : decode (tb_me 237).1.2.1 21 = .ok (.invokestatic 112, 3) := by decide +kernel
theorem k237_112 (b : Bool) : tb_lk b 237 112 = (4, 148, 0, 0, 0) := by cases b <;> decide +kernel
theorem d237_24 : decode (tb_me 237).1.2.1 24 = .ok (.ifCond .eq 17, 3) := by decide +kernel
theorem d237_27 : decode (tb_me 237).1.2.1 27 = .ok (.aload_n 0, 1) := by decide +kernel
theorem d237_28 : decode (tb_me 237).1.2.1 28 = .ok (.getfield 39, 3) := by decide +kernel
theorem d237_31 : decode (tb_me 237).1.2.1 31 = .ok (.iconst 4, 1) := by decide +kernel
theorem d237_32 : decode (tb_me 237).1.2.1 32 = .ok (.iaload, 1) := by decide +kernel
theorem d237_33 : decode (tb_me 237).1.2.1 33 = .ok (.iload_n 2, 1) := by decide +kernel
theorem d237_34 : decode (tb_me 237).1.2.1 34 = .ok (.iadd, 1) := by decide +kernel
theorem d237_35 : decode (tb_me 237).1.2.1 35 = .ok (.sipush 999, 3) := by decide +kernel
theorem d237_38 : decode (tb_me 237).1.2.1 38 = .ok (.if_icmp .le 5, 3) := by decide +kernel
theorem d237_43 : decode (tb_me 237).1.2.1 43 = .ok (.aload_n 0, 1) := by decide +kernel
theorem d237_44 : decode (tb_me 237).1.2.1 44 = .ok (.iconst 0, 1) := by decide +kernel
theorem d237_45 : decode (tb_me 237).1.2.1 45 = .ok (.putfield 252, 3) := by decide +kernel
theorem k237_252 (b : Bool) : tb_lk b 237 252 = (1, 10, 28, 0, 0) := by cases b <;> decide +kernel
theorem p237_10_28 : (28 < pm_nf tb_cl 10) ∧ tb_ft 10 28 = .int ∧ pm_fin tb_cl (tb_me 237).1.1 10 28 = true := by decide +kernel
theorem d237_48 : decode (tb_me 237).1.2.1 48 = .ok (.iconst 0, 1) := by decide +kernel
theorem d237_49 : decode (tb_me 237).1.2.1 49 = .ok (.istore_n 3, 1) := by decide +kernel
theorem d237_133 : decode (tb_me 237).1.2.1 133 = .ok (.aload_n 0, 1) := by decide +kernel
theorem d237_134 : decode (tb_me 237).1.2.1 134 = .ok (.getfield 39, 3) := by decide +kernel
theorem d237_137 : decode (tb_me 237).1.2.1 137 = .ok (.iconst 4, 1) := by decide +kernel
theorem d237_138 : decode (tb_me 237).1.2.1 138 = .ok (.iaload, 1) := by decide +kernel
theorem d237_139 : decode (tb_me 237).1.2.1 139 = .ok (.ireturn, 1) := by decide +kernel
theorem e237 : (tb_me 237).2.1 = (0, 0) ∧ (tb_me 237).1.2.2.1 = 5 := by decide +kernel
theorem d238_0 : decode (tb_me 238).1.2.1 0 = .ok (.aload_n 0, 1) := by decide +kernel
theorem d238_1 : decode (tb_me 238).1.2.1 1 = .ok (.invokevirtual 305, 3) := by decide +kernel
theorem k238_305 (b : Bool) : tb_lk b 238 305 = (2, 192, 0, 0, 0) := by cases b <;> decide +kernel
theorem d238_4 : decode (tb_me 238).1.2.1 4 = .ok (.ifCond .eq 14, 3) := by decide +kernel
theorem d238_18 : decode (tb_me 238).1.2.1 18 = .ok (.iconst (-1), 1) := by decide +kernel
theorem d238_19 : decode (tb_me 238).1.2.1 19 = .ok (.ireturn, 1) := by decide +kernel
theorem t238 : (tb_me 238).1.2.2.2 = some .int := by decide +kernel
theorem d238_7 : decode (tb_me 238).1.2.1 7 = .ok (.aload_n 0, 1) := by decide +kernel
theorem d238_8 : decode (tb_me 238).1.2.1 8 = .ok (.aload_n 0, 1) := by decide +kernel
theorem d238_9 : decode (tb_me 238).1.2.1 9 = .ok (.invokevirtual 383, 3) := by decide +kernel
theorem k238_383 (b : Bool) : tb_lk b 238 383 = (2, 200, 0, 0, 0) := by cases b <;> decide +kernel
theorem m200 : (tb_me 200).2 = ((0, 0), (0, 10)) ∧ (tb_me 200).1.2.2.1 = 3 := by decide +kernel
theorem d238_12 : decode (tb_me 238).1.2.1 12 = .ok (.invokevirtual 386, 3) := by decide +kernel
theorem k238_386 (b : Bool) : tb_lk b 238 386 = (2, 221, 0, 0, 0) := by cases b <;> decide +kernel
theorem m221 : (tb_me 221).2 = ((0, 0), (1, 10)) ∧ (tb_me 221).1.2.2.1 = 2 := by decide +kernel
theorem d238_15 : decode (tb_me 238).1.2.1 15 = .ok (.goto 4, 3) := by decide +kernel
theorem e238 : (tb_me 238).2.1 = (0, 0) ∧ (tb_me 238).1.2.2.1 = 1 := by decide +kernel
theorem d239_49 : decode (tb_me 239).1.2.1 49 = .ok (.iload_n 3, 1) := by decide +kernel
theorem d239_50 : decode (tb_me 239).1.2.1 50 = .ok (.iconst 5, 1) := by decide +kernel
theorem d239_51 : decode (tb_me 239).1.2.1 51 = .ok (.if_icmp .gt 8, 3) := by decide +kernel
theorem d239_59 : decode (tb_me 239).1.2.1 59 = .ok (.bipush (-2), 2) := by decide +kernel
theorem d239_61 : decode (tb_me 239).1.2.1 61 = .ok (.ireturn, 1) := by decide +kernel
theorem t239 : (tb_me 239).1.2.2.2 = some .int := by decide +kernel
theorem d239_54 : decode (tb_me 239).1.2.1 54 = .ok (.iload_n 2, 1) := by decide +kernel
theorem d239_55 : decode (tb_me 239).1.2.1 55 = .ok (.iload_n 3, 1) := by decide +kernel
theorem d239_56 : decode (tb_me 239).1.2.1 56 = .ok (.if_icmp .le 6, 3) := by decide +kernel
theorem d239_62 : decode (tb_me 239).1.2.1 62 = .ok (.iload_n 2, 1) := by decide +kernel
theorem d239_63 : decode (tb_me 239).1.2.1 63 = .ok (.ifCond .ne 7, 3) := by decide +kernel
theorem d239_70 : decode (tb_me 239).1.2.1 70 = .ok (.aload_n 0, 1) := by decide +kernel
theorem d239_71 : decode (tb_me 239).1.2.1 71 = .ok (.getfield 45, 3) := by decide +kernel
theorem k239_45 (b : Bool) : tb_lk b 239 45 = (1, 10, 24, 0, 0) := by cases b <;> decide +kernel
theorem d239_74 : decode (tb_me 239).1.2.1 74 = .ok (.iload_n 2, 1) := by decide +kernel
theorem d239_75 : decode (tb_me 239).1.2.1 75 = .ok (.iconst 1, 1) := by decide +kernel
theorem d239_76 : decode (tb_me 239).1.2.1 76 = .ok (.isub, 1) := by decide +kernel
theorem d239_77 : decode (tb_me 239).1.2.1 77 = .ok (.iaload, 1) := by decide +kernel
theorem d239_78 : decode (tb_me 239).1.2.1 78 = .ok (.ireturn, 1) := by decide +kernel
theorem d239_66 : decode (tb_me 239).1.2.1 66 = .ok (.iload_n 3, 1) := by decide +kernel
theorem d239_67 : decode (tb_me 239).1.2.1 67 = .ok (.goto 11, 3) := by decide +kernel
theorem d239_24 : decode (tb_me 239).1.2.1 24 = .ok (.iload_n 3, 1) := by decide +kernel
theorem d239_25 : decode (tb_me 239).1.2.1 25 = .ok (.iconst 5, 1) := by decide +kernel
theorem d239_26 : decode (tb_me 239).1.2.1 26 = .ok (.if_icmp .gt 23, 3) := by decide +kernel
theorem d239_29 : decode (tb_me 239).1.2.1 29 = .ok (.aload_n 0, 1) := by decide +kernel
theorem d239_30 : decode (tb_me 239).1.2.1 30 = .ok (.aload_n 0, 1) := by decide +kernel
theorem d239_31 : decode (tb_me 239).1.2.1 31 = .ok (.invokevirtual 383, 3) := by decide +kernel
theorem k239_383 (b : Bool) : tb_lk b 239 383 = (2, 200, 0, 0, 0) := by cases b <;> decide +kernel
theorem d239_34 : decode (tb_me 239).1.2.1 34 = .ok (.iconst 0, 1) := by decide +kernel
theorem d239_35 : decode (tb_me 239).1.2.1 35 = .ok (.iload_n 1, 1) := by decide +kernel
theorem d239_36 : decode (tb_me 239).1.2.1 36 = .ok (.iload_n 3, 1) := by decide +kernel
theorem d239_37 : decode (tb_me 239).1.2.1 37 = .ok (.invokevirtual 389, 3) := by decide +kernel
theorem k239_389 (b : Bool) : tb_lk b 239 389 = (2, 218, 0, 0, 0) := by cases b <;> decide +kernel
theorem m218 : (tb_me 218).2 = ((0, 0), (4, 10)) ∧ (tb_me 218).1.2.2.1 = 8 := by decide +kernel
theorem d239_40 : decode (tb_me 239).1.2.1 40 = .ok (.ifCond .ne 9, 3) := by decide +kernel
theorem d239_43 : decode (tb_me 239).1.2.1 43 = .ok (.iinc 3 1, 3) := by decide +kernel
theorem d239_46 : decode (tb_me 239).1.2.1 46 = .ok (.goto (-22), 3) := by decide +kernel
theorem d239_0 : decode (tb_me 239).1.2.1 0 = .ok (.aload_n 0, 1) := by decide +kernel
theorem d239_1 : decode (tb_me 239).1.2.1 1 = .ok (.iload_n 1, 1) := by decide +kernel
theorem d239_2 : decode (tb_me 239).1.2.1 2 = .ok (.invokevirtual 288, 3) := by decide +kernel
theorem k239_288 (b : Bool) : tb_lk b 239 288 = (2, 194, 0, 0, 0) := by cases b <;> decide +kernel
theorem d239_5 : decode (tb_me 239).1.2.1 5 = .ok (.ifCond .eq 15, 3) := by decide +kernel
theorem d239_20 : decode (tb_me 239).1.2.1 20 = .ok (.iconst (-1), 1) := by decide +kernel
theorem d239_21 : decode (tb_me 239).1.2.1 21 = .ok (.ireturn, 1) := by decide +kernel
theorem d239_8 : decode (tb_me 239).1.2.1 8 = .ok (.iload_n 2, 1) := by decide +kernel
theorem d239_9 : decode (tb_me 239).1.2.1 9 = .ok (.i2l, 1) := by decide +kernel
theorem d239_10 : decode (tb_me 239).1.2.1 10 = .ok (.lconst 0, 1) := by decide +kernel
theorem d239_11 : decode (tb_me 239).1.2.1 11 = .ok (.ldc2_w 291, 3) := by decide +kernel
theorem k239_291 (b : Bool) : tb_lk b 239 291 = (12, 0, 0, 0, 5) := by cases b <;> decide +kernel
theorem d239_14 : decode (tb_me 239).1.2.1 14 = .ok (.invokestatic 112, 3) := by decide +kernel
theorem k239_112 (b : Bool) : tb_lk b 239 112 = (4, 148, 0, 0, 0) := by cases b <;> decide +kernel
theorem d239_17 : decode (tb_me 239).1.2.1 17 = .ok (.ifCond .ne 5, 3) := by decide +kernel
theorem d239_22 : decode (tb_me 239).1.2.1 22 = .ok (.iconst 1, 1) := by decide +kernel
theorem d239_23 : decode (tb_me 239).1.2.1 23 = .ok (.istore_n 3, 1) := by decide +kernel
theorem e239 : (tb_me 239).2.1 = (0, 0) ∧ (tb_me 239).1.2.2.1 = 4 := by decide +kernel
theorem d240_179 : decode (tb_me 240).1.2.1 179 = .ok (.iload 6, 2) := by decide +kernel
theorem d240_181 : decode (tb_me 240).1.2.1 181 = .ok (.istore 5, 2) := by decide +kernel
theorem d240_183 : decode (tb_me 240).1.2.1 183 = .ok (.iinc 6 1, 3) := by decide +kernel
theorem d240_186 : decode (tb_me 240).1.2.1 186 = .ok (.goto (-60), 3) := by decide +kernel
theorem d240_126 : decode (tb_me 240).1.2.1 126 = .ok (.iload 6, 2) := by decide +kernel
theorem d240_128 : decode (tb_me 240).1.2.1 128 = .ok (.iload_n 3, 1) := by decide +kernel
theorem d240_129 : decode (tb_me 240).1.2.1 129 = .ok (.if_icmp .gt 60, 3) := by decide +kernel
theorem d240_132 : decode (tb_me 240).1.2.1 132 = .ok (.iload 6, 2) := by decide +kernel
theorem d240_134 : decode (tb_me 240).1.2.1 134 = .ok (.iload_n 3, 1) := by decide +kernel
theorem d240_135 : decode (tb_me 240).1.2.1 135 = .ok (.iconst (-1), 1) := by decide +kernel
theorem d240_136 : decode (tb_me 240).1.2.1 136 = .ok (.ixor, 1) := by decide +kernel
theorem d240_137 : decode (tb_me 240).1.2.1 137 = .ok (.iand, 1) := by decide +kernel
theorem d240_138 : decode (tb_me 240).1.2.1 138 = .ok (.ifCond .ne 45, 3) := by decide +kernel
theorem d240_141 : decode (tb_me 240).1.2.1 141 = .ok (.iload_n 1, 1) := by decide +kernel
theorem d240_142 : decode (tb_me 240).1.2.1 142 = .ok (.aload_n 0, 1) := by decide +kernel
theorem d240_143 : decode (tb_me 240).1.2.1 143 = .ok (.getfield 51, 3) := by decide +kernel
theorem k240_51 (b : Bool) : tb_lk b 240 51 = (1, 10, 26, 0, 0) := by cases b <;> decide +kernel
theorem d240_146 : decode (tb_me 240).1.2.1 146 = .ok (.iload 6, 2) := by decide +kernel
theorem d240_148 : decode (tb_me 240).1.2.1 148 = .ok (.iload 4, 2) := by decide +kernel
theorem d240_150 : decode (tb_me 240).1.2.1 150 = .ok (.ior, 1) := by decide +kernel
theorem d240_151 : decode (tb_me 240).1.2.1 151 = .ok (.iaload, 1) := by decide +kernel
theorem d240_152 : decode (tb_me 240).1.2.1 152 = .ok (.iconst (-1), 1) := by decide +kernel
theorem d240_153 : decode (tb_me 240).1.2.1 153 = .ok (.ixor, 1) := by decide +kernel
theorem d240_154 : decode (tb_me 240).1.2.1 154 = .ok (.iand, 1) := by decide +kernel
theorem d240_155 : decode (tb_me 240).1.2.1 155 = .ok (.ifCond .eq 6, 3) := by decide +kernel
theorem d240_161 : decode (tb_me 240).1.2.1 161 = .ok (.iload 5, 2) := by decide +kernel
theorem d240_163 : decode (tb_me 240).1.2.1 163 = .ok (.ifCond .lt 16, 3) := by decide +kernel
theorem d240_166 : decode (tb_me 240).1.2.1 166 = .ok (.iload 6, 2) := by decide +kernel
theorem d240_168 : decode (tb_me 240).1.2.1 168 = .ok (.invokestatic 336, 3) := by decide +kernel
theorem k240_336 (b : Bool) : tb_lk b 240 336 = (4, 150, 0, 0, 0) := by cases b <;> decide +kernel
theorem d240_171 : decode (tb_me 240).1.2.1 171 = .ok (.iload 5, 2) := by decide +kernel
theorem d240_173 : decode (tb_me 240).1.2.1 173 = .ok (.invokestatic 336, 3) := by decide +kernel
theorem d240_176 : decode (tb_me 240).1.2.1 176 = .ok (.if_icmp .ge 7, 3) := by decide +kernel
theorem d240_158 : decode (tb_me 240).1.2.1 158 = .ok (.goto 25, 3) := by decide +kernel
theorem d240_109 : decode (tb_me 240).1.2.1 109 = .ok (.istore 4, 2) := by decide +kernel
theorem d240_111 : decode (tb_me 240).1.2.1 111 = .ok (.aload_n 0, 1) := by decide +kernel
theorem d240_112 : decode (tb_me 240).1.2.1 112 = .ok (.iload_n 3, 1) := by decide +kernel
theorem d240_113 : decode (tb_me 240).1.2.1 113 = .ok (.iload 4, 2) := by decide +kernel
theorem d240_115 : decode (tb_me 240).1.2.1 115 = .ok (.ior, 1) := by decide +kernel
theorem d240_116 : decode (tb_me 240).1.2.1 116 = .ok (.invokevirtual 342, 3) := by decide +kernel
theorem k240_342 (b : Bool) : tb_lk b 240 342 = (2, 220, 0, 0, 0) := by cases b <;> decide +kernel
theorem d240_119 : decode (tb_me 240).1.2.1 119 = .ok (.bipush (-2), 2) := by decide +kernel
theorem d240_121 : decode (tb_me 240).1.2.1 121 = .ok (.istore 5, 2) := by decide +kernel
theorem d240_123 : decode (tb_me 240).1.2.1 123 = .ok (.iconst 0, 1) := by decide +kernel
theorem d240_124 : decode (tb_me 240).1.2.1 124 = .ok (.istore 6, 2) := by decide +kernel
theorem d240_189 : decode (tb_me 240).1.2.1 189 = .ok (.iload 5, 2) := by decide +kernel
theorem d240_191 : decode (tb_me 240).1.2.1 191 = .ok (.ifCond .ge 8, 3) := by decide +kernel
theorem d240_199 : decode (tb_me 240).1.2.1 199 = .ok (.iload_n 2, 1) := by decide +kernel
theorem d240_200 : decode (tb_me 240).1.2.1 200 = .ok (.ifCond .ne 11, 3) := by decide +kernel
theorem d240_211 : decode (tb_me 240).1.2.1 211 = .ok (.iload 5, 2) := by decide +kernel
theorem d240_213 : decode (tb_me 240).1.2.1 213 = .ok (.ireturn, 1) := by decide +kernel
theorem t240 : (tb_me 240).1.2.2.2 = some .int := by decide +kernel
theorem d240_203 : decode (tb_me 240).1.2.1 203 = .ok (.iload 5, 2) := by decide +kernel
theorem d240_205 : decode (tb_me 240).1.2.1 205 = .ok (.invokestatic 336, 3) := by decide +kernel
theorem d240_208 : decode (tb_me 240).1.2.1 208 = .ok (.goto 5, 3) := by decide +kernel
theorem d240_194 : decode (tb_me 240).1.2.1 194 = .ok (.bipush (-2), 2) := by decide +kernel
theorem d240_196 : decode (tb_me 240).1.2.1 196 = .ok (.goto 17, 3) := by decide +kernel
theorem d240_84 : decode (tb_me 240).1.2.1 84 = .ok (.ior, 1) := by decide +kernel
theorem d240_85 : decode (tb_me 240).1.2.1 85 = .ok (.istore_n 3, 1) := by decide +kernel
theorem d240_86 : decode (tb_me 240).1.2.1 86 = .ok (.iinc 4 1, 3) := by decide +kernel
theorem d240_89 : decode (tb_me 240).1.2.1 89 = .ok (.goto (-53), 3) := by decide +kernel
theorem d240_36 : decode (tb_me 240).1.2.1 36 = .ok (.iload 4, 2) := by decide +kernel
theorem d240_38 : decode (tb_me 240).1.2.1 38 = .ok (.aload_n 0, 1) := by decide +kernel
theorem d240_39 : decode (tb_me 240).1.2.1 39 = .ok (.getfield 39, 3) := by decide +kernel
theorem k240_39 (b : Bool) : tb_lk b 240 39 = (1, 10, 20, 0, 0) := by cases b <;> decide +kernel
theorem d240_42 : decode (tb_me 240).1.2.1 42 = .ok (.iconst 1, 1) := by decide +kernel
theorem d240_43 : decode (tb_me 240).1.2.1 43 = .ok (.iaload, 1) := by decide +kernel
theorem d240_44 : decode (tb_me 240).1.2.1 44 = .ok (.if_icmp .ge 48, 3) := by decide +kernel
theorem d240_47 : decode (tb_me 240).1.2.1 47 = .ok (.iload_n 3, 1) := by decide +kernel
theorem d240_48 : decode (tb_me 240).1.2.1 48 = .ok (.aload_n 0, 1) := by decide +kernel
theorem d240_49 : decode (tb_me 240).1.2.1 49 = .ok (.iload 4, 2) := by decide +kernel
theorem d240_51 : decode (tb_me 240).1.2.1 51 = .ok (.invokevirtual 277, 3) := by decide +kernel
theorem k240_277 (b : Bool) : tb_lk b 240 277 = (2, 197, 0, 0, 0) := by cases b <;> decide +kernel
theorem d240_54 : decode (tb_me 240).1.2.1 54 = .ok (.ifCond .eq 29, 3) := by decide +kernel
theorem d240_83 : decode (tb_me 240).1.2.1 83 = .ok (.iconst 0, 1) := by decide +kernel
theorem d240_57 : decode (tb_me 240).1.2.1 57 = .ok (.aload_n 0, 1) := by decide +kernel
theorem d240_58 : decode (tb_me 240).1.2.1 58 = .ok (.iload 4, 2) := by decide +kernel
theorem d240_60 : decode (tb_me 240).1.2.1 60 = .ok (.iconst 3, 1) := by decide +kernel
theorem d240_61 : decode (tb_me 240).1.2.1 61 = .ok (.invokevirtual 273, 3) := by decide +kernel
theorem k240_273 (b : Bool) : tb_lk b 240 273 = (2, 196, 0, 0, 0) := by cases b <;> decide +kernel
theorem d240_64 : decode (tb_me 240).1.2.1 64 = .ok (.ifCond .ne 19, 3) := by decide +kernel
theorem d240_67 : decode (tb_me 240).1.2.1 67 = .ok (.aload_n 0, 1) := by decide +kernel
theorem d240_68 : decode (tb_me 240).1.2.1 68 = .ok (.iload 4, 2) := by decide +kernel
theorem d240_70 : decode (tb_me 240).1.2.1 70 = .ok (.invokevirtual 280, 3) := by decide +kernel
theorem k240_280 (b : Bool) : tb_lk b 240 280 = (2, 198, 0, 0, 0) := by cases b <;> decide +kernel
theorem d240_73 : decode (tb_me 240).1.2.1 73 = .ok (.ifCond .ne 10, 3) := by decide +kernel
theorem d240_76 : decode (tb_me 240).1.2.1 76 = .ok (.iconst 1, 1) := by decide +kernel
theorem d240_77 : decode (tb_me 240).1.2.1 77 = .ok (.iload 4, 2) := by decide +kernel
theorem d240_79 : decode (tb_me 240).1.2.1 79 = .ok (.ishl, 1) := by decide +kernel
theorem d240_80 : decode (tb_me 240).1.2.1 80 = .ok (.goto 4, 3) := by decide +kernel
theorem d240_0 : decode (tb_me 240).1.2.1 0 = .ok (.aload_n 0, 1) := by decide +kernel
theorem d240_1 : decode (tb_me 240).1.2.1 1 = .ok (.invokevirtual 305, 3) := by decide +kernel
theorem k240_305 (b : Bool) : tb_lk b 240 305 = (2, 192, 0, 0, 0) := by cases b <;> decide +kernel
theorem d240_4 : decode (tb_me 240).1.2.1 4 = .ok (.ifCond .eq 25, 3) := by decide +kernel
theorem d240_29 : decode (tb_me 240).1.2.1 29 = .ok (.iconst (-1), 1) := by decide +kernel
theorem d240_30 : decode (tb_me 240).1.2.1 30 = .ok (.ireturn, 1) := by decide +kernel
theorem d240_7 : decode (tb_me 240).1.2.1 7 = .ok (.iload_n 1, 1) := by decide +kernel
theorem d240_8 : decode (tb_me 240).1.2.1 8 = .ok (.ifCond .lt 21, 3) := by decide +kernel
theorem d240_11 : decode (tb_me 240).1.2.1 11 = .ok (.iload_n 1, 1) := by decide +kernel
theorem d240_12 : decode (tb_me 240).1.2.1 12 = .ok (.aload_n 0, 1) := by decide +kernel
theorem d240_13 : decode (tb_me 240).1.2.1 13 = .ok (.invokevirtual 393, 3) := by decide +kernel
theorem k240_393 (b : Bool) : tb_lk b 240 393 = (2, 223, 0, 0, 0) := by cases b <;> decide +kernel
theorem m223 : (tb_me 223).2 = ((0, 0), (0, 10)) ∧ (tb_me 223).1.2.2.1 = 1 := by decide +kernel
theorem d240_16 : decode (tb_me 240).1.2.1 16 = .ok (.if_icmp .gt 13, 3) := by decide +kernel
theorem d240_19 : decode (tb_me 240).1.2.1 19 = .ok (.iload_n 2, 1) := by decide +kernel
theorem d240_20 : decode (tb_me 240).1.2.1 20 = .ok (.i2l, 1) := by decide +kernel
theorem d240_21 : decode (tb_me 240).1.2.1 21 = .ok (.lconst 0, 1) := by decide +kernel
theorem d240_22 : decode (tb_me 240).1.2.1 22 = .ok (.lconst 1, 1) := by decide +kernel
theorem d240_23 : decode (tb_me 240).1.2.1 23 = .ok (.invokestatic 112, 3) := by decide +kernel
theorem k240_112 (b : Bool) : tb_lk b 240 112 = (4, 148, 0, 0, 0) := by cases b <;> decide +kernel
theorem d240_26 : decode (tb_me 240).1.2.1 26 = .ok (.ifCond .ne 5, 3) := by decide +kernel
theorem d240_31 : decode (tb_me 240).1.2.1 31 = .ok (.iconst 0, 1) := by decide +kernel
theorem d240_32 : decode (tb_me 240).1.2.1 32 = .ok (.istore_n 3, 1) := by decide +kernel
theorem d240_33 : decode (tb_me 240).1.2.1 33 = .ok (.iconst 0, 1) := by decide +kernel
theorem d240_34 : decode (tb_me 240).1.2.1 34 = .ok (.istore 4, 2) := by decide +kernel
theorem d240_92 : decode (tb_me 240).1.2.1 92 = .ok (.aload_n 0, 1) := by decide +kernel
theorem d240_93 : decode (tb_me 240).1.2.1 93 = .ok (.getfield 39, 3) := by decide +kernel
theorem d240_96 : decode (tb_me 240).1.2.1 96 = .ok (.bipush 6, 2) := by decide +kernel
theorem d240_98 : decode (tb_me 240).1.2.1 98 = .ok (.iaload, 1) := by decide +kernel
theorem d240_99 : decode (tb_me 240).1.2.1 99 = .ok (.ifCond .lt 9, 3) := by decide +kernel
theorem d240_108 : decode (tb_me 240).1.2.1 108 = .ok (.iconst 0, 1) := by decide +kernel
theorem d240_102 : decode (tb_me 240).1.2.1 102 = .ok (.sipush 256, 3) := by decide +kernel
theorem d240_105 : decode (tb_me 240).1.2.1 105 = .ok (.goto 4, 3) := by decide +kernel
theorem e240 : (tb_me 240).2.1 = (0, 0) ∧ (tb_me 240).1.2.2.1 = 7 := by decide +kernel
theorem d241_97 : decode (tb_me 241).1.2.1 97 = .ok (.iload 6, 2) := by decide +kernel
theorem d241_99 : decode (tb_me 241).1.2.1 99 = .ok (.iload_n 3, 1) := by decide +kernel
theorem d241_100 : decode (tb_me 241).1.2.1 100 = .ok (.if_icmp .gt 81, 3) := by decide +kernel
theorem d241_103 : decode (tb_me 241).1.2.1 103 = .ok (.iload 6, 2) := by decide +kernel
theorem d241_105 : decode (tb_me 241).1.2.1 105 = .ok (.iload_n 3, 1) := by decide +kernel
theorem d241_106 : decode (tb_me 241).1.2.1 106 = .ok (.iconst (-1), 1) := by decide +kernel
theorem d241_107 : decode (tb_me 241).1.2.1 107 = .ok (.ixor, 1) := by decide +kernel
theorem d241_108 : decode (tb_me 241).1.2.1 108 = .ok (.iand, 1) := by decide +kernel
theorem d241_109 : decode (tb_me 241).1.2.1 109 = .ok (.ifCond .ne 66, 3) := by decide +kernel
theorem d241_175 : decode (tb_me 241).1.2.1 175 = .ok (.iinc 6 1, 3) := by decide +kernel
theorem d241_178 : decode (tb_me 241).1.2.1 178 = .ok (.goto (-81), 3) := by decide +kernel
theorem d241_112 : decode (tb_me 241).1.2.1 112 = .ok (.iload 6, 2) := by decide +kernel
theorem d241_114 : decode (tb_me 241).1.2.1 114 = .ok (.iload 4, 2) := by decide +kernel
theorem d241_116 : decode (tb_me 241).1.2.1 116 = .ok (.iand, 1) := by decide +kernel
theorem d241_117 : decode (tb_me 241).1.2.1 117 = .ok (.iload 4, 2) := by decide +kernel
theorem d241_119 : decode (tb_me 241).1.2.1 119 = .ok (.if_icmp .ne 56, 3) := by decide +kernel
theorem d241_122 : decode (tb_me 241).1.2.1 122 = .ok (.iload 5, 2) := by decide +kernel
theorem d241_124 : decode (tb_me 241).1.2.1 124 = .ok (.aload_n 0, 1) := by decide +kernel
theorem d241_125 : decode (tb_me 241).1.2.1 125 = .ok (.getfield 51, 3) := by decide +kernel
theorem k241_51 (b : Bool) : tb_lk b 241 51 = (1, 10, 26, 0, 0) := by cases b <;> decide +kernel
theorem d241_128 : decode (tb_me 241).1.2.1 128 = .ok (.iload 6, 2) := by decide +kernel
theorem d241_130 : decode (tb_me 241).1.2.1 130 = .ok (.iaload, 1) := by decide +kernel
theorem d241_131 : decode (tb_me 241).1.2.1 131 = .ok (.iconst (-1), 1) := by decide +kernel
theorem d241_132 : decode (tb_me 241).1.2.1 132 = .ok (.ixor, 1) := by decide +kernel
theorem d241_133 : decode (tb_me 241).1.2.1 133 = .ok (.iand, 1) := by decide +kernel
theorem d241_134 : decode (tb_me 241).1.2.1 134 = .ok (.ifCond .ne 41, 3) := by decide +kernel
theorem d241_137 : decode (tb_me 241).1.2.1 137 = .ok (.iload 5, 2) := by decide +kernel
theorem d241_139 : decode (tb_me 241).1.2.1 139 = .ok (.aload_n 0, 1) := by decide +kernel
theorem d241_140 : decode (tb_me 241).1.2.1 140 = .ok (.getfield 51, 3) := by decide +kernel
theorem d241_143 : decode (tb_me 241).1.2.1 143 = .ok (.iload_n 3, 1) := by decide +kernel
theorem d241_144 : decode (tb_me 241).1.2.1 144 = .ok (.iload 6, 2) := by decide +kernel
theorem d241_146 : decode (tb_me 241).1.2.1 146 = .ok (.iconst (-1), 1) := by decide +kernel
theorem d241_147 : decode (tb_me 241).1.2.1 147 = .ok (.ixor, 1) := by decide +kernel
theorem d241_148 : decode (tb_me 241).1.2.1 148 = .ok (.iand, 1) := by decide +kernel
theorem d241_149 : decode (tb_me 241).1.2.1 149 = .ok (.iaload, 1) := by decide +kernel
theorem d241_150 : decode (tb_me 241).1.2.1 150 = .ok (.iconst (-1), 1) := by decide +kernel
theorem d241_151 : decode (tb_me 241).1.2.1 151 = .ok (.ixor, 1) := by decide +kernel
theorem d241_152 : decode (tb_me 241).1.2.1 152 = .ok (.iand, 1) := by decide +kernel
theorem d241_153 : decode (tb_me 241).1.2.1 153 = .ok (.ifCond .eq 6, 3) := by decide +kernel
theorem d241_156 : decode (tb_me 241).1.2.1 156 = .ok (.goto 19, 3) := by decide +kernel
theorem d241_80 : decode (tb_me 241).1.2.1 80 = .ok (.ior, 1) := by decide +kernel
theorem d241_81 : decode (tb_me 241).1.2.1 81 = .ok (.istore 5, 2) := by decide +kernel
theorem d241_83 : decode (tb_me 241).1.2.1 83 = .ok (.iinc 6 1, 3) := by decide +kernel
theorem d241_86 : decode (tb_me 241).1.2.1 86 = .ok (.goto (-38), 3) := by decide +kernel
theorem d241_48 : decode (tb_me 241).1.2.1 48 = .ok (.iload 6, 2) := by decide +kernel
theorem d241_50 : decode (tb_me 241).1.2.1 50 = .ok (.aload_n 0, 1) := by decide +kernel
theorem d241_51 : decode (tb_me 241).1.2.1 51 = .ok (.getfield 39, 3) := by decide +kernel
theorem k241_39 (b : Bool) : tb_lk b 241 39 = (1, 10, 20, 0, 0) := by cases b <;> decide +kernel
theorem d241_54 : decode (tb_me 241).1.2.1 54 = .ok (.iconst 2, 1) := by decide +kernel
theorem d241_55 : decode (tb_me 241).1.2.1 55 = .ok (.iaload, 1) := by decide +kernel
theorem d241_56 : decode (tb_me 241).1.2.1 56 = .ok (.if_icmp .ge 33, 3) := by decide +kernel
theorem d241_59 : decode (tb_me 241).1.2.1 59 = .ok (.iload 5, 2) := by decide +kernel
theorem d241_61 : decode (tb_me 241).1.2.1 61 = .ok (.aload_n 0, 1) := by decide +kernel
theorem d241_62 : decode (tb_me 241).1.2.1 62 = .ok (.iload 6, 2) := by decide +kernel
theorem d241_64 : decode (tb_me 241).1.2.1 64 = .ok (.iconst 0, 1) := by decide +kernel
theorem d241_65 : decode (tb_me 241).1.2.1 65 = .ok (.invokevirtual 293, 3) := by decide +kernel
theorem k241_293 (b : Bool) : tb_lk b 241 293 = (2, 203, 0, 0, 0) := by cases b <;> decide +kernel
theorem d241_68 : decode (tb_me 241).1.2.1 68 = .ok (.iload_n 1, 1) := by decide +kernel
theorem d241_69 : decode (tb_me 241).1.2.1 69 = .ok (.if_icmp .lt 10, 3) := by decide +kernel
theorem d241_79 : decode (tb_me 241).1.2.1 79 = .ok (.iconst 0, 1) := by decide +kernel
theorem d241_72 : decode (tb_me 241).1.2.1 72 = .ok (.iconst 1, 1) := by decide +kernel
theorem d241_73 : decode (tb_me 241).1.2.1 73 = .ok (.iload 6, 2) := by decide +kernel
theorem d241_75 : decode (tb_me 241).1.2.1 75 = .ok (.ishl, 1) := by decide +kernel
theorem d241_76 : decode (tb_me 241).1.2.1 76 = .ok (.goto 4, 3) := by decide +kernel
theorem d241_0 : decode (tb_me 241).1.2.1 0 = .ok (.aload_n 0, 1) := by decide +kernel
theorem d241_1 : decode (tb_me 241).1.2.1 1 = .ok (.invokevirtual 305, 3) := by decide +kernel
theorem k241_305 (b : Bool) : tb_lk b 241 305 = (2, 192, 0, 0, 0) := by cases b <;> decide +kernel
theorem d241_4 : decode (tb_me 241).1.2.1 4 = .ok (.ifCond .eq 25, 3) := by decide +kernel
theorem d241_29 : decode (tb_me 241).1.2.1 29 = .ok (.iconst (-1), 1) := by decide +kernel
theorem d241_30 : decode (tb_me 241).1.2.1 30 = .ok (.ireturn, 1) := by decide +kernel
theorem t241 : (tb_me 241).1.2.2.2 = some .int := by decide +kernel
theorem d241_7 : decode (tb_me 241).1.2.1 7 = .ok (.iload_n 1, 1) := by decide +kernel
theorem d241_8 : decode (tb_me 241).1.2.1 8 = .ok (.i2l, 1) := by decide +kernel
theorem d241_9 : decode (tb_me 241).1.2.1 9 = .ok (.lconst 0, 1) := by decide +kernel
theorem d241_10 : decode (tb_me 241).1.2.1 10 = .ok (.ldc2_w 396, 3) := by decide +kernel
theorem k241_396 (b : Bool) : tb_lk b 241 396 = (12, 0, 0, 0, 99) := by cases b <;> decide +kernel
theorem d241_13 : decode (tb_me 241).1.2.1 13 = .ok (.invokestatic 112, 3) := by decide +kernel
theorem k241_112 (b : Bool) : tb_lk b 241 112 = (4, 148, 0, 0, 0) := by cases b <;> decide +kernel
theorem d241_16 : decode (tb_me 241).1.2.1 16 = .ok (.ifCond .eq 13, 3) := by decide +kernel
theorem d241_19 : decode (tb_me 241).1.2.1 19 = .ok (.iload_n 2, 1) := by decide +kernel
theorem d241_20 : decode (tb_me 241).1.2.1 20 = .ok (.i2l, 1) := by decide +kernel
theorem d241_21 : decode (tb_me 241).1.2.1 21 = .ok (.lconst 0, 1) := by decide +kernel
theorem d241_22 : decode (tb_me 241).1.2.1 22 = .ok (.lconst 1, 1) := by decide +kernel
theorem d241_23 : decode (tb_me 241).1.2.1 23 = .ok (.invokestatic 112, 3) := by decide +kernel
theorem d241_26 : decode (tb_me 241).1.2.1 26 = .ok (.ifCond .ne 5, 3) := by decide +kernel
theorem d241_31 : decode (tb_me 241).1.2.1 31 = .ok (.aload_n 0, 1) := by decide +kernel
theorem d241_32 : decode (tb_me 241).1.2.1 32 = .ok (.invokevirtual 356, 3) := by decide +kernel
theorem k241_356 (b : Bool) : tb_lk b 241 356 = (2, 201, 0, 0, 0) := by cases b <;> decide +kernel
theorem d241_35 : decode (tb_me 241).1.2.1 35 = .ok (.istore_n 3, 1) := by decide +kernel
theorem d241_36 : decode (tb_me 241).1.2.1 36 = .ok (.iload_n 3, 1) := by decide +kernel
theorem d241_37 : decode (tb_me 241).1.2.1 37 = .ok (.iload_n 3, 1) := by decide +kernel
theorem d241_38 : decode (tb_me 241).1.2.1 38 = .ok (.ineg, 1) := by decide +kernel
theorem d241_39 : decode (tb_me 241).1.2.1 39 = .ok (.iand, 1) := by decide +kernel
theorem d241_40 : decode (tb_me 241).1.2.1 40 = .ok (.istore 4, 2) := by decide +kernel
theorem d241_42 : decode (tb_me 241).1.2.1 42 = .ok (.iconst 0, 1) := by decide +kernel
theorem d241_43 : decode (tb_me 241).1.2.1 43 = .ok (.istore 5, 2) := by decide +kernel
theorem d241_45 : decode (tb_me 241).1.2.1 45 = .ok (.iconst 0, 1) := by decide +kernel
theorem d241_46 : decode (tb_me 241).1.2.1 46 = .ok (.istore 6, 2) := by decide +kernel
theorem d241_89 : decode (tb_me 241).1.2.1 89 = .ok (.aload_n 0, 1) := by decide +kernel
theorem d241_90 : decode (tb_me 241).1.2.1 90 = .ok (.iload_n 3, 1) := by decide +kernel
theorem d241_91 : decode (tb_me 241).1.2.1 91 = .ok (.invokevirtual 342, 3) := by decide +kernel
theorem k241_342 (b : Bool) : tb_lk b 241 342 = (2, 220, 0, 0, 0) := by cases b <;> decide +kernel
theorem d241_94 : decode (tb_me 241).1.2.1 94 = .ok (.iconst 1, 1) := by decide +kernel
theorem d241_95 : decode (tb_me 241).1.2.1 95 = .ok (.istore 6, 2) := by decide +kernel
theorem d241_159 : decode (tb_me 241).1.2.1 159 = .ok (.iload_n 2, 1) := by decide +kernel
theorem d241_160 : decode (tb_me 241).1.2.1 160 = .ok (.ifCond .ne 8, 3) := by decide +kernel
theorem d241_168 : decode (tb_me 241).1.2.1 168 = .ok (.iload_n 3, 1) := by decide +kernel
theorem d241_169 : decode (tb_me 241).1.2.1 169 = .ok (.iload 6, 2) := by decide +kernel
theorem d241_171 : decode (tb_me 241).1.2.1 171 = .ok (.iconst (-1), 1) := by decide +kernel
theorem d241_172 : decode (tb_me 241).1.2.1 172 = .ok (.ixor, 1) := by decide +kernel
theorem d241_173 : decode (tb_me 241).1.2.1 173 = .ok (.iand, 1) := by decide +kernel
theorem d241_174 : decode (tb_me 241).1.2.1 174 = .ok (.ireturn, 1) := by decide +kernel
theorem d241_163 : decode (tb_me 241).1.2.1 163 = .ok (.iload 6, 2) := by decide +kernel
theorem d241_165 : decode (tb_me 241).1.2.1 165 = .ok (.goto 9, 3) := by decide +kernel
theorem d241_181 : decode (tb_me 241).1.2.1 181 = .ok (.bipush (-2), 2) := by decide +kernel
theorem d241_183 : decode (tb_me 241).1.2.1 183 = .ok (.ireturn, 1) := by decide +kernel
theorem e241 : (tb_me 241).2.1 = (0, 0) ∧ (tb_me 241).1.2.2.1 = 7 := by decide +kernel
theorem d242_83 : decode (tb_me 242).1.2.1 83 = .ok (.iload 5, 2) := by decide +kernel
theorem d242_85 : decode (tb_me 242).1.2.1 85 = .ok (.istore_n 3, 1) := by decide +kernel
theorem d242_86 : decode (tb_me 242).1.2.1 86 = .ok (.iload 6, 2) := by decide +kernel
theorem d242_88 : decode (tb_me 242).1.2.1 88 = .ok (.istore 4, 2) := by decide +kernel
theorem d242_90 : decode (tb_me 242).1.2.1 90 = .ok (.iinc 5 1, 3) := by decide +kernel
theorem d242_93 : decode (tb_me 242).1.2.1 93 = .ok (.goto (-58), 3) := by decide +kernel
theorem d242_35 : decode (tb_me 242).1.2.1 35 = .ok (.iload 5, 2) := by decide +kernel
theorem d242_37 : decode (tb_me 242).1.2.1 37 = .ok (.aload_n 0, 1) := by decide +kernel
theorem d242_38 : decode (tb_me 242).1.2.1 38 = .ok (.getfield 39, 3) := by decide +kernel
theorem k242_39 (b : Bool) : tb_lk b 242 39 = (1, 10, 20, 0, 0) := by cases b <;> decide +kernel
theorem d242_41 : decode (tb_me 242).1.2.1 41 = .ok (.iconst 0, 1) := by decide +kernel
theorem d242_42 : decode (tb_me 242).1.2.1 42 = .ok (.iaload, 1) := by decide +kernel
theorem d242_43 : decode (tb_me 242).1.2.1 43 = .ok (.if_icmp .ge 53, 3) := by decide +kernel
theorem d242_46 : decode (tb_me 242).1.2.1 46 = .ok (.aload_n 0, 1) := by decide +kernel
theorem d242_47 : decode (tb_me 242).1.2.1 47 = .ok (.getfield 39, 3) := by decide +kernel
theorem d242_50 : decode (tb_me 242).1.2.1 50 = .ok (.bipush 6, 2) := by decide +kernel
theorem d242_52 : decode (tb_me 242).1.2.1 52 = .ok (.iload 5, 2) := by decide +kernel
theorem d242_54 : decode (tb_me 242).1.2.1 54 = .ok (.iastore, 1) := by decide +kernel
theorem d242_55 : decode (tb_me 242).1.2.1 55 = .ok (.aload_n 0, 1) := by decide +kernel
theorem d242_56 : decode (tb_me 242).1.2.1 56 = .ok (.aload_n 0, 1) := by decide +kernel
theorem d242_57 : decode (tb_me 242).1.2.1 57 = .ok (.aload_n 0, 1) := by decide +kernel
theorem d242_58 : decode (tb_me 242).1.2.1 58 = .ok (.invokevirtual 383, 3) := by decide +kernel
theorem k242_383 (b : Bool) : tb_lk b 242 383 = (2, 200, 0, 0, 0) := by cases b <;> decide +kernel
theorem d242_61 : decode (tb_me 242).1.2.1 61 = .ok (.invokevirtual 386, 3) := by decide +kernel
theorem k242_386 (b : Bool) : tb_lk b 242 386 = (2, 221, 0, 0, 0) := by cases b <;> decide +kernel
theorem d242_64 : decode (tb_me 242).1.2.1 64 = .ok (.invokevirtual 398, 3) := by decide +kernel
theorem k242_398 (b : Bool) : tb_lk b 242 398 = (2, 222, 0, 0, 0) := by cases b <;> decide +kernel
theorem m222 : (tb_me 222).2 = ((0, 0), (1, 10)) ∧ (tb_me 222).1.2.2.1 = 4 := by decide +kernel
theorem d242_67 : decode (tb_me 242).1.2.1 67 = .ok (.istore 6, 2) := by decide +kernel
theorem d242_69 : decode (tb_me 242).1.2.1 69 = .ok (.iload_n 3, 1) := by decide +kernel
theorem d242_70 : decode (tb_me 242).1.2.1 70 = .ok (.ifCond .lt 13, 3) := by decide +kernel
theorem d242_73 : decode (tb_me 242).1.2.1 73 = .ok (.iload 6, 2) := by decide +kernel
theorem d242_75 : decode (tb_me 242).1.2.1 75 = .ok (.iload 4, 2) := by decide +kernel
theorem d242_77 : decode (tb_me 242).1.2.1 77 = .ok (.if_icmp .gt 6, 3) := by decide +kernel
theorem d242_80 : decode (tb_me 242).1.2.1 80 = .ok (.goto 10, 3) := by decide +kernel
theorem d242_0 : decode (tb_me 242).1.2.1 0 = .ok (.aload_n 0, 1) := by decide +kernel
theorem d242_1 : decode (tb_me 242).1.2.1 1 = .ok (.invokevirtual 305, 3) := by decide +kernel
theorem k242_305 (b : Bool) : tb_lk b 242 305 = (2, 192, 0, 0, 0) := by cases b <;> decide +kernel
theorem d242_4 : decode (tb_me 242).1.2.1 4 = .ok (.ifCond .eq 13, 3) := by decide +kernel
theorem d242_17 : decode (tb_me 242).1.2.1 17 = .ok (.iconst (-1), 1) := by decide +kernel
theorem d242_18 : decode (tb_me 242).1.2.1 18 = .ok (.ireturn, 1) := by decide +kernel
theorem t242 : (tb_me 242).1.2.2.2 = some .int := by decide +kernel
theorem d242_7 : decode (tb_me 242).1.2.1 7 = .ok (.iload_n 1, 1) := by decide +kernel
theorem d242_8 : decode (tb_me 242).1.2.1 8 = .ok (.i2l, 1) := by decide +kernel
theorem d242_9 : decode (tb_me 242).1.2.1 9 = .ok (.lconst 0, 1) := by decide +kernel
theorem d242_10 : decode (tb_me 242).1.2.1 10 = .ok (.lconst 1, 1) := by decide +kernel
theorem d242_11 : decode (tb_me 242).1.2.1 11 = .ok (.invokestatic 112, 3) := by decide +kernel
theorem k242_112 (b : Bool) : tb_lk b 242 112 = (4, 148, 0, 0, 0) := by cases b <;> decide +kernel
theorem d242_14 : decode (tb_me 242).1.2.1 14 = .ok (.ifCond .ne 5, 3) := by decide +kernel
theorem d242_19 : decode (tb_me 242).1.2.1 19 = .ok (.aload_n 0, 1) := by decide +kernel
theorem d242_20 : decode (tb_me 242).1.2.1 20 = .ok (.getfield 39, 3) := by decide +kernel
theorem d242_23 : decode (tb_me 242).1.2.1 23 = .ok (.bipush 6, 2) := by decide +kernel
theorem d242_25 : decode (tb_me 242).1.2.1 25 = .ok (.iaload, 1) := by decide +kernel
theorem d242_26 : decode (tb_me 242).1.2.1 26 = .ok (.istore_n 2, 1) := by decide +kernel
theorem d242_27 : decode (tb_me 242).1.2.1 27 = .ok (.iconst (-1), 1) := by decide +kernel
theorem d242_28 : decode (tb_me 242).1.2.1 28 = .ok (.istore_n 3, 1) := by decide +kernel
theorem d242_29 : decode (tb_me 242).1.2.1 29 = .ok (.iconst 0, 1) := by decide +kernel
theorem d242_30 : decode (tb_me 242).1.2.1 30 = .ok (.istore 4, 2) := by decide +kernel
theorem d242_32 : decode (tb_me 242).1.2.1 32 = .ok (.iconst 0, 1) := by decide +kernel
theorem d242_33 : decode (tb_me 242).1.2.1 33 = .ok (.istore 5, 2) := by decide +kernel
theorem d242_96 : decode (tb_me 242).1.2.1 96 = .ok (.aload_n 0, 1) := by decide +kernel
theorem d242_97 : decode (tb_me 242).1.2.1 97 = .ok (.getfield 39, 3) := by decide +kernel
theorem d242_100 : decode (tb_me 242).1.2.1 100 = .ok (.bipush 6, 2) := by decide +kernel
theorem d242_102 : decode (tb_me 242).1.2.1 102 = .ok (.iload_n 2, 1) := by decide +kernel
theorem d242_103 : decode (tb_me 242).1.2.1 103 = .ok (.iastore, 1) := by decide +kernel
theorem d242_104 : decode (tb_me 242).1.2.1 104 = .ok (.iload_n 1, 1) := by decide +kernel
theorem d242_105 : decode (tb_me 242).1.2.1 105 = .ok (.ifCond .ne 7, 3) := by decide +kernel
theorem d242_112 : decode (tb_me 242).1.2.1 112 = .ok (.iload 4, 2) := by decide +kernel
theorem d242_114 : decode (tb_me 242).1.2.1 114 = .ok (.ireturn, 1) := by decide +kernel
theorem d242_108 : decode (tb_me 242).1.2.1 108 = .ok (.iload_n 3, 1) := by decide +kernel
theorem d242_109 : decode (tb_me 242).1.2.1 109 = .ok (.goto 5, 3) := by decide +kernel
theorem e242 : (tb_me 242).2.1 = (0, 0) ∧ (tb_me 242).1.2.2.1 = 7 := by decide +kernel
theorem d243_26 : decode (tb_me 243).1.2.1 26 = .ok (.iload 4, 2) := by decide +kernel
theorem d243_28 : decode (tb_me 243).1.2.1 28 = .ok (.iconst 5, 1) := by decide +kernel
theorem d243_29 : decode (tb_me 243).1.2.1 29 = .ok (.if_icmp .gt 28, 3) := by decide +kernel
theorem d243_32 : decode (tb_me 243).1.2.1 32 = .ok (.aload_n 0, 1) := by decide +kernel
theorem d243_33 : decode (tb_me 243).1.2.1 33 = .ok (.aload_n 0, 1) := by decide +kernel
theorem d243_34 : decode (tb_me 243).1.2.1 34 = .ok (.invokevirtual 383, 3) := by decide +kernel
theorem k243_383 (b : Bool) : tb_lk b 243 383 = (2, 200, 0, 0, 0) := by cases b <;> decide +kernel
theorem d243_37 : decode (tb_me 243).1.2.1 37 = .ok (.iload_n 3, 1) := by decide +kernel
theorem d243_38 : decode (tb_me 243).1.2.1 38 = .ok (.ior, 1) := by decide +kernel
theorem d243_39 : decode (tb_me 243).1.2.1 39 = .ok (.iload_n 3, 1) := by decide +kernel
theorem d243_40 : decode (tb_me 243).1.2.1 40 = .ok (.iload_n 2, 1) := by decide +kernel
theorem d243_41 : decode (tb_me 243).1.2.1 41 = .ok (.iload 4, 2) := by decide +kernel
theorem d243_43 : decode (tb_me 243).1.2.1 43 = .ok (.invokevirtual 389, 3) := by decide +kernel
theorem k243_389 (b : Bool) : tb_lk b 243 389 = (2, 218, 0, 0, 0) := by cases b <;> decide +kernel
theorem d243_46 : decode (tb_me 243).1.2.1 46 = .ok (.ifCond .eq 5, 3) := by decide +kernel
theorem d243_51 : decode (tb_me 243).1.2.1 51 = .ok (.iinc 4 1, 3) := by decide +kernel
theorem d243_54 : decode (tb_me 243).1.2.1 54 = .ok (.goto (-28), 3) := by decide +kernel
theorem d243_22 : decode (tb_me 243).1.2.1 22 = .ok (.istore_n 3, 1) := by decide +kernel
theorem d243_23 : decode (tb_me 243).1.2.1 23 = .ok (.iconst 1, 1) := by decide +kernel
theorem d243_24 : decode (tb_me 243).1.2.1 24 = .ok (.istore 4, 2) := by decide +kernel
theorem d243_49 : decode (tb_me 243).1.2.1 49 = .ok (.iconst 1, 1) := by decide +kernel
theorem d243_50 : decode (tb_me 243).1.2.1 50 = .ok (.ireturn, 1) := by decide +kernel
theorem t243 : (tb_me 243).1.2.2.2 = some .boolean := by decide +kernel
theorem d243_57 : decode (tb_me 243).1.2.1 57 = .ok (.iconst 0, 1) := by decide +kernel
theorem d243_58 : decode (tb_me 243).1.2.1 58 = .ok (.ireturn, 1) := by decide +kernel
theorem d243_0 : decode (tb_me 243).1.2.1 0 = .ok (.iload_n 1, 1) := by decide +kernel
theorem d243_1 : decode (tb_me 243).1.2.1 1 = .ok (.ifCond .ne 7, 3) := by decide +kernel
theorem d243_8 : decode (tb_me 243).1.2.1 8 = .ok (.iload_n 1, 1) := by decide +kernel
theorem d243_9 : decode (tb_me 243).1.2.1 9 = .ok (.iconst 1, 1) := by decide +kernel
theorem d243_10 : decode (tb_me 243).1.2.1 10 = .ok (.if_icmp .ne 9, 3) := by decide +kernel
theorem d243_19 : decode (tb_me 243).1.2.1 19 = .ok (.sipush 1536, 3) := by decide +kernel
theorem d243_13 : decode (tb_me 243).1.2.1 13 = .ok (.sipush 512, 3) := by decide +kernel
theorem d243_16 : decode (tb_me 243).1.2.1 16 = .ok (.goto 6, 3) := by decide +kernel
theorem d243_4 : decode (tb_me 243).1.2.1 4 = .ok (.iconst 0, 1) := by decide +kernel
theorem d243_5 : decode (tb_me 243).1.2.1 5 = .ok (.goto 17, 3) := by decide +kernel
theorem e243 : (tb_me 243).2.1 = (0, 0) ∧ (tb_me 243).1.2.2.1 = 5 := by decide +kernel
theorem d244_61 : decode (tb_me 244).1.2.1 61 = .ok (.iload_n 3, 1) := by decide +kernel
theorem d244_62 : decode (tb_me 244).1.2.1 62 = .ok (.aload_n 0, 1) := by decide +kernel
theorem d244_63 : decode (tb_me 244).1.2.1 63 = .ok (.getfield 39, 3) := by decide +kernel
theorem k244_39 (b : Bool) : tb_lk b 244 39 = (1, 10, 20, 0, 0) := by cases b <;> decide +kernel
theorem d244_66 : decode (tb_me 244).1.2.1 66 = .ok (.iconst 0, 1) := by decide +kernel
theorem d244_67 : decode (tb_me 244).1.2.1 67 = .ok (.iaload, 1) := by decide +kernel
theorem d244_68 : decode (tb_me 244).1.2.1 68 = .ok (.if_icmp .ge 34, 3) := by decide +kernel
theorem d244_71 : decode (tb_me 244).1.2.1 71 = .ok (.aload_n 0, 1) := by decide +kernel
theorem d244_72 : decode (tb_me 244).1.2.1 72 = .ok (.getfield 48, 3) := by decide +kernel
theorem k244_48 (b : Bool) : tb_lk b 244 48 = (1, 10, 25, 0, 0) := by cases b <;> decide +kernel
theorem d244_75 : decode (tb_me 244).1.2.1 75 = .ok (.iconst 0, 1) := by decide +kernel
theorem d244_76 : decode (tb_me 244).1.2.1 76 = .ok (.iload_n 2, 1) := by decide +kernel
theorem d244_77 : decode (tb_me 244).1.2.1 77 = .ok (.iastore, 1) := by decide +kernel
theorem d244_78 : decode (tb_me 244).1.2.1 78 = .ok (.aload_n 0, 1) := by decide +kernel
theorem d244_79 : decode (tb_me 244).1.2.1 79 = .ok (.getfield 48, 3) := by decide +kernel
theorem d244_82 : decode (tb_me 244).1.2.1 82 = .ok (.iconst 1, 1) := by decide +kernel
theorem d244_83 : decode (tb_me 244).1.2.1 83 = .ok (.iload_n 3, 1) := by decide +kernel
theorem d244_84 : decode (tb_me 244).1.2.1 84 = .ok (.iastore, 1) := by decide +kernel
theorem d244_85 : decode (tb_me 244).1.2.1 85 = .ok (.aload_n 0, 1) := by decide +kernel
theorem d244_86 : decode (tb_me 244).1.2.1 86 = .ok (.iconst 2, 1) := by decide +kernel
theorem d244_87 : decode (tb_me 244).1.2.1 87 = .ok (.iload_n 1, 1) := by decide +kernel
theorem d244_88 : decode (tb_me 244).1.2.1 88 = .ok (.invokevirtual 401, 3) := by decide +kernel
theorem k244_401 (b : Bool) : tb_lk b 244 401 = (2, 243, 0, 0, 0) := by cases b <;> decide +kernel
theorem m243 : (tb_me 243).2 = ((0, 0), (2, 10)) ∧ (tb_me 243).1.2.2.1 = 5 := by decide +kernel
theorem d244_91 : decode (tb_me 244).1.2.1 91 = .ok (.ifCond .eq 5, 3) := by decide +kernel
theorem d244_96 : decode (tb_me 244).1.2.1 96 = .ok (.iinc 3 1, 3) := by decide +kernel
theorem d244_99 : decode (tb_me 244).1.2.1 99 = .ok (.goto (-38), 3) := by decide +kernel
theorem d244_49 : decode (tb_me 244).1.2.1 49 = .ok (.iload_n 2, 1) := by decide +kernel
theorem d244_50 : decode (tb_me 244).1.2.1 50 = .ok (.aload_n 0, 1) := by decide +kernel
theorem d244_51 : decode (tb_me 244).1.2.1 51 = .ok (.getfield 39, 3) := by decide +kernel
theorem d244_54 : decode (tb_me 244).1.2.1 54 = .ok (.iconst 0, 1) := by decide +kernel
theorem d244_55 : decode (tb_me 244).1.2.1 55 = .ok (.iaload, 1) := by decide +kernel
theorem d244_56 : decode (tb_me 244).1.2.1 56 = .ok (.if_icmp .ge 52, 3) := by decide +kernel
theorem d244_59 : decode (tb_me 244).1.2.1 59 = .ok (.iload_n 2, 1) := by decide +kernel
theorem d244_60 : decode (tb_me 244).1.2.1 60 = .ok (.istore_n 3, 1) := by decide +kernel
theorem d244_102 : decode (tb_me 244).1.2.1 102 = .ok (.iinc 2 1, 3) := by decide +kernel
theorem d244_105 : decode (tb_me 244).1.2.1 105 = .ok (.goto (-56), 3) := by decide +kernel
theorem d244_13 : decode (tb_me 244).1.2.1 13 = .ok (.iload_n 2, 1) := by decide +kernel
theorem d244_14 : decode (tb_me 244).1.2.1 14 = .ok (.aload_n 0, 1) := by decide +kernel
theorem d244_15 : decode (tb_me 244).1.2.1 15 = .ok (.getfield 39, 3) := by decide +kernel
theorem d244_18 : decode (tb_me 244).1.2.1 18 = .ok (.iconst 0, 1) := by decide +kernel
theorem d244_19 : decode (tb_me 244).1.2.1 19 = .ok (.iaload, 1) := by decide +kernel
theorem d244_20 : decode (tb_me 244).1.2.1 20 = .ok (.if_icmp .ge 27, 3) := by decide +kernel
theorem d244_23 : decode (tb_me 244).1.2.1 23 = .ok (.aload_n 0, 1) := by decide +kernel
theorem d244_24 : decode (tb_me 244).1.2.1 24 = .ok (.getfield 48, 3) := by decide +kernel
theorem d244_27 : decode (tb_me 244).1.2.1 27 = .ok (.iconst 0, 1) := by decide +kernel
theorem d244_28 : decode (tb_me 244).1.2.1 28 = .ok (.iload_n 2, 1) := by decide +kernel
theorem d244_29 : decode (tb_me 244).1.2.1 29 = .ok (.iastore, 1) := by decide +kernel
theorem d244_30 : decode (tb_me 244).1.2.1 30 = .ok (.aload_n 0, 1) := by decide +kernel
theorem d244_31 : decode (tb_me 244).1.2.1 31 = .ok (.iconst 1, 1) := by decide +kernel
theorem d244_32 : decode (tb_me 244).1.2.1 32 = .ok (.iload_n 1, 1) := by decide +kernel
theorem d244_33 : decode (tb_me 244).1.2.1 33 = .ok (.invokevirtual 401, 3) := by decide +kernel
theorem d244_36 : decode (tb_me 244).1.2.1 36 = .ok (.ifCond .eq 5, 3) := by decide +kernel
theorem d244_41 : decode (tb_me 244).1.2.1 41 = .ok (.iinc 2 1, 3) := by decide +kernel
theorem d244_44 : decode (tb_me 244).1.2.1 44 = .ok (.goto (-31), 3) := by decide +kernel
theorem d244_0 : decode (tb_me 244).1.2.1 0 = .ok (.aload_n 0, 1) := by decide +kernel
theorem d244_1 : decode (tb_me 244).1.2.1 1 = .ok (.iconst 0, 1) := by decide +kernel
theorem d244_2 : decode (tb_me 244).1.2.1 2 = .ok (.iload_n 1, 1) := by decide +kernel
theorem d244_3 : decode (tb_me 244).1.2.1 3 = .ok (.invokevirtual 401, 3) := by decide +kernel
theorem d244_6 : decode (tb_me 244).1.2.1 6 = .ok (.ifCond .eq 5, 3) := by decide +kernel
theorem d244_11 : decode (tb_me 244).1.2.1 11 = .ok (.iconst 0, 1) := by decide +kernel
theorem d244_12 : decode (tb_me 244).1.2.1 12 = .ok (.istore_n 2, 1) := by decide +kernel
theorem d244_39 : decode (tb_me 244).1.2.1 39 = .ok (.iconst 1, 1) := by decide +kernel
theorem d244_40 : decode (tb_me 244).1.2.1 40 = .ok (.ireturn, 1) := by decide +kernel
theorem t244 : (tb_me 244).1.2.2.2 = some .int := by decide +kernel
theorem d244_47 : decode (tb_me 244).1.2.1 47 = .ok (.iconst 0, 1) := by decide +kernel
theorem d244_48 : decode (tb_me 244).1.2.1 48 = .ok (.istore_n 2, 1) := by decide +kernel
theorem d244_94 : decode (tb_me 244).1.2.1 94 = .ok (.iconst 2, 1) := by decide +kernel
theorem d244_95 : decode (tb_me 244).1.2.1 95 = .ok (.ireturn, 1) := by decide +kernel
theorem d244_108 : decode (tb_me 244).1.2.1 108 = .ok (.iconst (-1), 1) := by decide +kernel
theorem d244_109 : decode (tb_me 244).1.2.1 109 = .ok (.ireturn, 1) := by decide +kernel
theorem d244_9 : decode (tb_me 244).1.2.1 9 = .ok (.iconst 0, 1) := by decide +kernel
theorem d244_10 : decode (tb_me 244).1.2.1 10 = .ok (.ireturn, 1) := by decide +kernel
theorem e244 : (tb_me 244).2.1 = (0, 0) ∧ (tb_me 244).1.2.2.1 = 4 := by decide +kernel
theorem d245_0 : decode (tb_me 245).1.2.1 0 = .ok (.aload_n 0, 1) := by decide +kernel
theorem d245_1 : decode (tb_me 245).1.2.1 1 = .ok (.iload_n 1, 1) := by decide +kernel
theorem d245_2 : decode (tb_me 245).1.2.1 2 = .ok (.invokevirtual 288, 3) := by decide +kernel
theorem k245_288 (b : Bool) : tb_lk b 245 288 = (2, 194, 0, 0, 0) := by cases b <;> decide +kernel
theorem d245_5 : decode (tb_me 245).1.2.1 5 = .ok (.ifCond .eq 15, 3) := by decide +kernel
theorem d245_20 : decode (tb_me 245).1.2.1 20 = .ok (.iconst (-1), 1) := by decide +kernel
theorem d245_21 : decode (tb_me 245).1.2.1 21 = .ok (.ireturn, 1) := by decide +kernel
theorem t245 : (tb_me 245).1.2.2.2 = some .int := by decide +kernel
theorem d245_8 : decode (tb_me 245).1.2.1 8 = .ok (.iload_n 2, 1) := by decide +kernel
theorem d245_9 : decode (tb_me 245).1.2.1 9 = .ok (.i2l, 1) := by decide +kernel
theorem d245_10 : decode (tb_me 245).1.2.1 10 = .ok (.lconst 0, 1) := by decide +kernel
theorem d245_11 : decode (tb_me 245).1.2.1 11 = .ok (.ldc2_w 359, 3) := by decide +kernel
theorem k245_359 (b : Bool) : tb_lk b 245 359 = (12, 0, 0, 0, 2) := by cases b <;> decide +kernel
theorem d245_14 : decode (tb_me 245).1.2.1 14 = .ok (.invokestatic 112, 3) := by decide +kernel
theorem k245_112 (b : Bool) : tb_lk b 245 112 = (4, 148, 0, 0, 0) := by cases b <;> decide +kernel
theorem d245_17 : decode (tb_me 245).1.2.1 17 = .ok (.ifCond .ne 5, 3) := by decide +kernel
theorem d245_22 : decode (tb_me 245).1.2.1 22 = .ok (.aload_n 0, 1) := by decide +kernel
theorem d245_23 : decode (tb_me 245).1.2.1 23 = .ok (.iload_n 1, 1) := by decide +kernel
theorem d245_24 : decode (tb_me 245).1.2.1 24 = .ok (.invokevirtual 404, 3) := by decide +kernel
theorem k245_404 (b : Bool) : tb_lk b 245 404 = (2, 244, 0, 0, 0) := by cases b <;> decide +kernel
theorem m244 : (tb_me 244).2 = ((0, 0), (1, 10)) ∧ (tb_me 244).1.2.2.1 = 4 := by decide +kernel
theorem d245_27 : decode (tb_me 245).1.2.1 27 = .ok (.istore_n 3, 1) := by decide +kernel
theorem d245_28 : decode (tb_me 245).1.2.1 28 = .ok (.iload_n 3, 1) := by decide +kernel
theorem d245_29 : decode (tb_me 245).1.2.1 29 = .ok (.ifCond .ge 6, 3) := by decide +kernel
theorem d245_35 : decode (tb_me 245).1.2.1 35 = .ok (.iload_n 2, 1) := by decide +kernel
theorem d245_36 : decode (tb_me 245).1.2.1 36 = .ok (.ifCond .ne 7, 3) := by decide +kernel
theorem d245_43 : decode (tb_me 245).1.2.1 43 = .ok (.iload_n 2, 1) := by decide +kernel
theorem d245_44 : decode (tb_me 245).1.2.1 44 = .ok (.iload_n 3, 1) := by decide +kernel
theorem d245_45 : decode (tb_me 245).1.2.1 45 = .ok (.if_icmp .gt 14, 3) := by decide +kernel
theorem d245_59 : decode (tb_me 245).1.2.1 59 = .ok (.bipush (-2), 2) := by decide +kernel
theorem d245_61 : decode (tb_me 245).1.2.1 61 = .ok (.ireturn, 1) := by decide +kernel
theorem d245_48 : decode (tb_me 245).1.2.1 48 = .ok (.aload_n 0, 1) := by decide +kernel
theorem d245_49 : decode (tb_me 245).1.2.1 49 = .ok (.getfield 48, 3) := by decide +kernel
theorem k245_48 (b : Bool) : tb_lk b 245 48 = (1, 10, 25, 0, 0) := by cases b <;> decide +kernel
theorem d245_52 : decode (tb_me 245).1.2.1 52 = .ok (.iload_n 2, 1) := by decide +kernel
theorem d245_53 : decode (tb_me 245).1.2.1 53 = .ok (.iconst 1, 1) := by decide +kernel
theorem d245_54 : decode (tb_me 245).1.2.1 54 = .ok (.isub, 1) := by decide +kernel
theorem d245_55 : decode (tb_me 245).1.2.1 55 = .ok (.iaload, 1) := by decide +kernel
theorem d245_56 : decode (tb_me 245).1.2.1 56 = .ok (.goto 5, 3) := by decide +kernel
theorem d245_39 : decode (tb_me 245).1.2.1 39 = .ok (.iload_n 3, 1) := by decide +kernel
theorem d245_40 : decode (tb_me 245).1.2.1 40 = .ok (.goto 21, 3) := by decide +kernel
theorem d245_32 : decode (tb_me 245).1.2.1 32 = .ok (.bipush (-2), 2) := by decide +kernel
theorem d245_34 : decode (tb_me 245).1.2.1 34 = .ok (.ireturn, 1) := by decide +kernel
theorem e245 : (tb_me 245).2.1 = (0, 0) ∧ (tb_me 245).1.2.2.1 = 4 := by decide +kernel
theorem d246_0 : decode (tb_me 246).1.2.1 0 = .ok (.iload_n 0, 1) := by decide +kernel
theorem d246_1 : decode (tb_me 246).1.2.1 1 = .ok (.iload_n 1, 1) := by decide +kernel
theorem d246_2 : decode (tb_me 246).1.2.1 2 = .ok (.if_icmp .ge 7, 3) := by decide +kernel
theorem d246_9 : decode (tb_me 246).1.2.1 9 = .ok (.iload_n 1, 1) := by decide +kernel
theorem d246_10 : decode (tb_me 246).1.2.1 10 = .ok (.ireturn, 1) := by decide +kernel
theorem t246 : (tb_me 246).1.2.2.2 = some .int := by decide +kernel
theorem d246_5 : decode (tb_me 246).1.2.1 5 = .ok (.iload_n 0, 1) := by decide +kernel
theorem d246_6 : decode (tb_me 246).1.2.1 6 = .ok (.goto 4, 3) := by decide +kernel
theorem e246 : (tb_me 246).2.1 = (0, 0) ∧ (tb_me 246).1.2.2.1 = 2 := by decide +kernel
theorem d247_92 : decode (tb_me 247).1.2.1 92 = .ok (.iadd, 1) := by decide +kernel
theorem d247_93 : decode (tb_me 247).1.2.1 93 = .ok (.istore 6, 2) := by decide +kernel
theorem d247_95 : decode (tb_me 247).1.2.1 95 = .ok (.aload_n 0, 1) := by decide +kernel
theorem d247_96 : decode (tb_me 247).1.2.1 96 = .ok (.getfield 57, 3) := by decide +kernel
theorem k247_57 (b : Bool) : tb_lk b 247 57 = (1, 10, 29, 0, 0) := by cases b <;> decide +kernel
theorem f10_29 : (29 < pm_nf tb_cl 10) ∧ tb_ft 10 29 ≠ .long ∧ pm_isR (tb_ft 10 29) = true := by decide +kernel
theorem d247_99 : decode (tb_me 247).1.2.1 99 = .ok (.iload 5, 2) := by decide +kernel
theorem d247_101 : decode (tb_me 247).1.2.1 101 = .ok (.iload 6, 2) := by decide +kernel
theorem d247_103 : decode (tb_me 247).1.2.1 103 = .ok (.aload_n 0, 1) := by decide +kernel
theorem d247_104 : decode (tb_me 247).1.2.1 104 = .ok (.getfield 57, 3) := by decide +kernel
theorem d247_107 : decode (tb_me 247).1.2.1 107 = .ok (.iload 5, 2) := by decide +kernel
theorem d247_109 : decode (tb_me 247).1.2.1 109 = .ok (.iconst 5, 1) := by decide +kernel
theorem d247_110 : decode (tb_me 247).1.2.1 110 = .ok (.isub, 1) := by decide +kernel
theorem d247_111 : decode (tb_me 247).1.2.1 111 = .ok (.iaload, 1) := by decide +kernel
theorem d247_112 : decode (tb_me 247).1.2.1 112 = .ok (.aload_n 0, 1) := by decide +kernel
theorem d247_113 : decode (tb_me 247).1.2.1 113 = .ok (.getfield 57, 3) := by decide +kernel
theorem d247_116 : decode (tb_me 247).1.2.1 116 = .ok (.iload 5, 2) := by decide +kernel
theorem d247_118 : decode (tb_me 247).1.2.1 118 = .ok (.iconst 1, 1) := by decide +kernel
theorem d247_119 : decode (tb_me 247).1.2.1 119 = .ok (.isub, 1) := by decide +kernel
theorem d247_120 : decode (tb_me 247).1.2.1 120 = .ok (.iaload, 1) := by decide +kernel
theorem d247_121 : decode (tb_me 247).1.2.1 121 = .ok (.invokestatic 407, 3) := by decide +kernel
theorem k247_407 (b : Bool) : tb_lk b 247 407 = (4, 246, 0, 0, 0) := by cases b <;> decide +kernel
theorem m246 : (tb_me 246).2 = ((0, 0), (2, 999)) ∧ (tb_me 246).1.2.2.1 = 2 := by decide +kernel
theorem d247_124 : decode (tb_me 247).1.2.1 124 = .ok (.iconst 1, 1) := by decide +kernel
theorem d247_125 : decode (tb_me 247).1.2.1 125 = .ok (.iadd, 1) := by decide +kernel
theorem d247_126 : decode (tb_me 247).1.2.1 126 = .ok (.invokestatic 407, 3) := by decide +kernel
theorem d247_129 : decode (tb_me 247).1.2.1 129 = .ok (.iastore, 1) := by decide +kernel
theorem d247_130 : decode (tb_me 247).1.2.1 130 = .ok (.iinc 4 1, 3) := by decide +kernel
theorem d247_133 : decode (tb_me 247).1.2.1 133 = .ok (.goto (-113), 3) := by decide +kernel
theorem d247_43 : decode (tb_me 247).1.2.1 43 = .ok (.aload_n 0, 1) := by decide +kernel
theorem d247_44 : decode (tb_me 247).1.2.1 44 = .ok (.getfield 57, 3) := by decide +kernel
theorem d247_47 : decode (tb_me 247).1.2.1 47 = .ok (.iload 5, 2) := by decide +kernel
theorem d247_49 : decode (tb_me 247).1.2.1 49 = .ok (.iload_n 3, 1) := by decide +kernel
theorem d247_50 : decode (tb_me 247).1.2.1 50 = .ok (.iload 4, 2) := by decide +kernel
theorem d247_52 : decode (tb_me 247).1.2.1 52 = .ok (.iadd, 1) := by decide +kernel
theorem d247_53 : decode (tb_me 247).1.2.1 53 = .ok (.iastore, 1) := by decide +kernel
theorem d247_54 : decode (tb_me 247).1.2.1 54 = .ok (.goto 76, 3) := by decide +kernel
theorem d247_20 : decode (tb_me 247).1.2.1 20 = .ok (.iload 4, 2) := by decide +kernel
theorem d247_22 : decode (tb_me 247).1.2.1 22 = .ok (.iload_n 2, 1) := by decide +kernel
theorem d247_23 : decode (tb_me 247).1.2.1 23 = .ok (.if_icmp .gt 113, 3) := by decide +kernel
theorem d247_26 : decode (tb_me 247).1.2.1 26 = .ok (.iconst 5, 1) := by decide +kernel
theorem d247_27 : decode (tb_me 247).1.2.1 27 = .ok (.iload_n 3, 1) := by decide +kernel
theorem d247_28 : decode (tb_me 247).1.2.1 28 = .ok (.imul, 1) := by decide +kernel
theorem d247_29 : decode (tb_me 247).1.2.1 29 = .ok (.iload 4, 2) := by decide +kernel
theorem d247_31 : decode (tb_me 247).1.2.1 31 = .ok (.iadd, 1) := by decide +kernel
theorem d247_32 : decode (tb_me 247).1.2.1 32 = .ok (.istore 5, 2) := by decide +kernel
theorem d247_34 : decode (tb_me 247).1.2.1 34 = .ok (.iload_n 3, 1) := by decide +kernel
theorem d247_35 : decode (tb_me 247).1.2.1 35 = .ok (.ifCond .eq 8, 3) := by decide +kernel
theorem d247_38 : decode (tb_me 247).1.2.1 38 = .ok (.iload 4, 2) := by decide +kernel
theorem d247_40 : decode (tb_me 247).1.2.1 40 = .ok (.ifCond .ne 17, 3) := by decide +kernel
theorem d247_57 : decode (tb_me 247).1.2.1 57 = .ok (.aload_n 0, 1) := by decide +kernel
theorem d247_58 : decode (tb_me 247).1.2.1 58 = .ok (.getfield 57, 3) := by decide +kernel
theorem d247_61 : decode (tb_me 247).1.2.1 61 = .ok (.iload 5, 2) := by decide +kernel
theorem d247_63 : decode (tb_me 247).1.2.1 63 = .ok (.bipush 6, 2) := by decide +kernel
theorem d247_65 : decode (tb_me 247).1.2.1 65 = .ok (.isub, 1) := by decide +kernel
theorem d247_66 : decode (tb_me 247).1.2.1 66 = .ok (.iaload, 1) := by decide +kernel
theorem d247_67 : decode (tb_me 247).1.2.1 67 = .ok (.aload_n 0, 1) := by decide +kernel
theorem d247_68 : decode (tb_me 247).1.2.1 68 = .ok (.getfield 42, 3) := by decide +kernel
theorem k247_42 (b : Bool) : tb_lk b 247 42 = (1, 10, 22, 0, 0) := by cases b <;> decide +kernel
theorem d247_71 : decode (tb_me 247).1.2.1 71 = .ok (.iload_n 3, 1) := by decide +kernel
theorem d247_72 : decode (tb_me 247).1.2.1 72 = .ok (.iconst 1, 1) := by decide +kernel
theorem d247_73 : decode (tb_me 247).1.2.1 73 = .ok (.isub, 1) := by decide +kernel
theorem d247_74 : decode (tb_me 247).1.2.1 74 = .ok (.iaload, 1) := by decide +kernel
theorem d247_75 : decode (tb_me 247).1.2.1 75 = .ok (.aload_n 0, 1) := by decide +kernel
theorem d247_76 : decode (tb_me 247).1.2.1 76 = .ok (.iload_n 1, 1) := by decide +kernel
theorem d247_77 : decode (tb_me 247).1.2.1 77 = .ok (.iconst 1, 1) := by decide +kernel
theorem d247_78 : decode (tb_me 247).1.2.1 78 = .ok (.iload 4, 2) := by decide +kernel
theorem d247_80 : decode (tb_me 247).1.2.1 80 = .ok (.iadd, 1) := by decide +kernel
theorem d247_81 : decode (tb_me 247).1.2.1 81 = .ok (.invokevirtual 293, 3) := by decide +kernel
theorem k247_293 (b : Bool) : tb_lk b 247 293 = (2, 203, 0, 0, 0) := by cases b <;> decide +kernel
theorem d247_84 : decode (tb_me 247).1.2.1 84 = .ok (.if_icmp .ne 7, 3) := by decide +kernel
theorem d247_91 : decode (tb_me 247).1.2.1 91 = .ok (.iconst 1, 1) := by decide +kernel
theorem d247_87 : decode (tb_me 247).1.2.1 87 = .ok (.iconst 0, 1) := by decide +kernel
theorem d247_88 : decode (tb_me 247).1.2.1 88 = .ok (.goto 4, 3) := by decide +kernel
theorem d247_9 : decode (tb_me 247).1.2.1 9 = .ok (.iload_n 3, 1) := by decide +kernel
theorem d247_10 : decode (tb_me 247).1.2.1 10 = .ok (.aload_n 0, 1) := by decide +kernel
theorem d247_11 : decode (tb_me 247).1.2.1 11 = .ok (.getfield 299, 3) := by decide +kernel
theorem k247_299 (b : Bool) : tb_lk b 247 299 = (1, 10, 23, 0, 0) := by cases b <;> decide +kernel
theorem d247_14 : decode (tb_me 247).1.2.1 14 = .ok (.if_icmp .gt 128, 3) := by decide +kernel
theorem d247_17 : decode (tb_me 247).1.2.1 17 = .ok (.iconst 0, 1) := by decide +kernel
theorem d247_18 : decode (tb_me 247).1.2.1 18 = .ok (.istore 4, 2) := by decide +kernel
theorem d247_136 : decode (tb_me 247).1.2.1 136 = .ok (.iinc 3 1, 3) := by decide +kernel
theorem d247_139 : decode (tb_me 247).1.2.1 139 = .ok (.goto (-130), 3) := by decide +kernel
theorem d247_0 : decode (tb_me 247).1.2.1 0 = .ok (.aload_n 0, 1) := by decide +kernel
theorem d247_1 : decode (tb_me 247).1.2.1 1 = .ok (.iload_n 1, 1) := by decide +kernel
theorem d247_2 : decode (tb_me 247).1.2.1 2 = .ok (.iconst 1, 1) := by decide +kernel
theorem d247_3 : decode (tb_me 247).1.2.1 3 = .ok (.invokevirtual 293, 3) := by decide +kernel
theorem d247_6 : decode (tb_me 247).1.2.1 6 = .ok (.istore_n 2, 1) := by decide +kernel
theorem d247_7 : decode (tb_me 247).1.2.1 7 = .ok (.iconst 0, 1) := by decide +kernel
theorem d247_8 : decode (tb_me 247).1.2.1 8 = .ok (.istore_n 3, 1) := by decide +kernel
theorem d247_142 : decode (tb_me 247).1.2.1 142 = .ok (.aload_n 0, 1) := by decide +kernel
theorem d247_143 : decode (tb_me 247).1.2.1 143 = .ok (.getfield 57, 3) := by decide +kernel
theorem d247_146 : decode (tb_me 247).1.2.1 146 = .ok (.iconst 5, 1) := by decide +kernel
theorem d247_147 : decode (tb_me 247).1.2.1 147 = .ok (.aload_n 0, 1) := by decide +kernel
theorem d247_148 : decode (tb_me 247).1.2.1 148 = .ok (.getfield 299, 3) := by decide +kernel
theorem d247_151 : decode (tb_me 247).1.2.1 151 = .ok (.imul, 1) := by decide +kernel
theorem d247_152 : decode (tb_me 247).1.2.1 152 = .ok (.iload_n 2, 1) := by decide +kernel
theorem d247_153 : decode (tb_me 247).1.2.1 153 = .ok (.iadd, 1) := by decide +kernel
theorem d247_154 : decode (tb_me 247).1.2.1 154 = .ok (.iaload, 1) := by decide +kernel
theorem d247_155 : decode (tb_me 247).1.2.1 155 = .ok (.ireturn, 1) := by decide +kernel
theorem t247 : (tb_me 247).1.2.2.2 = some .int := by decide +kernel
theorem e247 : (tb_me 247).2.1 = (0, 0) ∧ (tb_me 247).1.2.2.1 = 7 := by decide +kernel
theorem d248_136 : decode (tb_me 248).1.2.1 136 = .ok (.iload 6, 2) := by decide +kernel
theorem d248_138 : decode (tb_me 248).1.2.1 138 = .ok (.istore 4, 2) := by decide +kernel
theorem d248_140 : decode (tb_me 248).1.2.1 140 = .ok (.iload 7, 2) := by decide +kernel
theorem d248_142 : decode (tb_me 248).1.2.1 142 = .ok (.istore 5, 2) := by decide +kernel
theorem d248_144 : decode (tb_me 248).1.2.1 144 = .ok (.iinc 6 1, 3) := by decide +kernel
theorem d248_147 : decode (tb_me 248).1.2.1 147 = .ok (.goto (-45), 3) := by decide +kernel
theorem d248_102 : decode (tb_me 248).1.2.1 102 = .ok (.iload 6, 2) := by decide +kernel
theorem d248_104 : decode (tb_me 248).1.2.1 104 = .ok (.aload_n 0, 1) := by decide +kernel
theorem d248_105 : decode (tb_me 248).1.2.1 105 = .ok (.getfield 39, 3) := by decide +kernel
theorem k248_39 (b : Bool) : tb_lk b 248 39 = (1, 10, 20, 0, 0) := by cases b <;> decide +kernel
theorem d248_108 : decode (tb_me 248).1.2.1 108 = .ok (.iconst 2, 1) := by decide +kernel
theorem d248_109 : decode (tb_me 248).1.2.1 109 = .ok (.iaload, 1) := by decide +kernel
theorem d248_110 : decode (tb_me 248).1.2.1 110 = .ok (.if_icmp .ge 40, 3) := by decide +kernel
theorem d248_113 : decode (tb_me 248).1.2.1 113 = .ok (.aload_n 0, 1) := by decide +kernel
theorem d248_114 : decode (tb_me 248).1.2.1 114 = .ok (.iload 6, 2) := by decide +kernel
theorem d248_116 : decode (tb_me 248).1.2.1 116 = .ok (.invokevirtual 410, 3) := by decide +kernel
theorem k248_410 (b : Bool) : tb_lk b 248 410 = (2, 247, 0, 0, 0) := by cases b <;> decide +kernel
theorem m247 : (tb_me 247).2 = ((0, 0), (1, 10)) ∧ (tb_me 247).1.2.2.1 = 7 := by decide +kernel
theorem d248_119 : decode (tb_me 248).1.2.1 119 = .ok (.istore 7, 2) := by decide +kernel
theorem d248_121 : decode (tb_me 248).1.2.1 121 = .ok (.iload 4, 2) := by decide +kernel
theorem d248_123 : decode (tb_me 248).1.2.1 123 = .ok (.ifCond .lt 13, 3) := by decide +kernel
theorem d248_126 : decode (tb_me 248).1.2.1 126 = .ok (.iload 7, 2) := by decide +kernel
theorem d248_128 : decode (tb_me 248).1.2.1 128 = .ok (.iload 5, 2) := by decide +kernel
theorem d248_130 : decode (tb_me 248).1.2.1 130 = .ok (.if_icmp .lt 6, 3) := by decide +kernel
theorem d248_133 : decode (tb_me 248).1.2.1 133 = .ok (.goto 11, 3) := by decide +kernel
theorem d248_29 : decode (tb_me 248).1.2.1 29 = .ok (.iload 4, 2) := by decide +kernel
theorem d248_31 : decode (tb_me 248).1.2.1 31 = .ok (.iload_n 2, 1) := by decide +kernel
theorem d248_32 : decode (tb_me 248).1.2.1 32 = .ok (.if_icmp .ge 55, 3) := by decide +kernel
theorem d248_35 : decode (tb_me 248).1.2.1 35 = .ok (.iload_n 1, 1) := by decide +kernel
theorem d248_36 : decode (tb_me 248).1.2.1 36 = .ok (.iload_n 2, 1) := by decide +kernel
theorem d248_37 : decode (tb_me 248).1.2.1 37 = .ok (.iload 4, 2) := by decide +kernel
theorem d248_39 : decode (tb_me 248).1.2.1 39 = .ok (.invokestatic 311, 3) := by decide +kernel
theorem k248_311 (b : Bool) : tb_lk b 248 311 = (4, 211, 0, 0, 0) := by cases b <;> decide +kernel
theorem d248_42 : decode (tb_me 248).1.2.1 42 = .ok (.istore 5, 2) := by decide +kernel
theorem d248_44 : decode (tb_me 248).1.2.1 44 = .ok (.aload_n 0, 1) := by decide +kernel
theorem d248_45 : decode (tb_me 248).1.2.1 45 = .ok (.iload 5, 2) := by decide +kernel
theorem d248_47 : decode (tb_me 248).1.2.1 47 = .ok (.invokevirtual 283, 3) := by decide +kernel
theorem k248_283 (b : Bool) : tb_lk b 248 283 = (2, 199, 0, 0, 0) := by cases b <;> decide +kernel
theorem d248_50 : decode (tb_me 248).1.2.1 50 = .ok (.ifCond .ne 6, 3) := by decide +kernel
theorem d248_56 : decode (tb_me 248).1.2.1 56 = .ok (.aload_n 0, 1) := by decide +kernel
theorem d248_57 : decode (tb_me 248).1.2.1 57 = .ok (.getfield 42, 3) := by decide +kernel
theorem k248_42 (b : Bool) : tb_lk b 248 42 = (1, 10, 22, 0, 0) := by cases b <;> decide +kernel
theorem d248_60 : decode (tb_me 248).1.2.1 60 = .ok (.aload_n 0, 1) := by decide +kernel
theorem d248_61 : decode (tb_me 248).1.2.1 61 = .ok (.getfield 299, 3) := by decide +kernel
theorem k248_299 (b : Bool) : tb_lk b 248 299 = (1, 10, 23, 0, 0) := by cases b <;> decide +kernel
theorem d248_64 : decode (tb_me 248).1.2.1 64 = .ok (.aload_n 0, 1) := by decide +kernel
theorem d248_65 : decode (tb_me 248).1.2.1 65 = .ok (.iload 5, 2) := by decide +kernel
theorem d248_67 : decode (tb_me 248).1.2.1 67 = .ok (.invokevirtual 321, 3) := by decide +kernel
theorem k248_321 (b : Bool) : tb_lk b 248 321 = (2, 213, 0, 0, 0) := by cases b <;> decide +kernel
theorem d248_70 : decode (tb_me 248).1.2.1 70 = .ok (.iastore, 1) := by decide +kernel
theorem d248_71 : decode (tb_me 248).1.2.1 71 = .ok (.aload_n 0, 1) := by decide +kernel
theorem d248_72 : decode (tb_me 248).1.2.1 72 = .ok (.dup, 1) := by decide +kernel
theorem d248_73 : decode (tb_me 248).1.2.1 73 = .ok (.getfield 299, 3) := by decide +kernel
theorem d248_76 : decode (tb_me 248).1.2.1 76 = .ok (.iconst 1, 1) := by decide +kernel
theorem d248_77 : decode (tb_me 248).1.2.1 77 = .ok (.iadd, 1) := by decide +kernel
theorem d248_78 : decode (tb_me 248).1.2.1 78 = .ok (.putfield 299, 3) := by decide +kernel
theorem p248_10_23 : (23 < pm_nf tb_cl 10) ∧ tb_ft 10 23 = .int ∧ pm_fin tb_cl (tb_me 248).1.1 10 23 = true := by decide +kernel
theorem d248_81 : decode (tb_me 248).1.2.1 81 = .ok (.iinc 4 1, 3) := by decide +kernel
theorem d248_84 : decode (tb_me 248).1.2.1 84 = .ok (.goto (-55), 3) := by decide +kernel
theorem d248_53 : decode (tb_me 248).1.2.1 53 = .ok (.goto 28, 3) := by decide +kernel
theorem d248_0 : decode (tb_me 248).1.2.1 0 = .ok (.aload_n 0, 1) := by decide +kernel
theorem d248_1 : decode (tb_me 248).1.2.1 1 = .ok (.iload_n 1, 1) := by decide +kernel
theorem d248_2 : decode (tb_me 248).1.2.1 2 = .ok (.iload_n 2, 1) := by decide +kernel
theorem d248_3 : decode (tb_me 248).1.2.1 3 = .ok (.invokevirtual 345, 3) := by decide +kernel
theorem k248_345 (b : Bool) : tb_lk b 248 345 = (2, 214, 0, 0, 0) := by cases b <;> decide +kernel
theorem d248_6 : decode (tb_me 248).1.2.1 6 = .ok (.ifCond .eq 13, 3) := by decide +kernel
theorem d248_19 : decode (tb_me 248).1.2.1 19 = .ok (.iconst (-1), 1) := by decide +kernel
theorem d248_20 : decode (tb_me 248).1.2.1 20 = .ok (.ireturn, 1) := by decide +kernel
theorem t248 : (tb_me 248).1.2.2.2 = some .int := by decide +kernel
theorem d248_9 : decode (tb_me 248).1.2.1 9 = .ok (.iload_n 3, 1) := by decide +kernel
theorem d248_10 : decode (tb_me 248).1.2.1 10 = .ok (.i2l, 1) := by decide +kernel
theorem d248_11 : decode (tb_me 248).1.2.1 11 = .ok (.lconst 0, 1) := by decide +kernel
theorem d248_12 : decode (tb_me 248).1.2.1 12 = .ok (.lconst 1, 1) := by decide +kernel
theorem d248_13 : decode (tb_me 248).1.2.1 13 = .ok (.invokestatic 112, 3) := by decide +kernel
theorem k248_112 (b : Bool) : tb_lk b 248 112 = (4, 148, 0, 0, 0) := by cases b <;> decide +kernel
theorem d248_16 : decode (tb_me 248).1.2.1 16 = .ok (.ifCond .ne 5, 3) := by decide +kernel
theorem d248_21 : decode (tb_me 248).1.2.1 21 = .ok (.aload_n 0, 1) := by decide +kernel
theorem d248_22 : decode (tb_me 248).1.2.1 22 = .ok (.iconst 0, 1) := by decide +kernel
theorem d248_23 : decode (tb_me 248).1.2.1 23 = .ok (.putfield 299, 3) := by decide +kernel
theorem d248_26 : decode (tb_me 248).1.2.1 26 = .ok (.iconst 0, 1) := by decide +kernel
theorem d248_27 : decode (tb_me 248).1.2.1 27 = .ok (.istore 4, 2) := by decide +kernel
theorem d248_87 : decode (tb_me 248).1.2.1 87 = .ok (.aload_n 0, 1) := by decide +kernel
theorem d248_88 : decode (tb_me 248).1.2.1 88 = .ok (.invokevirtual 315, 3) := by decide +kernel
theorem k248_315 (b : Bool) : tb_lk b 248 315 = (2, 207, 0, 0, 0) := by cases b <;> decide +kernel
theorem d248_91 : decode (tb_me 248).1.2.1 91 = .ok (.bipush (-2), 2) := by decide +kernel
theorem d248_93 : decode (tb_me 248).1.2.1 93 = .ok (.istore 4, 2) := by decide +kernel
theorem d248_95 : decode (tb_me 248).1.2.1 95 = .ok (.bipush (-2), 2) := by decide +kernel
theorem d248_97 : decode (tb_me 248).1.2.1 97 = .ok (.istore 5, 2) := by decide +kernel
theorem d248_99 : decode (tb_me 248).1.2.1 99 = .ok (.iconst 0, 1) := by decide +kernel
theorem d248_100 : decode (tb_me 248).1.2.1 100 = .ok (.istore 6, 2) := by decide +kernel
theorem d248_150 : decode (tb_me 248).1.2.1 150 = .ok (.iload_n 3, 1) := by decide +kernel
theorem d248_151 : decode (tb_me 248).1.2.1 151 = .ok (.ifCond .ne 8, 3) := by decide +kernel
theorem d248_159 : decode (tb_me 248).1.2.1 159 = .ok (.iload 5, 2) := by decide +kernel
theorem d248_161 : decode (tb_me 248).1.2.1 161 = .ok (.ireturn, 1) := by decide +kernel
theorem d248_154 : decode (tb_me 248).1.2.1 154 = .ok (.iload 4, 2) := by decide +kernel
theorem d248_156 : decode (tb_me 248).1.2.1 156 = .ok (.goto 5, 3) := by decide +kernel
theorem e248 : (tb_me 248).2.1 = (0, 0) ∧ (tb_me 248).1.2.2.1 = 8 := by decide +kernel
theorem d249_89 : decode (tb_me 249).1.2.1 89 = .ok (.iastore, 1) := by decide +kernel
theorem d249_90 : decode (tb_me 249).1.2.1 90 = .ok (.aload_n 0, 1) := by decide +kernel
theorem d249_91 : decode (tb_me 249).1.2.1 91 = .ok (.getfield 39, 3) := by decide +kernel
theorem k249_39 (b : Bool) : tb_lk b 249 39 = (1, 10, 20, 0, 0) := by cases b <;> decide +kernel
theorem d249_94 : decode (tb_me 249).1.2.1 94 = .ok (.sipush 226, 3) := by decide +kernel
theorem d249_97 : decode (tb_me 249).1.2.1 97 = .ok (.dup2, 1) := by decide +kernel
theorem d249_98 : decode (tb_me 249).1.2.1 98 = .ok (.iaload, 1) := by decide +kernel
theorem d249_99 : decode (tb_me 249).1.2.1 99 = .ok (.iconst 1, 1) := by decide +kernel
theorem d249_100 : decode (tb_me 249).1.2.1 100 = .ok (.iadd, 1) := by decide +kernel
theorem d249_101 : decode (tb_me 249).1.2.1 101 = .ok (.iastore, 1) := by decide +kernel
theorem d249_102 : decode (tb_me 249).1.2.1 102 = .ok (.aload_n 0, 1) := by decide +kernel
theorem d249_103 : decode (tb_me 249).1.2.1 103 = .ok (.getfield 39, 3) := by decide +kernel
theorem d249_106 : decode (tb_me 249).1.2.1 106 = .ok (.sipush 226, 3) := by decide +kernel
theorem d249_109 : decode (tb_me 249).1.2.1 109 = .ok (.iaload, 1) := by decide +kernel
theorem d249_110 : decode (tb_me 249).1.2.1 110 = .ok (.ireturn, 1) := by decide +kernel
theorem t249 : (tb_me 249).1.2.2.2 = some .int := by decide +kernel
theorem d249_0 : decode (tb_me 249).1.2.1 0 = .ok (.iload_n 1, 1) := by decide +kernel
theorem d249_1 : decode (tb_me 249).1.2.1 1 = .ok (.iconst (-1), 1) := by decide +kernel
theorem d249_2 : decode (tb_me 249).1.2.1 2 = .ok (.if_icmp .ne 14, 3) := by decide +kernel
theorem d249_16 : decode (tb_me 249).1.2.1 16 = .ok (.aload_n 0, 1) := by decide +kernel
theorem d249_17 : decode (tb_me 249).1.2.1 17 = .ok (.iload_n 1, 1) := by decide +kernel
theorem d249_18 : decode (tb_me 249).1.2.1 18 = .ok (.invokevirtual 288, 3) := by decide +kernel
theorem k249_288 (b : Bool) : tb_lk b 249 288 = (2, 194, 0, 0, 0) := by cases b <;> decide +kernel
theorem d249_21 : decode (tb_me 249).1.2.1 21 = .ok (.ifCond .eq 16, 3) := by decide +kernel
theorem d249_37 : decode (tb_me 249).1.2.1 37 = .ok (.bipush (-2), 2) := by decide +kernel
theorem d249_39 : decode (tb_me 249).1.2.1 39 = .ok (.ireturn, 1) := by decide +kernel
theorem d249_24 : decode (tb_me 249).1.2.1 24 = .ok (.aload_n 0, 1) := by decide +kernel
theorem d249_25 : decode (tb_me 249).1.2.1 25 = .ok (.getfield 39, 3) := by decide +kernel
theorem d249_28 : decode (tb_me 249).1.2.1 28 = .ok (.sipush 226, 3) := by decide +kernel
theorem d249_31 : decode (tb_me 249).1.2.1 31 = .ok (.iaload, 1) := by decide +kernel
theorem d249_32 : decode (tb_me 249).1.2.1 32 = .ok (.bipush 10, 2) := by decide +kernel
theorem d249_34 : decode (tb_me 249).1.2.1 34 = .ok (.if_icmp .ne 6, 3) := by decide +kernel
theorem d249_40 : decode (tb_me 249).1.2.1 40 = .ok (.aload_n 0, 1) := by decide +kernel
theorem d249_41 : decode (tb_me 249).1.2.1 41 = .ok (.getfield 39, 3) := by decide +kernel
theorem d249_44 : decode (tb_me 249).1.2.1 44 = .ok (.sipush 206, 3) := by decide +kernel
theorem d249_47 : decode (tb_me 249).1.2.1 47 = .ok (.iconst 2, 1) := by decide +kernel
theorem d249_48 : decode (tb_me 249).1.2.1 48 = .ok (.aload_n 0, 1) := by decide +kernel
theorem d249_49 : decode (tb_me 249).1.2.1 49 = .ok (.getfield 39, 3) := by decide +kernel
theorem d249_52 : decode (tb_me 249).1.2.1 52 = .ok (.sipush 226, 3) := by decide +kernel
theorem d249_55 : decode (tb_me 249).1.2.1 55 = .ok (.iaload, 1) := by decide +kernel
theorem d249_56 : decode (tb_me 249).1.2.1 56 = .ok (.imul, 1) := by decide +kernel
theorem d249_57 : decode (tb_me 249).1.2.1 57 = .ok (.iadd, 1) := by decide +kernel
theorem d249_58 : decode (tb_me 249).1.2.1 58 = .ok (.iload_n 1, 1) := by decide +kernel
theorem d249_59 : decode (tb_me 249).1.2.1 59 = .ok (.iastore, 1) := by decide +kernel
theorem d249_60 : decode (tb_me 249).1.2.1 60 = .ok (.aload_n 0, 1) := by decide +kernel
theorem d249_61 : decode (tb_me 249).1.2.1 61 = .ok (.getfield 39, 3) := by decide +kernel
theorem d249_64 : decode (tb_me 249).1.2.1 64 = .ok (.sipush 206, 3) := by decide +kernel
theorem d249_67 : decode (tb_me 249).1.2.1 67 = .ok (.iconst 2, 1) := by decide +kernel
theorem d249_68 : decode (tb_me 249).1.2.1 68 = .ok (.aload_n 0, 1) := by decide +kernel
theorem d249_69 : decode (tb_me 249).1.2.1 69 = .ok (.getfield 39, 3) := by decide +kernel
theorem d249_72 : decode (tb_me 249).1.2.1 72 = .ok (.sipush 226, 3) := by decide +kernel
theorem d249_75 : decode (tb_me 249).1.2.1 75 = .ok (.iaload, 1) := by decide +kernel
theorem d249_76 : decode (tb_me 249).1.2.1 76 = .ok (.imul, 1) := by decide +kernel
theorem d249_77 : decode (tb_me 249).1.2.1 77 = .ok (.iadd, 1) := by decide +kernel
theorem d249_78 : decode (tb_me 249).1.2.1 78 = .ok (.iconst 1, 1) := by decide +kernel
theorem d249_79 : decode (tb_me 249).1.2.1 79 = .ok (.iadd, 1) := by decide +kernel
theorem d249_80 : decode (tb_me 249).1.2.1 80 = .ok (.iload_n 2, 1) := by decide +kernel
theorem d249_81 : decode (tb_me 249).1.2.1 81 = .ok (.ifCond .eq 7, 3) := by decide +kernel
theorem d249_88 : decode (tb_me 249).1.2.1 88 = .ok (.iconst 0, 1) := by decide +kernel
theorem d249_84 : decode (tb_me 249).1.2.1 84 = .ok (.iconst 1, 1) := by decide +kernel
theorem d249_85 : decode (tb_me 249).1.2.1 85 = .ok (.goto 4, 3) := by decide +kernel
theorem d249_5 : decode (tb_me 249).1.2.1 5 = .ok (.aload_n 0, 1) := by decide +kernel
theorem d249_6 : decode (tb_me 249).1.2.1 6 = .ok (.getfield 39, 3) := by decide +kernel
theorem d249_9 : decode (tb_me 249).1.2.1 9 = .ok (.sipush 226, 3) := by decide +kernel
theorem d249_12 : decode (tb_me 249).1.2.1 12 = .ok (.iconst 0, 1) := by decide +kernel
theorem d249_13 : decode (tb_me 249).1.2.1 13 = .ok (.iastore, 1) := by decide +kernel
theorem d249_14 : decode (tb_me 249).1.2.1 14 = .ok (.iconst 0, 1) := by decide +kernel
theorem d249_15 : decode (tb_me 249).1.2.1 15 = .ok (.ireturn, 1) := by decide +kernel
theorem e249 : (tb_me 249).2.1 = (0, 0) ∧ (tb_me 249).1.2.2.1 = 3 := by decide +kernel
theorem d250_2 : decode (tb_me 250).1.2.1 2 = .ok (.iload_n 2, 1) := by decide +kernel
theorem d250_3 : decode (tb_me 250).1.2.1 3 = .ok (.aload_n 0, 1) := by decide +kernel
theorem d250_4 : decode (tb_me 250).1.2.1 4 = .ok (.getfield 39, 3) := by decide +kernel
theorem k250_39 (b : Bool) : tb_lk b 250 39 = (1, 10, 20, 0, 0) := by cases b <;> decide +kernel
theorem d250_7 : decode (tb_me 250).1.2.1 7 = .ok (.sipush 226, 3) := by decide +kernel
theorem d250_10 : decode (tb_me 250).1.2.1 10 = .ok (.iaload, 1) := by decide +kernel
theorem d250_11 : decode (tb_me 250).1.2.1 11 = .ok (.if_icmp .ge 49, 3) := by decide +kernel
theorem d250_14 : decode (tb_me 250).1.2.1 14 = .ok (.aload_n 0, 1) := by decide +kernel
theorem d250_15 : decode (tb_me 250).1.2.1 15 = .ok (.getfield 51, 3) := by decide +kernel
theorem k250_51 (b : Bool) : tb_lk b 250 51 = (1, 10, 26, 0, 0) := by cases b <;> decide +kernel
theorem d250_18 : decode (tb_me 250).1.2.1 18 = .ok (.iload_n 1, 1) := by decide +kernel
theorem d250_19 : decode (tb_me 250).1.2.1 19 = .ok (.iaload, 1) := by decide +kernel
theorem d250_20 : decode (tb_me 250).1.2.1 20 = .ok (.aload_n 0, 1) := by decide +kernel
theorem d250_21 : decode (tb_me 250).1.2.1 21 = .ok (.getfield 39, 3) := by decide +kernel
theorem d250_24 : decode (tb_me 250).1.2.1 24 = .ok (.sipush 206, 3) := by decide +kernel
theorem d250_27 : decode (tb_me 250).1.2.1 27 = .ok (.iconst 2, 1) := by decide +kernel
theorem d250_28 : decode (tb_me 250).1.2.1 28 = .ok (.iload_n 2, 1) := by decide +kernel
theorem d250_29 : decode (tb_me 250).1.2.1 29 = .ok (.imul, 1) := by decide +kernel
theorem d250_30 : decode (tb_me 250).1.2.1 30 = .ok (.iadd, 1) := by decide +kernel
theorem d250_31 : decode (tb_me 250).1.2.1 31 = .ok (.iaload, 1) := by decide +kernel
theorem d250_32 : decode (tb_me 250).1.2.1 32 = .ok (.ishr, 1) := by decide +kernel
theorem d250_33 : decode (tb_me 250).1.2.1 33 = .ok (.iconst 1, 1) := by decide +kernel
theorem d250_34 : decode (tb_me 250).1.2.1 34 = .ok (.iand, 1) := by decide +kernel
theorem d250_35 : decode (tb_me 250).1.2.1 35 = .ok (.aload_n 0, 1) := by decide +kernel
theorem d250_36 : decode (tb_me 250).1.2.1 36 = .ok (.getfield 39, 3) := by decide +kernel
theorem d250_39 : decode (tb_me 250).1.2.1 39 = .ok (.sipush 206, 3) := by decide +kernel
theorem d250_42 : decode (tb_me 250).1.2.1 42 = .ok (.iconst 2, 1) := by decide +kernel
theorem d250_43 : decode (tb_me 250).1.2.1 43 = .ok (.iload_n 2, 1) := by decide +kernel
theorem d250_44 : decode (tb_me 250).1.2.1 44 = .ok (.imul, 1) := by decide +kernel
theorem d250_45 : decode (tb_me 250).1.2.1 45 = .ok (.iadd, 1) := by decide +kernel
theorem d250_46 : decode (tb_me 250).1.2.1 46 = .ok (.iconst 1, 1) := by decide +kernel
theorem d250_47 : decode (tb_me 250).1.2.1 47 = .ok (.iadd, 1) := by decide +kernel
theorem d250_48 : decode (tb_me 250).1.2.1 48 = .ok (.iaload, 1) := by decide +kernel
theorem d250_49 : decode (tb_me 250).1.2.1 49 = .ok (.if_icmp .eq 5, 3) := by decide +kernel
theorem d250_54 : decode (tb_me 250).1.2.1 54 = .ok (.iinc 2 1, 3) := by decide +kernel
theorem d250_57 : decode (tb_me 250).1.2.1 57 = .ok (.goto (-55), 3) := by decide +kernel
theorem d250_0 : decode (tb_me 250).1.2.1 0 = .ok (.iconst 0, 1) := by decide +kernel
theorem d250_1 : decode (tb_me 250).1.2.1 1 = .ok (.istore_n 2, 1) := by decide +kernel
theorem d250_52 : decode (tb_me 250).1.2.1 52 = .ok (.iconst 0, 1) := by decide +kernel
theorem d250_53 : decode (tb_me 250).1.2.1 53 = .ok (.ireturn, 1) := by decide +kernel
theorem t250 : (tb_me 250).1.2.2.2 = some .boolean := by decide +kernel
theorem d250_60 : decode (tb_me 250).1.2.1 60 = .ok (.iconst 1, 1) := by decide +kernel
theorem d250_61 : decode (tb_me 250).1.2.1 61 = .ok (.ireturn, 1) := by decide +kernel
theorem e250 : (tb_me 250).2.1 = (0, 0) ∧ (tb_me 250).1.2.2.1 = 3 := by decide +kernel
theorem d251_42 : decode (tb_me 251).1.2.1 42 = .ok (.iload 6, 2) := by decide +kernel
theorem d251_44 : decode (tb_me 251).1.2.1 44 = .ok (.iload_n 2, 1) := by decide +kernel
theorem d251_45 : decode (tb_me 251).1.2.1 45 = .ok (.if_icmp .gt 47, 3) := by decide +kernel
theorem d251_48 : decode (tb_me 251).1.2.1 48 = .ok (.iload 6, 2) := by decide +kernel
theorem d251_50 : decode (tb_me 251).1.2.1 50 = .ok (.iload_n 2, 1) := by decide +kernel
theorem d251_51 : decode (tb_me 251).1.2.1 51 = .ok (.iconst (-1), 1) := by decide +kernel
theorem d251_52 : decode (tb_me 251).1.2.1 52 = .ok (.ixor, 1) := by decide +kernel
theorem d251_53 : decode (tb_me 251).1.2.1 53 = .ok (.iand, 1) := by decide +kernel
theorem d251_54 : decode (tb_me 251).1.2.1 54 = .ok (.ifCond .ne 32, 3) := by decide +kernel
theorem d251_86 : decode (tb_me 251).1.2.1 86 = .ok (.iinc 6 1, 3) := by decide +kernel
theorem d251_89 : decode (tb_me 251).1.2.1 89 = .ok (.goto (-47), 3) := by decide +kernel
theorem d251_57 : decode (tb_me 251).1.2.1 57 = .ok (.aload_n 0, 1) := by decide +kernel
theorem d251_58 : decode (tb_me 251).1.2.1 58 = .ok (.iload 6, 2) := by decide +kernel
theorem d251_60 : decode (tb_me 251).1.2.1 60 = .ok (.invokevirtual 413, 3) := by decide +kernel
theorem k251_413 (b : Bool) : tb_lk b 251 413 = (2, 250, 0, 0, 0) := by cases b <;> decide +kernel
theorem m250 : (tb_me 250).2 = ((0, 0), (1, 10)) ∧ (tb_me 250).1.2.2.1 = 3 := by decide +kernel
theorem d251_63 : decode (tb_me 251).1.2.1 63 = .ok (.ifCond .ne 6, 3) := by decide +kernel
theorem d251_69 : decode (tb_me 251).1.2.1 69 = .ok (.iinc 3 1, 3) := by decide +kernel
theorem d251_72 : decode (tb_me 251).1.2.1 72 = .ok (.iload 4, 2) := by decide +kernel
theorem d251_74 : decode (tb_me 251).1.2.1 74 = .ok (.iload 6, 2) := by decide +kernel
theorem d251_76 : decode (tb_me 251).1.2.1 76 = .ok (.iand, 1) := by decide +kernel
theorem d251_77 : decode (tb_me 251).1.2.1 77 = .ok (.istore 4, 2) := by decide +kernel
theorem d251_79 : decode (tb_me 251).1.2.1 79 = .ok (.iload 5, 2) := by decide +kernel
theorem d251_81 : decode (tb_me 251).1.2.1 81 = .ok (.iload 6, 2) := by decide +kernel
theorem d251_83 : decode (tb_me 251).1.2.1 83 = .ok (.ior, 1) := by decide +kernel
theorem d251_84 : decode (tb_me 251).1.2.1 84 = .ok (.istore 5, 2) := by decide +kernel
theorem d251_66 : decode (tb_me 251).1.2.1 66 = .ok (.goto 20, 3) := by decide +kernel
theorem d251_0 : decode (tb_me 251).1.2.1 0 = .ok (.aload_n 0, 1) := by decide +kernel
theorem d251_1 : decode (tb_me 251).1.2.1 1 = .ok (.invokevirtual 305, 3) := by decide +kernel
theorem k251_305 (b : Bool) : tb_lk b 251 305 = (2, 192, 0, 0, 0) := by cases b <;> decide +kernel
theorem d251_4 : decode (tb_me 251).1.2.1 4 = .ok (.ifCond .eq 15, 3) := by decide +kernel
theorem d251_19 : decode (tb_me 251).1.2.1 19 = .ok (.iconst (-1), 1) := by decide +kernel
theorem d251_20 : decode (tb_me 251).1.2.1 20 = .ok (.ireturn, 1) := by decide +kernel
theorem t251 : (tb_me 251).1.2.2.2 = some .int := by decide +kernel
theorem d251_7 : decode (tb_me 251).1.2.1 7 = .ok (.iload_n 1, 1) := by decide +kernel
theorem d251_8 : decode (tb_me 251).1.2.1 8 = .ok (.i2l, 1) := by decide +kernel
theorem d251_9 : decode (tb_me 251).1.2.1 9 = .ok (.lconst 0, 1) := by decide +kernel
theorem d251_10 : decode (tb_me 251).1.2.1 10 = .ok (.ldc2_w 359, 3) := by decide +kernel
theorem k251_359 (b : Bool) : tb_lk b 251 359 = (12, 0, 0, 0, 2) := by cases b <;> decide +kernel
theorem d251_13 : decode (tb_me 251).1.2.1 13 = .ok (.invokestatic 112, 3) := by decide +kernel
theorem k251_112 (b : Bool) : tb_lk b 251 112 = (4, 148, 0, 0, 0) := by cases b <;> decide +kernel
theorem d251_16 : decode (tb_me 251).1.2.1 16 = .ok (.ifCond .ne 5, 3) := by decide +kernel
theorem d251_21 : decode (tb_me 251).1.2.1 21 = .ok (.aload_n 0, 1) := by decide +kernel
theorem d251_22 : decode (tb_me 251).1.2.1 22 = .ok (.invokevirtual 356, 3) := by decide +kernel
theorem k251_356 (b : Bool) : tb_lk b 251 356 = (2, 201, 0, 0, 0) := by cases b <;> decide +kernel
theorem d251_25 : decode (tb_me 251).1.2.1 25 = .ok (.istore_n 2, 1) := by decide +kernel
theorem d251_26 : decode (tb_me 251).1.2.1 26 = .ok (.aload_n 0, 1) := by decide +kernel
theorem d251_27 : decode (tb_me 251).1.2.1 27 = .ok (.iload_n 2, 1) := by decide +kernel
theorem d251_28 : decode (tb_me 251).1.2.1 28 = .ok (.invokevirtual 342, 3) := by decide +kernel
theorem k251_342 (b : Bool) : tb_lk b 251 342 = (2, 220, 0, 0, 0) := by cases b <;> decide +kernel
theorem d251_31 : decode (tb_me 251).1.2.1 31 = .ok (.iconst 0, 1) := by decide +kernel
theorem d251_32 : decode (tb_me 251).1.2.1 32 = .ok (.istore_n 3, 1) := by decide +kernel
theorem d251_33 : decode (tb_me 251).1.2.1 33 = .ok (.iload_n 2, 1) := by decide +kernel
theorem d251_34 : decode (tb_me 251).1.2.1 34 = .ok (.istore 4, 2) := by decide +kernel
theorem d251_36 : decode (tb_me 251).1.2.1 36 = .ok (.iconst 0, 1) := by decide +kernel
theorem d251_37 : decode (tb_me 251).1.2.1 37 = .ok (.istore 5, 2) := by decide +kernel
theorem d251_39 : decode (tb_me 251).1.2.1 39 = .ok (.iconst 0, 1) := by decide +kernel
theorem d251_40 : decode (tb_me 251).1.2.1 40 = .ok (.istore 6, 2) := by decide +kernel
theorem d251_92 : decode (tb_me 251).1.2.1 92 = .ok (.iload_n 1, 1) := by decide +kernel
theorem d251_93 : decode (tb_me 251).1.2.1 93 = .ok (.ifCond .ne 7, 3) := by decide +kernel
theorem d251_100 : decode (tb_me 251).1.2.1 100 = .ok (.iload_n 3, 1) := by decide +kernel
theorem d251_101 : decode (tb_me 251).1.2.1 101 = .ok (.ifCond .ne 7, 3) := by decide +kernel
theorem d251_108 : decode (tb_me 251).1.2.1 108 = .ok (.iload_n 1, 1) := by decide +kernel
theorem d251_109 : decode (tb_me 251).1.2.1 109 = .ok (.iconst 1, 1) := by decide +kernel
theorem d251_110 : decode (tb_me 251).1.2.1 110 = .ok (.if_icmp .ne 8, 3) := by decide +kernel
theorem d251_118 : decode (tb_me 251).1.2.1 118 = .ok (.iload_n 2, 1) := by decide +kernel
theorem d251_119 : decode (tb_me 251).1.2.1 119 = .ok (.iload 5, 2) := by decide +kernel
theorem d251_121 : decode (tb_me 251).1.2.1 121 = .ok (.iconst (-1), 1) := by decide +kernel
theorem d251_122 : decode (tb_me 251).1.2.1 122 = .ok (.ixor, 1) := by decide +kernel
theorem d251_123 : decode (tb_me 251).1.2.1 123 = .ok (.iand, 1) := by decide +kernel
theorem d251_124 : decode (tb_me 251).1.2.1 124 = .ok (.ireturn, 1) := by decide +kernel
theorem d251_113 : decode (tb_me 251).1.2.1 113 = .ok (.iload 4, 2) := by decide +kernel
theorem d251_115 : decode (tb_me 251).1.2.1 115 = .ok (.goto 9, 3) := by decide +kernel
theorem d251_104 : decode (tb_me 251).1.2.1 104 = .ok (.iconst 0, 1) := by decide +kernel
theorem d251_105 : decode (tb_me 251).1.2.1 105 = .ok (.goto 19, 3) := by decide +kernel
theorem d251_96 : decode (tb_me 251).1.2.1 96 = .ok (.iload_n 3, 1) := by decide +kernel
theorem d251_97 : decode (tb_me 251).1.2.1 97 = .ok (.goto 27, 3) := by decide +kernel
theorem e251 : (tb_me 251).2.1 = (0, 0) ∧ (tb_me 251).1.2.2.1 = 7 := by decide +kernel
theorem d252_163 : decode (tb_me 252).1.2.1 163 = .ok (.iload 5, 2) := by decide +kernel
theorem d252_165 : decode (tb_me 252).1.2.1 165 = .ok (.istore_n 3, 1) := by decide +kernel
theorem d252_166 : decode (tb_me 252).1.2.1 166 = .ok (.iload 8, 2) := by decide +kernel
theorem d252_168 : decode (tb_me 252).1.2.1 168 = .ok (.istore 4, 2) := by decide +kernel
theorem d252_170 : decode (tb_me 252).1.2.1 170 = .ok (.iinc 5 1, 3) := by decide +kernel
theorem d252_173 : decode (tb_me 252).1.2.1 173 = .ok (.goto (-134), 3) := by decide +kernel
theorem d252_142 : decode (tb_me 252).1.2.1 142 = .ok (.istore 8, 2) := by decide +kernel
theorem d252_144 : decode (tb_me 252).1.2.1 144 = .ok (.iload 8, 2) := by decide +kernel
theorem d252_146 : decode (tb_me 252).1.2.1 146 = .ok (.ifCond .eq 24, 3) := by decide +kernel
theorem d252_149 : decode (tb_me 252).1.2.1 149 = .ok (.iload_n 3, 1) := by decide +kernel
theorem d252_150 : decode (tb_me 252).1.2.1 150 = .ok (.ifCond .lt 13, 3) := by decide +kernel
theorem d252_153 : decode (tb_me 252).1.2.1 153 = .ok (.iload 8, 2) := by decide +kernel
theorem d252_155 : decode (tb_me 252).1.2.1 155 = .ok (.iload 4, 2) := by decide +kernel
theorem d252_157 : decode (tb_me 252).1.2.1 157 = .ok (.if_icmp .lt 6, 3) := by decide +kernel
theorem d252_160 : decode (tb_me 252).1.2.1 160 = .ok (.goto 10, 3) := by decide +kernel
theorem d252_59 : decode (tb_me 252).1.2.1 59 = .ok (.iload 8, 2) := by decide +kernel
theorem d252_61 : decode (tb_me 252).1.2.1 61 = .ok (.iload_n 2, 1) := by decide +kernel
theorem d252_62 : decode (tb_me 252).1.2.1 62 = .ok (.if_icmp .gt 66, 3) := by decide +kernel
theorem d252_65 : decode (tb_me 252).1.2.1 65 = .ok (.iload 8, 2) := by decide +kernel
theorem d252_67 : decode (tb_me 252).1.2.1 67 = .ok (.iload_n 2, 1) := by decide +kernel
theorem d252_68 : decode (tb_me 252).1.2.1 68 = .ok (.iconst (-1), 1) := by decide +kernel
theorem d252_69 : decode (tb_me 252).1.2.1 69 = .ok (.ixor, 1) := by decide +kernel
theorem d252_70 : decode (tb_me 252).1.2.1 70 = .ok (.iand, 1) := by decide +kernel
theorem d252_71 : decode (tb_me 252).1.2.1 71 = .ok (.ifCond .ne 51, 3) := by decide +kernel
theorem d252_122 : decode (tb_me 252).1.2.1 122 = .ok (.iinc 8 1, 3) := by decide +kernel
theorem d252_125 : decode (tb_me 252).1.2.1 125 = .ok (.goto (-66), 3) := by decide +kernel
theorem d252_74 : decode (tb_me 252).1.2.1 74 = .ok (.aload_n 0, 1) := by decide +kernel
theorem d252_75 : decode (tb_me 252).1.2.1 75 = .ok (.iload 8, 2) := by decide +kernel
theorem d252_77 : decode (tb_me 252).1.2.1 77 = .ok (.invokevirtual 413, 3) := by decide +kernel
theorem k252_413 (b : Bool) : tb_lk b 252 413 = (2, 250, 0, 0, 0) := by cases b <;> decide +kernel
theorem d252_80 : decode (tb_me 252).1.2.1 80 = .ok (.ifCond .ne 6, 3) := by decide +kernel
theorem d252_86 : decode (tb_me 252).1.2.1 86 = .ok (.iload 6, 2) := by decide +kernel
theorem d252_88 : decode (tb_me 252).1.2.1 88 = .ok (.aload_n 0, 1) := by decide +kernel
theorem d252_89 : decode (tb_me 252).1.2.1 89 = .ok (.getfield 51, 3) := by decide +kernel
theorem k252_51 (b : Bool) : tb_lk b 252 51 = (1, 10, 26, 0, 0) := by cases b <;> decide +kernel
theorem d252_92 : decode (tb_me 252).1.2.1 92 = .ok (.iload 8, 2) := by decide +kernel
theorem d252_94 : decode (tb_me 252).1.2.1 94 = .ok (.iaload, 1) := by decide +kernel
theorem d252_95 : decode (tb_me 252).1.2.1 95 = .ok (.iload 5, 2) := by decide +kernel
theorem d252_97 : decode (tb_me 252).1.2.1 97 = .ok (.ishr, 1) := by decide +kernel
theorem d252_98 : decode (tb_me 252).1.2.1 98 = .ok (.iconst 1, 1) := by decide +kernel
theorem d252_99 : decode (tb_me 252).1.2.1 99 = .ok (.iand, 1) := by decide +kernel
theorem d252_100 : decode (tb_me 252).1.2.1 100 = .ok (.iadd, 1) := by decide +kernel
theorem d252_101 : decode (tb_me 252).1.2.1 101 = .ok (.istore 6, 2) := by decide +kernel
theorem d252_103 : decode (tb_me 252).1.2.1 103 = .ok (.iload 7, 2) := by decide +kernel
theorem d252_105 : decode (tb_me 252).1.2.1 105 = .ok (.iconst 1, 1) := by decide +kernel
theorem d252_106 : decode (tb_me 252).1.2.1 106 = .ok (.aload_n 0, 1) := by decide +kernel
theorem d252_107 : decode (tb_me 252).1.2.1 107 = .ok (.getfield 51, 3) := by decide +kernel
theorem d252_110 : decode (tb_me 252).1.2.1 110 = .ok (.iload 8, 2) := by decide +kernel
theorem d252_112 : decode (tb_me 252).1.2.1 112 = .ok (.iaload, 1) := by decide +kernel
theorem d252_113 : decode (tb_me 252).1.2.1 113 = .ok (.iload 5, 2) := by decide +kernel
theorem d252_115 : decode (tb_me 252).1.2.1 115 = .ok (.ishr, 1) := by decide +kernel
theorem d252_116 : decode (tb_me 252).1.2.1 116 = .ok (.iconst 1, 1) := by decide +kernel
theorem d252_117 : decode (tb_me 252).1.2.1 117 = .ok (.iand, 1) := by decide +kernel
theorem d252_118 : decode (tb_me 252).1.2.1 118 = .ok (.isub, 1) := by decide +kernel
theorem d252_119 : decode (tb_me 252).1.2.1 119 = .ok (.iadd, 1) := by decide +kernel
theorem d252_120 : decode (tb_me 252).1.2.1 120 = .ok (.istore 7, 2) := by decide +kernel
theorem d252_83 : decode (tb_me 252).1.2.1 83 = .ok (.goto 39, 3) := by decide +kernel
theorem d252_39 : decode (tb_me 252).1.2.1 39 = .ok (.iload 5, 2) := by decide +kernel
theorem d252_41 : decode (tb_me 252).1.2.1 41 = .ok (.aload_n 0, 1) := by decide +kernel
theorem d252_42 : decode (tb_me 252).1.2.1 42 = .ok (.getfield 39, 3) := by decide +kernel
theorem k252_39 (b : Bool) : tb_lk b 252 39 = (1, 10, 20, 0, 0) := by cases b <;> decide +kernel
theorem d252_45 : decode (tb_me 252).1.2.1 45 = .ok (.iconst 2, 1) := by decide +kernel
theorem d252_46 : decode (tb_me 252).1.2.1 46 = .ok (.iaload, 1) := by decide +kernel
theorem d252_47 : decode (tb_me 252).1.2.1 47 = .ok (.if_icmp .ge 129, 3) := by decide +kernel
theorem d252_50 : decode (tb_me 252).1.2.1 50 = .ok (.iconst 0, 1) := by decide +kernel
theorem d252_51 : decode (tb_me 252).1.2.1 51 = .ok (.istore 6, 2) := by decide +kernel
theorem d252_53 : decode (tb_me 252).1.2.1 53 = .ok (.iconst 0, 1) := by decide +kernel
theorem d252_54 : decode (tb_me 252).1.2.1 54 = .ok (.istore 7, 2) := by decide +kernel
theorem d252_56 : decode (tb_me 252).1.2.1 56 = .ok (.iconst 0, 1) := by decide +kernel
theorem d252_57 : decode (tb_me 252).1.2.1 57 = .ok (.istore 8, 2) := by decide +kernel
theorem d252_128 : decode (tb_me 252).1.2.1 128 = .ok (.iload 6, 2) := by decide +kernel
theorem d252_130 : decode (tb_me 252).1.2.1 130 = .ok (.iload 7, 2) := by decide +kernel
theorem d252_132 : decode (tb_me 252).1.2.1 132 = .ok (.if_icmp .le 8, 3) := by decide +kernel
theorem d252_140 : decode (tb_me 252).1.2.1 140 = .ok (.iload 7, 2) := by decide +kernel
theorem d252_135 : decode (tb_me 252).1.2.1 135 = .ok (.iload 6, 2) := by decide +kernel
theorem d252_137 : decode (tb_me 252).1.2.1 137 = .ok (.goto 5, 3) := by decide +kernel
theorem d252_0 : decode (tb_me 252).1.2.1 0 = .ok (.aload_n 0, 1) := by decide +kernel
theorem d252_1 : decode (tb_me 252).1.2.1 1 = .ok (.invokevirtual 305, 3) := by decide +kernel
theorem k252_305 (b : Bool) : tb_lk b 252 305 = (2, 192, 0, 0, 0) := by cases b <;> decide +kernel
theorem d252_4 : decode (tb_me 252).1.2.1 4 = .ok (.ifCond .eq 13, 3) := by decide +kernel
theorem d252_17 : decode (tb_me 252).1.2.1 17 = .ok (.iconst (-1), 1) := by decide +kernel
theorem d252_18 : decode (tb_me 252).1.2.1 18 = .ok (.ireturn, 1) := by decide +kernel
theorem t252 : (tb_me 252).1.2.2.2 = some .int := by decide +kernel
theorem d252_7 : decode (tb_me 252).1.2.1 7 = .ok (.iload_n 1, 1) := by decide +kernel
theorem d252_8 : decode (tb_me 252).1.2.1 8 = .ok (.i2l, 1) := by decide +kernel
theorem d252_9 : decode (tb_me 252).1.2.1 9 = .ok (.lconst 0, 1) := by decide +kernel
theorem d252_10 : decode (tb_me 252).1.2.1 10 = .ok (.lconst 1, 1) := by decide +kernel
theorem d252_11 : decode (tb_me 252).1.2.1 11 = .ok (.invokestatic 112, 3) := by decide +kernel
theorem k252_112 (b : Bool) : tb_lk b 252 112 = (4, 148, 0, 0, 0) := by cases b <;> decide +kernel
theorem d252_14 : decode (tb_me 252).1.2.1 14 = .ok (.ifCond .ne 5, 3) := by decide +kernel
theorem d252_19 : decode (tb_me 252).1.2.1 19 = .ok (.aload_n 0, 1) := by decide +kernel
theorem d252_20 : decode (tb_me 252).1.2.1 20 = .ok (.invokevirtual 356, 3) := by decide +kernel
theorem k252_356 (b : Bool) : tb_lk b 252 356 = (2, 201, 0, 0, 0) := by cases b <;> decide +kernel
theorem d252_23 : decode (tb_me 252).1.2.1 23 = .ok (.istore_n 2, 1) := by decide +kernel
theorem d252_24 : decode (tb_me 252).1.2.1 24 = .ok (.aload_n 0, 1) := by decide +kernel
theorem d252_25 : decode (tb_me 252).1.2.1 25 = .ok (.iload_n 2, 1) := by decide +kernel
theorem d252_26 : decode (tb_me 252).1.2.1 26 = .ok (.invokevirtual 342, 3) := by decide +kernel
theorem k252_342 (b : Bool) : tb_lk b 252 342 = (2, 220, 0, 0, 0) := by cases b <;> decide +kernel
theorem d252_29 : decode (tb_me 252).1.2.1 29 = .ok (.bipush (-2), 2) := by decide +kernel
theorem d252_31 : decode (tb_me 252).1.2.1 31 = .ok (.istore_n 3, 1) := by decide +kernel
theorem d252_32 : decode (tb_me 252).1.2.1 32 = .ok (.bipush (-2), 2) := by decide +kernel
theorem d252_34 : decode (tb_me 252).1.2.1 34 = .ok (.istore 4, 2) := by decide +kernel
theorem d252_36 : decode (tb_me 252).1.2.1 36 = .ok (.iconst 0, 1) := by decide +kernel
theorem d252_37 : decode (tb_me 252).1.2.1 37 = .ok (.istore 5, 2) := by decide +kernel
theorem d252_176 : decode (tb_me 252).1.2.1 176 = .ok (.iload_n 1, 1) := by decide +kernel
theorem d252_177 : decode (tb_me 252).1.2.1 177 = .ok (.ifCond .ne 7, 3) := by decide +kernel
theorem d252_184 : decode (tb_me 252).1.2.1 184 = .ok (.iload 4, 2) := by decide +kernel
theorem d252_186 : decode (tb_me 252).1.2.1 186 = .ok (.ireturn, 1) := by decide +kernel
theorem d252_180 : decode (tb_me 252).1.2.1 180 = .ok (.iload_n 3, 1) := by decide +kernel
theorem d252_181 : decode (tb_me 252).1.2.1 181 = .ok (.goto 5, 3) := by decide +kernel
theorem e252 : (tb_me 252).2.1 = (0, 0) ∧ (tb_me 252).1.2.2.1 = 9 := by decide +kernel
theorem d253_0 : decode (tb_me 253).1.2.1 0 = .ok (.iload_n 1, 1) := by decide +kernel
theorem d253_1 : decode (tb_me 253).1.2.1 1 = .ok (.ifCond .ge 5, 3) := by decide +kernel
theorem d253_6 : decode (tb_me 253).1.2.1 6 = .ok (.aload_n 0, 1) := by decide +kernel
theorem d253_7 : decode (tb_me 253).1.2.1 7 = .ok (.getfield 416, 3) := by decide +kernel
theorem k253_416 (b : Bool) : tb_lk b 253 416 = (1, 10, 21, 0, 0) := by cases b <;> decide +kernel
theorem f10_21 : (21 < pm_nf tb_cl 10) ∧ tb_ft 10 21 ≠ .long ∧ pm_isR (tb_ft 10 21) = false := by decide +kernel
theorem d253_10 : decode (tb_me 253).1.2.1 10 = .ok (.istore_n 2, 1) := by decide +kernel
theorem d253_11 : decode (tb_me 253).1.2.1 11 = .ok (.aload_n 0, 1) := by decide +kernel
theorem d253_12 : decode (tb_me 253).1.2.1 12 = .ok (.iload_n 1, 1) := by decide +kernel
theorem d253_13 : decode (tb_me 253).1.2.1 13 = .ok (.putfield 416, 3) := by decide +kernel
theorem p253_10_21 : (21 < pm_nf tb_cl 10) ∧ tb_ft 10 21 = .int ∧ pm_fin tb_cl (tb_me 253).1.1 10 21 = true := by decide +kernel
theorem d253_16 : decode (tb_me 253).1.2.1 16 = .ok (.iload_n 2, 1) := by decide +kernel
theorem d253_17 : decode (tb_me 253).1.2.1 17 = .ok (.ireturn, 1) := by decide +kernel
theorem t253 : (tb_me 253).1.2.2.2 = some .int := by decide +kernel
theorem d253_4 : decode (tb_me 253).1.2.1 4 = .ok (.iconst (-1), 1) := by decide +kernel
theorem d253_5 : decode (tb_me 253).1.2.1 5 = .ok (.ireturn, 1) := by decide +kernel
theorem e253 : (tb_me 253).2.1 = (0, 0) ∧ (tb_me 253).1.2.2.1 = 3 := by decide +kernel
theorem d254_0 : decode (tb_me 254).1.2.1 0 = .ok (.aload_n 0, 1) := by decide +kernel
theorem d254_1 : decode (tb_me 254).1.2.1 1 = .ok (.aload_n 0, 1) := by decide +kernel
theorem d254_2 : decode (tb_me 254).1.2.1 2 = .ok (.getfield 419, 3) := by decide +kernel
theorem k254_419 (b : Bool) : tb_lk b 254 419 = (1, 10, 31, 0, 0) := by cases b <;> decide +kernel
theorem f10_31 : (31 < pm_nf tb_cl 10) ∧ tb_ft 10 31 = .long := by decide +kernel
theorem d254_5 : decode (tb_me 254).1.2.1 5 = .ok (.ldc2_w 423, 3) := by decide +kernel
theorem k254_423 (b : Bool) : tb_lk b 254 423 = (12, 0, 0, 0, 1103515245) := by cases b <;> decide +kernel
theorem d254_8 : decode (tb_me 254).1.2.1 8 = .ok (.lmul, 1) := by decide +kernel
theorem d254_9 : decode (tb_me 254).1.2.1 9 = .ok (.ldc2_w 425, 3) := by decide +kernel
theorem k254_425 (b : Bool) : tb_lk b 254 425 = (12, 0, 0, 0, 12345) := by cases b <;> decide +kernel
theorem d254_12 : decode (tb_me 254).1.2.1 12 = .ok (.ladd, 1) := by decide +kernel
theorem d254_13 : decode (tb_me 254).1.2.1 13 = .ok (.ldc2_w 427, 3) := by decide +kernel
theorem k254_427 (b : Bool) : tb_lk b 254 427 = (12, 0, 0, 0, 2147483648) := by cases b <;> decide +kernel
theorem d254_16 : decode (tb_me 254).1.2.1 16 = .ok (.lrem, 1) := by decide +kernel
theorem d254_17 : decode (tb_me 254).1.2.1 17 = .ok (.putfield 419, 3) := by decide +kernel
theorem p254_10_31 : (31 < pm_nf tb_cl 10) ∧ tb_ft 10 31 = .long ∧ pm_fin tb_cl (tb_me 254).1.1 10 31 = true := by decide +kernel
theorem d254_20 : decode (tb_me 254).1.2.1 20 = .ok (.aload_n 0, 1) := by decide +kernel
theorem d254_21 : decode (tb_me 254).1.2.1 21 = .ok (.getfield 419, 3) := by decide +kernel
theorem d254_24 : decode (tb_me 254).1.2.1 24 = .ok (.ldc2_w 429, 3) := by decide +kernel
theorem k254_429 (b : Bool) : tb_lk b 254 429 = (12, 0, 0, 0, 65536) := by cases b <;> decide +kernel
theorem d254_27 : decode (tb_me 254).1.2.1 27 = .ok (.ldiv, 1) := by decide +kernel
theorem d254_28 : decode (tb_me 254).1.2.1 28 = .ok (.iload_n 1, 1) := by decide +kernel
theorem d254_29 : decode (tb_me 254).1.2.1 29 = .ok (.i2l, 1) := by decide +kernel
theorem d254_30 : decode (tb_me 254).1.2.1 30 = .ok (.lrem, 1) := by decide +kernel
theorem d254_31 : decode (tb_me 254).1.2.1 31 = .ok (.l2i, 1) := by decide +kernel
theorem d254_32 : decode (tb_me 254).1.2.1 32 = .ok (.ireturn, 1) := by decide +kernel
theorem t254 : (tb_me 254).1.2.2.2 = some .int := by decide +kernel
theorem e254 : (tb_me 254).2.1 = (0, 0) ∧ (tb_me 254).1.2.2.1 = 2 := by decide +kernel
theorem d255_271 : decode (tb_me 255).1.2.1 271 = .ok (.iload 9, 2) := by decide +kernel
theorem d255_273 : decode (tb_me 255).1.2.1 273 = .ok (.bipush 58, 2) := by decide +kernel
theorem d255_275 : decode (tb_me 255).1.2.1 275 = .ok (.if_icmp .ge 23, 3) := by decide +kernel
theorem d255_278 : decode (tb_me 255).1.2.1 278 = .ok (.aload_n 0, 1) := by decide +kernel
theorem d255_279 : decode (tb_me 255).1.2.1 279 = .ok (.getfield 39, 3) := by decide +kernel
theorem k255_39 (b : Bool) : tb_lk b 255 39 = (1, 10, 20, 0, 0) := by cases b <;> decide +kernel
theorem d255_282 : decode (tb_me 255).1.2.1 282 = .ok (.iload 9, 2) := by decide +kernel
theorem d255_284 : decode (tb_me 255).1.2.1 284 = .ok (.aload_n 0, 1) := by decide +kernel
theorem d255_285 : decode (tb_me 255).1.2.1 285 = .ok (.getfield 60, 3) := by decide +kernel
theorem k255_60 (b : Bool) : tb_lk b 255 60 = (1, 10, 30, 0, 0) := by cases b <;> decide +kernel
theorem f10_30 : (30 < pm_nf tb_cl 10) ∧ tb_ft 10 30 ≠ .long ∧ pm_isR (tb_ft 10 30) = true := by decide +kernel
theorem d255_288 : decode (tb_me 255).1.2.1 288 = .ok (.iload 9, 2) := by decide +kernel
theorem d255_290 : decode (tb_me 255).1.2.1 290 = .ok (.iaload, 1) := by decide +kernel
theorem d255_291 : decode (tb_me 255).1.2.1 291 = .ok (.iastore, 1) := by decide +kernel
theorem d255_292 : decode (tb_me 255).1.2.1 292 = .ok (.iinc 9 1, 3) := by decide +kernel
theorem d255_295 : decode (tb_me 255).1.2.1 295 = .ok (.goto (-24), 3) := by decide +kernel
theorem d255_212 : decode (tb_me 255).1.2.1 212 = .ok (.iastore, 1) := by decide +kernel
theorem d255_213 : decode (tb_me 255).1.2.1 213 = .ok (.iinc 10 1, 3) := by decide +kernel
theorem d255_216 : decode (tb_me 255).1.2.1 216 = .ok (.goto (-53), 3) := by decide +kernel
theorem d255_163 : decode (tb_me 255).1.2.1 163 = .ok (.iload 10, 2) := by decide +kernel
theorem d255_165 : decode (tb_me 255).1.2.1 165 = .ok (.aload_n 0, 1) := by decide +kernel
theorem d255_166 : decode (tb_me 255).1.2.1 166 = .ok (.getfield 39, 3) := by decide +kernel
theorem d255_169 : decode (tb_me 255).1.2.1 169 = .ok (.iconst 1, 1) := by decide +kernel
theorem d255_170 : decode (tb_me 255).1.2.1 170 = .ok (.iaload, 1) := by decide +kernel
theorem d255_171 : decode (tb_me 255).1.2.1 171 = .ok (.if_icmp .ge 48, 3) := by decide +kernel
theorem d255_174 : decode (tb_me 255).1.2.1 174 = .ok (.aload_n 0, 1) := by decide +kernel
theorem d255_175 : decode (tb_me 255).1.2.1 175 = .ok (.iload 10, 2) := by decide +kernel
theorem d255_177 : decode (tb_me 255).1.2.1 177 = .ok (.invokevirtual 277, 3) := by decide +kernel
theorem k255_277 (b : Bool) : tb_lk b 255 277 = (2, 197, 0, 0, 0) := by cases b <;> decide +kernel
theorem d255_180 : decode (tb_me 255).1.2.1 180 = .ok (.ifCond .eq 33, 3) := by decide +kernel
theorem d255_183 : decode (tb_me 255).1.2.1 183 = .ok (.aload_n 0, 1) := by decide +kernel
theorem d255_184 : decode (tb_me 255).1.2.1 184 = .ok (.getfield 39, 3) := by decide +kernel
theorem d255_187 : decode (tb_me 255).1.2.1 187 = .ok (.bipush 10, 2) := by decide +kernel
theorem d255_189 : decode (tb_me 255).1.2.1 189 = .ok (.bipush 6, 2) := by decide +kernel
theorem d255_191 : decode (tb_me 255).1.2.1 191 = .ok (.iload 10, 2) := by decide +kernel
theorem d255_193 : decode (tb_me 255).1.2.1 193 = .ok (.imul, 1) := by decide +kernel
theorem d255_194 : decode (tb_me 255).1.2.1 194 = .ok (.iadd, 1) := by decide +kernel
theorem d255_195 : decode (tb_me 255).1.2.1 195 = .ok (.iconst 2, 1) := by decide +kernel
theorem d255_196 : decode (tb_me 255).1.2.1 196 = .ok (.iadd, 1) := by decide +kernel
theorem d255_197 : decode (tb_me 255).1.2.1 197 = .ok (.aload_n 0, 1) := by decide +kernel
theorem d255_198 : decode (tb_me 255).1.2.1 198 = .ok (.bipush 100, 2) := by decide +kernel
theorem d255_200 : decode (tb_me 255).1.2.1 200 = .ok (.invokevirtual 437, 3) := by decide +kernel
theorem k255_437 (b : Bool) : tb_lk b 255 437 = (2, 254, 0, 0, 0) := by cases b <;> decide +kernel
theorem m254 : (tb_me 254).2 = ((0, 0), (1, 10)) ∧ (tb_me 254).1.2.2.1 = 2 := by decide +kernel
theorem d255_203 : decode (tb_me 255).1.2.1 203 = .ok (.iload_n 3, 1) := by decide +kernel
theorem d255_204 : decode (tb_me 255).1.2.1 204 = .ok (.if_icmp .ge 7, 3) := by decide +kernel
theorem d255_211 : decode (tb_me 255).1.2.1 211 = .ok (.iconst 1, 1) := by decide +kernel
theorem d255_207 : decode (tb_me 255).1.2.1 207 = .ok (.iconst 0, 1) := by decide +kernel
theorem d255_208 : decode (tb_me 255).1.2.1 208 = .ok (.goto 4, 3) := by decide +kernel
theorem d255_143 : decode (tb_me 255).1.2.1 143 = .ok (.iload 9, 2) := by decide +kernel
theorem d255_145 : decode (tb_me 255).1.2.1 145 = .ok (.iload_n 2, 1) := by decide +kernel
theorem d255_146 : decode (tb_me 255).1.2.1 146 = .ok (.if_icmp .ge 122, 3) := by decide +kernel
theorem d255_149 : decode (tb_me 255).1.2.1 149 = .ok (.aload_n 0, 1) := by decide +kernel
theorem d255_150 : decode (tb_me 255).1.2.1 150 = .ok (.getfield 39, 3) := by decide +kernel
theorem d255_153 : decode (tb_me 255).1.2.1 153 = .ok (.iconst 5, 1) := by decide +kernel
theorem d255_154 : decode (tb_me 255).1.2.1 154 = .ok (.aload_n 0, 1) := by decide +kernel
theorem d255_155 : decode (tb_me 255).1.2.1 155 = .ok (.iconst 3, 1) := by decide +kernel
theorem d255_156 : decode (tb_me 255).1.2.1 156 = .ok (.invokevirtual 437, 3) := by decide +kernel
theorem d255_159 : decode (tb_me 255).1.2.1 159 = .ok (.iastore, 1) := by decide +kernel
theorem d255_160 : decode (tb_me 255).1.2.1 160 = .ok (.iconst 0, 1) := by decide +kernel
theorem d255_161 : decode (tb_me 255).1.2.1 161 = .ok (.istore 10, 2) := by decide +kernel
theorem d255_219 : decode (tb_me 255).1.2.1 219 = .ok (.aload_n 0, 1) := by decide +kernel
theorem d255_220 : decode (tb_me 255).1.2.1 220 = .ok (.invokevirtual 393, 3) := by decide +kernel
theorem k255_393 (b : Bool) : tb_lk b 255 393 = (2, 223, 0, 0, 0) := by cases b <;> decide +kernel
theorem d255_223 : decode (tb_me 255).1.2.1 223 = .ok (.aload_n 0, 1) := by decide +kernel
theorem d255_224 : decode (tb_me 255).1.2.1 224 = .ok (.getfield 51, 3) := by decide +kernel
theorem k255_51 (b : Bool) : tb_lk b 255 51 = (1, 10, 26, 0, 0) := by cases b <;> decide +kernel
theorem d255_227 : decode (tb_me 255).1.2.1 227 = .ok (.aload_n 0, 1) := by decide +kernel
theorem d255_228 : decode (tb_me 255).1.2.1 228 = .ok (.invokevirtual 383, 3) := by decide +kernel
theorem k255_383 (b : Bool) : tb_lk b 255 383 = (2, 200, 0, 0, 0) := by cases b <;> decide +kernel
theorem d255_231 : decode (tb_me 255).1.2.1 231 = .ok (.iaload, 1) := by decide +kernel
theorem d255_232 : decode (tb_me 255).1.2.1 232 = .ok (.iconst (-1), 1) := by decide +kernel
theorem d255_233 : decode (tb_me 255).1.2.1 233 = .ok (.ixor, 1) := by decide +kernel
theorem d255_234 : decode (tb_me 255).1.2.1 234 = .ok (.iand, 1) := by decide +kernel
theorem d255_235 : decode (tb_me 255).1.2.1 235 = .ok (.istore 10, 2) := by decide +kernel
theorem d255_237 : decode (tb_me 255).1.2.1 237 = .ok (.iload 5, 2) := by decide +kernel
theorem d255_239 : decode (tb_me 255).1.2.1 239 = .ok (.iload 10, 2) := by decide +kernel
theorem d255_241 : decode (tb_me 255).1.2.1 241 = .ok (.invokestatic 336, 3) := by decide +kernel
theorem k255_336 (b : Bool) : tb_lk b 255 336 = (4, 150, 0, 0, 0) := by cases b <;> decide +kernel
theorem d255_244 : decode (tb_me 255).1.2.1 244 = .ok (.iadd, 1) := by decide +kernel
theorem d255_245 : decode (tb_me 255).1.2.1 245 = .ok (.istore 5, 2) := by decide +kernel
theorem d255_247 : decode (tb_me 255).1.2.1 247 = .ok (.iload 6, 2) := by decide +kernel
theorem d255_249 : decode (tb_me 255).1.2.1 249 = .ok (.aload_n 0, 1) := by decide +kernel
theorem d255_250 : decode (tb_me 255).1.2.1 250 = .ok (.iload 10, 2) := by decide +kernel
theorem d255_252 : decode (tb_me 255).1.2.1 252 = .ok (.invokevirtual 398, 3) := by decide +kernel
theorem k255_398 (b : Bool) : tb_lk b 255 398 = (2, 222, 0, 0, 0) := by cases b <;> decide +kernel
theorem d255_255 : decode (tb_me 255).1.2.1 255 = .ok (.iadd, 1) := by decide +kernel
theorem d255_256 : decode (tb_me 255).1.2.1 256 = .ok (.istore 6, 2) := by decide +kernel
theorem d255_258 : decode (tb_me 255).1.2.1 258 = .ok (.aload_n 0, 1) := by decide +kernel
theorem d255_259 : decode (tb_me 255).1.2.1 259 = .ok (.invokevirtual 351, 3) := by decide +kernel
theorem k255_351 (b : Bool) : tb_lk b 255 351 = (2, 227, 0, 0, 0) := by cases b <;> decide +kernel
theorem d255_262 : decode (tb_me 255).1.2.1 262 = .ok (.iinc 9 1, 3) := by decide +kernel
theorem d255_265 : decode (tb_me 255).1.2.1 265 = .ok (.goto (-122), 3) := by decide +kernel
theorem d255_134 : decode (tb_me 255).1.2.1 134 = .ok (.iload 8, 2) := by decide +kernel
theorem d255_136 : decode (tb_me 255).1.2.1 136 = .ok (.iload_n 1, 1) := by decide +kernel
theorem d255_137 : decode (tb_me 255).1.2.1 137 = .ok (.if_icmp .ge 167, 3) := by decide +kernel
theorem d255_140 : decode (tb_me 255).1.2.1 140 = .ok (.iconst 0, 1) := by decide +kernel
theorem d255_141 : decode (tb_me 255).1.2.1 141 = .ok (.istore 9, 2) := by decide +kernel
theorem d255_268 : decode (tb_me 255).1.2.1 268 = .ok (.iconst 0, 1) := by decide +kernel
theorem d255_269 : decode (tb_me 255).1.2.1 269 = .ok (.istore 9, 2) := by decide +kernel
theorem d255_298 : decode (tb_me 255).1.2.1 298 = .ok (.iinc 8 1, 3) := by decide +kernel
theorem d255_301 : decode (tb_me 255).1.2.1 301 = .ok (.goto (-167), 3) := by decide +kernel
theorem d255_104 : decode (tb_me 255).1.2.1 104 = .ok (.iload 8, 2) := by decide +kernel
theorem d255_106 : decode (tb_me 255).1.2.1 106 = .ok (.bipush 58, 2) := by decide +kernel
theorem d255_108 : decode (tb_me 255).1.2.1 108 = .ok (.if_icmp .ge 23, 3) := by decide +kernel
theorem d255_111 : decode (tb_me 255).1.2.1 111 = .ok (.aload_n 0, 1) := by decide +kernel
theorem d255_112 : decode (tb_me 255).1.2.1 112 = .ok (.getfield 60, 3) := by decide +kernel
theorem d255_115 : decode (tb_me 255).1.2.1 115 = .ok (.iload 8, 2) := by decide +kernel
theorem d255_117 : decode (tb_me 255).1.2.1 117 = .ok (.aload_n 0, 1) := by decide +kernel
theorem d255_118 : decode (tb_me 255).1.2.1 118 = .ok (.getfield 39, 3) := by decide +kernel
theorem d255_121 : decode (tb_me 255).1.2.1 121 = .ok (.iload 8, 2) := by decide +kernel
theorem d255_123 : decode (tb_me 255).1.2.1 123 = .ok (.iaload, 1) := by decide +kernel
theorem d255_124 : decode (tb_me 255).1.2.1 124 = .ok (.iastore, 1) := by decide +kernel
theorem d255_125 : decode (tb_me 255).1.2.1 125 = .ok (.iinc 8 1, 3) := by decide +kernel
theorem d255_128 : decode (tb_me 255).1.2.1 128 = .ok (.goto (-24), 3) := by decide +kernel
theorem d255_88 : decode (tb_me 255).1.2.1 88 = .ok (.istore 7, 2) := by decide +kernel
theorem d255_90 : decode (tb_me 255).1.2.1 90 = .ok (.aload_n 0, 1) := by decide +kernel
theorem d255_91 : decode (tb_me 255).1.2.1 91 = .ok (.aload_n 0, 1) := by decide +kernel
theorem d255_92 : decode (tb_me 255).1.2.1 92 = .ok (.invokevirtual 356, 3) := by decide +kernel
theorem k255_356 (b : Bool) : tb_lk b 255 356 = (2, 201, 0, 0, 0) := by cases b <;> decide +kernel
theorem d255_95 : decode (tb_me 255).1.2.1 95 = .ok (.iload 7, 2) := by decide +kernel
theorem d255_97 : decode (tb_me 255).1.2.1 97 = .ok (.ior, 1) := by decide +kernel
theorem d255_98 : decode (tb_me 255).1.2.1 98 = .ok (.invokevirtual 342, 3) := by decide +kernel
theorem k255_342 (b : Bool) : tb_lk b 255 342 = (2, 220, 0, 0, 0) := by cases b <;> decide +kernel
theorem d255_101 : decode (tb_me 255).1.2.1 101 = .ok (.iconst 0, 1) := by decide +kernel
theorem d255_102 : decode (tb_me 255).1.2.1 102 = .ok (.istore 8, 2) := by decide +kernel
theorem d255_131 : decode (tb_me 255).1.2.1 131 = .ok (.iconst 0, 1) := by decide +kernel
theorem d255_132 : decode (tb_me 255).1.2.1 132 = .ok (.istore 8, 2) := by decide +kernel
theorem d255_304 : decode (tb_me 255).1.2.1 304 = .ok (.iload 4, 2) := by decide +kernel
theorem d255_306 : decode (tb_me 255).1.2.1 306 = .ok (.ifCond .ne 8, 3) := by decide +kernel
theorem d255_314 : decode (tb_me 255).1.2.1 314 = .ok (.iload 6, 2) := by decide +kernel
theorem d255_316 : decode (tb_me 255).1.2.1 316 = .ok (.ireturn, 1) := by decide +kernel
theorem t255 : (tb_me 255).1.2.2.2 = some .int := by decide +kernel
theorem d255_309 : decode (tb_me 255).1.2.1 309 = .ok (.iload 5, 2) := by decide +kernel
theorem d255_311 : decode (tb_me 255).1.2.1 311 = .ok (.goto 5, 3) := by decide +kernel
theorem d255_0 : decode (tb_me 255).1.2.1 0 = .ok (.aload_n 0, 1) := by decide +kernel
theorem d255_1 : decode (tb_me 255).1.2.1 1 = .ok (.invokevirtual 305, 3) := by decide +kernel
theorem k255_305 (b : Bool) : tb_lk b 255 305 = (2, 192, 0, 0, 0) := by cases b <;> decide +kernel
theorem d255_4 : decode (tb_me 255).1.2.1 4 = .ok (.ifCond .eq 50, 3) := by decide +kernel
theorem d255_54 : decode (tb_me 255).1.2.1 54 = .ok (.iconst (-1), 1) := by decide +kernel
theorem d255_55 : decode (tb_me 255).1.2.1 55 = .ok (.ireturn, 1) := by decide +kernel
theorem d255_7 : decode (tb_me 255).1.2.1 7 = .ok (.iload_n 1, 1) := by decide +kernel
theorem d255_8 : decode (tb_me 255).1.2.1 8 = .ok (.i2l, 1) := by decide +kernel
theorem d255_9 : decode (tb_me 255).1.2.1 9 = .ok (.lconst 1, 1) := by decide +kernel
theorem d255_10 : decode (tb_me 255).1.2.1 10 = .ok (.ldc2_w 431, 3) := by decide +kernel
theorem k255_431 (b : Bool) : tb_lk b 255 431 = (12, 0, 0, 0, 10) := by cases b <;> decide +kernel
theorem d255_13 : decode (tb_me 255).1.2.1 13 = .ok (.invokestatic 112, 3) := by decide +kernel
theorem k255_112 (b : Bool) : tb_lk b 255 112 = (4, 148, 0, 0, 0) := by cases b <;> decide +kernel
theorem d255_16 : decode (tb_me 255).1.2.1 16 = .ok (.ifCond .eq 38, 3) := by decide +kernel
theorem d255_19 : decode (tb_me 255).1.2.1 19 = .ok (.iload_n 2, 1) := by decide +kernel
theorem d255_20 : decode (tb_me 255).1.2.1 20 = .ok (.i2l, 1) := by decide +kernel
theorem d255_21 : decode (tb_me 255).1.2.1 21 = .ok (.lconst 1, 1) := by decide +kernel
theorem d255_22 : decode (tb_me 255).1.2.1 22 = .ok (.ldc2_w 433, 3) := by decide +kernel
theorem k255_433 (b : Bool) : tb_lk b 255 433 = (12, 0, 0, 0, 20) := by cases b <;> decide +kernel
theorem d255_25 : decode (tb_me 255).1.2.1 25 = .ok (.invokestatic 112, 3) := by decide +kernel
theorem d255_28 : decode (tb_me 255).1.2.1 28 = .ok (.ifCond .eq 26, 3) := by decide +kernel
theorem d255_31 : decode (tb_me 255).1.2.1 31 = .ok (.iload_n 3, 1) := by decide +kernel
theorem d255_32 : decode (tb_me 255).1.2.1 32 = .ok (.i2l, 1) := by decide +kernel
theorem d255_33 : decode (tb_me 255).1.2.1 33 = .ok (.lconst 0, 1) := by decide +kernel
theorem d255_34 : decode (tb_me 255).1.2.1 34 = .ok (.ldc2_w 435, 3) := by decide +kernel
theorem k255_435 (b : Bool) : tb_lk b 255 435 = (12, 0, 0, 0, 100) := by cases b <;> decide +kernel
theorem d255_37 : decode (tb_me 255).1.2.1 37 = .ok (.invokestatic 112, 3) := by decide +kernel
theorem d255_40 : decode (tb_me 255).1.2.1 40 = .ok (.ifCond .eq 14, 3) := by decide +kernel
theorem d255_43 : decode (tb_me 255).1.2.1 43 = .ok (.iload 4, 2) := by decide +kernel
theorem d255_45 : decode (tb_me 255).1.2.1 45 = .ok (.i2l, 1) := by decide +kernel
theorem d255_46 : decode (tb_me 255).1.2.1 46 = .ok (.lconst 0, 1) := by decide +kernel
theorem d255_47 : decode (tb_me 255).1.2.1 47 = .ok (.lconst 1, 1) := by decide +kernel
theorem d255_48 : decode (tb_me 255).1.2.1 48 = .ok (.invokestatic 112, 3) := by decide +kernel
theorem d255_51 : decode (tb_me 255).1.2.1 51 = .ok (.ifCond .ne 5, 3) := by decide +kernel
theorem d255_56 : decode (tb_me 255).1.2.1 56 = .ok (.aload_n 0, 1) := by decide +kernel
theorem d255_57 : decode (tb_me 255).1.2.1 57 = .ok (.aload_n 0, 1) := by decide +kernel
theorem d255_58 : decode (tb_me 255).1.2.1 58 = .ok (.getfield 416, 3) := by decide +kernel
theorem k255_416 (b : Bool) : tb_lk b 255 416 = (1, 10, 21, 0, 0) := by cases b <;> decide +kernel
theorem d255_61 : decode (tb_me 255).1.2.1 61 = .ok (.i2l, 1) := by decide +kernel
theorem d255_62 : decode (tb_me 255).1.2.1 62 = .ok (.putfield 419, 3) := by decide +kernel
theorem k255_419 (b : Bool) : tb_lk b 255 419 = (1, 10, 31, 0, 0) := by cases b <;> decide +kernel
theorem p255_10_31 : (31 < pm_nf tb_cl 10) ∧ tb_ft 10 31 = .long ∧ pm_fin tb_cl (tb_me 255).1.1 10 31 = true := by decide +kernel
theorem d255_65 : decode (tb_me 255).1.2.1 65 = .ok (.iconst 0, 1) := by decide +kernel
theorem d255_66 : decode (tb_me 255).1.2.1 66 = .ok (.istore 5, 2) := by decide +kernel
theorem d255_68 : decode (tb_me 255).1.2.1 68 = .ok (.iconst 0, 1) := by decide +kernel
theorem d255_69 : decode (tb_me 255).1.2.1 69 = .ok (.istore 6, 2) := by decide +kernel
theorem d255_71 : decode (tb_me 255).1.2.1 71 = .ok (.aload_n 0, 1) := by decide +kernel
theorem d255_72 : decode (tb_me 255).1.2.1 72 = .ok (.getfield 39, 3) := by decide +kernel
theorem d255_75 : decode (tb_me 255).1.2.1 75 = .ok (.bipush 6, 2) := by decide +kernel
theorem d255_77 : decode (tb_me 255).1.2.1 77 = .ok (.iaload, 1) := by decide +kernel
theorem d255_78 : decode (tb_me 255).1.2.1 78 = .ok (.ifCond .lt 9, 3) := by decide +kernel
theorem d255_87 : decode (tb_me 255).1.2.1 87 = .ok (.iconst 0, 1) := by decide +kernel
theorem d255_81 : decode (tb_me 255).1.2.1 81 = .ok (.sipush 256, 3) := by decide +kernel
theorem d255_84 : decode (tb_me 255).1.2.1 84 = .ok (.goto 4, 3) := by decide +kernel
theorem e255 : (tb_me 255).2.1 = (0, 0) ∧ (tb_me 255).1.2.2.1 = 11 := by decide +kernel
theorem d256_0 : decode (tb_me 256).1.2.1 0 = .ok (.iload_n 1, 1) := by decide +kernel
theorem d256_1 : decode (tb_me 256).1.2.1 1 = .ok (.tableswitch 161 0 14 #[75, 75, 75, 75, 82, 87, 94, 101, 106, 111, 129, 137, 146, 151, 156], 75) := by decide +kernel
theorem d256_76 : decode (tb_me 256).1.2.1 76 = .ok (.aload_n 0, 1) := by decide +kernel
theorem d256_77 : decode (tb_me 256).1.2.1 77 = .ok (.getfield 39, 3) := by decide +kernel
theorem k256_39 (b : Bool) : tb_lk b 256 39 = (1, 10, 20, 0, 0) := by cases b <;> decide +kernel
theorem d256_80 : decode (tb_me 256).1.2.1 80 = .ok (.iload_n 1, 1) := by decide +kernel
theorem d256_81 : decode (tb_me 256).1.2.1 81 = .ok (.iaload, 1) := by decide +kernel
theorem d256_82 : decode (tb_me 256).1.2.1 82 = .ok (.ireturn, 1) := by decide +kernel
theorem t256 : (tb_me 256).1.2.2.2 = some .int := by decide +kernel
theorem d256_83 : decode (tb_me 256).1.2.1 83 = .ok (.aload_n 0, 1) := by decide +kernel
theorem d256_84 : decode (tb_me 256).1.2.1 84 = .ok (.getfield 246, 3) := by decide +kernel
theorem k256_246 (b : Bool) : tb_lk b 256 246 = (1, 10, 2, 0, 0) := by cases b <;> decide +kernel
theorem d256_87 : decode (tb_me 256).1.2.1 87 = .ok (.ireturn, 1) := by decide +kernel
theorem d256_88 : decode (tb_me 256).1.2.1 88 = .ok (.aload_n 0, 1) := by decide +kernel
theorem d256_89 : decode (tb_me 256).1.2.1 89 = .ok (.getfield 39, 3) := by decide +kernel
theorem d256_92 : decode (tb_me 256).1.2.1 92 = .ok (.iconst 4, 1) := by decide +kernel
theorem d256_93 : decode (tb_me 256).1.2.1 93 = .ok (.iaload, 1) := by decide +kernel
theorem d256_94 : decode (tb_me 256).1.2.1 94 = .ok (.ireturn, 1) := by decide +kernel
theorem d256_95 : decode (tb_me 256).1.2.1 95 = .ok (.aload_n 0, 1) := by decide +kernel
theorem d256_96 : decode (tb_me 256).1.2.1 96 = .ok (.getfield 39, 3) := by decide +kernel
theorem d256_99 : decode (tb_me 256).1.2.1 99 = .ok (.iconst 5, 1) := by decide +kernel
theorem d256_100 : decode (tb_me 256).1.2.1 100 = .ok (.iaload, 1) := by decide +kernel
theorem d256_101 : decode (tb_me 256).1.2.1 101 = .ok (.ireturn, 1) := by decide +kernel
theorem d256_102 : decode (tb_me 256).1.2.1 102 = .ok (.aload_n 0, 1) := by decide +kernel
theorem d256_103 : decode (tb_me 256).1.2.1 103 = .ok (.invokevirtual 361, 3) := by decide +kernel
theorem k256_361 (b : Bool) : tb_lk b 256 361 = (2, 202, 0, 0, 0) := by cases b <;> decide +kernel
theorem d256_106 : decode (tb_me 256).1.2.1 106 = .ok (.ireturn, 1) := by decide +kernel
theorem d256_107 : decode (tb_me 256).1.2.1 107 = .ok (.aload_n 0, 1) := by decide +kernel
theorem d256_108 : decode (tb_me 256).1.2.1 108 = .ok (.invokevirtual 383, 3) := by decide +kernel
theorem k256_383 (b : Bool) : tb_lk b 256 383 = (2, 200, 0, 0, 0) := by cases b <;> decide +kernel
theorem d256_111 : decode (tb_me 256).1.2.1 111 = .ok (.ireturn, 1) := by decide +kernel
theorem d256_112 : decode (tb_me 256).1.2.1 112 = .ok (.iconst 1, 1) := by decide +kernel
theorem d256_113 : decode (tb_me 256).1.2.1 113 = .ok (.aload_n 0, 1) := by decide +kernel
theorem d256_114 : decode (tb_me 256).1.2.1 114 = .ok (.getfield 39, 3) := by decide +kernel
theorem d256_117 : decode (tb_me 256).1.2.1 117 = .ok (.iconst 1, 1) := by decide +kernel
theorem d256_118 : decode (tb_me 256).1.2.1 118 = .ok (.iaload, 1) := by decide +kernel
theorem d256_119 : decode (tb_me 256).1.2.1 119 = .ok (.ishl, 1) := by decide +kernel
theorem d256_120 : decode (tb_me 256).1.2.1 120 = .ok (.iconst 1, 1) := by decide +kernel
theorem d256_121 : decode (tb_me 256).1.2.1 121 = .ok (.isub, 1) := by decide +kernel
theorem d256_122 : decode (tb_me 256).1.2.1 122 = .ok (.aload_n 0, 1) := by decide +kernel
theorem d256_123 : decode (tb_me 256).1.2.1 123 = .ok (.invokevirtual 356, 3) := by decide +kernel
theorem k256_356 (b : Bool) : tb_lk b 256 356 = (2, 201, 0, 0, 0) := by cases b <;> decide +kernel
theorem d256_126 : decode (tb_me 256).1.2.1 126 = .ok (.iconst (-1), 1) := by decide +kernel
theorem d256_127 : decode (tb_me 256).1.2.1 127 = .ok (.ixor, 1) := by decide +kernel
theorem d256_128 : decode (tb_me 256).1.2.1 128 = .ok (.iand, 1) := by decide +kernel
theorem d256_129 : decode (tb_me 256).1.2.1 129 = .ok (.ireturn, 1) := by decide +kernel
theorem d256_130 : decode (tb_me 256).1.2.1 130 = .ok (.aload_n 0, 1) := by decide +kernel
theorem d256_131 : decode (tb_me 256).1.2.1 131 = .ok (.getfield 39, 3) := by decide +kernel
theorem d256_134 : decode (tb_me 256).1.2.1 134 = .ok (.bipush 6, 2) := by decide +kernel
theorem d256_136 : decode (tb_me 256).1.2.1 136 = .ok (.iaload, 1) := by decide +kernel
theorem d256_137 : decode (tb_me 256).1.2.1 137 = .ok (.ireturn, 1) := by decide +kernel
theorem d256_138 : decode (tb_me 256).1.2.1 138 = .ok (.aload_n 0, 1) := by decide +kernel
theorem d256_139 : decode (tb_me 256).1.2.1 139 = .ok (.getfield 39, 3) := by decide +kernel
theorem d256_142 : decode (tb_me 256).1.2.1 142 = .ok (.sipush 226, 3) := by decide +kernel
theorem d256_145 : decode (tb_me 256).1.2.1 145 = .ok (.iaload, 1) := by decide +kernel
theorem d256_146 : decode (tb_me 256).1.2.1 146 = .ok (.ireturn, 1) := by decide +kernel
theorem d256_147 : decode (tb_me 256).1.2.1 147 = .ok (.aload_n 0, 1) := by decide +kernel
theorem d256_148 : decode (tb_me 256).1.2.1 148 = .ok (.getfield 252, 3) := by decide +kernel
theorem k256_252 (b : Bool) : tb_lk b 256 252 = (1, 10, 28, 0, 0) := by cases b <;> decide +kernel
theorem d256_151 : decode (tb_me 256).1.2.1 151 = .ok (.ireturn, 1) := by decide +kernel
theorem d256_152 : decode (tb_me 256).1.2.1 152 = .ok (.aload_n 0, 1) := by decide +kernel
theorem d256_153 : decode (tb_me 256).1.2.1 153 = .ok (.getfield 416, 3) := by decide +kernel
theorem k256_416 (b : Bool) : tb_lk b 256 416 = (1, 10, 21, 0, 0) := by cases b <;> decide +kernel
theorem d256_156 : decode (tb_me 256).1.2.1 156 = .ok (.ireturn, 1) := by decide +kernel
theorem d256_157 : decode (tb_me 256).1.2.1 157 = .ok (.aload_n 0, 1) := by decide +kernel
theorem d256_158 : decode (tb_me 256).1.2.1 158 = .ok (.getfield 73, 3) := by decide +kernel
theorem k256_73 (b : Bool) : tb_lk b 256 73 = (1, 10, 1, 0, 0) := by cases b <;> decide +kernel
theorem d256_161 : decode (tb_me 256).1.2.1 161 = .ok (.ireturn, 1) := by decide +kernel
theorem d256_162 : decode (tb_me 256).1.2.1 162 = .ok (.iconst (-1), 1) := by decide +kernel
theorem d256_163 : decode (tb_me 256).1.2.1 163 = .ok (.ireturn, 1) := by decide +kernel
theorem e256 : (tb_me 256).2.1 = (0, 0) ∧ (tb_me 256).1.2.2.1 = 2 := by decide +kernel
theorem d257_33 : decode (tb_me 257).1.2.1 33 = .ok (.iload_n 2, 1) := by decide +kernel
theorem d257_34 : decode (tb_me 257).1.2.1 34 = .ok (.sipush 227, 3) := by decide +kernel
theorem d257_37 : decode (tb_me 257).1.2.1 37 = .ok (.if_icmp .ge 27, 3) := by decide +kernel
theorem d257_40 : decode (tb_me 257).1.2.1 40 = .ok (.aload_n 0, 1) := by decide +kernel
theorem d257_41 : decode (tb_me 257).1.2.1 41 = .ok (.getfield 63, 3) := by decide +kernel
theorem k257_63 (b : Bool) : tb_lk b 257 63 = (1, 10, 32, 0, 0) := by cases b <;> decide +kernel
theorem f10_32 : (32 < pm_nf tb_cl 10) ∧ tb_ft 10 32 ≠ .long ∧ pm_isR (tb_ft 10 32) = true := by decide +kernel
theorem d257_44 : decode (tb_me 257).1.2.1 44 = .ok (.sipush 227, 3) := by decide +kernel
theorem d257_47 : decode (tb_me 257).1.2.1 47 = .ok (.iload_n 1, 1) := by decide +kernel
theorem d257_48 : decode (tb_me 257).1.2.1 48 = .ok (.imul, 1) := by decide +kernel
theorem d257_49 : decode (tb_me 257).1.2.1 49 = .ok (.iload_n 2, 1) := by decide +kernel
theorem d257_50 : decode (tb_me 257).1.2.1 50 = .ok (.iadd, 1) := by decide +kernel
theorem d257_51 : decode (tb_me 257).1.2.1 51 = .ok (.aload_n 0, 1) := by decide +kernel
theorem d257_52 : decode (tb_me 257).1.2.1 52 = .ok (.getfield 39, 3) := by decide +kernel
theorem k257_39 (b : Bool) : tb_lk b 257 39 = (1, 10, 20, 0, 0) := by cases b <;> decide +kernel
theorem d257_55 : decode (tb_me 257).1.2.1 55 = .ok (.iload_n 2, 1) := by decide +kernel
theorem d257_56 : decode (tb_me 257).1.2.1 56 = .ok (.iaload, 1) := by decide +kernel
theorem d257_57 : decode (tb_me 257).1.2.1 57 = .ok (.iastore, 1) := by decide +kernel
theorem d257_58 : decode (tb_me 257).1.2.1 58 = .ok (.iinc 2 1, 3) := by decide +kernel
theorem d257_61 : decode (tb_me 257).1.2.1 61 = .ok (.goto (-28), 3) := by decide +kernel
theorem d257_0 : decode (tb_me 257).1.2.1 0 = .ok (.iload_n 1, 1) := by decide +kernel
theorem d257_1 : decode (tb_me 257).1.2.1 1 = .ok (.i2l, 1) := by decide +kernel
theorem d257_2 : decode (tb_me 257).1.2.1 2 = .ok (.lconst 0, 1) := by decide +kernel
theorem d257_3 : decode (tb_me 257).1.2.1 3 = .ok (.ldc2_w 440, 3) := by decide +kernel
theorem k257_440 (b : Bool) : tb_lk b 257 440 = (12, 0, 0, 0, 3) := by cases b <;> decide +kernel
theorem d257_6 : decode (tb_me 257).1.2.1 6 = .ok (.invokestatic 112, 3) := by decide +kernel
theorem k257_112 (b : Bool) : tb_lk b 257 112 = (4, 148, 0, 0, 0) := by cases b <;> decide +kernel
theorem d257_9 : decode (tb_me 257).1.2.1 9 = .ok (.ifCond .ne 5, 3) := by decide +kernel
theorem d257_14 : decode (tb_me 257).1.2.1 14 = .ok (.aload_n 0, 1) := by decide +kernel
theorem d257_15 : decode (tb_me 257).1.2.1 15 = .ok (.getfield 69, 3) := by decide +kernel
theorem k257_69 (b : Bool) : tb_lk b 257 69 = (1, 10, 34, 0, 0) := by cases b <;> decide +kernel
theorem f10_34 : (34 < pm_nf tb_cl 10) ∧ tb_ft 10 34 ≠ .long ∧ pm_isR (tb_ft 10 34) = true := by decide +kernel
theorem d257_18 : decode (tb_me 257).1.2.1 18 = .ok (.iload_n 1, 1) := by decide +kernel
theorem d257_19 : decode (tb_me 257).1.2.1 19 = .ok (.iconst 1, 1) := by decide +kernel
theorem d257_20 : decode (tb_me 257).1.2.1 20 = .ok (.bastore, 1) := by decide +kernel
theorem d257_21 : decode (tb_me 257).1.2.1 21 = .ok (.aload_n 0, 1) := by decide +kernel
theorem d257_22 : decode (tb_me 257).1.2.1 22 = .ok (.getfield 66, 3) := by decide +kernel
theorem k257_66 (b : Bool) : tb_lk b 257 66 = (1, 10, 33, 0, 0) := by cases b <;> decide +kernel
theorem f10_33 : (33 < pm_nf tb_cl 10) ∧ tb_ft 10 33 ≠ .long ∧ pm_isR (tb_ft 10 33) = true := by decide +kernel
theorem d257_25 : decode (tb_me 257).1.2.1 25 = .ok (.iload_n 1, 1) := by decide +kernel
theorem d257_26 : decode (tb_me 257).1.2.1 26 = .ok (.aload_n 0, 1) := by decide +kernel
theorem d257_27 : decode (tb_me 257).1.2.1 27 = .ok (.getfield 416, 3) := by decide +kernel
theorem k257_416 (b : Bool) : tb_lk b 257 416 = (1, 10, 21, 0, 0) := by cases b <;> decide +kernel
theorem d257_30 : decode (tb_me 257).1.2.1 30 = .ok (.iastore, 1) := by decide +kernel
theorem d257_31 : decode (tb_me 257).1.2.1 31 = .ok (.iconst 0, 1) := by decide +kernel
theorem d257_32 : decode (tb_me 257).1.2.1 32 = .ok (.istore_n 2, 1) := by decide +kernel
theorem d257_64 : decode (tb_me 257).1.2.1 64 = .ok (.aload_n 0, 1) := by decide +kernel
theorem d257_65 : decode (tb_me 257).1.2.1 65 = .ok (.getfield 39, 3) := by decide +kernel
theorem d257_68 : decode (tb_me 257).1.2.1 68 = .ok (.iconst 4, 1) := by decide +kernel
theorem d257_69 : decode (tb_me 257).1.2.1 69 = .ok (.iaload, 1) := by decide +kernel
theorem d257_70 : decode (tb_me 257).1.2.1 70 = .ok (.ireturn, 1) := by decide +kernel
theorem t257 : (tb_me 257).1.2.2.2 = some .int := by decide +kernel
theorem d257_12 : decode (tb_me 257).1.2.1 12 = .ok (.iconst (-1), 1) := by decide +kernel
theorem d257_13 : decode (tb_me 257).1.2.1 13 = .ok (.ireturn, 1) := by decide +kernel
theorem e257 : (tb_me 257).2.1 = (0, 0) ∧ (tb_me 257).1.2.2.1 = 3 := by decide +kernel
theorem d258_40 : decode (tb_me 258).1.2.1 40 = .ok (.iload_n 2, 1) := by decide +kernel
theorem d258_41 : decode (tb_me 258).1.2.1 41 = .ok (.sipush 227, 3) := by decide +kernel
theorem d258_44 : decode (tb_me 258).1.2.1 44 = .ok (.if_icmp .ge 27, 3) := by decide +kernel
theorem d258_47 : decode (tb_me 258).1.2.1 47 = .ok (.aload_n 0, 1) := by decide +kernel
theorem d258_48 : decode (tb_me 258).1.2.1 48 = .ok (.getfield 39, 3) := by decide +kernel
theorem k258_39 (b : Bool) : tb_lk b 258 39 = (1, 10, 20, 0, 0) := by cases b <;> decide +kernel
theorem d258_51 : decode (tb_me 258).1.2.1 51 = .ok (.iload_n 2, 1) := by decide +kernel
theorem d258_52 : decode (tb_me 258).1.2.1 52 = .ok (.aload_n 0, 1) := by decide +kernel
theorem d258_53 : decode (tb_me 258).1.2.1 53 = .ok (.getfield 63, 3) := by decide +kernel
theorem k258_63 (b : Bool) : tb_lk b 258 63 = (1, 10, 32, 0, 0) := by cases b <;> decide +kernel
theorem d258_56 : decode (tb_me 258).1.2.1 56 = .ok (.sipush 227, 3) := by decide +kernel
theorem d258_59 : decode (tb_me 258).1.2.1 59 = .ok (.iload_n 1, 1) := by decide +kernel
theorem d258_60 : decode (tb_me 258).1.2.1 60 = .ok (.imul, 1) := by decide +kernel
theorem d258_61 : decode (tb_me 258).1.2.1 61 = .ok (.iload_n 2, 1) := by decide +kernel
theorem d258_62 : decode (tb_me 258).1.2.1 62 = .ok (.iadd, 1) := by decide +kernel
theorem d258_63 : decode (tb_me 258).1.2.1 63 = .ok (.iaload, 1) := by decide +kernel
theorem d258_64 : decode (tb_me 258).1.2.1 64 = .ok (.iastore, 1) := by decide +kernel
theorem d258_65 : decode (tb_me 258).1.2.1 65 = .ok (.iinc 2 1, 3) := by decide +kernel
theorem d258_68 : decode (tb_me 258).1.2.1 68 = .ok (.goto (-28), 3) := by decide +kernel
theorem d258_0 : decode (tb_me 258).1.2.1 0 = .ok (.iload_n 1, 1) := by decide +kernel
theorem d258_1 : decode (tb_me 258).1.2.1 1 = .ok (.i2l, 1) := by decide +kernel
theorem d258_2 : decode (tb_me 258).1.2.1 2 = .ok (.lconst 0, 1) := by decide +kernel
theorem d258_3 : decode (tb_me 258).1.2.1 3 = .ok (.ldc2_w 440, 3) := by decide +kernel
theorem k258_440 (b : Bool) : tb_lk b 258 440 = (12, 0, 0, 0, 3) := by cases b <;> decide +kernel
theorem d258_6 : decode (tb_me 258).1.2.1 6 = .ok (.invokestatic 112, 3) := by decide +kernel
theorem k258_112 (b : Bool) : tb_lk b 258 112 = (4, 148, 0, 0, 0) := by cases b <;> decide +kernel
theorem d258_9 : decode (tb_me 258).1.2.1 9 = .ok (.ifCond .eq 12, 3) := by decide +kernel
theorem d258_21 : decode (tb_me 258).1.2.1 21 = .ok (.iconst (-1), 1) := by decide +kernel
theorem d258_22 : decode (tb_me 258).1.2.1 22 = .ok (.ireturn, 1) := by decide +kernel
theorem t258 : (tb_me 258).1.2.2.2 = some .int := by decide +kernel
theorem d258_12 : decode (tb_me 258).1.2.1 12 = .ok (.aload_n 0, 1) := by decide +kernel
theorem d258_13 : decode (tb_me 258).1.2.1 13 = .ok (.getfield 69, 3) := by decide +kernel
theorem k258_69 (b : Bool) : tb_lk b 258 69 = (1, 10, 34, 0, 0) := by cases b <;> decide +kernel
theorem d258_16 : decode (tb_me 258).1.2.1 16 = .ok (.iload_n 1, 1) := by decide +kernel
theorem d258_17 : decode (tb_me 258).1.2.1 17 = .ok (.baload, 1) := by decide +kernel
theorem d258_18 : decode (tb_me 258).1.2.1 18 = .ok (.ifCond .ne 5, 3) := by decide +kernel
theorem d258_23 : decode (tb_me 258).1.2.1 23 = .ok (.aload_n 0, 1) := by decide +kernel
theorem d258_24 : decode (tb_me 258).1.2.1 24 = .ok (.aload_n 0, 1) := by decide +kernel
theorem d258_25 : decode (tb_me 258).1.2.1 25 = .ok (.getfield 66, 3) := by decide +kernel
theorem k258_66 (b : Bool) : tb_lk b 258 66 = (1, 10, 33, 0, 0) := by cases b <;> decide +kernel
theorem d258_28 : decode (tb_me 258).1.2.1 28 = .ok (.iload_n 1, 1) := by decide +kernel
theorem d258_29 : decode (tb_me 258).1.2.1 29 = .ok (.iaload, 1) := by decide +kernel
theorem d258_30 : decode (tb_me 258).1.2.1 30 = .ok (.putfield 416, 3) := by decide +kernel
theorem k258_416 (b : Bool) : tb_lk b 258 416 = (1, 10, 21, 0, 0) := by cases b <;> decide +kernel
theorem p258_10_21 : (21 < pm_nf tb_cl 10) ∧ tb_ft 10 21 = .int ∧ pm_fin tb_cl (tb_me 258).1.1 10 21 = true := by decide +kernel
theorem d258_33 : decode (tb_me 258).1.2.1 33 = .ok (.aload_n 0, 1) := by decide +kernel
theorem d258_34 : decode (tb_me 258).1.2.1 34 = .ok (.iconst 0, 1) := by decide +kernel
theorem d258_35 : decode (tb_me 258).1.2.1 35 = .ok (.putfield 252, 3) := by decide +kernel
theorem k258_252 (b : Bool) : tb_lk b 258 252 = (1, 10, 28, 0, 0) := by cases b <;> decide +kernel
theorem p258_10_28 : (28 < pm_nf tb_cl 10) ∧ tb_ft 10 28 = .int ∧ pm_fin tb_cl (tb_me 258).1.1 10 28 = true := by decide +kernel
theorem d258_38 : decode (tb_me 258).1.2.1 38 = .ok (.iconst 0, 1) := by decide +kernel
theorem d258_39 : decode (tb_me 258).1.2.1 39 = .ok (.istore_n 2, 1) := by decide +kernel
theorem d258_71 : decode (tb_me 258).1.2.1 71 = .ok (.aload_n 0, 1) := by decide +kernel
theorem d258_72 : decode (tb_me 258).1.2.1 72 = .ok (.getfield 39, 3) := by decide +kernel
theorem d258_75 : decode (tb_me 258).1.2.1 75 = .ok (.iconst 4, 1) := by decide +kernel
theorem d258_76 : decode (tb_me 258).1.2.1 76 = .ok (.iaload, 1) := by decide +kernel
theorem d258_77 : decode (tb_me 258).1.2.1 77 = .ok (.ireturn, 1) := by decide +kernel
theorem e258 : (tb_me 258).2.1 = (0, 0) ∧ (tb_me 258).1.2.2.1 = 3 := by decide +kernel
def E_m_needOf_4 (b : Bool) (L : Nat) (xs : Nat → Int32) (d : Nat) (Q : Option Value → pm_H → Prop) (h : pm_H) (l0 : Nat) (l1 : Int32) : ((Int32 × Int32) ⊕ Int32) → Prop
  | .inl s => PW b L xs d 222 0 0 4 [(Value.ref l0), (Value.int l1), (Value.int s.1), (Value.int s.2)] [] h Q
  | .inr e => ∀ w0 w1 w3 : Value, PW b L xs d 222 0 0 41 [w0, w1, (Value.int e), w3] [] h Q
noncomputable def m_needOf_33 (l0 : Nat) (l1 : Int32) (l3 : Int32) (z0 : Int32) (z1 : Int32) (h : pm_H) : Option ((Int32 × Int32) ⊕ Int32) := some (.inl ((z1 + z0), (l3 + Int32.ofInt 1)))
theorem t_m_needOf_33 (b : Bool) (L : Nat) (xs : Nat → Int32) (d : Nat) (hd : 1 ≤ d) {Q : Option Value → pm_H → Prop} (h : pm_H) (s_h : h.1 = tb_SH) (l0 : Nat) (l1 : Int32) (l3 : Int32) (z0 : Int32) (z1 : Int32) (w2 : Value) (f_l0 : mi_o l0 10 = true) {r : ((Int32 × Int32) ⊕ Int32)} (hm : m_needOf_33 l0 l1 l3 z0 z1 h = some r) (hE : E_m_needOf_4 b L xs d Q h l0 l1 r) : PW b L xs d 222 0 0 33 [(Value.ref l0), (Value.int l1), w2, (Value.int l3)] [(Value.int z0), (Value.int z1)] h Q := by
  rw [m_needOf_33] at hm
  refine pw_s (pc := 33) d222_33 rfl rfl ?_
  refine pw_t (pc := 34) d222_34 rfl rfl rfl rfl ?_
  refine pw_t (pc := 35) d222_35 rfl rfl rfl rfl ?_
  refine pw_go (pc := 38) (t := 4) d222_38 (by decide) ?_
  obtain rfl := Option.some.inj hm
  exact hE   
noncomputable def m_needOf_4 (l0 : Nat) (l1 : Int32) (l2 : Int32) (l3 : Int32) (h : pm_H) : Option ((Int32 × Int32) ⊕ Int32) := (gA h l0 20 .int).bind fun y1 => if mi_in (Int32.ofInt 2) (mi_n y1) = true then if (h.2.1 y1 (Int32.ofInt 2).toNatClampNeg) ≤ l3 then (some (.inr l2)) else ((m_isOf l1 l3 h).bind fun q4 => if q4 = 0 then (m_needOf_33 l0 l1 l3 (Int32.ofInt 0) l2 h) else ((m_orderOf l0 l3 (Int32.ofInt 0) h).bind fun q6 => m_needOf_33 l0 l1 l3 q6 l2 h)) else none
theorem t_m_needOf_4 (b : Bool) (L : Nat) (xs : Nat → Int32) (d : Nat) (hd : 1 ≤ d) {Q : Option Value → pm_H → Prop} (h : pm_H) (s_h : h.1 = tb_SH) (l0 : Nat) (l1 : Int32) (l2 : Int32) (l3 : Int32) (f_l0 : mi_o l0 10 = true) {r : ((Int32 × Int32) ⊕ Int32)} (hm : m_needOf_4 l0 l1 l2 l3 h = some r) (hE : E_m_needOf_4 b L xs d Q h l0 l1 r) : PW b L xs d 222 0 0 4 [(Value.ref l0), (Value.int l1), (Value.int l2), (Value.int l3)] [] h Q := by
  rw [m_needOf_4] at hm
  refine pw_l (pc := 4) d222_4 rfl rfl rfl ?_
  refine pw_l (pc := 5) d222_5 rfl rfl rfl ?_
  obtain ⟨y1, e_y1, hm⟩ := ob_x hm
  have f_y1 := gA_x e_y1
  refine pw_gr (pc := 6) d222_6 (k222_39 b) (sho s_h f_l0) f10_20 f_y1.1 ?_
  refine pw_s (pc := 9) d222_9 rfl rfl ?_
  obtain ⟨g2, hm⟩ := gd_x hm
  refine pw_ai (pc := 10) d222_10 (sha s_h f_y1.2) (mi_in_x g2) ?_
  refine pw_ige (pc := 11) (t := 41) d222_11 (by decide) (fun c3 => ?_) (fun c3 => ?_)
  · rw [if_pos c3] at hm
    obtain rfl := Option.some.inj hm
    exact hE   (Value.ref l0) (Value.int l1) (Value.int l3)
  · rw [if_neg c3] at hm
    refine pw_l (pc := 14) d222_14 rfl rfl rfl ?_
    refine pw_l (pc := 15) d222_15 rfl rfl rfl ?_
    refine pw_l (pc := 16) d222_16 rfl rfl rfl ?_
    obtain ⟨q4, e_q4, hm⟩ := ob_x hm
    refine pw_u (pc := 17) (by omega) d222_17 (k222_318 b) (by decide) m149 (Nat.le_of_ble_eq_true rfl) (Nat.le_of_ble_eq_true rfl) (Nat.le_of_ble_eq_true rfl) rfl rfl (T_m_isOf b L xs (d - 1) (by omega) h s_h l1 l3  e_q4) (fun v0 h0 hq => ?_)
    obtain ⟨rfl, hh0, s_q4⟩ := hq
    rw [hh0] at s_q4 ⊢
    simp only [Option.toList_some, List.cons_append, List.nil_append]
    refine pw_zeq (pc := 20) (t := 32) d222_20 (by decide) (fun c5 => ?_) (fun c5 => ?_)
    · rw [if_pos c5] at hm
      refine pw_s (pc := 32) d222_32 rfl rfl ?_
      exact t_m_needOf_33 b L xs d hd h s_h l0 l1 l3 (Int32.ofInt 0) l2 (Value.int l2) f_l0  hm hE
    · rw [if_neg c5] at hm
      refine pw_l (pc := 23) d222_23 rfl rfl rfl ?_
      refine pw_l (pc := 24) d222_24 rfl rfl rfl ?_
      refine pw_s (pc := 25) d222_25 rfl rfl ?_
      obtain ⟨q6, e_q6, hm⟩ := ob_x hm
      refine pw_v (pc := 26) (k := l0) (by omega) d222_26 (k222_293 b) (by decide) m203 (by decide) rfl (sho s_h f_l0) (Nat.le_of_ble_eq_true rfl) (Nat.le_of_ble_eq_true rfl) rfl rfl (T_m_orderOf b L xs (d - 1) (by omega) h s_h l0 l3 (Int32.ofInt 0) f_l0 e_q6) (fun v0 h0 hq => ?_)
      obtain ⟨rfl, hh0, s_q6⟩ := hq
      rw [hh0] at s_q6 ⊢
      simp only [Option.toList_some, List.cons_append, List.nil_append]
      refine pw_go (pc := 29) (t := 33) d222_29 (by decide) ?_
      exact t_m_needOf_33 b L xs d hd h s_h l0 l1 l3 q6 l2 (Value.int l2) f_l0  hm hE
noncomputable def m_needOf (l0 : Nat) (l1 : Int32) (h : pm_H) : Option Int32 := (wh (fun s : (Int32 × Int32) => m_needOf_4 l0 l1 s.1 s.2 h) ((Int32.ofInt 0), (Int32.ofInt 0))).bind fun q1 => some q1
theorem T_m_needOf (b : Bool) (L : Nat) (xs : Nat → Int32) (d : Nat) (hd : 1 ≤ d) (h : pm_H) (s_h : h.1 = tb_SH) (l0 : Nat) (l1 : Int32) (f_l0 : mi_o l0 10 = true) {r : Int32} (hm : m_needOf l0 l1 h = some r) : PC b L xs d 222 [(Value.ref l0), (Value.int l1)] h (fun (v0 : Option Value) (h2 : pm_H) => v0 = (some (Value.int r)) ∧ h2 = h ∧ h2.1 = tb_SH) := by
  refine pc_in e222 (ls0 := [(Value.ref l0), (Value.int l1), Value.retAddr 0, Value.retAddr 0]) rfl ?_
  have key : ∀ (Q : Option Value → pm_H → Prop), (Q (some (Value.int r)) h) → PW b L xs d 222 0 0 0 [(Value.ref l0), (Value.int l1), Value.retAddr 0, Value.retAddr 0] [] h Q := by
    intro Q hE
    rw [m_needOf] at hm
    refine pw_s (pc := 0) d222_0 rfl rfl ?_
    refine pw_t (pc := 1) d222_1 rfl rfl rfl rfl ?_
    refine pw_s (pc := 2) d222_2 rfl rfl ?_
    refine pw_t (pc := 3) d222_3 rfl rfl rfl rfl ?_
    obtain ⟨q1, e_q1, hm⟩ := ob_x hm
    refine wh_ind e_q1 (fun s : (Int32 × Int32) => PW b L xs d 222 0 0 4 [(Value.ref l0), (Value.int l1), (Value.int s.1), (Value.int s.2)] [] h Q) (fun s s2 hf ih  => t_m_needOf_4 b L xs d hd h s_h l0 l1 s.1 s.2  f_l0 hf ih) (fun s hf  => t_m_needOf_4 b L xs d hd h s_h l0 l1 s.1 s.2  f_l0 hf ?_)   
    intro w0 w1 w3
    refine pw_l (pc := 41) d222_41 rfl rfl rfl ?_
    obtain rfl := Option.some.inj hm
    refine pw_ri (pc := 42) d222_42 t222 rfl ?_
    exact hE
  exact key _ ⟨rfl, rfl, s_h⟩
noncomputable def m_allOrders (l0 : Nat) (h : pm_H) : Option Int32 := (gA h l0 20 .int).bind fun y1 => if mi_in (Int32.ofInt 2) (mi_n y1) = true then some (((Int32.ofInt 1) <<< ((h.2.1 y1 (Int32.ofInt 2).toNatClampNeg) &&& 31)) - (Int32.ofInt 1)) else none
theorem T_m_allOrders (b : Bool) (L : Nat) (xs : Nat → Int32) (d : Nat) (hd : 0 ≤ d) (h : pm_H) (s_h : h.1 = tb_SH) (l0 : Nat) (f_l0 : mi_o l0 10 = true) {r : Int32} (hm : m_allOrders l0 h = some r) : PC b L xs d 223 [(Value.ref l0)] h (fun (v0 : Option Value) (h2 : pm_H) => v0 = (some (Value.int r)) ∧ h2 = h ∧ h2.1 = tb_SH) := by
  refine pc_in e223 (ls0 := [(Value.ref l0)]) rfl ?_
  have key : ∀ (Q : Option Value → pm_H → Prop), (Q (some (Value.int r)) h) → PW b L xs d 223 0 0 0 [(Value.ref l0)] [] h Q := by
    intro Q hE
    rw [m_allOrders] at hm
    refine pw_s (pc := 0) d223_0 rfl rfl ?_
    refine pw_l (pc := 1) d223_1 rfl rfl rfl ?_
    obtain ⟨y1, e_y1, hm⟩ := ob_x hm
    have f_y1 := gA_x e_y1
    refine pw_gr (pc := 2) d223_2 (k223_39 b) (sho s_h f_l0) f10_20 f_y1.1 ?_
    refine pw_s (pc := 5) d223_5 rfl rfl ?_
    obtain ⟨g2, hm⟩ := gd_x hm
    refine pw_ai (pc := 6) d223_6 (sha s_h f_y1.2) (mi_in_x g2) ?_
    refine pw_s (pc := 7) d223_7 rfl rfl ?_
    refine pw_s (pc := 8) d223_8 rfl rfl ?_
    refine pw_s (pc := 9) d223_9 rfl rfl ?_
    obtain rfl := Option.some.inj hm
    refine pw_ri (pc := 10) d223_10 t223 rfl ?_
    exact hE
  exact key _ ⟨rfl, rfl, s_h⟩
def E_m_keepsAct_52 (b : Bool) (L : Nat) (xs : Nat → Int32) (d : Nat) (Q : Option Value → pm_H → Prop) (l0 : Nat) : ((Int32 × pm_H) ⊕ pm_H) → Prop
  | .inl s => s.2.1 = tb_SH → PW b L xs d 224 0 0 52 [(Value.ref l0), (Value.int s.1)] [] s.2 Q
  | .inr e => e.1 = tb_SH → ∀ w1 : Value, PW b L xs d 224 0 0 84 [(Value.ref l0), w1] [] e Q
def E_m_keepsAct_12 (b : Bool) (L : Nat) (xs : Nat → Int32) (d : Nat) (Q : Option Value → pm_H → Prop) (l0 : Nat) : ((Int32 × pm_H) ⊕ pm_H) → Prop
  | .inl s => s.2.1 = tb_SH → PW b L xs d 224 0 0 12 [(Value.ref l0), (Value.int s.1)] [] s.2 Q
  | .inr e => e.1 = tb_SH → ∀ w1 : Value, PW b L xs d 224 0 0 40 [(Value.ref l0), w1] [] e Q
noncomputable def m_keepsAct_52 (l0 : Nat) (l1 : Int32) (h : pm_H) : Option ((Int32 × pm_H) ⊕ pm_H) := if (Int8.ofInt 58).toInt32 ≤ l1 then (some (.inr h)) else ((gA h l0 27 .int).bind fun y2 => (gA h l0 20 .int).bind fun y3 => if mi_in l1 (mi_n y3) = true then if mi_in (((Int8.ofInt 58).toInt32 * (h.2.1 l0 28)) + l1) (mi_n y2) = true then bd (pm_setI h y2 (((Int8.ofInt 58).toInt32 * (h.2.1 l0 28)) + l1).toNatClampNeg (h.2.1 y3 l1.toNatClampNeg)) fun h6 => some (.inl ((l1 + Int32.ofInt 1), h6)) else none else none)
theorem t_m_keepsAct_52 (b : Bool) (L : Nat) (xs : Nat → Int32) (d : Nat) (hd : 0 ≤ d) {Q : Option Value → pm_H → Prop} (h : pm_H) (s_h : h.1 = tb_SH) (l0 : Nat) (l1 : Int32) (f_l0 : mi_o l0 10 = true) {r : ((Int32 × pm_H) ⊕ pm_H)} (hm : m_keepsAct_52 l0 l1 h = some r) (hE : E_m_keepsAct_52 b L xs d Q l0 r) : PW b L xs d 224 0 0 52 [(Value.ref l0), (Value.int l1)] [] h Q := by
  rw [m_keepsAct_52] at hm
  refine pw_l (pc := 52) d224_52 rfl rfl rfl ?_
  refine pw_s (pc := 53) d224_53 rfl rfl ?_
  refine pw_ige (pc := 55) (t := 84) d224_55 (by decide) (fun c1 => ?_) (fun c1 => ?_)
  · rw [if_pos c1] at hm
    obtain rfl := Option.some.inj hm
    exact hE s_h  (Value.int l1)
  · rw [if_neg c1] at hm
    refine pw_l (pc := 58) d224_58 rfl rfl rfl ?_
    obtain ⟨y2, e_y2, hm⟩ := ob_x hm
    have f_y2 := gA_x e_y2
    refine pw_gr (pc := 59) d224_59 (k224_54 b) (sho s_h f_l0) f10_27 f_y2.1 ?_
    refine pw_s (pc := 62) d224_62 rfl rfl ?_
    refine pw_l (pc := 64) d224_64 rfl rfl rfl ?_
    refine pw_gi (pc := 65) d224_65 (k224_252 b) (sho s_h f_l0) f10_28 ?_
    refine pw_s (pc := 68) d224_68 rfl rfl ?_
    refine pw_l (pc := 69) d224_69 rfl rfl rfl ?_
    refine pw_s (pc := 70) d224_70 rfl rfl ?_
    refine pw_l (pc := 71) d224_71 rfl rfl rfl ?_
    obtain ⟨y3, e_y3, hm⟩ := ob_x hm
    have f_y3 := gA_x e_y3
    refine pw_gr (pc := 72) d224_72 (k224_39 b) (sho s_h f_l0) f10_20 f_y3.1 ?_
    refine pw_l (pc := 75) d224_75 rfl rfl rfl ?_
    obtain ⟨g4, hm⟩ := gd_x hm
    refine pw_ai (pc := 76) d224_76 (sha s_h f_y3.2) (mi_in_x g4) ?_
    obtain ⟨g5, hm⟩ := gd_x hm
    refine pw_si (pc := 77) d224_77 (sha s_h f_y2.2) (mi_in_x g5) ?_
    obtain ⟨h6, e_h6, hm⟩ := bd_x hm
    rw [e_h6]
    have s_h6 : h6.1 = tb_SH := by rw [← e_h6]; exact s_h
    refine pw_t (pc := 78) d224_78 rfl rfl rfl rfl ?_
    refine pw_go (pc := 81) (t := 52) d224_81 (by decide) ?_
    obtain rfl := Option.some.inj hm
    exact hE s_h6  
noncomputable def m_keepsAct_50 (l0 : Nat) (h : pm_H) : Option pm_H := (wh (fun s : (Int32 × pm_H) => m_keepsAct_52 l0 s.1 s.2) ((Int32.ofInt 0), h)).bind fun q1 => bd (pm_setI q1 l0 28 ((q1.2.1 l0 28) + (Int32.ofInt 1))) fun h2 => some h2
theorem t_m_keepsAct_50 (b : Bool) (L : Nat) (xs : Nat → Int32) (d : Nat) (hd : 0 ≤ d) {Q : Option Value → pm_H → Prop} (h : pm_H) (s_h : h.1 = tb_SH) (l0 : Nat) (w1 : Value) (f_l0 : mi_o l0 10 = true) {r : pm_H} (hm : m_keepsAct_50 l0 h = some r) (hE : r.1 = tb_SH → Q none r) : PW b L xs d 224 0 0 50 [(Value.ref l0), w1] [] h Q := by
  rw [m_keepsAct_50] at hm
  refine pw_s (pc := 50) d224_50 rfl rfl ?_
  refine pw_t (pc := 51) d224_51 rfl rfl rfl rfl ?_
  obtain ⟨q1, e_q1, hm⟩ := ob_x hm
  refine wh_ind e_q1 (fun s : (Int32 × pm_H) => s.2.1 = tb_SH → PW b L xs d 224 0 0 52 [(Value.ref l0), (Value.int s.1)] [] s.2 Q) (fun s s2 hf ih sx => t_m_keepsAct_52 b L xs d hd s.2 sx l0 s.1  f_l0 hf ih) (fun s hf sx => t_m_keepsAct_52 b L xs d hd s.2 sx l0 s.1  f_l0 hf ?_) s_h  
  intro s_q1_0 w1
  refine pw_l (pc := 84) d224_84 rfl rfl rfl ?_
  refine pw_s (pc := 85) d224_85 rfl rfl ?_
  refine pw_gi (pc := 86) d224_86 (k224_252 b) (sho s_q1_0 f_l0) f10_28 ?_
  refine pw_s (pc := 89) d224_89 rfl rfl ?_
  refine pw_s (pc := 90) d224_90 rfl rfl ?_
  refine pw_pi (pc := 91) d224_91 (k224_252 b) (sho s_q1_0 f_l0) p224_10_28 ?_
  obtain ⟨h2, e_h2, hm⟩ := bd_x hm
  rw [e_h2]
  have s_h2 : h2.1 = tb_SH := by rw [← e_h2]; exact s_q1_0
  obtain rfl := Option.some.inj hm
  refine pw_rv (pc := 94) d224_94 t224 ?_
  exact hE s_h2
noncomputable def m_keepsAct_12 (l0 : Nat) (l1 : Int32) (h : pm_H) : Option ((Int32 × pm_H) ⊕ pm_H) := if (Int16.ofInt 1160).toInt32 ≤ l1 then (some (.inr h)) else ((gA h l0 27 .int).bind fun y2 => (gA h l0 27 .int).bind fun y3 => if mi_in l1 (mi_n y3) = true then if mi_in (l1 - (Int8.ofInt 58).toInt32) (mi_n y2) = true then bd (pm_setI h y2 (l1 - (Int8.ofInt 58).toInt32).toNatClampNeg (h.2.1 y3 l1.toNatClampNeg)) fun h6 => some (.inl ((l1 + Int32.ofInt 1), h6)) else none else none)
theorem t_m_keepsAct_12 (b : Bool) (L : Nat) (xs : Nat → Int32) (d : Nat) (hd : 0 ≤ d) {Q : Option Value → pm_H → Prop} (h : pm_H) (s_h : h.1 = tb_SH) (l0 : Nat) (l1 : Int32) (f_l0 : mi_o l0 10 = true) {r : ((Int32 × pm_H) ⊕ pm_H)} (hm : m_keepsAct_12 l0 l1 h = some r) (hE : E_m_keepsAct_12 b L xs d Q l0 r) : PW b L xs d 224 0 0 12 [(Value.ref l0), (Value.int l1)] [] h Q := by
  rw [m_keepsAct_12] at hm
  refine pw_l (pc := 12) d224_12 rfl rfl rfl ?_
  refine pw_s (pc := 13) d224_13 rfl rfl ?_
  refine pw_ige (pc := 16) (t := 40) d224_16 (by decide) (fun c1 => ?_) (fun c1 => ?_)
  · rw [if_pos c1] at hm
    obtain rfl := Option.some.inj hm
    exact hE s_h  (Value.int l1)
  · rw [if_neg c1] at hm
    refine pw_l (pc := 19) d224_19 rfl rfl rfl ?_
    obtain ⟨y2, e_y2, hm⟩ := ob_x hm
    have f_y2 := gA_x e_y2
    refine pw_gr (pc := 20) d224_20 (k224_54 b) (sho s_h f_l0) f10_27 f_y2.1 ?_
    refine pw_l (pc := 23) d224_23 rfl rfl rfl ?_
    refine pw_s (pc := 24) d224_24 rfl rfl ?_
    refine pw_s (pc := 26) d224_26 rfl rfl ?_
    refine pw_l (pc := 27) d224_27 rfl rfl rfl ?_
    obtain ⟨y3, e_y3, hm⟩ := ob_x hm
    have f_y3 := gA_x e_y3
    refine pw_gr (pc := 28) d224_28 (k224_54 b) (sho s_h f_l0) f10_27 f_y3.1 ?_
    refine pw_l (pc := 31) d224_31 rfl rfl rfl ?_
    obtain ⟨g4, hm⟩ := gd_x hm
    refine pw_ai (pc := 32) d224_32 (sha s_h f_y3.2) (mi_in_x g4) ?_
    obtain ⟨g5, hm⟩ := gd_x hm
    refine pw_si (pc := 33) d224_33 (sha s_h f_y2.2) (mi_in_x g5) ?_
    obtain ⟨h6, e_h6, hm⟩ := bd_x hm
    rw [e_h6]
    have s_h6 : h6.1 = tb_SH := by rw [← e_h6]; exact s_h
    refine pw_t (pc := 34) d224_34 rfl rfl rfl rfl ?_
    refine pw_go (pc := 37) (t := 12) d224_37 (by decide) ?_
    obtain rfl := Option.some.inj hm
    exact hE s_h6  
noncomputable def m_keepsAct (l0 : Nat) (h : pm_H) : Option pm_H := if ¬ (h.2.1 l0 28) = (Int8.ofInt 20).toInt32 then (m_keepsAct_50 l0 h) else ((wh (fun s : (Int32 × pm_H) => m_keepsAct_12 l0 s.1 s.2) ((Int8.ofInt 58).toInt32, h)).bind fun q2 => bd (pm_setI q2 l0 28 ((q2.2.1 l0 28) - (Int32.ofInt 1))) fun h3 => m_keepsAct_50 l0 h3)
theorem T_m_keepsAct (b : Bool) (L : Nat) (xs : Nat → Int32) (d : Nat) (hd : 0 ≤ d) (h : pm_H) (s_h : h.1 = tb_SH) (l0 : Nat) (f_l0 : mi_o l0 10 = true) {r : pm_H} (hm : m_keepsAct l0 h = some r) : PC b L xs d 224 [(Value.ref l0)] h (fun (v0 : Option Value) (h2 : pm_H) => v0 = none ∧ h2 = r ∧ h2.1 = tb_SH) := by
  refine pc_in e224 (ls0 := [(Value.ref l0), Value.retAddr 0]) rfl ?_
  have key : ∀ (Q : Option Value → pm_H → Prop), (r.1 = tb_SH → Q none r) → PW b L xs d 224 0 0 0 [(Value.ref l0), Value.retAddr 0] [] h Q := by
    intro Q hE
    rw [m_keepsAct] at hm
    refine pw_l (pc := 0) d224_0 rfl rfl rfl ?_
    refine pw_gi (pc := 1) d224_1 (k224_252 b) (sho s_h f_l0) f10_28 ?_
    refine pw_s (pc := 4) d224_4 rfl rfl ?_
    refine pw_ine (pc := 6) (t := 50) d224_6 (by decide) (fun c1 => ?_) (fun c1 => ?_)
    · rw [if_pos c1] at hm
      exact t_m_keepsAct_50 b L xs d hd h s_h l0 (Value.retAddr 0) f_l0  hm hE
    · rw [if_neg c1] at hm
      refine pw_s (pc := 9) d224_9 rfl rfl ?_
      refine pw_t (pc := 11) d224_11 rfl rfl rfl rfl ?_
      obtain ⟨q2, e_q2, hm⟩ := ob_x hm
      refine wh_ind e_q2 (fun s : (Int32 × pm_H) => s.2.1 = tb_SH → PW b L xs d 224 0 0 12 [(Value.ref l0), (Value.int s.1)] [] s.2 Q) (fun s s2 hf ih sx => t_m_keepsAct_12 b L xs d hd s.2 sx l0 s.1  f_l0 hf ih) (fun s hf sx => t_m_keepsAct_12 b L xs d hd s.2 sx l0 s.1  f_l0 hf ?_) s_h  
      intro s_q2_0 w1
      refine pw_l (pc := 40) d224_40 rfl rfl rfl ?_
      refine pw_s (pc := 41) d224_41 rfl rfl ?_
      refine pw_gi (pc := 42) d224_42 (k224_252 b) (sho s_q2_0 f_l0) f10_28 ?_
      refine pw_s (pc := 45) d224_45 rfl rfl ?_
      refine pw_s (pc := 46) d224_46 rfl rfl ?_
      refine pw_pi (pc := 47) d224_47 (k224_252 b) (sho s_q2_0 f_l0) p224_10_28 ?_
      obtain ⟨h3, e_h3, hm⟩ := bd_x hm
      rw [e_h3]
      have s_h3 : h3.1 = tb_SH := by rw [← e_h3]; exact s_q2_0
      exact t_m_keepsAct_50 b L xs d hd h3 s_h3 l0 w1 f_l0  hm hE
  exact key _ (fun q => ⟨rfl, rfl, q⟩)
def E_m_undo_21 (b : Bool) (L : Nat) (xs : Nat → Int32) (d : Nat) (Q : Option Value → pm_H → Prop) (l0 : Nat) : ((Int32 × pm_H) ⊕ pm_H) → Prop
  | .inl s => s.2.1 = tb_SH → PW b L xs d 225 0 0 21 [(Value.ref l0), (Value.int s.1)] [] s.2 Q
  | .inr e => e.1 = tb_SH → ∀ w1 : Value, PW b L xs d 225 0 0 53 [(Value.ref l0), w1] [] e Q
noncomputable def m_undo_21 (l0 : Nat) (l1 : Int32) (h : pm_H) : Option ((Int32 × pm_H) ⊕ pm_H) := if (Int8.ofInt 58).toInt32 ≤ l1 then (some (.inr h)) else ((gA h l0 20 .int).bind fun y2 => (gA h l0 27 .int).bind fun y3 => if mi_in (((Int8.ofInt 58).toInt32 * (h.2.1 l0 28)) + l1) (mi_n y3) = true then if mi_in l1 (mi_n y2) = true then bd (pm_setI h y2 l1.toNatClampNeg (h.2.1 y3 (((Int8.ofInt 58).toInt32 * (h.2.1 l0 28)) + l1).toNatClampNeg)) fun h6 => some (.inl ((l1 + Int32.ofInt 1), h6)) else none else none)
theorem t_m_undo_21 (b : Bool) (L : Nat) (xs : Nat → Int32) (d : Nat) (hd : 0 ≤ d) {Q : Option Value → pm_H → Prop} (h : pm_H) (s_h : h.1 = tb_SH) (l0 : Nat) (l1 : Int32) (f_l0 : mi_o l0 10 = true) {r : ((Int32 × pm_H) ⊕ pm_H)} (hm : m_undo_21 l0 l1 h = some r) (hE : E_m_undo_21 b L xs d Q l0 r) : PW b L xs d 225 0 0 21 [(Value.ref l0), (Value.int l1)] [] h Q := by
  rw [m_undo_21] at hm
  refine pw_l (pc := 21) d225_21 rfl rfl rfl ?_
  refine pw_s (pc := 22) d225_22 rfl rfl ?_
  refine pw_ige (pc := 24) (t := 53) d225_24 (by decide) (fun c1 => ?_) (fun c1 => ?_)
  · rw [if_pos c1] at hm
    obtain rfl := Option.some.inj hm
    exact hE s_h  (Value.int l1)
  · rw [if_neg c1] at hm
    refine pw_l (pc := 27) d225_27 rfl rfl rfl ?_
    obtain ⟨y2, e_y2, hm⟩ := ob_x hm
    have f_y2 := gA_x e_y2
    refine pw_gr (pc := 28) d225_28 (k225_39 b) (sho s_h f_l0) f10_20 f_y2.1 ?_
    refine pw_l (pc := 31) d225_31 rfl rfl rfl ?_
    refine pw_l (pc := 32) d225_32 rfl rfl rfl ?_
    obtain ⟨y3, e_y3, hm⟩ := ob_x hm
    have f_y3 := gA_x e_y3
    refine pw_gr (pc := 33) d225_33 (k225_54 b) (sho s_h f_l0) f10_27 f_y3.1 ?_
    refine pw_s (pc := 36) d225_36 rfl rfl ?_
    refine pw_l (pc := 38) d225_38 rfl rfl rfl ?_
    refine pw_gi (pc := 39) d225_39 (k225_252 b) (sho s_h f_l0) f10_28 ?_
    refine pw_s (pc := 42) d225_42 rfl rfl ?_
    refine pw_l (pc := 43) d225_43 rfl rfl rfl ?_
    refine pw_s (pc := 44) d225_44 rfl rfl ?_
    obtain ⟨g4, hm⟩ := gd_x hm
    refine pw_ai (pc := 45) d225_45 (sha s_h f_y3.2) (mi_in_x g4) ?_
    obtain ⟨g5, hm⟩ := gd_x hm
    refine pw_si (pc := 46) d225_46 (sha s_h f_y2.2) (mi_in_x g5) ?_
    obtain ⟨h6, e_h6, hm⟩ := bd_x hm
    rw [e_h6]
    have s_h6 : h6.1 = tb_SH := by rw [← e_h6]; exact s_h
    refine pw_t (pc := 47) d225_47 rfl rfl rfl rfl ?_
    refine pw_go (pc := 50) (t := 21) d225_50 (by decide) ?_
    obtain rfl := Option.some.inj hm
    exact hE s_h6  
noncomputable def m_undo (l0 : Nat) (h : pm_H) : Option (Int32 × pm_H) := if ¬ (h.2.1 l0 28) = 0 then (bd (pm_setI h l0 28 ((h.2.1 l0 28) - (Int32.ofInt 1))) fun h2 => (wh (fun s : (Int32 × pm_H) => m_undo_21 l0 s.1 s.2) ((Int32.ofInt 0), h2)).bind fun q3 => some ((q3.2.1 l0 28), q3)) else (some ((Int32.ofInt (-1)), h))
theorem T_m_undo (b : Bool) (L : Nat) (xs : Nat → Int32) (d : Nat) (hd : 0 ≤ d) (h : pm_H) (s_h : h.1 = tb_SH) (l0 : Nat) (f_l0 : mi_o l0 10 = true) {r : (Int32 × pm_H)} (hm : m_undo l0 h = some r) : PC b L xs d 225 [(Value.ref l0)] h (fun (v0 : Option Value) (h2 : pm_H) => v0 = (some (Value.int r.1)) ∧ h2 = r.2 ∧ h2.1 = tb_SH) := by
  refine pc_in e225 (ls0 := [(Value.ref l0), Value.retAddr 0]) rfl ?_
  have key : ∀ (Q : Option Value → pm_H → Prop), (r.2.1 = tb_SH → Q (some (Value.int r.1)) r.2) → PW b L xs d 225 0 0 0 [(Value.ref l0), Value.retAddr 0] [] h Q := by
    intro Q hE
    rw [m_undo] at hm
    refine pw_l (pc := 0) d225_0 rfl rfl rfl ?_
    refine pw_gi (pc := 1) d225_1 (k225_252 b) (sho s_h f_l0) f10_28 ?_
    refine pw_zne (pc := 4) (t := 9) d225_4 (by decide) (fun c1 => ?_) (fun c1 => ?_)
    · rw [if_pos c1] at hm
      refine pw_l (pc := 9) d225_9 rfl rfl rfl ?_
      refine pw_s (pc := 10) d225_10 rfl rfl ?_
      refine pw_gi (pc := 11) d225_11 (k225_252 b) (sho s_h f_l0) f10_28 ?_
      refine pw_s (pc := 14) d225_14 rfl rfl ?_
      refine pw_s (pc := 15) d225_15 rfl rfl ?_
      refine pw_pi (pc := 16) d225_16 (k225_252 b) (sho s_h f_l0) p225_10_28 ?_
      obtain ⟨h2, e_h2, hm⟩ := bd_x hm
      rw [e_h2]
      have s_h2 : h2.1 = tb_SH := by rw [← e_h2]; exact s_h
      refine pw_s (pc := 19) d225_19 rfl rfl ?_
      refine pw_t (pc := 20) d225_20 rfl rfl rfl rfl ?_
      obtain ⟨q3, e_q3, hm⟩ := ob_x hm
      refine wh_ind e_q3 (fun s : (Int32 × pm_H) => s.2.1 = tb_SH → PW b L xs d 225 0 0 21 [(Value.ref l0), (Value.int s.1)] [] s.2 Q) (fun s s2 hf ih sx => t_m_undo_21 b L xs d hd s.2 sx l0 s.1  f_l0 hf ih) (fun s hf sx => t_m_undo_21 b L xs d hd s.2 sx l0 s.1  f_l0 hf ?_) s_h2  
      intro s_q3_0 w1
      refine pw_l (pc := 53) d225_53 rfl rfl rfl ?_
      refine pw_gi (pc := 54) d225_54 (k225_252 b) (sho s_q3_0 f_l0) f10_28 ?_
      obtain rfl := Option.some.inj hm
      refine pw_ri (pc := 57) d225_57 t225 rfl ?_
      exact hE s_q3_0
    · rw [if_neg c1] at hm
      refine pw_s (pc := 7) d225_7 rfl rfl ?_
      obtain rfl := Option.some.inj hm
      refine pw_ri (pc := 8) d225_8 t225 rfl ?_
      exact hE s_h
  exact key _ (fun q => ⟨rfl, rfl, q⟩)
def E_m_say_13 (b : Bool) (L : Nat) (xs : Nat → Int32) (d : Nat) (Q : Option Value → pm_H → Prop) (l0 : Nat) (l1 : Int32) (l2 : Int32) : ((Int32 × pm_H) ⊕ pm_H ⊕ pm_H) → Prop
  | .inl s => s.2.1 = tb_SH → PW b L xs d 226 0 0 13 [(Value.ref l0), (Value.int l1), (Value.int l2), (Value.int s.1)] [] s.2 Q
  | .inr (.inl e) => e.1 = tb_SH → ∀ w0 w1 w2 w3 : Value, PW b L xs d 226 0 0 43 [w0, w1, w2, w3] [] e Q
  | .inr (.inr e) => e.1 = tb_SH → ∀ w1 w3 : Value, PW b L xs d 226 0 0 51 [(Value.ref l0), w1, (Value.int l2), w3] [] e Q
noncomputable def m_say_13 (l0 : Nat) (l1 : Int32) (l2 : Int32) (l3 : Int32) (h : pm_H) : Option ((Int32 × pm_H) ⊕ pm_H ⊕ pm_H) := if l2 ≤ l3 then (some (.inr (.inr h))) else ((gA h l0 24 .int).bind fun y2 => (m_digit l1 l2 l3 h).bind fun q3 => if mi_in l3 (mi_n y2) = true then bd (pm_setI h y2 l3.toNatClampNeg q3) fun h5 => (gA h5 l0 24 .int).bind fun y6 => if mi_in l3 (mi_n y6) = true then (m_isHeard l0 (h5.2.1 y6 l3.toNatClampNeg) h5).bind fun q8 => if ¬ q8 = 0 then (some (.inl ((l3 + Int32.ofInt 1), h5))) else (some (.inr (.inl h5))) else none else none)
theorem t_m_say_13 (b : Bool) (L : Nat) (xs : Nat → Int32) (d : Nat) (hd : 4 ≤ d) {Q : Option Value → pm_H → Prop} (h : pm_H) (s_h : h.1 = tb_SH) (l0 : Nat) (l1 : Int32) (l2 : Int32) (l3 : Int32) (f_l0 : mi_o l0 10 = true) {r : ((Int32 × pm_H) ⊕ pm_H ⊕ pm_H)} (hm : m_say_13 l0 l1 l2 l3 h = some r) (hE : E_m_say_13 b L xs d Q l0 l1 l2 r) : PW b L xs d 226 0 0 13 [(Value.ref l0), (Value.int l1), (Value.int l2), (Value.int l3)] [] h Q := by
  rw [m_say_13] at hm
  refine pw_l (pc := 13) d226_13 rfl rfl rfl ?_
  refine pw_l (pc := 14) d226_14 rfl rfl rfl ?_
  refine pw_ige (pc := 15) (t := 51) d226_15 (by decide) (fun c1 => ?_) (fun c1 => ?_)
  · rw [if_pos c1] at hm
    obtain rfl := Option.some.inj hm
    exact hE s_h  (Value.int l1) (Value.int l3)
  · rw [if_neg c1] at hm
    refine pw_l (pc := 18) d226_18 rfl rfl rfl ?_
    obtain ⟨y2, e_y2, hm⟩ := ob_x hm
    have f_y2 := gA_x e_y2
    refine pw_gr (pc := 19) d226_19 (k226_45 b) (sho s_h f_l0) f10_24 f_y2.1 ?_
    refine pw_l (pc := 22) d226_22 rfl rfl rfl ?_
    refine pw_l (pc := 23) d226_23 rfl rfl rfl ?_
    refine pw_l (pc := 24) d226_24 rfl rfl rfl ?_
    refine pw_l (pc := 25) d226_25 rfl rfl rfl ?_
    obtain ⟨q3, e_q3, hm⟩ := ob_x hm
    refine pw_u (pc := 26) (by omega) d226_26 (k226_311 b) (by decide) m211 (Nat.le_of_ble_eq_true rfl) (Nat.le_of_ble_eq_true rfl) (Nat.le_of_ble_eq_true rfl) rfl rfl (T_m_digit b L xs (d - 1) (by omega) h s_h l1 l2 l3  e_q3) (fun v0 h0 hq => ?_)
    obtain ⟨rfl, hh0, s_q3⟩ := hq
    rw [hh0] at s_q3 ⊢
    simp only [Option.toList_some, List.cons_append, List.nil_append]
    obtain ⟨g4, hm⟩ := gd_x hm
    refine pw_si (pc := 29) d226_29 (sha s_h f_y2.2) (mi_in_x g4) ?_
    obtain ⟨h5, e_h5, hm⟩ := bd_x hm
    rw [e_h5]
    have s_h5 : h5.1 = tb_SH := by rw [← e_h5]; exact s_h
    refine pw_l (pc := 30) d226_30 rfl rfl rfl ?_
    refine pw_l (pc := 31) d226_31 rfl rfl rfl ?_
    obtain ⟨y6, e_y6, hm⟩ := ob_x hm
    have f_y6 := gA_x e_y6
    refine pw_gr (pc := 32) d226_32 (k226_45 b) (sho s_h5 f_l0) f10_24 f_y6.1 ?_
    refine pw_l (pc := 35) d226_35 rfl rfl rfl ?_
    obtain ⟨g7, hm⟩ := gd_x hm
    refine pw_ai (pc := 36) d226_36 (sha s_h5 f_y6.2) (mi_in_x g7) ?_
    obtain ⟨q8, e_q8, hm⟩ := ob_x hm
    refine pw_v (pc := 37) (k := l0) (by omega) d226_37 (k226_283 b) (by decide) m199 (by decide) rfl (sho s_h5 f_l0) (Nat.le_of_ble_eq_true rfl) (Nat.le_of_ble_eq_true rfl) rfl rfl (T_m_isHeard b L xs (d - 1) (by omega) h5 s_h5 l0 (h5.2.1 y6 l3.toNatClampNeg) f_l0 e_q8) (fun v0 h0 hq => ?_)
    obtain ⟨rfl, hh0, s_q8⟩ := hq
    rw [hh0] at s_q8 ⊢
    simp only [Option.toList_some, List.cons_append, List.nil_append]
    refine pw_zne (pc := 40) (t := 45) d226_40 (by decide) (fun c9 => ?_) (fun c9 => ?_)
    · rw [if_pos c9] at hm
      refine pw_t (pc := 45) d226_45 rfl rfl rfl rfl ?_
      refine pw_go (pc := 48) (t := 13) d226_48 (by decide) ?_
      obtain rfl := Option.some.inj hm
      exact hE s_h5  
    · rw [if_neg c9] at hm
      obtain rfl := Option.some.inj hm
      exact hE s_h5  (Value.ref l0) (Value.int l1) (Value.int l2) (Value.int l3)
noncomputable def m_say (l0 : Nat) (l1 : Int32) (l2 : Int32) (h : pm_H) : Option (Int32 × pm_H) := (m_areMen l0 l1 l2 h).bind fun q1 => if ¬ q1 = 0 then ((wh (fun s : (Int32 × pm_H) => m_say_13 l0 l1 l2 s.1 s.2) ((Int32.ofInt 0), h)).bind fun q3 => (match q3 with | (.inl eq3_0) => some ((Int32.ofInt (-1)), eq3_0) | (.inr eq3_1) => (m_keepsAct l0 eq3_1).bind fun q4 => (m_saysRow l0 l2 q4).bind fun q5 => if 0 ≤ q5.1 then (some (q5.1, q5.2)) else (some ((Int8.ofInt (-2)).toInt32, q5.2)))) else (some ((Int32.ofInt (-1)), h))
theorem T_m_say (b : Bool) (L : Nat) (xs : Nat → Int32) (d : Nat) (hd : 4 ≤ d) (h : pm_H) (s_h : h.1 = tb_SH) (l0 : Nat) (l1 : Int32) (l2 : Int32) (f_l0 : mi_o l0 10 = true) {r : (Int32 × pm_H)} (hm : m_say l0 l1 l2 h = some r) : PC b L xs d 226 [(Value.ref l0), (Value.int l1), (Value.int l2)] h (fun (v0 : Option Value) (h2 : pm_H) => v0 = (some (Value.int r.1)) ∧ h2 = r.2 ∧ h2.1 = tb_SH) := by
  refine pc_in e226 (ls0 := [(Value.ref l0), (Value.int l1), (Value.int l2), Value.retAddr 0]) rfl ?_
  have key : ∀ (Q : Option Value → pm_H → Prop), (r.2.1 = tb_SH → Q (some (Value.int r.1)) r.2) → PW b L xs d 226 0 0 0 [(Value.ref l0), (Value.int l1), (Value.int l2), Value.retAddr 0] [] h Q := by
    intro Q hE
    rw [m_say] at hm
    refine pw_l (pc := 0) d226_0 rfl rfl rfl ?_
    refine pw_l (pc := 1) d226_1 rfl rfl rfl ?_
    refine pw_l (pc := 2) d226_2 rfl rfl rfl ?_
    obtain ⟨q1, e_q1, hm⟩ := ob_x hm
    refine pw_v (pc := 3) (k := l0) (by omega) d226_3 (k226_345 b) (by decide) m214 (by decide) rfl (sho s_h f_l0) (Nat.le_of_ble_eq_true rfl) (Nat.le_of_ble_eq_true rfl) rfl rfl (T_m_areMen b L xs (d - 1) (by omega) h s_h l0 l1 l2 f_l0 e_q1) (fun v0 h0 hq => ?_)
    obtain ⟨rfl, hh0, s_q1⟩ := hq
    rw [hh0] at s_q1 ⊢
    simp only [Option.toList_some, List.cons_append, List.nil_append]
    refine pw_zne (pc := 6) (t := 11) d226_6 (by decide) (fun c2 => ?_) (fun c2 => ?_)
    · rw [if_pos c2] at hm
      refine pw_s (pc := 11) d226_11 rfl rfl ?_
      refine pw_t (pc := 12) d226_12 rfl rfl rfl rfl ?_
      obtain ⟨q3, e_q3, hm⟩ := ob_x hm
      refine wh_ind e_q3 (fun s : (Int32 × pm_H) => s.2.1 = tb_SH → PW b L xs d 226 0 0 13 [(Value.ref l0), (Value.int l1), (Value.int l2), (Value.int s.1)] [] s.2 Q) (fun s s2 hf ih sx => t_m_say_13 b L xs d hd s.2 sx l0 l1 l2 s.1  f_l0 hf ih) (fun s hf sx => t_m_say_13 b L xs d hd s.2 sx l0 l1 l2 s.1  f_l0 hf ?_) s_h  
      rcases q3 with eq3_0 | eq3_1
      · dsimp only at hm
        intro s_q3_0 w0 w1 w2 w3
        refine pw_s (pc := 43) d226_43 rfl rfl ?_
        obtain rfl := Option.some.inj hm
        refine pw_ri (pc := 44) d226_44 t226 rfl ?_
        exact hE s_q3_0
      · dsimp only at hm
        intro s_q3_1 w1 w3
        refine pw_l (pc := 51) d226_51 rfl rfl rfl ?_
        obtain ⟨q4, e_q4, hm⟩ := ob_x hm
        refine pw_v (pc := 52) (k := l0) (by omega) d226_52 (k226_348 b) (by decide) m224 (by decide) rfl (sho s_q3_1 f_l0) (Nat.le_of_ble_eq_true rfl) (Nat.le_of_ble_eq_true rfl) rfl rfl (T_m_keepsAct b L xs (d - 1) (by omega) eq3_1 s_q3_1 l0 f_l0 e_q4) (fun v0 h0 hq => ?_)
        obtain ⟨rfl, hh0, s_q4⟩ := hq
        rw [hh0] at s_q4 ⊢
        simp only [Option.toList_none, List.nil_append]
        refine pw_l (pc := 55) d226_55 rfl rfl rfl ?_
        refine pw_l (pc := 56) d226_56 rfl rfl rfl ?_
        obtain ⟨q5, e_q5, hm⟩ := ob_x hm
        refine pw_v (pc := 57) (k := l0) (by omega) d226_57 (k226_333 b) (by decide) m216 (by decide) rfl (sho s_q4 f_l0) (Nat.le_of_ble_eq_true rfl) (Nat.le_of_ble_eq_true rfl) rfl rfl (T_m_saysRow b L xs (d - 1) (by omega) q4 s_q4 l0 l2 f_l0 e_q5) (fun v0 h0 hq => ?_)
        obtain ⟨rfl, hh0, s_q5⟩ := hq
        rw [hh0] at s_q5 ⊢
        simp only [Option.toList_some, List.cons_append, List.nil_append]
        refine pw_t (pc := 60) d226_60 rfl rfl rfl rfl ?_
        refine pw_l (pc := 61) d226_61 rfl rfl rfl ?_
        refine pw_zge (pc := 62) (t := 70) d226_62 (by decide) (fun c6 => ?_) (fun c6 => ?_)
        · rw [if_pos c6] at hm
          refine pw_l (pc := 70) d226_70 rfl rfl rfl ?_
          obtain rfl := Option.some.inj hm
          refine pw_ri (pc := 71) d226_71 t226 rfl ?_
          exact hE s_q5
        · rw [if_neg c6] at hm
          refine pw_s (pc := 65) d226_65 rfl rfl ?_
          refine pw_go (pc := 67) (t := 71) d226_67 (by decide) ?_
          obtain rfl := Option.some.inj hm
          refine pw_ri (pc := 71) d226_71 t226 rfl ?_
          exact hE s_q5
    · rw [if_neg c2] at hm
      refine pw_s (pc := 9) d226_9 rfl rfl ?_
      obtain rfl := Option.some.inj hm
      refine pw_ri (pc := 10) d226_10 t226 rfl ?_
      exact hE s_h
  exact key _ (fun q => ⟨rfl, rfl, q⟩)
def E_m_passes_2 (b : Bool) (L : Nat) (xs : Nat → Int32) (d : Nat) (Q : Option Value → pm_H → Prop) (l0 : Nat) : ((Int32 × pm_H) ⊕ pm_H) → Prop
  | .inl s => s.2.1 = tb_SH → ∀ w2 : Value, PW b L xs d 227 0 0 2 [(Value.ref l0), (Value.int s.1), w2] [] s.2 Q
  | .inr e => e.1 = tb_SH → ∀ w1 w2 : Value, PW b L xs d 227 0 0 83 [(Value.ref l0), w1, w2] [] e Q
noncomputable def m_passes_76 (l0 : Nat) (l1 : Int32) (z0 : Int32) (z1 : Int32) (z2 : Nat) (h : pm_H) : Option ((Int32 × pm_H) ⊕ pm_H) := if mi_in z1 (mi_n z2) = true then bd (pm_setI h z2 z1.toNatClampNeg z0) fun h2 => some (.inl ((l1 + Int32.ofInt 1), h2)) else none
theorem t_m_passes_76 (b : Bool) (L : Nat) (xs : Nat → Int32) (d : Nat) (hd : 0 ≤ d) {Q : Option Value → pm_H → Prop} (h : pm_H) (s_h : h.1 = tb_SH) (l0 : Nat) (l1 : Int32) (z0 : Int32) (z1 : Int32) (z2 : Nat) (w2 : Value) (f_l0 : mi_o l0 10 = true) (f_z2 : mi_a z2 .int = true) {r : ((Int32 × pm_H) ⊕ pm_H)} (hm : m_passes_76 l0 l1 z0 z1 z2 h = some r) (hE : E_m_passes_2 b L xs d Q l0 r) : PW b L xs d 227 0 0 76 [(Value.ref l0), (Value.int l1), w2] [(Value.int z0), (Value.int z1), (Value.ref z2)] h Q := by
  rw [m_passes_76] at hm
  obtain ⟨g1, hm⟩ := gd_x hm
  refine pw_si (pc := 76) d227_76 (sha s_h f_z2) (mi_in_x g1) ?_
  obtain ⟨h2, e_h2, hm⟩ := bd_x hm
  rw [e_h2]
  have s_h2 : h2.1 = tb_SH := by rw [← e_h2]; exact s_h
  refine pw_t (pc := 77) d227_77 rfl rfl rfl rfl ?_
  refine pw_go (pc := 80) (t := 2) d227_80 (by decide) ?_
  obtain rfl := Option.some.inj hm
  exact hE s_h2  w2
noncomputable def m_passes_43 (l0 : Nat) (l1 : Int32) (l2 : Int32) (h : pm_H) : Option ((Int32 × pm_H) ⊕ pm_H) := (gA h l0 20 .int).bind fun y1 => (gA h l0 20 .int).bind fun y2 => if mi_in (l2 + (Int32.ofInt 2)) (mi_n y2) = true then if ¬ (h.2.1 y2 (l2 + (Int32.ofInt 2)).toNatClampNeg) = (Int32.ofInt 1) then (m_passes_76 l0 l1 (Int32.ofInt 0) (l2 + (Int32.ofInt 5)) y1 h) else ((gA h l0 20 .int).bind fun y5 => if mi_in (l2 + (Int32.ofInt 5)) (mi_n y5) = true then m_passes_76 l0 l1 ((h.2.1 y5 (l2 + (Int32.ofInt 5)).toNatClampNeg) + (Int32.ofInt 1)) (l2 + (Int32.ofInt 5)) y1 h else none) else none
theorem t_m_passes_43 (b : Bool) (L : Nat) (xs : Nat → Int32) (d : Nat) (hd : 0 ≤ d) {Q : Option Value → pm_H → Prop} (h : pm_H) (s_h : h.1 = tb_SH) (l0 : Nat) (l1 : Int32) (l2 : Int32) (f_l0 : mi_o l0 10 = true) {r : ((Int32 × pm_H) ⊕ pm_H)} (hm : m_passes_43 l0 l1 l2 h = some r) (hE : E_m_passes_2 b L xs d Q l0 r) : PW b L xs d 227 0 0 43 [(Value.ref l0), (Value.int l1), (Value.int l2)] [] h Q := by
  rw [m_passes_43] at hm
  refine pw_l (pc := 43) d227_43 rfl rfl rfl ?_
  obtain ⟨y1, e_y1, hm⟩ := ob_x hm
  have f_y1 := gA_x e_y1
  refine pw_gr (pc := 44) d227_44 (k227_39 b) (sho s_h f_l0) f10_20 f_y1.1 ?_
  refine pw_l (pc := 47) d227_47 rfl rfl rfl ?_
  refine pw_s (pc := 48) d227_48 rfl rfl ?_
  refine pw_s (pc := 49) d227_49 rfl rfl ?_
  refine pw_l (pc := 50) d227_50 rfl rfl rfl ?_
  obtain ⟨y2, e_y2, hm⟩ := ob_x hm
  have f_y2 := gA_x e_y2
  refine pw_gr (pc := 51) d227_51 (k227_39 b) (sho s_h f_l0) f10_20 f_y2.1 ?_
  refine pw_l (pc := 54) d227_54 rfl rfl rfl ?_
  refine pw_s (pc := 55) d227_55 rfl rfl ?_
  refine pw_s (pc := 56) d227_56 rfl rfl ?_
  obtain ⟨g3, hm⟩ := gd_x hm
  refine pw_ai (pc := 57) d227_57 (sha s_h f_y2.2) (mi_in_x g3) ?_
  refine pw_s (pc := 58) d227_58 rfl rfl ?_
  refine pw_ine (pc := 59) (t := 75) d227_59 (by decide) (fun c4 => ?_) (fun c4 => ?_)
  · rw [if_pos c4] at hm
    refine pw_s (pc := 75) d227_75 rfl rfl ?_
    exact t_m_passes_76 b L xs d hd h s_h l0 l1 (Int32.ofInt 0) (l2 + (Int32.ofInt 5)) y1 (Value.int l2) f_l0 f_y1.2 hm hE
  · rw [if_neg c4] at hm
    refine pw_l (pc := 62) d227_62 rfl rfl rfl ?_
    obtain ⟨y5, e_y5, hm⟩ := ob_x hm
    have f_y5 := gA_x e_y5
    refine pw_gr (pc := 63) d227_63 (k227_39 b) (sho s_h f_l0) f10_20 f_y5.1 ?_
    refine pw_l (pc := 66) d227_66 rfl rfl rfl ?_
    refine pw_s (pc := 67) d227_67 rfl rfl ?_
    refine pw_s (pc := 68) d227_68 rfl rfl ?_
    obtain ⟨g6, hm⟩ := gd_x hm
    refine pw_ai (pc := 69) d227_69 (sha s_h f_y5.2) (mi_in_x g6) ?_
    refine pw_s (pc := 70) d227_70 rfl rfl ?_
    refine pw_s (pc := 71) d227_71 rfl rfl ?_
    refine pw_go (pc := 72) (t := 76) d227_72 (by decide) ?_
    exact t_m_passes_76 b L xs d hd h s_h l0 l1 ((h.2.1 y5 (l2 + (Int32.ofInt 5)).toNatClampNeg) + (Int32.ofInt 1)) (l2 + (Int32.ofInt 5)) y1 (Value.int l2) f_l0 f_y1.2 hm hE
noncomputable def m_passes_2 (l0 : Nat) (l1 : Int32) (h : pm_H) : Option ((Int32 × pm_H) ⊕ pm_H) := (gA h l0 20 .int).bind fun y1 => if mi_in (Int32.ofInt 1) (mi_n y1) = true then if (h.2.1 y1 (Int32.ofInt 1).toNatClampNeg) ≤ l1 then (some (.inr h)) else ((gA h l0 20 .int).bind fun y4 => if mi_in (((Int8.ofInt 10).toInt32 + ((Int8.ofInt 6).toInt32 * l1)) + (Int32.ofInt 3)) (mi_n y4) = true then if (h.2.1 y4 (((Int8.ofInt 10).toInt32 + ((Int8.ofInt 6).toInt32 * l1)) + (Int32.ofInt 3)).toNatClampNeg) ≤ 0 then (m_passes_43 l0 l1 ((Int8.ofInt 10).toInt32 + ((Int8.ofInt 6).toInt32 * l1)) h) else ((gA h l0 20 .int).bind fun y7 => if mi_in (((Int8.ofInt 10).toInt32 + ((Int8.ofInt 6).toInt32 * l1)) + (Int32.ofInt 3)) (mi_n y7) = true then if mi_in (((Int8.ofInt 10).toInt32 + ((Int8.ofInt 6).toInt32 * l1)) + (Int32.ofInt 3)) (mi_n y7) = true then bd (pm_setI h y7 (((Int8.ofInt 10).toInt32 + ((Int8.ofInt 6).toInt32 * l1)) + (Int32.ofInt 3)).toNatClampNeg ((h.2.1 y7 (((Int8.ofInt 10).toInt32 + ((Int8.ofInt 6).toInt32 * l1)) + (Int32.ofInt 3)).toNatClampNeg) - (Int32.ofInt 1))) fun h10 => m_passes_43 l0 l1 ((Int8.ofInt 10).toInt32 + ((Int8.ofInt 6).toInt32 * l1)) h10 else none else none) else none) else none
theorem t_m_passes_2 (b : Bool) (L : Nat) (xs : Nat → Int32) (d : Nat) (hd : 0 ≤ d) {Q : Option Value → pm_H → Prop} (h : pm_H) (s_h : h.1 = tb_SH) (l0 : Nat) (l1 : Int32) (w2 : Value) (f_l0 : mi_o l0 10 = true) {r : ((Int32 × pm_H) ⊕ pm_H)} (hm : m_passes_2 l0 l1 h = some r) (hE : E_m_passes_2 b L xs d Q l0 r) : PW b L xs d 227 0 0 2 [(Value.ref l0), (Value.int l1), w2] [] h Q := by
  rw [m_passes_2] at hm
  refine pw_l (pc := 2) d227_2 rfl rfl rfl ?_
  refine pw_l (pc := 3) d227_3 rfl rfl rfl ?_
  obtain ⟨y1, e_y1, hm⟩ := ob_x hm
  have f_y1 := gA_x e_y1
  refine pw_gr (pc := 4) d227_4 (k227_39 b) (sho s_h f_l0) f10_20 f_y1.1 ?_
  refine pw_s (pc := 7) d227_7 rfl rfl ?_
  obtain ⟨g2, hm⟩ := gd_x hm
  refine pw_ai (pc := 8) d227_8 (sha s_h f_y1.2) (mi_in_x g2) ?_
  refine pw_ige (pc := 9) (t := 83) d227_9 (by decide) (fun c3 => ?_) (fun c3 => ?_)
  · rw [if_pos c3] at hm
    obtain rfl := Option.some.inj hm
    exact hE s_h  (Value.int l1) w2
  · rw [if_neg c3] at hm
    refine pw_s (pc := 12) d227_12 rfl rfl ?_
    refine pw_s (pc := 14) d227_14 rfl rfl ?_
    refine pw_l (pc := 16) d227_16 rfl rfl rfl ?_
    refine pw_s (pc := 17) d227_17 rfl rfl ?_
    refine pw_s (pc := 18) d227_18 rfl rfl ?_
    refine pw_t (pc := 19) d227_19 rfl rfl rfl rfl ?_
    refine pw_l (pc := 20) d227_20 rfl rfl rfl ?_
    obtain ⟨y4, e_y4, hm⟩ := ob_x hm
    have f_y4 := gA_x e_y4
    refine pw_gr (pc := 21) d227_21 (k227_39 b) (sho s_h f_l0) f10_20 f_y4.1 ?_
    refine pw_l (pc := 24) d227_24 rfl rfl rfl ?_
    refine pw_s (pc := 25) d227_25 rfl rfl ?_
    refine pw_s (pc := 26) d227_26 rfl rfl ?_
    obtain ⟨g5, hm⟩ := gd_x hm
    refine pw_ai (pc := 27) d227_27 (sha s_h f_y4.2) (mi_in_x g5) ?_
    refine pw_zle (pc := 28) (t := 43) d227_28 (by decide) (fun c6 => ?_) (fun c6 => ?_)
    · rw [if_pos c6] at hm
      exact t_m_passes_43 b L xs d hd h s_h l0 l1 ((Int8.ofInt 10).toInt32 + ((Int8.ofInt 6).toInt32 * l1))  f_l0  hm hE
    · rw [if_neg c6] at hm
      refine pw_l (pc := 31) d227_31 rfl rfl rfl ?_
      obtain ⟨y7, e_y7, hm⟩ := ob_x hm
      have f_y7 := gA_x e_y7
      refine pw_gr (pc := 32) d227_32 (k227_39 b) (sho s_h f_l0) f10_20 f_y7.1 ?_
      refine pw_l (pc := 35) d227_35 rfl rfl rfl ?_
      refine pw_s (pc := 36) d227_36 rfl rfl ?_
      refine pw_s (pc := 37) d227_37 rfl rfl ?_
      refine pw_s (pc := 38) d227_38 rfl rfl ?_
      obtain ⟨g8, hm⟩ := gd_x hm
      refine pw_ai (pc := 39) d227_39 (sha s_h f_y7.2) (mi_in_x g8) ?_
      refine pw_s (pc := 40) d227_40 rfl rfl ?_
      refine pw_s (pc := 41) d227_41 rfl rfl ?_
      obtain ⟨g9, hm⟩ := gd_x hm
      refine pw_si (pc := 42) d227_42 (sha s_h f_y7.2) (mi_in_x g9) ?_
      obtain ⟨h10, e_h10, hm⟩ := bd_x hm
      rw [e_h10]
      have s_h10 : h10.1 = tb_SH := by rw [← e_h10]; exact s_h
      exact t_m_passes_43 b L xs d hd h10 s_h10 l0 l1 ((Int8.ofInt 10).toInt32 + ((Int8.ofInt 6).toInt32 * l1))  f_l0  hm hE
noncomputable def m_passes (l0 : Nat) (h : pm_H) : Option pm_H := (wh (fun s : (Int32 × pm_H) => m_passes_2 l0 s.1 s.2) ((Int32.ofInt 0), h)).bind fun q1 => (gA q1 l0 20 .int).bind fun y2 => if mi_in (Int32.ofInt 4) (mi_n y2) = true then if mi_in (Int32.ofInt 4) (mi_n y2) = true then bd (pm_setI q1 y2 (Int32.ofInt 4).toNatClampNeg ((q1.2.1 y2 (Int32.ofInt 4).toNatClampNeg) + (Int32.ofInt 1))) fun h5 => some h5 else none else none
theorem T_m_passes (b : Bool) (L : Nat) (xs : Nat → Int32) (d : Nat) (hd : 0 ≤ d) (h : pm_H) (s_h : h.1 = tb_SH) (l0 : Nat) (f_l0 : mi_o l0 10 = true) {r : pm_H} (hm : m_passes l0 h = some r) : PC b L xs d 227 [(Value.ref l0)] h (fun (v0 : Option Value) (h2 : pm_H) => v0 = none ∧ h2 = r ∧ h2.1 = tb_SH) := by
  refine pc_in e227 (ls0 := [(Value.ref l0), Value.retAddr 0, Value.retAddr 0]) rfl ?_
  have key : ∀ (Q : Option Value → pm_H → Prop), (r.1 = tb_SH → Q none r) → PW b L xs d 227 0 0 0 [(Value.ref l0), Value.retAddr 0, Value.retAddr 0] [] h Q := by
    intro Q hE
    rw [m_passes] at hm
    refine pw_s (pc := 0) d227_0 rfl rfl ?_
    refine pw_t (pc := 1) d227_1 rfl rfl rfl rfl ?_
    obtain ⟨q1, e_q1, hm⟩ := ob_x hm
    refine wh_ind e_q1 (fun s : (Int32 × pm_H) => s.2.1 = tb_SH → ∀ w2 : Value, PW b L xs d 227 0 0 2 [(Value.ref l0), (Value.int s.1), w2] [] s.2 Q) (fun s s2 hf ih sx w2 => t_m_passes_2 b L xs d hd s.2 sx l0 s.1 w2 f_l0 hf ih) (fun s hf sx w2 => t_m_passes_2 b L xs d hd s.2 sx l0 s.1 w2 f_l0 hf ?_) s_h  (Value.retAddr 0)
    intro s_q1_0 w1 w2
    refine pw_l (pc := 83) d227_83 rfl rfl rfl ?_
    obtain ⟨y2, e_y2, hm⟩ := ob_x hm
    have f_y2 := gA_x e_y2
    refine pw_gr (pc := 84) d227_84 (k227_39 b) (sho s_q1_0 f_l0) f10_20 f_y2.1 ?_
    refine pw_s (pc := 87) d227_87 rfl rfl ?_
    refine pw_s (pc := 88) d227_88 rfl rfl ?_
    obtain ⟨g3, hm⟩ := gd_x hm
    refine pw_ai (pc := 89) d227_89 (sha s_q1_0 f_y2.2) (mi_in_x g3) ?_
    refine pw_s (pc := 90) d227_90 rfl rfl ?_
    refine pw_s (pc := 91) d227_91 rfl rfl ?_
    obtain ⟨g4, hm⟩ := gd_x hm
    refine pw_si (pc := 92) d227_92 (sha s_q1_0 f_y2.2) (mi_in_x g4) ?_
    obtain ⟨h5, e_h5, hm⟩ := bd_x hm
    rw [e_h5]
    have s_h5 : h5.1 = tb_SH := by rw [← e_h5]; exact s_q1_0
    obtain rfl := Option.some.inj hm
    refine pw_rv (pc := 93) d227_93 t227 ?_
    exact hE s_h5
  exact key _ (fun q => ⟨rfl, rfl, q⟩)
noncomputable def m_hour (l0 : Nat) (h : pm_H) : Option (Int32 × pm_H) := (m_isShip l0 h).bind fun q1 => if q1 = 0 then (some ((Int32.ofInt (-1)), h)) else ((gA h l0 20 .int).bind fun y3 => if mi_in (Int32.ofInt 4) (mi_n y3) = true then if ¬ (h.2.1 y3 (Int32.ofInt 4).toNatClampNeg) = (Int16.ofInt 999).toInt32 then ((m_keepsAct l0 h).bind fun q6 => (m_passes l0 q6).bind fun q7 => (gA q7 l0 20 .int).bind fun y8 => if mi_in (Int32.ofInt 4) (mi_n y8) = true then some ((q7.2.1 y8 (Int32.ofInt 4).toNatClampNeg), q7) else none) else (some ((Int32.ofInt (-1)), h)) else none)
theorem T_m_hour (b : Bool) (L : Nat) (xs : Nat → Int32) (d : Nat) (hd : 1 ≤ d) (h : pm_H) (s_h : h.1 = tb_SH) (l0 : Nat) (f_l0 : mi_o l0 10 = true) {r : (Int32 × pm_H)} (hm : m_hour l0 h = some r) : PC b L xs d 228 [(Value.ref l0)] h (fun (v0 : Option Value) (h2 : pm_H) => v0 = (some (Value.int r.1)) ∧ h2 = r.2 ∧ h2.1 = tb_SH) := by
  refine pc_in e228 (ls0 := [(Value.ref l0)]) rfl ?_
  have key : ∀ (Q : Option Value → pm_H → Prop), (r.2.1 = tb_SH → Q (some (Value.int r.1)) r.2) → PW b L xs d 228 0 0 0 [(Value.ref l0)] [] h Q := by
    intro Q hE
    rw [m_hour] at hm
    refine pw_l (pc := 0) d228_0 rfl rfl rfl ?_
    obtain ⟨q1, e_q1, hm⟩ := ob_x hm
    refine pw_v (pc := 1) (k := l0) (by omega) d228_1 (k228_305 b) (by decide) m192 (by decide) rfl (sho s_h f_l0) (Nat.le_of_ble_eq_true rfl) (Nat.le_of_ble_eq_true rfl) rfl rfl (T_m_isShip b L xs (d - 1) (by omega) h s_h l0 f_l0 e_q1) (fun v0 h0 hq => ?_)
    obtain ⟨rfl, hh0, s_q1⟩ := hq
    rw [hh0] at s_q1 ⊢
    simp only [Option.toList_some, List.cons_append, List.nil_append]
    refine pw_zeq (pc := 4) (t := 19) d228_4 (by decide) (fun c2 => ?_) (fun c2 => ?_)
    · rw [if_pos c2] at hm
      refine pw_s (pc := 19) d228_19 rfl rfl ?_
      obtain rfl := Option.some.inj hm
      refine pw_ri (pc := 20) d228_20 t228 rfl ?_
      exact hE s_h
    · rw [if_neg c2] at hm
      refine pw_l (pc := 7) d228_7 rfl rfl rfl ?_
      obtain ⟨y3, e_y3, hm⟩ := ob_x hm
      have f_y3 := gA_x e_y3
      refine pw_gr (pc := 8) d228_8 (k228_39 b) (sho s_h f_l0) f10_20 f_y3.1 ?_
      refine pw_s (pc := 11) d228_11 rfl rfl ?_
      obtain ⟨g4, hm⟩ := gd_x hm
      refine pw_ai (pc := 12) d228_12 (sha s_h f_y3.2) (mi_in_x g4) ?_
      refine pw_s (pc := 13) d228_13 rfl rfl ?_
      refine pw_ine (pc := 16) (t := 21) d228_16 (by decide) (fun c5 => ?_) (fun c5 => ?_)
      · rw [if_pos c5] at hm
        refine pw_l (pc := 21) d228_21 rfl rfl rfl ?_
        obtain ⟨q6, e_q6, hm⟩ := ob_x hm
        refine pw_v (pc := 22) (k := l0) (by omega) d228_22 (k228_348 b) (by decide) m224 (by decide) rfl (sho s_h f_l0) (Nat.le_of_ble_eq_true rfl) (Nat.le_of_ble_eq_true rfl) rfl rfl (T_m_keepsAct b L xs (d - 1) (by omega) h s_h l0 f_l0 e_q6) (fun v0 h0 hq => ?_)
        obtain ⟨rfl, hh0, s_q6⟩ := hq
        rw [hh0] at s_q6 ⊢
        simp only [Option.toList_none, List.nil_append]
        refine pw_l (pc := 25) d228_25 rfl rfl rfl ?_
        obtain ⟨q7, e_q7, hm⟩ := ob_x hm
        refine pw_v (pc := 26) (k := l0) (by omega) d228_26 (k228_351 b) (by decide) m227 (by decide) rfl (sho s_q6 f_l0) (Nat.le_of_ble_eq_true rfl) (Nat.le_of_ble_eq_true rfl) rfl rfl (T_m_passes b L xs (d - 1) (by omega) q6 s_q6 l0 f_l0 e_q7) (fun v0 h0 hq => ?_)
        obtain ⟨rfl, hh0, s_q7⟩ := hq
        rw [hh0] at s_q7 ⊢
        simp only [Option.toList_none, List.nil_append]
        refine pw_l (pc := 29) d228_29 rfl rfl rfl ?_
        obtain ⟨y8, e_y8, hm⟩ := ob_x hm
        have f_y8 := gA_x e_y8
        refine pw_gr (pc := 30) d228_30 (k228_39 b) (sho s_q7 f_l0) f10_20 f_y8.1 ?_
        refine pw_s (pc := 33) d228_33 rfl rfl ?_
        obtain ⟨g9, hm⟩ := gd_x hm
        refine pw_ai (pc := 34) d228_34 (sha s_q7 f_y8.2) (mi_in_x g9) ?_
        obtain rfl := Option.some.inj hm
        refine pw_ri (pc := 35) d228_35 t228 rfl ?_
        exact hE s_q7
      · rw [if_neg c5] at hm
        refine pw_s (pc := 19) d228_19 rfl rfl ?_
        obtain rfl := Option.some.inj hm
        refine pw_ri (pc := 20) d228_20 t228 rfl ?_
        exact hE s_h
  exact key _ (fun q => ⟨rfl, rfl, q⟩)
noncomputable def m_wake_55 (z0 : Int32) (z1 : Int32) (z2 : Nat) (h : pm_H) : Option (Int32 × pm_H) := if mi_in z1 (mi_n z2) = true then bd (pm_setI h z2 z1.toNatClampNeg z0) fun h2 => some ((Int32.ofInt 1), h2) else none
theorem t_m_wake_55 (b : Bool) (L : Nat) (xs : Nat → Int32) (d : Nat) (hd : 2 ≤ d) {Q : Option Value → pm_H → Prop} (h : pm_H) (s_h : h.1 = tb_SH) (z0 : Int32) (z1 : Int32) (z2 : Nat) (w0 : Value) (w1 : Value) (w2 : Value) (f_z2 : mi_a z2 .int = true) {r : (Int32 × pm_H)} (hm : m_wake_55 z0 z1 z2 h = some r) (hE : r.2.1 = tb_SH → Q (some (Value.int r.1)) r.2) : PW b L xs d 229 0 0 55 [w0, w1, w2] [(Value.int z0), (Value.int z1), (Value.ref z2)] h Q := by
  rw [m_wake_55] at hm
  obtain ⟨g1, hm⟩ := gd_x hm
  refine pw_si (pc := 55) d229_55 (sha s_h f_z2) (mi_in_x g1) ?_
  obtain ⟨h2, e_h2, hm⟩ := bd_x hm
  rw [e_h2]
  have s_h2 : h2.1 = tb_SH := by rw [← e_h2]; exact s_h
  refine pw_s (pc := 56) d229_56 rfl rfl ?_
  obtain rfl := Option.some.inj hm
  refine pw_ri (pc := 57) d229_57 t229 rfl ?_
  exact hE s_h2
noncomputable def m_wake_23 (l0 : Nat) (l1 : Int32) (l2 : Int32) (z0 : Int32) (h : pm_H) : Option (Int32 × pm_H) := if ¬ z0 = l2 then ((m_keepsAct l0 h).bind fun q2 => (gA q2 l0 20 .int).bind fun y3 => if l2 = 0 then (m_wake_55 (Int32.ofInt 0) (((Int8.ofInt 10).toInt32 + ((Int8.ofInt 6).toInt32 * l1)) + (Int32.ofInt 2)) y3 q2) else (m_wake_55 (Int32.ofInt 1) (((Int8.ofInt 10).toInt32 + ((Int8.ofInt 6).toInt32 * l1)) + (Int32.ofInt 2)) y3 q2)) else (some ((Int32.ofInt 0), h))
theorem t_m_wake_23 (b : Bool) (L : Nat) (xs : Nat → Int32) (d : Nat) (hd : 2 ≤ d) {Q : Option Value → pm_H → Prop} (h : pm_H) (s_h : h.1 = tb_SH) (l0 : Nat) (l1 : Int32) (l2 : Int32) (z0 : Int32) (f_l0 : mi_o l0 10 = true) {r : (Int32 × pm_H)} (hm : m_wake_23 l0 l1 l2 z0 h = some r) (hE : r.2.1 = tb_SH → Q (some (Value.int r.1)) r.2) : PW b L xs d 229 0 0 23 [(Value.ref l0), (Value.int l1), (Value.int l2)] [(Value.int z0)] h Q := by
  rw [m_wake_23] at hm
  refine pw_l (pc := 23) d229_23 rfl rfl rfl ?_
  refine pw_ine (pc := 24) (t := 29) d229_24 (by decide) (fun c1 => ?_) (fun c1 => ?_)
  · rw [if_pos c1] at hm
    refine pw_l (pc := 29) d229_29 rfl rfl rfl ?_
    obtain ⟨q2, e_q2, hm⟩ := ob_x hm
    refine pw_v (pc := 30) (k := l0) (by omega) d229_30 (k229_348 b) (by decide) m224 (by decide) rfl (sho s_h f_l0) (Nat.le_of_ble_eq_true rfl) (Nat.le_of_ble_eq_true rfl) rfl rfl (T_m_keepsAct b L xs (d - 1) (by omega) h s_h l0 f_l0 e_q2) (fun v0 h0 hq => ?_)
    obtain ⟨rfl, hh0, s_q2⟩ := hq
    rw [hh0] at s_q2 ⊢
    simp only [Option.toList_none, List.nil_append]
    refine pw_l (pc := 33) d229_33 rfl rfl rfl ?_
    obtain ⟨y3, e_y3, hm⟩ := ob_x hm
    have f_y3 := gA_x e_y3
    refine pw_gr (pc := 34) d229_34 (k229_39 b) (sho s_q2 f_l0) f10_20 f_y3.1 ?_
    refine pw_s (pc := 37) d229_37 rfl rfl ?_
    refine pw_s (pc := 39) d229_39 rfl rfl ?_
    refine pw_l (pc := 41) d229_41 rfl rfl rfl ?_
    refine pw_s (pc := 42) d229_42 rfl rfl ?_
    refine pw_s (pc := 43) d229_43 rfl rfl ?_
    refine pw_s (pc := 44) d229_44 rfl rfl ?_
    refine pw_s (pc := 45) d229_45 rfl rfl ?_
    refine pw_l (pc := 46) d229_46 rfl rfl rfl ?_
    refine pw_zeq (pc := 47) (t := 54) d229_47 (by decide) (fun c4 => ?_) (fun c4 => ?_)
    · rw [if_pos c4] at hm
      refine pw_s (pc := 54) d229_54 rfl rfl ?_
      exact t_m_wake_55 b L xs d hd q2 s_q2 (Int32.ofInt 0) (((Int8.ofInt 10).toInt32 + ((Int8.ofInt 6).toInt32 * l1)) + (Int32.ofInt 2)) y3 (Value.ref l0) (Value.int l1) (Value.int l2)  f_y3.2 hm hE
    · rw [if_neg c4] at hm
      refine pw_s (pc := 50) d229_50 rfl rfl ?_
      refine pw_go (pc := 51) (t := 55) d229_51 (by decide) ?_
      exact t_m_wake_55 b L xs d hd q2 s_q2 (Int32.ofInt 1) (((Int8.ofInt 10).toInt32 + ((Int8.ofInt 6).toInt32 * l1)) + (Int32.ofInt 2)) y3 (Value.ref l0) (Value.int l1) (Value.int l2)  f_y3.2 hm hE
  · rw [if_neg c1] at hm
    refine pw_s (pc := 27) d229_27 rfl rfl ?_
    obtain rfl := Option.some.inj hm
    refine pw_ri (pc := 28) d229_28 t229 rfl ?_
    exact hE s_h
noncomputable def m_wake (l0 : Nat) (l1 : Int32) (l2 : Int32) (h : pm_H) : Option (Int32 × pm_H) := (m_isAlive l0 l1 h).bind fun q1 => if q1 = 0 then (some ((Int32.ofInt 0), h)) else ((m_manOf l0 l1 (Int32.ofInt 2) h).bind fun q3 => if ¬ q3 = (Int32.ofInt 1) then (m_wake_23 l0 l1 l2 (Int32.ofInt 0) h) else (m_wake_23 l0 l1 l2 (Int32.ofInt 1) h))
theorem T_m_wake (b : Bool) (L : Nat) (xs : Nat → Int32) (d : Nat) (hd : 2 ≤ d) (h : pm_H) (s_h : h.1 = tb_SH) (l0 : Nat) (l1 : Int32) (l2 : Int32) (f_l0 : mi_o l0 10 = true) {r : (Int32 × pm_H)} (hm : m_wake l0 l1 l2 h = some r) : PC b L xs d 229 [(Value.ref l0), (Value.int l1), (Value.int l2)] h (fun (v0 : Option Value) (h2 : pm_H) => v0 = (some (Value.int r.1)) ∧ h2 = r.2 ∧ h2.1 = tb_SH) := by
  refine pc_in e229 (ls0 := [(Value.ref l0), (Value.int l1), (Value.int l2)]) rfl ?_
  have key : ∀ (Q : Option Value → pm_H → Prop), (r.2.1 = tb_SH → Q (some (Value.int r.1)) r.2) → PW b L xs d 229 0 0 0 [(Value.ref l0), (Value.int l1), (Value.int l2)] [] h Q := by
    intro Q hE
    rw [m_wake] at hm
    refine pw_l (pc := 0) d229_0 rfl rfl rfl ?_
    refine pw_l (pc := 1) d229_1 rfl rfl rfl ?_
    obtain ⟨q1, e_q1, hm⟩ := ob_x hm
    refine pw_v (pc := 2) (k := l0) (by omega) d229_2 (k229_277 b) (by decide) m197 (by decide) rfl (sho s_h f_l0) (Nat.le_of_ble_eq_true rfl) (Nat.le_of_ble_eq_true rfl) rfl rfl (T_m_isAlive b L xs (d - 1) (by omega) h s_h l0 l1 f_l0 e_q1) (fun v0 h0 hq => ?_)
    obtain ⟨rfl, hh0, s_q1⟩ := hq
    rw [hh0] at s_q1 ⊢
    simp only [Option.toList_some, List.cons_append, List.nil_append]
    refine pw_zeq (pc := 5) (t := 27) d229_5 (by decide) (fun c2 => ?_) (fun c2 => ?_)
    · rw [if_pos c2] at hm
      refine pw_s (pc := 27) d229_27 rfl rfl ?_
      obtain rfl := Option.some.inj hm
      refine pw_ri (pc := 28) d229_28 t229 rfl ?_
      exact hE s_h
    · rw [if_neg c2] at hm
      refine pw_l (pc := 8) d229_8 rfl rfl rfl ?_
      refine pw_l (pc := 9) d229_9 rfl rfl rfl ?_
      refine pw_s (pc := 10) d229_10 rfl rfl ?_
      obtain ⟨q3, e_q3, hm⟩ := ob_x hm
      refine pw_v (pc := 11) (k := l0) (by omega) d229_11 (k229_273 b) (by decide) m196 (by decide) rfl (sho s_h f_l0) (Nat.le_of_ble_eq_true rfl) (Nat.le_of_ble_eq_true rfl) rfl rfl (T_m_manOf b L xs (d - 1) (by omega) h s_h l0 l1 (Int32.ofInt 2) f_l0 e_q3) (fun v0 h0 hq => ?_)
      obtain ⟨rfl, hh0, s_q3⟩ := hq
      rw [hh0] at s_q3 ⊢
      simp only [Option.toList_some, List.cons_append, List.nil_append]
      refine pw_s (pc := 14) d229_14 rfl rfl ?_
      refine pw_ine (pc := 15) (t := 22) d229_15 (by decide) (fun c4 => ?_) (fun c4 => ?_)
      · rw [if_pos c4] at hm
        refine pw_s (pc := 22) d229_22 rfl rfl ?_
        exact t_m_wake_23 b L xs d hd h s_h l0 l1 l2 (Int32.ofInt 0)  f_l0  hm hE
      · rw [if_neg c4] at hm
        refine pw_s (pc := 18) d229_18 rfl rfl ?_
        refine pw_go (pc := 19) (t := 23) d229_19 (by decide) ?_
        exact t_m_wake_23 b L xs d hd h s_h l0 l1 l2 (Int32.ofInt 1)  f_l0  hm hE
  exact key _ (fun q => ⟨rfl, rfl, q⟩)
noncomputable def m_sicken (l0 : Nat) (l1 : Int32) (l2 : Int32) (h : pm_H) : Option (Int32 × pm_H) := (m_isAlive l0 l1 h).bind fun q1 => if q1 = 0 then (some ((Int32.ofInt (-1)), h)) else ((m_in l2.toInt64 (Int64.ofNat 0) (9 : Int64) h).bind fun q3 => if ¬ q3 = 0 then ((m_keepsAct l0 h).bind fun q5 => (m_manOf l0 l1 (Int32.ofInt 3) q5).bind fun q6 => (gA q5 l0 20 .int).bind fun y7 => if mi_in (((Int8.ofInt 10).toInt32 + ((Int8.ofInt 6).toInt32 * l1)) + (Int32.ofInt 3)) (mi_n y7) = true then bd (pm_setI q5 y7 (((Int8.ofInt 10).toInt32 + ((Int8.ofInt 6).toInt32 * l1)) + (Int32.ofInt 3)).toNatClampNeg l2) fun h9 => some (q6, h9) else none) else (some ((Int32.ofInt (-1)), h)))
theorem T_m_sicken (b : Bool) (L : Nat) (xs : Nat → Int32) (d : Nat) (hd : 2 ≤ d) (h : pm_H) (s_h : h.1 = tb_SH) (l0 : Nat) (l1 : Int32) (l2 : Int32) (f_l0 : mi_o l0 10 = true) {r : (Int32 × pm_H)} (hm : m_sicken l0 l1 l2 h = some r) : PC b L xs d 230 [(Value.ref l0), (Value.int l1), (Value.int l2)] h (fun (v0 : Option Value) (h2 : pm_H) => v0 = (some (Value.int r.1)) ∧ h2 = r.2 ∧ h2.1 = tb_SH) := by
  refine pc_in e230 (ls0 := [(Value.ref l0), (Value.int l1), (Value.int l2), Value.retAddr 0]) rfl ?_
  have key : ∀ (Q : Option Value → pm_H → Prop), (r.2.1 = tb_SH → Q (some (Value.int r.1)) r.2) → PW b L xs d 230 0 0 0 [(Value.ref l0), (Value.int l1), (Value.int l2), Value.retAddr 0] [] h Q := by
    intro Q hE
    rw [m_sicken] at hm
    refine pw_l (pc := 0) d230_0 rfl rfl rfl ?_
    refine pw_l (pc := 1) d230_1 rfl rfl rfl ?_
    obtain ⟨q1, e_q1, hm⟩ := ob_x hm
    refine pw_v (pc := 2) (k := l0) (by omega) d230_2 (k230_277 b) (by decide) m197 (by decide) rfl (sho s_h f_l0) (Nat.le_of_ble_eq_true rfl) (Nat.le_of_ble_eq_true rfl) rfl rfl (T_m_isAlive b L xs (d - 1) (by omega) h s_h l0 l1 f_l0 e_q1) (fun v0 h0 hq => ?_)
    obtain ⟨rfl, hh0, s_q1⟩ := hq
    rw [hh0] at s_q1 ⊢
    simp only [Option.toList_some, List.cons_append, List.nil_append]
    refine pw_zeq (pc := 5) (t := 20) d230_5 (by decide) (fun c2 => ?_) (fun c2 => ?_)
    · rw [if_pos c2] at hm
      refine pw_s (pc := 20) d230_20 rfl rfl ?_
      obtain rfl := Option.some.inj hm
      refine pw_ri (pc := 21) d230_21 t230 rfl ?_
      exact hE s_h
    · rw [if_neg c2] at hm
      refine pw_l (pc := 8) d230_8 rfl rfl rfl ?_
      refine pw_s (pc := 9) d230_9 rfl rfl ?_
      refine pw_s (pc := 10) d230_10 rfl rfl ?_
      refine pw_cl (pc := 11) d230_11 (k230_354 b) ?_
      obtain ⟨q3, e_q3, hm⟩ := ob_x hm
      refine pw_u (pc := 14) (by omega) d230_14 (k230_112 b) (by decide) m148 (Nat.le_of_ble_eq_true rfl) (Nat.le_of_ble_eq_true rfl) (Nat.le_of_ble_eq_true rfl) rfl rfl (T_m_in b L xs (d - 1) (by omega) h s_h l2.toInt64 (Int64.ofNat 0) (9 : Int64)  e_q3) (fun v0 h0 hq => ?_)
      obtain ⟨rfl, hh0, s_q3⟩ := hq
      rw [hh0] at s_q3 ⊢
      simp only [Option.toList_some, List.cons_append, List.nil_append]
      refine pw_zne (pc := 17) (t := 22) d230_17 (by decide) (fun c4 => ?_) (fun c4 => ?_)
      · rw [if_pos c4] at hm
        refine pw_l (pc := 22) d230_22 rfl rfl rfl ?_
        obtain ⟨q5, e_q5, hm⟩ := ob_x hm
        refine pw_v (pc := 23) (k := l0) (by omega) d230_23 (k230_348 b) (by decide) m224 (by decide) rfl (sho s_h f_l0) (Nat.le_of_ble_eq_true rfl) (Nat.le_of_ble_eq_true rfl) rfl rfl (T_m_keepsAct b L xs (d - 1) (by omega) h s_h l0 f_l0 e_q5) (fun v0 h0 hq => ?_)
        obtain ⟨rfl, hh0, s_q5⟩ := hq
        rw [hh0] at s_q5 ⊢
        simp only [Option.toList_none, List.nil_append]
        refine pw_l (pc := 26) d230_26 rfl rfl rfl ?_
        refine pw_l (pc := 27) d230_27 rfl rfl rfl ?_
        refine pw_s (pc := 28) d230_28 rfl rfl ?_
        obtain ⟨q6, e_q6, hm⟩ := ob_x hm
        refine pw_v (pc := 29) (k := l0) (by omega) d230_29 (k230_273 b) (by decide) m196 (by decide) rfl (sho s_q5 f_l0) (Nat.le_of_ble_eq_true rfl) (Nat.le_of_ble_eq_true rfl) rfl rfl (T_m_manOf b L xs (d - 1) (by omega) q5 s_q5 l0 l1 (Int32.ofInt 3) f_l0 e_q6) (fun v0 h0 hq => ?_)
        obtain ⟨rfl, hh0, s_q6⟩ := hq
        rw [hh0] at s_q6 ⊢
        simp only [Option.toList_some, List.cons_append, List.nil_append]
        refine pw_t (pc := 32) d230_32 rfl rfl rfl rfl ?_
        refine pw_l (pc := 33) d230_33 rfl rfl rfl ?_
        obtain ⟨y7, e_y7, hm⟩ := ob_x hm
        have f_y7 := gA_x e_y7
        refine pw_gr (pc := 34) d230_34 (k230_39 b) (sho s_q5 f_l0) f10_20 f_y7.1 ?_
        refine pw_s (pc := 37) d230_37 rfl rfl ?_
        refine pw_s (pc := 39) d230_39 rfl rfl ?_
        refine pw_l (pc := 41) d230_41 rfl rfl rfl ?_
        refine pw_s (pc := 42) d230_42 rfl rfl ?_
        refine pw_s (pc := 43) d230_43 rfl rfl ?_
        refine pw_s (pc := 44) d230_44 rfl rfl ?_
        refine pw_s (pc := 45) d230_45 rfl rfl ?_
        refine pw_l (pc := 46) d230_46 rfl rfl rfl ?_
        obtain ⟨g8, hm⟩ := gd_x hm
        refine pw_si (pc := 47) d230_47 (sha s_q5 f_y7.2) (mi_in_x g8) ?_
        obtain ⟨h9, e_h9, hm⟩ := bd_x hm
        rw [e_h9]
        have s_h9 : h9.1 = tb_SH := by rw [← e_h9]; exact s_q5
        refine pw_l (pc := 48) d230_48 rfl rfl rfl ?_
        obtain rfl := Option.some.inj hm
        refine pw_ri (pc := 49) d230_49 t230 rfl ?_
        exact hE s_h9
      · rw [if_neg c4] at hm
        refine pw_s (pc := 20) d230_20 rfl rfl ?_
        obtain rfl := Option.some.inj hm
        refine pw_ri (pc := 21) d230_21 t230 rfl ?_
        exact hE s_h
  exact key _ (fun q => ⟨rfl, rfl, q⟩)
noncomputable def m_die (l0 : Nat) (l1 : Int32) (h : pm_H) : Option (Int32 × pm_H) := (m_isAlive l0 l1 h).bind fun q1 => if ¬ q1 = 0 then ((m_keepsAct l0 h).bind fun q3 => (gA q3 l0 20 .int).bind fun y4 => if mi_in (((Int8.ofInt 10).toInt32 + ((Int8.ofInt 6).toInt32 * l1)) + (Int32.ofInt 4)) (mi_n y4) = true then bd (pm_setI q3 y4 (((Int8.ofInt 10).toInt32 + ((Int8.ofInt 6).toInt32 * l1)) + (Int32.ofInt 4)).toNatClampNeg (Int32.ofInt 1)) fun h6 => (gA h6 l0 20 .int).bind fun y7 => if mi_in (((Int8.ofInt 10).toInt32 + ((Int8.ofInt 6).toInt32 * l1)) + (Int32.ofInt 2)) (mi_n y7) = true then bd (pm_setI h6 y7 (((Int8.ofInt 10).toInt32 + ((Int8.ofInt 6).toInt32 * l1)) + (Int32.ofInt 2)).toNatClampNeg (Int32.ofInt 0)) fun h9 => (m_aliveSet l0 h9).bind fun q10 => (m_bits q10 h9).bind fun q11 => some (q11, h9) else none else none) else (some ((Int32.ofInt (-1)), h))
theorem T_m_die (b : Bool) (L : Nat) (xs : Nat → Int32) (d : Nat) (hd : 3 ≤ d) (h : pm_H) (s_h : h.1 = tb_SH) (l0 : Nat) (l1 : Int32) (f_l0 : mi_o l0 10 = true) {r : (Int32 × pm_H)} (hm : m_die l0 l1 h = some r) : PC b L xs d 231 [(Value.ref l0), (Value.int l1)] h (fun (v0 : Option Value) (h2 : pm_H) => v0 = (some (Value.int r.1)) ∧ h2 = r.2 ∧ h2.1 = tb_SH) := by
  refine pc_in e231 (ls0 := [(Value.ref l0), (Value.int l1)]) rfl ?_
  have key : ∀ (Q : Option Value → pm_H → Prop), (r.2.1 = tb_SH → Q (some (Value.int r.1)) r.2) → PW b L xs d 231 0 0 0 [(Value.ref l0), (Value.int l1)] [] h Q := by
    intro Q hE
    rw [m_die] at hm
    refine pw_l (pc := 0) d231_0 rfl rfl rfl ?_
    refine pw_l (pc := 1) d231_1 rfl rfl rfl ?_
    obtain ⟨q1, e_q1, hm⟩ := ob_x hm
    refine pw_v (pc := 2) (k := l0) (by omega) d231_2 (k231_277 b) (by decide) m197 (by decide) rfl (sho s_h f_l0) (Nat.le_of_ble_eq_true rfl) (Nat.le_of_ble_eq_true rfl) rfl rfl (T_m_isAlive b L xs (d - 1) (by omega) h s_h l0 l1 f_l0 e_q1) (fun v0 h0 hq => ?_)
    obtain ⟨rfl, hh0, s_q1⟩ := hq
    rw [hh0] at s_q1 ⊢
    simp only [Option.toList_some, List.cons_append, List.nil_append]
    refine pw_zne (pc := 5) (t := 10) d231_5 (by decide) (fun c2 => ?_) (fun c2 => ?_)
    · rw [if_pos c2] at hm
      refine pw_l (pc := 10) d231_10 rfl rfl rfl ?_
      obtain ⟨q3, e_q3, hm⟩ := ob_x hm
      refine pw_v (pc := 11) (k := l0) (by omega) d231_11 (k231_348 b) (by decide) m224 (by decide) rfl (sho s_h f_l0) (Nat.le_of_ble_eq_true rfl) (Nat.le_of_ble_eq_true rfl) rfl rfl (T_m_keepsAct b L xs (d - 1) (by omega) h s_h l0 f_l0 e_q3) (fun v0 h0 hq => ?_)
      obtain ⟨rfl, hh0, s_q3⟩ := hq
      rw [hh0] at s_q3 ⊢
      simp only [Option.toList_none, List.nil_append]
      refine pw_l (pc := 14) d231_14 rfl rfl rfl ?_
      obtain ⟨y4, e_y4, hm⟩ := ob_x hm
      have f_y4 := gA_x e_y4
      refine pw_gr (pc := 15) d231_15 (k231_39 b) (sho s_q3 f_l0) f10_20 f_y4.1 ?_
      refine pw_s (pc := 18) d231_18 rfl rfl ?_
      refine pw_s (pc := 20) d231_20 rfl rfl ?_
      refine pw_l (pc := 22) d231_22 rfl rfl rfl ?_
      refine pw_s (pc := 23) d231_23 rfl rfl ?_
      refine pw_s (pc := 24) d231_24 rfl rfl ?_
      refine pw_s (pc := 25) d231_25 rfl rfl ?_
      refine pw_s (pc := 26) d231_26 rfl rfl ?_
      refine pw_s (pc := 27) d231_27 rfl rfl ?_
      obtain ⟨g5, hm⟩ := gd_x hm
      refine pw_si (pc := 28) d231_28 (sha s_q3 f_y4.2) (mi_in_x g5) ?_
      obtain ⟨h6, e_h6, hm⟩ := bd_x hm
      rw [e_h6]
      have s_h6 : h6.1 = tb_SH := by rw [← e_h6]; exact s_q3
      refine pw_l (pc := 29) d231_29 rfl rfl rfl ?_
      obtain ⟨y7, e_y7, hm⟩ := ob_x hm
      have f_y7 := gA_x e_y7
      refine pw_gr (pc := 30) d231_30 (k231_39 b) (sho s_h6 f_l0) f10_20 f_y7.1 ?_
      refine pw_s (pc := 33) d231_33 rfl rfl ?_
      refine pw_s (pc := 35) d231_35 rfl rfl ?_
      refine pw_l (pc := 37) d231_37 rfl rfl rfl ?_
      refine pw_s (pc := 38) d231_38 rfl rfl ?_
      refine pw_s (pc := 39) d231_39 rfl rfl ?_
      refine pw_s (pc := 40) d231_40 rfl rfl ?_
      refine pw_s (pc := 41) d231_41 rfl rfl ?_
      refine pw_s (pc := 42) d231_42 rfl rfl ?_
      obtain ⟨g8, hm⟩ := gd_x hm
      refine pw_si (pc := 43) d231_43 (sha s_h6 f_y7.2) (mi_in_x g8) ?_
      obtain ⟨h9, e_h9, hm⟩ := bd_x hm
      rw [e_h9]
      have s_h9 : h9.1 = tb_SH := by rw [← e_h9]; exact s_h6
      refine pw_l (pc := 44) d231_44 rfl rfl rfl ?_
      obtain ⟨q10, e_q10, hm⟩ := ob_x hm
      refine pw_v (pc := 45) (k := l0) (by omega) d231_45 (k231_356 b) (by decide) m201 (by decide) rfl (sho s_h9 f_l0) (Nat.le_of_ble_eq_true rfl) (Nat.le_of_ble_eq_true rfl) rfl rfl (T_m_aliveSet b L xs (d - 1) (by omega) h9 s_h9 l0 f_l0 e_q10) (fun v0 h0 hq => ?_)
      obtain ⟨rfl, hh0, s_q10⟩ := hq
      rw [hh0] at s_q10 ⊢
      simp only [Option.toList_some, List.cons_append, List.nil_append]
      obtain ⟨q11, e_q11, hm⟩ := ob_x hm
      refine pw_u (pc := 48) (by omega) d231_48 (k231_336 b) (by decide) m150 (Nat.le_of_ble_eq_true rfl) (Nat.le_of_ble_eq_true rfl) (Nat.le_of_ble_eq_true rfl) rfl rfl (T_m_bits b L xs (d - 1) (by omega) h9 s_h9 q10  e_q11) (fun v0 h0 hq => ?_)
      obtain ⟨rfl, hh0, s_q11⟩ := hq
      rw [hh0] at s_q11 ⊢
      simp only [Option.toList_some, List.cons_append, List.nil_append]
      obtain rfl := Option.some.inj hm
      refine pw_ri (pc := 51) d231_51 t231 rfl ?_
      exact hE s_h9
    · rw [if_neg c2] at hm
      refine pw_s (pc := 8) d231_8 rfl rfl ?_
      obtain rfl := Option.some.inj hm
      refine pw_ri (pc := 9) d231_9 t231 rfl ?_
      exact hE s_h
  exact key _ (fun q => ⟨rfl, rfl, q⟩)
noncomputable def m_teach (l0 : Nat) (l1 : Int32) (h : pm_H) : Option (Int32 × pm_H) := (m_isWordOf l0 l1 h).bind fun q1 => if q1 = 0 then (some ((Int8.ofInt (-2)).toInt32, h)) else ((gA h l0 20 .int).bind fun y3 => if mi_in ((Int8.ofInt 6).toInt32) (mi_n y3) = true then if ¬ (h.2.1 y3 ((Int8.ofInt 6).toInt32).toNatClampNeg) = l1 then ((m_keepsAct l0 h).bind fun q6 => (gA q6 l0 20 .int).bind fun y7 => if mi_in ((Int8.ofInt 6).toInt32) (mi_n y7) = true then (gA q6 l0 20 .int).bind fun y9 => if mi_in ((Int8.ofInt 6).toInt32) (mi_n y9) = true then bd (pm_setI q6 y9 ((Int8.ofInt 6).toInt32).toNatClampNeg l1) fun h11 => some ((q6.2.1 y7 ((Int8.ofInt 6).toInt32).toNatClampNeg), h11) else none else none) else (some ((Int8.ofInt (-2)).toInt32, h)) else none)
theorem T_m_teach (b : Bool) (L : Nat) (xs : Nat → Int32) (d : Nat) (hd : 1 ≤ d) (h : pm_H) (s_h : h.1 = tb_SH) (l0 : Nat) (l1 : Int32) (f_l0 : mi_o l0 10 = true) {r : (Int32 × pm_H)} (hm : m_teach l0 l1 h = some r) : PC b L xs d 232 [(Value.ref l0), (Value.int l1)] h (fun (v0 : Option Value) (h2 : pm_H) => v0 = (some (Value.int r.1)) ∧ h2 = r.2 ∧ h2.1 = tb_SH) := by
  refine pc_in e232 (ls0 := [(Value.ref l0), (Value.int l1), Value.retAddr 0]) rfl ?_
  have key : ∀ (Q : Option Value → pm_H → Prop), (r.2.1 = tb_SH → Q (some (Value.int r.1)) r.2) → PW b L xs d 232 0 0 0 [(Value.ref l0), (Value.int l1), Value.retAddr 0] [] h Q := by
    intro Q hE
    rw [m_teach] at hm
    refine pw_l (pc := 0) d232_0 rfl rfl rfl ?_
    refine pw_l (pc := 1) d232_1 rfl rfl rfl ?_
    obtain ⟨q1, e_q1, hm⟩ := ob_x hm
    refine pw_v (pc := 2) (k := l0) (by omega) d232_2 (k232_296 b) (by decide) m195 (by decide) rfl (sho s_h f_l0) (Nat.le_of_ble_eq_true rfl) (Nat.le_of_ble_eq_true rfl) rfl rfl (T_m_isWordOf b L xs (d - 1) (by omega) h s_h l0 l1 f_l0 e_q1) (fun v0 h0 hq => ?_)
    obtain ⟨rfl, hh0, s_q1⟩ := hq
    rw [hh0] at s_q1 ⊢
    simp only [Option.toList_some, List.cons_append, List.nil_append]
    refine pw_zeq (pc := 5) (t := 19) d232_5 (by decide) (fun c2 => ?_) (fun c2 => ?_)
    · rw [if_pos c2] at hm
      refine pw_s (pc := 19) d232_19 rfl rfl ?_
      obtain rfl := Option.some.inj hm
      refine pw_ri (pc := 21) d232_21 t232 rfl ?_
      exact hE s_h
    · rw [if_neg c2] at hm
      refine pw_l (pc := 8) d232_8 rfl rfl rfl ?_
      obtain ⟨y3, e_y3, hm⟩ := ob_x hm
      have f_y3 := gA_x e_y3
      refine pw_gr (pc := 9) d232_9 (k232_39 b) (sho s_h f_l0) f10_20 f_y3.1 ?_
      refine pw_s (pc := 12) d232_12 rfl rfl ?_
      obtain ⟨g4, hm⟩ := gd_x hm
      refine pw_ai (pc := 14) d232_14 (sha s_h f_y3.2) (mi_in_x g4) ?_
      refine pw_l (pc := 15) d232_15 rfl rfl rfl ?_
      refine pw_ine (pc := 16) (t := 22) d232_16 (by decide) (fun c5 => ?_) (fun c5 => ?_)
      · rw [if_pos c5] at hm
        refine pw_l (pc := 22) d232_22 rfl rfl rfl ?_
        obtain ⟨q6, e_q6, hm⟩ := ob_x hm
        refine pw_v (pc := 23) (k := l0) (by omega) d232_23 (k232_348 b) (by decide) m224 (by decide) rfl (sho s_h f_l0) (Nat.le_of_ble_eq_true rfl) (Nat.le_of_ble_eq_true rfl) rfl rfl (T_m_keepsAct b L xs (d - 1) (by omega) h s_h l0 f_l0 e_q6) (fun v0 h0 hq => ?_)
        obtain ⟨rfl, hh0, s_q6⟩ := hq
        rw [hh0] at s_q6 ⊢
        simp only [Option.toList_none, List.nil_append]
        refine pw_l (pc := 26) d232_26 rfl rfl rfl ?_
        obtain ⟨y7, e_y7, hm⟩ := ob_x hm
        have f_y7 := gA_x e_y7
        refine pw_gr (pc := 27) d232_27 (k232_39 b) (sho s_q6 f_l0) f10_20 f_y7.1 ?_
        refine pw_s (pc := 30) d232_30 rfl rfl ?_
        obtain ⟨g8, hm⟩ := gd_x hm
        refine pw_ai (pc := 32) d232_32 (sha s_q6 f_y7.2) (mi_in_x g8) ?_
        refine pw_t (pc := 33) d232_33 rfl rfl rfl rfl ?_
        refine pw_l (pc := 34) d232_34 rfl rfl rfl ?_
        obtain ⟨y9, e_y9, hm⟩ := ob_x hm
        have f_y9 := gA_x e_y9
        refine pw_gr (pc := 35) d232_35 (k232_39 b) (sho s_q6 f_l0) f10_20 f_y9.1 ?_
        refine pw_s (pc := 38) d232_38 rfl rfl ?_
        refine pw_l (pc := 40) d232_40 rfl rfl rfl ?_
        obtain ⟨g10, hm⟩ := gd_x hm
        refine pw_si (pc := 41) d232_41 (sha s_q6 f_y9.2) (mi_in_x g10) ?_
        obtain ⟨h11, e_h11, hm⟩ := bd_x hm
        rw [e_h11]
        have s_h11 : h11.1 = tb_SH := by rw [← e_h11]; exact s_q6
        refine pw_l (pc := 42) d232_42 rfl rfl rfl ?_
        obtain rfl := Option.some.inj hm
        refine pw_ri (pc := 43) d232_43 t232 rfl ?_
        exact hE s_h11
      · rw [if_neg c5] at hm
        refine pw_s (pc := 19) d232_19 rfl rfl ?_
        obtain rfl := Option.some.inj hm
        refine pw_ri (pc := 21) d232_21 t232 rfl ?_
        exact hE s_h
  exact key _ (fun q => ⟨rfl, rfl, q⟩)
noncomputable def m_turn (l0 : Nat) (l1 : Int32) (h : pm_H) : Option (Int32 × pm_H) := (m_isShip l0 h).bind fun q1 => if q1 = 0 then (some ((Int32.ofInt (-1)), h)) else ((m_in l1.toInt64 (Int64.ofNat 0) (2 : Int64) h).bind fun q3 => if q3 = 0 then (some ((Int32.ofInt (-1)), h)) else ((gA h l0 20 .int).bind fun y5 => if mi_in (Int32.ofInt 5) (mi_n y5) = true then if ¬ (h.2.1 y5 (Int32.ofInt 5).toNatClampNeg) = l1 then ((m_keepsAct l0 h).bind fun q8 => (gA q8 l0 20 .int).bind fun y9 => if mi_in (Int32.ofInt 5) (mi_n y9) = true then (gA q8 l0 20 .int).bind fun y11 => if mi_in (Int32.ofInt 5) (mi_n y11) = true then bd (pm_setI q8 y11 (Int32.ofInt 5).toNatClampNeg l1) fun h13 => some ((q8.2.1 y9 (Int32.ofInt 5).toNatClampNeg), h13) else none else none) else (some ((Int32.ofInt (-1)), h)) else none))
theorem T_m_turn (b : Bool) (L : Nat) (xs : Nat → Int32) (d : Nat) (hd : 1 ≤ d) (h : pm_H) (s_h : h.1 = tb_SH) (l0 : Nat) (l1 : Int32) (f_l0 : mi_o l0 10 = true) {r : (Int32 × pm_H)} (hm : m_turn l0 l1 h = some r) : PC b L xs d 233 [(Value.ref l0), (Value.int l1)] h (fun (v0 : Option Value) (h2 : pm_H) => v0 = (some (Value.int r.1)) ∧ h2 = r.2 ∧ h2.1 = tb_SH) := by
  refine pc_in e233 (ls0 := [(Value.ref l0), (Value.int l1), Value.retAddr 0]) rfl ?_
  have key : ∀ (Q : Option Value → pm_H → Prop), (r.2.1 = tb_SH → Q (some (Value.int r.1)) r.2) → PW b L xs d 233 0 0 0 [(Value.ref l0), (Value.int l1), Value.retAddr 0] [] h Q := by
    intro Q hE
    rw [m_turn] at hm
    refine pw_l (pc := 0) d233_0 rfl rfl rfl ?_
    obtain ⟨q1, e_q1, hm⟩ := ob_x hm
    refine pw_v (pc := 1) (k := l0) (by omega) d233_1 (k233_305 b) (by decide) m192 (by decide) rfl (sho s_h f_l0) (Nat.le_of_ble_eq_true rfl) (Nat.le_of_ble_eq_true rfl) rfl rfl (T_m_isShip b L xs (d - 1) (by omega) h s_h l0 f_l0 e_q1) (fun v0 h0 hq => ?_)
    obtain ⟨rfl, hh0, s_q1⟩ := hq
    rw [hh0] at s_q1 ⊢
    simp only [Option.toList_some, List.cons_append, List.nil_append]
    refine pw_zeq (pc := 4) (t := 29) d233_4 (by decide) (fun c2 => ?_) (fun c2 => ?_)
    · rw [if_pos c2] at hm
      refine pw_s (pc := 29) d233_29 rfl rfl ?_
      obtain rfl := Option.some.inj hm
      refine pw_ri (pc := 30) d233_30 t233 rfl ?_
      exact hE s_h
    · rw [if_neg c2] at hm
      refine pw_l (pc := 7) d233_7 rfl rfl rfl ?_
      refine pw_s (pc := 8) d233_8 rfl rfl ?_
      refine pw_s (pc := 9) d233_9 rfl rfl ?_
      refine pw_cl (pc := 10) d233_10 (k233_359 b) ?_
      obtain ⟨q3, e_q3, hm⟩ := ob_x hm
      refine pw_u (pc := 13) (by omega) d233_13 (k233_112 b) (by decide) m148 (Nat.le_of_ble_eq_true rfl) (Nat.le_of_ble_eq_true rfl) (Nat.le_of_ble_eq_true rfl) rfl rfl (T_m_in b L xs (d - 1) (by omega) h s_h l1.toInt64 (Int64.ofNat 0) (2 : Int64)  e_q3) (fun v0 h0 hq => ?_)
      obtain ⟨rfl, hh0, s_q3⟩ := hq
      rw [hh0] at s_q3 ⊢
      simp only [Option.toList_some, List.cons_append, List.nil_append]
      refine pw_zeq (pc := 16) (t := 29) d233_16 (by decide) (fun c4 => ?_) (fun c4 => ?_)
      · rw [if_pos c4] at hm
        refine pw_s (pc := 29) d233_29 rfl rfl ?_
        obtain rfl := Option.some.inj hm
        refine pw_ri (pc := 30) d233_30 t233 rfl ?_
        exact hE s_h
      · rw [if_neg c4] at hm
        refine pw_l (pc := 19) d233_19 rfl rfl rfl ?_
        obtain ⟨y5, e_y5, hm⟩ := ob_x hm
        have f_y5 := gA_x e_y5
        refine pw_gr (pc := 20) d233_20 (k233_39 b) (sho s_h f_l0) f10_20 f_y5.1 ?_
        refine pw_s (pc := 23) d233_23 rfl rfl ?_
        obtain ⟨g6, hm⟩ := gd_x hm
        refine pw_ai (pc := 24) d233_24 (sha s_h f_y5.2) (mi_in_x g6) ?_
        refine pw_l (pc := 25) d233_25 rfl rfl rfl ?_
        refine pw_ine (pc := 26) (t := 31) d233_26 (by decide) (fun c7 => ?_) (fun c7 => ?_)
        · rw [if_pos c7] at hm
          refine pw_l (pc := 31) d233_31 rfl rfl rfl ?_
          obtain ⟨q8, e_q8, hm⟩ := ob_x hm
          refine pw_v (pc := 32) (k := l0) (by omega) d233_32 (k233_348 b) (by decide) m224 (by decide) rfl (sho s_h f_l0) (Nat.le_of_ble_eq_true rfl) (Nat.le_of_ble_eq_true rfl) rfl rfl (T_m_keepsAct b L xs (d - 1) (by omega) h s_h l0 f_l0 e_q8) (fun v0 h0 hq => ?_)
          obtain ⟨rfl, hh0, s_q8⟩ := hq
          rw [hh0] at s_q8 ⊢
          simp only [Option.toList_none, List.nil_append]
          refine pw_l (pc := 35) d233_35 rfl rfl rfl ?_
          obtain ⟨y9, e_y9, hm⟩ := ob_x hm
          have f_y9 := gA_x e_y9
          refine pw_gr (pc := 36) d233_36 (k233_39 b) (sho s_q8 f_l0) f10_20 f_y9.1 ?_
          refine pw_s (pc := 39) d233_39 rfl rfl ?_
          obtain ⟨g10, hm⟩ := gd_x hm
          refine pw_ai (pc := 40) d233_40 (sha s_q8 f_y9.2) (mi_in_x g10) ?_
          refine pw_t (pc := 41) d233_41 rfl rfl rfl rfl ?_
          refine pw_l (pc := 42) d233_42 rfl rfl rfl ?_
          obtain ⟨y11, e_y11, hm⟩ := ob_x hm
          have f_y11 := gA_x e_y11
          refine pw_gr (pc := 43) d233_43 (k233_39 b) (sho s_q8 f_l0) f10_20 f_y11.1 ?_
          refine pw_s (pc := 46) d233_46 rfl rfl ?_
          refine pw_l (pc := 47) d233_47 rfl rfl rfl ?_
          obtain ⟨g12, hm⟩ := gd_x hm
          refine pw_si (pc := 48) d233_48 (sha s_q8 f_y11.2) (mi_in_x g12) ?_
          obtain ⟨h13, e_h13, hm⟩ := bd_x hm
          rw [e_h13]
          have s_h13 : h13.1 = tb_SH := by rw [← e_h13]; exact s_q8
          refine pw_l (pc := 49) d233_49 rfl rfl rfl ?_
          obtain rfl := Option.some.inj hm
          refine pw_ri (pc := 50) d233_50 t233 rfl ?_
          exact hE s_h13
        · rw [if_neg c7] at hm
          refine pw_s (pc := 29) d233_29 rfl rfl ?_
          obtain rfl := Option.some.inj hm
          refine pw_ri (pc := 30) d233_30 t233 rfl ?_
          exact hE s_h
  exact key _ (fun q => ⟨rfl, rfl, q⟩)
def E_m_needOfWord_20 (b : Bool) (L : Nat) (xs : Nat → Int32) (d : Nat) (Q : Option Value → pm_H → Prop) (h : pm_H) (l0 : Nat) (l1 : Int32) (l2 : Int32) (l3 : Int32) : ((Int32 × Int32) ⊕ Int32) → Prop
  | .inl s => PW b L xs d 234 0 0 20 [(Value.ref l0), (Value.int l1), (Value.int l2), (Value.int l3), (Value.int s.1), (Value.int s.2)] [] h Q
  | .inr e => ∀ w5 : Value, PW b L xs d 234 0 0 62 [(Value.ref l0), (Value.int l1), (Value.int l2), (Value.int l3), (Value.int e), w5] [] h Q
def E_m_needOfWord_4 (b : Bool) (L : Nat) (xs : Nat → Int32) (d : Nat) (Q : Option Value → pm_H → Prop) (h : pm_H) (l0 : Nat) (l1 : Int32) : ((Int32 × Int32) ⊕ Int32) → Prop
  | .inl s => ∀ w4 w5 : Value, PW b L xs d 234 0 0 4 [(Value.ref l0), (Value.int l1), (Value.int s.1), (Value.int s.2), w4, w5] [] h Q
  | .inr e => ∀ w0 w1 w3 w4 w5 : Value, PW b L xs d 234 0 0 94 [w0, w1, (Value.int e), w3, w4, w5] [] h Q
noncomputable def m_needOfWord_87 (l0 : Nat) (l1 : Int32) (l3 : Int32) (z0 : Int32) (h : pm_H) : Option ((Int32 × Int32) ⊕ Int32) := some (.inl (z0, (l3 + Int32.ofInt 1)))
theorem t_m_needOfWord_87 (b : Bool) (L : Nat) (xs : Nat → Int32) (d : Nat) (hd : 1 ≤ d) {Q : Option Value → pm_H → Prop} (h : pm_H) (s_h : h.1 = tb_SH) (l0 : Nat) (l1 : Int32) (l3 : Int32) (z0 : Int32) (w2 : Value) (w4 : Value) (w5 : Value) (f_l0 : mi_o l0 10 = true) {r : ((Int32 × Int32) ⊕ Int32)} (hm : m_needOfWord_87 l0 l1 l3 z0 h = some r) (hE : E_m_needOfWord_4 b L xs d Q h l0 l1 r) : PW b L xs d 234 0 0 87 [(Value.ref l0), (Value.int l1), w2, (Value.int l3), w4, w5] [(Value.int z0)] h Q := by
  rw [m_needOfWord_87] at hm
  refine pw_t (pc := 87) d234_87 rfl rfl rfl rfl ?_
  refine pw_t (pc := 88) d234_88 rfl rfl rfl rfl ?_
  refine pw_go (pc := 91) (t := 4) d234_91 (by decide) ?_
  obtain rfl := Option.some.inj hm
  exact hE   w4 w5
noncomputable def m_needOfWord_54 (l0 : Nat) (l1 : Int32) (l2 : Int32) (l3 : Int32) (l5 : Int32) (z0 : Int32) (h : pm_H) : Option ((Int32 × Int32) ⊕ Int32) := some (.inl (z0, (l5 + Int32.ofInt 1)))
theorem t_m_needOfWord_54 (b : Bool) (L : Nat) (xs : Nat → Int32) (d : Nat) (hd : 1 ≤ d) {Q : Option Value → pm_H → Prop} (h : pm_H) (s_h : h.1 = tb_SH) (l0 : Nat) (l1 : Int32) (l2 : Int32) (l3 : Int32) (l5 : Int32) (z0 : Int32) (w4 : Value) (f_l0 : mi_o l0 10 = true) {r : ((Int32 × Int32) ⊕ Int32)} (hm : m_needOfWord_54 l0 l1 l2 l3 l5 z0 h = some r) (hE : E_m_needOfWord_20 b L xs d Q h l0 l1 l2 l3 r) : PW b L xs d 234 0 0 54 [(Value.ref l0), (Value.int l1), (Value.int l2), (Value.int l3), w4, (Value.int l5)] [(Value.int z0)] h Q := by
  rw [m_needOfWord_54] at hm
  refine pw_t (pc := 54) d234_54 rfl rfl rfl rfl ?_
  refine pw_t (pc := 56) d234_56 rfl rfl rfl rfl ?_
  refine pw_go (pc := 59) (t := 20) d234_59 (by decide) ?_
  obtain rfl := Option.some.inj hm
  exact hE   
noncomputable def m_needOfWord_49 (l0 : Nat) (l1 : Int32) (l2 : Int32) (l3 : Int32) (l5 : Int32) (h : pm_H) : Option ((Int32 × Int32) ⊕ Int32) := m_needOfWord_54 l0 l1 l2 l3 l5 (Int32.ofInt 1) h
theorem t_m_needOfWord_49 (b : Bool) (L : Nat) (xs : Nat → Int32) (d : Nat) (hd : 1 ≤ d) {Q : Option Value → pm_H → Prop} (h : pm_H) (s_h : h.1 = tb_SH) (l0 : Nat) (l1 : Int32) (l2 : Int32) (l3 : Int32) (l5 : Int32) (w4 : Value) (f_l0 : mi_o l0 10 = true) {r : ((Int32 × Int32) ⊕ Int32)} (hm : m_needOfWord_49 l0 l1 l2 l3 l5 h = some r) (hE : E_m_needOfWord_20 b L xs d Q h l0 l1 l2 l3 r) : PW b L xs d 234 0 0 49 [(Value.ref l0), (Value.int l1), (Value.int l2), (Value.int l3), w4, (Value.int l5)] [] h Q := by
  rw [m_needOfWord_49] at hm
  refine pw_s (pc := 49) d234_49 rfl rfl ?_
  refine pw_go (pc := 50) (t := 54) d234_50 (by decide) ?_
  exact t_m_needOfWord_54 b L xs d hd h s_h l0 l1 l2 l3 l5 (Int32.ofInt 1) w4 f_l0  hm hE
noncomputable def m_needOfWord_20 (l0 : Nat) (l1 : Int32) (l2 : Int32) (l3 : Int32) (l4 : Int32) (l5 : Int32) (h : pm_H) : Option ((Int32 × Int32) ⊕ Int32) := (m_orderOf l0 l3 (Int32.ofInt 1) h).bind fun q1 => if q1 ≤ l5 then (some (.inr l4)) else (if ¬ l4 = 0 then (m_needOfWord_49 l0 l1 l2 l3 l5 h) else ((m_orderOf l0 l3 ((Int32.ofInt 2) + l5) h).bind fun q4 => if ¬ q4 = l1 then (m_needOfWord_54 l0 l1 l2 l3 l5 (Int32.ofInt 0) h) else (m_needOfWord_49 l0 l1 l2 l3 l5 h)))
theorem t_m_needOfWord_20 (b : Bool) (L : Nat) (xs : Nat → Int32) (d : Nat) (hd : 1 ≤ d) {Q : Option Value → pm_H → Prop} (h : pm_H) (s_h : h.1 = tb_SH) (l0 : Nat) (l1 : Int32) (l2 : Int32) (l3 : Int32) (l4 : Int32) (l5 : Int32) (f_l0 : mi_o l0 10 = true) {r : ((Int32 × Int32) ⊕ Int32)} (hm : m_needOfWord_20 l0 l1 l2 l3 l4 l5 h = some r) (hE : E_m_needOfWord_20 b L xs d Q h l0 l1 l2 l3 r) : PW b L xs d 234 0 0 20 [(Value.ref l0), (Value.int l1), (Value.int l2), (Value.int l3), (Value.int l4), (Value.int l5)] [] h Q := by
  rw [m_needOfWord_20] at hm
  refine pw_l (pc := 20) d234_20 rfl rfl rfl ?_
  refine pw_l (pc := 22) d234_22 rfl rfl rfl ?_
  refine pw_l (pc := 23) d234_23 rfl rfl rfl ?_
  refine pw_s (pc := 24) d234_24 rfl rfl ?_
  obtain ⟨q1, e_q1, hm⟩ := ob_x hm
  refine pw_v (pc := 25) (k := l0) (by omega) d234_25 (k234_293 b) (by decide) m203 (by decide) rfl (sho s_h f_l0) (Nat.le_of_ble_eq_true rfl) (Nat.le_of_ble_eq_true rfl) rfl rfl (T_m_orderOf b L xs (d - 1) (by omega) h s_h l0 l3 (Int32.ofInt 1) f_l0 e_q1) (fun v0 h0 hq => ?_)
  obtain ⟨rfl, hh0, s_q1⟩ := hq
  rw [hh0] at s_q1 ⊢
  simp only [Option.toList_some, List.cons_append, List.nil_append]
  refine pw_ige (pc := 28) (t := 62) d234_28 (by decide) (fun c2 => ?_) (fun c2 => ?_)
  · rw [if_pos c2] at hm
    obtain rfl := Option.some.inj hm
    exact hE   (Value.int l5)
  · rw [if_neg c2] at hm
    refine pw_l (pc := 31) d234_31 rfl rfl rfl ?_
    refine pw_zne (pc := 33) (t := 49) d234_33 (by decide) (fun c3 => ?_) (fun c3 => ?_)
    · rw [if_pos c3] at hm
      exact t_m_needOfWord_49 b L xs d hd h s_h l0 l1 l2 l3 l5 (Value.int l4) f_l0  hm hE
    · rw [if_neg c3] at hm
      refine pw_l (pc := 36) d234_36 rfl rfl rfl ?_
      refine pw_l (pc := 37) d234_37 rfl rfl rfl ?_
      refine pw_s (pc := 38) d234_38 rfl rfl ?_
      refine pw_l (pc := 39) d234_39 rfl rfl rfl ?_
      refine pw_s (pc := 41) d234_41 rfl rfl ?_
      obtain ⟨q4, e_q4, hm⟩ := ob_x hm
      refine pw_v (pc := 42) (k := l0) (by omega) d234_42 (k234_293 b) (by decide) m203 (by decide) rfl (sho s_h f_l0) (Nat.le_of_ble_eq_true rfl) (Nat.le_of_ble_eq_true rfl) rfl rfl (T_m_orderOf b L xs (d - 1) (by omega) h s_h l0 l3 ((Int32.ofInt 2) + l5) f_l0 e_q4) (fun v0 h0 hq => ?_)
      obtain ⟨rfl, hh0, s_q4⟩ := hq
      rw [hh0] at s_q4 ⊢
      simp only [Option.toList_some, List.cons_append, List.nil_append]
      refine pw_l (pc := 45) d234_45 rfl rfl rfl ?_
      refine pw_ine (pc := 46) (t := 53) d234_46 (by decide) (fun c5 => ?_) (fun c5 => ?_)
      · rw [if_pos c5] at hm
        refine pw_s (pc := 53) d234_53 rfl rfl ?_
        exact t_m_needOfWord_54 b L xs d hd h s_h l0 l1 l2 l3 l5 (Int32.ofInt 0) (Value.int l4) f_l0  hm hE
      · rw [if_neg c5] at hm
        exact t_m_needOfWord_49 b L xs d hd h s_h l0 l1 l2 l3 l5 (Value.int l4) f_l0  hm hE
noncomputable def m_needOfWord_4 (l0 : Nat) (l1 : Int32) (l2 : Int32) (l3 : Int32) (h : pm_H) : Option ((Int32 × Int32) ⊕ Int32) := (gA h l0 20 .int).bind fun y1 => if mi_in (Int32.ofInt 2) (mi_n y1) = true then if (h.2.1 y1 (Int32.ofInt 2).toNatClampNeg) ≤ l3 then (some (.inr l2)) else ((wh (fun s : (Int32 × Int32) => m_needOfWord_20 l0 l1 l2 l3 s.1 s.2 h) ((Int32.ofInt 0), (Int32.ofInt 0))).bind fun q4 => if q4 = 0 then (m_needOfWord_87 l0 l1 l3 l2 h) else ((m_orderOf l0 l3 (Int32.ofInt 0) h).bind fun q6 => if q6 ≤ l2 then (m_needOfWord_87 l0 l1 l3 l2 h) else ((m_orderOf l0 l3 (Int32.ofInt 0) h).bind fun q8 => m_needOfWord_87 l0 l1 l3 q8 h))) else none
theorem t_m_needOfWord_4 (b : Bool) (L : Nat) (xs : Nat → Int32) (d : Nat) (hd : 1 ≤ d) {Q : Option Value → pm_H → Prop} (h : pm_H) (s_h : h.1 = tb_SH) (l0 : Nat) (l1 : Int32) (l2 : Int32) (l3 : Int32) (w4 : Value) (w5 : Value) (f_l0 : mi_o l0 10 = true) {r : ((Int32 × Int32) ⊕ Int32)} (hm : m_needOfWord_4 l0 l1 l2 l3 h = some r) (hE : E_m_needOfWord_4 b L xs d Q h l0 l1 r) : PW b L xs d 234 0 0 4 [(Value.ref l0), (Value.int l1), (Value.int l2), (Value.int l3), w4, w5] [] h Q := by
  rw [m_needOfWord_4] at hm
  refine pw_l (pc := 4) d234_4 rfl rfl rfl ?_
  refine pw_l (pc := 5) d234_5 rfl rfl rfl ?_
  obtain ⟨y1, e_y1, hm⟩ := ob_x hm
  have f_y1 := gA_x e_y1
  refine pw_gr (pc := 6) d234_6 (k234_39 b) (sho s_h f_l0) f10_20 f_y1.1 ?_
  refine pw_s (pc := 9) d234_9 rfl rfl ?_
  obtain ⟨g2, hm⟩ := gd_x hm
  refine pw_ai (pc := 10) d234_10 (sha s_h f_y1.2) (mi_in_x g2) ?_
  refine pw_ige (pc := 11) (t := 94) d234_11 (by decide) (fun c3 => ?_) (fun c3 => ?_)
  · rw [if_pos c3] at hm
    obtain rfl := Option.some.inj hm
    exact hE   (Value.ref l0) (Value.int l1) (Value.int l3) w4 w5
  · rw [if_neg c3] at hm
    refine pw_s (pc := 14) d234_14 rfl rfl ?_
    refine pw_t (pc := 15) d234_15 rfl rfl rfl rfl ?_
    refine pw_s (pc := 17) d234_17 rfl rfl ?_
    refine pw_t (pc := 18) d234_18 rfl rfl rfl rfl ?_
    obtain ⟨q4, e_q4, hm⟩ := ob_x hm
    refine wh_ind e_q4 (fun s : (Int32 × Int32) => PW b L xs d 234 0 0 20 [(Value.ref l0), (Value.int l1), (Value.int l2), (Value.int l3), (Value.int s.1), (Value.int s.2)] [] h Q) (fun s s2 hf ih  => t_m_needOfWord_20 b L xs d hd h s_h l0 l1 l2 l3 s.1 s.2  f_l0 hf ih) (fun s hf  => t_m_needOfWord_20 b L xs d hd h s_h l0 l1 l2 l3 s.1 s.2  f_l0 hf ?_)   
    intro w5
    refine pw_l (pc := 62) d234_62 rfl rfl rfl ?_
    refine pw_zeq (pc := 64) (t := 86) d234_64 (by decide) (fun c5 => ?_) (fun c5 => ?_)
    · rw [if_pos c5] at hm
      refine pw_l (pc := 86) d234_86 rfl rfl rfl ?_
      exact t_m_needOfWord_87 b L xs d hd h s_h l0 l1 l3 l2 (Value.int l2) (Value.int q4) w5 f_l0  hm hE
    · rw [if_neg c5] at hm
      refine pw_l (pc := 67) d234_67 rfl rfl rfl ?_
      refine pw_l (pc := 68) d234_68 rfl rfl rfl ?_
      refine pw_s (pc := 69) d234_69 rfl rfl ?_
      obtain ⟨q6, e_q6, hm⟩ := ob_x hm
      refine pw_v (pc := 70) (k := l0) (by omega) d234_70 (k234_293 b) (by decide) m203 (by decide) rfl (sho s_h f_l0) (Nat.le_of_ble_eq_true rfl) (Nat.le_of_ble_eq_true rfl) rfl rfl (T_m_orderOf b L xs (d - 1) (by omega) h s_h l0 l3 (Int32.ofInt 0) f_l0 e_q6) (fun v0 h0 hq => ?_)
      obtain ⟨rfl, hh0, s_q6⟩ := hq
      rw [hh0] at s_q6 ⊢
      simp only [Option.toList_some, List.cons_append, List.nil_append]
      refine pw_l (pc := 73) d234_73 rfl rfl rfl ?_
      refine pw_ile (pc := 74) (t := 86) d234_74 (by decide) (fun c7 => ?_) (fun c7 => ?_)
      · rw [if_pos c7] at hm
        refine pw_l (pc := 86) d234_86 rfl rfl rfl ?_
        exact t_m_needOfWord_87 b L xs d hd h s_h l0 l1 l3 l2 (Value.int l2) (Value.int q4) w5 f_l0  hm hE
      · rw [if_neg c7] at hm
        refine pw_l (pc := 77) d234_77 rfl rfl rfl ?_
        refine pw_l (pc := 78) d234_78 rfl rfl rfl ?_
        refine pw_s (pc := 79) d234_79 rfl rfl ?_
        obtain ⟨q8, e_q8, hm⟩ := ob_x hm
        refine pw_v (pc := 80) (k := l0) (by omega) d234_80 (k234_293 b) (by decide) m203 (by decide) rfl (sho s_h f_l0) (Nat.le_of_ble_eq_true rfl) (Nat.le_of_ble_eq_true rfl) rfl rfl (T_m_orderOf b L xs (d - 1) (by omega) h s_h l0 l3 (Int32.ofInt 0) f_l0 e_q8) (fun v0 h0 hq => ?_)
        obtain ⟨rfl, hh0, s_q8⟩ := hq
        rw [hh0] at s_q8 ⊢
        simp only [Option.toList_some, List.cons_append, List.nil_append]
        refine pw_go (pc := 83) (t := 87) d234_83 (by decide) ?_
        exact t_m_needOfWord_87 b L xs d hd h s_h l0 l1 l3 q8 (Value.int l2) (Value.int q4) w5 f_l0  hm hE
noncomputable def m_needOfWord (l0 : Nat) (l1 : Int32) (h : pm_H) : Option Int32 := (wh (fun s : (Int32 × Int32) => m_needOfWord_4 l0 l1 s.1 s.2 h) ((Int32.ofInt 0), (Int32.ofInt 0))).bind fun q1 => some q1
theorem T_m_needOfWord (b : Bool) (L : Nat) (xs : Nat → Int32) (d : Nat) (hd : 1 ≤ d) (h : pm_H) (s_h : h.1 = tb_SH) (l0 : Nat) (l1 : Int32) (f_l0 : mi_o l0 10 = true) {r : Int32} (hm : m_needOfWord l0 l1 h = some r) : PC b L xs d 234 [(Value.ref l0), (Value.int l1)] h (fun (v0 : Option Value) (h2 : pm_H) => v0 = (some (Value.int r)) ∧ h2 = h ∧ h2.1 = tb_SH) := by
  refine pc_in e234 (ls0 := [(Value.ref l0), (Value.int l1), Value.retAddr 0, Value.retAddr 0, Value.retAddr 0, Value.retAddr 0]) rfl ?_
  have key : ∀ (Q : Option Value → pm_H → Prop), (Q (some (Value.int r)) h) → PW b L xs d 234 0 0 0 [(Value.ref l0), (Value.int l1), Value.retAddr 0, Value.retAddr 0, Value.retAddr 0, Value.retAddr 0] [] h Q := by
    intro Q hE
    rw [m_needOfWord] at hm
    refine pw_s (pc := 0) d234_0 rfl rfl ?_
    refine pw_t (pc := 1) d234_1 rfl rfl rfl rfl ?_
    refine pw_s (pc := 2) d234_2 rfl rfl ?_
    refine pw_t (pc := 3) d234_3 rfl rfl rfl rfl ?_
    obtain ⟨q1, e_q1, hm⟩ := ob_x hm
    refine wh_ind e_q1 (fun s : (Int32 × Int32) => ∀ w4 w5 : Value, PW b L xs d 234 0 0 4 [(Value.ref l0), (Value.int l1), (Value.int s.1), (Value.int s.2), w4, w5] [] h Q) (fun s s2 hf ih w4 w5 => t_m_needOfWord_4 b L xs d hd h s_h l0 l1 s.1 s.2 w4 w5 f_l0 hf ih) (fun s hf w4 w5 => t_m_needOfWord_4 b L xs d hd h s_h l0 l1 s.1 s.2 w4 w5 f_l0 hf ?_)   (Value.retAddr 0) (Value.retAddr 0)
    intro w0 w1 w3 w4 w5
    refine pw_l (pc := 94) d234_94 rfl rfl rfl ?_
    obtain rfl := Option.some.inj hm
    refine pw_ri (pc := 95) d234_95 t234 rfl ?_
    exact hE
  exact key _ ⟨rfl, rfl, s_h⟩
def E_m_words_4 (b : Bool) (L : Nat) (xs : Nat → Int32) (d : Nat) (Q : Option Value → pm_H → Prop) (l0 : Nat) (l1 : Int32) : ((Int32 × Int32 × pm_H) ⊕ (Int32 × pm_H)) → Prop
  | .inl s => s.2.2.1 = tb_SH → PW b L xs d 235 0 0 4 [(Value.ref l0), (Value.int l1), (Value.int s.1), (Value.int s.2.1)] [] s.2.2 Q
  | .inr e => e.2.1 = tb_SH → ∀ w3 : Value, PW b L xs d 235 0 0 56 [(Value.ref l0), (Value.int l1), (Value.int e.1), w3] [] e.2 Q
noncomputable def m_words_48 (l0 : Nat) (l1 : Int32) (l3 : Int32) (z0 : Int32) (z1 : Int32) (h : pm_H) : Option ((Int32 × Int32 × pm_H) ⊕ (Int32 × pm_H)) := some (.inl ((z1 + z0), (l3 + Int32.ofInt 1), h))
theorem t_m_words_48 (b : Bool) (L : Nat) (xs : Nat → Int32) (d : Nat) (hd : 3 ≤ d) {Q : Option Value → pm_H → Prop} (h : pm_H) (s_h : h.1 = tb_SH) (l0 : Nat) (l1 : Int32) (l3 : Int32) (z0 : Int32) (z1 : Int32) (w2 : Value) (f_l0 : mi_o l0 10 = true) {r : ((Int32 × Int32 × pm_H) ⊕ (Int32 × pm_H))} (hm : m_words_48 l0 l1 l3 z0 z1 h = some r) (hE : E_m_words_4 b L xs d Q l0 l1 r) : PW b L xs d 235 0 0 48 [(Value.ref l0), (Value.int l1), w2, (Value.int l3)] [(Value.int z0), (Value.int z1)] h Q := by
  rw [m_words_48] at hm
  refine pw_s (pc := 48) d235_48 rfl rfl ?_
  refine pw_t (pc := 49) d235_49 rfl rfl rfl rfl ?_
  refine pw_t (pc := 50) d235_50 rfl rfl rfl rfl ?_
  refine pw_go (pc := 53) (t := 4) d235_53 (by decide) ?_
  obtain rfl := Option.some.inj hm
  exact hE s_h  
noncomputable def m_words_4 (l0 : Nat) (l1 : Int32) (l2 : Int32) (l3 : Int32) (h : pm_H) : Option ((Int32 × Int32 × pm_H) ⊕ (Int32 × pm_H)) := (gA h l0 20 .int).bind fun y1 => if mi_in (Int32.ofInt 1) (mi_n y1) = true then if (h.2.1 y1 (Int32.ofInt 1).toNatClampNeg) ≤ l3 then (some (.inr (l2, h))) else (if l3 = l1 then (m_words_48 l0 l1 l3 (Int32.ofInt 0) l2 h) else ((m_isAlive l0 l3 h).bind fun q5 => if q5 = 0 then (m_words_48 l0 l1 l3 (Int32.ofInt 0) l2 h) else ((m_manOf l0 l3 (Int32.ofInt 0) h).bind fun q7 => (m_manOf l0 l1 (Int32.ofInt 0) h).bind fun q8 => if ¬ q7 = q8 then (m_words_48 l0 l1 l3 (Int32.ofInt 0) l2 h) else (m_words_48 l0 l1 l3 (Int32.ofInt 1) l2 h)))) else none
theorem t_m_words_4 (b : Bool) (L : Nat) (xs : Nat → Int32) (d : Nat) (hd : 3 ≤ d) {Q : Option Value → pm_H → Prop} (h : pm_H) (s_h : h.1 = tb_SH) (l0 : Nat) (l1 : Int32) (l2 : Int32) (l3 : Int32) (f_l0 : mi_o l0 10 = true) {r : ((Int32 × Int32 × pm_H) ⊕ (Int32 × pm_H))} (hm : m_words_4 l0 l1 l2 l3 h = some r) (hE : E_m_words_4 b L xs d Q l0 l1 r) : PW b L xs d 235 0 0 4 [(Value.ref l0), (Value.int l1), (Value.int l2), (Value.int l3)] [] h Q := by
  rw [m_words_4] at hm
  refine pw_l (pc := 4) d235_4 rfl rfl rfl ?_
  refine pw_l (pc := 5) d235_5 rfl rfl rfl ?_
  obtain ⟨y1, e_y1, hm⟩ := ob_x hm
  have f_y1 := gA_x e_y1
  refine pw_gr (pc := 6) d235_6 (k235_39 b) (sho s_h f_l0) f10_20 f_y1.1 ?_
  refine pw_s (pc := 9) d235_9 rfl rfl ?_
  obtain ⟨g2, hm⟩ := gd_x hm
  refine pw_ai (pc := 10) d235_10 (sha s_h f_y1.2) (mi_in_x g2) ?_
  refine pw_ige (pc := 11) (t := 56) d235_11 (by decide) (fun c3 => ?_) (fun c3 => ?_)
  · rw [if_pos c3] at hm
    obtain rfl := Option.some.inj hm
    exact hE s_h  (Value.int l3)
  · rw [if_neg c3] at hm
    refine pw_l (pc := 14) d235_14 rfl rfl rfl ?_
    refine pw_l (pc := 15) d235_15 rfl rfl rfl ?_
    refine pw_l (pc := 16) d235_16 rfl rfl rfl ?_
    refine pw_ieq (pc := 17) (t := 47) d235_17 (by decide) (fun c4 => ?_) (fun c4 => ?_)
    · rw [if_pos c4] at hm
      refine pw_s (pc := 47) d235_47 rfl rfl ?_
      exact t_m_words_48 b L xs d hd h s_h l0 l1 l3 (Int32.ofInt 0) l2 (Value.int l2) f_l0  hm hE
    · rw [if_neg c4] at hm
      refine pw_l (pc := 20) d235_20 rfl rfl rfl ?_
      refine pw_l (pc := 21) d235_21 rfl rfl rfl ?_
      obtain ⟨q5, e_q5, hm⟩ := ob_x hm
      refine pw_v (pc := 22) (k := l0) (by omega) d235_22 (k235_277 b) (by decide) m197 (by decide) rfl (sho s_h f_l0) (Nat.le_of_ble_eq_true rfl) (Nat.le_of_ble_eq_true rfl) rfl rfl (T_m_isAlive b L xs (d - 1) (by omega) h s_h l0 l3 f_l0 e_q5) (fun v0 h0 hq => ?_)
      obtain ⟨rfl, hh0, s_q5⟩ := hq
      rw [hh0] at s_q5 ⊢
      simp only [Option.toList_some, List.cons_append, List.nil_append]
      refine pw_zeq (pc := 25) (t := 47) d235_25 (by decide) (fun c6 => ?_) (fun c6 => ?_)
      · rw [if_pos c6] at hm
        refine pw_s (pc := 47) d235_47 rfl rfl ?_
        exact t_m_words_48 b L xs d hd h s_h l0 l1 l3 (Int32.ofInt 0) l2 (Value.int l2) f_l0  hm hE
      · rw [if_neg c6] at hm
        refine pw_l (pc := 28) d235_28 rfl rfl rfl ?_
        refine pw_l (pc := 29) d235_29 rfl rfl rfl ?_
        refine pw_s (pc := 30) d235_30 rfl rfl ?_
        obtain ⟨q7, e_q7, hm⟩ := ob_x hm
        refine pw_v (pc := 31) (k := l0) (by omega) d235_31 (k235_273 b) (by decide) m196 (by decide) rfl (sho s_h f_l0) (Nat.le_of_ble_eq_true rfl) (Nat.le_of_ble_eq_true rfl) rfl rfl (T_m_manOf b L xs (d - 1) (by omega) h s_h l0 l3 (Int32.ofInt 0) f_l0 e_q7) (fun v0 h0 hq => ?_)
        obtain ⟨rfl, hh0, s_q7⟩ := hq
        rw [hh0] at s_q7 ⊢
        simp only [Option.toList_some, List.cons_append, List.nil_append]
        refine pw_l (pc := 34) d235_34 rfl rfl rfl ?_
        refine pw_l (pc := 35) d235_35 rfl rfl rfl ?_
        refine pw_s (pc := 36) d235_36 rfl rfl ?_
        obtain ⟨q8, e_q8, hm⟩ := ob_x hm
        refine pw_v (pc := 37) (k := l0) (by omega) d235_37 (k235_273 b) (by decide) m196 (by decide) rfl (sho s_h f_l0) (Nat.le_of_ble_eq_true rfl) (Nat.le_of_ble_eq_true rfl) rfl rfl (T_m_manOf b L xs (d - 1) (by omega) h s_h l0 l1 (Int32.ofInt 0) f_l0 e_q8) (fun v0 h0 hq => ?_)
        obtain ⟨rfl, hh0, s_q8⟩ := hq
        rw [hh0] at s_q8 ⊢
        simp only [Option.toList_some, List.cons_append, List.nil_append]
        refine pw_ine (pc := 40) (t := 47) d235_40 (by decide) (fun c9 => ?_) (fun c9 => ?_)
        · rw [if_pos c9] at hm
          refine pw_s (pc := 47) d235_47 rfl rfl ?_
          exact t_m_words_48 b L xs d hd h s_h l0 l1 l3 (Int32.ofInt 0) l2 (Value.int l2) f_l0  hm hE
        · rw [if_neg c9] at hm
          refine pw_s (pc := 43) d235_43 rfl rfl ?_
          refine pw_go (pc := 44) (t := 48) d235_44 (by decide) ?_
          exact t_m_words_48 b L xs d hd h s_h l0 l1 l3 (Int32.ofInt 1) l2 (Value.int l2) f_l0  hm hE
noncomputable def m_words (l0 : Nat) (l1 : Int32) (h : pm_H) : Option pm_H := (wh (fun s : (Int32 × Int32 × pm_H) => m_words_4 l0 l1 s.1 s.2.1 s.2.2) ((Int32.ofInt 0), (Int32.ofInt 0), h)).bind fun q1 => (gA q1.2 l0 19 .long).bind fun y2 => if mi_in (Int32.ofInt 0) (mi_n y2) = true then bd (pm_setL q1.2 y2 (Int32.ofInt 0).toNatClampNeg l1.toInt64) fun h4 => (gA h4 l0 19 .long).bind fun y5 => (m_manOf l0 l1 (Int32.ofInt 0) h4).bind fun q6 => if mi_in (Int32.ofInt 1) (mi_n y5) = true then bd (pm_setL h4 y5 (Int32.ofInt 1).toNatClampNeg q6.toInt64) fun h8 => (gA h8 l0 19 .long).bind fun y9 => (m_manOf l0 l1 (Int32.ofInt 1) h8).bind fun q10 => if mi_in (Int32.ofInt 2) (mi_n y9) = true then bd (pm_setL h8 y9 (Int32.ofInt 2).toNatClampNeg q10.toInt64) fun h12 => (gA h12 l0 19 .long).bind fun y13 => (gA h12 l0 20 .int).bind fun y14 => if mi_in (Int32.ofInt 4) (mi_n y14) = true then if mi_in (Int32.ofInt 3) (mi_n y13) = true then bd (pm_setL h12 y13 (Int32.ofInt 3).toNatClampNeg ((h12.2.1 y14 (Int32.ofInt 4).toNatClampNeg).toInt64)) fun h17 => (gA h17 l0 19 .long).bind fun y18 => (gA h17 l0 20 .int).bind fun y19 => if mi_in (Int32.ofInt 5) (mi_n y19) = true then if mi_in (Int32.ofInt 4) (mi_n y18) = true then bd (pm_setL h17 y18 (Int32.ofInt 4).toNatClampNeg ((h17.2.1 y19 (Int32.ofInt 5).toNatClampNeg).toInt64)) fun h22 => (gA h22 l0 19 .long).bind fun y23 => (m_awakeSet l0 h22).bind fun q24 => (m_bits (q24 &&& (((Int32.ofInt 1) <<< (l1 &&& 31)) ^^^ (Int32.ofInt (-1)))) h22).bind fun q25 => if mi_in (Int32.ofInt 5) (mi_n y23) = true then bd (pm_setL h22 y23 (Int32.ofInt 5).toNatClampNeg q25.toInt64) fun h27 => (gA h27 l0 19 .long).bind fun y28 => (m_manOf l0 l1 (Int32.ofInt 3) h27).bind fun q29 => if mi_in ((Int8.ofInt 6).toInt32) (mi_n y28) = true then bd (pm_setL h27 y28 ((Int8.ofInt 6).toInt32).toNatClampNeg q29.toInt64) fun h31 => (gA h31 l0 19 .long).bind fun y32 => (m_manOf l0 l1 (Int32.ofInt 5) h31).bind fun q33 => if mi_in ((Int8.ofInt 7).toInt32) (mi_n y32) = true then bd (pm_setL h31 y32 ((Int8.ofInt 7).toInt32).toNatClampNeg q33.toInt64) fun h35 => (gA h35 l0 19 .long).bind fun y36 => if mi_in ((Int8.ofInt 8).toInt32) (mi_n y36) = true then bd (pm_setL h35 y36 ((Int8.ofInt 8).toInt32).toNatClampNeg q1.1.toInt64) fun h38 => (gA h38 l0 19 .long).bind fun y39 => (m_manOf l0 l1 (Int32.ofInt 0) h38).bind fun q40 => (m_needOfWord l0 q40 h38).bind fun q41 => if mi_in ((Int8.ofInt 9).toInt32) (mi_n y39) = true then bd (pm_setL h38 y39 ((Int8.ofInt 9).toInt32).toNatClampNeg q41.toInt64) fun h43 => (gA h43 l0 19 .long).bind fun y44 => (m_aliveSet l0 h43).bind fun q45 => (m_bits q45 h43).bind fun q46 => if mi_in ((Int8.ofInt 10).toInt32) (mi_n y44) = true then bd (pm_setL h43 y44 ((Int8.ofInt 10).toInt32).toNatClampNeg q46.toInt64) fun h48 => some h48 else none else none else none else none else none else none else none else none else none else none else none else none else none
theorem T_m_words (b : Bool) (L : Nat) (xs : Nat → Int32) (d : Nat) (hd : 3 ≤ d) (h : pm_H) (s_h : h.1 = tb_SH) (l0 : Nat) (l1 : Int32) (f_l0 : mi_o l0 10 = true) {r : pm_H} (hm : m_words l0 l1 h = some r) : PC b L xs d 235 [(Value.ref l0), (Value.int l1)] h (fun (v0 : Option Value) (h2 : pm_H) => v0 = none ∧ h2 = r ∧ h2.1 = tb_SH) := by
  refine pc_in e235 (ls0 := [(Value.ref l0), (Value.int l1), Value.retAddr 0, Value.retAddr 0]) rfl ?_
  have key : ∀ (Q : Option Value → pm_H → Prop), (r.1 = tb_SH → Q none r) → PW b L xs d 235 0 0 0 [(Value.ref l0), (Value.int l1), Value.retAddr 0, Value.retAddr 0] [] h Q := by
    intro Q hE
    rw [m_words] at hm
    refine pw_s (pc := 0) d235_0 rfl rfl ?_
    refine pw_t (pc := 1) d235_1 rfl rfl rfl rfl ?_
    refine pw_s (pc := 2) d235_2 rfl rfl ?_
    refine pw_t (pc := 3) d235_3 rfl rfl rfl rfl ?_
    obtain ⟨q1, e_q1, hm⟩ := ob_x hm
    refine wh_ind e_q1 (fun s : (Int32 × Int32 × pm_H) => s.2.2.1 = tb_SH → PW b L xs d 235 0 0 4 [(Value.ref l0), (Value.int l1), (Value.int s.1), (Value.int s.2.1)] [] s.2.2 Q) (fun s s2 hf ih sx => t_m_words_4 b L xs d hd s.2.2 sx l0 l1 s.1 s.2.1  f_l0 hf ih) (fun s hf sx => t_m_words_4 b L xs d hd s.2.2 sx l0 l1 s.1 s.2.1  f_l0 hf ?_) s_h  
    intro s_q1_0 w3
    refine pw_l (pc := 56) d235_56 rfl rfl rfl ?_
    obtain ⟨y2, e_y2, hm⟩ := ob_x hm
    have f_y2 := gA_x e_y2
    refine pw_gr (pc := 57) d235_57 (k235_36 b) (sho s_q1_0 f_l0) f10_19 f_y2.1 ?_
    refine pw_s (pc := 60) d235_60 rfl rfl ?_
    refine pw_l (pc := 61) d235_61 rfl rfl rfl ?_
    refine pw_s (pc := 62) d235_62 rfl rfl ?_
    obtain ⟨g3, hm⟩ := gd_x hm
    refine pw_sl (pc := 63) d235_63 (sha s_q1_0 f_y2.2) (mi_in_x g3) ?_
    obtain ⟨h4, e_h4, hm⟩ := bd_x hm
    rw [e_h4]
    have s_h4 : h4.1 = tb_SH := by rw [← e_h4]; exact s_q1_0
    refine pw_l (pc := 64) d235_64 rfl rfl rfl ?_
    obtain ⟨y5, e_y5, hm⟩ := ob_x hm
    have f_y5 := gA_x e_y5
    refine pw_gr (pc := 65) d235_65 (k235_36 b) (sho s_h4 f_l0) f10_19 f_y5.1 ?_
    refine pw_s (pc := 68) d235_68 rfl rfl ?_
    refine pw_l (pc := 69) d235_69 rfl rfl rfl ?_
    refine pw_l (pc := 70) d235_70 rfl rfl rfl ?_
    refine pw_s (pc := 71) d235_71 rfl rfl ?_
    obtain ⟨q6, e_q6, hm⟩ := ob_x hm
    refine pw_v (pc := 72) (k := l0) (by omega) d235_72 (k235_273 b) (by decide) m196 (by decide) rfl (sho s_h4 f_l0) (Nat.le_of_ble_eq_true rfl) (Nat.le_of_ble_eq_true rfl) rfl rfl (T_m_manOf b L xs (d - 1) (by omega) h4 s_h4 l0 l1 (Int32.ofInt 0) f_l0 e_q6) (fun v0 h0 hq => ?_)
    obtain ⟨rfl, hh0, s_q6⟩ := hq
    rw [hh0] at s_q6 ⊢
    simp only [Option.toList_some, List.cons_append, List.nil_append]
    refine pw_s (pc := 75) d235_75 rfl rfl ?_
    obtain ⟨g7, hm⟩ := gd_x hm
    refine pw_sl (pc := 76) d235_76 (sha s_h4 f_y5.2) (mi_in_x g7) ?_
    obtain ⟨h8, e_h8, hm⟩ := bd_x hm
    rw [e_h8]
    have s_h8 : h8.1 = tb_SH := by rw [← e_h8]; exact s_h4
    refine pw_l (pc := 77) d235_77 rfl rfl rfl ?_
    obtain ⟨y9, e_y9, hm⟩ := ob_x hm
    have f_y9 := gA_x e_y9
    refine pw_gr (pc := 78) d235_78 (k235_36 b) (sho s_h8 f_l0) f10_19 f_y9.1 ?_
    refine pw_s (pc := 81) d235_81 rfl rfl ?_
    refine pw_l (pc := 82) d235_82 rfl rfl rfl ?_
    refine pw_l (pc := 83) d235_83 rfl rfl rfl ?_
    refine pw_s (pc := 84) d235_84 rfl rfl ?_
    obtain ⟨q10, e_q10, hm⟩ := ob_x hm
    refine pw_v (pc := 85) (k := l0) (by omega) d235_85 (k235_273 b) (by decide) m196 (by decide) rfl (sho s_h8 f_l0) (Nat.le_of_ble_eq_true rfl) (Nat.le_of_ble_eq_true rfl) rfl rfl (T_m_manOf b L xs (d - 1) (by omega) h8 s_h8 l0 l1 (Int32.ofInt 1) f_l0 e_q10) (fun v0 h0 hq => ?_)
    obtain ⟨rfl, hh0, s_q10⟩ := hq
    rw [hh0] at s_q10 ⊢
    simp only [Option.toList_some, List.cons_append, List.nil_append]
    refine pw_s (pc := 88) d235_88 rfl rfl ?_
    obtain ⟨g11, hm⟩ := gd_x hm
    refine pw_sl (pc := 89) d235_89 (sha s_h8 f_y9.2) (mi_in_x g11) ?_
    obtain ⟨h12, e_h12, hm⟩ := bd_x hm
    rw [e_h12]
    have s_h12 : h12.1 = tb_SH := by rw [← e_h12]; exact s_h8
    refine pw_l (pc := 90) d235_90 rfl rfl rfl ?_
    obtain ⟨y13, e_y13, hm⟩ := ob_x hm
    have f_y13 := gA_x e_y13
    refine pw_gr (pc := 91) d235_91 (k235_36 b) (sho s_h12 f_l0) f10_19 f_y13.1 ?_
    refine pw_s (pc := 94) d235_94 rfl rfl ?_
    refine pw_l (pc := 95) d235_95 rfl rfl rfl ?_
    obtain ⟨y14, e_y14, hm⟩ := ob_x hm
    have f_y14 := gA_x e_y14
    refine pw_gr (pc := 96) d235_96 (k235_39 b) (sho s_h12 f_l0) f10_20 f_y14.1 ?_
    refine pw_s (pc := 99) d235_99 rfl rfl ?_
    obtain ⟨g15, hm⟩ := gd_x hm
    refine pw_ai (pc := 100) d235_100 (sha s_h12 f_y14.2) (mi_in_x g15) ?_
    refine pw_s (pc := 101) d235_101 rfl rfl ?_
    obtain ⟨g16, hm⟩ := gd_x hm
    refine pw_sl (pc := 102) d235_102 (sha s_h12 f_y13.2) (mi_in_x g16) ?_
    obtain ⟨h17, e_h17, hm⟩ := bd_x hm
    rw [e_h17]
    have s_h17 : h17.1 = tb_SH := by rw [← e_h17]; exact s_h12
    refine pw_l (pc := 103) d235_103 rfl rfl rfl ?_
    obtain ⟨y18, e_y18, hm⟩ := ob_x hm
    have f_y18 := gA_x e_y18
    refine pw_gr (pc := 104) d235_104 (k235_36 b) (sho s_h17 f_l0) f10_19 f_y18.1 ?_
    refine pw_s (pc := 107) d235_107 rfl rfl ?_
    refine pw_l (pc := 108) d235_108 rfl rfl rfl ?_
    obtain ⟨y19, e_y19, hm⟩ := ob_x hm
    have f_y19 := gA_x e_y19
    refine pw_gr (pc := 109) d235_109 (k235_39 b) (sho s_h17 f_l0) f10_20 f_y19.1 ?_
    refine pw_s (pc := 112) d235_112 rfl rfl ?_
    obtain ⟨g20, hm⟩ := gd_x hm
    refine pw_ai (pc := 113) d235_113 (sha s_h17 f_y19.2) (mi_in_x g20) ?_
    refine pw_s (pc := 114) d235_114 rfl rfl ?_
    obtain ⟨g21, hm⟩ := gd_x hm
    refine pw_sl (pc := 115) d235_115 (sha s_h17 f_y18.2) (mi_in_x g21) ?_
    obtain ⟨h22, e_h22, hm⟩ := bd_x hm
    rw [e_h22]
    have s_h22 : h22.1 = tb_SH := by rw [← e_h22]; exact s_h17
    refine pw_l (pc := 116) d235_116 rfl rfl rfl ?_
    obtain ⟨y23, e_y23, hm⟩ := ob_x hm
    have f_y23 := gA_x e_y23
    refine pw_gr (pc := 117) d235_117 (k235_36 b) (sho s_h22 f_l0) f10_19 f_y23.1 ?_
    refine pw_s (pc := 120) d235_120 rfl rfl ?_
    refine pw_l (pc := 121) d235_121 rfl rfl rfl ?_
    obtain ⟨q24, e_q24, hm⟩ := ob_x hm
    refine pw_v (pc := 122) (k := l0) (by omega) d235_122 (k235_361 b) (by decide) m202 (by decide) rfl (sho s_h22 f_l0) (Nat.le_of_ble_eq_true rfl) (Nat.le_of_ble_eq_true rfl) rfl rfl (T_m_awakeSet b L xs (d - 1) (by omega) h22 s_h22 l0 f_l0 e_q24) (fun v0 h0 hq => ?_)
    obtain ⟨rfl, hh0, s_q24⟩ := hq
    rw [hh0] at s_q24 ⊢
    simp only [Option.toList_some, List.cons_append, List.nil_append]
    refine pw_s (pc := 125) d235_125 rfl rfl ?_
    refine pw_l (pc := 126) d235_126 rfl rfl rfl ?_
    refine pw_s (pc := 127) d235_127 rfl rfl ?_
    refine pw_s (pc := 128) d235_128 rfl rfl ?_
    refine pw_s (pc := 129) d235_129 rfl rfl ?_
    refine pw_s (pc := 130) d235_130 rfl rfl ?_
    obtain ⟨q25, e_q25, hm⟩ := ob_x hm
    refine pw_u (pc := 131) (by omega) d235_131 (k235_336 b) (by decide) m150 (Nat.le_of_ble_eq_true rfl) (Nat.le_of_ble_eq_true rfl) (Nat.le_of_ble_eq_true rfl) rfl rfl (T_m_bits b L xs (d - 1) (by omega) h22 s_h22 (q24 &&& (((Int32.ofInt 1) <<< (l1 &&& 31)) ^^^ (Int32.ofInt (-1))))  e_q25) (fun v0 h0 hq => ?_)
    obtain ⟨rfl, hh0, s_q25⟩ := hq
    rw [hh0] at s_q25 ⊢
    simp only [Option.toList_some, List.cons_append, List.nil_append]
    refine pw_s (pc := 134) d235_134 rfl rfl ?_
    obtain ⟨g26, hm⟩ := gd_x hm
    refine pw_sl (pc := 135) d235_135 (sha s_h22 f_y23.2) (mi_in_x g26) ?_
    obtain ⟨h27, e_h27, hm⟩ := bd_x hm
    rw [e_h27]
    have s_h27 : h27.1 = tb_SH := by rw [← e_h27]; exact s_h22
    refine pw_l (pc := 136) d235_136 rfl rfl rfl ?_
    obtain ⟨y28, e_y28, hm⟩ := ob_x hm
    have f_y28 := gA_x e_y28
    refine pw_gr (pc := 137) d235_137 (k235_36 b) (sho s_h27 f_l0) f10_19 f_y28.1 ?_
    refine pw_s (pc := 140) d235_140 rfl rfl ?_
    refine pw_l (pc := 142) d235_142 rfl rfl rfl ?_
    refine pw_l (pc := 143) d235_143 rfl rfl rfl ?_
    refine pw_s (pc := 144) d235_144 rfl rfl ?_
    obtain ⟨q29, e_q29, hm⟩ := ob_x hm
    refine pw_v (pc := 145) (k := l0) (by omega) d235_145 (k235_273 b) (by decide) m196 (by decide) rfl (sho s_h27 f_l0) (Nat.le_of_ble_eq_true rfl) (Nat.le_of_ble_eq_true rfl) rfl rfl (T_m_manOf b L xs (d - 1) (by omega) h27 s_h27 l0 l1 (Int32.ofInt 3) f_l0 e_q29) (fun v0 h0 hq => ?_)
    obtain ⟨rfl, hh0, s_q29⟩ := hq
    rw [hh0] at s_q29 ⊢
    simp only [Option.toList_some, List.cons_append, List.nil_append]
    refine pw_s (pc := 148) d235_148 rfl rfl ?_
    obtain ⟨g30, hm⟩ := gd_x hm
    refine pw_sl (pc := 149) d235_149 (sha s_h27 f_y28.2) (mi_in_x g30) ?_
    obtain ⟨h31, e_h31, hm⟩ := bd_x hm
    rw [e_h31]
    have s_h31 : h31.1 = tb_SH := by rw [← e_h31]; exact s_h27
    refine pw_l (pc := 150) d235_150 rfl rfl rfl ?_
    obtain ⟨y32, e_y32, hm⟩ := ob_x hm
    have f_y32 := gA_x e_y32
    refine pw_gr (pc := 151) d235_151 (k235_36 b) (sho s_h31 f_l0) f10_19 f_y32.1 ?_
    refine pw_s (pc := 154) d235_154 rfl rfl ?_
    refine pw_l (pc := 156) d235_156 rfl rfl rfl ?_
    refine pw_l (pc := 157) d235_157 rfl rfl rfl ?_
    refine pw_s (pc := 158) d235_158 rfl rfl ?_
    obtain ⟨q33, e_q33, hm⟩ := ob_x hm
    refine pw_v (pc := 159) (k := l0) (by omega) d235_159 (k235_273 b) (by decide) m196 (by decide) rfl (sho s_h31 f_l0) (Nat.le_of_ble_eq_true rfl) (Nat.le_of_ble_eq_true rfl) rfl rfl (T_m_manOf b L xs (d - 1) (by omega) h31 s_h31 l0 l1 (Int32.ofInt 5) f_l0 e_q33) (fun v0 h0 hq => ?_)
    obtain ⟨rfl, hh0, s_q33⟩ := hq
    rw [hh0] at s_q33 ⊢
    simp only [Option.toList_some, List.cons_append, List.nil_append]
    refine pw_s (pc := 162) d235_162 rfl rfl ?_
    obtain ⟨g34, hm⟩ := gd_x hm
    refine pw_sl (pc := 163) d235_163 (sha s_h31 f_y32.2) (mi_in_x g34) ?_
    obtain ⟨h35, e_h35, hm⟩ := bd_x hm
    rw [e_h35]
    have s_h35 : h35.1 = tb_SH := by rw [← e_h35]; exact s_h31
    refine pw_l (pc := 164) d235_164 rfl rfl rfl ?_
    obtain ⟨y36, e_y36, hm⟩ := ob_x hm
    have f_y36 := gA_x e_y36
    refine pw_gr (pc := 165) d235_165 (k235_36 b) (sho s_h35 f_l0) f10_19 f_y36.1 ?_
    refine pw_s (pc := 168) d235_168 rfl rfl ?_
    refine pw_l (pc := 170) d235_170 rfl rfl rfl ?_
    refine pw_s (pc := 171) d235_171 rfl rfl ?_
    obtain ⟨g37, hm⟩ := gd_x hm
    refine pw_sl (pc := 172) d235_172 (sha s_h35 f_y36.2) (mi_in_x g37) ?_
    obtain ⟨h38, e_h38, hm⟩ := bd_x hm
    rw [e_h38]
    have s_h38 : h38.1 = tb_SH := by rw [← e_h38]; exact s_h35
    refine pw_l (pc := 173) d235_173 rfl rfl rfl ?_
    obtain ⟨y39, e_y39, hm⟩ := ob_x hm
    have f_y39 := gA_x e_y39
    refine pw_gr (pc := 174) d235_174 (k235_36 b) (sho s_h38 f_l0) f10_19 f_y39.1 ?_
    refine pw_s (pc := 177) d235_177 rfl rfl ?_
    refine pw_l (pc := 179) d235_179 rfl rfl rfl ?_
    refine pw_l (pc := 180) d235_180 rfl rfl rfl ?_
    refine pw_l (pc := 181) d235_181 rfl rfl rfl ?_
    refine pw_s (pc := 182) d235_182 rfl rfl ?_
    obtain ⟨q40, e_q40, hm⟩ := ob_x hm
    refine pw_v (pc := 183) (k := l0) (by omega) d235_183 (k235_273 b) (by decide) m196 (by decide) rfl (sho s_h38 f_l0) (Nat.le_of_ble_eq_true rfl) (Nat.le_of_ble_eq_true rfl) rfl rfl (T_m_manOf b L xs (d - 1) (by omega) h38 s_h38 l0 l1 (Int32.ofInt 0) f_l0 e_q40) (fun v0 h0 hq => ?_)
    obtain ⟨rfl, hh0, s_q40⟩ := hq
    rw [hh0] at s_q40 ⊢
    simp only [Option.toList_some, List.cons_append, List.nil_append]
    obtain ⟨q41, e_q41, hm⟩ := ob_x hm
    refine pw_v (pc := 186) (k := l0) (by omega) d235_186 (k235_364 b) (by decide) m234 (by decide) rfl (sho s_h38 f_l0) (Nat.le_of_ble_eq_true rfl) (Nat.le_of_ble_eq_true rfl) rfl rfl (T_m_needOfWord b L xs (d - 1) (by omega) h38 s_h38 l0 q40 f_l0 e_q41) (fun v0 h0 hq => ?_)
    obtain ⟨rfl, hh0, s_q41⟩ := hq
    rw [hh0] at s_q41 ⊢
    simp only [Option.toList_some, List.cons_append, List.nil_append]
    refine pw_s (pc := 189) d235_189 rfl rfl ?_
    obtain ⟨g42, hm⟩ := gd_x hm
    refine pw_sl (pc := 190) d235_190 (sha s_h38 f_y39.2) (mi_in_x g42) ?_
    obtain ⟨h43, e_h43, hm⟩ := bd_x hm
    rw [e_h43]
    have s_h43 : h43.1 = tb_SH := by rw [← e_h43]; exact s_h38
    refine pw_l (pc := 191) d235_191 rfl rfl rfl ?_
    obtain ⟨y44, e_y44, hm⟩ := ob_x hm
    have f_y44 := gA_x e_y44
    refine pw_gr (pc := 192) d235_192 (k235_36 b) (sho s_h43 f_l0) f10_19 f_y44.1 ?_
    refine pw_s (pc := 195) d235_195 rfl rfl ?_
    refine pw_l (pc := 197) d235_197 rfl rfl rfl ?_
    obtain ⟨q45, e_q45, hm⟩ := ob_x hm
    refine pw_v (pc := 198) (k := l0) (by omega) d235_198 (k235_356 b) (by decide) m201 (by decide) rfl (sho s_h43 f_l0) (Nat.le_of_ble_eq_true rfl) (Nat.le_of_ble_eq_true rfl) rfl rfl (T_m_aliveSet b L xs (d - 1) (by omega) h43 s_h43 l0 f_l0 e_q45) (fun v0 h0 hq => ?_)
    obtain ⟨rfl, hh0, s_q45⟩ := hq
    rw [hh0] at s_q45 ⊢
    simp only [Option.toList_some, List.cons_append, List.nil_append]
    obtain ⟨q46, e_q46, hm⟩ := ob_x hm
    refine pw_u (pc := 201) (by omega) d235_201 (k235_336 b) (by decide) m150 (Nat.le_of_ble_eq_true rfl) (Nat.le_of_ble_eq_true rfl) (Nat.le_of_ble_eq_true rfl) rfl rfl (T_m_bits b L xs (d - 1) (by omega) h43 s_h43 q45  e_q46) (fun v0 h0 hq => ?_)
    obtain ⟨rfl, hh0, s_q46⟩ := hq
    rw [hh0] at s_q46 ⊢
    simp only [Option.toList_some, List.cons_append, List.nil_append]
    refine pw_s (pc := 204) d235_204 rfl rfl ?_
    obtain ⟨g47, hm⟩ := gd_x hm
    refine pw_sl (pc := 205) d235_205 (sha s_h43 f_y44.2) (mi_in_x g47) ?_
    obtain ⟨h48, e_h48, hm⟩ := bd_x hm
    rw [e_h48]
    have s_h48 : h48.1 = tb_SH := by rw [← e_h48]; exact s_h43
    obtain rfl := Option.some.inj hm
    refine pw_rv (pc := 206) d235_206 t235 ?_
    exact hE s_h48
  exact key _ (fun q => ⟨rfl, rfl, q⟩)
def E_m_summedBy_2 (b : Bool) (L : Nat) (xs : Nat → Int32) (d : Nat) (Q : Option Value → pm_H → Prop) (l0 : Nat) (l1 : Int32) : ((Int32 × pm_H) ⊕ (Int32 × pm_H) ⊕ pm_H) → Prop
  | .inl s => s.2.1 = tb_SH → ∀ w3 : Value, PW b L xs d 236 0 0 2 [(Value.ref l0), (Value.int l1), (Value.int s.1), w3] [] s.2 Q
  | .inr (.inl e) => e.2.1 = tb_SH → ∀ w2 : Value, PW b L xs d 236 0 0 58 [(Value.ref l0), (Value.int l1), w2, (Value.int e.1)] [] e.2 Q
  | .inr (.inr e) => e.1 = tb_SH → ∀ w0 w1 w2 w3 : Value, PW b L xs d 236 0 0 84 [w0, w1, w2, w3] [] e Q
noncomputable def m_summedBy_58 (l0 : Nat) (l1 : Int32) (l3 : Int32) (h : pm_H) : Option (Int64 × pm_H) := (gA h l0 5 .int).bind fun y1 => if mi_in l3 (mi_n y1) = true then (gA h l0 5 .int).bind fun y3 => if mi_in (l3 + (Int32.ofInt 1)) (mi_n y3) = true then (m_reckons l0 l1 (h.2.1 y1 l3.toNatClampNeg) (h.2.1 y3 (l3 + (Int32.ofInt 1)).toNatClampNeg) h).bind fun q5 => some (q5.1, q5.2) else none else none
theorem t_m_summedBy_58 (b : Bool) (L : Nat) (xs : Nat → Int32) (d : Nat) (hd : 2 ≤ d) {Q : Option Value → pm_H → Prop} (h : pm_H) (s_h : h.1 = tb_SH) (l0 : Nat) (l1 : Int32) (l3 : Int32) (w2 : Value) (f_l0 : mi_o l0 10 = true) {r : (Int64 × pm_H)} (hm : m_summedBy_58 l0 l1 l3 h = some r) (hE : r.2.1 = tb_SH → Q (some (Value.long r.1)) r.2) : PW b L xs d 236 0 0 58 [(Value.ref l0), (Value.int l1), w2, (Value.int l3)] [] h Q := by
  rw [m_summedBy_58] at hm
  refine pw_l (pc := 58) d236_58 rfl rfl rfl ?_
  refine pw_l (pc := 59) d236_59 rfl rfl rfl ?_
  refine pw_l (pc := 60) d236_60 rfl rfl rfl ?_
  obtain ⟨y1, e_y1, hm⟩ := ob_x hm
  have f_y1 := gA_x e_y1
  refine pw_gr (pc := 61) d236_61 (k236_20 b) (sho s_h f_l0) f10_5 f_y1.1 ?_
  refine pw_l (pc := 64) d236_64 rfl rfl rfl ?_
  obtain ⟨g2, hm⟩ := gd_x hm
  refine pw_ai (pc := 65) d236_65 (sha s_h f_y1.2) (mi_in_x g2) ?_
  refine pw_l (pc := 66) d236_66 rfl rfl rfl ?_
  obtain ⟨y3, e_y3, hm⟩ := ob_x hm
  have f_y3 := gA_x e_y3
  refine pw_gr (pc := 67) d236_67 (k236_20 b) (sho s_h f_l0) f10_5 f_y3.1 ?_
  refine pw_l (pc := 70) d236_70 rfl rfl rfl ?_
  refine pw_s (pc := 71) d236_71 rfl rfl ?_
  refine pw_s (pc := 72) d236_72 rfl rfl ?_
  obtain ⟨g4, hm⟩ := gd_x hm
  refine pw_ai (pc := 73) d236_73 (sha s_h f_y3.2) (mi_in_x g4) ?_
  obtain ⟨q5, e_q5, hm⟩ := ob_x hm
  refine pw_v (pc := 74) (k := l0) (by omega) d236_74 (k236_367 b) (by decide) m191 (by decide) rfl (sho s_h f_l0) (Nat.le_of_ble_eq_true rfl) (Nat.le_of_ble_eq_true rfl) rfl rfl (T_m_reckons b L xs (d - 1) (by omega) h s_h l0 l1 (h.2.1 y1 l3.toNatClampNeg) (h.2.1 y3 (l3 + (Int32.ofInt 1)).toNatClampNeg) f_l0 e_q5) (fun v0 h0 hq => ?_)
  obtain ⟨rfl, hh0, s_q5⟩ := hq
  rw [hh0] at s_q5 ⊢
  simp only [Option.toList_some, List.cons_append, List.nil_append]
  obtain rfl := Option.some.inj hm
  refine pw_rl (pc := 77) d236_77 t236 ?_
  exact hE s_q5
noncomputable def m_summedBy_2 (l0 : Nat) (l1 : Int32) (l2 : Int32) (h : pm_H) : Option ((Int32 × pm_H) ⊕ (Int32 × pm_H) ⊕ pm_H) := (gA h l0 6 .int).bind fun y1 => if mi_in l1 (mi_n y1) = true then if (h.2.1 y1 l1.toNatClampNeg) ≤ l2 then (some (.inr (.inr h))) else ((gA h l0 5 .int).bind fun y4 => if mi_in ((((Int8.ofInt 48).toInt32 * l1) + ((Int32.ofInt 4) * l2)) + (Int32.ofInt 2)) (mi_n y4) = true then if (h.2.1 y4 ((((Int8.ofInt 48).toInt32 * l1) + ((Int32.ofInt 4) * l2)) + (Int32.ofInt 2)).toNatClampNeg) < 0 then (some (.inr (.inl ((((Int8.ofInt 48).toInt32 * l1) + ((Int32.ofInt 4) * l2)), h)))) else ((gA h l0 5 .int).bind fun y7 => if mi_in ((((Int8.ofInt 48).toInt32 * l1) + ((Int32.ofInt 4) * l2)) + (Int32.ofInt 2)) (mi_n y7) = true then (gA h l0 5 .int).bind fun y9 => if mi_in ((((Int8.ofInt 48).toInt32 * l1) + ((Int32.ofInt 4) * l2)) + (Int32.ofInt 3)) (mi_n y9) = true then (m_reckons l0 l1 (h.2.1 y7 ((((Int8.ofInt 48).toInt32 * l1) + ((Int32.ofInt 4) * l2)) + (Int32.ofInt 2)).toNatClampNeg) (h.2.1 y9 ((((Int8.ofInt 48).toInt32 * l1) + ((Int32.ofInt 4) * l2)) + (Int32.ofInt 3)).toNatClampNeg) h).bind fun q11 => if ¬ (lg_cmp q11.1 (Int64.ofNat 1)) = 0 then (some (.inl ((l2 + Int32.ofInt 1), q11.2))) else (some (.inr (.inl ((((Int8.ofInt 48).toInt32 * l1) + ((Int32.ofInt 4) * l2)), q11.2)))) else none else none) else none) else none
theorem t_m_summedBy_2 (b : Bool) (L : Nat) (xs : Nat → Int32) (d : Nat) (hd : 2 ≤ d) {Q : Option Value → pm_H → Prop} (h : pm_H) (s_h : h.1 = tb_SH) (l0 : Nat) (l1 : Int32) (l2 : Int32) (w3 : Value) (f_l0 : mi_o l0 10 = true) {r : ((Int32 × pm_H) ⊕ (Int32 × pm_H) ⊕ pm_H)} (hm : m_summedBy_2 l0 l1 l2 h = some r) (hE : E_m_summedBy_2 b L xs d Q l0 l1 r) : PW b L xs d 236 0 0 2 [(Value.ref l0), (Value.int l1), (Value.int l2), w3] [] h Q := by
  rw [m_summedBy_2] at hm
  refine pw_l (pc := 2) d236_2 rfl rfl rfl ?_
  refine pw_l (pc := 3) d236_3 rfl rfl rfl ?_
  obtain ⟨y1, e_y1, hm⟩ := ob_x hm
  have f_y1 := gA_x e_y1
  refine pw_gr (pc := 4) d236_4 (k236_23 b) (sho s_h f_l0) f10_6 f_y1.1 ?_
  refine pw_l (pc := 7) d236_7 rfl rfl rfl ?_
  obtain ⟨g2, hm⟩ := gd_x hm
  refine pw_ai (pc := 8) d236_8 (sha s_h f_y1.2) (mi_in_x g2) ?_
  refine pw_ige (pc := 9) (t := 84) d236_9 (by decide) (fun c3 => ?_) (fun c3 => ?_)
  · rw [if_pos c3] at hm
    obtain rfl := Option.some.inj hm
    exact hE s_h  (Value.ref l0) (Value.int l1) (Value.int l2) w3
  · rw [if_neg c3] at hm
    refine pw_s (pc := 12) d236_12 rfl rfl ?_
    refine pw_l (pc := 14) d236_14 rfl rfl rfl ?_
    refine pw_s (pc := 15) d236_15 rfl rfl ?_
    refine pw_s (pc := 16) d236_16 rfl rfl ?_
    refine pw_l (pc := 17) d236_17 rfl rfl rfl ?_
    refine pw_s (pc := 18) d236_18 rfl rfl ?_
    refine pw_s (pc := 19) d236_19 rfl rfl ?_
    refine pw_t (pc := 20) d236_20 rfl rfl rfl rfl ?_
    refine pw_l (pc := 21) d236_21 rfl rfl rfl ?_
    obtain ⟨y4, e_y4, hm⟩ := ob_x hm
    have f_y4 := gA_x e_y4
    refine pw_gr (pc := 22) d236_22 (k236_20 b) (sho s_h f_l0) f10_5 f_y4.1 ?_
    refine pw_l (pc := 25) d236_25 rfl rfl rfl ?_
    refine pw_s (pc := 26) d236_26 rfl rfl ?_
    refine pw_s (pc := 27) d236_27 rfl rfl ?_
    obtain ⟨g5, hm⟩ := gd_x hm
    refine pw_ai (pc := 28) d236_28 (sha s_h f_y4.2) (mi_in_x g5) ?_
    refine pw_zlt (pc := 29) (t := 58) d236_29 (by decide) (fun c6 => ?_) (fun c6 => ?_)
    · rw [if_pos c6] at hm
      obtain rfl := Option.some.inj hm
      exact hE s_h  (Value.int l2)
    · rw [if_neg c6] at hm
      refine pw_l (pc := 32) d236_32 rfl rfl rfl ?_
      refine pw_l (pc := 33) d236_33 rfl rfl rfl ?_
      refine pw_l (pc := 34) d236_34 rfl rfl rfl ?_
      obtain ⟨y7, e_y7, hm⟩ := ob_x hm
      have f_y7 := gA_x e_y7
      refine pw_gr (pc := 35) d236_35 (k236_20 b) (sho s_h f_l0) f10_5 f_y7.1 ?_
      refine pw_l (pc := 38) d236_38 rfl rfl rfl ?_
      refine pw_s (pc := 39) d236_39 rfl rfl ?_
      refine pw_s (pc := 40) d236_40 rfl rfl ?_
      obtain ⟨g8, hm⟩ := gd_x hm
      refine pw_ai (pc := 41) d236_41 (sha s_h f_y7.2) (mi_in_x g8) ?_
      refine pw_l (pc := 42) d236_42 rfl rfl rfl ?_
      obtain ⟨y9, e_y9, hm⟩ := ob_x hm
      have f_y9 := gA_x e_y9
      refine pw_gr (pc := 43) d236_43 (k236_20 b) (sho s_h f_l0) f10_5 f_y9.1 ?_
      refine pw_l (pc := 46) d236_46 rfl rfl rfl ?_
      refine pw_s (pc := 47) d236_47 rfl rfl ?_
      refine pw_s (pc := 48) d236_48 rfl rfl ?_
      obtain ⟨g10, hm⟩ := gd_x hm
      refine pw_ai (pc := 49) d236_49 (sha s_h f_y9.2) (mi_in_x g10) ?_
      obtain ⟨q11, e_q11, hm⟩ := ob_x hm
      refine pw_v (pc := 50) (k := l0) (by omega) d236_50 (k236_367 b) (by decide) m191 (by decide) rfl (sho s_h f_l0) (Nat.le_of_ble_eq_true rfl) (Nat.le_of_ble_eq_true rfl) rfl rfl (T_m_reckons b L xs (d - 1) (by omega) h s_h l0 l1 (h.2.1 y7 ((((Int8.ofInt 48).toInt32 * l1) + ((Int32.ofInt 4) * l2)) + (Int32.ofInt 2)).toNatClampNeg) (h.2.1 y9 ((((Int8.ofInt 48).toInt32 * l1) + ((Int32.ofInt 4) * l2)) + (Int32.ofInt 3)).toNatClampNeg) f_l0 e_q11) (fun v0 h0 hq => ?_)
      obtain ⟨rfl, hh0, s_q11⟩ := hq
      rw [hh0] at s_q11 ⊢
      simp only [Option.toList_some, List.cons_append, List.nil_append]
      refine pw_s (pc := 53) d236_53 rfl rfl ?_
      refine pw_s (pc := 54) d236_54 rfl rfl ?_
      refine pw_zne (pc := 55) (t := 78) d236_55 (by decide) (fun c12 => ?_) (fun c12 => ?_)
      · rw [if_pos (show ¬ (lg_cmp q11.1 (Int64.ofNat 1)) = 0 from c12)] at hm
        refine pw_t (pc := 78) d236_78 rfl rfl rfl rfl ?_
        refine pw_go (pc := 81) (t := 2) d236_81 (by decide) ?_
        obtain rfl := Option.some.inj hm
        exact hE s_q11  (Value.int (((Int8.ofInt 48).toInt32 * l1) + ((Int32.ofInt 4) * l2)))
      · rw [if_neg (show ¬ (¬ (lg_cmp q11.1 (Int64.ofNat 1)) = 0) from c12)] at hm
        obtain rfl := Option.some.inj hm
        exact hE s_q11  (Value.int l2)
noncomputable def m_summedBy (l0 : Nat) (l1 : Int32) (h : pm_H) : Option (Int64 × pm_H) := (wh (fun s : (Int32 × pm_H) => m_summedBy_2 l0 l1 s.1 s.2) ((Int32.ofInt 0), h)).bind fun q1 => (match q1 with | (.inl eq1_0) => m_summedBy_58 l0 l1 eq1_0.1 eq1_0.2 | (.inr eq1_1) => some ((Int64.ofNat 0), eq1_1))
theorem T_m_summedBy (b : Bool) (L : Nat) (xs : Nat → Int32) (d : Nat) (hd : 2 ≤ d) (h : pm_H) (s_h : h.1 = tb_SH) (l0 : Nat) (l1 : Int32) (f_l0 : mi_o l0 10 = true) {r : (Int64 × pm_H)} (hm : m_summedBy l0 l1 h = some r) : PC b L xs d 236 [(Value.ref l0), (Value.int l1)] h (fun (v0 : Option Value) (h2 : pm_H) => v0 = (some (Value.long r.1)) ∧ h2 = r.2 ∧ h2.1 = tb_SH) := by
  refine pc_in e236 (ls0 := [(Value.ref l0), (Value.int l1), Value.retAddr 0, Value.retAddr 0]) rfl ?_
  have key : ∀ (Q : Option Value → pm_H → Prop), (r.2.1 = tb_SH → Q (some (Value.long r.1)) r.2) → PW b L xs d 236 0 0 0 [(Value.ref l0), (Value.int l1), Value.retAddr 0, Value.retAddr 0] [] h Q := by
    intro Q hE
    rw [m_summedBy] at hm
    refine pw_s (pc := 0) d236_0 rfl rfl ?_
    refine pw_t (pc := 1) d236_1 rfl rfl rfl rfl ?_
    obtain ⟨q1, e_q1, hm⟩ := ob_x hm
    refine wh_ind e_q1 (fun s : (Int32 × pm_H) => s.2.1 = tb_SH → ∀ w3 : Value, PW b L xs d 236 0 0 2 [(Value.ref l0), (Value.int l1), (Value.int s.1), w3] [] s.2 Q) (fun s s2 hf ih sx w3 => t_m_summedBy_2 b L xs d hd s.2 sx l0 l1 s.1 w3 f_l0 hf ih) (fun s hf sx w3 => t_m_summedBy_2 b L xs d hd s.2 sx l0 l1 s.1 w3 f_l0 hf ?_) s_h  (Value.retAddr 0)
    rcases q1 with eq1_0 | eq1_1
    · dsimp only at hm
      intro s_q1_0 w2
      exact t_m_summedBy_58 b L xs d hd eq1_0.2 s_q1_0 l0 l1 eq1_0.1 w2 f_l0  hm hE
    · dsimp only at hm
      intro s_q1_1 w0 w1 w2 w3
      refine pw_s (pc := 84) d236_84 rfl rfl ?_
      obtain rfl := Option.some.inj hm
      refine pw_rl (pc := 85) d236_85 t236 ?_
      exact hE s_q1_1
  exact key _ (fun q => ⟨rfl, rfl, q⟩)
def E_m_run_58 (b : Bool) (L : Nat) (xs : Nat → Int32) (d : Nat) (Q : Option Value → pm_H → Prop) (l0 : Nat) (l1 : Int32) (l2 : Int32) (l3 : Int32) : ((Int32 × pm_H) ⊕ pm_H) → Prop
  | .inl s => s.2.1 = tb_SH → PW b L xs d 237 0 0 58 [(Value.ref l0), (Value.int l1), (Value.int l2), (Value.int l3), (Value.int s.1)] [] s.2 Q
  | .inr e => e.1 = tb_SH → ∀ w4 : Value, PW b L xs d 237 0 0 123 [(Value.ref l0), (Value.int l1), (Value.int l2), (Value.int l3), w4] [] e Q
def E_m_run_50 (b : Bool) (L : Nat) (xs : Nat → Int32) (d : Nat) (Q : Option Value → pm_H → Prop) (l0 : Nat) (l1 : Int32) (l2 : Int32) : ((Int32 × pm_H) ⊕ pm_H) → Prop
  | .inl s => s.2.1 = tb_SH → ∀ w4 : Value, PW b L xs d 237 0 0 50 [(Value.ref l0), (Value.int l1), (Value.int l2), (Value.int s.1), w4] [] s.2 Q
  | .inr e => e.1 = tb_SH → ∀ w1 w2 w3 w4 : Value, PW b L xs d 237 0 0 133 [(Value.ref l0), w1, w2, w3, w4] [] e Q
noncomputable def m_run_116 (l0 : Nat) (l1 : Int32) (l2 : Int32) (l3 : Int32) (l4 : Int32) (z0 : Int32) (z1 : Int32) (z2 : Nat) (h : pm_H) : Option ((Int32 × pm_H) ⊕ pm_H) := if mi_in z1 (mi_n z2) = true then bd (pm_setI h z2 z1.toNatClampNeg z0) fun h2 => some (.inl ((l4 + Int32.ofInt 1), h2)) else none
theorem t_m_run_116 (b : Bool) (L : Nat) (xs : Nat → Int32) (d : Nat) (hd : 4 ≤ d) {Q : Option Value → pm_H → Prop} (h : pm_H) (s_h : h.1 = tb_SH) (l0 : Nat) (l1 : Int32) (l2 : Int32) (l3 : Int32) (l4 : Int32) (z0 : Int32) (z1 : Int32) (z2 : Nat) (f_l0 : mi_o l0 10 = true) (f_z2 : mi_a z2 .int = true) {r : ((Int32 × pm_H) ⊕ pm_H)} (hm : m_run_116 l0 l1 l2 l3 l4 z0 z1 z2 h = some r) (hE : E_m_run_58 b L xs d Q l0 l1 l2 l3 r) : PW b L xs d 237 0 0 116 [(Value.ref l0), (Value.int l1), (Value.int l2), (Value.int l3), (Value.int l4)] [(Value.int z0), (Value.int z1), (Value.ref z2)] h Q := by
  rw [m_run_116] at hm
  obtain ⟨g1, hm⟩ := gd_x hm
  refine pw_si (pc := 116) d237_116 (sha s_h f_z2) (mi_in_x g1) ?_
  obtain ⟨h2, e_h2, hm⟩ := bd_x hm
  rw [e_h2]
  have s_h2 : h2.1 = tb_SH := by rw [← e_h2]; exact s_h
  refine pw_t (pc := 117) d237_117 rfl rfl rfl rfl ?_
  refine pw_go (pc := 120) (t := 58) d237_120 (by decide) ?_
  obtain rfl := Option.some.inj hm
  exact hE s_h2  
noncomputable def m_run_58 (l0 : Nat) (l1 : Int32) (l2 : Int32) (l3 : Int32) (l4 : Int32) (h : pm_H) : Option ((Int32 × pm_H) ⊕ pm_H) := (gA h l0 20 .int).bind fun y1 => if mi_in (Int32.ofInt 1) (mi_n y1) = true then if (h.2.1 y1 (Int32.ofInt 1).toNatClampNeg) ≤ l4 then (some (.inr h)) else ((m_isAlive l0 l4 h).bind fun q4 => if ¬ q4 = 0 then ((m_words l0 l4 h).bind fun q6 => (gA q6 l0 20 .int).bind fun y7 => (m_summedBy l0 l1 q6).bind fun q8 => if (lg_cmp q8.1 (Int64.ofNat 0)) ≤ 0 then (m_run_116 l0 l1 l2 l3 l4 (Int32.ofInt 0) (((Int8.ofInt 10).toInt32 + ((Int8.ofInt 6).toInt32 * l4)) + (Int32.ofInt 2)) y7 q8.2) else (m_run_116 l0 l1 l2 l3 l4 (Int32.ofInt 1) (((Int8.ofInt 10).toInt32 + ((Int8.ofInt 6).toInt32 * l4)) + (Int32.ofInt 2)) y7 q8.2)) else (some (.inl ((l4 + Int32.ofInt 1), h)))) else none
theorem t_m_run_58 (b : Bool) (L : Nat) (xs : Nat → Int32) (d : Nat) (hd : 4 ≤ d) {Q : Option Value → pm_H → Prop} (h : pm_H) (s_h : h.1 = tb_SH) (l0 : Nat) (l1 : Int32) (l2 : Int32) (l3 : Int32) (l4 : Int32) (f_l0 : mi_o l0 10 = true) {r : ((Int32 × pm_H) ⊕ pm_H)} (hm : m_run_58 l0 l1 l2 l3 l4 h = some r) (hE : E_m_run_58 b L xs d Q l0 l1 l2 l3 r) : PW b L xs d 237 0 0 58 [(Value.ref l0), (Value.int l1), (Value.int l2), (Value.int l3), (Value.int l4)] [] h Q := by
  rw [m_run_58] at hm
  refine pw_l (pc := 58) d237_58 rfl rfl rfl ?_
  refine pw_l (pc := 60) d237_60 rfl rfl rfl ?_
  obtain ⟨y1, e_y1, hm⟩ := ob_x hm
  have f_y1 := gA_x e_y1
  refine pw_gr (pc := 61) d237_61 (k237_39 b) (sho s_h f_l0) f10_20 f_y1.1 ?_
  refine pw_s (pc := 64) d237_64 rfl rfl ?_
  obtain ⟨g2, hm⟩ := gd_x hm
  refine pw_ai (pc := 65) d237_65 (sha s_h f_y1.2) (mi_in_x g2) ?_
  refine pw_ige (pc := 66) (t := 123) d237_66 (by decide) (fun c3 => ?_) (fun c3 => ?_)
  · rw [if_pos c3] at hm
    obtain rfl := Option.some.inj hm
    exact hE s_h  (Value.int l4)
  · rw [if_neg c3] at hm
    refine pw_l (pc := 69) d237_69 rfl rfl rfl ?_
    refine pw_l (pc := 70) d237_70 rfl rfl rfl ?_
    obtain ⟨q4, e_q4, hm⟩ := ob_x hm
    refine pw_v (pc := 72) (k := l0) (by omega) d237_72 (k237_277 b) (by decide) m197 (by decide) rfl (sho s_h f_l0) (Nat.le_of_ble_eq_true rfl) (Nat.le_of_ble_eq_true rfl) rfl rfl (T_m_isAlive b L xs (d - 1) (by omega) h s_h l0 l4 f_l0 e_q4) (fun v0 h0 hq => ?_)
    obtain ⟨rfl, hh0, s_q4⟩ := hq
    rw [hh0] at s_q4 ⊢
    simp only [Option.toList_some, List.cons_append, List.nil_append]
    refine pw_zne (pc := 75) (t := 81) d237_75 (by decide) (fun c5 => ?_) (fun c5 => ?_)
    · rw [if_pos c5] at hm
      refine pw_l (pc := 81) d237_81 rfl rfl rfl ?_
      refine pw_l (pc := 82) d237_82 rfl rfl rfl ?_
      obtain ⟨q6, e_q6, hm⟩ := ob_x hm
      refine pw_v (pc := 84) (k := l0) (by omega) d237_84 (k237_376 b) (by decide) m235 (by decide) rfl (sho s_h f_l0) (Nat.le_of_ble_eq_true rfl) (Nat.le_of_ble_eq_true rfl) rfl rfl (T_m_words b L xs (d - 1) (by omega) h s_h l0 l4 f_l0 e_q6) (fun v0 h0 hq => ?_)
      obtain ⟨rfl, hh0, s_q6⟩ := hq
      rw [hh0] at s_q6 ⊢
      simp only [Option.toList_none, List.nil_append]
      refine pw_l (pc := 87) d237_87 rfl rfl rfl ?_
      obtain ⟨y7, e_y7, hm⟩ := ob_x hm
      have f_y7 := gA_x e_y7
      refine pw_gr (pc := 88) d237_88 (k237_39 b) (sho s_q6 f_l0) f10_20 f_y7.1 ?_
      refine pw_s (pc := 91) d237_91 rfl rfl ?_
      refine pw_s (pc := 93) d237_93 rfl rfl ?_
      refine pw_l (pc := 95) d237_95 rfl rfl rfl ?_
      refine pw_s (pc := 97) d237_97 rfl rfl ?_
      refine pw_s (pc := 98) d237_98 rfl rfl ?_
      refine pw_s (pc := 99) d237_99 rfl rfl ?_
      refine pw_s (pc := 100) d237_100 rfl rfl ?_
      refine pw_l (pc := 101) d237_101 rfl rfl rfl ?_
      refine pw_l (pc := 102) d237_102 rfl rfl rfl ?_
      obtain ⟨q8, e_q8, hm⟩ := ob_x hm
      refine pw_v (pc := 103) (k := l0) (by omega) d237_103 (k237_379 b) (by decide) m236 (by decide) rfl (sho s_q6 f_l0) (Nat.le_of_ble_eq_true rfl) (Nat.le_of_ble_eq_true rfl) rfl rfl (T_m_summedBy b L xs (d - 1) (by omega) q6 s_q6 l0 l1 f_l0 e_q8) (fun v0 h0 hq => ?_)
      obtain ⟨rfl, hh0, s_q8⟩ := hq
      rw [hh0] at s_q8 ⊢
      simp only [Option.toList_some, List.cons_append, List.nil_append]
      refine pw_s (pc := 106) d237_106 rfl rfl ?_
      refine pw_s (pc := 107) d237_107 rfl rfl ?_
      refine pw_zle (pc := 108) (t := 115) d237_108 (by decide) (fun c9 => ?_) (fun c9 => ?_)
      · rw [if_pos (show (lg_cmp q8.1 (Int64.ofNat 0)) ≤ 0 from c9)] at hm
        refine pw_s (pc := 115) d237_115 rfl rfl ?_
        exact t_m_run_116 b L xs d hd q8.2 s_q8 l0 l1 l2 l3 l4 (Int32.ofInt 0) (((Int8.ofInt 10).toInt32 + ((Int8.ofInt 6).toInt32 * l4)) + (Int32.ofInt 2)) y7  f_l0 f_y7.2 hm hE
      · rw [if_neg (show ¬ ((lg_cmp q8.1 (Int64.ofNat 0)) ≤ 0) from c9)] at hm
        refine pw_s (pc := 111) d237_111 rfl rfl ?_
        refine pw_go (pc := 112) (t := 116) d237_112 (by decide) ?_
        exact t_m_run_116 b L xs d hd q8.2 s_q8 l0 l1 l2 l3 l4 (Int32.ofInt 1) (((Int8.ofInt 10).toInt32 + ((Int8.ofInt 6).toInt32 * l4)) + (Int32.ofInt 2)) y7  f_l0 f_y7.2 hm hE
    · rw [if_neg c5] at hm
      refine pw_go (pc := 78) (t := 117) d237_78 (by decide) ?_
      refine pw_t (pc := 117) d237_117 rfl rfl rfl rfl ?_
      refine pw_go (pc := 120) (t := 58) d237_120 (by decide) ?_
      obtain rfl := Option.some.inj hm
      exact hE s_h  
noncomputable def m_run_50 (l0 : Nat) (l1 : Int32) (l2 : Int32) (l3 : Int32) (h : pm_H) : Option ((Int32 × pm_H) ⊕ pm_H) := if l2 ≤ l3 then (some (.inr h)) else ((wh (fun s : (Int32 × pm_H) => m_run_58 l0 l1 l2 l3 s.1 s.2) ((Int32.ofInt 0), h)).bind fun q2 => (m_passes l0 q2).bind fun q3 => some (.inl ((l3 + Int32.ofInt 1), q3)))
theorem t_m_run_50 (b : Bool) (L : Nat) (xs : Nat → Int32) (d : Nat) (hd : 4 ≤ d) {Q : Option Value → pm_H → Prop} (h : pm_H) (s_h : h.1 = tb_SH) (l0 : Nat) (l1 : Int32) (l2 : Int32) (l3 : Int32) (w4 : Value) (f_l0 : mi_o l0 10 = true) {r : ((Int32 × pm_H) ⊕ pm_H)} (hm : m_run_50 l0 l1 l2 l3 h = some r) (hE : E_m_run_50 b L xs d Q l0 l1 l2 r) : PW b L xs d 237 0 0 50 [(Value.ref l0), (Value.int l1), (Value.int l2), (Value.int l3), w4] [] h Q := by
  rw [m_run_50] at hm
  refine pw_l (pc := 50) d237_50 rfl rfl rfl ?_
  refine pw_l (pc := 51) d237_51 rfl rfl rfl ?_
  refine pw_ige (pc := 52) (t := 133) d237_52 (by decide) (fun c1 => ?_) (fun c1 => ?_)
  · rw [if_pos c1] at hm
    obtain rfl := Option.some.inj hm
    exact hE s_h  (Value.int l1) (Value.int l2) (Value.int l3) w4
  · rw [if_neg c1] at hm
    refine pw_s (pc := 55) d237_55 rfl rfl ?_
    refine pw_t (pc := 56) d237_56 rfl rfl rfl rfl ?_
    obtain ⟨q2, e_q2, hm⟩ := ob_x hm
    refine wh_ind e_q2 (fun s : (Int32 × pm_H) => s.2.1 = tb_SH → PW b L xs d 237 0 0 58 [(Value.ref l0), (Value.int l1), (Value.int l2), (Value.int l3), (Value.int s.1)] [] s.2 Q) (fun s s2 hf ih sx => t_m_run_58 b L xs d hd s.2 sx l0 l1 l2 l3 s.1  f_l0 hf ih) (fun s hf sx => t_m_run_58 b L xs d hd s.2 sx l0 l1 l2 l3 s.1  f_l0 hf ?_) s_h  
    intro s_q2_0 w4
    refine pw_l (pc := 123) d237_123 rfl rfl rfl ?_
    obtain ⟨q3, e_q3, hm⟩ := ob_x hm
    refine pw_v (pc := 124) (k := l0) (by omega) d237_124 (k237_351 b) (by decide) m227 (by decide) rfl (sho s_q2_0 f_l0) (Nat.le_of_ble_eq_true rfl) (Nat.le_of_ble_eq_true rfl) rfl rfl (T_m_passes b L xs (d - 1) (by omega) q2 s_q2_0 l0 f_l0 e_q3) (fun v0 h0 hq => ?_)
    obtain ⟨rfl, hh0, s_q3⟩ := hq
    rw [hh0] at s_q3 ⊢
    simp only [Option.toList_none, List.nil_append]
    refine pw_t (pc := 127) d237_127 rfl rfl rfl rfl ?_
    refine pw_go (pc := 130) (t := 50) d237_130 (by decide) ?_
    obtain rfl := Option.some.inj hm
    exact hE s_q3  w4
noncomputable def m_run (l0 : Nat) (l1 : Int32) (l2 : Int32) (h : pm_H) : Option (Int32 × pm_H) := (m_isShip l0 h).bind fun q1 => if q1 = 0 then (some ((Int32.ofInt (-1)), h)) else ((m_isRule l0 l1 h).bind fun q3 => if q3 = 0 then (some ((Int32.ofInt (-1)), h)) else ((m_in l2.toInt64 (Int64.ofNat 1) (60 : Int64) h).bind fun q5 => if q5 = 0 then (some ((Int32.ofInt (-1)), h)) else ((gA h l0 20 .int).bind fun y7 => if mi_in (Int32.ofInt 4) (mi_n y7) = true then if ((h.2.1 y7 (Int32.ofInt 4).toNatClampNeg) + l2) ≤ (Int16.ofInt 999).toInt32 then (bd (pm_setI h l0 28 (Int32.ofInt 0)) fun h10 => (wh (fun s : (Int32 × pm_H) => m_run_50 l0 l1 l2 s.1 s.2) ((Int32.ofInt 0), h10)).bind fun q11 => (gA q11 l0 20 .int).bind fun y12 => if mi_in (Int32.ofInt 4) (mi_n y12) = true then some ((q11.2.1 y12 (Int32.ofInt 4).toNatClampNeg), q11) else none) else (some ((Int32.ofInt (-1)), h)) else none)))
theorem T_m_run (b : Bool) (L : Nat) (xs : Nat → Int32) (d : Nat) (hd : 4 ≤ d) (h : pm_H) (s_h : h.1 = tb_SH) (l0 : Nat) (l1 : Int32) (l2 : Int32) (f_l0 : mi_o l0 10 = true) {r : (Int32 × pm_H)} (hm : m_run l0 l1 l2 h = some r) : PC b L xs d 237 [(Value.ref l0), (Value.int l1), (Value.int l2)] h (fun (v0 : Option Value) (h2 : pm_H) => v0 = (some (Value.int r.1)) ∧ h2 = r.2 ∧ h2.1 = tb_SH) := by
  refine pc_in e237 (ls0 := [(Value.ref l0), (Value.int l1), (Value.int l2), Value.retAddr 0, Value.retAddr 0]) rfl ?_
  have key : ∀ (Q : Option Value → pm_H → Prop), (r.2.1 = tb_SH → Q (some (Value.int r.1)) r.2) → PW b L xs d 237 0 0 0 [(Value.ref l0), (Value.int l1), (Value.int l2), Value.retAddr 0, Value.retAddr 0] [] h Q := by
    intro Q hE
    rw [m_run] at hm
    refine pw_l (pc := 0) d237_0 rfl rfl rfl ?_
    obtain ⟨q1, e_q1, hm⟩ := ob_x hm
    refine pw_v (pc := 1) (k := l0) (by omega) d237_1 (k237_305 b) (by decide) m192 (by decide) rfl (sho s_h f_l0) (Nat.le_of_ble_eq_true rfl) (Nat.le_of_ble_eq_true rfl) rfl rfl (T_m_isShip b L xs (d - 1) (by omega) h s_h l0 f_l0 e_q1) (fun v0 h0 hq => ?_)
    obtain ⟨rfl, hh0, s_q1⟩ := hq
    rw [hh0] at s_q1 ⊢
    simp only [Option.toList_some, List.cons_append, List.nil_append]
    refine pw_zeq (pc := 4) (t := 41) d237_4 (by decide) (fun c2 => ?_) (fun c2 => ?_)
    · rw [if_pos c2] at hm
      refine pw_s (pc := 41) d237_41 rfl rfl ?_
      obtain rfl := Option.some.inj hm
      refine pw_ri (pc := 42) d237_42 t237 rfl ?_
      exact hE s_h
    · rw [if_neg c2] at hm
      refine pw_l (pc := 7) d237_7 rfl rfl rfl ?_
      refine pw_l (pc := 8) d237_8 rfl rfl rfl ?_
      obtain ⟨q3, e_q3, hm⟩ := ob_x hm
      refine pw_v (pc := 9) (k := l0) (by omega) d237_9 (k237_371 b) (by decide) m187 (by decide) rfl (sho s_h f_l0) (Nat.le_of_ble_eq_true rfl) (Nat.le_of_ble_eq_true rfl) rfl rfl (T_m_isRule b L xs (d - 1) (by omega) h s_h l0 l1 f_l0 e_q3) (fun v0 h0 hq => ?_)
      obtain ⟨rfl, hh0, s_q3⟩ := hq
      rw [hh0] at s_q3 ⊢
      simp only [Option.toList_some, List.cons_append, List.nil_append]
      refine pw_zeq (pc := 12) (t := 41) d237_12 (by decide) (fun c4 => ?_) (fun c4 => ?_)
      · rw [if_pos c4] at hm
        refine pw_s (pc := 41) d237_41 rfl rfl ?_
        obtain rfl := Option.some.inj hm
        refine pw_ri (pc := 42) d237_42 t237 rfl ?_
        exact hE s_h
      · rw [if_neg c4] at hm
        refine pw_l (pc := 15) d237_15 rfl rfl rfl ?_
        refine pw_s (pc := 16) d237_16 rfl rfl ?_
        refine pw_s (pc := 17) d237_17 rfl rfl ?_
        refine pw_cl (pc := 18) d237_18 (k237_374 b) ?_
        obtain ⟨q5, e_q5, hm⟩ := ob_x hm
        refine pw_u (pc := 21) (by omega) d237_21 (k237_112 b) (by decide) m148 (Nat.le_of_ble_eq_true rfl) (Nat.le_of_ble_eq_true rfl) (Nat.le_of_ble_eq_true rfl) rfl rfl (T_m_in b L xs (d - 1) (by omega) h s_h l2.toInt64 (Int64.ofNat 1) (60 : Int64)  e_q5) (fun v0 h0 hq => ?_)
        obtain ⟨rfl, hh0, s_q5⟩ := hq
        rw [hh0] at s_q5 ⊢
        simp only [Option.toList_some, List.cons_append, List.nil_append]
        refine pw_zeq (pc := 24) (t := 41) d237_24 (by decide) (fun c6 => ?_) (fun c6 => ?_)
        · rw [if_pos c6] at hm
          refine pw_s (pc := 41) d237_41 rfl rfl ?_
          obtain rfl := Option.some.inj hm
          refine pw_ri (pc := 42) d237_42 t237 rfl ?_
          exact hE s_h
        · rw [if_neg c6] at hm
          refine pw_l (pc := 27) d237_27 rfl rfl rfl ?_
          obtain ⟨y7, e_y7, hm⟩ := ob_x hm
          have f_y7 := gA_x e_y7
          refine pw_gr (pc := 28) d237_28 (k237_39 b) (sho s_h f_l0) f10_20 f_y7.1 ?_
          refine pw_s (pc := 31) d237_31 rfl rfl ?_
          obtain ⟨g8, hm⟩ := gd_x hm
          refine pw_ai (pc := 32) d237_32 (sha s_h f_y7.2) (mi_in_x g8) ?_
          refine pw_l (pc := 33) d237_33 rfl rfl rfl ?_
          refine pw_s (pc := 34) d237_34 rfl rfl ?_
          refine pw_s (pc := 35) d237_35 rfl rfl ?_
          refine pw_ile (pc := 38) (t := 43) d237_38 (by decide) (fun c9 => ?_) (fun c9 => ?_)
          · rw [if_pos c9] at hm
            refine pw_l (pc := 43) d237_43 rfl rfl rfl ?_
            refine pw_s (pc := 44) d237_44 rfl rfl ?_
            refine pw_pi (pc := 45) d237_45 (k237_252 b) (sho s_h f_l0) p237_10_28 ?_
            obtain ⟨h10, e_h10, hm⟩ := bd_x hm
            rw [e_h10]
            have s_h10 : h10.1 = tb_SH := by rw [← e_h10]; exact s_h
            refine pw_s (pc := 48) d237_48 rfl rfl ?_
            refine pw_t (pc := 49) d237_49 rfl rfl rfl rfl ?_
            obtain ⟨q11, e_q11, hm⟩ := ob_x hm
            refine wh_ind e_q11 (fun s : (Int32 × pm_H) => s.2.1 = tb_SH → ∀ w4 : Value, PW b L xs d 237 0 0 50 [(Value.ref l0), (Value.int l1), (Value.int l2), (Value.int s.1), w4] [] s.2 Q) (fun s s2 hf ih sx w4 => t_m_run_50 b L xs d hd s.2 sx l0 l1 l2 s.1 w4 f_l0 hf ih) (fun s hf sx w4 => t_m_run_50 b L xs d hd s.2 sx l0 l1 l2 s.1 w4 f_l0 hf ?_) s_h10  (Value.retAddr 0)
            intro s_q11_0 w1 w2 w3 w4
            refine pw_l (pc := 133) d237_133 rfl rfl rfl ?_
            obtain ⟨y12, e_y12, hm⟩ := ob_x hm
            have f_y12 := gA_x e_y12
            refine pw_gr (pc := 134) d237_134 (k237_39 b) (sho s_q11_0 f_l0) f10_20 f_y12.1 ?_
            refine pw_s (pc := 137) d237_137 rfl rfl ?_
            obtain ⟨g13, hm⟩ := gd_x hm
            refine pw_ai (pc := 138) d237_138 (sha s_q11_0 f_y12.2) (mi_in_x g13) ?_
            obtain rfl := Option.some.inj hm
            refine pw_ri (pc := 139) d237_139 t237 rfl ?_
            exact hE s_q11_0
          · rw [if_neg c9] at hm
            refine pw_s (pc := 41) d237_41 rfl rfl ?_
            obtain rfl := Option.some.inj hm
            refine pw_ri (pc := 42) d237_42 t237 rfl ?_
            exact hE s_h
  exact key _ (fun q => ⟨rfl, rfl, q⟩)
noncomputable def m_sayable (l0 : Nat) (h : pm_H) : Option (Int32 × pm_H) := (m_isShip l0 h).bind fun q1 => if q1 = 0 then (some ((Int32.ofInt (-1)), h)) else ((m_heardSet l0 h).bind fun q3 => (m_sayableBy l0 q3 h).bind fun q4 => some (q4.1, q4.2))
theorem T_m_sayable (b : Bool) (L : Nat) (xs : Nat → Int32) (d : Nat) (hd : 7 ≤ d) (h : pm_H) (s_h : h.1 = tb_SH) (l0 : Nat) (f_l0 : mi_o l0 10 = true) {r : (Int32 × pm_H)} (hm : m_sayable l0 h = some r) : PC b L xs d 238 [(Value.ref l0)] h (fun (v0 : Option Value) (h2 : pm_H) => v0 = (some (Value.int r.1)) ∧ h2 = r.2 ∧ h2.1 = tb_SH) := by
  refine pc_in e238 (ls0 := [(Value.ref l0)]) rfl ?_
  have key : ∀ (Q : Option Value → pm_H → Prop), (r.2.1 = tb_SH → Q (some (Value.int r.1)) r.2) → PW b L xs d 238 0 0 0 [(Value.ref l0)] [] h Q := by
    intro Q hE
    rw [m_sayable] at hm
    refine pw_l (pc := 0) d238_0 rfl rfl rfl ?_
    obtain ⟨q1, e_q1, hm⟩ := ob_x hm
    refine pw_v (pc := 1) (k := l0) (by omega) d238_1 (k238_305 b) (by decide) m192 (by decide) rfl (sho s_h f_l0) (Nat.le_of_ble_eq_true rfl) (Nat.le_of_ble_eq_true rfl) rfl rfl (T_m_isShip b L xs (d - 1) (by omega) h s_h l0 f_l0 e_q1) (fun v0 h0 hq => ?_)
    obtain ⟨rfl, hh0, s_q1⟩ := hq
    rw [hh0] at s_q1 ⊢
    simp only [Option.toList_some, List.cons_append, List.nil_append]
    refine pw_zeq (pc := 4) (t := 18) d238_4 (by decide) (fun c2 => ?_) (fun c2 => ?_)
    · rw [if_pos c2] at hm
      refine pw_s (pc := 18) d238_18 rfl rfl ?_
      obtain rfl := Option.some.inj hm
      refine pw_ri (pc := 19) d238_19 t238 rfl ?_
      exact hE s_h
    · rw [if_neg c2] at hm
      refine pw_l (pc := 7) d238_7 rfl rfl rfl ?_
      refine pw_l (pc := 8) d238_8 rfl rfl rfl ?_
      obtain ⟨q3, e_q3, hm⟩ := ob_x hm
      refine pw_v (pc := 9) (k := l0) (by omega) d238_9 (k238_383 b) (by decide) m200 (by decide) rfl (sho s_h f_l0) (Nat.le_of_ble_eq_true rfl) (Nat.le_of_ble_eq_true rfl) rfl rfl (T_m_heardSet b L xs (d - 1) (by omega) h s_h l0 f_l0 e_q3) (fun v0 h0 hq => ?_)
      obtain ⟨rfl, hh0, s_q3⟩ := hq
      rw [hh0] at s_q3 ⊢
      simp only [Option.toList_some, List.cons_append, List.nil_append]
      obtain ⟨q4, e_q4, hm⟩ := ob_x hm
      refine pw_v (pc := 12) (k := l0) (by omega) d238_12 (k238_386 b) (by decide) m221 (by decide) rfl (sho s_h f_l0) (Nat.le_of_ble_eq_true rfl) (Nat.le_of_ble_eq_true rfl) rfl rfl (T_m_sayableBy b L xs (d - 1) (by omega) h s_h l0 q3 f_l0 e_q4) (fun v0 h0 hq => ?_)
      obtain ⟨rfl, hh0, s_q4⟩ := hq
      rw [hh0] at s_q4 ⊢
      simp only [Option.toList_some, List.cons_append, List.nil_append]
      refine pw_go (pc := 15) (t := 19) d238_15 (by decide) ?_
      obtain rfl := Option.some.inj hm
      refine pw_ri (pc := 19) d238_19 t238 rfl ?_
      exact hE s_q4
  exact key _ (fun q => ⟨rfl, rfl, q⟩)
def E_m_shortest_24 (b : Bool) (L : Nat) (xs : Nat → Int32) (d : Nat) (Q : Option Value → pm_H → Prop) (l0 : Nat) (l1 : Int32) (l2 : Int32) : ((Int32 × pm_H) ⊕ (Int32 × pm_H)) → Prop
  | .inl s => s.2.1 = tb_SH → PW b L xs d 239 0 0 24 [(Value.ref l0), (Value.int l1), (Value.int l2), (Value.int s.1)] [] s.2 Q
  | .inr e => e.2.1 = tb_SH → ∀ w1 : Value, PW b L xs d 239 0 0 49 [(Value.ref l0), w1, (Value.int l2), (Value.int e.1)] [] e.2 Q
noncomputable def m_shortest_49 (l0 : Nat) (l2 : Int32) (l3 : Int32) (h : pm_H) : Option (Int32 × pm_H) := if (Int32.ofInt 5) < l3 then (some ((Int8.ofInt (-2)).toInt32, h)) else (if l2 ≤ l3 then (if ¬ l2 = 0 then ((gA h l0 24 .int).bind fun y4 => if mi_in (l2 - (Int32.ofInt 1)) (mi_n y4) = true then some ((h.2.1 y4 (l2 - (Int32.ofInt 1)).toNatClampNeg), h) else none) else (some (l3, h))) else (some ((Int8.ofInt (-2)).toInt32, h)))
theorem t_m_shortest_49 (b : Bool) (L : Nat) (xs : Nat → Int32) (d : Nat) (hd : 5 ≤ d) {Q : Option Value → pm_H → Prop} (h : pm_H) (s_h : h.1 = tb_SH) (l0 : Nat) (l2 : Int32) (l3 : Int32) (w1 : Value) (f_l0 : mi_o l0 10 = true) {r : (Int32 × pm_H)} (hm : m_shortest_49 l0 l2 l3 h = some r) (hE : r.2.1 = tb_SH → Q (some (Value.int r.1)) r.2) : PW b L xs d 239 0 0 49 [(Value.ref l0), w1, (Value.int l2), (Value.int l3)] [] h Q := by
  rw [m_shortest_49] at hm
  refine pw_l (pc := 49) d239_49 rfl rfl rfl ?_
  refine pw_s (pc := 50) d239_50 rfl rfl ?_
  refine pw_igt (pc := 51) (t := 59) d239_51 (by decide) (fun c1 => ?_) (fun c1 => ?_)
  · rw [if_pos c1] at hm
    refine pw_s (pc := 59) d239_59 rfl rfl ?_
    obtain rfl := Option.some.inj hm
    refine pw_ri (pc := 61) d239_61 t239 rfl ?_
    exact hE s_h
  · rw [if_neg c1] at hm
    refine pw_l (pc := 54) d239_54 rfl rfl rfl ?_
    refine pw_l (pc := 55) d239_55 rfl rfl rfl ?_
    refine pw_ile (pc := 56) (t := 62) d239_56 (by decide) (fun c2 => ?_) (fun c2 => ?_)
    · rw [if_pos c2] at hm
      refine pw_l (pc := 62) d239_62 rfl rfl rfl ?_
      refine pw_zne (pc := 63) (t := 70) d239_63 (by decide) (fun c3 => ?_) (fun c3 => ?_)
      · rw [if_pos c3] at hm
        refine pw_l (pc := 70) d239_70 rfl rfl rfl ?_
        obtain ⟨y4, e_y4, hm⟩ := ob_x hm
        have f_y4 := gA_x e_y4
        refine pw_gr (pc := 71) d239_71 (k239_45 b) (sho s_h f_l0) f10_24 f_y4.1 ?_
        refine pw_l (pc := 74) d239_74 rfl rfl rfl ?_
        refine pw_s (pc := 75) d239_75 rfl rfl ?_
        refine pw_s (pc := 76) d239_76 rfl rfl ?_
        obtain ⟨g5, hm⟩ := gd_x hm
        refine pw_ai (pc := 77) d239_77 (sha s_h f_y4.2) (mi_in_x g5) ?_
        obtain rfl := Option.some.inj hm
        refine pw_ri (pc := 78) d239_78 t239 rfl ?_
        exact hE s_h
      · rw [if_neg c3] at hm
        refine pw_l (pc := 66) d239_66 rfl rfl rfl ?_
        refine pw_go (pc := 67) (t := 78) d239_67 (by decide) ?_
        obtain rfl := Option.some.inj hm
        refine pw_ri (pc := 78) d239_78 t239 rfl ?_
        exact hE s_h
    · rw [if_neg c2] at hm
      refine pw_s (pc := 59) d239_59 rfl rfl ?_
      obtain rfl := Option.some.inj hm
      refine pw_ri (pc := 61) d239_61 t239 rfl ?_
      exact hE s_h
noncomputable def m_shortest_24 (l0 : Nat) (l1 : Int32) (l2 : Int32) (l3 : Int32) (h : pm_H) : Option ((Int32 × pm_H) ⊕ (Int32 × pm_H)) := if (Int32.ofInt 5) < l3 then (some (.inr (l3, h))) else ((m_heardSet l0 h).bind fun q2 => (m_findsRow l0 q2 (Int32.ofInt 0) l1 l3 h).bind fun q3 => if ¬ q3.1 = 0 then (some (.inr (l3, q3.2))) else (some (.inl ((l3 + Int32.ofInt 1), q3.2))))
theorem t_m_shortest_24 (b : Bool) (L : Nat) (xs : Nat → Int32) (d : Nat) (hd : 5 ≤ d) {Q : Option Value → pm_H → Prop} (h : pm_H) (s_h : h.1 = tb_SH) (l0 : Nat) (l1 : Int32) (l2 : Int32) (l3 : Int32) (f_l0 : mi_o l0 10 = true) {r : ((Int32 × pm_H) ⊕ (Int32 × pm_H))} (hm : m_shortest_24 l0 l1 l2 l3 h = some r) (hE : E_m_shortest_24 b L xs d Q l0 l1 l2 r) : PW b L xs d 239 0 0 24 [(Value.ref l0), (Value.int l1), (Value.int l2), (Value.int l3)] [] h Q := by
  rw [m_shortest_24] at hm
  refine pw_l (pc := 24) d239_24 rfl rfl rfl ?_
  refine pw_s (pc := 25) d239_25 rfl rfl ?_
  refine pw_igt (pc := 26) (t := 49) d239_26 (by decide) (fun c1 => ?_) (fun c1 => ?_)
  · rw [if_pos c1] at hm
    obtain rfl := Option.some.inj hm
    exact hE s_h  (Value.int l1)
  · rw [if_neg c1] at hm
    refine pw_l (pc := 29) d239_29 rfl rfl rfl ?_
    refine pw_l (pc := 30) d239_30 rfl rfl rfl ?_
    obtain ⟨q2, e_q2, hm⟩ := ob_x hm
    refine pw_v (pc := 31) (k := l0) (by omega) d239_31 (k239_383 b) (by decide) m200 (by decide) rfl (sho s_h f_l0) (Nat.le_of_ble_eq_true rfl) (Nat.le_of_ble_eq_true rfl) rfl rfl (T_m_heardSet b L xs (d - 1) (by omega) h s_h l0 f_l0 e_q2) (fun v0 h0 hq => ?_)
    obtain ⟨rfl, hh0, s_q2⟩ := hq
    rw [hh0] at s_q2 ⊢
    simp only [Option.toList_some, List.cons_append, List.nil_append]
    refine pw_s (pc := 34) d239_34 rfl rfl ?_
    refine pw_l (pc := 35) d239_35 rfl rfl rfl ?_
    refine pw_l (pc := 36) d239_36 rfl rfl rfl ?_
    obtain ⟨q3, e_q3, hm⟩ := ob_x hm
    refine pw_v (pc := 37) (k := l0) (by omega) d239_37 (k239_389 b) (by decide) m218 (by decide) rfl (sho s_h f_l0) (Nat.le_of_ble_eq_true rfl) (Nat.le_of_ble_eq_true rfl) rfl rfl (T_m_findsRow b L xs (d - 1) (by omega) h s_h l0 q2 (Int32.ofInt 0) l1 l3 f_l0 e_q3) (fun v0 h0 hq => ?_)
    obtain ⟨rfl, hh0, s_q3⟩ := hq
    rw [hh0] at s_q3 ⊢
    simp only [Option.toList_some, List.cons_append, List.nil_append]
    refine pw_zne (pc := 40) (t := 49) d239_40 (by decide) (fun c4 => ?_) (fun c4 => ?_)
    · rw [if_pos c4] at hm
      obtain rfl := Option.some.inj hm
      exact hE s_q3  (Value.int l1)
    · rw [if_neg c4] at hm
      refine pw_t (pc := 43) d239_43 rfl rfl rfl rfl ?_
      refine pw_go (pc := 46) (t := 24) d239_46 (by decide) ?_
      obtain rfl := Option.some.inj hm
      exact hE s_q3  
noncomputable def m_shortest (l0 : Nat) (l1 : Int32) (l2 : Int32) (h : pm_H) : Option (Int32 × pm_H) := (m_isOrder l0 l1 h).bind fun q1 => if q1 = 0 then (some ((Int32.ofInt (-1)), h)) else ((m_in l2.toInt64 (Int64.ofNat 0) (5 : Int64) h).bind fun q3 => if ¬ q3 = 0 then ((wh (fun s : (Int32 × pm_H) => m_shortest_24 l0 l1 l2 s.1 s.2) ((Int32.ofInt 1), h)).bind fun q5 => m_shortest_49 l0 l2 q5.1 q5.2) else (some ((Int32.ofInt (-1)), h)))
theorem T_m_shortest (b : Bool) (L : Nat) (xs : Nat → Int32) (d : Nat) (hd : 5 ≤ d) (h : pm_H) (s_h : h.1 = tb_SH) (l0 : Nat) (l1 : Int32) (l2 : Int32) (f_l0 : mi_o l0 10 = true) {r : (Int32 × pm_H)} (hm : m_shortest l0 l1 l2 h = some r) : PC b L xs d 239 [(Value.ref l0), (Value.int l1), (Value.int l2)] h (fun (v0 : Option Value) (h2 : pm_H) => v0 = (some (Value.int r.1)) ∧ h2 = r.2 ∧ h2.1 = tb_SH) := by
  refine pc_in e239 (ls0 := [(Value.ref l0), (Value.int l1), (Value.int l2), Value.retAddr 0]) rfl ?_
  have key : ∀ (Q : Option Value → pm_H → Prop), (r.2.1 = tb_SH → Q (some (Value.int r.1)) r.2) → PW b L xs d 239 0 0 0 [(Value.ref l0), (Value.int l1), (Value.int l2), Value.retAddr 0] [] h Q := by
    intro Q hE
    rw [m_shortest] at hm
    refine pw_l (pc := 0) d239_0 rfl rfl rfl ?_
    refine pw_l (pc := 1) d239_1 rfl rfl rfl ?_
    obtain ⟨q1, e_q1, hm⟩ := ob_x hm
    refine pw_v (pc := 2) (k := l0) (by omega) d239_2 (k239_288 b) (by decide) m194 (by decide) rfl (sho s_h f_l0) (Nat.le_of_ble_eq_true rfl) (Nat.le_of_ble_eq_true rfl) rfl rfl (T_m_isOrder b L xs (d - 1) (by omega) h s_h l0 l1 f_l0 e_q1) (fun v0 h0 hq => ?_)
    obtain ⟨rfl, hh0, s_q1⟩ := hq
    rw [hh0] at s_q1 ⊢
    simp only [Option.toList_some, List.cons_append, List.nil_append]
    refine pw_zeq (pc := 5) (t := 20) d239_5 (by decide) (fun c2 => ?_) (fun c2 => ?_)
    · rw [if_pos c2] at hm
      refine pw_s (pc := 20) d239_20 rfl rfl ?_
      obtain rfl := Option.some.inj hm
      refine pw_ri (pc := 21) d239_21 t239 rfl ?_
      exact hE s_h
    · rw [if_neg c2] at hm
      refine pw_l (pc := 8) d239_8 rfl rfl rfl ?_
      refine pw_s (pc := 9) d239_9 rfl rfl ?_
      refine pw_s (pc := 10) d239_10 rfl rfl ?_
      refine pw_cl (pc := 11) d239_11 (k239_291 b) ?_
      obtain ⟨q3, e_q3, hm⟩ := ob_x hm
      refine pw_u (pc := 14) (by omega) d239_14 (k239_112 b) (by decide) m148 (Nat.le_of_ble_eq_true rfl) (Nat.le_of_ble_eq_true rfl) (Nat.le_of_ble_eq_true rfl) rfl rfl (T_m_in b L xs (d - 1) (by omega) h s_h l2.toInt64 (Int64.ofNat 0) (5 : Int64)  e_q3) (fun v0 h0 hq => ?_)
      obtain ⟨rfl, hh0, s_q3⟩ := hq
      rw [hh0] at s_q3 ⊢
      simp only [Option.toList_some, List.cons_append, List.nil_append]
      refine pw_zne (pc := 17) (t := 22) d239_17 (by decide) (fun c4 => ?_) (fun c4 => ?_)
      · rw [if_pos c4] at hm
        refine pw_s (pc := 22) d239_22 rfl rfl ?_
        refine pw_t (pc := 23) d239_23 rfl rfl rfl rfl ?_
        obtain ⟨q5, e_q5, hm⟩ := ob_x hm
        refine wh_ind e_q5 (fun s : (Int32 × pm_H) => s.2.1 = tb_SH → PW b L xs d 239 0 0 24 [(Value.ref l0), (Value.int l1), (Value.int l2), (Value.int s.1)] [] s.2 Q) (fun s s2 hf ih sx => t_m_shortest_24 b L xs d hd s.2 sx l0 l1 l2 s.1  f_l0 hf ih) (fun s hf sx => t_m_shortest_24 b L xs d hd s.2 sx l0 l1 l2 s.1  f_l0 hf ?_) s_h  
        intro s_q5_0 w1
        exact t_m_shortest_49 b L xs d hd q5.2 s_q5_0 l0 l2 q5.1 w1 f_l0  hm hE
      · rw [if_neg c4] at hm
        refine pw_s (pc := 20) d239_20 rfl rfl ?_
        obtain rfl := Option.some.inj hm
        refine pw_ri (pc := 21) d239_21 t239 rfl ?_
        exact hE s_h
  exact key _ (fun q => ⟨rfl, rfl, q⟩)
def E_m_fewest_126 (b : Bool) (L : Nat) (xs : Nat → Int32) (d : Nat) (Q : Option Value → pm_H → Prop) (l0 : Nat) (l1 : Int32) (l2 : Int32) (l3 : Int32) (l4 : Int32) : ((Int32 × Int32 × pm_H) ⊕ (Int32 × pm_H)) → Prop
  | .inl s => s.2.2.1 = tb_SH → PW b L xs d 240 0 0 126 [(Value.ref l0), (Value.int l1), (Value.int l2), (Value.int l3), (Value.int l4), (Value.int s.1), (Value.int s.2.1)] [] s.2.2 Q
  | .inr e => e.2.1 = tb_SH → ∀ w0 w1 w3 w4 w6 : Value, PW b L xs d 240 0 0 189 [w0, w1, (Value.int l2), w3, w4, (Value.int e.1), w6] [] e.2 Q
def E_m_fewest_36 (b : Bool) (L : Nat) (xs : Nat → Int32) (d : Nat) (Q : Option Value → pm_H → Prop) (l0 : Nat) (l1 : Int32) (l2 : Int32) : ((Int32 × Int32 × pm_H) ⊕ (Int32 × pm_H)) → Prop
  | .inl s => s.2.2.1 = tb_SH → ∀ w5 w6 : Value, PW b L xs d 240 0 0 36 [(Value.ref l0), (Value.int l1), (Value.int l2), (Value.int s.1), (Value.int s.2.1), w5, w6] [] s.2.2 Q
  | .inr e => e.2.1 = tb_SH → ∀ w4 w5 w6 : Value, PW b L xs d 240 0 0 92 [(Value.ref l0), (Value.int l1), (Value.int l2), (Value.int e.1), w4, w5, w6] [] e.2 Q
noncomputable def m_fewest_179 (l0 : Nat) (l1 : Int32) (l2 : Int32) (l3 : Int32) (l4 : Int32) (l6 : Int32) (h : pm_H) : Option ((Int32 × Int32 × pm_H) ⊕ (Int32 × pm_H)) := some (.inl (l6, (l6 + Int32.ofInt 1), h))
theorem t_m_fewest_179 (b : Bool) (L : Nat) (xs : Nat → Int32) (d : Nat) (hd : 6 ≤ d) {Q : Option Value → pm_H → Prop} (h : pm_H) (s_h : h.1 = tb_SH) (l0 : Nat) (l1 : Int32) (l2 : Int32) (l3 : Int32) (l4 : Int32) (l6 : Int32) (w5 : Value) (f_l0 : mi_o l0 10 = true) {r : ((Int32 × Int32 × pm_H) ⊕ (Int32 × pm_H))} (hm : m_fewest_179 l0 l1 l2 l3 l4 l6 h = some r) (hE : E_m_fewest_126 b L xs d Q l0 l1 l2 l3 l4 r) : PW b L xs d 240 0 0 179 [(Value.ref l0), (Value.int l1), (Value.int l2), (Value.int l3), (Value.int l4), w5, (Value.int l6)] [] h Q := by
  rw [m_fewest_179] at hm
  refine pw_l (pc := 179) d240_179 rfl rfl rfl ?_
  refine pw_t (pc := 181) d240_181 rfl rfl rfl rfl ?_
  refine pw_t (pc := 183) d240_183 rfl rfl rfl rfl ?_
  refine pw_go (pc := 186) (t := 126) d240_186 (by decide) ?_
  obtain rfl := Option.some.inj hm
  exact hE s_h  
noncomputable def m_fewest_126 (l0 : Nat) (l1 : Int32) (l2 : Int32) (l3 : Int32) (l4 : Int32) (l5 : Int32) (l6 : Int32) (h : pm_H) : Option ((Int32 × Int32 × pm_H) ⊕ (Int32 × pm_H)) := if l3 < l6 then (some (.inr (l5, h))) else (if ¬ (l6 &&& (l3 ^^^ (Int32.ofInt (-1)))) = 0 then (some (.inl (l5, (l6 + Int32.ofInt 1), h))) else ((gA h l0 26 .int).bind fun y3 => if mi_in (l6 ||| l4) (mi_n y3) = true then if (l1 &&& ((h.2.1 y3 (l6 ||| l4).toNatClampNeg) ^^^ (Int32.ofInt (-1)))) = 0 then (if l5 < 0 then (m_fewest_179 l0 l1 l2 l3 l4 l6 h) else ((m_bits l6 h).bind fun q7 => (m_bits l5 h).bind fun q8 => if q8 ≤ q7 then (some (.inl (l5, (l6 + Int32.ofInt 1), h))) else (m_fewest_179 l0 l1 l2 l3 l4 l6 h))) else (some (.inl (l5, (l6 + Int32.ofInt 1), h))) else none))
theorem t_m_fewest_126 (b : Bool) (L : Nat) (xs : Nat → Int32) (d : Nat) (hd : 6 ≤ d) {Q : Option Value → pm_H → Prop} (h : pm_H) (s_h : h.1 = tb_SH) (l0 : Nat) (l1 : Int32) (l2 : Int32) (l3 : Int32) (l4 : Int32) (l5 : Int32) (l6 : Int32) (f_l0 : mi_o l0 10 = true) {r : ((Int32 × Int32 × pm_H) ⊕ (Int32 × pm_H))} (hm : m_fewest_126 l0 l1 l2 l3 l4 l5 l6 h = some r) (hE : E_m_fewest_126 b L xs d Q l0 l1 l2 l3 l4 r) : PW b L xs d 240 0 0 126 [(Value.ref l0), (Value.int l1), (Value.int l2), (Value.int l3), (Value.int l4), (Value.int l5), (Value.int l6)] [] h Q := by
  rw [m_fewest_126] at hm
  refine pw_l (pc := 126) d240_126 rfl rfl rfl ?_
  refine pw_l (pc := 128) d240_128 rfl rfl rfl ?_
  refine pw_igt (pc := 129) (t := 189) d240_129 (by decide) (fun c1 => ?_) (fun c1 => ?_)
  · rw [if_pos c1] at hm
    obtain rfl := Option.some.inj hm
    exact hE s_h  (Value.ref l0) (Value.int l1) (Value.int l3) (Value.int l4) (Value.int l6)
  · rw [if_neg c1] at hm
    refine pw_l (pc := 132) d240_132 rfl rfl rfl ?_
    refine pw_l (pc := 134) d240_134 rfl rfl rfl ?_
    refine pw_s (pc := 135) d240_135 rfl rfl ?_
    refine pw_s (pc := 136) d240_136 rfl rfl ?_
    refine pw_s (pc := 137) d240_137 rfl rfl ?_
    refine pw_zne (pc := 138) (t := 183) d240_138 (by decide) (fun c2 => ?_) (fun c2 => ?_)
    · rw [if_pos c2] at hm
      refine pw_t (pc := 183) d240_183 rfl rfl rfl rfl ?_
      refine pw_go (pc := 186) (t := 126) d240_186 (by decide) ?_
      obtain rfl := Option.some.inj hm
      exact hE s_h  
    · rw [if_neg c2] at hm
      refine pw_l (pc := 141) d240_141 rfl rfl rfl ?_
      refine pw_l (pc := 142) d240_142 rfl rfl rfl ?_
      obtain ⟨y3, e_y3, hm⟩ := ob_x hm
      have f_y3 := gA_x e_y3
      refine pw_gr (pc := 143) d240_143 (k240_51 b) (sho s_h f_l0) f10_26 f_y3.1 ?_
      refine pw_l (pc := 146) d240_146 rfl rfl rfl ?_
      refine pw_l (pc := 148) d240_148 rfl rfl rfl ?_
      refine pw_s (pc := 150) d240_150 rfl rfl ?_
      obtain ⟨g4, hm⟩ := gd_x hm
      refine pw_ai (pc := 151) d240_151 (sha s_h f_y3.2) (mi_in_x g4) ?_
      refine pw_s (pc := 152) d240_152 rfl rfl ?_
      refine pw_s (pc := 153) d240_153 rfl rfl ?_
      refine pw_s (pc := 154) d240_154 rfl rfl ?_
      refine pw_zeq (pc := 155) (t := 161) d240_155 (by decide) (fun c5 => ?_) (fun c5 => ?_)
      · rw [if_pos c5] at hm
        refine pw_l (pc := 161) d240_161 rfl rfl rfl ?_
        refine pw_zlt (pc := 163) (t := 179) d240_163 (by decide) (fun c6 => ?_) (fun c6 => ?_)
        · rw [if_pos c6] at hm
          exact t_m_fewest_179 b L xs d hd h s_h l0 l1 l2 l3 l4 l6 (Value.int l5) f_l0  hm hE
        · rw [if_neg c6] at hm
          refine pw_l (pc := 166) d240_166 rfl rfl rfl ?_
          obtain ⟨q7, e_q7, hm⟩ := ob_x hm
          refine pw_u (pc := 168) (by omega) d240_168 (k240_336 b) (by decide) m150 (Nat.le_of_ble_eq_true rfl) (Nat.le_of_ble_eq_true rfl) (Nat.le_of_ble_eq_true rfl) rfl rfl (T_m_bits b L xs (d - 1) (by omega) h s_h l6  e_q7) (fun v0 h0 hq => ?_)
          obtain ⟨rfl, hh0, s_q7⟩ := hq
          rw [hh0] at s_q7 ⊢
          simp only [Option.toList_some, List.cons_append, List.nil_append]
          refine pw_l (pc := 171) d240_171 rfl rfl rfl ?_
          obtain ⟨q8, e_q8, hm⟩ := ob_x hm
          refine pw_u (pc := 173) (by omega) d240_173 (k240_336 b) (by decide) m150 (Nat.le_of_ble_eq_true rfl) (Nat.le_of_ble_eq_true rfl) (Nat.le_of_ble_eq_true rfl) rfl rfl (T_m_bits b L xs (d - 1) (by omega) h s_h l5  e_q8) (fun v0 h0 hq => ?_)
          obtain ⟨rfl, hh0, s_q8⟩ := hq
          rw [hh0] at s_q8 ⊢
          simp only [Option.toList_some, List.cons_append, List.nil_append]
          refine pw_ige (pc := 176) (t := 183) d240_176 (by decide) (fun c9 => ?_) (fun c9 => ?_)
          · rw [if_pos c9] at hm
            refine pw_t (pc := 183) d240_183 rfl rfl rfl rfl ?_
            refine pw_go (pc := 186) (t := 126) d240_186 (by decide) ?_
            obtain rfl := Option.some.inj hm
            exact hE s_h  
          · rw [if_neg c9] at hm
            exact t_m_fewest_179 b L xs d hd h s_h l0 l1 l2 l3 l4 l6 (Value.int l5) f_l0  hm hE
      · rw [if_neg c5] at hm
        refine pw_go (pc := 158) (t := 183) d240_158 (by decide) ?_
        refine pw_t (pc := 183) d240_183 rfl rfl rfl rfl ?_
        refine pw_go (pc := 186) (t := 126) d240_186 (by decide) ?_
        obtain rfl := Option.some.inj hm
        exact hE s_h  
noncomputable def m_fewest_109 (l0 : Nat) (l1 : Int32) (l2 : Int32) (l3 : Int32) (z0 : Int32) (h : pm_H) : Option (Int32 × pm_H) := (m_gathersSays l0 (l3 ||| z0) h).bind fun q1 => (wh (fun s : (Int32 × Int32 × pm_H) => m_fewest_126 l0 l1 l2 l3 z0 s.1 s.2.1 s.2.2) ((Int8.ofInt (-2)).toInt32, (Int32.ofInt 0), q1)).bind fun q2 => if 0 ≤ q2.1 then (if ¬ l2 = 0 then (some (q2.1, q2.2)) else ((m_bits q2.1 q2.2).bind fun q5 => some (q5, q2.2))) else (some ((Int8.ofInt (-2)).toInt32, q2.2))
theorem t_m_fewest_109 (b : Bool) (L : Nat) (xs : Nat → Int32) (d : Nat) (hd : 6 ≤ d) {Q : Option Value → pm_H → Prop} (h : pm_H) (s_h : h.1 = tb_SH) (l0 : Nat) (l1 : Int32) (l2 : Int32) (l3 : Int32) (z0 : Int32) (w4 : Value) (w5 : Value) (w6 : Value) (f_l0 : mi_o l0 10 = true) {r : (Int32 × pm_H)} (hm : m_fewest_109 l0 l1 l2 l3 z0 h = some r) (hE : r.2.1 = tb_SH → Q (some (Value.int r.1)) r.2) : PW b L xs d 240 0 0 109 [(Value.ref l0), (Value.int l1), (Value.int l2), (Value.int l3), w4, w5, w6] [(Value.int z0)] h Q := by
  rw [m_fewest_109] at hm
  refine pw_t (pc := 109) d240_109 rfl rfl rfl rfl ?_
  refine pw_l (pc := 111) d240_111 rfl rfl rfl ?_
  refine pw_l (pc := 112) d240_112 rfl rfl rfl ?_
  refine pw_l (pc := 113) d240_113 rfl rfl rfl ?_
  refine pw_s (pc := 115) d240_115 rfl rfl ?_
  obtain ⟨q1, e_q1, hm⟩ := ob_x hm
  refine pw_v (pc := 116) (k := l0) (by omega) d240_116 (k240_342 b) (by decide) m220 (by decide) rfl (sho s_h f_l0) (Nat.le_of_ble_eq_true rfl) (Nat.le_of_ble_eq_true rfl) rfl rfl (T_m_gathersSays b L xs (d - 1) (by omega) h s_h l0 (l3 ||| z0) f_l0 e_q1) (fun v0 h0 hq => ?_)
  obtain ⟨rfl, hh0, s_q1⟩ := hq
  rw [hh0] at s_q1 ⊢
  simp only [Option.toList_none, List.nil_append]
  refine pw_s (pc := 119) d240_119 rfl rfl ?_
  refine pw_t (pc := 121) d240_121 rfl rfl rfl rfl ?_
  refine pw_s (pc := 123) d240_123 rfl rfl ?_
  refine pw_t (pc := 124) d240_124 rfl rfl rfl rfl ?_
  obtain ⟨q2, e_q2, hm⟩ := ob_x hm
  refine wh_ind e_q2 (fun s : (Int32 × Int32 × pm_H) => s.2.2.1 = tb_SH → PW b L xs d 240 0 0 126 [(Value.ref l0), (Value.int l1), (Value.int l2), (Value.int l3), (Value.int z0), (Value.int s.1), (Value.int s.2.1)] [] s.2.2 Q) (fun s s2 hf ih sx => t_m_fewest_126 b L xs d hd s.2.2 sx l0 l1 l2 l3 z0 s.1 s.2.1  f_l0 hf ih) (fun s hf sx => t_m_fewest_126 b L xs d hd s.2.2 sx l0 l1 l2 l3 z0 s.1 s.2.1  f_l0 hf ?_) s_q1  
  intro s_q2_0 w0 w1 w3 w4 w6
  refine pw_l (pc := 189) d240_189 rfl rfl rfl ?_
  refine pw_zge (pc := 191) (t := 199) d240_191 (by decide) (fun c3 => ?_) (fun c3 => ?_)
  · rw [if_pos c3] at hm
    refine pw_l (pc := 199) d240_199 rfl rfl rfl ?_
    refine pw_zne (pc := 200) (t := 211) d240_200 (by decide) (fun c4 => ?_) (fun c4 => ?_)
    · rw [if_pos c4] at hm
      refine pw_l (pc := 211) d240_211 rfl rfl rfl ?_
      obtain rfl := Option.some.inj hm
      refine pw_ri (pc := 213) d240_213 t240 rfl ?_
      exact hE s_q2_0
    · rw [if_neg c4] at hm
      refine pw_l (pc := 203) d240_203 rfl rfl rfl ?_
      obtain ⟨q5, e_q5, hm⟩ := ob_x hm
      refine pw_u (pc := 205) (by omega) d240_205 (k240_336 b) (by decide) m150 (Nat.le_of_ble_eq_true rfl) (Nat.le_of_ble_eq_true rfl) (Nat.le_of_ble_eq_true rfl) rfl rfl (T_m_bits b L xs (d - 1) (by omega) q2.2 s_q2_0 q2.1  e_q5) (fun v0 h0 hq => ?_)
      obtain ⟨rfl, hh0, s_q5⟩ := hq
      rw [hh0] at s_q5 ⊢
      simp only [Option.toList_some, List.cons_append, List.nil_append]
      refine pw_go (pc := 208) (t := 213) d240_208 (by decide) ?_
      obtain rfl := Option.some.inj hm
      refine pw_ri (pc := 213) d240_213 t240 rfl ?_
      exact hE s_q2_0
  · rw [if_neg c3] at hm
    refine pw_s (pc := 194) d240_194 rfl rfl ?_
    refine pw_go (pc := 196) (t := 213) d240_196 (by decide) ?_
    obtain rfl := Option.some.inj hm
    refine pw_ri (pc := 213) d240_213 t240 rfl ?_
    exact hE s_q2_0
noncomputable def m_fewest_84 (l0 : Nat) (l1 : Int32) (l2 : Int32) (l4 : Int32) (z0 : Int32) (z1 : Int32) (h : pm_H) : Option ((Int32 × Int32 × pm_H) ⊕ (Int32 × pm_H)) := some (.inl ((z1 ||| z0), (l4 + Int32.ofInt 1), h))
theorem t_m_fewest_84 (b : Bool) (L : Nat) (xs : Nat → Int32) (d : Nat) (hd : 6 ≤ d) {Q : Option Value → pm_H → Prop} (h : pm_H) (s_h : h.1 = tb_SH) (l0 : Nat) (l1 : Int32) (l2 : Int32) (l4 : Int32) (z0 : Int32) (z1 : Int32) (w3 : Value) (w5 : Value) (w6 : Value) (f_l0 : mi_o l0 10 = true) {r : ((Int32 × Int32 × pm_H) ⊕ (Int32 × pm_H))} (hm : m_fewest_84 l0 l1 l2 l4 z0 z1 h = some r) (hE : E_m_fewest_36 b L xs d Q l0 l1 l2 r) : PW b L xs d 240 0 0 84 [(Value.ref l0), (Value.int l1), (Value.int l2), w3, (Value.int l4), w5, w6] [(Value.int z0), (Value.int z1)] h Q := by
  rw [m_fewest_84] at hm
  refine pw_s (pc := 84) d240_84 rfl rfl ?_
  refine pw_t (pc := 85) d240_85 rfl rfl rfl rfl ?_
  refine pw_t (pc := 86) d240_86 rfl rfl rfl rfl ?_
  refine pw_go (pc := 89) (t := 36) d240_89 (by decide) ?_
  obtain rfl := Option.some.inj hm
  exact hE s_h  w5 w6
noncomputable def m_fewest_36 (l0 : Nat) (l1 : Int32) (l2 : Int32) (l3 : Int32) (l4 : Int32) (h : pm_H) : Option ((Int32 × Int32 × pm_H) ⊕ (Int32 × pm_H)) := (gA h l0 20 .int).bind fun y1 => if mi_in (Int32.ofInt 1) (mi_n y1) = true then if (h.2.1 y1 (Int32.ofInt 1).toNatClampNeg) ≤ l4 then (some (.inr (l3, h))) else ((m_isAlive l0 l4 h).bind fun q4 => if q4 = 0 then (m_fewest_84 l0 l1 l2 l4 (Int32.ofInt 0) l3 h) else ((m_manOf l0 l4 (Int32.ofInt 3) h).bind fun q6 => if ¬ q6 = 0 then (m_fewest_84 l0 l1 l2 l4 (Int32.ofInt 0) l3 h) else ((m_isLee l0 l4 h).bind fun q8 => if ¬ q8 = 0 then (m_fewest_84 l0 l1 l2 l4 (Int32.ofInt 0) l3 h) else (m_fewest_84 l0 l1 l2 l4 ((Int32.ofInt 1) <<< (l4 &&& 31)) l3 h)))) else none
theorem t_m_fewest_36 (b : Bool) (L : Nat) (xs : Nat → Int32) (d : Nat) (hd : 6 ≤ d) {Q : Option Value → pm_H → Prop} (h : pm_H) (s_h : h.1 = tb_SH) (l0 : Nat) (l1 : Int32) (l2 : Int32) (l3 : Int32) (l4 : Int32) (w5 : Value) (w6 : Value) (f_l0 : mi_o l0 10 = true) {r : ((Int32 × Int32 × pm_H) ⊕ (Int32 × pm_H))} (hm : m_fewest_36 l0 l1 l2 l3 l4 h = some r) (hE : E_m_fewest_36 b L xs d Q l0 l1 l2 r) : PW b L xs d 240 0 0 36 [(Value.ref l0), (Value.int l1), (Value.int l2), (Value.int l3), (Value.int l4), w5, w6] [] h Q := by
  rw [m_fewest_36] at hm
  refine pw_l (pc := 36) d240_36 rfl rfl rfl ?_
  refine pw_l (pc := 38) d240_38 rfl rfl rfl ?_
  obtain ⟨y1, e_y1, hm⟩ := ob_x hm
  have f_y1 := gA_x e_y1
  refine pw_gr (pc := 39) d240_39 (k240_39 b) (sho s_h f_l0) f10_20 f_y1.1 ?_
  refine pw_s (pc := 42) d240_42 rfl rfl ?_
  obtain ⟨g2, hm⟩ := gd_x hm
  refine pw_ai (pc := 43) d240_43 (sha s_h f_y1.2) (mi_in_x g2) ?_
  refine pw_ige (pc := 44) (t := 92) d240_44 (by decide) (fun c3 => ?_) (fun c3 => ?_)
  · rw [if_pos c3] at hm
    obtain rfl := Option.some.inj hm
    exact hE s_h  (Value.int l4) w5 w6
  · rw [if_neg c3] at hm
    refine pw_l (pc := 47) d240_47 rfl rfl rfl ?_
    refine pw_l (pc := 48) d240_48 rfl rfl rfl ?_
    refine pw_l (pc := 49) d240_49 rfl rfl rfl ?_
    obtain ⟨q4, e_q4, hm⟩ := ob_x hm
    refine pw_v (pc := 51) (k := l0) (by omega) d240_51 (k240_277 b) (by decide) m197 (by decide) rfl (sho s_h f_l0) (Nat.le_of_ble_eq_true rfl) (Nat.le_of_ble_eq_true rfl) rfl rfl (T_m_isAlive b L xs (d - 1) (by omega) h s_h l0 l4 f_l0 e_q4) (fun v0 h0 hq => ?_)
    obtain ⟨rfl, hh0, s_q4⟩ := hq
    rw [hh0] at s_q4 ⊢
    simp only [Option.toList_some, List.cons_append, List.nil_append]
    refine pw_zeq (pc := 54) (t := 83) d240_54 (by decide) (fun c5 => ?_) (fun c5 => ?_)
    · rw [if_pos c5] at hm
      refine pw_s (pc := 83) d240_83 rfl rfl ?_
      exact t_m_fewest_84 b L xs d hd h s_h l0 l1 l2 l4 (Int32.ofInt 0) l3 (Value.int l3) w5 w6 f_l0  hm hE
    · rw [if_neg c5] at hm
      refine pw_l (pc := 57) d240_57 rfl rfl rfl ?_
      refine pw_l (pc := 58) d240_58 rfl rfl rfl ?_
      refine pw_s (pc := 60) d240_60 rfl rfl ?_
      obtain ⟨q6, e_q6, hm⟩ := ob_x hm
      refine pw_v (pc := 61) (k := l0) (by omega) d240_61 (k240_273 b) (by decide) m196 (by decide) rfl (sho s_h f_l0) (Nat.le_of_ble_eq_true rfl) (Nat.le_of_ble_eq_true rfl) rfl rfl (T_m_manOf b L xs (d - 1) (by omega) h s_h l0 l4 (Int32.ofInt 3) f_l0 e_q6) (fun v0 h0 hq => ?_)
      obtain ⟨rfl, hh0, s_q6⟩ := hq
      rw [hh0] at s_q6 ⊢
      simp only [Option.toList_some, List.cons_append, List.nil_append]
      refine pw_zne (pc := 64) (t := 83) d240_64 (by decide) (fun c7 => ?_) (fun c7 => ?_)
      · rw [if_pos c7] at hm
        refine pw_s (pc := 83) d240_83 rfl rfl ?_
        exact t_m_fewest_84 b L xs d hd h s_h l0 l1 l2 l4 (Int32.ofInt 0) l3 (Value.int l3) w5 w6 f_l0  hm hE
      · rw [if_neg c7] at hm
        refine pw_l (pc := 67) d240_67 rfl rfl rfl ?_
        refine pw_l (pc := 68) d240_68 rfl rfl rfl ?_
        obtain ⟨q8, e_q8, hm⟩ := ob_x hm
        refine pw_v (pc := 70) (k := l0) (by omega) d240_70 (k240_280 b) (by decide) m198 (by decide) rfl (sho s_h f_l0) (Nat.le_of_ble_eq_true rfl) (Nat.le_of_ble_eq_true rfl) rfl rfl (T_m_isLee b L xs (d - 1) (by omega) h s_h l0 l4 f_l0 e_q8) (fun v0 h0 hq => ?_)
        obtain ⟨rfl, hh0, s_q8⟩ := hq
        rw [hh0] at s_q8 ⊢
        simp only [Option.toList_some, List.cons_append, List.nil_append]
        refine pw_zne (pc := 73) (t := 83) d240_73 (by decide) (fun c9 => ?_) (fun c9 => ?_)
        · rw [if_pos c9] at hm
          refine pw_s (pc := 83) d240_83 rfl rfl ?_
          exact t_m_fewest_84 b L xs d hd h s_h l0 l1 l2 l4 (Int32.ofInt 0) l3 (Value.int l3) w5 w6 f_l0  hm hE
        · rw [if_neg c9] at hm
          refine pw_s (pc := 76) d240_76 rfl rfl ?_
          refine pw_l (pc := 77) d240_77 rfl rfl rfl ?_
          refine pw_s (pc := 79) d240_79 rfl rfl ?_
          refine pw_go (pc := 80) (t := 84) d240_80 (by decide) ?_
          exact t_m_fewest_84 b L xs d hd h s_h l0 l1 l2 l4 ((Int32.ofInt 1) <<< (l4 &&& 31)) l3 (Value.int l3) w5 w6 f_l0  hm hE
noncomputable def m_fewest (l0 : Nat) (l1 : Int32) (l2 : Int32) (h : pm_H) : Option (Int32 × pm_H) := (m_isShip l0 h).bind fun q1 => if q1 = 0 then (some ((Int32.ofInt (-1)), h)) else (if l1 < 0 then (some ((Int32.ofInt (-1)), h)) else ((m_allOrders l0 h).bind fun q4 => if q4 < l1 then (some ((Int32.ofInt (-1)), h)) else ((m_in l2.toInt64 (Int64.ofNat 0) (Int64.ofNat 1) h).bind fun q6 => if ¬ q6 = 0 then ((wh (fun s : (Int32 × Int32 × pm_H) => m_fewest_36 l0 l1 l2 s.1 s.2.1 s.2.2) ((Int32.ofInt 0), (Int32.ofInt 0), h)).bind fun q8 => (gA q8.2 l0 20 .int).bind fun y9 => if mi_in ((Int8.ofInt 6).toInt32) (mi_n y9) = true then if (q8.2.2.1 y9 ((Int8.ofInt 6).toInt32).toNatClampNeg) < 0 then (m_fewest_109 l0 l1 l2 q8.1 (Int32.ofInt 0) q8.2) else (m_fewest_109 l0 l1 l2 q8.1 ((Int16.ofInt 256).toInt32) q8.2) else none) else (some ((Int32.ofInt (-1)), h)))))
theorem T_m_fewest (b : Bool) (L : Nat) (xs : Nat → Int32) (d : Nat) (hd : 6 ≤ d) (h : pm_H) (s_h : h.1 = tb_SH) (l0 : Nat) (l1 : Int32) (l2 : Int32) (f_l0 : mi_o l0 10 = true) {r : (Int32 × pm_H)} (hm : m_fewest l0 l1 l2 h = some r) : PC b L xs d 240 [(Value.ref l0), (Value.int l1), (Value.int l2)] h (fun (v0 : Option Value) (h2 : pm_H) => v0 = (some (Value.int r.1)) ∧ h2 = r.2 ∧ h2.1 = tb_SH) := by
  refine pc_in e240 (ls0 := [(Value.ref l0), (Value.int l1), (Value.int l2), Value.retAddr 0, Value.retAddr 0, Value.retAddr 0, Value.retAddr 0]) rfl ?_
  have key : ∀ (Q : Option Value → pm_H → Prop), (r.2.1 = tb_SH → Q (some (Value.int r.1)) r.2) → PW b L xs d 240 0 0 0 [(Value.ref l0), (Value.int l1), (Value.int l2), Value.retAddr 0, Value.retAddr 0, Value.retAddr 0, Value.retAddr 0] [] h Q := by
    intro Q hE
    rw [m_fewest] at hm
    refine pw_l (pc := 0) d240_0 rfl rfl rfl ?_
    obtain ⟨q1, e_q1, hm⟩ := ob_x hm
    refine pw_v (pc := 1) (k := l0) (by omega) d240_1 (k240_305 b) (by decide) m192 (by decide) rfl (sho s_h f_l0) (Nat.le_of_ble_eq_true rfl) (Nat.le_of_ble_eq_true rfl) rfl rfl (T_m_isShip b L xs (d - 1) (by omega) h s_h l0 f_l0 e_q1) (fun v0 h0 hq => ?_)
    obtain ⟨rfl, hh0, s_q1⟩ := hq
    rw [hh0] at s_q1 ⊢
    simp only [Option.toList_some, List.cons_append, List.nil_append]
    refine pw_zeq (pc := 4) (t := 29) d240_4 (by decide) (fun c2 => ?_) (fun c2 => ?_)
    · rw [if_pos c2] at hm
      refine pw_s (pc := 29) d240_29 rfl rfl ?_
      obtain rfl := Option.some.inj hm
      refine pw_ri (pc := 30) d240_30 t240 rfl ?_
      exact hE s_h
    · rw [if_neg c2] at hm
      refine pw_l (pc := 7) d240_7 rfl rfl rfl ?_
      refine pw_zlt (pc := 8) (t := 29) d240_8 (by decide) (fun c3 => ?_) (fun c3 => ?_)
      · rw [if_pos c3] at hm
        refine pw_s (pc := 29) d240_29 rfl rfl ?_
        obtain rfl := Option.some.inj hm
        refine pw_ri (pc := 30) d240_30 t240 rfl ?_
        exact hE s_h
      · rw [if_neg c3] at hm
        refine pw_l (pc := 11) d240_11 rfl rfl rfl ?_
        refine pw_l (pc := 12) d240_12 rfl rfl rfl ?_
        obtain ⟨q4, e_q4, hm⟩ := ob_x hm
        refine pw_v (pc := 13) (k := l0) (by omega) d240_13 (k240_393 b) (by decide) m223 (by decide) rfl (sho s_h f_l0) (Nat.le_of_ble_eq_true rfl) (Nat.le_of_ble_eq_true rfl) rfl rfl (T_m_allOrders b L xs (d - 1) (by omega) h s_h l0 f_l0 e_q4) (fun v0 h0 hq => ?_)
        obtain ⟨rfl, hh0, s_q4⟩ := hq
        rw [hh0] at s_q4 ⊢
        simp only [Option.toList_some, List.cons_append, List.nil_append]
        refine pw_igt (pc := 16) (t := 29) d240_16 (by decide) (fun c5 => ?_) (fun c5 => ?_)
        · rw [if_pos c5] at hm
          refine pw_s (pc := 29) d240_29 rfl rfl ?_
          obtain rfl := Option.some.inj hm
          refine pw_ri (pc := 30) d240_30 t240 rfl ?_
          exact hE s_h
        · rw [if_neg c5] at hm
          refine pw_l (pc := 19) d240_19 rfl rfl rfl ?_
          refine pw_s (pc := 20) d240_20 rfl rfl ?_
          refine pw_s (pc := 21) d240_21 rfl rfl ?_
          refine pw_s (pc := 22) d240_22 rfl rfl ?_
          obtain ⟨q6, e_q6, hm⟩ := ob_x hm
          refine pw_u (pc := 23) (by omega) d240_23 (k240_112 b) (by decide) m148 (Nat.le_of_ble_eq_true rfl) (Nat.le_of_ble_eq_true rfl) (Nat.le_of_ble_eq_true rfl) rfl rfl (T_m_in b L xs (d - 1) (by omega) h s_h l2.toInt64 (Int64.ofNat 0) (Int64.ofNat 1)  e_q6) (fun v0 h0 hq => ?_)
          obtain ⟨rfl, hh0, s_q6⟩ := hq
          rw [hh0] at s_q6 ⊢
          simp only [Option.toList_some, List.cons_append, List.nil_append]
          refine pw_zne (pc := 26) (t := 31) d240_26 (by decide) (fun c7 => ?_) (fun c7 => ?_)
          · rw [if_pos c7] at hm
            refine pw_s (pc := 31) d240_31 rfl rfl ?_
            refine pw_t (pc := 32) d240_32 rfl rfl rfl rfl ?_
            refine pw_s (pc := 33) d240_33 rfl rfl ?_
            refine pw_t (pc := 34) d240_34 rfl rfl rfl rfl ?_
            obtain ⟨q8, e_q8, hm⟩ := ob_x hm
            refine wh_ind e_q8 (fun s : (Int32 × Int32 × pm_H) => s.2.2.1 = tb_SH → ∀ w5 w6 : Value, PW b L xs d 240 0 0 36 [(Value.ref l0), (Value.int l1), (Value.int l2), (Value.int s.1), (Value.int s.2.1), w5, w6] [] s.2.2 Q) (fun s s2 hf ih sx w5 w6 => t_m_fewest_36 b L xs d hd s.2.2 sx l0 l1 l2 s.1 s.2.1 w5 w6 f_l0 hf ih) (fun s hf sx w5 w6 => t_m_fewest_36 b L xs d hd s.2.2 sx l0 l1 l2 s.1 s.2.1 w5 w6 f_l0 hf ?_) s_h  (Value.retAddr 0) (Value.retAddr 0)
            intro s_q8_0 w4 w5 w6
            refine pw_l (pc := 92) d240_92 rfl rfl rfl ?_
            obtain ⟨y9, e_y9, hm⟩ := ob_x hm
            have f_y9 := gA_x e_y9
            refine pw_gr (pc := 93) d240_93 (k240_39 b) (sho s_q8_0 f_l0) f10_20 f_y9.1 ?_
            refine pw_s (pc := 96) d240_96 rfl rfl ?_
            obtain ⟨g10, hm⟩ := gd_x hm
            refine pw_ai (pc := 98) d240_98 (sha s_q8_0 f_y9.2) (mi_in_x g10) ?_
            refine pw_zlt (pc := 99) (t := 108) d240_99 (by decide) (fun c11 => ?_) (fun c11 => ?_)
            · rw [if_pos c11] at hm
              refine pw_s (pc := 108) d240_108 rfl rfl ?_
              exact t_m_fewest_109 b L xs d hd q8.2 s_q8_0 l0 l1 l2 q8.1 (Int32.ofInt 0) w4 w5 w6 f_l0  hm hE
            · rw [if_neg c11] at hm
              refine pw_s (pc := 102) d240_102 rfl rfl ?_
              refine pw_go (pc := 105) (t := 109) d240_105 (by decide) ?_
              exact t_m_fewest_109 b L xs d hd q8.2 s_q8_0 l0 l1 l2 q8.1 ((Int16.ofInt 256).toInt32) w4 w5 w6 f_l0  hm hE
          · rw [if_neg c7] at hm
            refine pw_s (pc := 29) d240_29 rfl rfl ?_
            obtain rfl := Option.some.inj hm
            refine pw_ri (pc := 30) d240_30 t240 rfl ?_
            exact hE s_h
  exact key _ (fun q => ⟨rfl, rfl, q⟩)
def E_m_watches_97 (b : Bool) (L : Nat) (xs : Nat → Int32) (d : Nat) (Q : Option Value → pm_H → Prop) (l0 : Nat) (l2 : Int32) (l3 : Int32) (l4 : Int32) (l5 : Int32) : ((Int32 × pm_H) ⊕ (Int32 × pm_H) ⊕ pm_H) → Prop
  | .inl s => s.2.1 = tb_SH → ∀ w1 : Value, PW b L xs d 241 0 0 97 [(Value.ref l0), w1, (Value.int l2), (Value.int l3), (Value.int l4), (Value.int l5), (Value.int s.1)] [] s.2 Q
  | .inr (.inl e) => e.2.1 = tb_SH → ∀ w0 w1 w4 w5 : Value, PW b L xs d 241 0 0 159 [w0, w1, (Value.int l2), (Value.int l3), w4, w5, (Value.int e.1)] [] e.2 Q
  | .inr (.inr e) => e.1 = tb_SH → ∀ w0 w1 w2 w3 w4 w5 w6 : Value, PW b L xs d 241 0 0 181 [w0, w1, w2, w3, w4, w5, w6] [] e Q
def E_m_watches_48 (b : Bool) (L : Nat) (xs : Nat → Int32) (d : Nat) (Q : Option Value → pm_H → Prop) (l0 : Nat) (l1 : Int32) (l2 : Int32) (l3 : Int32) (l4 : Int32) : ((Int32 × Int32 × pm_H) ⊕ (Int32 × pm_H)) → Prop
  | .inl s => s.2.2.1 = tb_SH → PW b L xs d 241 0 0 48 [(Value.ref l0), (Value.int l1), (Value.int l2), (Value.int l3), (Value.int l4), (Value.int s.1), (Value.int s.2.1)] [] s.2.2 Q
  | .inr e => e.2.1 = tb_SH → ∀ w1 w6 : Value, PW b L xs d 241 0 0 89 [(Value.ref l0), w1, (Value.int l2), (Value.int l3), (Value.int l4), (Value.int e.1), w6] [] e.2 Q
noncomputable def m_watches_97 (l0 : Nat) (l2 : Int32) (l3 : Int32) (l4 : Int32) (l5 : Int32) (l6 : Int32) (h : pm_H) : Option ((Int32 × pm_H) ⊕ (Int32 × pm_H) ⊕ pm_H) := if l3 < l6 then (some (.inr (.inr h))) else (if ¬ (l6 &&& (l3 ^^^ (Int32.ofInt (-1)))) = 0 then (some (.inl ((l6 + Int32.ofInt 1), h))) else (if ¬ (l6 &&& l4) = l4 then (some (.inl ((l6 + Int32.ofInt 1), h))) else ((gA h l0 26 .int).bind fun y4 => if mi_in l6 (mi_n y4) = true then if ¬ (l5 &&& ((h.2.1 y4 l6.toNatClampNeg) ^^^ (Int32.ofInt (-1)))) = 0 then (some (.inl ((l6 + Int32.ofInt 1), h))) else ((gA h l0 26 .int).bind fun y7 => if mi_in (l3 &&& (l6 ^^^ (Int32.ofInt (-1)))) (mi_n y7) = true then if (l5 &&& ((h.2.1 y7 (l3 &&& (l6 ^^^ (Int32.ofInt (-1)))).toNatClampNeg) ^^^ (Int32.ofInt (-1)))) = 0 then (some (.inr (.inl (l6, h)))) else (some (.inl ((l6 + Int32.ofInt 1), h))) else none) else none)))
theorem t_m_watches_97 (b : Bool) (L : Nat) (xs : Nat → Int32) (d : Nat) (hd : 6 ≤ d) {Q : Option Value → pm_H → Prop} (h : pm_H) (s_h : h.1 = tb_SH) (l0 : Nat) (l2 : Int32) (l3 : Int32) (l4 : Int32) (l5 : Int32) (l6 : Int32) (w1 : Value) (f_l0 : mi_o l0 10 = true) {r : ((Int32 × pm_H) ⊕ (Int32 × pm_H) ⊕ pm_H)} (hm : m_watches_97 l0 l2 l3 l4 l5 l6 h = some r) (hE : E_m_watches_97 b L xs d Q l0 l2 l3 l4 l5 r) : PW b L xs d 241 0 0 97 [(Value.ref l0), w1, (Value.int l2), (Value.int l3), (Value.int l4), (Value.int l5), (Value.int l6)] [] h Q := by
  rw [m_watches_97] at hm
  refine pw_l (pc := 97) d241_97 rfl rfl rfl ?_
  refine pw_l (pc := 99) d241_99 rfl rfl rfl ?_
  refine pw_igt (pc := 100) (t := 181) d241_100 (by decide) (fun c1 => ?_) (fun c1 => ?_)
  · rw [if_pos c1] at hm
    obtain rfl := Option.some.inj hm
    exact hE s_h  (Value.ref l0) w1 (Value.int l2) (Value.int l3) (Value.int l4) (Value.int l5) (Value.int l6)
  · rw [if_neg c1] at hm
    refine pw_l (pc := 103) d241_103 rfl rfl rfl ?_
    refine pw_l (pc := 105) d241_105 rfl rfl rfl ?_
    refine pw_s (pc := 106) d241_106 rfl rfl ?_
    refine pw_s (pc := 107) d241_107 rfl rfl ?_
    refine pw_s (pc := 108) d241_108 rfl rfl ?_
    refine pw_zne (pc := 109) (t := 175) d241_109 (by decide) (fun c2 => ?_) (fun c2 => ?_)
    · rw [if_pos c2] at hm
      refine pw_t (pc := 175) d241_175 rfl rfl rfl rfl ?_
      refine pw_go (pc := 178) (t := 97) d241_178 (by decide) ?_
      obtain rfl := Option.some.inj hm
      exact hE s_h  w1
    · rw [if_neg c2] at hm
      refine pw_l (pc := 112) d241_112 rfl rfl rfl ?_
      refine pw_l (pc := 114) d241_114 rfl rfl rfl ?_
      refine pw_s (pc := 116) d241_116 rfl rfl ?_
      refine pw_l (pc := 117) d241_117 rfl rfl rfl ?_
      refine pw_ine (pc := 119) (t := 175) d241_119 (by decide) (fun c3 => ?_) (fun c3 => ?_)
      · rw [if_pos c3] at hm
        refine pw_t (pc := 175) d241_175 rfl rfl rfl rfl ?_
        refine pw_go (pc := 178) (t := 97) d241_178 (by decide) ?_
        obtain rfl := Option.some.inj hm
        exact hE s_h  w1
      · rw [if_neg c3] at hm
        refine pw_l (pc := 122) d241_122 rfl rfl rfl ?_
        refine pw_l (pc := 124) d241_124 rfl rfl rfl ?_
        obtain ⟨y4, e_y4, hm⟩ := ob_x hm
        have f_y4 := gA_x e_y4
        refine pw_gr (pc := 125) d241_125 (k241_51 b) (sho s_h f_l0) f10_26 f_y4.1 ?_
        refine pw_l (pc := 128) d241_128 rfl rfl rfl ?_
        obtain ⟨g5, hm⟩ := gd_x hm
        refine pw_ai (pc := 130) d241_130 (sha s_h f_y4.2) (mi_in_x g5) ?_
        refine pw_s (pc := 131) d241_131 rfl rfl ?_
        refine pw_s (pc := 132) d241_132 rfl rfl ?_
        refine pw_s (pc := 133) d241_133 rfl rfl ?_
        refine pw_zne (pc := 134) (t := 175) d241_134 (by decide) (fun c6 => ?_) (fun c6 => ?_)
        · rw [if_pos c6] at hm
          refine pw_t (pc := 175) d241_175 rfl rfl rfl rfl ?_
          refine pw_go (pc := 178) (t := 97) d241_178 (by decide) ?_
          obtain rfl := Option.some.inj hm
          exact hE s_h  w1
        · rw [if_neg c6] at hm
          refine pw_l (pc := 137) d241_137 rfl rfl rfl ?_
          refine pw_l (pc := 139) d241_139 rfl rfl rfl ?_
          obtain ⟨y7, e_y7, hm⟩ := ob_x hm
          have f_y7 := gA_x e_y7
          refine pw_gr (pc := 140) d241_140 (k241_51 b) (sho s_h f_l0) f10_26 f_y7.1 ?_
          refine pw_l (pc := 143) d241_143 rfl rfl rfl ?_
          refine pw_l (pc := 144) d241_144 rfl rfl rfl ?_
          refine pw_s (pc := 146) d241_146 rfl rfl ?_
          refine pw_s (pc := 147) d241_147 rfl rfl ?_
          refine pw_s (pc := 148) d241_148 rfl rfl ?_
          obtain ⟨g8, hm⟩ := gd_x hm
          refine pw_ai (pc := 149) d241_149 (sha s_h f_y7.2) (mi_in_x g8) ?_
          refine pw_s (pc := 150) d241_150 rfl rfl ?_
          refine pw_s (pc := 151) d241_151 rfl rfl ?_
          refine pw_s (pc := 152) d241_152 rfl rfl ?_
          refine pw_zeq (pc := 153) (t := 159) d241_153 (by decide) (fun c9 => ?_) (fun c9 => ?_)
          · rw [if_pos c9] at hm
            obtain rfl := Option.some.inj hm
            exact hE s_h  (Value.ref l0) w1 (Value.int l4) (Value.int l5)
          · rw [if_neg c9] at hm
            refine pw_go (pc := 156) (t := 175) d241_156 (by decide) ?_
            refine pw_t (pc := 175) d241_175 rfl rfl rfl rfl ?_
            refine pw_go (pc := 178) (t := 97) d241_178 (by decide) ?_
            obtain rfl := Option.some.inj hm
            exact hE s_h  w1
noncomputable def m_watches_80 (l0 : Nat) (l1 : Int32) (l2 : Int32) (l3 : Int32) (l4 : Int32) (l6 : Int32) (z0 : Int32) (z1 : Int32) (h : pm_H) : Option ((Int32 × Int32 × pm_H) ⊕ (Int32 × pm_H)) := some (.inl ((z1 ||| z0), (l6 + Int32.ofInt 1), h))
theorem t_m_watches_80 (b : Bool) (L : Nat) (xs : Nat → Int32) (d : Nat) (hd : 6 ≤ d) {Q : Option Value → pm_H → Prop} (h : pm_H) (s_h : h.1 = tb_SH) (l0 : Nat) (l1 : Int32) (l2 : Int32) (l3 : Int32) (l4 : Int32) (l6 : Int32) (z0 : Int32) (z1 : Int32) (w5 : Value) (f_l0 : mi_o l0 10 = true) {r : ((Int32 × Int32 × pm_H) ⊕ (Int32 × pm_H))} (hm : m_watches_80 l0 l1 l2 l3 l4 l6 z0 z1 h = some r) (hE : E_m_watches_48 b L xs d Q l0 l1 l2 l3 l4 r) : PW b L xs d 241 0 0 80 [(Value.ref l0), (Value.int l1), (Value.int l2), (Value.int l3), (Value.int l4), w5, (Value.int l6)] [(Value.int z0), (Value.int z1)] h Q := by
  rw [m_watches_80] at hm
  refine pw_s (pc := 80) d241_80 rfl rfl ?_
  refine pw_t (pc := 81) d241_81 rfl rfl rfl rfl ?_
  refine pw_t (pc := 83) d241_83 rfl rfl rfl rfl ?_
  refine pw_go (pc := 86) (t := 48) d241_86 (by decide) ?_
  obtain rfl := Option.some.inj hm
  exact hE s_h  
noncomputable def m_watches_48 (l0 : Nat) (l1 : Int32) (l2 : Int32) (l3 : Int32) (l4 : Int32) (l5 : Int32) (l6 : Int32) (h : pm_H) : Option ((Int32 × Int32 × pm_H) ⊕ (Int32 × pm_H)) := (gA h l0 20 .int).bind fun y1 => if mi_in (Int32.ofInt 2) (mi_n y1) = true then if (h.2.1 y1 (Int32.ofInt 2).toNatClampNeg) ≤ l6 then (some (.inr (l5, h))) else ((m_orderOf l0 l6 (Int32.ofInt 0) h).bind fun q4 => if q4 < l1 then (m_watches_80 l0 l1 l2 l3 l4 l6 (Int32.ofInt 0) l5 h) else (m_watches_80 l0 l1 l2 l3 l4 l6 ((Int32.ofInt 1) <<< (l6 &&& 31)) l5 h)) else none
theorem t_m_watches_48 (b : Bool) (L : Nat) (xs : Nat → Int32) (d : Nat) (hd : 6 ≤ d) {Q : Option Value → pm_H → Prop} (h : pm_H) (s_h : h.1 = tb_SH) (l0 : Nat) (l1 : Int32) (l2 : Int32) (l3 : Int32) (l4 : Int32) (l5 : Int32) (l6 : Int32) (f_l0 : mi_o l0 10 = true) {r : ((Int32 × Int32 × pm_H) ⊕ (Int32 × pm_H))} (hm : m_watches_48 l0 l1 l2 l3 l4 l5 l6 h = some r) (hE : E_m_watches_48 b L xs d Q l0 l1 l2 l3 l4 r) : PW b L xs d 241 0 0 48 [(Value.ref l0), (Value.int l1), (Value.int l2), (Value.int l3), (Value.int l4), (Value.int l5), (Value.int l6)] [] h Q := by
  rw [m_watches_48] at hm
  refine pw_l (pc := 48) d241_48 rfl rfl rfl ?_
  refine pw_l (pc := 50) d241_50 rfl rfl rfl ?_
  obtain ⟨y1, e_y1, hm⟩ := ob_x hm
  have f_y1 := gA_x e_y1
  refine pw_gr (pc := 51) d241_51 (k241_39 b) (sho s_h f_l0) f10_20 f_y1.1 ?_
  refine pw_s (pc := 54) d241_54 rfl rfl ?_
  obtain ⟨g2, hm⟩ := gd_x hm
  refine pw_ai (pc := 55) d241_55 (sha s_h f_y1.2) (mi_in_x g2) ?_
  refine pw_ige (pc := 56) (t := 89) d241_56 (by decide) (fun c3 => ?_) (fun c3 => ?_)
  · rw [if_pos c3] at hm
    obtain rfl := Option.some.inj hm
    exact hE s_h  (Value.int l1) (Value.int l6)
  · rw [if_neg c3] at hm
    refine pw_l (pc := 59) d241_59 rfl rfl rfl ?_
    refine pw_l (pc := 61) d241_61 rfl rfl rfl ?_
    refine pw_l (pc := 62) d241_62 rfl rfl rfl ?_
    refine pw_s (pc := 64) d241_64 rfl rfl ?_
    obtain ⟨q4, e_q4, hm⟩ := ob_x hm
    refine pw_v (pc := 65) (k := l0) (by omega) d241_65 (k241_293 b) (by decide) m203 (by decide) rfl (sho s_h f_l0) (Nat.le_of_ble_eq_true rfl) (Nat.le_of_ble_eq_true rfl) rfl rfl (T_m_orderOf b L xs (d - 1) (by omega) h s_h l0 l6 (Int32.ofInt 0) f_l0 e_q4) (fun v0 h0 hq => ?_)
    obtain ⟨rfl, hh0, s_q4⟩ := hq
    rw [hh0] at s_q4 ⊢
    simp only [Option.toList_some, List.cons_append, List.nil_append]
    refine pw_l (pc := 68) d241_68 rfl rfl rfl ?_
    refine pw_ilt (pc := 69) (t := 79) d241_69 (by decide) (fun c5 => ?_) (fun c5 => ?_)
    · rw [if_pos c5] at hm
      refine pw_s (pc := 79) d241_79 rfl rfl ?_
      exact t_m_watches_80 b L xs d hd h s_h l0 l1 l2 l3 l4 l6 (Int32.ofInt 0) l5 (Value.int l5) f_l0  hm hE
    · rw [if_neg c5] at hm
      refine pw_s (pc := 72) d241_72 rfl rfl ?_
      refine pw_l (pc := 73) d241_73 rfl rfl rfl ?_
      refine pw_s (pc := 75) d241_75 rfl rfl ?_
      refine pw_go (pc := 76) (t := 80) d241_76 (by decide) ?_
      exact t_m_watches_80 b L xs d hd h s_h l0 l1 l2 l3 l4 l6 ((Int32.ofInt 1) <<< (l6 &&& 31)) l5 (Value.int l5) f_l0  hm hE
noncomputable def m_watches (l0 : Nat) (l1 : Int32) (l2 : Int32) (h : pm_H) : Option (Int32 × pm_H) := (m_isShip l0 h).bind fun q1 => if q1 = 0 then (some ((Int32.ofInt (-1)), h)) else ((m_in l1.toInt64 (Int64.ofNat 0) (99 : Int64) h).bind fun q3 => if q3 = 0 then (some ((Int32.ofInt (-1)), h)) else ((m_in l2.toInt64 (Int64.ofNat 0) (Int64.ofNat 1) h).bind fun q5 => if ¬ q5 = 0 then ((m_aliveSet l0 h).bind fun q7 => (wh (fun s : (Int32 × Int32 × pm_H) => m_watches_48 l0 l1 l2 q7 (q7 &&& (-q7)) s.1 s.2.1 s.2.2) ((Int32.ofInt 0), (Int32.ofInt 0), h)).bind fun q8 => (m_gathersSays l0 q7 q8.2).bind fun q9 => (wh (fun s : (Int32 × pm_H) => m_watches_97 l0 l2 q7 (q7 &&& (-q7)) q8.1 s.1 s.2) ((Int32.ofInt 1), q9)).bind fun q10 => (match q10 with | (.inl eq10_0) => if ¬ l2 = 0 then (some ((q7 &&& (eq10_0.1 ^^^ (Int32.ofInt (-1)))), eq10_0.2)) else (some (eq10_0.1, eq10_0.2)) | (.inr eq10_1) => some ((Int8.ofInt (-2)).toInt32, eq10_1))) else (some ((Int32.ofInt (-1)), h))))
theorem T_m_watches (b : Bool) (L : Nat) (xs : Nat → Int32) (d : Nat) (hd : 6 ≤ d) (h : pm_H) (s_h : h.1 = tb_SH) (l0 : Nat) (l1 : Int32) (l2 : Int32) (f_l0 : mi_o l0 10 = true) {r : (Int32 × pm_H)} (hm : m_watches l0 l1 l2 h = some r) : PC b L xs d 241 [(Value.ref l0), (Value.int l1), (Value.int l2)] h (fun (v0 : Option Value) (h2 : pm_H) => v0 = (some (Value.int r.1)) ∧ h2 = r.2 ∧ h2.1 = tb_SH) := by
  refine pc_in e241 (ls0 := [(Value.ref l0), (Value.int l1), (Value.int l2), Value.retAddr 0, Value.retAddr 0, Value.retAddr 0, Value.retAddr 0]) rfl ?_
  have key : ∀ (Q : Option Value → pm_H → Prop), (r.2.1 = tb_SH → Q (some (Value.int r.1)) r.2) → PW b L xs d 241 0 0 0 [(Value.ref l0), (Value.int l1), (Value.int l2), Value.retAddr 0, Value.retAddr 0, Value.retAddr 0, Value.retAddr 0] [] h Q := by
    intro Q hE
    rw [m_watches] at hm
    refine pw_l (pc := 0) d241_0 rfl rfl rfl ?_
    obtain ⟨q1, e_q1, hm⟩ := ob_x hm
    refine pw_v (pc := 1) (k := l0) (by omega) d241_1 (k241_305 b) (by decide) m192 (by decide) rfl (sho s_h f_l0) (Nat.le_of_ble_eq_true rfl) (Nat.le_of_ble_eq_true rfl) rfl rfl (T_m_isShip b L xs (d - 1) (by omega) h s_h l0 f_l0 e_q1) (fun v0 h0 hq => ?_)
    obtain ⟨rfl, hh0, s_q1⟩ := hq
    rw [hh0] at s_q1 ⊢
    simp only [Option.toList_some, List.cons_append, List.nil_append]
    refine pw_zeq (pc := 4) (t := 29) d241_4 (by decide) (fun c2 => ?_) (fun c2 => ?_)
    · rw [if_pos c2] at hm
      refine pw_s (pc := 29) d241_29 rfl rfl ?_
      obtain rfl := Option.some.inj hm
      refine pw_ri (pc := 30) d241_30 t241 rfl ?_
      exact hE s_h
    · rw [if_neg c2] at hm
      refine pw_l (pc := 7) d241_7 rfl rfl rfl ?_
      refine pw_s (pc := 8) d241_8 rfl rfl ?_
      refine pw_s (pc := 9) d241_9 rfl rfl ?_
      refine pw_cl (pc := 10) d241_10 (k241_396 b) ?_
      obtain ⟨q3, e_q3, hm⟩ := ob_x hm
      refine pw_u (pc := 13) (by omega) d241_13 (k241_112 b) (by decide) m148 (Nat.le_of_ble_eq_true rfl) (Nat.le_of_ble_eq_true rfl) (Nat.le_of_ble_eq_true rfl) rfl rfl (T_m_in b L xs (d - 1) (by omega) h s_h l1.toInt64 (Int64.ofNat 0) (99 : Int64)  e_q3) (fun v0 h0 hq => ?_)
      obtain ⟨rfl, hh0, s_q3⟩ := hq
      rw [hh0] at s_q3 ⊢
      simp only [Option.toList_some, List.cons_append, List.nil_append]
      refine pw_zeq (pc := 16) (t := 29) d241_16 (by decide) (fun c4 => ?_) (fun c4 => ?_)
      · rw [if_pos c4] at hm
        refine pw_s (pc := 29) d241_29 rfl rfl ?_
        obtain rfl := Option.some.inj hm
        refine pw_ri (pc := 30) d241_30 t241 rfl ?_
        exact hE s_h
      · rw [if_neg c4] at hm
        refine pw_l (pc := 19) d241_19 rfl rfl rfl ?_
        refine pw_s (pc := 20) d241_20 rfl rfl ?_
        refine pw_s (pc := 21) d241_21 rfl rfl ?_
        refine pw_s (pc := 22) d241_22 rfl rfl ?_
        obtain ⟨q5, e_q5, hm⟩ := ob_x hm
        refine pw_u (pc := 23) (by omega) d241_23 (k241_112 b) (by decide) m148 (Nat.le_of_ble_eq_true rfl) (Nat.le_of_ble_eq_true rfl) (Nat.le_of_ble_eq_true rfl) rfl rfl (T_m_in b L xs (d - 1) (by omega) h s_h l2.toInt64 (Int64.ofNat 0) (Int64.ofNat 1)  e_q5) (fun v0 h0 hq => ?_)
        obtain ⟨rfl, hh0, s_q5⟩ := hq
        rw [hh0] at s_q5 ⊢
        simp only [Option.toList_some, List.cons_append, List.nil_append]
        refine pw_zne (pc := 26) (t := 31) d241_26 (by decide) (fun c6 => ?_) (fun c6 => ?_)
        · rw [if_pos c6] at hm
          refine pw_l (pc := 31) d241_31 rfl rfl rfl ?_
          obtain ⟨q7, e_q7, hm⟩ := ob_x hm
          refine pw_v (pc := 32) (k := l0) (by omega) d241_32 (k241_356 b) (by decide) m201 (by decide) rfl (sho s_h f_l0) (Nat.le_of_ble_eq_true rfl) (Nat.le_of_ble_eq_true rfl) rfl rfl (T_m_aliveSet b L xs (d - 1) (by omega) h s_h l0 f_l0 e_q7) (fun v0 h0 hq => ?_)
          obtain ⟨rfl, hh0, s_q7⟩ := hq
          rw [hh0] at s_q7 ⊢
          simp only [Option.toList_some, List.cons_append, List.nil_append]
          refine pw_t (pc := 35) d241_35 rfl rfl rfl rfl ?_
          refine pw_l (pc := 36) d241_36 rfl rfl rfl ?_
          refine pw_l (pc := 37) d241_37 rfl rfl rfl ?_
          refine pw_s (pc := 38) d241_38 rfl rfl ?_
          refine pw_s (pc := 39) d241_39 rfl rfl ?_
          refine pw_t (pc := 40) d241_40 rfl rfl rfl rfl ?_
          refine pw_s (pc := 42) d241_42 rfl rfl ?_
          refine pw_t (pc := 43) d241_43 rfl rfl rfl rfl ?_
          refine pw_s (pc := 45) d241_45 rfl rfl ?_
          refine pw_t (pc := 46) d241_46 rfl rfl rfl rfl ?_
          obtain ⟨q8, e_q8, hm⟩ := ob_x hm
          refine wh_ind e_q8 (fun s : (Int32 × Int32 × pm_H) => s.2.2.1 = tb_SH → PW b L xs d 241 0 0 48 [(Value.ref l0), (Value.int l1), (Value.int l2), (Value.int q7), (Value.int (q7 &&& (-q7))), (Value.int s.1), (Value.int s.2.1)] [] s.2.2 Q) (fun s s2 hf ih sx => t_m_watches_48 b L xs d hd s.2.2 sx l0 l1 l2 q7 (q7 &&& (-q7)) s.1 s.2.1  f_l0 hf ih) (fun s hf sx => t_m_watches_48 b L xs d hd s.2.2 sx l0 l1 l2 q7 (q7 &&& (-q7)) s.1 s.2.1  f_l0 hf ?_) s_h  
          intro s_q8_0 w1 w6
          refine pw_l (pc := 89) d241_89 rfl rfl rfl ?_
          refine pw_l (pc := 90) d241_90 rfl rfl rfl ?_
          obtain ⟨q9, e_q9, hm⟩ := ob_x hm
          refine pw_v (pc := 91) (k := l0) (by omega) d241_91 (k241_342 b) (by decide) m220 (by decide) rfl (sho s_q8_0 f_l0) (Nat.le_of_ble_eq_true rfl) (Nat.le_of_ble_eq_true rfl) rfl rfl (T_m_gathersSays b L xs (d - 1) (by omega) q8.2 s_q8_0 l0 q7 f_l0 e_q9) (fun v0 h0 hq => ?_)
          obtain ⟨rfl, hh0, s_q9⟩ := hq
          rw [hh0] at s_q9 ⊢
          simp only [Option.toList_none, List.nil_append]
          refine pw_s (pc := 94) d241_94 rfl rfl ?_
          refine pw_t (pc := 95) d241_95 rfl rfl rfl rfl ?_
          obtain ⟨q10, e_q10, hm⟩ := ob_x hm
          refine wh_ind e_q10 (fun s : (Int32 × pm_H) => s.2.1 = tb_SH → ∀ w1 : Value, PW b L xs d 241 0 0 97 [(Value.ref l0), w1, (Value.int l2), (Value.int q7), (Value.int (q7 &&& (-q7))), (Value.int q8.1), (Value.int s.1)] [] s.2 Q) (fun s s2 hf ih sx w1 => t_m_watches_97 b L xs d hd s.2 sx l0 l2 q7 (q7 &&& (-q7)) q8.1 s.1 w1 f_l0 hf ih) (fun s hf sx w1 => t_m_watches_97 b L xs d hd s.2 sx l0 l2 q7 (q7 &&& (-q7)) q8.1 s.1 w1 f_l0 hf ?_) s_q9  w1
          rcases q10 with eq10_0 | eq10_1
          · dsimp only at hm
            intro s_q10_0 w0 w1 w4 w5
            refine pw_l (pc := 159) d241_159 rfl rfl rfl ?_
            refine pw_zne (pc := 160) (t := 168) d241_160 (by decide) (fun c11 => ?_) (fun c11 => ?_)
            · rw [if_pos c11] at hm
              refine pw_l (pc := 168) d241_168 rfl rfl rfl ?_
              refine pw_l (pc := 169) d241_169 rfl rfl rfl ?_
              refine pw_s (pc := 171) d241_171 rfl rfl ?_
              refine pw_s (pc := 172) d241_172 rfl rfl ?_
              refine pw_s (pc := 173) d241_173 rfl rfl ?_
              obtain rfl := Option.some.inj hm
              refine pw_ri (pc := 174) d241_174 t241 rfl ?_
              exact hE s_q10_0
            · rw [if_neg c11] at hm
              refine pw_l (pc := 163) d241_163 rfl rfl rfl ?_
              refine pw_go (pc := 165) (t := 174) d241_165 (by decide) ?_
              obtain rfl := Option.some.inj hm
              refine pw_ri (pc := 174) d241_174 t241 rfl ?_
              exact hE s_q10_0
          · dsimp only at hm
            intro s_q10_1 w0 w1 w2 w3 w4 w5 w6
            refine pw_s (pc := 181) d241_181 rfl rfl ?_
            obtain rfl := Option.some.inj hm
            refine pw_ri (pc := 183) d241_183 t241 rfl ?_
            exact hE s_q10_1
        · rw [if_neg c6] at hm
          refine pw_s (pc := 29) d241_29 rfl rfl ?_
          obtain rfl := Option.some.inj hm
          refine pw_ri (pc := 30) d241_30 t241 rfl ?_
          exact hE s_h
  exact key _ (fun q => ⟨rfl, rfl, q⟩)
def E_m_boy_35 (b : Bool) (L : Nat) (xs : Nat → Int32) (d : Nat) (Q : Option Value → pm_H → Prop) (l0 : Nat) (l1 : Int32) (l2 : Int32) : ((Int32 × Int32 × Int32 × pm_H) ⊕ (Int32 × Int32 × pm_H)) → Prop
  | .inl s => s.2.2.2.1 = tb_SH → ∀ w6 : Value, PW b L xs d 242 0 0 35 [(Value.ref l0), (Value.int l1), (Value.int l2), (Value.int s.1), (Value.int s.2.1), (Value.int s.2.2.1), w6] [] s.2.2.2 Q
  | .inr e => e.2.2.1 = tb_SH → ∀ w5 w6 : Value, PW b L xs d 242 0 0 96 [(Value.ref l0), (Value.int l1), (Value.int l2), (Value.int e.1), (Value.int e.2.1), w5, w6] [] e.2.2 Q
noncomputable def m_boy_83 (l0 : Nat) (l1 : Int32) (l2 : Int32) (l5 : Int32) (l6 : Int32) (h : pm_H) : Option ((Int32 × Int32 × Int32 × pm_H) ⊕ (Int32 × Int32 × pm_H)) := some (.inl (l5, l6, (l5 + Int32.ofInt 1), h))
theorem t_m_boy_83 (b : Bool) (L : Nat) (xs : Nat → Int32) (d : Nat) (hd : 7 ≤ d) {Q : Option Value → pm_H → Prop} (h : pm_H) (s_h : h.1 = tb_SH) (l0 : Nat) (l1 : Int32) (l2 : Int32) (l5 : Int32) (l6 : Int32) (w3 : Value) (w4 : Value) (f_l0 : mi_o l0 10 = true) {r : ((Int32 × Int32 × Int32 × pm_H) ⊕ (Int32 × Int32 × pm_H))} (hm : m_boy_83 l0 l1 l2 l5 l6 h = some r) (hE : E_m_boy_35 b L xs d Q l0 l1 l2 r) : PW b L xs d 242 0 0 83 [(Value.ref l0), (Value.int l1), (Value.int l2), w3, w4, (Value.int l5), (Value.int l6)] [] h Q := by
  rw [m_boy_83] at hm
  refine pw_l (pc := 83) d242_83 rfl rfl rfl ?_
  refine pw_t (pc := 85) d242_85 rfl rfl rfl rfl ?_
  refine pw_l (pc := 86) d242_86 rfl rfl rfl ?_
  refine pw_t (pc := 88) d242_88 rfl rfl rfl rfl ?_
  refine pw_t (pc := 90) d242_90 rfl rfl rfl rfl ?_
  refine pw_go (pc := 93) (t := 35) d242_93 (by decide) ?_
  obtain rfl := Option.some.inj hm
  exact hE s_h  (Value.int l6)
noncomputable def m_boy_35 (l0 : Nat) (l1 : Int32) (l2 : Int32) (l3 : Int32) (l4 : Int32) (l5 : Int32) (h : pm_H) : Option ((Int32 × Int32 × Int32 × pm_H) ⊕ (Int32 × Int32 × pm_H)) := (gA h l0 20 .int).bind fun y1 => if mi_in (Int32.ofInt 0) (mi_n y1) = true then if (h.2.1 y1 (Int32.ofInt 0).toNatClampNeg) ≤ l5 then (some (.inr (l3, l4, h))) else ((gA h l0 20 .int).bind fun y4 => if mi_in ((Int8.ofInt 6).toInt32) (mi_n y4) = true then bd (pm_setI h y4 ((Int8.ofInt 6).toInt32).toNatClampNeg l5) fun h6 => (m_heardSet l0 h6).bind fun q7 => (m_sayableBy l0 q7 h6).bind fun q8 => (m_needOf l0 q8.1 q8.2).bind fun q9 => if l3 < 0 then (m_boy_83 l0 l1 l2 l5 q9 q8.2) else (if l4 < q9 then (m_boy_83 l0 l1 l2 l5 q9 q8.2) else (some (.inl (l3, l4, (l5 + Int32.ofInt 1), q8.2)))) else none) else none
theorem t_m_boy_35 (b : Bool) (L : Nat) (xs : Nat → Int32) (d : Nat) (hd : 7 ≤ d) {Q : Option Value → pm_H → Prop} (h : pm_H) (s_h : h.1 = tb_SH) (l0 : Nat) (l1 : Int32) (l2 : Int32) (l3 : Int32) (l4 : Int32) (l5 : Int32) (w6 : Value) (f_l0 : mi_o l0 10 = true) {r : ((Int32 × Int32 × Int32 × pm_H) ⊕ (Int32 × Int32 × pm_H))} (hm : m_boy_35 l0 l1 l2 l3 l4 l5 h = some r) (hE : E_m_boy_35 b L xs d Q l0 l1 l2 r) : PW b L xs d 242 0 0 35 [(Value.ref l0), (Value.int l1), (Value.int l2), (Value.int l3), (Value.int l4), (Value.int l5), w6] [] h Q := by
  rw [m_boy_35] at hm
  refine pw_l (pc := 35) d242_35 rfl rfl rfl ?_
  refine pw_l (pc := 37) d242_37 rfl rfl rfl ?_
  obtain ⟨y1, e_y1, hm⟩ := ob_x hm
  have f_y1 := gA_x e_y1
  refine pw_gr (pc := 38) d242_38 (k242_39 b) (sho s_h f_l0) f10_20 f_y1.1 ?_
  refine pw_s (pc := 41) d242_41 rfl rfl ?_
  obtain ⟨g2, hm⟩ := gd_x hm
  refine pw_ai (pc := 42) d242_42 (sha s_h f_y1.2) (mi_in_x g2) ?_
  refine pw_ige (pc := 43) (t := 96) d242_43 (by decide) (fun c3 => ?_) (fun c3 => ?_)
  · rw [if_pos c3] at hm
    obtain rfl := Option.some.inj hm
    exact hE s_h  (Value.int l5) w6
  · rw [if_neg c3] at hm
    refine pw_l (pc := 46) d242_46 rfl rfl rfl ?_
    obtain ⟨y4, e_y4, hm⟩ := ob_x hm
    have f_y4 := gA_x e_y4
    refine pw_gr (pc := 47) d242_47 (k242_39 b) (sho s_h f_l0) f10_20 f_y4.1 ?_
    refine pw_s (pc := 50) d242_50 rfl rfl ?_
    refine pw_l (pc := 52) d242_52 rfl rfl rfl ?_
    obtain ⟨g5, hm⟩ := gd_x hm
    refine pw_si (pc := 54) d242_54 (sha s_h f_y4.2) (mi_in_x g5) ?_
    obtain ⟨h6, e_h6, hm⟩ := bd_x hm
    rw [e_h6]
    have s_h6 : h6.1 = tb_SH := by rw [← e_h6]; exact s_h
    refine pw_l (pc := 55) d242_55 rfl rfl rfl ?_
    refine pw_l (pc := 56) d242_56 rfl rfl rfl ?_
    refine pw_l (pc := 57) d242_57 rfl rfl rfl ?_
    obtain ⟨q7, e_q7, hm⟩ := ob_x hm
    refine pw_v (pc := 58) (k := l0) (by omega) d242_58 (k242_383 b) (by decide) m200 (by decide) rfl (sho s_h6 f_l0) (Nat.le_of_ble_eq_true rfl) (Nat.le_of_ble_eq_true rfl) rfl rfl (T_m_heardSet b L xs (d - 1) (by omega) h6 s_h6 l0 f_l0 e_q7) (fun v0 h0 hq => ?_)
    obtain ⟨rfl, hh0, s_q7⟩ := hq
    rw [hh0] at s_q7 ⊢
    simp only [Option.toList_some, List.cons_append, List.nil_append]
    obtain ⟨q8, e_q8, hm⟩ := ob_x hm
    refine pw_v (pc := 61) (k := l0) (by omega) d242_61 (k242_386 b) (by decide) m221 (by decide) rfl (sho s_h6 f_l0) (Nat.le_of_ble_eq_true rfl) (Nat.le_of_ble_eq_true rfl) rfl rfl (T_m_sayableBy b L xs (d - 1) (by omega) h6 s_h6 l0 q7 f_l0 e_q8) (fun v0 h0 hq => ?_)
    obtain ⟨rfl, hh0, s_q8⟩ := hq
    rw [hh0] at s_q8 ⊢
    simp only [Option.toList_some, List.cons_append, List.nil_append]
    obtain ⟨q9, e_q9, hm⟩ := ob_x hm
    refine pw_v (pc := 64) (k := l0) (by omega) d242_64 (k242_398 b) (by decide) m222 (by decide) rfl (sho s_q8 f_l0) (Nat.le_of_ble_eq_true rfl) (Nat.le_of_ble_eq_true rfl) rfl rfl (T_m_needOf b L xs (d - 1) (by omega) q8.2 s_q8 l0 q8.1 f_l0 e_q9) (fun v0 h0 hq => ?_)
    obtain ⟨rfl, hh0, s_q9⟩ := hq
    rw [hh0] at s_q9 ⊢
    simp only [Option.toList_some, List.cons_append, List.nil_append]
    refine pw_t (pc := 67) d242_67 rfl rfl rfl rfl ?_
    refine pw_l (pc := 69) d242_69 rfl rfl rfl ?_
    refine pw_zlt (pc := 70) (t := 83) d242_70 (by decide) (fun c10 => ?_) (fun c10 => ?_)
    · rw [if_pos c10] at hm
      exact t_m_boy_83 b L xs d hd q8.2 s_q8 l0 l1 l2 l5 q9 (Value.int l3) (Value.int l4) f_l0  hm hE
    · rw [if_neg c10] at hm
      refine pw_l (pc := 73) d242_73 rfl rfl rfl ?_
      refine pw_l (pc := 75) d242_75 rfl rfl rfl ?_
      refine pw_igt (pc := 77) (t := 83) d242_77 (by decide) (fun c11 => ?_) (fun c11 => ?_)
      · rw [if_pos c11] at hm
        exact t_m_boy_83 b L xs d hd q8.2 s_q8 l0 l1 l2 l5 q9 (Value.int l3) (Value.int l4) f_l0  hm hE
      · rw [if_neg c11] at hm
        refine pw_go (pc := 80) (t := 90) d242_80 (by decide) ?_
        refine pw_t (pc := 90) d242_90 rfl rfl rfl rfl ?_
        refine pw_go (pc := 93) (t := 35) d242_93 (by decide) ?_
        obtain rfl := Option.some.inj hm
        exact hE s_q8  (Value.int q9)
noncomputable def m_boy (l0 : Nat) (l1 : Int32) (h : pm_H) : Option (Int32 × pm_H) := (m_isShip l0 h).bind fun q1 => if q1 = 0 then (some ((Int32.ofInt (-1)), h)) else ((m_in l1.toInt64 (Int64.ofNat 0) (Int64.ofNat 1) h).bind fun q3 => if ¬ q3 = 0 then ((gA h l0 20 .int).bind fun y5 => if mi_in ((Int8.ofInt 6).toInt32) (mi_n y5) = true then (wh (fun s : (Int32 × Int32 × Int32 × pm_H) => m_boy_35 l0 l1 (h.2.1 y5 ((Int8.ofInt 6).toInt32).toNatClampNeg) s.1 s.2.1 s.2.2.1 s.2.2.2) ((Int32.ofInt (-1)), (Int32.ofInt 0), (Int32.ofInt 0), h)).bind fun q7 => (gA q7.2.2 l0 20 .int).bind fun y8 => if mi_in ((Int8.ofInt 6).toInt32) (mi_n y8) = true then bd (pm_setI q7.2.2 y8 ((Int8.ofInt 6).toInt32).toNatClampNeg (h.2.1 y5 ((Int8.ofInt 6).toInt32).toNatClampNeg)) fun h10 => if ¬ l1 = 0 then (some (q7.2.1, h10)) else (some (q7.1, h10)) else none else none) else (some ((Int32.ofInt (-1)), h)))
theorem T_m_boy (b : Bool) (L : Nat) (xs : Nat → Int32) (d : Nat) (hd : 7 ≤ d) (h : pm_H) (s_h : h.1 = tb_SH) (l0 : Nat) (l1 : Int32) (f_l0 : mi_o l0 10 = true) {r : (Int32 × pm_H)} (hm : m_boy l0 l1 h = some r) : PC b L xs d 242 [(Value.ref l0), (Value.int l1)] h (fun (v0 : Option Value) (h2 : pm_H) => v0 = (some (Value.int r.1)) ∧ h2 = r.2 ∧ h2.1 = tb_SH) := by
  refine pc_in e242 (ls0 := [(Value.ref l0), (Value.int l1), Value.retAddr 0, Value.retAddr 0, Value.retAddr 0, Value.retAddr 0, Value.retAddr 0]) rfl ?_
  have key : ∀ (Q : Option Value → pm_H → Prop), (r.2.1 = tb_SH → Q (some (Value.int r.1)) r.2) → PW b L xs d 242 0 0 0 [(Value.ref l0), (Value.int l1), Value.retAddr 0, Value.retAddr 0, Value.retAddr 0, Value.retAddr 0, Value.retAddr 0] [] h Q := by
    intro Q hE
    rw [m_boy] at hm
    refine pw_l (pc := 0) d242_0 rfl rfl rfl ?_
    obtain ⟨q1, e_q1, hm⟩ := ob_x hm
    refine pw_v (pc := 1) (k := l0) (by omega) d242_1 (k242_305 b) (by decide) m192 (by decide) rfl (sho s_h f_l0) (Nat.le_of_ble_eq_true rfl) (Nat.le_of_ble_eq_true rfl) rfl rfl (T_m_isShip b L xs (d - 1) (by omega) h s_h l0 f_l0 e_q1) (fun v0 h0 hq => ?_)
    obtain ⟨rfl, hh0, s_q1⟩ := hq
    rw [hh0] at s_q1 ⊢
    simp only [Option.toList_some, List.cons_append, List.nil_append]
    refine pw_zeq (pc := 4) (t := 17) d242_4 (by decide) (fun c2 => ?_) (fun c2 => ?_)
    · rw [if_pos c2] at hm
      refine pw_s (pc := 17) d242_17 rfl rfl ?_
      obtain rfl := Option.some.inj hm
      refine pw_ri (pc := 18) d242_18 t242 rfl ?_
      exact hE s_h
    · rw [if_neg c2] at hm
      refine pw_l (pc := 7) d242_7 rfl rfl rfl ?_
      refine pw_s (pc := 8) d242_8 rfl rfl ?_
      refine pw_s (pc := 9) d242_9 rfl rfl ?_
      refine pw_s (pc := 10) d242_10 rfl rfl ?_
      obtain ⟨q3, e_q3, hm⟩ := ob_x hm
      refine pw_u (pc := 11) (by omega) d242_11 (k242_112 b) (by decide) m148 (Nat.le_of_ble_eq_true rfl) (Nat.le_of_ble_eq_true rfl) (Nat.le_of_ble_eq_true rfl) rfl rfl (T_m_in b L xs (d - 1) (by omega) h s_h l1.toInt64 (Int64.ofNat 0) (Int64.ofNat 1)  e_q3) (fun v0 h0 hq => ?_)
      obtain ⟨rfl, hh0, s_q3⟩ := hq
      rw [hh0] at s_q3 ⊢
      simp only [Option.toList_some, List.cons_append, List.nil_append]
      refine pw_zne (pc := 14) (t := 19) d242_14 (by decide) (fun c4 => ?_) (fun c4 => ?_)
      · rw [if_pos c4] at hm
        refine pw_l (pc := 19) d242_19 rfl rfl rfl ?_
        obtain ⟨y5, e_y5, hm⟩ := ob_x hm
        have f_y5 := gA_x e_y5
        refine pw_gr (pc := 20) d242_20 (k242_39 b) (sho s_h f_l0) f10_20 f_y5.1 ?_
        refine pw_s (pc := 23) d242_23 rfl rfl ?_
        obtain ⟨g6, hm⟩ := gd_x hm
        refine pw_ai (pc := 25) d242_25 (sha s_h f_y5.2) (mi_in_x g6) ?_
        refine pw_t (pc := 26) d242_26 rfl rfl rfl rfl ?_
        refine pw_s (pc := 27) d242_27 rfl rfl ?_
        refine pw_t (pc := 28) d242_28 rfl rfl rfl rfl ?_
        refine pw_s (pc := 29) d242_29 rfl rfl ?_
        refine pw_t (pc := 30) d242_30 rfl rfl rfl rfl ?_
        refine pw_s (pc := 32) d242_32 rfl rfl ?_
        refine pw_t (pc := 33) d242_33 rfl rfl rfl rfl ?_
        obtain ⟨q7, e_q7, hm⟩ := ob_x hm
        refine wh_ind e_q7 (fun s : (Int32 × Int32 × Int32 × pm_H) => s.2.2.2.1 = tb_SH → ∀ w6 : Value, PW b L xs d 242 0 0 35 [(Value.ref l0), (Value.int l1), (Value.int (h.2.1 y5 ((Int8.ofInt 6).toInt32).toNatClampNeg)), (Value.int s.1), (Value.int s.2.1), (Value.int s.2.2.1), w6] [] s.2.2.2 Q) (fun s s2 hf ih sx w6 => t_m_boy_35 b L xs d hd s.2.2.2 sx l0 l1 (h.2.1 y5 ((Int8.ofInt 6).toInt32).toNatClampNeg) s.1 s.2.1 s.2.2.1 w6 f_l0 hf ih) (fun s hf sx w6 => t_m_boy_35 b L xs d hd s.2.2.2 sx l0 l1 (h.2.1 y5 ((Int8.ofInt 6).toInt32).toNatClampNeg) s.1 s.2.1 s.2.2.1 w6 f_l0 hf ?_) s_h  (Value.retAddr 0)
        intro s_q7_0 w5 w6
        refine pw_l (pc := 96) d242_96 rfl rfl rfl ?_
        obtain ⟨y8, e_y8, hm⟩ := ob_x hm
        have f_y8 := gA_x e_y8
        refine pw_gr (pc := 97) d242_97 (k242_39 b) (sho s_q7_0 f_l0) f10_20 f_y8.1 ?_
        refine pw_s (pc := 100) d242_100 rfl rfl ?_
        refine pw_l (pc := 102) d242_102 rfl rfl rfl ?_
        obtain ⟨g9, hm⟩ := gd_x hm
        refine pw_si (pc := 103) d242_103 (sha s_q7_0 f_y8.2) (mi_in_x g9) ?_
        obtain ⟨h10, e_h10, hm⟩ := bd_x hm
        rw [e_h10]
        have s_h10 : h10.1 = tb_SH := by rw [← e_h10]; exact s_q7_0
        refine pw_l (pc := 104) d242_104 rfl rfl rfl ?_
        refine pw_zne (pc := 105) (t := 112) d242_105 (by decide) (fun c11 => ?_) (fun c11 => ?_)
        · rw [if_pos c11] at hm
          refine pw_l (pc := 112) d242_112 rfl rfl rfl ?_
          obtain rfl := Option.some.inj hm
          refine pw_ri (pc := 114) d242_114 t242 rfl ?_
          exact hE s_h10
        · rw [if_neg c11] at hm
          refine pw_l (pc := 108) d242_108 rfl rfl rfl ?_
          refine pw_go (pc := 109) (t := 114) d242_109 (by decide) ?_
          obtain rfl := Option.some.inj hm
          refine pw_ri (pc := 114) d242_114 t242 rfl ?_
          exact hE s_h10
      · rw [if_neg c4] at hm
        refine pw_s (pc := 17) d242_17 rfl rfl ?_
        obtain rfl := Option.some.inj hm
        refine pw_ri (pc := 18) d242_18 t242 rfl ?_
        exact hE s_h
  exact key _ (fun q => ⟨rfl, rfl, q⟩)
def E_m_canBySome_26 (b : Bool) (L : Nat) (xs : Nat → Int32) (d : Nat) (Q : Option Value → pm_H → Prop) (l0 : Nat) (l2 : Int32) (l3 : Int32) : ((Int32 × pm_H) ⊕ pm_H ⊕ pm_H) → Prop
  | .inl s => s.2.1 = tb_SH → ∀ w1 : Value, PW b L xs d 243 0 0 26 [(Value.ref l0), w1, (Value.int l2), (Value.int l3), (Value.int s.1)] [] s.2 Q
  | .inr (.inl e) => e.1 = tb_SH → ∀ w0 w1 w2 w3 w4 : Value, PW b L xs d 243 0 0 49 [w0, w1, w2, w3, w4] [] e Q
  | .inr (.inr e) => e.1 = tb_SH → ∀ w0 w1 w2 w3 w4 : Value, PW b L xs d 243 0 0 57 [w0, w1, w2, w3, w4] [] e Q
noncomputable def m_canBySome_26 (l0 : Nat) (l2 : Int32) (l3 : Int32) (l4 : Int32) (h : pm_H) : Option ((Int32 × pm_H) ⊕ pm_H ⊕ pm_H) := if (Int32.ofInt 5) < l4 then (some (.inr (.inr h))) else ((m_heardSet l0 h).bind fun q2 => (m_findsRow l0 (q2 ||| l3) l3 l2 l4 h).bind fun q3 => if q3.1 = 0 then (some (.inl ((l4 + Int32.ofInt 1), q3.2))) else (some (.inr (.inl q3.2))))
theorem t_m_canBySome_26 (b : Bool) (L : Nat) (xs : Nat → Int32) (d : Nat) (hd : 5 ≤ d) {Q : Option Value → pm_H → Prop} (h : pm_H) (s_h : h.1 = tb_SH) (l0 : Nat) (l2 : Int32) (l3 : Int32) (l4 : Int32) (w1 : Value) (f_l0 : mi_o l0 10 = true) {r : ((Int32 × pm_H) ⊕ pm_H ⊕ pm_H)} (hm : m_canBySome_26 l0 l2 l3 l4 h = some r) (hE : E_m_canBySome_26 b L xs d Q l0 l2 l3 r) : PW b L xs d 243 0 0 26 [(Value.ref l0), w1, (Value.int l2), (Value.int l3), (Value.int l4)] [] h Q := by
  rw [m_canBySome_26] at hm
  refine pw_l (pc := 26) d243_26 rfl rfl rfl ?_
  refine pw_s (pc := 28) d243_28 rfl rfl ?_
  refine pw_igt (pc := 29) (t := 57) d243_29 (by decide) (fun c1 => ?_) (fun c1 => ?_)
  · rw [if_pos c1] at hm
    obtain rfl := Option.some.inj hm
    exact hE s_h  (Value.ref l0) w1 (Value.int l2) (Value.int l3) (Value.int l4)
  · rw [if_neg c1] at hm
    refine pw_l (pc := 32) d243_32 rfl rfl rfl ?_
    refine pw_l (pc := 33) d243_33 rfl rfl rfl ?_
    obtain ⟨q2, e_q2, hm⟩ := ob_x hm
    refine pw_v (pc := 34) (k := l0) (by omega) d243_34 (k243_383 b) (by decide) m200 (by decide) rfl (sho s_h f_l0) (Nat.le_of_ble_eq_true rfl) (Nat.le_of_ble_eq_true rfl) rfl rfl (T_m_heardSet b L xs (d - 1) (by omega) h s_h l0 f_l0 e_q2) (fun v0 h0 hq => ?_)
    obtain ⟨rfl, hh0, s_q2⟩ := hq
    rw [hh0] at s_q2 ⊢
    simp only [Option.toList_some, List.cons_append, List.nil_append]
    refine pw_l (pc := 37) d243_37 rfl rfl rfl ?_
    refine pw_s (pc := 38) d243_38 rfl rfl ?_
    refine pw_l (pc := 39) d243_39 rfl rfl rfl ?_
    refine pw_l (pc := 40) d243_40 rfl rfl rfl ?_
    refine pw_l (pc := 41) d243_41 rfl rfl rfl ?_
    obtain ⟨q3, e_q3, hm⟩ := ob_x hm
    refine pw_v (pc := 43) (k := l0) (by omega) d243_43 (k243_389 b) (by decide) m218 (by decide) rfl (sho s_h f_l0) (Nat.le_of_ble_eq_true rfl) (Nat.le_of_ble_eq_true rfl) rfl rfl (T_m_findsRow b L xs (d - 1) (by omega) h s_h l0 (q2 ||| l3) l3 l2 l4 f_l0 e_q3) (fun v0 h0 hq => ?_)
    obtain ⟨rfl, hh0, s_q3⟩ := hq
    rw [hh0] at s_q3 ⊢
    simp only [Option.toList_some, List.cons_append, List.nil_append]
    refine pw_zeq (pc := 46) (t := 51) d243_46 (by decide) (fun c4 => ?_) (fun c4 => ?_)
    · rw [if_pos c4] at hm
      refine pw_t (pc := 51) d243_51 rfl rfl rfl rfl ?_
      refine pw_go (pc := 54) (t := 26) d243_54 (by decide) ?_
      obtain rfl := Option.some.inj hm
      exact hE s_q3  w1
    · rw [if_neg c4] at hm
      obtain rfl := Option.some.inj hm
      exact hE s_q3  (Value.ref l0) w1 (Value.int l2) (Value.int l3) (Value.int l4)
noncomputable def m_canBySome_22 (l0 : Nat) (l2 : Int32) (z0 : Int32) (h : pm_H) : Option (Int32 × pm_H) := (wh (fun s : (Int32 × pm_H) => m_canBySome_26 l0 l2 z0 s.1 s.2) ((Int32.ofInt 1), h)).bind fun q1 => (match q1 with | (.inl eq1_0) => some ((Int32.ofInt 1), eq1_0) | (.inr eq1_1) => some ((Int32.ofInt 0), eq1_1))
theorem t_m_canBySome_22 (b : Bool) (L : Nat) (xs : Nat → Int32) (d : Nat) (hd : 5 ≤ d) {Q : Option Value → pm_H → Prop} (h : pm_H) (s_h : h.1 = tb_SH) (l0 : Nat) (l2 : Int32) (z0 : Int32) (w1 : Value) (w3 : Value) (w4 : Value) (f_l0 : mi_o l0 10 = true) {r : (Int32 × pm_H)} (hm : m_canBySome_22 l0 l2 z0 h = some r) (hE : r.2.1 = tb_SH → Q (some (Value.int r.1)) r.2) : PW b L xs d 243 0 0 22 [(Value.ref l0), w1, (Value.int l2), w3, w4] [(Value.int z0)] h Q := by
  rw [m_canBySome_22] at hm
  refine pw_t (pc := 22) d243_22 rfl rfl rfl rfl ?_
  refine pw_s (pc := 23) d243_23 rfl rfl ?_
  refine pw_t (pc := 24) d243_24 rfl rfl rfl rfl ?_
  obtain ⟨q1, e_q1, hm⟩ := ob_x hm
  refine wh_ind e_q1 (fun s : (Int32 × pm_H) => s.2.1 = tb_SH → ∀ w1 : Value, PW b L xs d 243 0 0 26 [(Value.ref l0), w1, (Value.int l2), (Value.int z0), (Value.int s.1)] [] s.2 Q) (fun s s2 hf ih sx w1 => t_m_canBySome_26 b L xs d hd s.2 sx l0 l2 z0 s.1 w1 f_l0 hf ih) (fun s hf sx w1 => t_m_canBySome_26 b L xs d hd s.2 sx l0 l2 z0 s.1 w1 f_l0 hf ?_) s_h  w1
  rcases q1 with eq1_0 | eq1_1
  · dsimp only at hm
    intro s_q1_0 w0 w1 w2 w3 w4
    refine pw_s (pc := 49) d243_49 rfl rfl ?_
    obtain rfl := Option.some.inj hm
    refine pw_ri (pc := 50) d243_50 t243 rfl ?_
    exact hE s_q1_0
  · dsimp only at hm
    intro s_q1_1 w0 w1 w2 w3 w4
    refine pw_s (pc := 57) d243_57 rfl rfl ?_
    obtain rfl := Option.some.inj hm
    refine pw_ri (pc := 58) d243_58 t243 rfl ?_
    exact hE s_q1_1
noncomputable def m_canBySome (l0 : Nat) (l1 : Int32) (l2 : Int32) (h : pm_H) : Option (Int32 × pm_H) := if ¬ l1 = 0 then (if ¬ l1 = (Int32.ofInt 1) then (m_canBySome_22 l0 l2 ((Int16.ofInt 1536).toInt32) h) else (m_canBySome_22 l0 l2 ((Int16.ofInt 512).toInt32) h)) else (m_canBySome_22 l0 l2 (Int32.ofInt 0) h)
theorem T_m_canBySome (b : Bool) (L : Nat) (xs : Nat → Int32) (d : Nat) (hd : 5 ≤ d) (h : pm_H) (s_h : h.1 = tb_SH) (l0 : Nat) (l1 : Int32) (l2 : Int32) (f_l0 : mi_o l0 10 = true) {r : (Int32 × pm_H)} (hm : m_canBySome l0 l1 l2 h = some r) : PC b L xs d 243 [(Value.ref l0), (Value.int l1), (Value.int l2)] h (fun (v0 : Option Value) (h2 : pm_H) => v0 = (some (Value.int r.1)) ∧ h2 = r.2 ∧ h2.1 = tb_SH) := by
  refine pc_in e243 (ls0 := [(Value.ref l0), (Value.int l1), (Value.int l2), Value.retAddr 0, Value.retAddr 0]) rfl ?_
  have key : ∀ (Q : Option Value → pm_H → Prop), (r.2.1 = tb_SH → Q (some (Value.int r.1)) r.2) → PW b L xs d 243 0 0 0 [(Value.ref l0), (Value.int l1), (Value.int l2), Value.retAddr 0, Value.retAddr 0] [] h Q := by
    intro Q hE
    rw [m_canBySome] at hm
    refine pw_l (pc := 0) d243_0 rfl rfl rfl ?_
    refine pw_zne (pc := 1) (t := 8) d243_1 (by decide) (fun c1 => ?_) (fun c1 => ?_)
    · rw [if_pos c1] at hm
      refine pw_l (pc := 8) d243_8 rfl rfl rfl ?_
      refine pw_s (pc := 9) d243_9 rfl rfl ?_
      refine pw_ine (pc := 10) (t := 19) d243_10 (by decide) (fun c2 => ?_) (fun c2 => ?_)
      · rw [if_pos c2] at hm
        refine pw_s (pc := 19) d243_19 rfl rfl ?_
        exact t_m_canBySome_22 b L xs d hd h s_h l0 l2 ((Int16.ofInt 1536).toInt32) (Value.int l1) (Value.retAddr 0) (Value.retAddr 0) f_l0  hm hE
      · rw [if_neg c2] at hm
        refine pw_s (pc := 13) d243_13 rfl rfl ?_
        refine pw_go (pc := 16) (t := 22) d243_16 (by decide) ?_
        exact t_m_canBySome_22 b L xs d hd h s_h l0 l2 ((Int16.ofInt 512).toInt32) (Value.int l1) (Value.retAddr 0) (Value.retAddr 0) f_l0  hm hE
    · rw [if_neg c1] at hm
      refine pw_s (pc := 4) d243_4 rfl rfl ?_
      refine pw_go (pc := 5) (t := 22) d243_5 (by decide) ?_
      exact t_m_canBySome_22 b L xs d hd h s_h l0 l2 (Int32.ofInt 0) (Value.int l1) (Value.retAddr 0) (Value.retAddr 0) f_l0  hm hE
  exact key _ (fun q => ⟨rfl, rfl, q⟩)
def E_m_lacksOf_61 (b : Bool) (L : Nat) (xs : Nat → Int32) (d : Nat) (Q : Option Value → pm_H → Prop) (l0 : Nat) (l1 : Int32) (l2 : Int32) : ((Int32 × pm_H) ⊕ pm_H ⊕ pm_H) → Prop
  | .inl s => s.2.1 = tb_SH → PW b L xs d 244 0 0 61 [(Value.ref l0), (Value.int l1), (Value.int l2), (Value.int s.1)] [] s.2 Q
  | .inr (.inl e) => e.1 = tb_SH → ∀ w0 w1 w2 w3 : Value, PW b L xs d 244 0 0 94 [w0, w1, w2, w3] [] e Q
  | .inr (.inr e) => e.1 = tb_SH → ∀ w3 : Value, PW b L xs d 244 0 0 102 [(Value.ref l0), (Value.int l1), (Value.int l2), w3] [] e Q
def E_m_lacksOf_49 (b : Bool) (L : Nat) (xs : Nat → Int32) (d : Nat) (Q : Option Value → pm_H → Prop) (l0 : Nat) (l1 : Int32) : ((Int32 × pm_H) ⊕ pm_H ⊕ pm_H) → Prop
  | .inl s => s.2.1 = tb_SH → ∀ w3 : Value, PW b L xs d 244 0 0 49 [(Value.ref l0), (Value.int l1), (Value.int s.1), w3] [] s.2 Q
  | .inr (.inl e) => e.1 = tb_SH → ∀ w0 w1 w2 w3 : Value, PW b L xs d 244 0 0 94 [w0, w1, w2, w3] [] e Q
  | .inr (.inr e) => e.1 = tb_SH → ∀ w0 w1 w2 w3 : Value, PW b L xs d 244 0 0 108 [w0, w1, w2, w3] [] e Q
def E_m_lacksOf_13 (b : Bool) (L : Nat) (xs : Nat → Int32) (d : Nat) (Q : Option Value → pm_H → Prop) (l0 : Nat) (l1 : Int32) : ((Int32 × pm_H) ⊕ pm_H ⊕ pm_H) → Prop
  | .inl s => s.2.1 = tb_SH → ∀ w3 : Value, PW b L xs d 244 0 0 13 [(Value.ref l0), (Value.int l1), (Value.int s.1), w3] [] s.2 Q
  | .inr (.inl e) => e.1 = tb_SH → ∀ w0 w1 w2 w3 : Value, PW b L xs d 244 0 0 39 [w0, w1, w2, w3] [] e Q
  | .inr (.inr e) => e.1 = tb_SH → ∀ w2 w3 : Value, PW b L xs d 244 0 0 47 [(Value.ref l0), (Value.int l1), w2, w3] [] e Q
noncomputable def m_lacksOf_61 (l0 : Nat) (l1 : Int32) (l2 : Int32) (l3 : Int32) (h : pm_H) : Option ((Int32 × pm_H) ⊕ pm_H ⊕ pm_H) := (gA h l0 20 .int).bind fun y1 => if mi_in (Int32.ofInt 0) (mi_n y1) = true then if (h.2.1 y1 (Int32.ofInt 0).toNatClampNeg) ≤ l3 then (some (.inr (.inr h))) else ((gA h l0 25 .int).bind fun y4 => if mi_in (Int32.ofInt 0) (mi_n y4) = true then bd (pm_setI h y4 (Int32.ofInt 0).toNatClampNeg l2) fun h6 => (gA h6 l0 25 .int).bind fun y7 => if mi_in (Int32.ofInt 1) (mi_n y7) = true then bd (pm_setI h6 y7 (Int32.ofInt 1).toNatClampNeg l3) fun h9 => (m_canBySome l0 (Int32.ofInt 2) l1 h9).bind fun q10 => if q10.1 = 0 then (some (.inl ((l3 + Int32.ofInt 1), q10.2))) else (some (.inr (.inl q10.2))) else none else none) else none
theorem t_m_lacksOf_61 (b : Bool) (L : Nat) (xs : Nat → Int32) (d : Nat) (hd : 6 ≤ d) {Q : Option Value → pm_H → Prop} (h : pm_H) (s_h : h.1 = tb_SH) (l0 : Nat) (l1 : Int32) (l2 : Int32) (l3 : Int32) (f_l0 : mi_o l0 10 = true) {r : ((Int32 × pm_H) ⊕ pm_H ⊕ pm_H)} (hm : m_lacksOf_61 l0 l1 l2 l3 h = some r) (hE : E_m_lacksOf_61 b L xs d Q l0 l1 l2 r) : PW b L xs d 244 0 0 61 [(Value.ref l0), (Value.int l1), (Value.int l2), (Value.int l3)] [] h Q := by
  rw [m_lacksOf_61] at hm
  refine pw_l (pc := 61) d244_61 rfl rfl rfl ?_
  refine pw_l (pc := 62) d244_62 rfl rfl rfl ?_
  obtain ⟨y1, e_y1, hm⟩ := ob_x hm
  have f_y1 := gA_x e_y1
  refine pw_gr (pc := 63) d244_63 (k244_39 b) (sho s_h f_l0) f10_20 f_y1.1 ?_
  refine pw_s (pc := 66) d244_66 rfl rfl ?_
  obtain ⟨g2, hm⟩ := gd_x hm
  refine pw_ai (pc := 67) d244_67 (sha s_h f_y1.2) (mi_in_x g2) ?_
  refine pw_ige (pc := 68) (t := 102) d244_68 (by decide) (fun c3 => ?_) (fun c3 => ?_)
  · rw [if_pos c3] at hm
    obtain rfl := Option.some.inj hm
    exact hE s_h  (Value.int l3)
  · rw [if_neg c3] at hm
    refine pw_l (pc := 71) d244_71 rfl rfl rfl ?_
    obtain ⟨y4, e_y4, hm⟩ := ob_x hm
    have f_y4 := gA_x e_y4
    refine pw_gr (pc := 72) d244_72 (k244_48 b) (sho s_h f_l0) f10_25 f_y4.1 ?_
    refine pw_s (pc := 75) d244_75 rfl rfl ?_
    refine pw_l (pc := 76) d244_76 rfl rfl rfl ?_
    obtain ⟨g5, hm⟩ := gd_x hm
    refine pw_si (pc := 77) d244_77 (sha s_h f_y4.2) (mi_in_x g5) ?_
    obtain ⟨h6, e_h6, hm⟩ := bd_x hm
    rw [e_h6]
    have s_h6 : h6.1 = tb_SH := by rw [← e_h6]; exact s_h
    refine pw_l (pc := 78) d244_78 rfl rfl rfl ?_
    obtain ⟨y7, e_y7, hm⟩ := ob_x hm
    have f_y7 := gA_x e_y7
    refine pw_gr (pc := 79) d244_79 (k244_48 b) (sho s_h6 f_l0) f10_25 f_y7.1 ?_
    refine pw_s (pc := 82) d244_82 rfl rfl ?_
    refine pw_l (pc := 83) d244_83 rfl rfl rfl ?_
    obtain ⟨g8, hm⟩ := gd_x hm
    refine pw_si (pc := 84) d244_84 (sha s_h6 f_y7.2) (mi_in_x g8) ?_
    obtain ⟨h9, e_h9, hm⟩ := bd_x hm
    rw [e_h9]
    have s_h9 : h9.1 = tb_SH := by rw [← e_h9]; exact s_h6
    refine pw_l (pc := 85) d244_85 rfl rfl rfl ?_
    refine pw_s (pc := 86) d244_86 rfl rfl ?_
    refine pw_l (pc := 87) d244_87 rfl rfl rfl ?_
    obtain ⟨q10, e_q10, hm⟩ := ob_x hm
    refine pw_v (pc := 88) (k := l0) (by omega) d244_88 (k244_401 b) (by decide) m243 (by decide) rfl (sho s_h9 f_l0) (Nat.le_of_ble_eq_true rfl) (Nat.le_of_ble_eq_true rfl) rfl rfl (T_m_canBySome b L xs (d - 1) (by omega) h9 s_h9 l0 (Int32.ofInt 2) l1 f_l0 e_q10) (fun v0 h0 hq => ?_)
    obtain ⟨rfl, hh0, s_q10⟩ := hq
    rw [hh0] at s_q10 ⊢
    simp only [Option.toList_some, List.cons_append, List.nil_append]
    refine pw_zeq (pc := 91) (t := 96) d244_91 (by decide) (fun c11 => ?_) (fun c11 => ?_)
    · rw [if_pos c11] at hm
      refine pw_t (pc := 96) d244_96 rfl rfl rfl rfl ?_
      refine pw_go (pc := 99) (t := 61) d244_99 (by decide) ?_
      obtain rfl := Option.some.inj hm
      exact hE s_q10  
    · rw [if_neg c11] at hm
      obtain rfl := Option.some.inj hm
      exact hE s_q10  (Value.ref l0) (Value.int l1) (Value.int l2) (Value.int l3)
noncomputable def m_lacksOf_49 (l0 : Nat) (l1 : Int32) (l2 : Int32) (h : pm_H) : Option ((Int32 × pm_H) ⊕ pm_H ⊕ pm_H) := (gA h l0 20 .int).bind fun y1 => if mi_in (Int32.ofInt 0) (mi_n y1) = true then if (h.2.1 y1 (Int32.ofInt 0).toNatClampNeg) ≤ l2 then (some (.inr (.inr h))) else ((wh (fun s : (Int32 × pm_H) => m_lacksOf_61 l0 l1 l2 s.1 s.2) (l2, h)).bind fun q4 => (match q4 with | (.inl eq4_0) => some (.inr (.inl eq4_0)) | (.inr eq4_1) => some (.inl ((l2 + Int32.ofInt 1), eq4_1)))) else none
theorem t_m_lacksOf_49 (b : Bool) (L : Nat) (xs : Nat → Int32) (d : Nat) (hd : 6 ≤ d) {Q : Option Value → pm_H → Prop} (h : pm_H) (s_h : h.1 = tb_SH) (l0 : Nat) (l1 : Int32) (l2 : Int32) (w3 : Value) (f_l0 : mi_o l0 10 = true) {r : ((Int32 × pm_H) ⊕ pm_H ⊕ pm_H)} (hm : m_lacksOf_49 l0 l1 l2 h = some r) (hE : E_m_lacksOf_49 b L xs d Q l0 l1 r) : PW b L xs d 244 0 0 49 [(Value.ref l0), (Value.int l1), (Value.int l2), w3] [] h Q := by
  rw [m_lacksOf_49] at hm
  refine pw_l (pc := 49) d244_49 rfl rfl rfl ?_
  refine pw_l (pc := 50) d244_50 rfl rfl rfl ?_
  obtain ⟨y1, e_y1, hm⟩ := ob_x hm
  have f_y1 := gA_x e_y1
  refine pw_gr (pc := 51) d244_51 (k244_39 b) (sho s_h f_l0) f10_20 f_y1.1 ?_
  refine pw_s (pc := 54) d244_54 rfl rfl ?_
  obtain ⟨g2, hm⟩ := gd_x hm
  refine pw_ai (pc := 55) d244_55 (sha s_h f_y1.2) (mi_in_x g2) ?_
  refine pw_ige (pc := 56) (t := 108) d244_56 (by decide) (fun c3 => ?_) (fun c3 => ?_)
  · rw [if_pos c3] at hm
    obtain rfl := Option.some.inj hm
    exact hE s_h  (Value.ref l0) (Value.int l1) (Value.int l2) w3
  · rw [if_neg c3] at hm
    refine pw_l (pc := 59) d244_59 rfl rfl rfl ?_
    refine pw_t (pc := 60) d244_60 rfl rfl rfl rfl ?_
    obtain ⟨q4, e_q4, hm⟩ := ob_x hm
    refine wh_ind e_q4 (fun s : (Int32 × pm_H) => s.2.1 = tb_SH → PW b L xs d 244 0 0 61 [(Value.ref l0), (Value.int l1), (Value.int l2), (Value.int s.1)] [] s.2 Q) (fun s s2 hf ih sx => t_m_lacksOf_61 b L xs d hd s.2 sx l0 l1 l2 s.1  f_l0 hf ih) (fun s hf sx => t_m_lacksOf_61 b L xs d hd s.2 sx l0 l1 l2 s.1  f_l0 hf ?_) s_h  
    rcases q4 with eq4_0 | eq4_1
    · dsimp only at hm
      intro s_q4_0 w0 w1 w2 w3
      obtain rfl := Option.some.inj hm
      exact hE s_q4_0  w0 w1 w2 w3
    · dsimp only at hm
      intro s_q4_1 w3
      refine pw_t (pc := 102) d244_102 rfl rfl rfl rfl ?_
      refine pw_go (pc := 105) (t := 49) d244_105 (by decide) ?_
      obtain rfl := Option.some.inj hm
      exact hE s_q4_1  w3
noncomputable def m_lacksOf_13 (l0 : Nat) (l1 : Int32) (l2 : Int32) (h : pm_H) : Option ((Int32 × pm_H) ⊕ pm_H ⊕ pm_H) := (gA h l0 20 .int).bind fun y1 => if mi_in (Int32.ofInt 0) (mi_n y1) = true then if (h.2.1 y1 (Int32.ofInt 0).toNatClampNeg) ≤ l2 then (some (.inr (.inr h))) else ((gA h l0 25 .int).bind fun y4 => if mi_in (Int32.ofInt 0) (mi_n y4) = true then bd (pm_setI h y4 (Int32.ofInt 0).toNatClampNeg l2) fun h6 => (m_canBySome l0 (Int32.ofInt 1) l1 h6).bind fun q7 => if q7.1 = 0 then (some (.inl ((l2 + Int32.ofInt 1), q7.2))) else (some (.inr (.inl q7.2))) else none) else none
theorem t_m_lacksOf_13 (b : Bool) (L : Nat) (xs : Nat → Int32) (d : Nat) (hd : 6 ≤ d) {Q : Option Value → pm_H → Prop} (h : pm_H) (s_h : h.1 = tb_SH) (l0 : Nat) (l1 : Int32) (l2 : Int32) (w3 : Value) (f_l0 : mi_o l0 10 = true) {r : ((Int32 × pm_H) ⊕ pm_H ⊕ pm_H)} (hm : m_lacksOf_13 l0 l1 l2 h = some r) (hE : E_m_lacksOf_13 b L xs d Q l0 l1 r) : PW b L xs d 244 0 0 13 [(Value.ref l0), (Value.int l1), (Value.int l2), w3] [] h Q := by
  rw [m_lacksOf_13] at hm
  refine pw_l (pc := 13) d244_13 rfl rfl rfl ?_
  refine pw_l (pc := 14) d244_14 rfl rfl rfl ?_
  obtain ⟨y1, e_y1, hm⟩ := ob_x hm
  have f_y1 := gA_x e_y1
  refine pw_gr (pc := 15) d244_15 (k244_39 b) (sho s_h f_l0) f10_20 f_y1.1 ?_
  refine pw_s (pc := 18) d244_18 rfl rfl ?_
  obtain ⟨g2, hm⟩ := gd_x hm
  refine pw_ai (pc := 19) d244_19 (sha s_h f_y1.2) (mi_in_x g2) ?_
  refine pw_ige (pc := 20) (t := 47) d244_20 (by decide) (fun c3 => ?_) (fun c3 => ?_)
  · rw [if_pos c3] at hm
    obtain rfl := Option.some.inj hm
    exact hE s_h  (Value.int l2) w3
  · rw [if_neg c3] at hm
    refine pw_l (pc := 23) d244_23 rfl rfl rfl ?_
    obtain ⟨y4, e_y4, hm⟩ := ob_x hm
    have f_y4 := gA_x e_y4
    refine pw_gr (pc := 24) d244_24 (k244_48 b) (sho s_h f_l0) f10_25 f_y4.1 ?_
    refine pw_s (pc := 27) d244_27 rfl rfl ?_
    refine pw_l (pc := 28) d244_28 rfl rfl rfl ?_
    obtain ⟨g5, hm⟩ := gd_x hm
    refine pw_si (pc := 29) d244_29 (sha s_h f_y4.2) (mi_in_x g5) ?_
    obtain ⟨h6, e_h6, hm⟩ := bd_x hm
    rw [e_h6]
    have s_h6 : h6.1 = tb_SH := by rw [← e_h6]; exact s_h
    refine pw_l (pc := 30) d244_30 rfl rfl rfl ?_
    refine pw_s (pc := 31) d244_31 rfl rfl ?_
    refine pw_l (pc := 32) d244_32 rfl rfl rfl ?_
    obtain ⟨q7, e_q7, hm⟩ := ob_x hm
    refine pw_v (pc := 33) (k := l0) (by omega) d244_33 (k244_401 b) (by decide) m243 (by decide) rfl (sho s_h6 f_l0) (Nat.le_of_ble_eq_true rfl) (Nat.le_of_ble_eq_true rfl) rfl rfl (T_m_canBySome b L xs (d - 1) (by omega) h6 s_h6 l0 (Int32.ofInt 1) l1 f_l0 e_q7) (fun v0 h0 hq => ?_)
    obtain ⟨rfl, hh0, s_q7⟩ := hq
    rw [hh0] at s_q7 ⊢
    simp only [Option.toList_some, List.cons_append, List.nil_append]
    refine pw_zeq (pc := 36) (t := 41) d244_36 (by decide) (fun c8 => ?_) (fun c8 => ?_)
    · rw [if_pos c8] at hm
      refine pw_t (pc := 41) d244_41 rfl rfl rfl rfl ?_
      refine pw_go (pc := 44) (t := 13) d244_44 (by decide) ?_
      obtain rfl := Option.some.inj hm
      exact hE s_q7  w3
    · rw [if_neg c8] at hm
      obtain rfl := Option.some.inj hm
      exact hE s_q7  (Value.ref l0) (Value.int l1) (Value.int l2) w3
noncomputable def m_lacksOf (l0 : Nat) (l1 : Int32) (h : pm_H) : Option (Int32 × pm_H) := (m_canBySome l0 (Int32.ofInt 0) l1 h).bind fun q1 => if q1.1 = 0 then ((wh (fun s : (Int32 × pm_H) => m_lacksOf_13 l0 l1 s.1 s.2) ((Int32.ofInt 0), q1.2)).bind fun q3 => (match q3 with | (.inl eq3_0) => some ((Int32.ofInt 1), eq3_0) | (.inr eq3_1) => (wh (fun s : (Int32 × pm_H) => m_lacksOf_49 l0 l1 s.1 s.2) ((Int32.ofInt 0), eq3_1)).bind fun q4 => (match q4 with | (.inl eq4_0) => some ((Int32.ofInt 2), eq4_0) | (.inr eq4_1) => some ((Int32.ofInt (-1)), eq4_1)))) else (some ((Int32.ofInt 0), q1.2))
theorem T_m_lacksOf (b : Bool) (L : Nat) (xs : Nat → Int32) (d : Nat) (hd : 6 ≤ d) (h : pm_H) (s_h : h.1 = tb_SH) (l0 : Nat) (l1 : Int32) (f_l0 : mi_o l0 10 = true) {r : (Int32 × pm_H)} (hm : m_lacksOf l0 l1 h = some r) : PC b L xs d 244 [(Value.ref l0), (Value.int l1)] h (fun (v0 : Option Value) (h2 : pm_H) => v0 = (some (Value.int r.1)) ∧ h2 = r.2 ∧ h2.1 = tb_SH) := by
  refine pc_in e244 (ls0 := [(Value.ref l0), (Value.int l1), Value.retAddr 0, Value.retAddr 0]) rfl ?_
  have key : ∀ (Q : Option Value → pm_H → Prop), (r.2.1 = tb_SH → Q (some (Value.int r.1)) r.2) → PW b L xs d 244 0 0 0 [(Value.ref l0), (Value.int l1), Value.retAddr 0, Value.retAddr 0] [] h Q := by
    intro Q hE
    rw [m_lacksOf] at hm
    refine pw_l (pc := 0) d244_0 rfl rfl rfl ?_
    refine pw_s (pc := 1) d244_1 rfl rfl ?_
    refine pw_l (pc := 2) d244_2 rfl rfl rfl ?_
    obtain ⟨q1, e_q1, hm⟩ := ob_x hm
    refine pw_v (pc := 3) (k := l0) (by omega) d244_3 (k244_401 b) (by decide) m243 (by decide) rfl (sho s_h f_l0) (Nat.le_of_ble_eq_true rfl) (Nat.le_of_ble_eq_true rfl) rfl rfl (T_m_canBySome b L xs (d - 1) (by omega) h s_h l0 (Int32.ofInt 0) l1 f_l0 e_q1) (fun v0 h0 hq => ?_)
    obtain ⟨rfl, hh0, s_q1⟩ := hq
    rw [hh0] at s_q1 ⊢
    simp only [Option.toList_some, List.cons_append, List.nil_append]
    refine pw_zeq (pc := 6) (t := 11) d244_6 (by decide) (fun c2 => ?_) (fun c2 => ?_)
    · rw [if_pos c2] at hm
      refine pw_s (pc := 11) d244_11 rfl rfl ?_
      refine pw_t (pc := 12) d244_12 rfl rfl rfl rfl ?_
      obtain ⟨q3, e_q3, hm⟩ := ob_x hm
      refine wh_ind e_q3 (fun s : (Int32 × pm_H) => s.2.1 = tb_SH → ∀ w3 : Value, PW b L xs d 244 0 0 13 [(Value.ref l0), (Value.int l1), (Value.int s.1), w3] [] s.2 Q) (fun s s2 hf ih sx w3 => t_m_lacksOf_13 b L xs d hd s.2 sx l0 l1 s.1 w3 f_l0 hf ih) (fun s hf sx w3 => t_m_lacksOf_13 b L xs d hd s.2 sx l0 l1 s.1 w3 f_l0 hf ?_) s_q1  (Value.retAddr 0)
      rcases q3 with eq3_0 | eq3_1
      · dsimp only at hm
        intro s_q3_0 w0 w1 w2 w3
        refine pw_s (pc := 39) d244_39 rfl rfl ?_
        obtain rfl := Option.some.inj hm
        refine pw_ri (pc := 40) d244_40 t244 rfl ?_
        exact hE s_q3_0
      · dsimp only at hm
        intro s_q3_1 w2 w3
        refine pw_s (pc := 47) d244_47 rfl rfl ?_
        refine pw_t (pc := 48) d244_48 rfl rfl rfl rfl ?_
        obtain ⟨q4, e_q4, hm⟩ := ob_x hm
        refine wh_ind e_q4 (fun s : (Int32 × pm_H) => s.2.1 = tb_SH → ∀ w3 : Value, PW b L xs d 244 0 0 49 [(Value.ref l0), (Value.int l1), (Value.int s.1), w3] [] s.2 Q) (fun s s2 hf ih sx w3 => t_m_lacksOf_49 b L xs d hd s.2 sx l0 l1 s.1 w3 f_l0 hf ih) (fun s hf sx w3 => t_m_lacksOf_49 b L xs d hd s.2 sx l0 l1 s.1 w3 f_l0 hf ?_) s_q3_1  w3
        rcases q4 with eq4_0 | eq4_1
        · dsimp only at hm
          intro s_q4_0 w0 w1 w2 w3
          refine pw_s (pc := 94) d244_94 rfl rfl ?_
          obtain rfl := Option.some.inj hm
          refine pw_ri (pc := 95) d244_95 t244 rfl ?_
          exact hE s_q4_0
        · dsimp only at hm
          intro s_q4_1 w0 w1 w2 w3
          refine pw_s (pc := 108) d244_108 rfl rfl ?_
          obtain rfl := Option.some.inj hm
          refine pw_ri (pc := 109) d244_109 t244 rfl ?_
          exact hE s_q4_1
    · rw [if_neg c2] at hm
      refine pw_s (pc := 9) d244_9 rfl rfl ?_
      obtain rfl := Option.some.inj hm
      refine pw_ri (pc := 10) d244_10 t244 rfl ?_
      exact hE s_q1
  exact key _ (fun q => ⟨rfl, rfl, q⟩)
noncomputable def m_lacks (l0 : Nat) (l1 : Int32) (l2 : Int32) (h : pm_H) : Option (Int32 × pm_H) := (m_isOrder l0 l1 h).bind fun q1 => if q1 = 0 then (some ((Int32.ofInt (-1)), h)) else ((m_in l2.toInt64 (Int64.ofNat 0) (2 : Int64) h).bind fun q3 => if ¬ q3 = 0 then ((m_lacksOf l0 l1 h).bind fun q5 => if 0 ≤ q5.1 then (if ¬ l2 = 0 then (if q5.1 < l2 then (some ((Int8.ofInt (-2)).toInt32, q5.2)) else ((gA q5.2 l0 25 .int).bind fun y9 => if mi_in (l2 - (Int32.ofInt 1)) (mi_n y9) = true then some ((q5.2.2.1 y9 (l2 - (Int32.ofInt 1)).toNatClampNeg), q5.2) else none)) else (some (q5.1, q5.2))) else (some ((Int8.ofInt (-2)).toInt32, q5.2))) else (some ((Int32.ofInt (-1)), h)))
theorem T_m_lacks (b : Bool) (L : Nat) (xs : Nat → Int32) (d : Nat) (hd : 7 ≤ d) (h : pm_H) (s_h : h.1 = tb_SH) (l0 : Nat) (l1 : Int32) (l2 : Int32) (f_l0 : mi_o l0 10 = true) {r : (Int32 × pm_H)} (hm : m_lacks l0 l1 l2 h = some r) : PC b L xs d 245 [(Value.ref l0), (Value.int l1), (Value.int l2)] h (fun (v0 : Option Value) (h2 : pm_H) => v0 = (some (Value.int r.1)) ∧ h2 = r.2 ∧ h2.1 = tb_SH) := by
  refine pc_in e245 (ls0 := [(Value.ref l0), (Value.int l1), (Value.int l2), Value.retAddr 0]) rfl ?_
  have key : ∀ (Q : Option Value → pm_H → Prop), (r.2.1 = tb_SH → Q (some (Value.int r.1)) r.2) → PW b L xs d 245 0 0 0 [(Value.ref l0), (Value.int l1), (Value.int l2), Value.retAddr 0] [] h Q := by
    intro Q hE
    rw [m_lacks] at hm
    refine pw_l (pc := 0) d245_0 rfl rfl rfl ?_
    refine pw_l (pc := 1) d245_1 rfl rfl rfl ?_
    obtain ⟨q1, e_q1, hm⟩ := ob_x hm
    refine pw_v (pc := 2) (k := l0) (by omega) d245_2 (k245_288 b) (by decide) m194 (by decide) rfl (sho s_h f_l0) (Nat.le_of_ble_eq_true rfl) (Nat.le_of_ble_eq_true rfl) rfl rfl (T_m_isOrder b L xs (d - 1) (by omega) h s_h l0 l1 f_l0 e_q1) (fun v0 h0 hq => ?_)
    obtain ⟨rfl, hh0, s_q1⟩ := hq
    rw [hh0] at s_q1 ⊢
    simp only [Option.toList_some, List.cons_append, List.nil_append]
    refine pw_zeq (pc := 5) (t := 20) d245_5 (by decide) (fun c2 => ?_) (fun c2 => ?_)
    · rw [if_pos c2] at hm
      refine pw_s (pc := 20) d245_20 rfl rfl ?_
      obtain rfl := Option.some.inj hm
      refine pw_ri (pc := 21) d245_21 t245 rfl ?_
      exact hE s_h
    · rw [if_neg c2] at hm
      refine pw_l (pc := 8) d245_8 rfl rfl rfl ?_
      refine pw_s (pc := 9) d245_9 rfl rfl ?_
      refine pw_s (pc := 10) d245_10 rfl rfl ?_
      refine pw_cl (pc := 11) d245_11 (k245_359 b) ?_
      obtain ⟨q3, e_q3, hm⟩ := ob_x hm
      refine pw_u (pc := 14) (by omega) d245_14 (k245_112 b) (by decide) m148 (Nat.le_of_ble_eq_true rfl) (Nat.le_of_ble_eq_true rfl) (Nat.le_of_ble_eq_true rfl) rfl rfl (T_m_in b L xs (d - 1) (by omega) h s_h l2.toInt64 (Int64.ofNat 0) (2 : Int64)  e_q3) (fun v0 h0 hq => ?_)
      obtain ⟨rfl, hh0, s_q3⟩ := hq
      rw [hh0] at s_q3 ⊢
      simp only [Option.toList_some, List.cons_append, List.nil_append]
      refine pw_zne (pc := 17) (t := 22) d245_17 (by decide) (fun c4 => ?_) (fun c4 => ?_)
      · rw [if_pos c4] at hm
        refine pw_l (pc := 22) d245_22 rfl rfl rfl ?_
        refine pw_l (pc := 23) d245_23 rfl rfl rfl ?_
        obtain ⟨q5, e_q5, hm⟩ := ob_x hm
        refine pw_v (pc := 24) (k := l0) (by omega) d245_24 (k245_404 b) (by decide) m244 (by decide) rfl (sho s_h f_l0) (Nat.le_of_ble_eq_true rfl) (Nat.le_of_ble_eq_true rfl) rfl rfl (T_m_lacksOf b L xs (d - 1) (by omega) h s_h l0 l1 f_l0 e_q5) (fun v0 h0 hq => ?_)
        obtain ⟨rfl, hh0, s_q5⟩ := hq
        rw [hh0] at s_q5 ⊢
        simp only [Option.toList_some, List.cons_append, List.nil_append]
        refine pw_t (pc := 27) d245_27 rfl rfl rfl rfl ?_
        refine pw_l (pc := 28) d245_28 rfl rfl rfl ?_
        refine pw_zge (pc := 29) (t := 35) d245_29 (by decide) (fun c6 => ?_) (fun c6 => ?_)
        · rw [if_pos c6] at hm
          refine pw_l (pc := 35) d245_35 rfl rfl rfl ?_
          refine pw_zne (pc := 36) (t := 43) d245_36 (by decide) (fun c7 => ?_) (fun c7 => ?_)
          · rw [if_pos c7] at hm
            refine pw_l (pc := 43) d245_43 rfl rfl rfl ?_
            refine pw_l (pc := 44) d245_44 rfl rfl rfl ?_
            refine pw_igt (pc := 45) (t := 59) d245_45 (by decide) (fun c8 => ?_) (fun c8 => ?_)
            · rw [if_pos c8] at hm
              refine pw_s (pc := 59) d245_59 rfl rfl ?_
              obtain rfl := Option.some.inj hm
              refine pw_ri (pc := 61) d245_61 t245 rfl ?_
              exact hE s_q5
            · rw [if_neg c8] at hm
              refine pw_l (pc := 48) d245_48 rfl rfl rfl ?_
              obtain ⟨y9, e_y9, hm⟩ := ob_x hm
              have f_y9 := gA_x e_y9
              refine pw_gr (pc := 49) d245_49 (k245_48 b) (sho s_q5 f_l0) f10_25 f_y9.1 ?_
              refine pw_l (pc := 52) d245_52 rfl rfl rfl ?_
              refine pw_s (pc := 53) d245_53 rfl rfl ?_
              refine pw_s (pc := 54) d245_54 rfl rfl ?_
              obtain ⟨g10, hm⟩ := gd_x hm
              refine pw_ai (pc := 55) d245_55 (sha s_q5 f_y9.2) (mi_in_x g10) ?_
              refine pw_go (pc := 56) (t := 61) d245_56 (by decide) ?_
              obtain rfl := Option.some.inj hm
              refine pw_ri (pc := 61) d245_61 t245 rfl ?_
              exact hE s_q5
          · rw [if_neg c7] at hm
            refine pw_l (pc := 39) d245_39 rfl rfl rfl ?_
            refine pw_go (pc := 40) (t := 61) d245_40 (by decide) ?_
            obtain rfl := Option.some.inj hm
            refine pw_ri (pc := 61) d245_61 t245 rfl ?_
            exact hE s_q5
        · rw [if_neg c6] at hm
          refine pw_s (pc := 32) d245_32 rfl rfl ?_
          obtain rfl := Option.some.inj hm
          refine pw_ri (pc := 34) d245_34 t245 rfl ?_
          exact hE s_q5
      · rw [if_neg c4] at hm
        refine pw_s (pc := 20) d245_20 rfl rfl ?_
        obtain rfl := Option.some.inj hm
        refine pw_ri (pc := 21) d245_21 t245 rfl ?_
        exact hE s_h
  exact key _ (fun q => ⟨rfl, rfl, q⟩)
noncomputable def m_lesser (l0 : Int32) (l1 : Int32) (h : pm_H) : Option Int32 := if l1 ≤ l0 then (some l1) else (some l0)
theorem T_m_lesser (b : Bool) (L : Nat) (xs : Nat → Int32) (d : Nat) (hd : 0 ≤ d) (h : pm_H) (s_h : h.1 = tb_SH) (l0 : Int32) (l1 : Int32) {r : Int32} (hm : m_lesser l0 l1 h = some r) : PC b L xs d 246 [(Value.int l0), (Value.int l1)] h (fun (v0 : Option Value) (h2 : pm_H) => v0 = (some (Value.int r)) ∧ h2 = h ∧ h2.1 = tb_SH) := by
  refine pc_in e246 (ls0 := [(Value.int l0), (Value.int l1)]) rfl ?_
  have key : ∀ (Q : Option Value → pm_H → Prop), (Q (some (Value.int r)) h) → PW b L xs d 246 0 0 0 [(Value.int l0), (Value.int l1)] [] h Q := by
    intro Q hE
    rw [m_lesser] at hm
    refine pw_l (pc := 0) d246_0 rfl rfl rfl ?_
    refine pw_l (pc := 1) d246_1 rfl rfl rfl ?_
    refine pw_ige (pc := 2) (t := 9) d246_2 (by decide) (fun c1 => ?_) (fun c1 => ?_)
    · rw [if_pos c1] at hm
      refine pw_l (pc := 9) d246_9 rfl rfl rfl ?_
      obtain rfl := Option.some.inj hm
      refine pw_ri (pc := 10) d246_10 t246 rfl ?_
      exact hE
    · rw [if_neg c1] at hm
      refine pw_l (pc := 5) d246_5 rfl rfl rfl ?_
      refine pw_go (pc := 6) (t := 10) d246_6 (by decide) ?_
      obtain rfl := Option.some.inj hm
      refine pw_ri (pc := 10) d246_10 t246 rfl ?_
      exact hE
  exact key _ ⟨rfl, rfl, s_h⟩
def E_m_changesTo_20 (b : Bool) (L : Nat) (xs : Nat → Int32) (d : Nat) (Q : Option Value → pm_H → Prop) (l0 : Nat) (l1 : Int32) (l2 : Int32) (l3 : Int32) : ((Int32 × pm_H) ⊕ pm_H) → Prop
  | .inl s => s.2.1 = tb_SH → ∀ w5 w6 : Value, PW b L xs d 247 0 0 20 [(Value.ref l0), (Value.int l1), (Value.int l2), (Value.int l3), (Value.int s.1), w5, w6] [] s.2 Q
  | .inr e => e.1 = tb_SH → ∀ w4 w5 w6 : Value, PW b L xs d 247 0 0 136 [(Value.ref l0), (Value.int l1), (Value.int l2), (Value.int l3), w4, w5, w6] [] e Q
def E_m_changesTo_9 (b : Bool) (L : Nat) (xs : Nat → Int32) (d : Nat) (Q : Option Value → pm_H → Prop) (l0 : Nat) (l1 : Int32) (l2 : Int32) : ((Int32 × pm_H) ⊕ pm_H) → Prop
  | .inl s => s.2.1 = tb_SH → ∀ w4 w5 w6 : Value, PW b L xs d 247 0 0 9 [(Value.ref l0), (Value.int l1), (Value.int l2), (Value.int s.1), w4, w5, w6] [] s.2 Q
  | .inr e => e.1 = tb_SH → ∀ w1 w3 w4 w5 w6 : Value, PW b L xs d 247 0 0 142 [(Value.ref l0), w1, (Value.int l2), w3, w4, w5, w6] [] e Q
noncomputable def m_changesTo_92 (l0 : Nat) (l1 : Int32) (l2 : Int32) (l3 : Int32) (l4 : Int32) (l5 : Int32) (z0 : Int32) (z1 : Int32) (h : pm_H) : Option ((Int32 × pm_H) ⊕ pm_H) := (gA h l0 29 .int).bind fun y1 => (gA h l0 29 .int).bind fun y2 => if mi_in (l5 - (Int32.ofInt 5)) (mi_n y2) = true then (gA h l0 29 .int).bind fun y4 => if mi_in (l5 - (Int32.ofInt 1)) (mi_n y4) = true then (m_lesser (h.2.1 y2 (l5 - (Int32.ofInt 5)).toNatClampNeg) (h.2.1 y4 (l5 - (Int32.ofInt 1)).toNatClampNeg) h).bind fun q6 => (m_lesser (z1 + z0) (q6 + (Int32.ofInt 1)) h).bind fun q7 => if mi_in l5 (mi_n y1) = true then bd (pm_setI h y1 l5.toNatClampNeg q7) fun h9 => some (.inl ((l4 + Int32.ofInt 1), h9)) else none else none else none
theorem t_m_changesTo_92 (b : Bool) (L : Nat) (xs : Nat → Int32) (d : Nat) (hd : 1 ≤ d) {Q : Option Value → pm_H → Prop} (h : pm_H) (s_h : h.1 = tb_SH) (l0 : Nat) (l1 : Int32) (l2 : Int32) (l3 : Int32) (l4 : Int32) (l5 : Int32) (z0 : Int32) (z1 : Int32) (w6 : Value) (f_l0 : mi_o l0 10 = true) {r : ((Int32 × pm_H) ⊕ pm_H)} (hm : m_changesTo_92 l0 l1 l2 l3 l4 l5 z0 z1 h = some r) (hE : E_m_changesTo_20 b L xs d Q l0 l1 l2 l3 r) : PW b L xs d 247 0 0 92 [(Value.ref l0), (Value.int l1), (Value.int l2), (Value.int l3), (Value.int l4), (Value.int l5), w6] [(Value.int z0), (Value.int z1)] h Q := by
  rw [m_changesTo_92] at hm
  refine pw_s (pc := 92) d247_92 rfl rfl ?_
  refine pw_t (pc := 93) d247_93 rfl rfl rfl rfl ?_
  refine pw_l (pc := 95) d247_95 rfl rfl rfl ?_
  obtain ⟨y1, e_y1, hm⟩ := ob_x hm
  have f_y1 := gA_x e_y1
  refine pw_gr (pc := 96) d247_96 (k247_57 b) (sho s_h f_l0) f10_29 f_y1.1 ?_
  refine pw_l (pc := 99) d247_99 rfl rfl rfl ?_
  refine pw_l (pc := 101) d247_101 rfl rfl rfl ?_
  refine pw_l (pc := 103) d247_103 rfl rfl rfl ?_
  obtain ⟨y2, e_y2, hm⟩ := ob_x hm
  have f_y2 := gA_x e_y2
  refine pw_gr (pc := 104) d247_104 (k247_57 b) (sho s_h f_l0) f10_29 f_y2.1 ?_
  refine pw_l (pc := 107) d247_107 rfl rfl rfl ?_
  refine pw_s (pc := 109) d247_109 rfl rfl ?_
  refine pw_s (pc := 110) d247_110 rfl rfl ?_
  obtain ⟨g3, hm⟩ := gd_x hm
  refine pw_ai (pc := 111) d247_111 (sha s_h f_y2.2) (mi_in_x g3) ?_
  refine pw_l (pc := 112) d247_112 rfl rfl rfl ?_
  obtain ⟨y4, e_y4, hm⟩ := ob_x hm
  have f_y4 := gA_x e_y4
  refine pw_gr (pc := 113) d247_113 (k247_57 b) (sho s_h f_l0) f10_29 f_y4.1 ?_
  refine pw_l (pc := 116) d247_116 rfl rfl rfl ?_
  refine pw_s (pc := 118) d247_118 rfl rfl ?_
  refine pw_s (pc := 119) d247_119 rfl rfl ?_
  obtain ⟨g5, hm⟩ := gd_x hm
  refine pw_ai (pc := 120) d247_120 (sha s_h f_y4.2) (mi_in_x g5) ?_
  obtain ⟨q6, e_q6, hm⟩ := ob_x hm
  refine pw_u (pc := 121) (by omega) d247_121 (k247_407 b) (by decide) m246 (Nat.le_of_ble_eq_true rfl) (Nat.le_of_ble_eq_true rfl) (Nat.le_of_ble_eq_true rfl) rfl rfl (T_m_lesser b L xs (d - 1) (by omega) h s_h (h.2.1 y2 (l5 - (Int32.ofInt 5)).toNatClampNeg) (h.2.1 y4 (l5 - (Int32.ofInt 1)).toNatClampNeg)  e_q6) (fun v0 h0 hq => ?_)
  obtain ⟨rfl, hh0, s_q6⟩ := hq
  rw [hh0] at s_q6 ⊢
  simp only [Option.toList_some, List.cons_append, List.nil_append]
  refine pw_s (pc := 124) d247_124 rfl rfl ?_
  refine pw_s (pc := 125) d247_125 rfl rfl ?_
  obtain ⟨q7, e_q7, hm⟩ := ob_x hm
  refine pw_u (pc := 126) (by omega) d247_126 (k247_407 b) (by decide) m246 (Nat.le_of_ble_eq_true rfl) (Nat.le_of_ble_eq_true rfl) (Nat.le_of_ble_eq_true rfl) rfl rfl (T_m_lesser b L xs (d - 1) (by omega) h s_h (z1 + z0) (q6 + (Int32.ofInt 1))  e_q7) (fun v0 h0 hq => ?_)
  obtain ⟨rfl, hh0, s_q7⟩ := hq
  rw [hh0] at s_q7 ⊢
  simp only [Option.toList_some, List.cons_append, List.nil_append]
  obtain ⟨g8, hm⟩ := gd_x hm
  refine pw_si (pc := 129) d247_129 (sha s_h f_y1.2) (mi_in_x g8) ?_
  obtain ⟨h9, e_h9, hm⟩ := bd_x hm
  rw [e_h9]
  have s_h9 : h9.1 = tb_SH := by rw [← e_h9]; exact s_h
  refine pw_t (pc := 130) d247_130 rfl rfl rfl rfl ?_
  refine pw_go (pc := 133) (t := 20) d247_133 (by decide) ?_
  obtain rfl := Option.some.inj hm
  exact hE s_h9  (Value.int l5) (Value.int (z1 + z0))
noncomputable def m_changesTo_43 (l0 : Nat) (l1 : Int32) (l2 : Int32) (l3 : Int32) (l4 : Int32) (l5 : Int32) (h : pm_H) : Option ((Int32 × pm_H) ⊕ pm_H) := (gA h l0 29 .int).bind fun y1 => if mi_in l5 (mi_n y1) = true then bd (pm_setI h y1 l5.toNatClampNeg (l3 + l4)) fun h3 => some (.inl ((l4 + Int32.ofInt 1), h3)) else none
theorem t_m_changesTo_43 (b : Bool) (L : Nat) (xs : Nat → Int32) (d : Nat) (hd : 1 ≤ d) {Q : Option Value → pm_H → Prop} (h : pm_H) (s_h : h.1 = tb_SH) (l0 : Nat) (l1 : Int32) (l2 : Int32) (l3 : Int32) (l4 : Int32) (l5 : Int32) (w6 : Value) (f_l0 : mi_o l0 10 = true) {r : ((Int32 × pm_H) ⊕ pm_H)} (hm : m_changesTo_43 l0 l1 l2 l3 l4 l5 h = some r) (hE : E_m_changesTo_20 b L xs d Q l0 l1 l2 l3 r) : PW b L xs d 247 0 0 43 [(Value.ref l0), (Value.int l1), (Value.int l2), (Value.int l3), (Value.int l4), (Value.int l5), w6] [] h Q := by
  rw [m_changesTo_43] at hm
  refine pw_l (pc := 43) d247_43 rfl rfl rfl ?_
  obtain ⟨y1, e_y1, hm⟩ := ob_x hm
  have f_y1 := gA_x e_y1
  refine pw_gr (pc := 44) d247_44 (k247_57 b) (sho s_h f_l0) f10_29 f_y1.1 ?_
  refine pw_l (pc := 47) d247_47 rfl rfl rfl ?_
  refine pw_l (pc := 49) d247_49 rfl rfl rfl ?_
  refine pw_l (pc := 50) d247_50 rfl rfl rfl ?_
  refine pw_s (pc := 52) d247_52 rfl rfl ?_
  obtain ⟨g2, hm⟩ := gd_x hm
  refine pw_si (pc := 53) d247_53 (sha s_h f_y1.2) (mi_in_x g2) ?_
  obtain ⟨h3, e_h3, hm⟩ := bd_x hm
  rw [e_h3]
  have s_h3 : h3.1 = tb_SH := by rw [← e_h3]; exact s_h
  refine pw_go (pc := 54) (t := 130) d247_54 (by decide) ?_
  refine pw_t (pc := 130) d247_130 rfl rfl rfl rfl ?_
  refine pw_go (pc := 133) (t := 20) d247_133 (by decide) ?_
  obtain rfl := Option.some.inj hm
  exact hE s_h3  (Value.int l5) w6
noncomputable def m_changesTo_20 (l0 : Nat) (l1 : Int32) (l2 : Int32) (l3 : Int32) (l4 : Int32) (h : pm_H) : Option ((Int32 × pm_H) ⊕ pm_H) := if l2 < l4 then (some (.inr h)) else (if l3 = 0 then (m_changesTo_43 l0 l1 l2 l3 l4 (((Int32.ofInt 5) * l3) + l4) h) else (if ¬ l4 = 0 then ((gA h l0 29 .int).bind fun y4 => if mi_in ((((Int32.ofInt 5) * l3) + l4) - (Int8.ofInt 6).toInt32) (mi_n y4) = true then (gA h l0 22 .int).bind fun y6 => if mi_in (l3 - (Int32.ofInt 1)) (mi_n y6) = true then (m_orderOf l0 l1 ((Int32.ofInt 1) + l4) h).bind fun q8 => if ¬ (h.2.1 y6 (l3 - (Int32.ofInt 1)).toNatClampNeg) = q8 then (m_changesTo_92 l0 l1 l2 l3 l4 (((Int32.ofInt 5) * l3) + l4) (Int32.ofInt 1) (h.2.1 y4 ((((Int32.ofInt 5) * l3) + l4) - (Int8.ofInt 6).toInt32).toNatClampNeg) h) else (m_changesTo_92 l0 l1 l2 l3 l4 (((Int32.ofInt 5) * l3) + l4) (Int32.ofInt 0) (h.2.1 y4 ((((Int32.ofInt 5) * l3) + l4) - (Int8.ofInt 6).toInt32).toNatClampNeg) h) else none else none) else (m_changesTo_43 l0 l1 l2 l3 l4 (((Int32.ofInt 5) * l3) + l4) h)))
theorem t_m_changesTo_20 (b : Bool) (L : Nat) (xs : Nat → Int32) (d : Nat) (hd : 1 ≤ d) {Q : Option Value → pm_H → Prop} (h : pm_H) (s_h : h.1 = tb_SH) (l0 : Nat) (l1 : Int32) (l2 : Int32) (l3 : Int32) (l4 : Int32) (w5 : Value) (w6 : Value) (f_l0 : mi_o l0 10 = true) {r : ((Int32 × pm_H) ⊕ pm_H)} (hm : m_changesTo_20 l0 l1 l2 l3 l4 h = some r) (hE : E_m_changesTo_20 b L xs d Q l0 l1 l2 l3 r) : PW b L xs d 247 0 0 20 [(Value.ref l0), (Value.int l1), (Value.int l2), (Value.int l3), (Value.int l4), w5, w6] [] h Q := by
  rw [m_changesTo_20] at hm
  refine pw_l (pc := 20) d247_20 rfl rfl rfl ?_
  refine pw_l (pc := 22) d247_22 rfl rfl rfl ?_
  refine pw_igt (pc := 23) (t := 136) d247_23 (by decide) (fun c1 => ?_) (fun c1 => ?_)
  · rw [if_pos c1] at hm
    obtain rfl := Option.some.inj hm
    exact hE s_h  (Value.int l4) w5 w6
  · rw [if_neg c1] at hm
    refine pw_s (pc := 26) d247_26 rfl rfl ?_
    refine pw_l (pc := 27) d247_27 rfl rfl rfl ?_
    refine pw_s (pc := 28) d247_28 rfl rfl ?_
    refine pw_l (pc := 29) d247_29 rfl rfl rfl ?_
    refine pw_s (pc := 31) d247_31 rfl rfl ?_
    refine pw_t (pc := 32) d247_32 rfl rfl rfl rfl ?_
    refine pw_l (pc := 34) d247_34 rfl rfl rfl ?_
    refine pw_zeq (pc := 35) (t := 43) d247_35 (by decide) (fun c2 => ?_) (fun c2 => ?_)
    · rw [if_pos c2] at hm
      exact t_m_changesTo_43 b L xs d hd h s_h l0 l1 l2 l3 l4 (((Int32.ofInt 5) * l3) + l4) w6 f_l0  hm hE
    · rw [if_neg c2] at hm
      refine pw_l (pc := 38) d247_38 rfl rfl rfl ?_
      refine pw_zne (pc := 40) (t := 57) d247_40 (by decide) (fun c3 => ?_) (fun c3 => ?_)
      · rw [if_pos c3] at hm
        refine pw_l (pc := 57) d247_57 rfl rfl rfl ?_
        obtain ⟨y4, e_y4, hm⟩ := ob_x hm
        have f_y4 := gA_x e_y4
        refine pw_gr (pc := 58) d247_58 (k247_57 b) (sho s_h f_l0) f10_29 f_y4.1 ?_
        refine pw_l (pc := 61) d247_61 rfl rfl rfl ?_
        refine pw_s (pc := 63) d247_63 rfl rfl ?_
        refine pw_s (pc := 65) d247_65 rfl rfl ?_
        obtain ⟨g5, hm⟩ := gd_x hm
        refine pw_ai (pc := 66) d247_66 (sha s_h f_y4.2) (mi_in_x g5) ?_
        refine pw_l (pc := 67) d247_67 rfl rfl rfl ?_
        obtain ⟨y6, e_y6, hm⟩ := ob_x hm
        have f_y6 := gA_x e_y6
        refine pw_gr (pc := 68) d247_68 (k247_42 b) (sho s_h f_l0) f10_22 f_y6.1 ?_
        refine pw_l (pc := 71) d247_71 rfl rfl rfl ?_
        refine pw_s (pc := 72) d247_72 rfl rfl ?_
        refine pw_s (pc := 73) d247_73 rfl rfl ?_
        obtain ⟨g7, hm⟩ := gd_x hm
        refine pw_ai (pc := 74) d247_74 (sha s_h f_y6.2) (mi_in_x g7) ?_
        refine pw_l (pc := 75) d247_75 rfl rfl rfl ?_
        refine pw_l (pc := 76) d247_76 rfl rfl rfl ?_
        refine pw_s (pc := 77) d247_77 rfl rfl ?_
        refine pw_l (pc := 78) d247_78 rfl rfl rfl ?_
        refine pw_s (pc := 80) d247_80 rfl rfl ?_
        obtain ⟨q8, e_q8, hm⟩ := ob_x hm
        refine pw_v (pc := 81) (k := l0) (by omega) d247_81 (k247_293 b) (by decide) m203 (by decide) rfl (sho s_h f_l0) (Nat.le_of_ble_eq_true rfl) (Nat.le_of_ble_eq_true rfl) rfl rfl (T_m_orderOf b L xs (d - 1) (by omega) h s_h l0 l1 ((Int32.ofInt 1) + l4) f_l0 e_q8) (fun v0 h0 hq => ?_)
        obtain ⟨rfl, hh0, s_q8⟩ := hq
        rw [hh0] at s_q8 ⊢
        simp only [Option.toList_some, List.cons_append, List.nil_append]
        refine pw_ine (pc := 84) (t := 91) d247_84 (by decide) (fun c9 => ?_) (fun c9 => ?_)
        · rw [if_pos c9] at hm
          refine pw_s (pc := 91) d247_91 rfl rfl ?_
          exact t_m_changesTo_92 b L xs d hd h s_h l0 l1 l2 l3 l4 (((Int32.ofInt 5) * l3) + l4) (Int32.ofInt 1) (h.2.1 y4 ((((Int32.ofInt 5) * l3) + l4) - (Int8.ofInt 6).toInt32).toNatClampNeg) w6 f_l0  hm hE
        · rw [if_neg c9] at hm
          refine pw_s (pc := 87) d247_87 rfl rfl ?_
          refine pw_go (pc := 88) (t := 92) d247_88 (by decide) ?_
          exact t_m_changesTo_92 b L xs d hd h s_h l0 l1 l2 l3 l4 (((Int32.ofInt 5) * l3) + l4) (Int32.ofInt 0) (h.2.1 y4 ((((Int32.ofInt 5) * l3) + l4) - (Int8.ofInt 6).toInt32).toNatClampNeg) w6 f_l0  hm hE
      · rw [if_neg c3] at hm
        exact t_m_changesTo_43 b L xs d hd h s_h l0 l1 l2 l3 l4 (((Int32.ofInt 5) * l3) + l4) w6 f_l0  hm hE
noncomputable def m_changesTo_9 (l0 : Nat) (l1 : Int32) (l2 : Int32) (l3 : Int32) (h : pm_H) : Option ((Int32 × pm_H) ⊕ pm_H) := if (h.2.1 l0 23) < l3 then (some (.inr h)) else ((wh (fun s : (Int32 × pm_H) => m_changesTo_20 l0 l1 l2 l3 s.1 s.2) ((Int32.ofInt 0), h)).bind fun q2 => some (.inl ((l3 + Int32.ofInt 1), q2)))
theorem t_m_changesTo_9 (b : Bool) (L : Nat) (xs : Nat → Int32) (d : Nat) (hd : 1 ≤ d) {Q : Option Value → pm_H → Prop} (h : pm_H) (s_h : h.1 = tb_SH) (l0 : Nat) (l1 : Int32) (l2 : Int32) (l3 : Int32) (w4 : Value) (w5 : Value) (w6 : Value) (f_l0 : mi_o l0 10 = true) {r : ((Int32 × pm_H) ⊕ pm_H)} (hm : m_changesTo_9 l0 l1 l2 l3 h = some r) (hE : E_m_changesTo_9 b L xs d Q l0 l1 l2 r) : PW b L xs d 247 0 0 9 [(Value.ref l0), (Value.int l1), (Value.int l2), (Value.int l3), w4, w5, w6] [] h Q := by
  rw [m_changesTo_9] at hm
  refine pw_l (pc := 9) d247_9 rfl rfl rfl ?_
  refine pw_l (pc := 10) d247_10 rfl rfl rfl ?_
  refine pw_gi (pc := 11) d247_11 (k247_299 b) (sho s_h f_l0) f10_23 ?_
  refine pw_igt (pc := 14) (t := 142) d247_14 (by decide) (fun c1 => ?_) (fun c1 => ?_)
  · rw [if_pos c1] at hm
    obtain rfl := Option.some.inj hm
    exact hE s_h  (Value.int l1) (Value.int l3) w4 w5 w6
  · rw [if_neg c1] at hm
    refine pw_s (pc := 17) d247_17 rfl rfl ?_
    refine pw_t (pc := 18) d247_18 rfl rfl rfl rfl ?_
    obtain ⟨q2, e_q2, hm⟩ := ob_x hm
    refine wh_ind e_q2 (fun s : (Int32 × pm_H) => s.2.1 = tb_SH → ∀ w5 w6 : Value, PW b L xs d 247 0 0 20 [(Value.ref l0), (Value.int l1), (Value.int l2), (Value.int l3), (Value.int s.1), w5, w6] [] s.2 Q) (fun s s2 hf ih sx w5 w6 => t_m_changesTo_20 b L xs d hd s.2 sx l0 l1 l2 l3 s.1 w5 w6 f_l0 hf ih) (fun s hf sx w5 w6 => t_m_changesTo_20 b L xs d hd s.2 sx l0 l1 l2 l3 s.1 w5 w6 f_l0 hf ?_) s_h  w5 w6
    intro s_q2_0 w4 w5 w6
    refine pw_t (pc := 136) d247_136 rfl rfl rfl rfl ?_
    refine pw_go (pc := 139) (t := 9) d247_139 (by decide) ?_
    obtain rfl := Option.some.inj hm
    exact hE s_q2_0  w4 w5 w6
noncomputable def m_changesTo (l0 : Nat) (l1 : Int32) (h : pm_H) : Option (Int32 × pm_H) := (m_orderOf l0 l1 (Int32.ofInt 1) h).bind fun q1 => (wh (fun s : (Int32 × pm_H) => m_changesTo_9 l0 l1 q1 s.1 s.2) ((Int32.ofInt 0), h)).bind fun q2 => (gA q2 l0 29 .int).bind fun y3 => if mi_in (((Int32.ofInt 5) * (q2.2.1 l0 23)) + q1) (mi_n y3) = true then some ((q2.2.1 y3 (((Int32.ofInt 5) * (q2.2.1 l0 23)) + q1).toNatClampNeg), q2) else none
theorem T_m_changesTo (b : Bool) (L : Nat) (xs : Nat → Int32) (d : Nat) (hd : 1 ≤ d) (h : pm_H) (s_h : h.1 = tb_SH) (l0 : Nat) (l1 : Int32) (f_l0 : mi_o l0 10 = true) {r : (Int32 × pm_H)} (hm : m_changesTo l0 l1 h = some r) : PC b L xs d 247 [(Value.ref l0), (Value.int l1)] h (fun (v0 : Option Value) (h2 : pm_H) => v0 = (some (Value.int r.1)) ∧ h2 = r.2 ∧ h2.1 = tb_SH) := by
  refine pc_in e247 (ls0 := [(Value.ref l0), (Value.int l1), Value.retAddr 0, Value.retAddr 0, Value.retAddr 0, Value.retAddr 0, Value.retAddr 0]) rfl ?_
  have key : ∀ (Q : Option Value → pm_H → Prop), (r.2.1 = tb_SH → Q (some (Value.int r.1)) r.2) → PW b L xs d 247 0 0 0 [(Value.ref l0), (Value.int l1), Value.retAddr 0, Value.retAddr 0, Value.retAddr 0, Value.retAddr 0, Value.retAddr 0] [] h Q := by
    intro Q hE
    rw [m_changesTo] at hm
    refine pw_l (pc := 0) d247_0 rfl rfl rfl ?_
    refine pw_l (pc := 1) d247_1 rfl rfl rfl ?_
    refine pw_s (pc := 2) d247_2 rfl rfl ?_
    obtain ⟨q1, e_q1, hm⟩ := ob_x hm
    refine pw_v (pc := 3) (k := l0) (by omega) d247_3 (k247_293 b) (by decide) m203 (by decide) rfl (sho s_h f_l0) (Nat.le_of_ble_eq_true rfl) (Nat.le_of_ble_eq_true rfl) rfl rfl (T_m_orderOf b L xs (d - 1) (by omega) h s_h l0 l1 (Int32.ofInt 1) f_l0 e_q1) (fun v0 h0 hq => ?_)
    obtain ⟨rfl, hh0, s_q1⟩ := hq
    rw [hh0] at s_q1 ⊢
    simp only [Option.toList_some, List.cons_append, List.nil_append]
    refine pw_t (pc := 6) d247_6 rfl rfl rfl rfl ?_
    refine pw_s (pc := 7) d247_7 rfl rfl ?_
    refine pw_t (pc := 8) d247_8 rfl rfl rfl rfl ?_
    obtain ⟨q2, e_q2, hm⟩ := ob_x hm
    refine wh_ind e_q2 (fun s : (Int32 × pm_H) => s.2.1 = tb_SH → ∀ w4 w5 w6 : Value, PW b L xs d 247 0 0 9 [(Value.ref l0), (Value.int l1), (Value.int q1), (Value.int s.1), w4, w5, w6] [] s.2 Q) (fun s s2 hf ih sx w4 w5 w6 => t_m_changesTo_9 b L xs d hd s.2 sx l0 l1 q1 s.1 w4 w5 w6 f_l0 hf ih) (fun s hf sx w4 w5 w6 => t_m_changesTo_9 b L xs d hd s.2 sx l0 l1 q1 s.1 w4 w5 w6 f_l0 hf ?_) s_h  (Value.retAddr 0) (Value.retAddr 0) (Value.retAddr 0)
    intro s_q2_0 w1 w3 w4 w5 w6
    refine pw_l (pc := 142) d247_142 rfl rfl rfl ?_
    obtain ⟨y3, e_y3, hm⟩ := ob_x hm
    have f_y3 := gA_x e_y3
    refine pw_gr (pc := 143) d247_143 (k247_57 b) (sho s_q2_0 f_l0) f10_29 f_y3.1 ?_
    refine pw_s (pc := 146) d247_146 rfl rfl ?_
    refine pw_l (pc := 147) d247_147 rfl rfl rfl ?_
    refine pw_gi (pc := 148) d247_148 (k247_299 b) (sho s_q2_0 f_l0) f10_23 ?_
    refine pw_s (pc := 151) d247_151 rfl rfl ?_
    refine pw_l (pc := 152) d247_152 rfl rfl rfl ?_
    refine pw_s (pc := 153) d247_153 rfl rfl ?_
    obtain ⟨g4, hm⟩ := gd_x hm
    refine pw_ai (pc := 154) d247_154 (sha s_q2_0 f_y3.2) (mi_in_x g4) ?_
    obtain rfl := Option.some.inj hm
    refine pw_ri (pc := 155) d247_155 t247 rfl ?_
    exact hE s_q2_0
  exact key _ (fun q => ⟨rfl, rfl, q⟩)
def E_m_nearest_102 (b : Bool) (L : Nat) (xs : Nat → Int32) (d : Nat) (Q : Option Value → pm_H → Prop) (l0 : Nat) (l3 : Int32) : ((Int32 × Int32 × Int32 × pm_H) ⊕ (Int32 × Int32 × pm_H)) → Prop
  | .inl s => s.2.2.2.1 = tb_SH → ∀ w1 w2 w7 : Value, PW b L xs d 248 0 0 102 [(Value.ref l0), w1, w2, (Value.int l3), (Value.int s.1), (Value.int s.2.1), (Value.int s.2.2.1), w7] [] s.2.2.2 Q
  | .inr e => e.2.2.1 = tb_SH → ∀ w0 w1 w2 w6 w7 : Value, PW b L xs d 248 0 0 150 [w0, w1, w2, (Value.int l3), (Value.int e.1), (Value.int e.2.1), w6, w7] [] e.2.2 Q
def E_m_nearest_29 (b : Bool) (L : Nat) (xs : Nat → Int32) (d : Nat) (Q : Option Value → pm_H → Prop) (l0 : Nat) (l1 : Int32) (l2 : Int32) (l3 : Int32) : ((Int32 × pm_H) ⊕ pm_H) → Prop
  | .inl s => s.2.1 = tb_SH → ∀ w5 w6 w7 : Value, PW b L xs d 248 0 0 29 [(Value.ref l0), (Value.int l1), (Value.int l2), (Value.int l3), (Value.int s.1), w5, w6, w7] [] s.2 Q
  | .inr e => e.1 = tb_SH → ∀ w1 w2 w4 w5 w6 w7 : Value, PW b L xs d 248 0 0 87 [(Value.ref l0), w1, w2, (Value.int l3), w4, w5, w6, w7] [] e Q
noncomputable def m_nearest_136 (l0 : Nat) (l3 : Int32) (l6 : Int32) (l7 : Int32) (h : pm_H) : Option ((Int32 × Int32 × Int32 × pm_H) ⊕ (Int32 × Int32 × pm_H)) := some (.inl (l6, l7, (l6 + Int32.ofInt 1), h))
theorem t_m_nearest_136 (b : Bool) (L : Nat) (xs : Nat → Int32) (d : Nat) (hd : 3 ≤ d) {Q : Option Value → pm_H → Prop} (h : pm_H) (s_h : h.1 = tb_SH) (l0 : Nat) (l3 : Int32) (l6 : Int32) (l7 : Int32) (w1 : Value) (w2 : Value) (w4 : Value) (w5 : Value) (f_l0 : mi_o l0 10 = true) {r : ((Int32 × Int32 × Int32 × pm_H) ⊕ (Int32 × Int32 × pm_H))} (hm : m_nearest_136 l0 l3 l6 l7 h = some r) (hE : E_m_nearest_102 b L xs d Q l0 l3 r) : PW b L xs d 248 0 0 136 [(Value.ref l0), w1, w2, (Value.int l3), w4, w5, (Value.int l6), (Value.int l7)] [] h Q := by
  rw [m_nearest_136] at hm
  refine pw_l (pc := 136) d248_136 rfl rfl rfl ?_
  refine pw_t (pc := 138) d248_138 rfl rfl rfl rfl ?_
  refine pw_l (pc := 140) d248_140 rfl rfl rfl ?_
  refine pw_t (pc := 142) d248_142 rfl rfl rfl rfl ?_
  refine pw_t (pc := 144) d248_144 rfl rfl rfl rfl ?_
  refine pw_go (pc := 147) (t := 102) d248_147 (by decide) ?_
  obtain rfl := Option.some.inj hm
  exact hE s_h  w1 w2 (Value.int l7)
noncomputable def m_nearest_102 (l0 : Nat) (l3 : Int32) (l4 : Int32) (l5 : Int32) (l6 : Int32) (h : pm_H) : Option ((Int32 × Int32 × Int32 × pm_H) ⊕ (Int32 × Int32 × pm_H)) := (gA h l0 20 .int).bind fun y1 => if mi_in (Int32.ofInt 2) (mi_n y1) = true then if (h.2.1 y1 (Int32.ofInt 2).toNatClampNeg) ≤ l6 then (some (.inr (l4, l5, h))) else ((m_changesTo l0 l6 h).bind fun q4 => if l4 < 0 then (m_nearest_136 l0 l3 l6 q4.1 q4.2) else (if q4.1 < l5 then (m_nearest_136 l0 l3 l6 q4.1 q4.2) else (some (.inl (l4, l5, (l6 + Int32.ofInt 1), q4.2))))) else none
theorem t_m_nearest_102 (b : Bool) (L : Nat) (xs : Nat → Int32) (d : Nat) (hd : 3 ≤ d) {Q : Option Value → pm_H → Prop} (h : pm_H) (s_h : h.1 = tb_SH) (l0 : Nat) (l3 : Int32) (l4 : Int32) (l5 : Int32) (l6 : Int32) (w1 : Value) (w2 : Value) (w7 : Value) (f_l0 : mi_o l0 10 = true) {r : ((Int32 × Int32 × Int32 × pm_H) ⊕ (Int32 × Int32 × pm_H))} (hm : m_nearest_102 l0 l3 l4 l5 l6 h = some r) (hE : E_m_nearest_102 b L xs d Q l0 l3 r) : PW b L xs d 248 0 0 102 [(Value.ref l0), w1, w2, (Value.int l3), (Value.int l4), (Value.int l5), (Value.int l6), w7] [] h Q := by
  rw [m_nearest_102] at hm
  refine pw_l (pc := 102) d248_102 rfl rfl rfl ?_
  refine pw_l (pc := 104) d248_104 rfl rfl rfl ?_
  obtain ⟨y1, e_y1, hm⟩ := ob_x hm
  have f_y1 := gA_x e_y1
  refine pw_gr (pc := 105) d248_105 (k248_39 b) (sho s_h f_l0) f10_20 f_y1.1 ?_
  refine pw_s (pc := 108) d248_108 rfl rfl ?_
  obtain ⟨g2, hm⟩ := gd_x hm
  refine pw_ai (pc := 109) d248_109 (sha s_h f_y1.2) (mi_in_x g2) ?_
  refine pw_ige (pc := 110) (t := 150) d248_110 (by decide) (fun c3 => ?_) (fun c3 => ?_)
  · rw [if_pos c3] at hm
    obtain rfl := Option.some.inj hm
    exact hE s_h  (Value.ref l0) w1 w2 (Value.int l6) w7
  · rw [if_neg c3] at hm
    refine pw_l (pc := 113) d248_113 rfl rfl rfl ?_
    refine pw_l (pc := 114) d248_114 rfl rfl rfl ?_
    obtain ⟨q4, e_q4, hm⟩ := ob_x hm
    refine pw_v (pc := 116) (k := l0) (by omega) d248_116 (k248_410 b) (by decide) m247 (by decide) rfl (sho s_h f_l0) (Nat.le_of_ble_eq_true rfl) (Nat.le_of_ble_eq_true rfl) rfl rfl (T_m_changesTo b L xs (d - 1) (by omega) h s_h l0 l6 f_l0 e_q4) (fun v0 h0 hq => ?_)
    obtain ⟨rfl, hh0, s_q4⟩ := hq
    rw [hh0] at s_q4 ⊢
    simp only [Option.toList_some, List.cons_append, List.nil_append]
    refine pw_t (pc := 119) d248_119 rfl rfl rfl rfl ?_
    refine pw_l (pc := 121) d248_121 rfl rfl rfl ?_
    refine pw_zlt (pc := 123) (t := 136) d248_123 (by decide) (fun c5 => ?_) (fun c5 => ?_)
    · rw [if_pos c5] at hm
      exact t_m_nearest_136 b L xs d hd q4.2 s_q4 l0 l3 l6 q4.1 w1 w2 (Value.int l4) (Value.int l5) f_l0  hm hE
    · rw [if_neg c5] at hm
      refine pw_l (pc := 126) d248_126 rfl rfl rfl ?_
      refine pw_l (pc := 128) d248_128 rfl rfl rfl ?_
      refine pw_ilt (pc := 130) (t := 136) d248_130 (by decide) (fun c6 => ?_) (fun c6 => ?_)
      · rw [if_pos c6] at hm
        exact t_m_nearest_136 b L xs d hd q4.2 s_q4 l0 l3 l6 q4.1 w1 w2 (Value.int l4) (Value.int l5) f_l0  hm hE
      · rw [if_neg c6] at hm
        refine pw_go (pc := 133) (t := 144) d248_133 (by decide) ?_
        refine pw_t (pc := 144) d248_144 rfl rfl rfl rfl ?_
        refine pw_go (pc := 147) (t := 102) d248_147 (by decide) ?_
        obtain rfl := Option.some.inj hm
        exact hE s_q4  w1 w2 (Value.int q4.1)
noncomputable def m_nearest_29 (l0 : Nat) (l1 : Int32) (l2 : Int32) (l3 : Int32) (l4 : Int32) (h : pm_H) : Option ((Int32 × pm_H) ⊕ pm_H) := if l2 ≤ l4 then (some (.inr h)) else ((m_digit l1 l2 l4 h).bind fun q2 => (m_isHeard l0 q2 h).bind fun q3 => if ¬ q3 = 0 then ((gA h l0 22 .int).bind fun y5 => (m_wordOfMan l0 q2 h).bind fun q6 => if mi_in (h.2.1 l0 23) (mi_n y5) = true then bd (pm_setI h y5 (h.2.1 l0 23).toNatClampNeg q6) fun h8 => bd (pm_setI h8 l0 23 ((h8.2.1 l0 23) + (Int32.ofInt 1))) fun h9 => some (.inl ((l4 + Int32.ofInt 1), h9)) else none) else (some (.inl ((l4 + Int32.ofInt 1), h))))
theorem t_m_nearest_29 (b : Bool) (L : Nat) (xs : Nat → Int32) (d : Nat) (hd : 3 ≤ d) {Q : Option Value → pm_H → Prop} (h : pm_H) (s_h : h.1 = tb_SH) (l0 : Nat) (l1 : Int32) (l2 : Int32) (l3 : Int32) (l4 : Int32) (w5 : Value) (w6 : Value) (w7 : Value) (f_l0 : mi_o l0 10 = true) {r : ((Int32 × pm_H) ⊕ pm_H)} (hm : m_nearest_29 l0 l1 l2 l3 l4 h = some r) (hE : E_m_nearest_29 b L xs d Q l0 l1 l2 l3 r) : PW b L xs d 248 0 0 29 [(Value.ref l0), (Value.int l1), (Value.int l2), (Value.int l3), (Value.int l4), w5, w6, w7] [] h Q := by
  rw [m_nearest_29] at hm
  refine pw_l (pc := 29) d248_29 rfl rfl rfl ?_
  refine pw_l (pc := 31) d248_31 rfl rfl rfl ?_
  refine pw_ige (pc := 32) (t := 87) d248_32 (by decide) (fun c1 => ?_) (fun c1 => ?_)
  · rw [if_pos c1] at hm
    obtain rfl := Option.some.inj hm
    exact hE s_h  (Value.int l1) (Value.int l2) (Value.int l4) w5 w6 w7
  · rw [if_neg c1] at hm
    refine pw_l (pc := 35) d248_35 rfl rfl rfl ?_
    refine pw_l (pc := 36) d248_36 rfl rfl rfl ?_
    refine pw_l (pc := 37) d248_37 rfl rfl rfl ?_
    obtain ⟨q2, e_q2, hm⟩ := ob_x hm
    refine pw_u (pc := 39) (by omega) d248_39 (k248_311 b) (by decide) m211 (Nat.le_of_ble_eq_true rfl) (Nat.le_of_ble_eq_true rfl) (Nat.le_of_ble_eq_true rfl) rfl rfl (T_m_digit b L xs (d - 1) (by omega) h s_h l1 l2 l4  e_q2) (fun v0 h0 hq => ?_)
    obtain ⟨rfl, hh0, s_q2⟩ := hq
    rw [hh0] at s_q2 ⊢
    simp only [Option.toList_some, List.cons_append, List.nil_append]
    refine pw_t (pc := 42) d248_42 rfl rfl rfl rfl ?_
    refine pw_l (pc := 44) d248_44 rfl rfl rfl ?_
    refine pw_l (pc := 45) d248_45 rfl rfl rfl ?_
    obtain ⟨q3, e_q3, hm⟩ := ob_x hm
    refine pw_v (pc := 47) (k := l0) (by omega) d248_47 (k248_283 b) (by decide) m199 (by decide) rfl (sho s_h f_l0) (Nat.le_of_ble_eq_true rfl) (Nat.le_of_ble_eq_true rfl) rfl rfl (T_m_isHeard b L xs (d - 1) (by omega) h s_h l0 q2 f_l0 e_q3) (fun v0 h0 hq => ?_)
    obtain ⟨rfl, hh0, s_q3⟩ := hq
    rw [hh0] at s_q3 ⊢
    simp only [Option.toList_some, List.cons_append, List.nil_append]
    refine pw_zne (pc := 50) (t := 56) d248_50 (by decide) (fun c4 => ?_) (fun c4 => ?_)
    · rw [if_pos c4] at hm
      refine pw_l (pc := 56) d248_56 rfl rfl rfl ?_
      obtain ⟨y5, e_y5, hm⟩ := ob_x hm
      have f_y5 := gA_x e_y5
      refine pw_gr (pc := 57) d248_57 (k248_42 b) (sho s_h f_l0) f10_22 f_y5.1 ?_
      refine pw_l (pc := 60) d248_60 rfl rfl rfl ?_
      refine pw_gi (pc := 61) d248_61 (k248_299 b) (sho s_h f_l0) f10_23 ?_
      refine pw_l (pc := 64) d248_64 rfl rfl rfl ?_
      refine pw_l (pc := 65) d248_65 rfl rfl rfl ?_
      obtain ⟨q6, e_q6, hm⟩ := ob_x hm
      refine pw_v (pc := 67) (k := l0) (by omega) d248_67 (k248_321 b) (by decide) m213 (by decide) rfl (sho s_h f_l0) (Nat.le_of_ble_eq_true rfl) (Nat.le_of_ble_eq_true rfl) rfl rfl (T_m_wordOfMan b L xs (d - 1) (by omega) h s_h l0 q2 f_l0 e_q6) (fun v0 h0 hq => ?_)
      obtain ⟨rfl, hh0, s_q6⟩ := hq
      rw [hh0] at s_q6 ⊢
      simp only [Option.toList_some, List.cons_append, List.nil_append]
      obtain ⟨g7, hm⟩ := gd_x hm
      refine pw_si (pc := 70) d248_70 (sha s_h f_y5.2) (mi_in_x g7) ?_
      obtain ⟨h8, e_h8, hm⟩ := bd_x hm
      rw [e_h8]
      have s_h8 : h8.1 = tb_SH := by rw [← e_h8]; exact s_h
      refine pw_l (pc := 71) d248_71 rfl rfl rfl ?_
      refine pw_s (pc := 72) d248_72 rfl rfl ?_
      refine pw_gi (pc := 73) d248_73 (k248_299 b) (sho s_h8 f_l0) f10_23 ?_
      refine pw_s (pc := 76) d248_76 rfl rfl ?_
      refine pw_s (pc := 77) d248_77 rfl rfl ?_
      refine pw_pi (pc := 78) d248_78 (k248_299 b) (sho s_h8 f_l0) p248_10_23 ?_
      obtain ⟨h9, e_h9, hm⟩ := bd_x hm
      rw [e_h9]
      have s_h9 : h9.1 = tb_SH := by rw [← e_h9]; exact s_h8
      refine pw_t (pc := 81) d248_81 rfl rfl rfl rfl ?_
      refine pw_go (pc := 84) (t := 29) d248_84 (by decide) ?_
      obtain rfl := Option.some.inj hm
      exact hE s_h9  (Value.int q2) w6 w7
    · rw [if_neg c4] at hm
      refine pw_go (pc := 53) (t := 81) d248_53 (by decide) ?_
      refine pw_t (pc := 81) d248_81 rfl rfl rfl rfl ?_
      refine pw_go (pc := 84) (t := 29) d248_84 (by decide) ?_
      obtain rfl := Option.some.inj hm
      exact hE s_h  (Value.int q2) w6 w7
noncomputable def m_nearest (l0 : Nat) (l1 : Int32) (l2 : Int32) (l3 : Int32) (h : pm_H) : Option (Int32 × pm_H) := (m_areMen l0 l1 l2 h).bind fun q1 => if q1 = 0 then (some ((Int32.ofInt (-1)), h)) else ((m_in l3.toInt64 (Int64.ofNat 0) (Int64.ofNat 1) h).bind fun q3 => if ¬ q3 = 0 then (bd (pm_setI h l0 23 (Int32.ofInt 0)) fun h5 => (wh (fun s : (Int32 × pm_H) => m_nearest_29 l0 l1 l2 l3 s.1 s.2) ((Int32.ofInt 0), h5)).bind fun q6 => (m_becomesMeaning l0 q6).bind fun q7 => (wh (fun s : (Int32 × Int32 × Int32 × pm_H) => m_nearest_102 l0 l3 s.1 s.2.1 s.2.2.1 s.2.2.2) ((Int8.ofInt (-2)).toInt32, (Int8.ofInt (-2)).toInt32, (Int32.ofInt 0), q7)).bind fun q8 => if ¬ l3 = 0 then (some (q8.2.1, q8.2.2)) else (some (q8.1, q8.2.2))) else (some ((Int32.ofInt (-1)), h)))
theorem T_m_nearest (b : Bool) (L : Nat) (xs : Nat → Int32) (d : Nat) (hd : 3 ≤ d) (h : pm_H) (s_h : h.1 = tb_SH) (l0 : Nat) (l1 : Int32) (l2 : Int32) (l3 : Int32) (f_l0 : mi_o l0 10 = true) {r : (Int32 × pm_H)} (hm : m_nearest l0 l1 l2 l3 h = some r) : PC b L xs d 248 [(Value.ref l0), (Value.int l1), (Value.int l2), (Value.int l3)] h (fun (v0 : Option Value) (h2 : pm_H) => v0 = (some (Value.int r.1)) ∧ h2 = r.2 ∧ h2.1 = tb_SH) := by
  refine pc_in e248 (ls0 := [(Value.ref l0), (Value.int l1), (Value.int l2), (Value.int l3), Value.retAddr 0, Value.retAddr 0, Value.retAddr 0, Value.retAddr 0]) rfl ?_
  have key : ∀ (Q : Option Value → pm_H → Prop), (r.2.1 = tb_SH → Q (some (Value.int r.1)) r.2) → PW b L xs d 248 0 0 0 [(Value.ref l0), (Value.int l1), (Value.int l2), (Value.int l3), Value.retAddr 0, Value.retAddr 0, Value.retAddr 0, Value.retAddr 0] [] h Q := by
    intro Q hE
    rw [m_nearest] at hm
    refine pw_l (pc := 0) d248_0 rfl rfl rfl ?_
    refine pw_l (pc := 1) d248_1 rfl rfl rfl ?_
    refine pw_l (pc := 2) d248_2 rfl rfl rfl ?_
    obtain ⟨q1, e_q1, hm⟩ := ob_x hm
    refine pw_v (pc := 3) (k := l0) (by omega) d248_3 (k248_345 b) (by decide) m214 (by decide) rfl (sho s_h f_l0) (Nat.le_of_ble_eq_true rfl) (Nat.le_of_ble_eq_true rfl) rfl rfl (T_m_areMen b L xs (d - 1) (by omega) h s_h l0 l1 l2 f_l0 e_q1) (fun v0 h0 hq => ?_)
    obtain ⟨rfl, hh0, s_q1⟩ := hq
    rw [hh0] at s_q1 ⊢
    simp only [Option.toList_some, List.cons_append, List.nil_append]
    refine pw_zeq (pc := 6) (t := 19) d248_6 (by decide) (fun c2 => ?_) (fun c2 => ?_)
    · rw [if_pos c2] at hm
      refine pw_s (pc := 19) d248_19 rfl rfl ?_
      obtain rfl := Option.some.inj hm
      refine pw_ri (pc := 20) d248_20 t248 rfl ?_
      exact hE s_h
    · rw [if_neg c2] at hm
      refine pw_l (pc := 9) d248_9 rfl rfl rfl ?_
      refine pw_s (pc := 10) d248_10 rfl rfl ?_
      refine pw_s (pc := 11) d248_11 rfl rfl ?_
      refine pw_s (pc := 12) d248_12 rfl rfl ?_
      obtain ⟨q3, e_q3, hm⟩ := ob_x hm
      refine pw_u (pc := 13) (by omega) d248_13 (k248_112 b) (by decide) m148 (Nat.le_of_ble_eq_true rfl) (Nat.le_of_ble_eq_true rfl) (Nat.le_of_ble_eq_true rfl) rfl rfl (T_m_in b L xs (d - 1) (by omega) h s_h l3.toInt64 (Int64.ofNat 0) (Int64.ofNat 1)  e_q3) (fun v0 h0 hq => ?_)
      obtain ⟨rfl, hh0, s_q3⟩ := hq
      rw [hh0] at s_q3 ⊢
      simp only [Option.toList_some, List.cons_append, List.nil_append]
      refine pw_zne (pc := 16) (t := 21) d248_16 (by decide) (fun c4 => ?_) (fun c4 => ?_)
      · rw [if_pos c4] at hm
        refine pw_l (pc := 21) d248_21 rfl rfl rfl ?_
        refine pw_s (pc := 22) d248_22 rfl rfl ?_
        refine pw_pi (pc := 23) d248_23 (k248_299 b) (sho s_h f_l0) p248_10_23 ?_
        obtain ⟨h5, e_h5, hm⟩ := bd_x hm
        rw [e_h5]
        have s_h5 : h5.1 = tb_SH := by rw [← e_h5]; exact s_h
        refine pw_s (pc := 26) d248_26 rfl rfl ?_
        refine pw_t (pc := 27) d248_27 rfl rfl rfl rfl ?_
        obtain ⟨q6, e_q6, hm⟩ := ob_x hm
        refine wh_ind e_q6 (fun s : (Int32 × pm_H) => s.2.1 = tb_SH → ∀ w5 w6 w7 : Value, PW b L xs d 248 0 0 29 [(Value.ref l0), (Value.int l1), (Value.int l2), (Value.int l3), (Value.int s.1), w5, w6, w7] [] s.2 Q) (fun s s2 hf ih sx w5 w6 w7 => t_m_nearest_29 b L xs d hd s.2 sx l0 l1 l2 l3 s.1 w5 w6 w7 f_l0 hf ih) (fun s hf sx w5 w6 w7 => t_m_nearest_29 b L xs d hd s.2 sx l0 l1 l2 l3 s.1 w5 w6 w7 f_l0 hf ?_) s_h5  (Value.retAddr 0) (Value.retAddr 0) (Value.retAddr 0)
        intro s_q6_0 w1 w2 w4 w5 w6 w7
        refine pw_l (pc := 87) d248_87 rfl rfl rfl ?_
        obtain ⟨q7, e_q7, hm⟩ := ob_x hm
        refine pw_v (pc := 88) (k := l0) (by omega) d248_88 (k248_315 b) (by decide) m207 (by decide) rfl (sho s_q6_0 f_l0) (Nat.le_of_ble_eq_true rfl) (Nat.le_of_ble_eq_true rfl) rfl rfl (T_m_becomesMeaning b L xs (d - 1) (by omega) q6 s_q6_0 l0 f_l0 e_q7) (fun v0 h0 hq => ?_)
        obtain ⟨rfl, hh0, s_q7⟩ := hq
        rw [hh0] at s_q7 ⊢
        simp only [Option.toList_none, List.nil_append]
        refine pw_s (pc := 91) d248_91 rfl rfl ?_
        refine pw_t (pc := 93) d248_93 rfl rfl rfl rfl ?_
        refine pw_s (pc := 95) d248_95 rfl rfl ?_
        refine pw_t (pc := 97) d248_97 rfl rfl rfl rfl ?_
        refine pw_s (pc := 99) d248_99 rfl rfl ?_
        refine pw_t (pc := 100) d248_100 rfl rfl rfl rfl ?_
        obtain ⟨q8, e_q8, hm⟩ := ob_x hm
        refine wh_ind e_q8 (fun s : (Int32 × Int32 × Int32 × pm_H) => s.2.2.2.1 = tb_SH → ∀ w1 w2 w7 : Value, PW b L xs d 248 0 0 102 [(Value.ref l0), w1, w2, (Value.int l3), (Value.int s.1), (Value.int s.2.1), (Value.int s.2.2.1), w7] [] s.2.2.2 Q) (fun s s2 hf ih sx w1 w2 w7 => t_m_nearest_102 b L xs d hd s.2.2.2 sx l0 l3 s.1 s.2.1 s.2.2.1 w1 w2 w7 f_l0 hf ih) (fun s hf sx w1 w2 w7 => t_m_nearest_102 b L xs d hd s.2.2.2 sx l0 l3 s.1 s.2.1 s.2.2.1 w1 w2 w7 f_l0 hf ?_) s_q7  w1 w2 w7
        intro s_q8_0 w0 w1 w2 w6 w7
        refine pw_l (pc := 150) d248_150 rfl rfl rfl ?_
        refine pw_zne (pc := 151) (t := 159) d248_151 (by decide) (fun c9 => ?_) (fun c9 => ?_)
        · rw [if_pos c9] at hm
          refine pw_l (pc := 159) d248_159 rfl rfl rfl ?_
          obtain rfl := Option.some.inj hm
          refine pw_ri (pc := 161) d248_161 t248 rfl ?_
          exact hE s_q8_0
        · rw [if_neg c9] at hm
          refine pw_l (pc := 154) d248_154 rfl rfl rfl ?_
          refine pw_go (pc := 156) (t := 161) d248_156 (by decide) ?_
          obtain rfl := Option.some.inj hm
          refine pw_ri (pc := 161) d248_161 t248 rfl ?_
          exact hE s_q8_0
      · rw [if_neg c4] at hm
        refine pw_s (pc := 19) d248_19 rfl rfl ?_
        obtain rfl := Option.some.inj hm
        refine pw_ri (pc := 20) d248_20 t248 rfl ?_
        exact hE s_h
  exact key _ (fun q => ⟨rfl, rfl, q⟩)
noncomputable def m_done_89 (l0 : Nat) (z0 : Int32) (z1 : Int32) (z2 : Nat) (h : pm_H) : Option (Int32 × pm_H) := if mi_in z1 (mi_n z2) = true then bd (pm_setI h z2 z1.toNatClampNeg z0) fun h2 => (gA h2 l0 20 .int).bind fun y3 => if mi_in ((Int16.ofInt 226).toInt32) (mi_n y3) = true then if mi_in ((Int16.ofInt 226).toInt32) (mi_n y3) = true then bd (pm_setI h2 y3 ((Int16.ofInt 226).toInt32).toNatClampNeg ((h2.2.1 y3 ((Int16.ofInt 226).toInt32).toNatClampNeg) + (Int32.ofInt 1))) fun h6 => (gA h6 l0 20 .int).bind fun y7 => if mi_in ((Int16.ofInt 226).toInt32) (mi_n y7) = true then some ((h6.2.1 y7 ((Int16.ofInt 226).toInt32).toNatClampNeg), h6) else none else none else none else none
theorem t_m_done_89 (b : Bool) (L : Nat) (xs : Nat → Int32) (d : Nat) (hd : 1 ≤ d) {Q : Option Value → pm_H → Prop} (h : pm_H) (s_h : h.1 = tb_SH) (l0 : Nat) (z0 : Int32) (z1 : Int32) (z2 : Nat) (w1 : Value) (w2 : Value) (f_l0 : mi_o l0 10 = true) (f_z2 : mi_a z2 .int = true) {r : (Int32 × pm_H)} (hm : m_done_89 l0 z0 z1 z2 h = some r) (hE : r.2.1 = tb_SH → Q (some (Value.int r.1)) r.2) : PW b L xs d 249 0 0 89 [(Value.ref l0), w1, w2] [(Value.int z0), (Value.int z1), (Value.ref z2)] h Q := by
  rw [m_done_89] at hm
  obtain ⟨g1, hm⟩ := gd_x hm
  refine pw_si (pc := 89) d249_89 (sha s_h f_z2) (mi_in_x g1) ?_
  obtain ⟨h2, e_h2, hm⟩ := bd_x hm
  rw [e_h2]
  have s_h2 : h2.1 = tb_SH := by rw [← e_h2]; exact s_h
  refine pw_l (pc := 90) d249_90 rfl rfl rfl ?_
  obtain ⟨y3, e_y3, hm⟩ := ob_x hm
  have f_y3 := gA_x e_y3
  refine pw_gr (pc := 91) d249_91 (k249_39 b) (sho s_h2 f_l0) f10_20 f_y3.1 ?_
  refine pw_s (pc := 94) d249_94 rfl rfl ?_
  refine pw_s (pc := 97) d249_97 rfl rfl ?_
  obtain ⟨g4, hm⟩ := gd_x hm
  refine pw_ai (pc := 98) d249_98 (sha s_h2 f_y3.2) (mi_in_x g4) ?_
  refine pw_s (pc := 99) d249_99 rfl rfl ?_
  refine pw_s (pc := 100) d249_100 rfl rfl ?_
  obtain ⟨g5, hm⟩ := gd_x hm
  refine pw_si (pc := 101) d249_101 (sha s_h2 f_y3.2) (mi_in_x g5) ?_
  obtain ⟨h6, e_h6, hm⟩ := bd_x hm
  rw [e_h6]
  have s_h6 : h6.1 = tb_SH := by rw [← e_h6]; exact s_h2
  refine pw_l (pc := 102) d249_102 rfl rfl rfl ?_
  obtain ⟨y7, e_y7, hm⟩ := ob_x hm
  have f_y7 := gA_x e_y7
  refine pw_gr (pc := 103) d249_103 (k249_39 b) (sho s_h6 f_l0) f10_20 f_y7.1 ?_
  refine pw_s (pc := 106) d249_106 rfl rfl ?_
  obtain ⟨g8, hm⟩ := gd_x hm
  refine pw_ai (pc := 109) d249_109 (sha s_h6 f_y7.2) (mi_in_x g8) ?_
  obtain rfl := Option.some.inj hm
  refine pw_ri (pc := 110) d249_110 t249 rfl ?_
  exact hE s_h6
noncomputable def m_done (l0 : Nat) (l1 : Int32) (l2 : Int32) (h : pm_H) : Option (Int32 × pm_H) := if ¬ l1 = (Int32.ofInt (-1)) then ((m_isOrder l0 l1 h).bind fun q2 => if q2 = 0 then (some ((Int8.ofInt (-2)).toInt32, h)) else ((gA h l0 20 .int).bind fun y4 => if mi_in ((Int16.ofInt 226).toInt32) (mi_n y4) = true then if ¬ (h.2.1 y4 ((Int16.ofInt 226).toInt32).toNatClampNeg) = (Int8.ofInt 10).toInt32 then ((gA h l0 20 .int).bind fun y7 => (gA h l0 20 .int).bind fun y8 => if mi_in ((Int16.ofInt 226).toInt32) (mi_n y8) = true then if mi_in ((Int16.ofInt 206).toInt32 + ((Int32.ofInt 2) * (h.2.1 y8 ((Int16.ofInt 226).toInt32).toNatClampNeg))) (mi_n y7) = true then bd (pm_setI h y7 ((Int16.ofInt 206).toInt32 + ((Int32.ofInt 2) * (h.2.1 y8 ((Int16.ofInt 226).toInt32).toNatClampNeg))).toNatClampNeg l1) fun h11 => (gA h11 l0 20 .int).bind fun y12 => (gA h11 l0 20 .int).bind fun y13 => if mi_in ((Int16.ofInt 226).toInt32) (mi_n y13) = true then if l2 = 0 then (m_done_89 l0 (Int32.ofInt 0) (((Int16.ofInt 206).toInt32 + ((Int32.ofInt 2) * (h11.2.1 y13 ((Int16.ofInt 226).toInt32).toNatClampNeg))) + (Int32.ofInt 1)) y12 h11) else (m_done_89 l0 (Int32.ofInt 1) (((Int16.ofInt 206).toInt32 + ((Int32.ofInt 2) * (h11.2.1 y13 ((Int16.ofInt 226).toInt32).toNatClampNeg))) + (Int32.ofInt 1)) y12 h11) else none else none else none) else (some ((Int8.ofInt (-2)).toInt32, h)) else none)) else ((gA h l0 20 .int).bind fun y16 => if mi_in ((Int16.ofInt 226).toInt32) (mi_n y16) = true then bd (pm_setI h y16 ((Int16.ofInt 226).toInt32).toNatClampNeg (Int32.ofInt 0)) fun h18 => some ((Int32.ofInt 0), h18) else none)
theorem T_m_done (b : Bool) (L : Nat) (xs : Nat → Int32) (d : Nat) (hd : 1 ≤ d) (h : pm_H) (s_h : h.1 = tb_SH) (l0 : Nat) (l1 : Int32) (l2 : Int32) (f_l0 : mi_o l0 10 = true) {r : (Int32 × pm_H)} (hm : m_done l0 l1 l2 h = some r) : PC b L xs d 249 [(Value.ref l0), (Value.int l1), (Value.int l2)] h (fun (v0 : Option Value) (h2 : pm_H) => v0 = (some (Value.int r.1)) ∧ h2 = r.2 ∧ h2.1 = tb_SH) := by
  refine pc_in e249 (ls0 := [(Value.ref l0), (Value.int l1), (Value.int l2)]) rfl ?_
  have key : ∀ (Q : Option Value → pm_H → Prop), (r.2.1 = tb_SH → Q (some (Value.int r.1)) r.2) → PW b L xs d 249 0 0 0 [(Value.ref l0), (Value.int l1), (Value.int l2)] [] h Q := by
    intro Q hE
    rw [m_done] at hm
    refine pw_l (pc := 0) d249_0 rfl rfl rfl ?_
    refine pw_s (pc := 1) d249_1 rfl rfl ?_
    refine pw_ine (pc := 2) (t := 16) d249_2 (by decide) (fun c1 => ?_) (fun c1 => ?_)
    · rw [if_pos c1] at hm
      refine pw_l (pc := 16) d249_16 rfl rfl rfl ?_
      refine pw_l (pc := 17) d249_17 rfl rfl rfl ?_
      obtain ⟨q2, e_q2, hm⟩ := ob_x hm
      refine pw_v (pc := 18) (k := l0) (by omega) d249_18 (k249_288 b) (by decide) m194 (by decide) rfl (sho s_h f_l0) (Nat.le_of_ble_eq_true rfl) (Nat.le_of_ble_eq_true rfl) rfl rfl (T_m_isOrder b L xs (d - 1) (by omega) h s_h l0 l1 f_l0 e_q2) (fun v0 h0 hq => ?_)
      obtain ⟨rfl, hh0, s_q2⟩ := hq
      rw [hh0] at s_q2 ⊢
      simp only [Option.toList_some, List.cons_append, List.nil_append]
      refine pw_zeq (pc := 21) (t := 37) d249_21 (by decide) (fun c3 => ?_) (fun c3 => ?_)
      · rw [if_pos c3] at hm
        refine pw_s (pc := 37) d249_37 rfl rfl ?_
        obtain rfl := Option.some.inj hm
        refine pw_ri (pc := 39) d249_39 t249 rfl ?_
        exact hE s_h
      · rw [if_neg c3] at hm
        refine pw_l (pc := 24) d249_24 rfl rfl rfl ?_
        obtain ⟨y4, e_y4, hm⟩ := ob_x hm
        have f_y4 := gA_x e_y4
        refine pw_gr (pc := 25) d249_25 (k249_39 b) (sho s_h f_l0) f10_20 f_y4.1 ?_
        refine pw_s (pc := 28) d249_28 rfl rfl ?_
        obtain ⟨g5, hm⟩ := gd_x hm
        refine pw_ai (pc := 31) d249_31 (sha s_h f_y4.2) (mi_in_x g5) ?_
        refine pw_s (pc := 32) d249_32 rfl rfl ?_
        refine pw_ine (pc := 34) (t := 40) d249_34 (by decide) (fun c6 => ?_) (fun c6 => ?_)
        · rw [if_pos c6] at hm
          refine pw_l (pc := 40) d249_40 rfl rfl rfl ?_
          obtain ⟨y7, e_y7, hm⟩ := ob_x hm
          have f_y7 := gA_x e_y7
          refine pw_gr (pc := 41) d249_41 (k249_39 b) (sho s_h f_l0) f10_20 f_y7.1 ?_
          refine pw_s (pc := 44) d249_44 rfl rfl ?_
          refine pw_s (pc := 47) d249_47 rfl rfl ?_
          refine pw_l (pc := 48) d249_48 rfl rfl rfl ?_
          obtain ⟨y8, e_y8, hm⟩ := ob_x hm
          have f_y8 := gA_x e_y8
          refine pw_gr (pc := 49) d249_49 (k249_39 b) (sho s_h f_l0) f10_20 f_y8.1 ?_
          refine pw_s (pc := 52) d249_52 rfl rfl ?_
          obtain ⟨g9, hm⟩ := gd_x hm
          refine pw_ai (pc := 55) d249_55 (sha s_h f_y8.2) (mi_in_x g9) ?_
          refine pw_s (pc := 56) d249_56 rfl rfl ?_
          refine pw_s (pc := 57) d249_57 rfl rfl ?_
          refine pw_l (pc := 58) d249_58 rfl rfl rfl ?_
          obtain ⟨g10, hm⟩ := gd_x hm
          refine pw_si (pc := 59) d249_59 (sha s_h f_y7.2) (mi_in_x g10) ?_
          obtain ⟨h11, e_h11, hm⟩ := bd_x hm
          rw [e_h11]
          have s_h11 : h11.1 = tb_SH := by rw [← e_h11]; exact s_h
          refine pw_l (pc := 60) d249_60 rfl rfl rfl ?_
          obtain ⟨y12, e_y12, hm⟩ := ob_x hm
          have f_y12 := gA_x e_y12
          refine pw_gr (pc := 61) d249_61 (k249_39 b) (sho s_h11 f_l0) f10_20 f_y12.1 ?_
          refine pw_s (pc := 64) d249_64 rfl rfl ?_
          refine pw_s (pc := 67) d249_67 rfl rfl ?_
          refine pw_l (pc := 68) d249_68 rfl rfl rfl ?_
          obtain ⟨y13, e_y13, hm⟩ := ob_x hm
          have f_y13 := gA_x e_y13
          refine pw_gr (pc := 69) d249_69 (k249_39 b) (sho s_h11 f_l0) f10_20 f_y13.1 ?_
          refine pw_s (pc := 72) d249_72 rfl rfl ?_
          obtain ⟨g14, hm⟩ := gd_x hm
          refine pw_ai (pc := 75) d249_75 (sha s_h11 f_y13.2) (mi_in_x g14) ?_
          refine pw_s (pc := 76) d249_76 rfl rfl ?_
          refine pw_s (pc := 77) d249_77 rfl rfl ?_
          refine pw_s (pc := 78) d249_78 rfl rfl ?_
          refine pw_s (pc := 79) d249_79 rfl rfl ?_
          refine pw_l (pc := 80) d249_80 rfl rfl rfl ?_
          refine pw_zeq (pc := 81) (t := 88) d249_81 (by decide) (fun c15 => ?_) (fun c15 => ?_)
          · rw [if_pos c15] at hm
            refine pw_s (pc := 88) d249_88 rfl rfl ?_
            exact t_m_done_89 b L xs d hd h11 s_h11 l0 (Int32.ofInt 0) (((Int16.ofInt 206).toInt32 + ((Int32.ofInt 2) * (h11.2.1 y13 ((Int16.ofInt 226).toInt32).toNatClampNeg))) + (Int32.ofInt 1)) y12 (Value.int l1) (Value.int l2) f_l0 f_y12.2 hm hE
          · rw [if_neg c15] at hm
            refine pw_s (pc := 84) d249_84 rfl rfl ?_
            refine pw_go (pc := 85) (t := 89) d249_85 (by decide) ?_
            exact t_m_done_89 b L xs d hd h11 s_h11 l0 (Int32.ofInt 1) (((Int16.ofInt 206).toInt32 + ((Int32.ofInt 2) * (h11.2.1 y13 ((Int16.ofInt 226).toInt32).toNatClampNeg))) + (Int32.ofInt 1)) y12 (Value.int l1) (Value.int l2) f_l0 f_y12.2 hm hE
        · rw [if_neg c6] at hm
          refine pw_s (pc := 37) d249_37 rfl rfl ?_
          obtain rfl := Option.some.inj hm
          refine pw_ri (pc := 39) d249_39 t249 rfl ?_
          exact hE s_h
    · rw [if_neg c1] at hm
      refine pw_l (pc := 5) d249_5 rfl rfl rfl ?_
      obtain ⟨y16, e_y16, hm⟩ := ob_x hm
      have f_y16 := gA_x e_y16
      refine pw_gr (pc := 6) d249_6 (k249_39 b) (sho s_h f_l0) f10_20 f_y16.1 ?_
      refine pw_s (pc := 9) d249_9 rfl rfl ?_
      refine pw_s (pc := 12) d249_12 rfl rfl ?_
      obtain ⟨g17, hm⟩ := gd_x hm
      refine pw_si (pc := 13) d249_13 (sha s_h f_y16.2) (mi_in_x g17) ?_
      obtain ⟨h18, e_h18, hm⟩ := bd_x hm
      rw [e_h18]
      have s_h18 : h18.1 = tb_SH := by rw [← e_h18]; exact s_h
      refine pw_s (pc := 14) d249_14 rfl rfl ?_
      obtain rfl := Option.some.inj hm
      refine pw_ri (pc := 15) d249_15 t249 rfl ?_
      exact hE s_h18
  exact key _ (fun q => ⟨rfl, rfl, q⟩)
def E_m_isDoneSo_2 (b : Bool) (L : Nat) (xs : Nat → Int32) (d : Nat) (Q : Option Value → pm_H → Prop) (h : pm_H) (l0 : Nat) (l1 : Int32) : (Int32 ⊕ Unit ⊕ Unit) → Prop
  | .inl s => PW b L xs d 250 0 0 2 [(Value.ref l0), (Value.int l1), (Value.int s)] [] h Q
  | .inr (.inl e) => ∀ w0 w1 w2 : Value, PW b L xs d 250 0 0 52 [w0, w1, w2] [] h Q
  | .inr (.inr e) => ∀ w0 w1 w2 : Value, PW b L xs d 250 0 0 60 [w0, w1, w2] [] h Q
noncomputable def m_isDoneSo_2 (l0 : Nat) (l1 : Int32) (l2 : Int32) (h : pm_H) : Option (Int32 ⊕ Unit ⊕ Unit) := (gA h l0 20 .int).bind fun y1 => if mi_in ((Int16.ofInt 226).toInt32) (mi_n y1) = true then if (h.2.1 y1 ((Int16.ofInt 226).toInt32).toNatClampNeg) ≤ l2 then (some (.inr (.inr ()))) else ((gA h l0 26 .int).bind fun y4 => if mi_in l1 (mi_n y4) = true then (gA h l0 20 .int).bind fun y6 => if mi_in ((Int16.ofInt 206).toInt32 + ((Int32.ofInt 2) * l2)) (mi_n y6) = true then (gA h l0 20 .int).bind fun y8 => if mi_in (((Int16.ofInt 206).toInt32 + ((Int32.ofInt 2) * l2)) + (Int32.ofInt 1)) (mi_n y8) = true then if (((h.2.1 y4 l1.toNatClampNeg) >>> ((h.2.1 y6 ((Int16.ofInt 206).toInt32 + ((Int32.ofInt 2) * l2)).toNatClampNeg) &&& 31)) &&& (Int32.ofInt 1)) = (h.2.1 y8 (((Int16.ofInt 206).toInt32 + ((Int32.ofInt 2) * l2)) + (Int32.ofInt 1)).toNatClampNeg) then (some (.inl (l2 + Int32.ofInt 1))) else (some (.inr (.inl ()))) else none else none else none) else none
theorem t_m_isDoneSo_2 (b : Bool) (L : Nat) (xs : Nat → Int32) (d : Nat) (hd : 0 ≤ d) {Q : Option Value → pm_H → Prop} (h : pm_H) (s_h : h.1 = tb_SH) (l0 : Nat) (l1 : Int32) (l2 : Int32) (f_l0 : mi_o l0 10 = true) {r : (Int32 ⊕ Unit ⊕ Unit)} (hm : m_isDoneSo_2 l0 l1 l2 h = some r) (hE : E_m_isDoneSo_2 b L xs d Q h l0 l1 r) : PW b L xs d 250 0 0 2 [(Value.ref l0), (Value.int l1), (Value.int l2)] [] h Q := by
  rw [m_isDoneSo_2] at hm
  refine pw_l (pc := 2) d250_2 rfl rfl rfl ?_
  refine pw_l (pc := 3) d250_3 rfl rfl rfl ?_
  obtain ⟨y1, e_y1, hm⟩ := ob_x hm
  have f_y1 := gA_x e_y1
  refine pw_gr (pc := 4) d250_4 (k250_39 b) (sho s_h f_l0) f10_20 f_y1.1 ?_
  refine pw_s (pc := 7) d250_7 rfl rfl ?_
  obtain ⟨g2, hm⟩ := gd_x hm
  refine pw_ai (pc := 10) d250_10 (sha s_h f_y1.2) (mi_in_x g2) ?_
  refine pw_ige (pc := 11) (t := 60) d250_11 (by decide) (fun c3 => ?_) (fun c3 => ?_)
  · rw [if_pos c3] at hm
    obtain rfl := Option.some.inj hm
    exact hE   (Value.ref l0) (Value.int l1) (Value.int l2)
  · rw [if_neg c3] at hm
    refine pw_l (pc := 14) d250_14 rfl rfl rfl ?_
    obtain ⟨y4, e_y4, hm⟩ := ob_x hm
    have f_y4 := gA_x e_y4
    refine pw_gr (pc := 15) d250_15 (k250_51 b) (sho s_h f_l0) f10_26 f_y4.1 ?_
    refine pw_l (pc := 18) d250_18 rfl rfl rfl ?_
    obtain ⟨g5, hm⟩ := gd_x hm
    refine pw_ai (pc := 19) d250_19 (sha s_h f_y4.2) (mi_in_x g5) ?_
    refine pw_l (pc := 20) d250_20 rfl rfl rfl ?_
    obtain ⟨y6, e_y6, hm⟩ := ob_x hm
    have f_y6 := gA_x e_y6
    refine pw_gr (pc := 21) d250_21 (k250_39 b) (sho s_h f_l0) f10_20 f_y6.1 ?_
    refine pw_s (pc := 24) d250_24 rfl rfl ?_
    refine pw_s (pc := 27) d250_27 rfl rfl ?_
    refine pw_l (pc := 28) d250_28 rfl rfl rfl ?_
    refine pw_s (pc := 29) d250_29 rfl rfl ?_
    refine pw_s (pc := 30) d250_30 rfl rfl ?_
    obtain ⟨g7, hm⟩ := gd_x hm
    refine pw_ai (pc := 31) d250_31 (sha s_h f_y6.2) (mi_in_x g7) ?_
    refine pw_s (pc := 32) d250_32 rfl rfl ?_
    refine pw_s (pc := 33) d250_33 rfl rfl ?_
    refine pw_s (pc := 34) d250_34 rfl rfl ?_
    refine pw_l (pc := 35) d250_35 rfl rfl rfl ?_
    obtain ⟨y8, e_y8, hm⟩ := ob_x hm
    have f_y8 := gA_x e_y8
    refine pw_gr (pc := 36) d250_36 (k250_39 b) (sho s_h f_l0) f10_20 f_y8.1 ?_
    refine pw_s (pc := 39) d250_39 rfl rfl ?_
    refine pw_s (pc := 42) d250_42 rfl rfl ?_
    refine pw_l (pc := 43) d250_43 rfl rfl rfl ?_
    refine pw_s (pc := 44) d250_44 rfl rfl ?_
    refine pw_s (pc := 45) d250_45 rfl rfl ?_
    refine pw_s (pc := 46) d250_46 rfl rfl ?_
    refine pw_s (pc := 47) d250_47 rfl rfl ?_
    obtain ⟨g9, hm⟩ := gd_x hm
    refine pw_ai (pc := 48) d250_48 (sha s_h f_y8.2) (mi_in_x g9) ?_
    refine pw_ieq (pc := 49) (t := 54) d250_49 (by decide) (fun c10 => ?_) (fun c10 => ?_)
    · rw [if_pos c10] at hm
      refine pw_t (pc := 54) d250_54 rfl rfl rfl rfl ?_
      refine pw_go (pc := 57) (t := 2) d250_57 (by decide) ?_
      obtain rfl := Option.some.inj hm
      exact hE   
    · rw [if_neg c10] at hm
      obtain rfl := Option.some.inj hm
      exact hE   (Value.ref l0) (Value.int l1) (Value.int l2)
noncomputable def m_isDoneSo (l0 : Nat) (l1 : Int32) (h : pm_H) : Option Int32 := (wh (fun s : Int32 => m_isDoneSo_2 l0 l1 s h) (Int32.ofInt 0)).bind fun q1 => (match q1 with | (.inl eq1_0) => some (Int32.ofInt 0) | (.inr eq1_1) => some (Int32.ofInt 1))
theorem T_m_isDoneSo (b : Bool) (L : Nat) (xs : Nat → Int32) (d : Nat) (hd : 0 ≤ d) (h : pm_H) (s_h : h.1 = tb_SH) (l0 : Nat) (l1 : Int32) (f_l0 : mi_o l0 10 = true) {r : Int32} (hm : m_isDoneSo l0 l1 h = some r) : PC b L xs d 250 [(Value.ref l0), (Value.int l1)] h (fun (v0 : Option Value) (h2 : pm_H) => v0 = (some (Value.int r)) ∧ h2 = h ∧ h2.1 = tb_SH) := by
  refine pc_in e250 (ls0 := [(Value.ref l0), (Value.int l1), Value.retAddr 0]) rfl ?_
  have key : ∀ (Q : Option Value → pm_H → Prop), (Q (some (Value.int r)) h) → PW b L xs d 250 0 0 0 [(Value.ref l0), (Value.int l1), Value.retAddr 0] [] h Q := by
    intro Q hE
    rw [m_isDoneSo] at hm
    refine pw_s (pc := 0) d250_0 rfl rfl ?_
    refine pw_t (pc := 1) d250_1 rfl rfl rfl rfl ?_
    obtain ⟨q1, e_q1, hm⟩ := ob_x hm
    refine wh_ind e_q1 (fun s : Int32 => PW b L xs d 250 0 0 2 [(Value.ref l0), (Value.int l1), (Value.int s)] [] h Q) (fun s s2 hf ih  => t_m_isDoneSo_2 b L xs d hd h s_h l0 l1 s  f_l0 hf ih) (fun s hf  => t_m_isDoneSo_2 b L xs d hd h s_h l0 l1 s  f_l0 hf ?_)   
    rcases q1 with eq1_0 | eq1_1
    · dsimp only at hm
      intro w0 w1 w2
      refine pw_s (pc := 52) d250_52 rfl rfl ?_
      obtain rfl := Option.some.inj hm
      refine pw_ri (pc := 53) d250_53 t250 rfl ?_
      exact hE
    · dsimp only at hm
      intro w0 w1 w2
      refine pw_s (pc := 60) d250_60 rfl rfl ?_
      obtain rfl := Option.some.inj hm
      refine pw_ri (pc := 61) d250_61 t250 rfl ?_
      exact hE
  exact key _ ⟨rfl, rfl, s_h⟩
def E_m_awake_42 (b : Bool) (L : Nat) (xs : Nat → Int32) (d : Nat) (Q : Option Value → pm_H → Prop) (l0 : Nat) (l1 : Int32) (l2 : Int32) : ((Int32 × Int32 × Int32 × Int32 × pm_H) ⊕ (Int32 × Int32 × Int32 × pm_H)) → Prop
  | .inl s => s.2.2.2.2.1 = tb_SH → PW b L xs d 251 0 0 42 [(Value.ref l0), (Value.int l1), (Value.int l2), (Value.int s.1), (Value.int s.2.1), (Value.int s.2.2.1), (Value.int s.2.2.2.1)] [] s.2.2.2.2 Q
  | .inr e => e.2.2.2.1 = tb_SH → ∀ w0 w6 : Value, PW b L xs d 251 0 0 92 [w0, (Value.int l1), (Value.int l2), (Value.int e.1), (Value.int e.2.1), (Value.int e.2.2.1), w6] [] e.2.2.2 Q
noncomputable def m_awake_42 (l0 : Nat) (l1 : Int32) (l2 : Int32) (l3 : Int32) (l4 : Int32) (l5 : Int32) (l6 : Int32) (h : pm_H) : Option ((Int32 × Int32 × Int32 × Int32 × pm_H) ⊕ (Int32 × Int32 × Int32 × pm_H)) := if l2 < l6 then (some (.inr (l3, l4, l5, h))) else (if ¬ (l6 &&& (l2 ^^^ (Int32.ofInt (-1)))) = 0 then (some (.inl (l3, l4, l5, (l6 + Int32.ofInt 1), h))) else ((m_isDoneSo l0 l6 h).bind fun q3 => if ¬ q3 = 0 then (some (.inl ((l3 + Int32.ofInt 1), (l4 &&& l6), (l5 ||| l6), (l6 + Int32.ofInt 1), h))) else (some (.inl (l3, l4, l5, (l6 + Int32.ofInt 1), h)))))
theorem t_m_awake_42 (b : Bool) (L : Nat) (xs : Nat → Int32) (d : Nat) (hd : 6 ≤ d) {Q : Option Value → pm_H → Prop} (h : pm_H) (s_h : h.1 = tb_SH) (l0 : Nat) (l1 : Int32) (l2 : Int32) (l3 : Int32) (l4 : Int32) (l5 : Int32) (l6 : Int32) (f_l0 : mi_o l0 10 = true) {r : ((Int32 × Int32 × Int32 × Int32 × pm_H) ⊕ (Int32 × Int32 × Int32 × pm_H))} (hm : m_awake_42 l0 l1 l2 l3 l4 l5 l6 h = some r) (hE : E_m_awake_42 b L xs d Q l0 l1 l2 r) : PW b L xs d 251 0 0 42 [(Value.ref l0), (Value.int l1), (Value.int l2), (Value.int l3), (Value.int l4), (Value.int l5), (Value.int l6)] [] h Q := by
  rw [m_awake_42] at hm
  refine pw_l (pc := 42) d251_42 rfl rfl rfl ?_
  refine pw_l (pc := 44) d251_44 rfl rfl rfl ?_
  refine pw_igt (pc := 45) (t := 92) d251_45 (by decide) (fun c1 => ?_) (fun c1 => ?_)
  · rw [if_pos c1] at hm
    obtain rfl := Option.some.inj hm
    exact hE s_h  (Value.ref l0) (Value.int l6)
  · rw [if_neg c1] at hm
    refine pw_l (pc := 48) d251_48 rfl rfl rfl ?_
    refine pw_l (pc := 50) d251_50 rfl rfl rfl ?_
    refine pw_s (pc := 51) d251_51 rfl rfl ?_
    refine pw_s (pc := 52) d251_52 rfl rfl ?_
    refine pw_s (pc := 53) d251_53 rfl rfl ?_
    refine pw_zne (pc := 54) (t := 86) d251_54 (by decide) (fun c2 => ?_) (fun c2 => ?_)
    · rw [if_pos c2] at hm
      refine pw_t (pc := 86) d251_86 rfl rfl rfl rfl ?_
      refine pw_go (pc := 89) (t := 42) d251_89 (by decide) ?_
      obtain rfl := Option.some.inj hm
      exact hE s_h  
    · rw [if_neg c2] at hm
      refine pw_l (pc := 57) d251_57 rfl rfl rfl ?_
      refine pw_l (pc := 58) d251_58 rfl rfl rfl ?_
      obtain ⟨q3, e_q3, hm⟩ := ob_x hm
      refine pw_v (pc := 60) (k := l0) (by omega) d251_60 (k251_413 b) (by decide) m250 (by decide) rfl (sho s_h f_l0) (Nat.le_of_ble_eq_true rfl) (Nat.le_of_ble_eq_true rfl) rfl rfl (T_m_isDoneSo b L xs (d - 1) (by omega) h s_h l0 l6 f_l0 e_q3) (fun v0 h0 hq => ?_)
      obtain ⟨rfl, hh0, s_q3⟩ := hq
      rw [hh0] at s_q3 ⊢
      simp only [Option.toList_some, List.cons_append, List.nil_append]
      refine pw_zne (pc := 63) (t := 69) d251_63 (by decide) (fun c4 => ?_) (fun c4 => ?_)
      · rw [if_pos c4] at hm
        refine pw_t (pc := 69) d251_69 rfl rfl rfl rfl ?_
        refine pw_l (pc := 72) d251_72 rfl rfl rfl ?_
        refine pw_l (pc := 74) d251_74 rfl rfl rfl ?_
        refine pw_s (pc := 76) d251_76 rfl rfl ?_
        refine pw_t (pc := 77) d251_77 rfl rfl rfl rfl ?_
        refine pw_l (pc := 79) d251_79 rfl rfl rfl ?_
        refine pw_l (pc := 81) d251_81 rfl rfl rfl ?_
        refine pw_s (pc := 83) d251_83 rfl rfl ?_
        refine pw_t (pc := 84) d251_84 rfl rfl rfl rfl ?_
        refine pw_t (pc := 86) d251_86 rfl rfl rfl rfl ?_
        refine pw_go (pc := 89) (t := 42) d251_89 (by decide) ?_
        obtain rfl := Option.some.inj hm
        exact hE s_h  
      · rw [if_neg c4] at hm
        refine pw_go (pc := 66) (t := 86) d251_66 (by decide) ?_
        refine pw_t (pc := 86) d251_86 rfl rfl rfl rfl ?_
        refine pw_go (pc := 89) (t := 42) d251_89 (by decide) ?_
        obtain rfl := Option.some.inj hm
        exact hE s_h  
noncomputable def m_awake (l0 : Nat) (l1 : Int32) (h : pm_H) : Option (Int32 × pm_H) := (m_isShip l0 h).bind fun q1 => if q1 = 0 then (some ((Int32.ofInt (-1)), h)) else ((m_in l1.toInt64 (Int64.ofNat 0) (2 : Int64) h).bind fun q3 => if ¬ q3 = 0 then ((m_aliveSet l0 h).bind fun q5 => (m_gathersSays l0 q5 h).bind fun q6 => (wh (fun s : (Int32 × Int32 × Int32 × Int32 × pm_H) => m_awake_42 l0 l1 q5 s.1 s.2.1 s.2.2.1 s.2.2.2.1 s.2.2.2.2) ((Int32.ofInt 0), q5, (Int32.ofInt 0), (Int32.ofInt 0), q6)).bind fun q7 => if ¬ l1 = 0 then (if ¬ q7.1 = 0 then (if ¬ l1 = (Int32.ofInt 1) then (some ((q5 &&& (q7.2.2.1 ^^^ (Int32.ofInt (-1)))), q7.2.2.2)) else (some (q7.2.1, q7.2.2.2))) else (some ((Int32.ofInt 0), q7.2.2.2))) else (some (q7.1, q7.2.2.2))) else (some ((Int32.ofInt (-1)), h)))
theorem T_m_awake (b : Bool) (L : Nat) (xs : Nat → Int32) (d : Nat) (hd : 6 ≤ d) (h : pm_H) (s_h : h.1 = tb_SH) (l0 : Nat) (l1 : Int32) (f_l0 : mi_o l0 10 = true) {r : (Int32 × pm_H)} (hm : m_awake l0 l1 h = some r) : PC b L xs d 251 [(Value.ref l0), (Value.int l1)] h (fun (v0 : Option Value) (h2 : pm_H) => v0 = (some (Value.int r.1)) ∧ h2 = r.2 ∧ h2.1 = tb_SH) := by
  refine pc_in e251 (ls0 := [(Value.ref l0), (Value.int l1), Value.retAddr 0, Value.retAddr 0, Value.retAddr 0, Value.retAddr 0, Value.retAddr 0]) rfl ?_
  have key : ∀ (Q : Option Value → pm_H → Prop), (r.2.1 = tb_SH → Q (some (Value.int r.1)) r.2) → PW b L xs d 251 0 0 0 [(Value.ref l0), (Value.int l1), Value.retAddr 0, Value.retAddr 0, Value.retAddr 0, Value.retAddr 0, Value.retAddr 0] [] h Q := by
    intro Q hE
    rw [m_awake] at hm
    refine pw_l (pc := 0) d251_0 rfl rfl rfl ?_
    obtain ⟨q1, e_q1, hm⟩ := ob_x hm
    refine pw_v (pc := 1) (k := l0) (by omega) d251_1 (k251_305 b) (by decide) m192 (by decide) rfl (sho s_h f_l0) (Nat.le_of_ble_eq_true rfl) (Nat.le_of_ble_eq_true rfl) rfl rfl (T_m_isShip b L xs (d - 1) (by omega) h s_h l0 f_l0 e_q1) (fun v0 h0 hq => ?_)
    obtain ⟨rfl, hh0, s_q1⟩ := hq
    rw [hh0] at s_q1 ⊢
    simp only [Option.toList_some, List.cons_append, List.nil_append]
    refine pw_zeq (pc := 4) (t := 19) d251_4 (by decide) (fun c2 => ?_) (fun c2 => ?_)
    · rw [if_pos c2] at hm
      refine pw_s (pc := 19) d251_19 rfl rfl ?_
      obtain rfl := Option.some.inj hm
      refine pw_ri (pc := 20) d251_20 t251 rfl ?_
      exact hE s_h
    · rw [if_neg c2] at hm
      refine pw_l (pc := 7) d251_7 rfl rfl rfl ?_
      refine pw_s (pc := 8) d251_8 rfl rfl ?_
      refine pw_s (pc := 9) d251_9 rfl rfl ?_
      refine pw_cl (pc := 10) d251_10 (k251_359 b) ?_
      obtain ⟨q3, e_q3, hm⟩ := ob_x hm
      refine pw_u (pc := 13) (by omega) d251_13 (k251_112 b) (by decide) m148 (Nat.le_of_ble_eq_true rfl) (Nat.le_of_ble_eq_true rfl) (Nat.le_of_ble_eq_true rfl) rfl rfl (T_m_in b L xs (d - 1) (by omega) h s_h l1.toInt64 (Int64.ofNat 0) (2 : Int64)  e_q3) (fun v0 h0 hq => ?_)
      obtain ⟨rfl, hh0, s_q3⟩ := hq
      rw [hh0] at s_q3 ⊢
      simp only [Option.toList_some, List.cons_append, List.nil_append]
      refine pw_zne (pc := 16) (t := 21) d251_16 (by decide) (fun c4 => ?_) (fun c4 => ?_)
      · rw [if_pos c4] at hm
        refine pw_l (pc := 21) d251_21 rfl rfl rfl ?_
        obtain ⟨q5, e_q5, hm⟩ := ob_x hm
        refine pw_v (pc := 22) (k := l0) (by omega) d251_22 (k251_356 b) (by decide) m201 (by decide) rfl (sho s_h f_l0) (Nat.le_of_ble_eq_true rfl) (Nat.le_of_ble_eq_true rfl) rfl rfl (T_m_aliveSet b L xs (d - 1) (by omega) h s_h l0 f_l0 e_q5) (fun v0 h0 hq => ?_)
        obtain ⟨rfl, hh0, s_q5⟩ := hq
        rw [hh0] at s_q5 ⊢
        simp only [Option.toList_some, List.cons_append, List.nil_append]
        refine pw_t (pc := 25) d251_25 rfl rfl rfl rfl ?_
        refine pw_l (pc := 26) d251_26 rfl rfl rfl ?_
        refine pw_l (pc := 27) d251_27 rfl rfl rfl ?_
        obtain ⟨q6, e_q6, hm⟩ := ob_x hm
        refine pw_v (pc := 28) (k := l0) (by omega) d251_28 (k251_342 b) (by decide) m220 (by decide) rfl (sho s_h f_l0) (Nat.le_of_ble_eq_true rfl) (Nat.le_of_ble_eq_true rfl) rfl rfl (T_m_gathersSays b L xs (d - 1) (by omega) h s_h l0 q5 f_l0 e_q6) (fun v0 h0 hq => ?_)
        obtain ⟨rfl, hh0, s_q6⟩ := hq
        rw [hh0] at s_q6 ⊢
        simp only [Option.toList_none, List.nil_append]
        refine pw_s (pc := 31) d251_31 rfl rfl ?_
        refine pw_t (pc := 32) d251_32 rfl rfl rfl rfl ?_
        refine pw_l (pc := 33) d251_33 rfl rfl rfl ?_
        refine pw_t (pc := 34) d251_34 rfl rfl rfl rfl ?_
        refine pw_s (pc := 36) d251_36 rfl rfl ?_
        refine pw_t (pc := 37) d251_37 rfl rfl rfl rfl ?_
        refine pw_s (pc := 39) d251_39 rfl rfl ?_
        refine pw_t (pc := 40) d251_40 rfl rfl rfl rfl ?_
        obtain ⟨q7, e_q7, hm⟩ := ob_x hm
        refine wh_ind e_q7 (fun s : (Int32 × Int32 × Int32 × Int32 × pm_H) => s.2.2.2.2.1 = tb_SH → PW b L xs d 251 0 0 42 [(Value.ref l0), (Value.int l1), (Value.int q5), (Value.int s.1), (Value.int s.2.1), (Value.int s.2.2.1), (Value.int s.2.2.2.1)] [] s.2.2.2.2 Q) (fun s s2 hf ih sx => t_m_awake_42 b L xs d hd s.2.2.2.2 sx l0 l1 q5 s.1 s.2.1 s.2.2.1 s.2.2.2.1  f_l0 hf ih) (fun s hf sx => t_m_awake_42 b L xs d hd s.2.2.2.2 sx l0 l1 q5 s.1 s.2.1 s.2.2.1 s.2.2.2.1  f_l0 hf ?_) s_q6  
        intro s_q7_0 w0 w6
        refine pw_l (pc := 92) d251_92 rfl rfl rfl ?_
        refine pw_zne (pc := 93) (t := 100) d251_93 (by decide) (fun c8 => ?_) (fun c8 => ?_)
        · rw [if_pos c8] at hm
          refine pw_l (pc := 100) d251_100 rfl rfl rfl ?_
          refine pw_zne (pc := 101) (t := 108) d251_101 (by decide) (fun c9 => ?_) (fun c9 => ?_)
          · rw [if_pos c9] at hm
            refine pw_l (pc := 108) d251_108 rfl rfl rfl ?_
            refine pw_s (pc := 109) d251_109 rfl rfl ?_
            refine pw_ine (pc := 110) (t := 118) d251_110 (by decide) (fun c10 => ?_) (fun c10 => ?_)
            · rw [if_pos c10] at hm
              refine pw_l (pc := 118) d251_118 rfl rfl rfl ?_
              refine pw_l (pc := 119) d251_119 rfl rfl rfl ?_
              refine pw_s (pc := 121) d251_121 rfl rfl ?_
              refine pw_s (pc := 122) d251_122 rfl rfl ?_
              refine pw_s (pc := 123) d251_123 rfl rfl ?_
              obtain rfl := Option.some.inj hm
              refine pw_ri (pc := 124) d251_124 t251 rfl ?_
              exact hE s_q7_0
            · rw [if_neg c10] at hm
              refine pw_l (pc := 113) d251_113 rfl rfl rfl ?_
              refine pw_go (pc := 115) (t := 124) d251_115 (by decide) ?_
              obtain rfl := Option.some.inj hm
              refine pw_ri (pc := 124) d251_124 t251 rfl ?_
              exact hE s_q7_0
          · rw [if_neg c9] at hm
            refine pw_s (pc := 104) d251_104 rfl rfl ?_
            refine pw_go (pc := 105) (t := 124) d251_105 (by decide) ?_
            obtain rfl := Option.some.inj hm
            refine pw_ri (pc := 124) d251_124 t251 rfl ?_
            exact hE s_q7_0
        · rw [if_neg c8] at hm
          refine pw_l (pc := 96) d251_96 rfl rfl rfl ?_
          refine pw_go (pc := 97) (t := 124) d251_97 (by decide) ?_
          obtain rfl := Option.some.inj hm
          refine pw_ri (pc := 124) d251_124 t251 rfl ?_
          exact hE s_q7_0
      · rw [if_neg c4] at hm
        refine pw_s (pc := 19) d251_19 rfl rfl ?_
        obtain rfl := Option.some.inj hm
        refine pw_ri (pc := 20) d251_20 t251 rfl ?_
        exact hE s_h
  exact key _ (fun q => ⟨rfl, rfl, q⟩)
def E_m_ask_59 (b : Bool) (L : Nat) (xs : Nat → Int32) (d : Nat) (Q : Option Value → pm_H → Prop) (l0 : Nat) (l1 : Int32) (l2 : Int32) (l3 : Int32) (l4 : Int32) (l5 : Int32) : ((Int32 × Int32 × Int32 × pm_H) ⊕ (Int32 × Int32 × pm_H)) → Prop
  | .inl s => s.2.2.2.1 = tb_SH → PW b L xs d 252 0 0 59 [(Value.ref l0), (Value.int l1), (Value.int l2), (Value.int l3), (Value.int l4), (Value.int l5), (Value.int s.1), (Value.int s.2.1), (Value.int s.2.2.1)] [] s.2.2.2 Q
  | .inr e => e.2.2.1 = tb_SH → ∀ w8 : Value, PW b L xs d 252 0 0 128 [(Value.ref l0), (Value.int l1), (Value.int l2), (Value.int l3), (Value.int l4), (Value.int l5), (Value.int e.1), (Value.int e.2.1), w8] [] e.2.2 Q
def E_m_ask_39 (b : Bool) (L : Nat) (xs : Nat → Int32) (d : Nat) (Q : Option Value → pm_H → Prop) (l0 : Nat) (l1 : Int32) (l2 : Int32) : ((Int32 × Int32 × Int32 × pm_H) ⊕ (Int32 × Int32 × pm_H)) → Prop
  | .inl s => s.2.2.2.1 = tb_SH → ∀ w6 w7 w8 : Value, PW b L xs d 252 0 0 39 [(Value.ref l0), (Value.int l1), (Value.int l2), (Value.int s.1), (Value.int s.2.1), (Value.int s.2.2.1), w6, w7, w8] [] s.2.2.2 Q
  | .inr e => e.2.2.1 = tb_SH → ∀ w0 w2 w5 w6 w7 w8 : Value, PW b L xs d 252 0 0 176 [w0, (Value.int l1), w2, (Value.int e.1), (Value.int e.2.1), w5, w6, w7, w8] [] e.2.2 Q
noncomputable def m_ask_163 (l0 : Nat) (l1 : Int32) (l2 : Int32) (l5 : Int32) (l8 : Int32) (h : pm_H) : Option ((Int32 × Int32 × Int32 × pm_H) ⊕ (Int32 × Int32 × pm_H)) := some (.inl (l5, l8, (l5 + Int32.ofInt 1), h))
theorem t_m_ask_163 (b : Bool) (L : Nat) (xs : Nat → Int32) (d : Nat) (hd : 6 ≤ d) {Q : Option Value → pm_H → Prop} (h : pm_H) (s_h : h.1 = tb_SH) (l0 : Nat) (l1 : Int32) (l2 : Int32) (l5 : Int32) (l8 : Int32) (w3 : Value) (w4 : Value) (w6 : Value) (w7 : Value) (f_l0 : mi_o l0 10 = true) {r : ((Int32 × Int32 × Int32 × pm_H) ⊕ (Int32 × Int32 × pm_H))} (hm : m_ask_163 l0 l1 l2 l5 l8 h = some r) (hE : E_m_ask_39 b L xs d Q l0 l1 l2 r) : PW b L xs d 252 0 0 163 [(Value.ref l0), (Value.int l1), (Value.int l2), w3, w4, (Value.int l5), w6, w7, (Value.int l8)] [] h Q := by
  rw [m_ask_163] at hm
  refine pw_l (pc := 163) d252_163 rfl rfl rfl ?_
  refine pw_t (pc := 165) d252_165 rfl rfl rfl rfl ?_
  refine pw_l (pc := 166) d252_166 rfl rfl rfl ?_
  refine pw_t (pc := 168) d252_168 rfl rfl rfl rfl ?_
  refine pw_t (pc := 170) d252_170 rfl rfl rfl rfl ?_
  refine pw_go (pc := 173) (t := 39) d252_173 (by decide) ?_
  obtain rfl := Option.some.inj hm
  exact hE s_h  w6 w7 (Value.int l8)
noncomputable def m_ask_142 (l0 : Nat) (l1 : Int32) (l2 : Int32) (l3 : Int32) (l4 : Int32) (l5 : Int32) (z0 : Int32) (h : pm_H) : Option ((Int32 × Int32 × Int32 × pm_H) ⊕ (Int32 × Int32 × pm_H)) := if z0 = 0 then (some (.inl (l3, l4, (l5 + Int32.ofInt 1), h))) else (if l3 < 0 then (m_ask_163 l0 l1 l2 l5 z0 h) else (if z0 < l4 then (m_ask_163 l0 l1 l2 l5 z0 h) else (some (.inl (l3, l4, (l5 + Int32.ofInt 1), h)))))
theorem t_m_ask_142 (b : Bool) (L : Nat) (xs : Nat → Int32) (d : Nat) (hd : 6 ≤ d) {Q : Option Value → pm_H → Prop} (h : pm_H) (s_h : h.1 = tb_SH) (l0 : Nat) (l1 : Int32) (l2 : Int32) (l3 : Int32) (l4 : Int32) (l5 : Int32) (z0 : Int32) (w6 : Value) (w7 : Value) (w8 : Value) (f_l0 : mi_o l0 10 = true) {r : ((Int32 × Int32 × Int32 × pm_H) ⊕ (Int32 × Int32 × pm_H))} (hm : m_ask_142 l0 l1 l2 l3 l4 l5 z0 h = some r) (hE : E_m_ask_39 b L xs d Q l0 l1 l2 r) : PW b L xs d 252 0 0 142 [(Value.ref l0), (Value.int l1), (Value.int l2), (Value.int l3), (Value.int l4), (Value.int l5), w6, w7, w8] [(Value.int z0)] h Q := by
  rw [m_ask_142] at hm
  refine pw_t (pc := 142) d252_142 rfl rfl rfl (n := 2) (ls' := [(Value.ref l0), (Value.int l1), (Value.int l2), (Value.int l3), (Value.int l4), (Value.int l5), w6, (mi_w w7), (Value.int z0)]) (st' := []) (by by_cases hw : Value.category w7 = 2 <;> simp [pm_sto, pm_sI, pm_sL, pm_sA, pm_inc, pm_st1, pm_st2, pm_pre, mi_w, hw] <;> first | done | exact ⟨by decide, rfl⟩ | rfl) ?_
  refine pw_l (pc := 144) d252_144 rfl rfl rfl ?_
  refine pw_zeq (pc := 146) (t := 170) d252_146 (by decide) (fun c1 => ?_) (fun c1 => ?_)
  · rw [if_pos c1] at hm
    refine pw_t (pc := 170) d252_170 rfl rfl rfl rfl ?_
    refine pw_go (pc := 173) (t := 39) d252_173 (by decide) ?_
    obtain rfl := Option.some.inj hm
    exact hE s_h  w6 (mi_w w7) (Value.int z0)
  · rw [if_neg c1] at hm
    refine pw_l (pc := 149) d252_149 rfl rfl rfl ?_
    refine pw_zlt (pc := 150) (t := 163) d252_150 (by decide) (fun c2 => ?_) (fun c2 => ?_)
    · rw [if_pos c2] at hm
      exact t_m_ask_163 b L xs d hd h s_h l0 l1 l2 l5 z0 (Value.int l3) (Value.int l4) w6 (mi_w w7) f_l0  hm hE
    · rw [if_neg c2] at hm
      refine pw_l (pc := 153) d252_153 rfl rfl rfl ?_
      refine pw_l (pc := 155) d252_155 rfl rfl rfl ?_
      refine pw_ilt (pc := 157) (t := 163) d252_157 (by decide) (fun c3 => ?_) (fun c3 => ?_)
      · rw [if_pos c3] at hm
        exact t_m_ask_163 b L xs d hd h s_h l0 l1 l2 l5 z0 (Value.int l3) (Value.int l4) w6 (mi_w w7) f_l0  hm hE
      · rw [if_neg c3] at hm
        refine pw_go (pc := 160) (t := 170) d252_160 (by decide) ?_
        refine pw_t (pc := 170) d252_170 rfl rfl rfl rfl ?_
        refine pw_go (pc := 173) (t := 39) d252_173 (by decide) ?_
        obtain rfl := Option.some.inj hm
        exact hE s_h  w6 (mi_w w7) (Value.int z0)
noncomputable def m_ask_59 (l0 : Nat) (l1 : Int32) (l2 : Int32) (l3 : Int32) (l4 : Int32) (l5 : Int32) (l6 : Int32) (l7 : Int32) (l8 : Int32) (h : pm_H) : Option ((Int32 × Int32 × Int32 × pm_H) ⊕ (Int32 × Int32 × pm_H)) := if l2 < l8 then (some (.inr (l6, l7, h))) else (if ¬ (l8 &&& (l2 ^^^ (Int32.ofInt (-1)))) = 0 then (some (.inl (l6, l7, (l8 + Int32.ofInt 1), h))) else ((m_isDoneSo l0 l8 h).bind fun q3 => if ¬ q3 = 0 then ((gA h l0 26 .int).bind fun y5 => if mi_in l8 (mi_n y5) = true then (gA h l0 26 .int).bind fun y7 => if mi_in l8 (mi_n y7) = true then some (.inl ((l6 + (((h.2.1 y5 l8.toNatClampNeg) >>> (l5 &&& 31)) &&& (Int32.ofInt 1))), (l7 + ((Int32.ofInt 1) - (((h.2.1 y7 l8.toNatClampNeg) >>> (l5 &&& 31)) &&& (Int32.ofInt 1)))), (l8 + Int32.ofInt 1), h)) else none else none) else (some (.inl (l6, l7, (l8 + Int32.ofInt 1), h)))))
theorem t_m_ask_59 (b : Bool) (L : Nat) (xs : Nat → Int32) (d : Nat) (hd : 6 ≤ d) {Q : Option Value → pm_H → Prop} (h : pm_H) (s_h : h.1 = tb_SH) (l0 : Nat) (l1 : Int32) (l2 : Int32) (l3 : Int32) (l4 : Int32) (l5 : Int32) (l6 : Int32) (l7 : Int32) (l8 : Int32) (f_l0 : mi_o l0 10 = true) {r : ((Int32 × Int32 × Int32 × pm_H) ⊕ (Int32 × Int32 × pm_H))} (hm : m_ask_59 l0 l1 l2 l3 l4 l5 l6 l7 l8 h = some r) (hE : E_m_ask_59 b L xs d Q l0 l1 l2 l3 l4 l5 r) : PW b L xs d 252 0 0 59 [(Value.ref l0), (Value.int l1), (Value.int l2), (Value.int l3), (Value.int l4), (Value.int l5), (Value.int l6), (Value.int l7), (Value.int l8)] [] h Q := by
  rw [m_ask_59] at hm
  refine pw_l (pc := 59) d252_59 rfl rfl rfl ?_
  refine pw_l (pc := 61) d252_61 rfl rfl rfl ?_
  refine pw_igt (pc := 62) (t := 128) d252_62 (by decide) (fun c1 => ?_) (fun c1 => ?_)
  · rw [if_pos c1] at hm
    obtain rfl := Option.some.inj hm
    exact hE s_h  (Value.int l8)
  · rw [if_neg c1] at hm
    refine pw_l (pc := 65) d252_65 rfl rfl rfl ?_
    refine pw_l (pc := 67) d252_67 rfl rfl rfl ?_
    refine pw_s (pc := 68) d252_68 rfl rfl ?_
    refine pw_s (pc := 69) d252_69 rfl rfl ?_
    refine pw_s (pc := 70) d252_70 rfl rfl ?_
    refine pw_zne (pc := 71) (t := 122) d252_71 (by decide) (fun c2 => ?_) (fun c2 => ?_)
    · rw [if_pos c2] at hm
      refine pw_t (pc := 122) d252_122 rfl rfl rfl rfl ?_
      refine pw_go (pc := 125) (t := 59) d252_125 (by decide) ?_
      obtain rfl := Option.some.inj hm
      exact hE s_h  
    · rw [if_neg c2] at hm
      refine pw_l (pc := 74) d252_74 rfl rfl rfl ?_
      refine pw_l (pc := 75) d252_75 rfl rfl rfl ?_
      obtain ⟨q3, e_q3, hm⟩ := ob_x hm
      refine pw_v (pc := 77) (k := l0) (by omega) d252_77 (k252_413 b) (by decide) m250 (by decide) rfl (sho s_h f_l0) (Nat.le_of_ble_eq_true rfl) (Nat.le_of_ble_eq_true rfl) rfl rfl (T_m_isDoneSo b L xs (d - 1) (by omega) h s_h l0 l8 f_l0 e_q3) (fun v0 h0 hq => ?_)
      obtain ⟨rfl, hh0, s_q3⟩ := hq
      rw [hh0] at s_q3 ⊢
      simp only [Option.toList_some, List.cons_append, List.nil_append]
      refine pw_zne (pc := 80) (t := 86) d252_80 (by decide) (fun c4 => ?_) (fun c4 => ?_)
      · rw [if_pos c4] at hm
        refine pw_l (pc := 86) d252_86 rfl rfl rfl ?_
        refine pw_l (pc := 88) d252_88 rfl rfl rfl ?_
        obtain ⟨y5, e_y5, hm⟩ := ob_x hm
        have f_y5 := gA_x e_y5
        refine pw_gr (pc := 89) d252_89 (k252_51 b) (sho s_h f_l0) f10_26 f_y5.1 ?_
        refine pw_l (pc := 92) d252_92 rfl rfl rfl ?_
        obtain ⟨g6, hm⟩ := gd_x hm
        refine pw_ai (pc := 94) d252_94 (sha s_h f_y5.2) (mi_in_x g6) ?_
        refine pw_l (pc := 95) d252_95 rfl rfl rfl ?_
        refine pw_s (pc := 97) d252_97 rfl rfl ?_
        refine pw_s (pc := 98) d252_98 rfl rfl ?_
        refine pw_s (pc := 99) d252_99 rfl rfl ?_
        refine pw_s (pc := 100) d252_100 rfl rfl ?_
        refine pw_t (pc := 101) d252_101 rfl rfl rfl rfl ?_
        refine pw_l (pc := 103) d252_103 rfl rfl rfl ?_
        refine pw_s (pc := 105) d252_105 rfl rfl ?_
        refine pw_l (pc := 106) d252_106 rfl rfl rfl ?_
        obtain ⟨y7, e_y7, hm⟩ := ob_x hm
        have f_y7 := gA_x e_y7
        refine pw_gr (pc := 107) d252_107 (k252_51 b) (sho s_h f_l0) f10_26 f_y7.1 ?_
        refine pw_l (pc := 110) d252_110 rfl rfl rfl ?_
        obtain ⟨g8, hm⟩ := gd_x hm
        refine pw_ai (pc := 112) d252_112 (sha s_h f_y7.2) (mi_in_x g8) ?_
        refine pw_l (pc := 113) d252_113 rfl rfl rfl ?_
        refine pw_s (pc := 115) d252_115 rfl rfl ?_
        refine pw_s (pc := 116) d252_116 rfl rfl ?_
        refine pw_s (pc := 117) d252_117 rfl rfl ?_
        refine pw_s (pc := 118) d252_118 rfl rfl ?_
        refine pw_s (pc := 119) d252_119 rfl rfl ?_
        refine pw_t (pc := 120) d252_120 rfl rfl rfl rfl ?_
        refine pw_t (pc := 122) d252_122 rfl rfl rfl rfl ?_
        refine pw_go (pc := 125) (t := 59) d252_125 (by decide) ?_
        obtain rfl := Option.some.inj hm
        exact hE s_h  
      · rw [if_neg c4] at hm
        refine pw_go (pc := 83) (t := 122) d252_83 (by decide) ?_
        refine pw_t (pc := 122) d252_122 rfl rfl rfl rfl ?_
        refine pw_go (pc := 125) (t := 59) d252_125 (by decide) ?_
        obtain rfl := Option.some.inj hm
        exact hE s_h  
noncomputable def m_ask_39 (l0 : Nat) (l1 : Int32) (l2 : Int32) (l3 : Int32) (l4 : Int32) (l5 : Int32) (h : pm_H) : Option ((Int32 × Int32 × Int32 × pm_H) ⊕ (Int32 × Int32 × pm_H)) := (gA h l0 20 .int).bind fun y1 => if mi_in (Int32.ofInt 2) (mi_n y1) = true then if (h.2.1 y1 (Int32.ofInt 2).toNatClampNeg) ≤ l5 then (some (.inr (l3, l4, h))) else ((wh (fun s : (Int32 × Int32 × Int32 × pm_H) => m_ask_59 l0 l1 l2 l3 l4 l5 s.1 s.2.1 s.2.2.1 s.2.2.2) ((Int32.ofInt 0), (Int32.ofInt 0), (Int32.ofInt 0), h)).bind fun q4 => if q4.1 ≤ q4.2.1 then (m_ask_142 l0 l1 l2 l3 l4 l5 q4.2.1 q4.2.2) else (m_ask_142 l0 l1 l2 l3 l4 l5 q4.1 q4.2.2)) else none
theorem t_m_ask_39 (b : Bool) (L : Nat) (xs : Nat → Int32) (d : Nat) (hd : 6 ≤ d) {Q : Option Value → pm_H → Prop} (h : pm_H) (s_h : h.1 = tb_SH) (l0 : Nat) (l1 : Int32) (l2 : Int32) (l3 : Int32) (l4 : Int32) (l5 : Int32) (w6 : Value) (w7 : Value) (w8 : Value) (f_l0 : mi_o l0 10 = true) {r : ((Int32 × Int32 × Int32 × pm_H) ⊕ (Int32 × Int32 × pm_H))} (hm : m_ask_39 l0 l1 l2 l3 l4 l5 h = some r) (hE : E_m_ask_39 b L xs d Q l0 l1 l2 r) : PW b L xs d 252 0 0 39 [(Value.ref l0), (Value.int l1), (Value.int l2), (Value.int l3), (Value.int l4), (Value.int l5), w6, w7, w8] [] h Q := by
  rw [m_ask_39] at hm
  refine pw_l (pc := 39) d252_39 rfl rfl rfl ?_
  refine pw_l (pc := 41) d252_41 rfl rfl rfl ?_
  obtain ⟨y1, e_y1, hm⟩ := ob_x hm
  have f_y1 := gA_x e_y1
  refine pw_gr (pc := 42) d252_42 (k252_39 b) (sho s_h f_l0) f10_20 f_y1.1 ?_
  refine pw_s (pc := 45) d252_45 rfl rfl ?_
  obtain ⟨g2, hm⟩ := gd_x hm
  refine pw_ai (pc := 46) d252_46 (sha s_h f_y1.2) (mi_in_x g2) ?_
  refine pw_ige (pc := 47) (t := 176) d252_47 (by decide) (fun c3 => ?_) (fun c3 => ?_)
  · rw [if_pos c3] at hm
    obtain rfl := Option.some.inj hm
    exact hE s_h  (Value.ref l0) (Value.int l2) (Value.int l5) w6 w7 w8
  · rw [if_neg c3] at hm
    refine pw_s (pc := 50) d252_50 rfl rfl ?_
    refine pw_t (pc := 51) d252_51 rfl rfl rfl rfl ?_
    refine pw_s (pc := 53) d252_53 rfl rfl ?_
    refine pw_t (pc := 54) d252_54 rfl rfl rfl rfl ?_
    refine pw_s (pc := 56) d252_56 rfl rfl ?_
    refine pw_t (pc := 57) d252_57 rfl rfl rfl rfl ?_
    obtain ⟨q4, e_q4, hm⟩ := ob_x hm
    refine wh_ind e_q4 (fun s : (Int32 × Int32 × Int32 × pm_H) => s.2.2.2.1 = tb_SH → PW b L xs d 252 0 0 59 [(Value.ref l0), (Value.int l1), (Value.int l2), (Value.int l3), (Value.int l4), (Value.int l5), (Value.int s.1), (Value.int s.2.1), (Value.int s.2.2.1)] [] s.2.2.2 Q) (fun s s2 hf ih sx => t_m_ask_59 b L xs d hd s.2.2.2 sx l0 l1 l2 l3 l4 l5 s.1 s.2.1 s.2.2.1  f_l0 hf ih) (fun s hf sx => t_m_ask_59 b L xs d hd s.2.2.2 sx l0 l1 l2 l3 l4 l5 s.1 s.2.1 s.2.2.1  f_l0 hf ?_) s_h  
    intro s_q4_0 w8
    refine pw_l (pc := 128) d252_128 rfl rfl rfl ?_
    refine pw_l (pc := 130) d252_130 rfl rfl rfl ?_
    refine pw_ile (pc := 132) (t := 140) d252_132 (by decide) (fun c5 => ?_) (fun c5 => ?_)
    · rw [if_pos c5] at hm
      refine pw_l (pc := 140) d252_140 rfl rfl rfl ?_
      exact t_m_ask_142 b L xs d hd q4.2.2 s_q4_0 l0 l1 l2 l3 l4 l5 q4.2.1 (Value.int q4.1) (Value.int q4.2.1) w8 f_l0  hm hE
    · rw [if_neg c5] at hm
      refine pw_l (pc := 135) d252_135 rfl rfl rfl ?_
      refine pw_go (pc := 137) (t := 142) d252_137 (by decide) ?_
      exact t_m_ask_142 b L xs d hd q4.2.2 s_q4_0 l0 l1 l2 l3 l4 l5 q4.1 (Value.int q4.1) (Value.int q4.2.1) w8 f_l0  hm hE
noncomputable def m_ask (l0 : Nat) (l1 : Int32) (h : pm_H) : Option (Int32 × pm_H) := (m_isShip l0 h).bind fun q1 => if q1 = 0 then (some ((Int32.ofInt (-1)), h)) else ((m_in l1.toInt64 (Int64.ofNat 0) (Int64.ofNat 1) h).bind fun q3 => if ¬ q3 = 0 then ((m_aliveSet l0 h).bind fun q5 => (m_gathersSays l0 q5 h).bind fun q6 => (wh (fun s : (Int32 × Int32 × Int32 × pm_H) => m_ask_39 l0 l1 q5 s.1 s.2.1 s.2.2.1 s.2.2.2) ((Int8.ofInt (-2)).toInt32, (Int8.ofInt (-2)).toInt32, (Int32.ofInt 0), q6)).bind fun q7 => if ¬ l1 = 0 then (some (q7.2.1, q7.2.2)) else (some (q7.1, q7.2.2))) else (some ((Int32.ofInt (-1)), h)))
theorem T_m_ask (b : Bool) (L : Nat) (xs : Nat → Int32) (d : Nat) (hd : 6 ≤ d) (h : pm_H) (s_h : h.1 = tb_SH) (l0 : Nat) (l1 : Int32) (f_l0 : mi_o l0 10 = true) {r : (Int32 × pm_H)} (hm : m_ask l0 l1 h = some r) : PC b L xs d 252 [(Value.ref l0), (Value.int l1)] h (fun (v0 : Option Value) (h2 : pm_H) => v0 = (some (Value.int r.1)) ∧ h2 = r.2 ∧ h2.1 = tb_SH) := by
  refine pc_in e252 (ls0 := [(Value.ref l0), (Value.int l1), Value.retAddr 0, Value.retAddr 0, Value.retAddr 0, Value.retAddr 0, Value.retAddr 0, Value.retAddr 0, Value.retAddr 0]) rfl ?_
  have key : ∀ (Q : Option Value → pm_H → Prop), (r.2.1 = tb_SH → Q (some (Value.int r.1)) r.2) → PW b L xs d 252 0 0 0 [(Value.ref l0), (Value.int l1), Value.retAddr 0, Value.retAddr 0, Value.retAddr 0, Value.retAddr 0, Value.retAddr 0, Value.retAddr 0, Value.retAddr 0] [] h Q := by
    intro Q hE
    rw [m_ask] at hm
    refine pw_l (pc := 0) d252_0 rfl rfl rfl ?_
    obtain ⟨q1, e_q1, hm⟩ := ob_x hm
    refine pw_v (pc := 1) (k := l0) (by omega) d252_1 (k252_305 b) (by decide) m192 (by decide) rfl (sho s_h f_l0) (Nat.le_of_ble_eq_true rfl) (Nat.le_of_ble_eq_true rfl) rfl rfl (T_m_isShip b L xs (d - 1) (by omega) h s_h l0 f_l0 e_q1) (fun v0 h0 hq => ?_)
    obtain ⟨rfl, hh0, s_q1⟩ := hq
    rw [hh0] at s_q1 ⊢
    simp only [Option.toList_some, List.cons_append, List.nil_append]
    refine pw_zeq (pc := 4) (t := 17) d252_4 (by decide) (fun c2 => ?_) (fun c2 => ?_)
    · rw [if_pos c2] at hm
      refine pw_s (pc := 17) d252_17 rfl rfl ?_
      obtain rfl := Option.some.inj hm
      refine pw_ri (pc := 18) d252_18 t252 rfl ?_
      exact hE s_h
    · rw [if_neg c2] at hm
      refine pw_l (pc := 7) d252_7 rfl rfl rfl ?_
      refine pw_s (pc := 8) d252_8 rfl rfl ?_
      refine pw_s (pc := 9) d252_9 rfl rfl ?_
      refine pw_s (pc := 10) d252_10 rfl rfl ?_
      obtain ⟨q3, e_q3, hm⟩ := ob_x hm
      refine pw_u (pc := 11) (by omega) d252_11 (k252_112 b) (by decide) m148 (Nat.le_of_ble_eq_true rfl) (Nat.le_of_ble_eq_true rfl) (Nat.le_of_ble_eq_true rfl) rfl rfl (T_m_in b L xs (d - 1) (by omega) h s_h l1.toInt64 (Int64.ofNat 0) (Int64.ofNat 1)  e_q3) (fun v0 h0 hq => ?_)
      obtain ⟨rfl, hh0, s_q3⟩ := hq
      rw [hh0] at s_q3 ⊢
      simp only [Option.toList_some, List.cons_append, List.nil_append]
      refine pw_zne (pc := 14) (t := 19) d252_14 (by decide) (fun c4 => ?_) (fun c4 => ?_)
      · rw [if_pos c4] at hm
        refine pw_l (pc := 19) d252_19 rfl rfl rfl ?_
        obtain ⟨q5, e_q5, hm⟩ := ob_x hm
        refine pw_v (pc := 20) (k := l0) (by omega) d252_20 (k252_356 b) (by decide) m201 (by decide) rfl (sho s_h f_l0) (Nat.le_of_ble_eq_true rfl) (Nat.le_of_ble_eq_true rfl) rfl rfl (T_m_aliveSet b L xs (d - 1) (by omega) h s_h l0 f_l0 e_q5) (fun v0 h0 hq => ?_)
        obtain ⟨rfl, hh0, s_q5⟩ := hq
        rw [hh0] at s_q5 ⊢
        simp only [Option.toList_some, List.cons_append, List.nil_append]
        refine pw_t (pc := 23) d252_23 rfl rfl rfl rfl ?_
        refine pw_l (pc := 24) d252_24 rfl rfl rfl ?_
        refine pw_l (pc := 25) d252_25 rfl rfl rfl ?_
        obtain ⟨q6, e_q6, hm⟩ := ob_x hm
        refine pw_v (pc := 26) (k := l0) (by omega) d252_26 (k252_342 b) (by decide) m220 (by decide) rfl (sho s_h f_l0) (Nat.le_of_ble_eq_true rfl) (Nat.le_of_ble_eq_true rfl) rfl rfl (T_m_gathersSays b L xs (d - 1) (by omega) h s_h l0 q5 f_l0 e_q6) (fun v0 h0 hq => ?_)
        obtain ⟨rfl, hh0, s_q6⟩ := hq
        rw [hh0] at s_q6 ⊢
        simp only [Option.toList_none, List.nil_append]
        refine pw_s (pc := 29) d252_29 rfl rfl ?_
        refine pw_t (pc := 31) d252_31 rfl rfl rfl rfl ?_
        refine pw_s (pc := 32) d252_32 rfl rfl ?_
        refine pw_t (pc := 34) d252_34 rfl rfl rfl rfl ?_
        refine pw_s (pc := 36) d252_36 rfl rfl ?_
        refine pw_t (pc := 37) d252_37 rfl rfl rfl rfl ?_
        obtain ⟨q7, e_q7, hm⟩ := ob_x hm
        refine wh_ind e_q7 (fun s : (Int32 × Int32 × Int32 × pm_H) => s.2.2.2.1 = tb_SH → ∀ w6 w7 w8 : Value, PW b L xs d 252 0 0 39 [(Value.ref l0), (Value.int l1), (Value.int q5), (Value.int s.1), (Value.int s.2.1), (Value.int s.2.2.1), w6, w7, w8] [] s.2.2.2 Q) (fun s s2 hf ih sx w6 w7 w8 => t_m_ask_39 b L xs d hd s.2.2.2 sx l0 l1 q5 s.1 s.2.1 s.2.2.1 w6 w7 w8 f_l0 hf ih) (fun s hf sx w6 w7 w8 => t_m_ask_39 b L xs d hd s.2.2.2 sx l0 l1 q5 s.1 s.2.1 s.2.2.1 w6 w7 w8 f_l0 hf ?_) s_q6  (Value.retAddr 0) (Value.retAddr 0) (Value.retAddr 0)
        intro s_q7_0 w0 w2 w5 w6 w7 w8
        refine pw_l (pc := 176) d252_176 rfl rfl rfl ?_
        refine pw_zne (pc := 177) (t := 184) d252_177 (by decide) (fun c8 => ?_) (fun c8 => ?_)
        · rw [if_pos c8] at hm
          refine pw_l (pc := 184) d252_184 rfl rfl rfl ?_
          obtain rfl := Option.some.inj hm
          refine pw_ri (pc := 186) d252_186 t252 rfl ?_
          exact hE s_q7_0
        · rw [if_neg c8] at hm
          refine pw_l (pc := 180) d252_180 rfl rfl rfl ?_
          refine pw_go (pc := 181) (t := 186) d252_181 (by decide) ?_
          obtain rfl := Option.some.inj hm
          refine pw_ri (pc := 186) d252_186 t252 rfl ?_
          exact hE s_q7_0
      · rw [if_neg c4] at hm
        refine pw_s (pc := 17) d252_17 rfl rfl ?_
        obtain rfl := Option.some.inj hm
        refine pw_ri (pc := 18) d252_18 t252 rfl ?_
        exact hE s_h
  exact key _ (fun q => ⟨rfl, rfl, q⟩)
noncomputable def m_seed (l0 : Nat) (l1 : Int32) (h : pm_H) : Option (Int32 × pm_H) := if 0 ≤ l1 then (bd (pm_setI h l0 21 l1) fun h2 => some ((h.2.1 l0 21), h2)) else (some ((Int32.ofInt (-1)), h))
theorem T_m_seed (b : Bool) (L : Nat) (xs : Nat → Int32) (d : Nat) (hd : 0 ≤ d) (h : pm_H) (s_h : h.1 = tb_SH) (l0 : Nat) (l1 : Int32) (f_l0 : mi_o l0 10 = true) {r : (Int32 × pm_H)} (hm : m_seed l0 l1 h = some r) : PC b L xs d 253 [(Value.ref l0), (Value.int l1)] h (fun (v0 : Option Value) (h2 : pm_H) => v0 = (some (Value.int r.1)) ∧ h2 = r.2 ∧ h2.1 = tb_SH) := by
  refine pc_in e253 (ls0 := [(Value.ref l0), (Value.int l1), Value.retAddr 0]) rfl ?_
  have key : ∀ (Q : Option Value → pm_H → Prop), (r.2.1 = tb_SH → Q (some (Value.int r.1)) r.2) → PW b L xs d 253 0 0 0 [(Value.ref l0), (Value.int l1), Value.retAddr 0] [] h Q := by
    intro Q hE
    rw [m_seed] at hm
    refine pw_l (pc := 0) d253_0 rfl rfl rfl ?_
    refine pw_zge (pc := 1) (t := 6) d253_1 (by decide) (fun c1 => ?_) (fun c1 => ?_)
    · rw [if_pos c1] at hm
      refine pw_l (pc := 6) d253_6 rfl rfl rfl ?_
      refine pw_gi (pc := 7) d253_7 (k253_416 b) (sho s_h f_l0) f10_21 ?_
      refine pw_t (pc := 10) d253_10 rfl rfl rfl rfl ?_
      refine pw_l (pc := 11) d253_11 rfl rfl rfl ?_
      refine pw_l (pc := 12) d253_12 rfl rfl rfl ?_
      refine pw_pi (pc := 13) d253_13 (k253_416 b) (sho s_h f_l0) p253_10_21 ?_
      obtain ⟨h2, e_h2, hm⟩ := bd_x hm
      rw [e_h2]
      have s_h2 : h2.1 = tb_SH := by rw [← e_h2]; exact s_h
      refine pw_l (pc := 16) d253_16 rfl rfl rfl ?_
      obtain rfl := Option.some.inj hm
      refine pw_ri (pc := 17) d253_17 t253 rfl ?_
      exact hE s_h2
    · rw [if_neg c1] at hm
      refine pw_s (pc := 4) d253_4 rfl rfl ?_
      obtain rfl := Option.some.inj hm
      refine pw_ri (pc := 5) d253_5 t253 rfl ?_
      exact hE s_h
  exact key _ (fun q => ⟨rfl, rfl, q⟩)
noncomputable def m_draw (l0 : Nat) (l1 : Int32) (h : pm_H) : Option (Int32 × pm_H) := bd (pm_setL h l0 31 ((((h.2.2.1 l0 31) * (1103515245 : Int64)) + (12345 : Int64)) - (((h.2.2.1 l0 31) * (1103515245 : Int64)) + (12345 : Int64)) / (2147483648 : Int64) * (2147483648 : Int64))) fun h1 => if mi_nzl l1.toInt64 = true then some ((((h1.2.2.1 l0 31) / (65536 : Int64)) - ((h1.2.2.1 l0 31) / (65536 : Int64)) / l1.toInt64 * l1.toInt64).toInt32, h1) else none
theorem T_m_draw (b : Bool) (L : Nat) (xs : Nat → Int32) (d : Nat) (hd : 0 ≤ d) (h : pm_H) (s_h : h.1 = tb_SH) (l0 : Nat) (l1 : Int32) (f_l0 : mi_o l0 10 = true) {r : (Int32 × pm_H)} (hm : m_draw l0 l1 h = some r) : PC b L xs d 254 [(Value.ref l0), (Value.int l1)] h (fun (v0 : Option Value) (h2 : pm_H) => v0 = (some (Value.int r.1)) ∧ h2 = r.2 ∧ h2.1 = tb_SH) := by
  refine pc_in e254 (ls0 := [(Value.ref l0), (Value.int l1)]) rfl ?_
  have key : ∀ (Q : Option Value → pm_H → Prop), (r.2.1 = tb_SH → Q (some (Value.int r.1)) r.2) → PW b L xs d 254 0 0 0 [(Value.ref l0), (Value.int l1)] [] h Q := by
    intro Q hE
    rw [m_draw] at hm
    refine pw_l (pc := 0) d254_0 rfl rfl rfl ?_
    refine pw_l (pc := 1) d254_1 rfl rfl rfl ?_
    refine pw_gl (pc := 2) d254_2 (k254_419 b) (sho s_h f_l0) f10_31 ?_
    refine pw_cl (pc := 5) d254_5 (k254_423 b) ?_
    refine pw_s (pc := 8) d254_8 rfl rfl ?_
    refine pw_cl (pc := 9) d254_9 (k254_425 b) ?_
    refine pw_s (pc := 12) d254_12 rfl rfl ?_
    refine pw_cl (pc := 13) d254_13 (k254_427 b) ?_
    refine pw_lre (pc := 16) d254_16 (by decide) ?_
    refine pw_pl (pc := 17) d254_17 (k254_419 b) (sho s_h f_l0) p254_10_31 ?_
    obtain ⟨h1, e_h1, hm⟩ := bd_x hm
    rw [e_h1]
    have s_h1 : h1.1 = tb_SH := by rw [← e_h1]; exact s_h
    refine pw_l (pc := 20) d254_20 rfl rfl rfl ?_
    refine pw_gl (pc := 21) d254_21 (k254_419 b) (sho s_h1 f_l0) f10_31 ?_
    refine pw_cl (pc := 24) d254_24 (k254_429 b) ?_
    refine pw_ldi (pc := 27) d254_27 (by decide) ?_
    refine pw_l (pc := 28) d254_28 rfl rfl rfl ?_
    refine pw_s (pc := 29) d254_29 rfl rfl ?_
    obtain ⟨g2, hm⟩ := gd_x hm
    refine pw_lre (pc := 30) d254_30 (mi_nzl_x g2) ?_
    refine pw_s (pc := 31) d254_31 rfl rfl ?_
    obtain rfl := Option.some.inj hm
    refine pw_ri (pc := 32) d254_32 t254 rfl ?_
    exact hE s_h1
  exact key _ (fun q => ⟨rfl, rfl, q⟩)
def E_m_voyages_271 (b : Bool) (L : Nat) (xs : Nat → Int32) (d : Nat) (Q : Option Value → pm_H → Prop) (l0 : Nat) (l1 : Int32) (l2 : Int32) (l3 : Int32) (l4 : Int32) (l5 : Int32) (l6 : Int32) (l8 : Int32) : ((Int32 × pm_H) ⊕ pm_H) → Prop
  | .inl s => s.2.1 = tb_SH → ∀ w7 w10 : Value, PW b L xs d 255 0 0 271 [(Value.ref l0), (Value.int l1), (Value.int l2), (Value.int l3), (Value.int l4), (Value.int l5), (Value.int l6), w7, (Value.int l8), (Value.int s.1), w10] [] s.2 Q
  | .inr e => e.1 = tb_SH → ∀ w7 w9 w10 : Value, PW b L xs d 255 0 0 298 [(Value.ref l0), (Value.int l1), (Value.int l2), (Value.int l3), (Value.int l4), (Value.int l5), (Value.int l6), w7, (Value.int l8), w9, w10] [] e Q
def E_m_voyages_163 (b : Bool) (L : Nat) (xs : Nat → Int32) (d : Nat) (Q : Option Value → pm_H → Prop) (l0 : Nat) (l1 : Int32) (l2 : Int32) (l3 : Int32) (l4 : Int32) (l5 : Int32) (l6 : Int32) (l8 : Int32) (l9 : Int32) : ((Int32 × pm_H) ⊕ pm_H) → Prop
  | .inl s => s.2.1 = tb_SH → ∀ w7 : Value, PW b L xs d 255 0 0 163 [(Value.ref l0), (Value.int l1), (Value.int l2), (Value.int l3), (Value.int l4), (Value.int l5), (Value.int l6), w7, (Value.int l8), (Value.int l9), (Value.int s.1)] [] s.2 Q
  | .inr e => e.1 = tb_SH → ∀ w7 w10 : Value, PW b L xs d 255 0 0 219 [(Value.ref l0), (Value.int l1), (Value.int l2), (Value.int l3), (Value.int l4), (Value.int l5), (Value.int l6), w7, (Value.int l8), (Value.int l9), w10] [] e Q
def E_m_voyages_143 (b : Bool) (L : Nat) (xs : Nat → Int32) (d : Nat) (Q : Option Value → pm_H → Prop) (l0 : Nat) (l1 : Int32) (l2 : Int32) (l3 : Int32) (l4 : Int32) (l8 : Int32) : ((Int32 × Int32 × Int32 × pm_H) ⊕ (Int32 × Int32 × pm_H)) → Prop
  | .inl s => s.2.2.2.1 = tb_SH → ∀ w7 w10 : Value, PW b L xs d 255 0 0 143 [(Value.ref l0), (Value.int l1), (Value.int l2), (Value.int l3), (Value.int l4), (Value.int s.1), (Value.int s.2.1), w7, (Value.int l8), (Value.int s.2.2.1), w10] [] s.2.2.2 Q
  | .inr e => e.2.2.1 = tb_SH → ∀ w7 w9 w10 : Value, PW b L xs d 255 0 0 268 [(Value.ref l0), (Value.int l1), (Value.int l2), (Value.int l3), (Value.int l4), (Value.int e.1), (Value.int e.2.1), w7, (Value.int l8), w9, w10] [] e.2.2 Q
def E_m_voyages_134 (b : Bool) (L : Nat) (xs : Nat → Int32) (d : Nat) (Q : Option Value → pm_H → Prop) (l0 : Nat) (l1 : Int32) (l2 : Int32) (l3 : Int32) (l4 : Int32) : ((Int32 × Int32 × Int32 × pm_H) ⊕ (Int32 × Int32 × pm_H)) → Prop
  | .inl s => s.2.2.2.1 = tb_SH → ∀ w7 w9 w10 : Value, PW b L xs d 255 0 0 134 [(Value.ref l0), (Value.int l1), (Value.int l2), (Value.int l3), (Value.int l4), (Value.int s.1), (Value.int s.2.1), w7, (Value.int s.2.2.1), w9, w10] [] s.2.2.2 Q
  | .inr e => e.2.2.1 = tb_SH → ∀ w0 w1 w2 w3 w7 w8 w9 w10 : Value, PW b L xs d 255 0 0 304 [w0, w1, w2, w3, (Value.int l4), (Value.int e.1), (Value.int e.2.1), w7, w8, w9, w10] [] e.2.2 Q
def E_m_voyages_104 (b : Bool) (L : Nat) (xs : Nat → Int32) (d : Nat) (Q : Option Value → pm_H → Prop) (l0 : Nat) (l1 : Int32) (l2 : Int32) (l3 : Int32) (l4 : Int32) (l5 : Int32) (l6 : Int32) : ((Int32 × pm_H) ⊕ pm_H) → Prop
  | .inl s => s.2.1 = tb_SH → ∀ w7 w9 w10 : Value, PW b L xs d 255 0 0 104 [(Value.ref l0), (Value.int l1), (Value.int l2), (Value.int l3), (Value.int l4), (Value.int l5), (Value.int l6), w7, (Value.int s.1), w9, w10] [] s.2 Q
  | .inr e => e.1 = tb_SH → ∀ w7 w8 w9 w10 : Value, PW b L xs d 255 0 0 131 [(Value.ref l0), (Value.int l1), (Value.int l2), (Value.int l3), (Value.int l4), (Value.int l5), (Value.int l6), w7, w8, w9, w10] [] e Q
noncomputable def m_voyages_271 (l0 : Nat) (l1 : Int32) (l2 : Int32) (l3 : Int32) (l4 : Int32) (l5 : Int32) (l6 : Int32) (l8 : Int32) (l9 : Int32) (h : pm_H) : Option ((Int32 × pm_H) ⊕ pm_H) := if (Int8.ofInt 58).toInt32 ≤ l9 then (some (.inr h)) else ((gA h l0 20 .int).bind fun y2 => (gA h l0 30 .int).bind fun y3 => if mi_in l9 (mi_n y3) = true then if mi_in l9 (mi_n y2) = true then bd (pm_setI h y2 l9.toNatClampNeg (h.2.1 y3 l9.toNatClampNeg)) fun h6 => some (.inl ((l9 + Int32.ofInt 1), h6)) else none else none)
theorem t_m_voyages_271 (b : Bool) (L : Nat) (xs : Nat → Int32) (d : Nat) (hd : 6 ≤ d) {Q : Option Value → pm_H → Prop} (h : pm_H) (s_h : h.1 = tb_SH) (l0 : Nat) (l1 : Int32) (l2 : Int32) (l3 : Int32) (l4 : Int32) (l5 : Int32) (l6 : Int32) (l8 : Int32) (l9 : Int32) (w7 : Value) (w10 : Value) (f_l0 : mi_o l0 10 = true) {r : ((Int32 × pm_H) ⊕ pm_H)} (hm : m_voyages_271 l0 l1 l2 l3 l4 l5 l6 l8 l9 h = some r) (hE : E_m_voyages_271 b L xs d Q l0 l1 l2 l3 l4 l5 l6 l8 r) : PW b L xs d 255 0 0 271 [(Value.ref l0), (Value.int l1), (Value.int l2), (Value.int l3), (Value.int l4), (Value.int l5), (Value.int l6), w7, (Value.int l8), (Value.int l9), w10] [] h Q := by
  rw [m_voyages_271] at hm
  refine pw_l (pc := 271) d255_271 rfl rfl rfl ?_
  refine pw_s (pc := 273) d255_273 rfl rfl ?_
  refine pw_ige (pc := 275) (t := 298) d255_275 (by decide) (fun c1 => ?_) (fun c1 => ?_)
  · rw [if_pos c1] at hm
    obtain rfl := Option.some.inj hm
    exact hE s_h  w7 (Value.int l9) w10
  · rw [if_neg c1] at hm
    refine pw_l (pc := 278) d255_278 rfl rfl rfl ?_
    obtain ⟨y2, e_y2, hm⟩ := ob_x hm
    have f_y2 := gA_x e_y2
    refine pw_gr (pc := 279) d255_279 (k255_39 b) (sho s_h f_l0) f10_20 f_y2.1 ?_
    refine pw_l (pc := 282) d255_282 rfl rfl rfl ?_
    refine pw_l (pc := 284) d255_284 rfl rfl rfl ?_
    obtain ⟨y3, e_y3, hm⟩ := ob_x hm
    have f_y3 := gA_x e_y3
    refine pw_gr (pc := 285) d255_285 (k255_60 b) (sho s_h f_l0) f10_30 f_y3.1 ?_
    refine pw_l (pc := 288) d255_288 rfl rfl rfl ?_
    obtain ⟨g4, hm⟩ := gd_x hm
    refine pw_ai (pc := 290) d255_290 (sha s_h f_y3.2) (mi_in_x g4) ?_
    obtain ⟨g5, hm⟩ := gd_x hm
    refine pw_si (pc := 291) d255_291 (sha s_h f_y2.2) (mi_in_x g5) ?_
    obtain ⟨h6, e_h6, hm⟩ := bd_x hm
    rw [e_h6]
    have s_h6 : h6.1 = tb_SH := by rw [← e_h6]; exact s_h
    refine pw_t (pc := 292) d255_292 rfl rfl rfl rfl ?_
    refine pw_go (pc := 295) (t := 271) d255_295 (by decide) ?_
    obtain rfl := Option.some.inj hm
    exact hE s_h6  w7 w10
noncomputable def m_voyages_212 (l0 : Nat) (l1 : Int32) (l2 : Int32) (l3 : Int32) (l4 : Int32) (l5 : Int32) (l6 : Int32) (l8 : Int32) (l9 : Int32) (l10 : Int32) (z0 : Int32) (z1 : Int32) (z2 : Nat) (h : pm_H) : Option ((Int32 × pm_H) ⊕ pm_H) := if mi_in z1 (mi_n z2) = true then bd (pm_setI h z2 z1.toNatClampNeg z0) fun h2 => some (.inl ((l10 + Int32.ofInt 1), h2)) else none
theorem t_m_voyages_212 (b : Bool) (L : Nat) (xs : Nat → Int32) (d : Nat) (hd : 6 ≤ d) {Q : Option Value → pm_H → Prop} (h : pm_H) (s_h : h.1 = tb_SH) (l0 : Nat) (l1 : Int32) (l2 : Int32) (l3 : Int32) (l4 : Int32) (l5 : Int32) (l6 : Int32) (l8 : Int32) (l9 : Int32) (l10 : Int32) (z0 : Int32) (z1 : Int32) (z2 : Nat) (w7 : Value) (f_l0 : mi_o l0 10 = true) (f_z2 : mi_a z2 .int = true) {r : ((Int32 × pm_H) ⊕ pm_H)} (hm : m_voyages_212 l0 l1 l2 l3 l4 l5 l6 l8 l9 l10 z0 z1 z2 h = some r) (hE : E_m_voyages_163 b L xs d Q l0 l1 l2 l3 l4 l5 l6 l8 l9 r) : PW b L xs d 255 0 0 212 [(Value.ref l0), (Value.int l1), (Value.int l2), (Value.int l3), (Value.int l4), (Value.int l5), (Value.int l6), w7, (Value.int l8), (Value.int l9), (Value.int l10)] [(Value.int z0), (Value.int z1), (Value.ref z2)] h Q := by
  rw [m_voyages_212] at hm
  obtain ⟨g1, hm⟩ := gd_x hm
  refine pw_si (pc := 212) d255_212 (sha s_h f_z2) (mi_in_x g1) ?_
  obtain ⟨h2, e_h2, hm⟩ := bd_x hm
  rw [e_h2]
  have s_h2 : h2.1 = tb_SH := by rw [← e_h2]; exact s_h
  refine pw_t (pc := 213) d255_213 rfl rfl rfl rfl ?_
  refine pw_go (pc := 216) (t := 163) d255_216 (by decide) ?_
  obtain rfl := Option.some.inj hm
  exact hE s_h2  w7
noncomputable def m_voyages_163 (l0 : Nat) (l1 : Int32) (l2 : Int32) (l3 : Int32) (l4 : Int32) (l5 : Int32) (l6 : Int32) (l8 : Int32) (l9 : Int32) (l10 : Int32) (h : pm_H) : Option ((Int32 × pm_H) ⊕ pm_H) := (gA h l0 20 .int).bind fun y1 => if mi_in (Int32.ofInt 1) (mi_n y1) = true then if (h.2.1 y1 (Int32.ofInt 1).toNatClampNeg) ≤ l10 then (some (.inr h)) else ((m_isAlive l0 l10 h).bind fun q4 => if q4 = 0 then (some (.inl ((l10 + Int32.ofInt 1), h))) else ((gA h l0 20 .int).bind fun y6 => (m_draw l0 ((Int8.ofInt 100).toInt32) h).bind fun q7 => if l3 ≤ q7.1 then (m_voyages_212 l0 l1 l2 l3 l4 l5 l6 l8 l9 l10 (Int32.ofInt 1) (((Int8.ofInt 10).toInt32 + ((Int8.ofInt 6).toInt32 * l10)) + (Int32.ofInt 2)) y6 q7.2) else (m_voyages_212 l0 l1 l2 l3 l4 l5 l6 l8 l9 l10 (Int32.ofInt 0) (((Int8.ofInt 10).toInt32 + ((Int8.ofInt 6).toInt32 * l10)) + (Int32.ofInt 2)) y6 q7.2))) else none
theorem t_m_voyages_163 (b : Bool) (L : Nat) (xs : Nat → Int32) (d : Nat) (hd : 6 ≤ d) {Q : Option Value → pm_H → Prop} (h : pm_H) (s_h : h.1 = tb_SH) (l0 : Nat) (l1 : Int32) (l2 : Int32) (l3 : Int32) (l4 : Int32) (l5 : Int32) (l6 : Int32) (l8 : Int32) (l9 : Int32) (l10 : Int32) (w7 : Value) (f_l0 : mi_o l0 10 = true) {r : ((Int32 × pm_H) ⊕ pm_H)} (hm : m_voyages_163 l0 l1 l2 l3 l4 l5 l6 l8 l9 l10 h = some r) (hE : E_m_voyages_163 b L xs d Q l0 l1 l2 l3 l4 l5 l6 l8 l9 r) : PW b L xs d 255 0 0 163 [(Value.ref l0), (Value.int l1), (Value.int l2), (Value.int l3), (Value.int l4), (Value.int l5), (Value.int l6), w7, (Value.int l8), (Value.int l9), (Value.int l10)] [] h Q := by
  rw [m_voyages_163] at hm
  refine pw_l (pc := 163) d255_163 rfl rfl rfl ?_
  refine pw_l (pc := 165) d255_165 rfl rfl rfl ?_
  obtain ⟨y1, e_y1, hm⟩ := ob_x hm
  have f_y1 := gA_x e_y1
  refine pw_gr (pc := 166) d255_166 (k255_39 b) (sho s_h f_l0) f10_20 f_y1.1 ?_
  refine pw_s (pc := 169) d255_169 rfl rfl ?_
  obtain ⟨g2, hm⟩ := gd_x hm
  refine pw_ai (pc := 170) d255_170 (sha s_h f_y1.2) (mi_in_x g2) ?_
  refine pw_ige (pc := 171) (t := 219) d255_171 (by decide) (fun c3 => ?_) (fun c3 => ?_)
  · rw [if_pos c3] at hm
    obtain rfl := Option.some.inj hm
    exact hE s_h  w7 (Value.int l10)
  · rw [if_neg c3] at hm
    refine pw_l (pc := 174) d255_174 rfl rfl rfl ?_
    refine pw_l (pc := 175) d255_175 rfl rfl rfl ?_
    obtain ⟨q4, e_q4, hm⟩ := ob_x hm
    refine pw_v (pc := 177) (k := l0) (by omega) d255_177 (k255_277 b) (by decide) m197 (by decide) rfl (sho s_h f_l0) (Nat.le_of_ble_eq_true rfl) (Nat.le_of_ble_eq_true rfl) rfl rfl (T_m_isAlive b L xs (d - 1) (by omega) h s_h l0 l10 f_l0 e_q4) (fun v0 h0 hq => ?_)
    obtain ⟨rfl, hh0, s_q4⟩ := hq
    rw [hh0] at s_q4 ⊢
    simp only [Option.toList_some, List.cons_append, List.nil_append]
    refine pw_zeq (pc := 180) (t := 213) d255_180 (by decide) (fun c5 => ?_) (fun c5 => ?_)
    · rw [if_pos c5] at hm
      refine pw_t (pc := 213) d255_213 rfl rfl rfl rfl ?_
      refine pw_go (pc := 216) (t := 163) d255_216 (by decide) ?_
      obtain rfl := Option.some.inj hm
      exact hE s_h  w7
    · rw [if_neg c5] at hm
      refine pw_l (pc := 183) d255_183 rfl rfl rfl ?_
      obtain ⟨y6, e_y6, hm⟩ := ob_x hm
      have f_y6 := gA_x e_y6
      refine pw_gr (pc := 184) d255_184 (k255_39 b) (sho s_h f_l0) f10_20 f_y6.1 ?_
      refine pw_s (pc := 187) d255_187 rfl rfl ?_
      refine pw_s (pc := 189) d255_189 rfl rfl ?_
      refine pw_l (pc := 191) d255_191 rfl rfl rfl ?_
      refine pw_s (pc := 193) d255_193 rfl rfl ?_
      refine pw_s (pc := 194) d255_194 rfl rfl ?_
      refine pw_s (pc := 195) d255_195 rfl rfl ?_
      refine pw_s (pc := 196) d255_196 rfl rfl ?_
      refine pw_l (pc := 197) d255_197 rfl rfl rfl ?_
      refine pw_s (pc := 198) d255_198 rfl rfl ?_
      obtain ⟨q7, e_q7, hm⟩ := ob_x hm
      refine pw_v (pc := 200) (k := l0) (by omega) d255_200 (k255_437 b) (by decide) m254 (by decide) rfl (sho s_h f_l0) (Nat.le_of_ble_eq_true rfl) (Nat.le_of_ble_eq_true rfl) rfl rfl (T_m_draw b L xs (d - 1) (by omega) h s_h l0 ((Int8.ofInt 100).toInt32) f_l0 e_q7) (fun v0 h0 hq => ?_)
      obtain ⟨rfl, hh0, s_q7⟩ := hq
      rw [hh0] at s_q7 ⊢
      simp only [Option.toList_some, List.cons_append, List.nil_append]
      refine pw_l (pc := 203) d255_203 rfl rfl rfl ?_
      refine pw_ige (pc := 204) (t := 211) d255_204 (by decide) (fun c8 => ?_) (fun c8 => ?_)
      · rw [if_pos c8] at hm
        refine pw_s (pc := 211) d255_211 rfl rfl ?_
        exact t_m_voyages_212 b L xs d hd q7.2 s_q7 l0 l1 l2 l3 l4 l5 l6 l8 l9 l10 (Int32.ofInt 1) (((Int8.ofInt 10).toInt32 + ((Int8.ofInt 6).toInt32 * l10)) + (Int32.ofInt 2)) y6 w7 f_l0 f_y6.2 hm hE
      · rw [if_neg c8] at hm
        refine pw_s (pc := 207) d255_207 rfl rfl ?_
        refine pw_go (pc := 208) (t := 212) d255_208 (by decide) ?_
        exact t_m_voyages_212 b L xs d hd q7.2 s_q7 l0 l1 l2 l3 l4 l5 l6 l8 l9 l10 (Int32.ofInt 0) (((Int8.ofInt 10).toInt32 + ((Int8.ofInt 6).toInt32 * l10)) + (Int32.ofInt 2)) y6 w7 f_l0 f_y6.2 hm hE
noncomputable def m_voyages_143 (l0 : Nat) (l1 : Int32) (l2 : Int32) (l3 : Int32) (l4 : Int32) (l5 : Int32) (l6 : Int32) (l8 : Int32) (l9 : Int32) (h : pm_H) : Option ((Int32 × Int32 × Int32 × pm_H) ⊕ (Int32 × Int32 × pm_H)) := if l2 ≤ l9 then (some (.inr (l5, l6, h))) else ((gA h l0 20 .int).bind fun y2 => (m_draw l0 (Int32.ofInt 3) h).bind fun q3 => if mi_in (Int32.ofInt 5) (mi_n y2) = true then bd (pm_setI q3.2 y2 (Int32.ofInt 5).toNatClampNeg q3.1) fun h5 => (wh (fun s : (Int32 × pm_H) => m_voyages_163 l0 l1 l2 l3 l4 l5 l6 l8 l9 s.1 s.2) ((Int32.ofInt 0), h5)).bind fun q6 => (m_allOrders l0 q6).bind fun q7 => (gA q6 l0 26 .int).bind fun y8 => (m_heardSet l0 q6).bind fun q9 => if mi_in q9 (mi_n y8) = true then (m_bits (q7 &&& ((q6.2.1 y8 q9.toNatClampNeg) ^^^ (Int32.ofInt (-1)))) q6).bind fun q11 => (m_needOf l0 (q7 &&& ((q6.2.1 y8 q9.toNatClampNeg) ^^^ (Int32.ofInt (-1)))) q6).bind fun q12 => (m_passes l0 q6).bind fun q13 => some (.inl ((l5 + q11), (l6 + q12), (l9 + Int32.ofInt 1), q13)) else none else none)
theorem t_m_voyages_143 (b : Bool) (L : Nat) (xs : Nat → Int32) (d : Nat) (hd : 6 ≤ d) {Q : Option Value → pm_H → Prop} (h : pm_H) (s_h : h.1 = tb_SH) (l0 : Nat) (l1 : Int32) (l2 : Int32) (l3 : Int32) (l4 : Int32) (l5 : Int32) (l6 : Int32) (l8 : Int32) (l9 : Int32) (w7 : Value) (w10 : Value) (f_l0 : mi_o l0 10 = true) {r : ((Int32 × Int32 × Int32 × pm_H) ⊕ (Int32 × Int32 × pm_H))} (hm : m_voyages_143 l0 l1 l2 l3 l4 l5 l6 l8 l9 h = some r) (hE : E_m_voyages_143 b L xs d Q l0 l1 l2 l3 l4 l8 r) : PW b L xs d 255 0 0 143 [(Value.ref l0), (Value.int l1), (Value.int l2), (Value.int l3), (Value.int l4), (Value.int l5), (Value.int l6), w7, (Value.int l8), (Value.int l9), w10] [] h Q := by
  rw [m_voyages_143] at hm
  refine pw_l (pc := 143) d255_143 rfl rfl rfl ?_
  refine pw_l (pc := 145) d255_145 rfl rfl rfl ?_
  refine pw_ige (pc := 146) (t := 268) d255_146 (by decide) (fun c1 => ?_) (fun c1 => ?_)
  · rw [if_pos c1] at hm
    obtain rfl := Option.some.inj hm
    exact hE s_h  w7 (Value.int l9) w10
  · rw [if_neg c1] at hm
    refine pw_l (pc := 149) d255_149 rfl rfl rfl ?_
    obtain ⟨y2, e_y2, hm⟩ := ob_x hm
    have f_y2 := gA_x e_y2
    refine pw_gr (pc := 150) d255_150 (k255_39 b) (sho s_h f_l0) f10_20 f_y2.1 ?_
    refine pw_s (pc := 153) d255_153 rfl rfl ?_
    refine pw_l (pc := 154) d255_154 rfl rfl rfl ?_
    refine pw_s (pc := 155) d255_155 rfl rfl ?_
    obtain ⟨q3, e_q3, hm⟩ := ob_x hm
    refine pw_v (pc := 156) (k := l0) (by omega) d255_156 (k255_437 b) (by decide) m254 (by decide) rfl (sho s_h f_l0) (Nat.le_of_ble_eq_true rfl) (Nat.le_of_ble_eq_true rfl) rfl rfl (T_m_draw b L xs (d - 1) (by omega) h s_h l0 (Int32.ofInt 3) f_l0 e_q3) (fun v0 h0 hq => ?_)
    obtain ⟨rfl, hh0, s_q3⟩ := hq
    rw [hh0] at s_q3 ⊢
    simp only [Option.toList_some, List.cons_append, List.nil_append]
    obtain ⟨g4, hm⟩ := gd_x hm
    refine pw_si (pc := 159) d255_159 (sha s_q3 f_y2.2) (mi_in_x g4) ?_
    obtain ⟨h5, e_h5, hm⟩ := bd_x hm
    rw [e_h5]
    have s_h5 : h5.1 = tb_SH := by rw [← e_h5]; exact s_q3
    refine pw_s (pc := 160) d255_160 rfl rfl ?_
    refine pw_t (pc := 161) d255_161 rfl rfl rfl rfl ?_
    obtain ⟨q6, e_q6, hm⟩ := ob_x hm
    refine wh_ind e_q6 (fun s : (Int32 × pm_H) => s.2.1 = tb_SH → ∀ w7 : Value, PW b L xs d 255 0 0 163 [(Value.ref l0), (Value.int l1), (Value.int l2), (Value.int l3), (Value.int l4), (Value.int l5), (Value.int l6), w7, (Value.int l8), (Value.int l9), (Value.int s.1)] [] s.2 Q) (fun s s2 hf ih sx w7 => t_m_voyages_163 b L xs d hd s.2 sx l0 l1 l2 l3 l4 l5 l6 l8 l9 s.1 w7 f_l0 hf ih) (fun s hf sx w7 => t_m_voyages_163 b L xs d hd s.2 sx l0 l1 l2 l3 l4 l5 l6 l8 l9 s.1 w7 f_l0 hf ?_) s_h5  w7
    intro s_q6_0 w7 w10
    refine pw_l (pc := 219) d255_219 rfl rfl rfl ?_
    obtain ⟨q7, e_q7, hm⟩ := ob_x hm
    refine pw_v (pc := 220) (k := l0) (by omega) d255_220 (k255_393 b) (by decide) m223 (by decide) rfl (sho s_q6_0 f_l0) (Nat.le_of_ble_eq_true rfl) (Nat.le_of_ble_eq_true rfl) rfl rfl (T_m_allOrders b L xs (d - 1) (by omega) q6 s_q6_0 l0 f_l0 e_q7) (fun v0 h0 hq => ?_)
    obtain ⟨rfl, hh0, s_q7⟩ := hq
    rw [hh0] at s_q7 ⊢
    simp only [Option.toList_some, List.cons_append, List.nil_append]
    refine pw_l (pc := 223) d255_223 rfl rfl rfl ?_
    obtain ⟨y8, e_y8, hm⟩ := ob_x hm
    have f_y8 := gA_x e_y8
    refine pw_gr (pc := 224) d255_224 (k255_51 b) (sho s_q6_0 f_l0) f10_26 f_y8.1 ?_
    refine pw_l (pc := 227) d255_227 rfl rfl rfl ?_
    obtain ⟨q9, e_q9, hm⟩ := ob_x hm
    refine pw_v (pc := 228) (k := l0) (by omega) d255_228 (k255_383 b) (by decide) m200 (by decide) rfl (sho s_q6_0 f_l0) (Nat.le_of_ble_eq_true rfl) (Nat.le_of_ble_eq_true rfl) rfl rfl (T_m_heardSet b L xs (d - 1) (by omega) q6 s_q6_0 l0 f_l0 e_q9) (fun v0 h0 hq => ?_)
    obtain ⟨rfl, hh0, s_q9⟩ := hq
    rw [hh0] at s_q9 ⊢
    simp only [Option.toList_some, List.cons_append, List.nil_append]
    obtain ⟨g10, hm⟩ := gd_x hm
    refine pw_ai (pc := 231) d255_231 (sha s_q6_0 f_y8.2) (mi_in_x g10) ?_
    refine pw_s (pc := 232) d255_232 rfl rfl ?_
    refine pw_s (pc := 233) d255_233 rfl rfl ?_
    refine pw_s (pc := 234) d255_234 rfl rfl ?_
    refine pw_t (pc := 235) d255_235 rfl rfl rfl rfl ?_
    refine pw_l (pc := 237) d255_237 rfl rfl rfl ?_
    refine pw_l (pc := 239) d255_239 rfl rfl rfl ?_
    obtain ⟨q11, e_q11, hm⟩ := ob_x hm
    refine pw_u (pc := 241) (by omega) d255_241 (k255_336 b) (by decide) m150 (Nat.le_of_ble_eq_true rfl) (Nat.le_of_ble_eq_true rfl) (Nat.le_of_ble_eq_true rfl) rfl rfl (T_m_bits b L xs (d - 1) (by omega) q6 s_q6_0 (q7 &&& ((q6.2.1 y8 q9.toNatClampNeg) ^^^ (Int32.ofInt (-1))))  e_q11) (fun v0 h0 hq => ?_)
    obtain ⟨rfl, hh0, s_q11⟩ := hq
    rw [hh0] at s_q11 ⊢
    simp only [Option.toList_some, List.cons_append, List.nil_append]
    refine pw_s (pc := 244) d255_244 rfl rfl ?_
    refine pw_t (pc := 245) d255_245 rfl rfl rfl rfl ?_
    refine pw_l (pc := 247) d255_247 rfl rfl rfl ?_
    refine pw_l (pc := 249) d255_249 rfl rfl rfl ?_
    refine pw_l (pc := 250) d255_250 rfl rfl rfl ?_
    obtain ⟨q12, e_q12, hm⟩ := ob_x hm
    refine pw_v (pc := 252) (k := l0) (by omega) d255_252 (k255_398 b) (by decide) m222 (by decide) rfl (sho s_q6_0 f_l0) (Nat.le_of_ble_eq_true rfl) (Nat.le_of_ble_eq_true rfl) rfl rfl (T_m_needOf b L xs (d - 1) (by omega) q6 s_q6_0 l0 (q7 &&& ((q6.2.1 y8 q9.toNatClampNeg) ^^^ (Int32.ofInt (-1)))) f_l0 e_q12) (fun v0 h0 hq => ?_)
    obtain ⟨rfl, hh0, s_q12⟩ := hq
    rw [hh0] at s_q12 ⊢
    simp only [Option.toList_some, List.cons_append, List.nil_append]
    refine pw_s (pc := 255) d255_255 rfl rfl ?_
    refine pw_t (pc := 256) d255_256 rfl rfl rfl rfl ?_
    refine pw_l (pc := 258) d255_258 rfl rfl rfl ?_
    obtain ⟨q13, e_q13, hm⟩ := ob_x hm
    refine pw_v (pc := 259) (k := l0) (by omega) d255_259 (k255_351 b) (by decide) m227 (by decide) rfl (sho s_q6_0 f_l0) (Nat.le_of_ble_eq_true rfl) (Nat.le_of_ble_eq_true rfl) rfl rfl (T_m_passes b L xs (d - 1) (by omega) q6 s_q6_0 l0 f_l0 e_q13) (fun v0 h0 hq => ?_)
    obtain ⟨rfl, hh0, s_q13⟩ := hq
    rw [hh0] at s_q13 ⊢
    simp only [Option.toList_none, List.nil_append]
    refine pw_t (pc := 262) d255_262 rfl rfl rfl rfl ?_
    refine pw_go (pc := 265) (t := 143) d255_265 (by decide) ?_
    obtain rfl := Option.some.inj hm
    exact hE s_q13  w7 (Value.int (q7 &&& ((q6.2.1 y8 q9.toNatClampNeg) ^^^ (Int32.ofInt (-1)))))
noncomputable def m_voyages_134 (l0 : Nat) (l1 : Int32) (l2 : Int32) (l3 : Int32) (l4 : Int32) (l5 : Int32) (l6 : Int32) (l8 : Int32) (h : pm_H) : Option ((Int32 × Int32 × Int32 × pm_H) ⊕ (Int32 × Int32 × pm_H)) := if l1 ≤ l8 then (some (.inr (l5, l6, h))) else ((wh (fun s : (Int32 × Int32 × Int32 × pm_H) => m_voyages_143 l0 l1 l2 l3 l4 s.1 s.2.1 l8 s.2.2.1 s.2.2.2) (l5, l6, (Int32.ofInt 0), h)).bind fun q2 => (wh (fun s : (Int32 × pm_H) => m_voyages_271 l0 l1 l2 l3 l4 q2.1 q2.2.1 l8 s.1 s.2) ((Int32.ofInt 0), q2.2.2)).bind fun q3 => some (.inl (q2.1, q2.2.1, (l8 + Int32.ofInt 1), q3)))
theorem t_m_voyages_134 (b : Bool) (L : Nat) (xs : Nat → Int32) (d : Nat) (hd : 6 ≤ d) {Q : Option Value → pm_H → Prop} (h : pm_H) (s_h : h.1 = tb_SH) (l0 : Nat) (l1 : Int32) (l2 : Int32) (l3 : Int32) (l4 : Int32) (l5 : Int32) (l6 : Int32) (l8 : Int32) (w7 : Value) (w9 : Value) (w10 : Value) (f_l0 : mi_o l0 10 = true) {r : ((Int32 × Int32 × Int32 × pm_H) ⊕ (Int32 × Int32 × pm_H))} (hm : m_voyages_134 l0 l1 l2 l3 l4 l5 l6 l8 h = some r) (hE : E_m_voyages_134 b L xs d Q l0 l1 l2 l3 l4 r) : PW b L xs d 255 0 0 134 [(Value.ref l0), (Value.int l1), (Value.int l2), (Value.int l3), (Value.int l4), (Value.int l5), (Value.int l6), w7, (Value.int l8), w9, w10] [] h Q := by
  rw [m_voyages_134] at hm
  refine pw_l (pc := 134) d255_134 rfl rfl rfl ?_
  refine pw_l (pc := 136) d255_136 rfl rfl rfl ?_
  refine pw_ige (pc := 137) (t := 304) d255_137 (by decide) (fun c1 => ?_) (fun c1 => ?_)
  · rw [if_pos c1] at hm
    obtain rfl := Option.some.inj hm
    exact hE s_h  (Value.ref l0) (Value.int l1) (Value.int l2) (Value.int l3) w7 (Value.int l8) w9 w10
  · rw [if_neg c1] at hm
    refine pw_s (pc := 140) d255_140 rfl rfl ?_
    refine pw_t (pc := 141) d255_141 rfl rfl rfl rfl ?_
    obtain ⟨q2, e_q2, hm⟩ := ob_x hm
    refine wh_ind e_q2 (fun s : (Int32 × Int32 × Int32 × pm_H) => s.2.2.2.1 = tb_SH → ∀ w7 w10 : Value, PW b L xs d 255 0 0 143 [(Value.ref l0), (Value.int l1), (Value.int l2), (Value.int l3), (Value.int l4), (Value.int s.1), (Value.int s.2.1), w7, (Value.int l8), (Value.int s.2.2.1), w10] [] s.2.2.2 Q) (fun s s2 hf ih sx w7 w10 => t_m_voyages_143 b L xs d hd s.2.2.2 sx l0 l1 l2 l3 l4 s.1 s.2.1 l8 s.2.2.1 w7 w10 f_l0 hf ih) (fun s hf sx w7 w10 => t_m_voyages_143 b L xs d hd s.2.2.2 sx l0 l1 l2 l3 l4 s.1 s.2.1 l8 s.2.2.1 w7 w10 f_l0 hf ?_) s_h  w7 w10
    intro s_q2_0 w7 w9 w10
    refine pw_s (pc := 268) d255_268 rfl rfl ?_
    refine pw_t (pc := 269) d255_269 rfl rfl rfl rfl ?_
    obtain ⟨q3, e_q3, hm⟩ := ob_x hm
    refine wh_ind e_q3 (fun s : (Int32 × pm_H) => s.2.1 = tb_SH → ∀ w7 w10 : Value, PW b L xs d 255 0 0 271 [(Value.ref l0), (Value.int l1), (Value.int l2), (Value.int l3), (Value.int l4), (Value.int q2.1), (Value.int q2.2.1), w7, (Value.int l8), (Value.int s.1), w10] [] s.2 Q) (fun s s2 hf ih sx w7 w10 => t_m_voyages_271 b L xs d hd s.2 sx l0 l1 l2 l3 l4 q2.1 q2.2.1 l8 s.1 w7 w10 f_l0 hf ih) (fun s hf sx w7 w10 => t_m_voyages_271 b L xs d hd s.2 sx l0 l1 l2 l3 l4 q2.1 q2.2.1 l8 s.1 w7 w10 f_l0 hf ?_) s_q2_0  w7 w10
    intro s_q3_0 w7 w9 w10
    refine pw_t (pc := 298) d255_298 rfl rfl rfl (n := 3) (ls' := [(Value.ref l0), (Value.int l1), (Value.int l2), (Value.int l3), (Value.int l4), (Value.int q2.1), (Value.int q2.2.1), (mi_w w7), (Value.int (l8 + Int32.ofInt 1)), w9, w10]) (st' := []) (by by_cases hw : Value.category w7 = 2 <;> simp [pm_sto, pm_sI, pm_sL, pm_sA, pm_inc, pm_st1, pm_st2, pm_pre, mi_w, hw] <;> first | done | exact ⟨by decide, rfl⟩ | rfl) ?_
    refine pw_go (pc := 301) (t := 134) d255_301 (by decide) ?_
    obtain rfl := Option.some.inj hm
    exact hE s_q3_0  (mi_w w7) w9 w10
noncomputable def m_voyages_104 (l0 : Nat) (l1 : Int32) (l2 : Int32) (l3 : Int32) (l4 : Int32) (l5 : Int32) (l6 : Int32) (l8 : Int32) (h : pm_H) : Option ((Int32 × pm_H) ⊕ pm_H) := if (Int8.ofInt 58).toInt32 ≤ l8 then (some (.inr h)) else ((gA h l0 30 .int).bind fun y2 => (gA h l0 20 .int).bind fun y3 => if mi_in l8 (mi_n y3) = true then if mi_in l8 (mi_n y2) = true then bd (pm_setI h y2 l8.toNatClampNeg (h.2.1 y3 l8.toNatClampNeg)) fun h6 => some (.inl ((l8 + Int32.ofInt 1), h6)) else none else none)
theorem t_m_voyages_104 (b : Bool) (L : Nat) (xs : Nat → Int32) (d : Nat) (hd : 6 ≤ d) {Q : Option Value → pm_H → Prop} (h : pm_H) (s_h : h.1 = tb_SH) (l0 : Nat) (l1 : Int32) (l2 : Int32) (l3 : Int32) (l4 : Int32) (l5 : Int32) (l6 : Int32) (l8 : Int32) (w7 : Value) (w9 : Value) (w10 : Value) (f_l0 : mi_o l0 10 = true) {r : ((Int32 × pm_H) ⊕ pm_H)} (hm : m_voyages_104 l0 l1 l2 l3 l4 l5 l6 l8 h = some r) (hE : E_m_voyages_104 b L xs d Q l0 l1 l2 l3 l4 l5 l6 r) : PW b L xs d 255 0 0 104 [(Value.ref l0), (Value.int l1), (Value.int l2), (Value.int l3), (Value.int l4), (Value.int l5), (Value.int l6), w7, (Value.int l8), w9, w10] [] h Q := by
  rw [m_voyages_104] at hm
  refine pw_l (pc := 104) d255_104 rfl rfl rfl ?_
  refine pw_s (pc := 106) d255_106 rfl rfl ?_
  refine pw_ige (pc := 108) (t := 131) d255_108 (by decide) (fun c1 => ?_) (fun c1 => ?_)
  · rw [if_pos c1] at hm
    obtain rfl := Option.some.inj hm
    exact hE s_h  w7 (Value.int l8) w9 w10
  · rw [if_neg c1] at hm
    refine pw_l (pc := 111) d255_111 rfl rfl rfl ?_
    obtain ⟨y2, e_y2, hm⟩ := ob_x hm
    have f_y2 := gA_x e_y2
    refine pw_gr (pc := 112) d255_112 (k255_60 b) (sho s_h f_l0) f10_30 f_y2.1 ?_
    refine pw_l (pc := 115) d255_115 rfl rfl rfl ?_
    refine pw_l (pc := 117) d255_117 rfl rfl rfl ?_
    obtain ⟨y3, e_y3, hm⟩ := ob_x hm
    have f_y3 := gA_x e_y3
    refine pw_gr (pc := 118) d255_118 (k255_39 b) (sho s_h f_l0) f10_20 f_y3.1 ?_
    refine pw_l (pc := 121) d255_121 rfl rfl rfl ?_
    obtain ⟨g4, hm⟩ := gd_x hm
    refine pw_ai (pc := 123) d255_123 (sha s_h f_y3.2) (mi_in_x g4) ?_
    obtain ⟨g5, hm⟩ := gd_x hm
    refine pw_si (pc := 124) d255_124 (sha s_h f_y2.2) (mi_in_x g5) ?_
    obtain ⟨h6, e_h6, hm⟩ := bd_x hm
    rw [e_h6]
    have s_h6 : h6.1 = tb_SH := by rw [← e_h6]; exact s_h
    refine pw_t (pc := 125) d255_125 rfl rfl rfl (n := 3) (ls' := [(Value.ref l0), (Value.int l1), (Value.int l2), (Value.int l3), (Value.int l4), (Value.int l5), (Value.int l6), (mi_w w7), (Value.int (l8 + Int32.ofInt 1)), w9, w10]) (st' := []) (by by_cases hw : Value.category w7 = 2 <;> simp [pm_sto, pm_sI, pm_sL, pm_sA, pm_inc, pm_st1, pm_st2, pm_pre, mi_w, hw] <;> first | done | exact ⟨by decide, rfl⟩ | rfl) ?_
    refine pw_go (pc := 128) (t := 104) d255_128 (by decide) ?_
    obtain rfl := Option.some.inj hm
    exact hE s_h6  (mi_w w7) w9 w10
noncomputable def m_voyages_88 (l0 : Nat) (l1 : Int32) (l2 : Int32) (l3 : Int32) (l4 : Int32) (l5 : Int32) (l6 : Int32) (z0 : Int32) (h : pm_H) : Option (Int32 × pm_H) := (m_aliveSet l0 h).bind fun q1 => (m_gathersSays l0 (q1 ||| z0) h).bind fun q2 => (wh (fun s : (Int32 × pm_H) => m_voyages_104 l0 l1 l2 l3 l4 l5 l6 s.1 s.2) ((Int32.ofInt 0), q2)).bind fun q3 => (wh (fun s : (Int32 × Int32 × Int32 × pm_H) => m_voyages_134 l0 l1 l2 l3 l4 s.1 s.2.1 s.2.2.1 s.2.2.2) (l5, l6, (Int32.ofInt 0), q3)).bind fun q4 => if ¬ l4 = 0 then (some (q4.2.1, q4.2.2)) else (some (q4.1, q4.2.2))
theorem t_m_voyages_88 (b : Bool) (L : Nat) (xs : Nat → Int32) (d : Nat) (hd : 6 ≤ d) {Q : Option Value → pm_H → Prop} (h : pm_H) (s_h : h.1 = tb_SH) (l0 : Nat) (l1 : Int32) (l2 : Int32) (l3 : Int32) (l4 : Int32) (l5 : Int32) (l6 : Int32) (z0 : Int32) (w7 : Value) (w8 : Value) (w9 : Value) (w10 : Value) (f_l0 : mi_o l0 10 = true) {r : (Int32 × pm_H)} (hm : m_voyages_88 l0 l1 l2 l3 l4 l5 l6 z0 h = some r) (hE : r.2.1 = tb_SH → Q (some (Value.int r.1)) r.2) : PW b L xs d 255 0 0 88 [(Value.ref l0), (Value.int l1), (Value.int l2), (Value.int l3), (Value.int l4), (Value.int l5), (Value.int l6), w7, w8, w9, w10] [(Value.int z0)] h Q := by
  rw [m_voyages_88] at hm
  refine pw_t (pc := 88) d255_88 rfl rfl rfl rfl ?_
  refine pw_l (pc := 90) d255_90 rfl rfl rfl ?_
  refine pw_l (pc := 91) d255_91 rfl rfl rfl ?_
  obtain ⟨q1, e_q1, hm⟩ := ob_x hm
  refine pw_v (pc := 92) (k := l0) (by omega) d255_92 (k255_356 b) (by decide) m201 (by decide) rfl (sho s_h f_l0) (Nat.le_of_ble_eq_true rfl) (Nat.le_of_ble_eq_true rfl) rfl rfl (T_m_aliveSet b L xs (d - 1) (by omega) h s_h l0 f_l0 e_q1) (fun v0 h0 hq => ?_)
  obtain ⟨rfl, hh0, s_q1⟩ := hq
  rw [hh0] at s_q1 ⊢
  simp only [Option.toList_some, List.cons_append, List.nil_append]
  refine pw_l (pc := 95) d255_95 rfl rfl rfl ?_
  refine pw_s (pc := 97) d255_97 rfl rfl ?_
  obtain ⟨q2, e_q2, hm⟩ := ob_x hm
  refine pw_v (pc := 98) (k := l0) (by omega) d255_98 (k255_342 b) (by decide) m220 (by decide) rfl (sho s_h f_l0) (Nat.le_of_ble_eq_true rfl) (Nat.le_of_ble_eq_true rfl) rfl rfl (T_m_gathersSays b L xs (d - 1) (by omega) h s_h l0 (q1 ||| z0) f_l0 e_q2) (fun v0 h0 hq => ?_)
  obtain ⟨rfl, hh0, s_q2⟩ := hq
  rw [hh0] at s_q2 ⊢
  simp only [Option.toList_none, List.nil_append]
  refine pw_s (pc := 101) d255_101 rfl rfl ?_
  refine pw_t (pc := 102) d255_102 rfl rfl rfl rfl ?_
  obtain ⟨q3, e_q3, hm⟩ := ob_x hm
  refine wh_ind e_q3 (fun s : (Int32 × pm_H) => s.2.1 = tb_SH → ∀ w7 w9 w10 : Value, PW b L xs d 255 0 0 104 [(Value.ref l0), (Value.int l1), (Value.int l2), (Value.int l3), (Value.int l4), (Value.int l5), (Value.int l6), w7, (Value.int s.1), w9, w10] [] s.2 Q) (fun s s2 hf ih sx w7 w9 w10 => t_m_voyages_104 b L xs d hd s.2 sx l0 l1 l2 l3 l4 l5 l6 s.1 w7 w9 w10 f_l0 hf ih) (fun s hf sx w7 w9 w10 => t_m_voyages_104 b L xs d hd s.2 sx l0 l1 l2 l3 l4 l5 l6 s.1 w7 w9 w10 f_l0 hf ?_) s_q2  (Value.int z0) w9 w10
  intro s_q3_0 w7 w8 w9 w10
  refine pw_s (pc := 131) d255_131 rfl rfl ?_
  refine pw_t (pc := 132) d255_132 rfl rfl rfl (n := 2) (ls' := [(Value.ref l0), (Value.int l1), (Value.int l2), (Value.int l3), (Value.int l4), (Value.int l5), (Value.int l6), (mi_w w7), (Value.int (Int32.ofInt 0)), w9, w10]) (st' := []) (by by_cases hw : Value.category w7 = 2 <;> simp [pm_sto, pm_sI, pm_sL, pm_sA, pm_inc, pm_st1, pm_st2, pm_pre, mi_w, hw] <;> first | done | exact ⟨by decide, rfl⟩ | rfl) ?_
  obtain ⟨q4, e_q4, hm⟩ := ob_x hm
  refine wh_ind e_q4 (fun s : (Int32 × Int32 × Int32 × pm_H) => s.2.2.2.1 = tb_SH → ∀ w7 w9 w10 : Value, PW b L xs d 255 0 0 134 [(Value.ref l0), (Value.int l1), (Value.int l2), (Value.int l3), (Value.int l4), (Value.int s.1), (Value.int s.2.1), w7, (Value.int s.2.2.1), w9, w10] [] s.2.2.2 Q) (fun s s2 hf ih sx w7 w9 w10 => t_m_voyages_134 b L xs d hd s.2.2.2 sx l0 l1 l2 l3 l4 s.1 s.2.1 s.2.2.1 w7 w9 w10 f_l0 hf ih) (fun s hf sx w7 w9 w10 => t_m_voyages_134 b L xs d hd s.2.2.2 sx l0 l1 l2 l3 l4 s.1 s.2.1 s.2.2.1 w7 w9 w10 f_l0 hf ?_) s_q3_0  (mi_w w7) w9 w10
  intro s_q4_0 w0 w1 w2 w3 w7 w8 w9 w10
  refine pw_l (pc := 304) d255_304 rfl rfl rfl ?_
  refine pw_zne (pc := 306) (t := 314) d255_306 (by decide) (fun c5 => ?_) (fun c5 => ?_)
  · rw [if_pos c5] at hm
    refine pw_l (pc := 314) d255_314 rfl rfl rfl ?_
    obtain rfl := Option.some.inj hm
    refine pw_ri (pc := 316) d255_316 t255 rfl ?_
    exact hE s_q4_0
  · rw [if_neg c5] at hm
    refine pw_l (pc := 309) d255_309 rfl rfl rfl ?_
    refine pw_go (pc := 311) (t := 316) d255_311 (by decide) ?_
    obtain rfl := Option.some.inj hm
    refine pw_ri (pc := 316) d255_316 t255 rfl ?_
    exact hE s_q4_0
noncomputable def m_voyages (l0 : Nat) (l1 : Int32) (l2 : Int32) (l3 : Int32) (l4 : Int32) (h : pm_H) : Option (Int32 × pm_H) := (m_isShip l0 h).bind fun q1 => if q1 = 0 then (some ((Int32.ofInt (-1)), h)) else ((m_in l1.toInt64 (Int64.ofNat 1) (10 : Int64) h).bind fun q3 => if q3 = 0 then (some ((Int32.ofInt (-1)), h)) else ((m_in l2.toInt64 (Int64.ofNat 1) (20 : Int64) h).bind fun q5 => if q5 = 0 then (some ((Int32.ofInt (-1)), h)) else ((m_in l3.toInt64 (Int64.ofNat 0) (100 : Int64) h).bind fun q7 => if q7 = 0 then (some ((Int32.ofInt (-1)), h)) else ((m_in l4.toInt64 (Int64.ofNat 0) (Int64.ofNat 1) h).bind fun q9 => if ¬ q9 = 0 then (bd (pm_setL h l0 31 ((h.2.1 l0 21).toInt64)) fun h11 => (gA h11 l0 20 .int).bind fun y12 => if mi_in ((Int8.ofInt 6).toInt32) (mi_n y12) = true then if (h11.2.1 y12 ((Int8.ofInt 6).toInt32).toNatClampNeg) < 0 then (m_voyages_88 l0 l1 l2 l3 l4 (Int32.ofInt 0) (Int32.ofInt 0) (Int32.ofInt 0) h11) else (m_voyages_88 l0 l1 l2 l3 l4 (Int32.ofInt 0) (Int32.ofInt 0) ((Int16.ofInt 256).toInt32) h11) else none) else (some ((Int32.ofInt (-1)), h))))))
theorem T_m_voyages (b : Bool) (L : Nat) (xs : Nat → Int32) (d : Nat) (hd : 6 ≤ d) (h : pm_H) (s_h : h.1 = tb_SH) (l0 : Nat) (l1 : Int32) (l2 : Int32) (l3 : Int32) (l4 : Int32) (f_l0 : mi_o l0 10 = true) {r : (Int32 × pm_H)} (hm : m_voyages l0 l1 l2 l3 l4 h = some r) : PC b L xs d 255 [(Value.ref l0), (Value.int l1), (Value.int l2), (Value.int l3), (Value.int l4)] h (fun (v0 : Option Value) (h2 : pm_H) => v0 = (some (Value.int r.1)) ∧ h2 = r.2 ∧ h2.1 = tb_SH) := by
  refine pc_in e255 (ls0 := [(Value.ref l0), (Value.int l1), (Value.int l2), (Value.int l3), (Value.int l4), Value.retAddr 0, Value.retAddr 0, Value.retAddr 0, Value.retAddr 0, Value.retAddr 0, Value.retAddr 0]) rfl ?_
  have key : ∀ (Q : Option Value → pm_H → Prop), (r.2.1 = tb_SH → Q (some (Value.int r.1)) r.2) → PW b L xs d 255 0 0 0 [(Value.ref l0), (Value.int l1), (Value.int l2), (Value.int l3), (Value.int l4), Value.retAddr 0, Value.retAddr 0, Value.retAddr 0, Value.retAddr 0, Value.retAddr 0, Value.retAddr 0] [] h Q := by
    intro Q hE
    rw [m_voyages] at hm
    refine pw_l (pc := 0) d255_0 rfl rfl rfl ?_
    obtain ⟨q1, e_q1, hm⟩ := ob_x hm
    refine pw_v (pc := 1) (k := l0) (by omega) d255_1 (k255_305 b) (by decide) m192 (by decide) rfl (sho s_h f_l0) (Nat.le_of_ble_eq_true rfl) (Nat.le_of_ble_eq_true rfl) rfl rfl (T_m_isShip b L xs (d - 1) (by omega) h s_h l0 f_l0 e_q1) (fun v0 h0 hq => ?_)
    obtain ⟨rfl, hh0, s_q1⟩ := hq
    rw [hh0] at s_q1 ⊢
    simp only [Option.toList_some, List.cons_append, List.nil_append]
    refine pw_zeq (pc := 4) (t := 54) d255_4 (by decide) (fun c2 => ?_) (fun c2 => ?_)
    · rw [if_pos c2] at hm
      refine pw_s (pc := 54) d255_54 rfl rfl ?_
      obtain rfl := Option.some.inj hm
      refine pw_ri (pc := 55) d255_55 t255 rfl ?_
      exact hE s_h
    · rw [if_neg c2] at hm
      refine pw_l (pc := 7) d255_7 rfl rfl rfl ?_
      refine pw_s (pc := 8) d255_8 rfl rfl ?_
      refine pw_s (pc := 9) d255_9 rfl rfl ?_
      refine pw_cl (pc := 10) d255_10 (k255_431 b) ?_
      obtain ⟨q3, e_q3, hm⟩ := ob_x hm
      refine pw_u (pc := 13) (by omega) d255_13 (k255_112 b) (by decide) m148 (Nat.le_of_ble_eq_true rfl) (Nat.le_of_ble_eq_true rfl) (Nat.le_of_ble_eq_true rfl) rfl rfl (T_m_in b L xs (d - 1) (by omega) h s_h l1.toInt64 (Int64.ofNat 1) (10 : Int64)  e_q3) (fun v0 h0 hq => ?_)
      obtain ⟨rfl, hh0, s_q3⟩ := hq
      rw [hh0] at s_q3 ⊢
      simp only [Option.toList_some, List.cons_append, List.nil_append]
      refine pw_zeq (pc := 16) (t := 54) d255_16 (by decide) (fun c4 => ?_) (fun c4 => ?_)
      · rw [if_pos c4] at hm
        refine pw_s (pc := 54) d255_54 rfl rfl ?_
        obtain rfl := Option.some.inj hm
        refine pw_ri (pc := 55) d255_55 t255 rfl ?_
        exact hE s_h
      · rw [if_neg c4] at hm
        refine pw_l (pc := 19) d255_19 rfl rfl rfl ?_
        refine pw_s (pc := 20) d255_20 rfl rfl ?_
        refine pw_s (pc := 21) d255_21 rfl rfl ?_
        refine pw_cl (pc := 22) d255_22 (k255_433 b) ?_
        obtain ⟨q5, e_q5, hm⟩ := ob_x hm
        refine pw_u (pc := 25) (by omega) d255_25 (k255_112 b) (by decide) m148 (Nat.le_of_ble_eq_true rfl) (Nat.le_of_ble_eq_true rfl) (Nat.le_of_ble_eq_true rfl) rfl rfl (T_m_in b L xs (d - 1) (by omega) h s_h l2.toInt64 (Int64.ofNat 1) (20 : Int64)  e_q5) (fun v0 h0 hq => ?_)
        obtain ⟨rfl, hh0, s_q5⟩ := hq
        rw [hh0] at s_q5 ⊢
        simp only [Option.toList_some, List.cons_append, List.nil_append]
        refine pw_zeq (pc := 28) (t := 54) d255_28 (by decide) (fun c6 => ?_) (fun c6 => ?_)
        · rw [if_pos c6] at hm
          refine pw_s (pc := 54) d255_54 rfl rfl ?_
          obtain rfl := Option.some.inj hm
          refine pw_ri (pc := 55) d255_55 t255 rfl ?_
          exact hE s_h
        · rw [if_neg c6] at hm
          refine pw_l (pc := 31) d255_31 rfl rfl rfl ?_
          refine pw_s (pc := 32) d255_32 rfl rfl ?_
          refine pw_s (pc := 33) d255_33 rfl rfl ?_
          refine pw_cl (pc := 34) d255_34 (k255_435 b) ?_
          obtain ⟨q7, e_q7, hm⟩ := ob_x hm
          refine pw_u (pc := 37) (by omega) d255_37 (k255_112 b) (by decide) m148 (Nat.le_of_ble_eq_true rfl) (Nat.le_of_ble_eq_true rfl) (Nat.le_of_ble_eq_true rfl) rfl rfl (T_m_in b L xs (d - 1) (by omega) h s_h l3.toInt64 (Int64.ofNat 0) (100 : Int64)  e_q7) (fun v0 h0 hq => ?_)
          obtain ⟨rfl, hh0, s_q7⟩ := hq
          rw [hh0] at s_q7 ⊢
          simp only [Option.toList_some, List.cons_append, List.nil_append]
          refine pw_zeq (pc := 40) (t := 54) d255_40 (by decide) (fun c8 => ?_) (fun c8 => ?_)
          · rw [if_pos c8] at hm
            refine pw_s (pc := 54) d255_54 rfl rfl ?_
            obtain rfl := Option.some.inj hm
            refine pw_ri (pc := 55) d255_55 t255 rfl ?_
            exact hE s_h
          · rw [if_neg c8] at hm
            refine pw_l (pc := 43) d255_43 rfl rfl rfl ?_
            refine pw_s (pc := 45) d255_45 rfl rfl ?_
            refine pw_s (pc := 46) d255_46 rfl rfl ?_
            refine pw_s (pc := 47) d255_47 rfl rfl ?_
            obtain ⟨q9, e_q9, hm⟩ := ob_x hm
            refine pw_u (pc := 48) (by omega) d255_48 (k255_112 b) (by decide) m148 (Nat.le_of_ble_eq_true rfl) (Nat.le_of_ble_eq_true rfl) (Nat.le_of_ble_eq_true rfl) rfl rfl (T_m_in b L xs (d - 1) (by omega) h s_h l4.toInt64 (Int64.ofNat 0) (Int64.ofNat 1)  e_q9) (fun v0 h0 hq => ?_)
            obtain ⟨rfl, hh0, s_q9⟩ := hq
            rw [hh0] at s_q9 ⊢
            simp only [Option.toList_some, List.cons_append, List.nil_append]
            refine pw_zne (pc := 51) (t := 56) d255_51 (by decide) (fun c10 => ?_) (fun c10 => ?_)
            · rw [if_pos c10] at hm
              refine pw_l (pc := 56) d255_56 rfl rfl rfl ?_
              refine pw_l (pc := 57) d255_57 rfl rfl rfl ?_
              refine pw_gi (pc := 58) d255_58 (k255_416 b) (sho s_h f_l0) f10_21 ?_
              refine pw_s (pc := 61) d255_61 rfl rfl ?_
              refine pw_pl (pc := 62) d255_62 (k255_419 b) (sho s_h f_l0) p255_10_31 ?_
              obtain ⟨h11, e_h11, hm⟩ := bd_x hm
              rw [e_h11]
              have s_h11 : h11.1 = tb_SH := by rw [← e_h11]; exact s_h
              refine pw_s (pc := 65) d255_65 rfl rfl ?_
              refine pw_t (pc := 66) d255_66 rfl rfl rfl rfl ?_
              refine pw_s (pc := 68) d255_68 rfl rfl ?_
              refine pw_t (pc := 69) d255_69 rfl rfl rfl rfl ?_
              refine pw_l (pc := 71) d255_71 rfl rfl rfl ?_
              obtain ⟨y12, e_y12, hm⟩ := ob_x hm
              have f_y12 := gA_x e_y12
              refine pw_gr (pc := 72) d255_72 (k255_39 b) (sho s_h11 f_l0) f10_20 f_y12.1 ?_
              refine pw_s (pc := 75) d255_75 rfl rfl ?_
              obtain ⟨g13, hm⟩ := gd_x hm
              refine pw_ai (pc := 77) d255_77 (sha s_h11 f_y12.2) (mi_in_x g13) ?_
              refine pw_zlt (pc := 78) (t := 87) d255_78 (by decide) (fun c14 => ?_) (fun c14 => ?_)
              · rw [if_pos c14] at hm
                refine pw_s (pc := 87) d255_87 rfl rfl ?_
                exact t_m_voyages_88 b L xs d hd h11 s_h11 l0 l1 l2 l3 l4 (Int32.ofInt 0) (Int32.ofInt 0) (Int32.ofInt 0) (Value.retAddr 0) (Value.retAddr 0) (Value.retAddr 0) (Value.retAddr 0) f_l0  hm hE
              · rw [if_neg c14] at hm
                refine pw_s (pc := 81) d255_81 rfl rfl ?_
                refine pw_go (pc := 84) (t := 88) d255_84 (by decide) ?_
                exact t_m_voyages_88 b L xs d hd h11 s_h11 l0 l1 l2 l3 l4 (Int32.ofInt 0) (Int32.ofInt 0) ((Int16.ofInt 256).toInt32) (Value.retAddr 0) (Value.retAddr 0) (Value.retAddr 0) (Value.retAddr 0) f_l0  hm hE
            · rw [if_neg c10] at hm
              refine pw_s (pc := 54) d255_54 rfl rfl ?_
              obtain rfl := Option.some.inj hm
              refine pw_ri (pc := 55) d255_55 t255 rfl ?_
              exact hE s_h
  exact key _ (fun q => ⟨rfl, rfl, q⟩)
noncomputable def m_count (l0 : Nat) (l1 : Int32) (h : pm_H) : Option Int32 := if l1 = (0 : Int32) then ((gA h l0 20 .int).bind fun y2 => if mi_in l1 (mi_n y2) = true then some (h.2.1 y2 l1.toNatClampNeg) else none) else (if l1 = (1 : Int32) then ((gA h l0 20 .int).bind fun y5 => if mi_in l1 (mi_n y5) = true then some (h.2.1 y5 l1.toNatClampNeg) else none) else (if l1 = (2 : Int32) then ((gA h l0 20 .int).bind fun y8 => if mi_in l1 (mi_n y8) = true then some (h.2.1 y8 l1.toNatClampNeg) else none) else (if l1 = (3 : Int32) then ((gA h l0 20 .int).bind fun y11 => if mi_in l1 (mi_n y11) = true then some (h.2.1 y11 l1.toNatClampNeg) else none) else (if l1 = (4 : Int32) then (some (h.2.1 l0 2)) else (if l1 = (5 : Int32) then ((gA h l0 20 .int).bind fun y15 => if mi_in (Int32.ofInt 4) (mi_n y15) = true then some (h.2.1 y15 (Int32.ofInt 4).toNatClampNeg) else none) else (if l1 = (6 : Int32) then ((gA h l0 20 .int).bind fun y18 => if mi_in (Int32.ofInt 5) (mi_n y18) = true then some (h.2.1 y18 (Int32.ofInt 5).toNatClampNeg) else none) else (if l1 = (7 : Int32) then ((m_awakeSet l0 h).bind fun q21 => some q21) else (if l1 = (8 : Int32) then ((m_heardSet l0 h).bind fun q23 => some q23) else (if l1 = (9 : Int32) then ((gA h l0 20 .int).bind fun y25 => if mi_in (Int32.ofInt 1) (mi_n y25) = true then (m_aliveSet l0 h).bind fun q27 => some ((((Int32.ofInt 1) <<< ((h.2.1 y25 (Int32.ofInt 1).toNatClampNeg) &&& 31)) - (Int32.ofInt 1)) &&& (q27 ^^^ (Int32.ofInt (-1)))) else none) else (if l1 = (10 : Int32) then ((gA h l0 20 .int).bind fun y29 => if mi_in ((Int8.ofInt 6).toInt32) (mi_n y29) = true then some (h.2.1 y29 ((Int8.ofInt 6).toInt32).toNatClampNeg) else none) else (if l1 = (11 : Int32) then ((gA h l0 20 .int).bind fun y32 => if mi_in ((Int16.ofInt 226).toInt32) (mi_n y32) = true then some (h.2.1 y32 ((Int16.ofInt 226).toInt32).toNatClampNeg) else none) else (if l1 = (12 : Int32) then (some (h.2.1 l0 28)) else (if l1 = (13 : Int32) then (some (h.2.1 l0 21)) else (if l1 = (14 : Int32) then (some (h.2.1 l0 1)) else (some (Int32.ofInt (-1)))))))))))))))))
theorem T_m_count (b : Bool) (L : Nat) (xs : Nat → Int32) (d : Nat) (hd : 4 ≤ d) (h : pm_H) (s_h : h.1 = tb_SH) (l0 : Nat) (l1 : Int32) (f_l0 : mi_o l0 10 = true) {r : Int32} (hm : m_count l0 l1 h = some r) : PC b L xs d 256 [(Value.ref l0), (Value.int l1)] h (fun (v0 : Option Value) (h2 : pm_H) => v0 = (some (Value.int r)) ∧ h2 = h ∧ h2.1 = tb_SH) := by
  refine pc_in e256 (ls0 := [(Value.ref l0), (Value.int l1)]) rfl ?_
  have key : ∀ (Q : Option Value → pm_H → Prop), (Q (some (Value.int r)) h) → PW b L xs d 256 0 0 0 [(Value.ref l0), (Value.int l1)] [] h Q := by
    intro Q hE
    rw [m_count] at hm
    refine pw_l (pc := 0) d256_0 rfl rfl rfl ?_
    by_cases c1 : l1 = (0 : Int32)
    · rw [if_pos c1] at hm
      refine pw_tin (pc := 1) (t := 76) (off := 75) d256_1 (by rw [c1]; decide) (by rw [c1]; decide +kernel) (by decide) ?_
      refine pw_l (pc := 76) d256_76 rfl rfl rfl ?_
      obtain ⟨y2, e_y2, hm⟩ := ob_x hm
      have f_y2 := gA_x e_y2
      refine pw_gr (pc := 77) d256_77 (k256_39 b) (sho s_h f_l0) f10_20 f_y2.1 ?_
      refine pw_l (pc := 80) d256_80 rfl rfl rfl ?_
      obtain ⟨g3, hm⟩ := gd_x hm
      refine pw_ai (pc := 81) d256_81 (sha s_h f_y2.2) (mi_in_x g3) ?_
      obtain rfl := Option.some.inj hm
      refine pw_ri (pc := 82) d256_82 t256 rfl ?_
      exact hE
    rw [if_neg c1] at hm
    by_cases c4 : l1 = (1 : Int32)
    · rw [if_pos c4] at hm
      refine pw_tin (pc := 1) (t := 76) (off := 75) d256_1 (by rw [c4]; decide) (by rw [c4]; decide +kernel) (by decide) ?_
      refine pw_l (pc := 76) d256_76 rfl rfl rfl ?_
      obtain ⟨y5, e_y5, hm⟩ := ob_x hm
      have f_y5 := gA_x e_y5
      refine pw_gr (pc := 77) d256_77 (k256_39 b) (sho s_h f_l0) f10_20 f_y5.1 ?_
      refine pw_l (pc := 80) d256_80 rfl rfl rfl ?_
      obtain ⟨g6, hm⟩ := gd_x hm
      refine pw_ai (pc := 81) d256_81 (sha s_h f_y5.2) (mi_in_x g6) ?_
      obtain rfl := Option.some.inj hm
      refine pw_ri (pc := 82) d256_82 t256 rfl ?_
      exact hE
    rw [if_neg c4] at hm
    by_cases c7 : l1 = (2 : Int32)
    · rw [if_pos c7] at hm
      refine pw_tin (pc := 1) (t := 76) (off := 75) d256_1 (by rw [c7]; decide) (by rw [c7]; decide +kernel) (by decide) ?_
      refine pw_l (pc := 76) d256_76 rfl rfl rfl ?_
      obtain ⟨y8, e_y8, hm⟩ := ob_x hm
      have f_y8 := gA_x e_y8
      refine pw_gr (pc := 77) d256_77 (k256_39 b) (sho s_h f_l0) f10_20 f_y8.1 ?_
      refine pw_l (pc := 80) d256_80 rfl rfl rfl ?_
      obtain ⟨g9, hm⟩ := gd_x hm
      refine pw_ai (pc := 81) d256_81 (sha s_h f_y8.2) (mi_in_x g9) ?_
      obtain rfl := Option.some.inj hm
      refine pw_ri (pc := 82) d256_82 t256 rfl ?_
      exact hE
    rw [if_neg c7] at hm
    by_cases c10 : l1 = (3 : Int32)
    · rw [if_pos c10] at hm
      refine pw_tin (pc := 1) (t := 76) (off := 75) d256_1 (by rw [c10]; decide) (by rw [c10]; decide +kernel) (by decide) ?_
      refine pw_l (pc := 76) d256_76 rfl rfl rfl ?_
      obtain ⟨y11, e_y11, hm⟩ := ob_x hm
      have f_y11 := gA_x e_y11
      refine pw_gr (pc := 77) d256_77 (k256_39 b) (sho s_h f_l0) f10_20 f_y11.1 ?_
      refine pw_l (pc := 80) d256_80 rfl rfl rfl ?_
      obtain ⟨g12, hm⟩ := gd_x hm
      refine pw_ai (pc := 81) d256_81 (sha s_h f_y11.2) (mi_in_x g12) ?_
      obtain rfl := Option.some.inj hm
      refine pw_ri (pc := 82) d256_82 t256 rfl ?_
      exact hE
    rw [if_neg c10] at hm
    by_cases c13 : l1 = (4 : Int32)
    · rw [if_pos c13] at hm
      refine pw_tin (pc := 1) (t := 83) (off := 82) d256_1 (by rw [c13]; decide) (by rw [c13]; decide +kernel) (by decide) ?_
      refine pw_l (pc := 83) d256_83 rfl rfl rfl ?_
      refine pw_gi (pc := 84) d256_84 (k256_246 b) (sho s_h f_l0) f10_2 ?_
      obtain rfl := Option.some.inj hm
      refine pw_ri (pc := 87) d256_87 t256 rfl ?_
      exact hE
    rw [if_neg c13] at hm
    by_cases c14 : l1 = (5 : Int32)
    · rw [if_pos c14] at hm
      refine pw_tin (pc := 1) (t := 88) (off := 87) d256_1 (by rw [c14]; decide) (by rw [c14]; decide +kernel) (by decide) ?_
      refine pw_l (pc := 88) d256_88 rfl rfl rfl ?_
      obtain ⟨y15, e_y15, hm⟩ := ob_x hm
      have f_y15 := gA_x e_y15
      refine pw_gr (pc := 89) d256_89 (k256_39 b) (sho s_h f_l0) f10_20 f_y15.1 ?_
      refine pw_s (pc := 92) d256_92 rfl rfl ?_
      obtain ⟨g16, hm⟩ := gd_x hm
      refine pw_ai (pc := 93) d256_93 (sha s_h f_y15.2) (mi_in_x g16) ?_
      obtain rfl := Option.some.inj hm
      refine pw_ri (pc := 94) d256_94 t256 rfl ?_
      exact hE
    rw [if_neg c14] at hm
    by_cases c17 : l1 = (6 : Int32)
    · rw [if_pos c17] at hm
      refine pw_tin (pc := 1) (t := 95) (off := 94) d256_1 (by rw [c17]; decide) (by rw [c17]; decide +kernel) (by decide) ?_
      refine pw_l (pc := 95) d256_95 rfl rfl rfl ?_
      obtain ⟨y18, e_y18, hm⟩ := ob_x hm
      have f_y18 := gA_x e_y18
      refine pw_gr (pc := 96) d256_96 (k256_39 b) (sho s_h f_l0) f10_20 f_y18.1 ?_
      refine pw_s (pc := 99) d256_99 rfl rfl ?_
      obtain ⟨g19, hm⟩ := gd_x hm
      refine pw_ai (pc := 100) d256_100 (sha s_h f_y18.2) (mi_in_x g19) ?_
      obtain rfl := Option.some.inj hm
      refine pw_ri (pc := 101) d256_101 t256 rfl ?_
      exact hE
    rw [if_neg c17] at hm
    by_cases c20 : l1 = (7 : Int32)
    · rw [if_pos c20] at hm
      refine pw_tin (pc := 1) (t := 102) (off := 101) d256_1 (by rw [c20]; decide) (by rw [c20]; decide +kernel) (by decide) ?_
      refine pw_l (pc := 102) d256_102 rfl rfl rfl ?_
      obtain ⟨q21, e_q21, hm⟩ := ob_x hm
      refine pw_v (pc := 103) (k := l0) (by omega) d256_103 (k256_361 b) (by decide) m202 (by decide) rfl (sho s_h f_l0) (Nat.le_of_ble_eq_true rfl) (Nat.le_of_ble_eq_true rfl) rfl rfl (T_m_awakeSet b L xs (d - 1) (by omega) h s_h l0 f_l0 e_q21) (fun v0 h0 hq => ?_)
      obtain ⟨rfl, hh0, s_q21⟩ := hq
      rw [hh0] at s_q21 ⊢
      simp only [Option.toList_some, List.cons_append, List.nil_append]
      obtain rfl := Option.some.inj hm
      refine pw_ri (pc := 106) d256_106 t256 rfl ?_
      exact hE
    rw [if_neg c20] at hm
    by_cases c22 : l1 = (8 : Int32)
    · rw [if_pos c22] at hm
      refine pw_tin (pc := 1) (t := 107) (off := 106) d256_1 (by rw [c22]; decide) (by rw [c22]; decide +kernel) (by decide) ?_
      refine pw_l (pc := 107) d256_107 rfl rfl rfl ?_
      obtain ⟨q23, e_q23, hm⟩ := ob_x hm
      refine pw_v (pc := 108) (k := l0) (by omega) d256_108 (k256_383 b) (by decide) m200 (by decide) rfl (sho s_h f_l0) (Nat.le_of_ble_eq_true rfl) (Nat.le_of_ble_eq_true rfl) rfl rfl (T_m_heardSet b L xs (d - 1) (by omega) h s_h l0 f_l0 e_q23) (fun v0 h0 hq => ?_)
      obtain ⟨rfl, hh0, s_q23⟩ := hq
      rw [hh0] at s_q23 ⊢
      simp only [Option.toList_some, List.cons_append, List.nil_append]
      obtain rfl := Option.some.inj hm
      refine pw_ri (pc := 111) d256_111 t256 rfl ?_
      exact hE
    rw [if_neg c22] at hm
    by_cases c24 : l1 = (9 : Int32)
    · rw [if_pos c24] at hm
      refine pw_tin (pc := 1) (t := 112) (off := 111) d256_1 (by rw [c24]; decide) (by rw [c24]; decide +kernel) (by decide) ?_
      refine pw_s (pc := 112) d256_112 rfl rfl ?_
      refine pw_l (pc := 113) d256_113 rfl rfl rfl ?_
      obtain ⟨y25, e_y25, hm⟩ := ob_x hm
      have f_y25 := gA_x e_y25
      refine pw_gr (pc := 114) d256_114 (k256_39 b) (sho s_h f_l0) f10_20 f_y25.1 ?_
      refine pw_s (pc := 117) d256_117 rfl rfl ?_
      obtain ⟨g26, hm⟩ := gd_x hm
      refine pw_ai (pc := 118) d256_118 (sha s_h f_y25.2) (mi_in_x g26) ?_
      refine pw_s (pc := 119) d256_119 rfl rfl ?_
      refine pw_s (pc := 120) d256_120 rfl rfl ?_
      refine pw_s (pc := 121) d256_121 rfl rfl ?_
      refine pw_l (pc := 122) d256_122 rfl rfl rfl ?_
      obtain ⟨q27, e_q27, hm⟩ := ob_x hm
      refine pw_v (pc := 123) (k := l0) (by omega) d256_123 (k256_356 b) (by decide) m201 (by decide) rfl (sho s_h f_l0) (Nat.le_of_ble_eq_true rfl) (Nat.le_of_ble_eq_true rfl) rfl rfl (T_m_aliveSet b L xs (d - 1) (by omega) h s_h l0 f_l0 e_q27) (fun v0 h0 hq => ?_)
      obtain ⟨rfl, hh0, s_q27⟩ := hq
      rw [hh0] at s_q27 ⊢
      simp only [Option.toList_some, List.cons_append, List.nil_append]
      refine pw_s (pc := 126) d256_126 rfl rfl ?_
      refine pw_s (pc := 127) d256_127 rfl rfl ?_
      refine pw_s (pc := 128) d256_128 rfl rfl ?_
      obtain rfl := Option.some.inj hm
      refine pw_ri (pc := 129) d256_129 t256 rfl ?_
      exact hE
    rw [if_neg c24] at hm
    by_cases c28 : l1 = (10 : Int32)
    · rw [if_pos c28] at hm
      refine pw_tin (pc := 1) (t := 130) (off := 129) d256_1 (by rw [c28]; decide) (by rw [c28]; decide +kernel) (by decide) ?_
      refine pw_l (pc := 130) d256_130 rfl rfl rfl ?_
      obtain ⟨y29, e_y29, hm⟩ := ob_x hm
      have f_y29 := gA_x e_y29
      refine pw_gr (pc := 131) d256_131 (k256_39 b) (sho s_h f_l0) f10_20 f_y29.1 ?_
      refine pw_s (pc := 134) d256_134 rfl rfl ?_
      obtain ⟨g30, hm⟩ := gd_x hm
      refine pw_ai (pc := 136) d256_136 (sha s_h f_y29.2) (mi_in_x g30) ?_
      obtain rfl := Option.some.inj hm
      refine pw_ri (pc := 137) d256_137 t256 rfl ?_
      exact hE
    rw [if_neg c28] at hm
    by_cases c31 : l1 = (11 : Int32)
    · rw [if_pos c31] at hm
      refine pw_tin (pc := 1) (t := 138) (off := 137) d256_1 (by rw [c31]; decide) (by rw [c31]; decide +kernel) (by decide) ?_
      refine pw_l (pc := 138) d256_138 rfl rfl rfl ?_
      obtain ⟨y32, e_y32, hm⟩ := ob_x hm
      have f_y32 := gA_x e_y32
      refine pw_gr (pc := 139) d256_139 (k256_39 b) (sho s_h f_l0) f10_20 f_y32.1 ?_
      refine pw_s (pc := 142) d256_142 rfl rfl ?_
      obtain ⟨g33, hm⟩ := gd_x hm
      refine pw_ai (pc := 145) d256_145 (sha s_h f_y32.2) (mi_in_x g33) ?_
      obtain rfl := Option.some.inj hm
      refine pw_ri (pc := 146) d256_146 t256 rfl ?_
      exact hE
    rw [if_neg c31] at hm
    by_cases c34 : l1 = (12 : Int32)
    · rw [if_pos c34] at hm
      refine pw_tin (pc := 1) (t := 147) (off := 146) d256_1 (by rw [c34]; decide) (by rw [c34]; decide +kernel) (by decide) ?_
      refine pw_l (pc := 147) d256_147 rfl rfl rfl ?_
      refine pw_gi (pc := 148) d256_148 (k256_252 b) (sho s_h f_l0) f10_28 ?_
      obtain rfl := Option.some.inj hm
      refine pw_ri (pc := 151) d256_151 t256 rfl ?_
      exact hE
    rw [if_neg c34] at hm
    by_cases c35 : l1 = (13 : Int32)
    · rw [if_pos c35] at hm
      refine pw_tin (pc := 1) (t := 152) (off := 151) d256_1 (by rw [c35]; decide) (by rw [c35]; decide +kernel) (by decide) ?_
      refine pw_l (pc := 152) d256_152 rfl rfl rfl ?_
      refine pw_gi (pc := 153) d256_153 (k256_416 b) (sho s_h f_l0) f10_21 ?_
      obtain rfl := Option.some.inj hm
      refine pw_ri (pc := 156) d256_156 t256 rfl ?_
      exact hE
    rw [if_neg c35] at hm
    by_cases c36 : l1 = (14 : Int32)
    · rw [if_pos c36] at hm
      refine pw_tin (pc := 1) (t := 157) (off := 156) d256_1 (by rw [c36]; decide) (by rw [c36]; decide +kernel) (by decide) ?_
      refine pw_l (pc := 157) d256_157 rfl rfl rfl ?_
      refine pw_gi (pc := 158) d256_158 (k256_73 b) (sho s_h f_l0) f10_1 ?_
      obtain rfl := Option.some.inj hm
      refine pw_ri (pc := 161) d256_161 t256 rfl ?_
      exact hE
    rw [if_neg c36] at hm
    refine pw_tout (pc := 1) (t := 162) d256_1 (mi_sw (x := l1) (lo := 0) (n := 15) (by decide) (by decide) (fun j hj => match j, hj with | 0, _ => c1 | 1, _ => c4 | 2, _ => c7 | 3, _ => c10 | 4, _ => c13 | 5, _ => c14 | 6, _ => c17 | 7, _ => c20 | 8, _ => c22 | 9, _ => c24 | 10, _ => c28 | 11, _ => c31 | 12, _ => c34 | 13, _ => c35 | 14, _ => c36 | j + 15, h => absurd h (by omega))) (by decide) ?_
    refine pw_s (pc := 162) d256_162 rfl rfl ?_
    obtain rfl := Option.some.inj hm
    refine pw_ri (pc := 163) d256_163 t256 rfl ?_
    exact hE
  exact key _ ⟨rfl, rfl, s_h⟩
def E_m_image_33 (b : Bool) (L : Nat) (xs : Nat → Int32) (d : Nat) (Q : Option Value → pm_H → Prop) (l0 : Nat) (l1 : Int32) : ((Int32 × pm_H) ⊕ pm_H) → Prop
  | .inl s => s.2.1 = tb_SH → PW b L xs d 257 0 0 33 [(Value.ref l0), (Value.int l1), (Value.int s.1)] [] s.2 Q
  | .inr e => e.1 = tb_SH → ∀ w1 w2 : Value, PW b L xs d 257 0 0 64 [(Value.ref l0), w1, w2] [] e Q
noncomputable def m_image_33 (l0 : Nat) (l1 : Int32) (l2 : Int32) (h : pm_H) : Option ((Int32 × pm_H) ⊕ pm_H) := if (Int16.ofInt 227).toInt32 ≤ l2 then (some (.inr h)) else ((gA h l0 32 .int).bind fun y2 => (gA h l0 20 .int).bind fun y3 => if mi_in l2 (mi_n y3) = true then if mi_in (((Int16.ofInt 227).toInt32 * l1) + l2) (mi_n y2) = true then bd (pm_setI h y2 (((Int16.ofInt 227).toInt32 * l1) + l2).toNatClampNeg (h.2.1 y3 l2.toNatClampNeg)) fun h6 => some (.inl ((l2 + Int32.ofInt 1), h6)) else none else none)
theorem t_m_image_33 (b : Bool) (L : Nat) (xs : Nat → Int32) (d : Nat) (hd : 1 ≤ d) {Q : Option Value → pm_H → Prop} (h : pm_H) (s_h : h.1 = tb_SH) (l0 : Nat) (l1 : Int32) (l2 : Int32) (f_l0 : mi_o l0 10 = true) {r : ((Int32 × pm_H) ⊕ pm_H)} (hm : m_image_33 l0 l1 l2 h = some r) (hE : E_m_image_33 b L xs d Q l0 l1 r) : PW b L xs d 257 0 0 33 [(Value.ref l0), (Value.int l1), (Value.int l2)] [] h Q := by
  rw [m_image_33] at hm
  refine pw_l (pc := 33) d257_33 rfl rfl rfl ?_
  refine pw_s (pc := 34) d257_34 rfl rfl ?_
  refine pw_ige (pc := 37) (t := 64) d257_37 (by decide) (fun c1 => ?_) (fun c1 => ?_)
  · rw [if_pos c1] at hm
    obtain rfl := Option.some.inj hm
    exact hE s_h  (Value.int l1) (Value.int l2)
  · rw [if_neg c1] at hm
    refine pw_l (pc := 40) d257_40 rfl rfl rfl ?_
    obtain ⟨y2, e_y2, hm⟩ := ob_x hm
    have f_y2 := gA_x e_y2
    refine pw_gr (pc := 41) d257_41 (k257_63 b) (sho s_h f_l0) f10_32 f_y2.1 ?_
    refine pw_s (pc := 44) d257_44 rfl rfl ?_
    refine pw_l (pc := 47) d257_47 rfl rfl rfl ?_
    refine pw_s (pc := 48) d257_48 rfl rfl ?_
    refine pw_l (pc := 49) d257_49 rfl rfl rfl ?_
    refine pw_s (pc := 50) d257_50 rfl rfl ?_
    refine pw_l (pc := 51) d257_51 rfl rfl rfl ?_
    obtain ⟨y3, e_y3, hm⟩ := ob_x hm
    have f_y3 := gA_x e_y3
    refine pw_gr (pc := 52) d257_52 (k257_39 b) (sho s_h f_l0) f10_20 f_y3.1 ?_
    refine pw_l (pc := 55) d257_55 rfl rfl rfl ?_
    obtain ⟨g4, hm⟩ := gd_x hm
    refine pw_ai (pc := 56) d257_56 (sha s_h f_y3.2) (mi_in_x g4) ?_
    obtain ⟨g5, hm⟩ := gd_x hm
    refine pw_si (pc := 57) d257_57 (sha s_h f_y2.2) (mi_in_x g5) ?_
    obtain ⟨h6, e_h6, hm⟩ := bd_x hm
    rw [e_h6]
    have s_h6 : h6.1 = tb_SH := by rw [← e_h6]; exact s_h
    refine pw_t (pc := 58) d257_58 rfl rfl rfl rfl ?_
    refine pw_go (pc := 61) (t := 33) d257_61 (by decide) ?_
    obtain rfl := Option.some.inj hm
    exact hE s_h6  
noncomputable def m_image (l0 : Nat) (l1 : Int32) (h : pm_H) : Option (Int32 × pm_H) := (m_in l1.toInt64 (Int64.ofNat 0) (3 : Int64) h).bind fun q1 => if ¬ q1 = 0 then ((gA h l0 34 .boolean).bind fun y3 => if mi_in l1 (mi_n y3) = true then bd (pm_setI h y3 l1.toNatClampNeg (vp_nar .boolean (Int32.ofInt 1))) fun h5 => (gA h5 l0 33 .int).bind fun y6 => if mi_in l1 (mi_n y6) = true then bd (pm_setI h5 y6 l1.toNatClampNeg (h5.2.1 l0 21)) fun h8 => (wh (fun s : (Int32 × pm_H) => m_image_33 l0 l1 s.1 s.2) ((Int32.ofInt 0), h8)).bind fun q9 => (gA q9 l0 20 .int).bind fun y10 => if mi_in (Int32.ofInt 4) (mi_n y10) = true then some ((q9.2.1 y10 (Int32.ofInt 4).toNatClampNeg), q9) else none else none else none) else (some ((Int32.ofInt (-1)), h))
theorem T_m_image (b : Bool) (L : Nat) (xs : Nat → Int32) (d : Nat) (hd : 1 ≤ d) (h : pm_H) (s_h : h.1 = tb_SH) (l0 : Nat) (l1 : Int32) (f_l0 : mi_o l0 10 = true) {r : (Int32 × pm_H)} (hm : m_image l0 l1 h = some r) : PC b L xs d 257 [(Value.ref l0), (Value.int l1)] h (fun (v0 : Option Value) (h2 : pm_H) => v0 = (some (Value.int r.1)) ∧ h2 = r.2 ∧ h2.1 = tb_SH) := by
  refine pc_in e257 (ls0 := [(Value.ref l0), (Value.int l1), Value.retAddr 0]) rfl ?_
  have key : ∀ (Q : Option Value → pm_H → Prop), (r.2.1 = tb_SH → Q (some (Value.int r.1)) r.2) → PW b L xs d 257 0 0 0 [(Value.ref l0), (Value.int l1), Value.retAddr 0] [] h Q := by
    intro Q hE
    rw [m_image] at hm
    refine pw_l (pc := 0) d257_0 rfl rfl rfl ?_
    refine pw_s (pc := 1) d257_1 rfl rfl ?_
    refine pw_s (pc := 2) d257_2 rfl rfl ?_
    refine pw_cl (pc := 3) d257_3 (k257_440 b) ?_
    obtain ⟨q1, e_q1, hm⟩ := ob_x hm
    refine pw_u (pc := 6) (by omega) d257_6 (k257_112 b) (by decide) m148 (Nat.le_of_ble_eq_true rfl) (Nat.le_of_ble_eq_true rfl) (Nat.le_of_ble_eq_true rfl) rfl rfl (T_m_in b L xs (d - 1) (by omega) h s_h l1.toInt64 (Int64.ofNat 0) (3 : Int64)  e_q1) (fun v0 h0 hq => ?_)
    obtain ⟨rfl, hh0, s_q1⟩ := hq
    rw [hh0] at s_q1 ⊢
    simp only [Option.toList_some, List.cons_append, List.nil_append]
    refine pw_zne (pc := 9) (t := 14) d257_9 (by decide) (fun c2 => ?_) (fun c2 => ?_)
    · rw [if_pos c2] at hm
      refine pw_l (pc := 14) d257_14 rfl rfl rfl ?_
      obtain ⟨y3, e_y3, hm⟩ := ob_x hm
      have f_y3 := gA_x e_y3
      refine pw_gr (pc := 15) d257_15 (k257_69 b) (sho s_h f_l0) f10_34 f_y3.1 ?_
      refine pw_l (pc := 18) d257_18 rfl rfl rfl ?_
      refine pw_s (pc := 19) d257_19 rfl rfl ?_
      obtain ⟨g4, hm⟩ := gd_x hm
      refine pw_sb (pc := 20) d257_20 (sha s_h f_y3.2) (by decide) (mi_in_x g4) ?_
      obtain ⟨h5, e_h5, hm⟩ := bd_x hm
      rw [e_h5]
      have s_h5 : h5.1 = tb_SH := by rw [← e_h5]; exact s_h
      refine pw_l (pc := 21) d257_21 rfl rfl rfl ?_
      obtain ⟨y6, e_y6, hm⟩ := ob_x hm
      have f_y6 := gA_x e_y6
      refine pw_gr (pc := 22) d257_22 (k257_66 b) (sho s_h5 f_l0) f10_33 f_y6.1 ?_
      refine pw_l (pc := 25) d257_25 rfl rfl rfl ?_
      refine pw_l (pc := 26) d257_26 rfl rfl rfl ?_
      refine pw_gi (pc := 27) d257_27 (k257_416 b) (sho s_h5 f_l0) f10_21 ?_
      obtain ⟨g7, hm⟩ := gd_x hm
      refine pw_si (pc := 30) d257_30 (sha s_h5 f_y6.2) (mi_in_x g7) ?_
      obtain ⟨h8, e_h8, hm⟩ := bd_x hm
      rw [e_h8]
      have s_h8 : h8.1 = tb_SH := by rw [← e_h8]; exact s_h5
      refine pw_s (pc := 31) d257_31 rfl rfl ?_
      refine pw_t (pc := 32) d257_32 rfl rfl rfl rfl ?_
      obtain ⟨q9, e_q9, hm⟩ := ob_x hm
      refine wh_ind e_q9 (fun s : (Int32 × pm_H) => s.2.1 = tb_SH → PW b L xs d 257 0 0 33 [(Value.ref l0), (Value.int l1), (Value.int s.1)] [] s.2 Q) (fun s s2 hf ih sx => t_m_image_33 b L xs d hd s.2 sx l0 l1 s.1  f_l0 hf ih) (fun s hf sx => t_m_image_33 b L xs d hd s.2 sx l0 l1 s.1  f_l0 hf ?_) s_h8  
      intro s_q9_0 w1 w2
      refine pw_l (pc := 64) d257_64 rfl rfl rfl ?_
      obtain ⟨y10, e_y10, hm⟩ := ob_x hm
      have f_y10 := gA_x e_y10
      refine pw_gr (pc := 65) d257_65 (k257_39 b) (sho s_q9_0 f_l0) f10_20 f_y10.1 ?_
      refine pw_s (pc := 68) d257_68 rfl rfl ?_
      obtain ⟨g11, hm⟩ := gd_x hm
      refine pw_ai (pc := 69) d257_69 (sha s_q9_0 f_y10.2) (mi_in_x g11) ?_
      obtain rfl := Option.some.inj hm
      refine pw_ri (pc := 70) d257_70 t257 rfl ?_
      exact hE s_q9_0
    · rw [if_neg c2] at hm
      refine pw_s (pc := 12) d257_12 rfl rfl ?_
      obtain rfl := Option.some.inj hm
      refine pw_ri (pc := 13) d257_13 t257 rfl ?_
      exact hE s_h
  exact key _ (fun q => ⟨rfl, rfl, q⟩)
def E_m_back_40 (b : Bool) (L : Nat) (xs : Nat → Int32) (d : Nat) (Q : Option Value → pm_H → Prop) (l0 : Nat) (l1 : Int32) : ((Int32 × pm_H) ⊕ pm_H) → Prop
  | .inl s => s.2.1 = tb_SH → PW b L xs d 258 0 0 40 [(Value.ref l0), (Value.int l1), (Value.int s.1)] [] s.2 Q
  | .inr e => e.1 = tb_SH → ∀ w1 w2 : Value, PW b L xs d 258 0 0 71 [(Value.ref l0), w1, w2] [] e Q
noncomputable def m_back_40 (l0 : Nat) (l1 : Int32) (l2 : Int32) (h : pm_H) : Option ((Int32 × pm_H) ⊕ pm_H) := if (Int16.ofInt 227).toInt32 ≤ l2 then (some (.inr h)) else ((gA h l0 20 .int).bind fun y2 => (gA h l0 32 .int).bind fun y3 => if mi_in (((Int16.ofInt 227).toInt32 * l1) + l2) (mi_n y3) = true then if mi_in l2 (mi_n y2) = true then bd (pm_setI h y2 l2.toNatClampNeg (h.2.1 y3 (((Int16.ofInt 227).toInt32 * l1) + l2).toNatClampNeg)) fun h6 => some (.inl ((l2 + Int32.ofInt 1), h6)) else none else none)
theorem t_m_back_40 (b : Bool) (L : Nat) (xs : Nat → Int32) (d : Nat) (hd : 1 ≤ d) {Q : Option Value → pm_H → Prop} (h : pm_H) (s_h : h.1 = tb_SH) (l0 : Nat) (l1 : Int32) (l2 : Int32) (f_l0 : mi_o l0 10 = true) {r : ((Int32 × pm_H) ⊕ pm_H)} (hm : m_back_40 l0 l1 l2 h = some r) (hE : E_m_back_40 b L xs d Q l0 l1 r) : PW b L xs d 258 0 0 40 [(Value.ref l0), (Value.int l1), (Value.int l2)] [] h Q := by
  rw [m_back_40] at hm
  refine pw_l (pc := 40) d258_40 rfl rfl rfl ?_
  refine pw_s (pc := 41) d258_41 rfl rfl ?_
  refine pw_ige (pc := 44) (t := 71) d258_44 (by decide) (fun c1 => ?_) (fun c1 => ?_)
  · rw [if_pos c1] at hm
    obtain rfl := Option.some.inj hm
    exact hE s_h  (Value.int l1) (Value.int l2)
  · rw [if_neg c1] at hm
    refine pw_l (pc := 47) d258_47 rfl rfl rfl ?_
    obtain ⟨y2, e_y2, hm⟩ := ob_x hm
    have f_y2 := gA_x e_y2
    refine pw_gr (pc := 48) d258_48 (k258_39 b) (sho s_h f_l0) f10_20 f_y2.1 ?_
    refine pw_l (pc := 51) d258_51 rfl rfl rfl ?_
    refine pw_l (pc := 52) d258_52 rfl rfl rfl ?_
    obtain ⟨y3, e_y3, hm⟩ := ob_x hm
    have f_y3 := gA_x e_y3
    refine pw_gr (pc := 53) d258_53 (k258_63 b) (sho s_h f_l0) f10_32 f_y3.1 ?_
    refine pw_s (pc := 56) d258_56 rfl rfl ?_
    refine pw_l (pc := 59) d258_59 rfl rfl rfl ?_
    refine pw_s (pc := 60) d258_60 rfl rfl ?_
    refine pw_l (pc := 61) d258_61 rfl rfl rfl ?_
    refine pw_s (pc := 62) d258_62 rfl rfl ?_
    obtain ⟨g4, hm⟩ := gd_x hm
    refine pw_ai (pc := 63) d258_63 (sha s_h f_y3.2) (mi_in_x g4) ?_
    obtain ⟨g5, hm⟩ := gd_x hm
    refine pw_si (pc := 64) d258_64 (sha s_h f_y2.2) (mi_in_x g5) ?_
    obtain ⟨h6, e_h6, hm⟩ := bd_x hm
    rw [e_h6]
    have s_h6 : h6.1 = tb_SH := by rw [← e_h6]; exact s_h
    refine pw_t (pc := 65) d258_65 rfl rfl rfl rfl ?_
    refine pw_go (pc := 68) (t := 40) d258_68 (by decide) ?_
    obtain rfl := Option.some.inj hm
    exact hE s_h6  
noncomputable def m_back (l0 : Nat) (l1 : Int32) (h : pm_H) : Option (Int32 × pm_H) := (m_in l1.toInt64 (Int64.ofNat 0) (3 : Int64) h).bind fun q1 => if q1 = 0 then (some ((Int32.ofInt (-1)), h)) else ((gA h l0 34 .boolean).bind fun y3 => if mi_in l1 (mi_n y3) = true then if ¬ (h.2.1 y3 l1.toNatClampNeg) = 0 then ((gA h l0 33 .int).bind fun y6 => if mi_in l1 (mi_n y6) = true then bd (pm_setI h l0 21 (h.2.1 y6 l1.toNatClampNeg)) fun h8 => bd (pm_setI h8 l0 28 (Int32.ofInt 0)) fun h9 => (wh (fun s : (Int32 × pm_H) => m_back_40 l0 l1 s.1 s.2) ((Int32.ofInt 0), h9)).bind fun q10 => (gA q10 l0 20 .int).bind fun y11 => if mi_in (Int32.ofInt 4) (mi_n y11) = true then some ((q10.2.1 y11 (Int32.ofInt 4).toNatClampNeg), q10) else none else none) else (some ((Int32.ofInt (-1)), h)) else none)
theorem T_m_back (b : Bool) (L : Nat) (xs : Nat → Int32) (d : Nat) (hd : 1 ≤ d) (h : pm_H) (s_h : h.1 = tb_SH) (l0 : Nat) (l1 : Int32) (f_l0 : mi_o l0 10 = true) {r : (Int32 × pm_H)} (hm : m_back l0 l1 h = some r) : PC b L xs d 258 [(Value.ref l0), (Value.int l1)] h (fun (v0 : Option Value) (h2 : pm_H) => v0 = (some (Value.int r.1)) ∧ h2 = r.2 ∧ h2.1 = tb_SH) := by
  refine pc_in e258 (ls0 := [(Value.ref l0), (Value.int l1), Value.retAddr 0]) rfl ?_
  have key : ∀ (Q : Option Value → pm_H → Prop), (r.2.1 = tb_SH → Q (some (Value.int r.1)) r.2) → PW b L xs d 258 0 0 0 [(Value.ref l0), (Value.int l1), Value.retAddr 0] [] h Q := by
    intro Q hE
    rw [m_back] at hm
    refine pw_l (pc := 0) d258_0 rfl rfl rfl ?_
    refine pw_s (pc := 1) d258_1 rfl rfl ?_
    refine pw_s (pc := 2) d258_2 rfl rfl ?_
    refine pw_cl (pc := 3) d258_3 (k258_440 b) ?_
    obtain ⟨q1, e_q1, hm⟩ := ob_x hm
    refine pw_u (pc := 6) (by omega) d258_6 (k258_112 b) (by decide) m148 (Nat.le_of_ble_eq_true rfl) (Nat.le_of_ble_eq_true rfl) (Nat.le_of_ble_eq_true rfl) rfl rfl (T_m_in b L xs (d - 1) (by omega) h s_h l1.toInt64 (Int64.ofNat 0) (3 : Int64)  e_q1) (fun v0 h0 hq => ?_)
    obtain ⟨rfl, hh0, s_q1⟩ := hq
    rw [hh0] at s_q1 ⊢
    simp only [Option.toList_some, List.cons_append, List.nil_append]
    refine pw_zeq (pc := 9) (t := 21) d258_9 (by decide) (fun c2 => ?_) (fun c2 => ?_)
    · rw [if_pos c2] at hm
      refine pw_s (pc := 21) d258_21 rfl rfl ?_
      obtain rfl := Option.some.inj hm
      refine pw_ri (pc := 22) d258_22 t258 rfl ?_
      exact hE s_h
    · rw [if_neg c2] at hm
      refine pw_l (pc := 12) d258_12 rfl rfl rfl ?_
      obtain ⟨y3, e_y3, hm⟩ := ob_x hm
      have f_y3 := gA_x e_y3
      refine pw_gr (pc := 13) d258_13 (k258_69 b) (sho s_h f_l0) f10_34 f_y3.1 ?_
      refine pw_l (pc := 16) d258_16 rfl rfl rfl ?_
      obtain ⟨g4, hm⟩ := gd_x hm
      refine pw_ab (pc := 17) d258_17 (sha s_h f_y3.2) (by decide) (mi_in_x g4) ?_
      refine pw_zne (pc := 18) (t := 23) d258_18 (by decide) (fun c5 => ?_) (fun c5 => ?_)
      · rw [if_pos c5] at hm
        refine pw_l (pc := 23) d258_23 rfl rfl rfl ?_
        refine pw_l (pc := 24) d258_24 rfl rfl rfl ?_
        obtain ⟨y6, e_y6, hm⟩ := ob_x hm
        have f_y6 := gA_x e_y6
        refine pw_gr (pc := 25) d258_25 (k258_66 b) (sho s_h f_l0) f10_33 f_y6.1 ?_
        refine pw_l (pc := 28) d258_28 rfl rfl rfl ?_
        obtain ⟨g7, hm⟩ := gd_x hm
        refine pw_ai (pc := 29) d258_29 (sha s_h f_y6.2) (mi_in_x g7) ?_
        refine pw_pi (pc := 30) d258_30 (k258_416 b) (sho s_h f_l0) p258_10_21 ?_
        obtain ⟨h8, e_h8, hm⟩ := bd_x hm
        rw [e_h8]
        have s_h8 : h8.1 = tb_SH := by rw [← e_h8]; exact s_h
        refine pw_l (pc := 33) d258_33 rfl rfl rfl ?_
        refine pw_s (pc := 34) d258_34 rfl rfl ?_
        refine pw_pi (pc := 35) d258_35 (k258_252 b) (sho s_h8 f_l0) p258_10_28 ?_
        obtain ⟨h9, e_h9, hm⟩ := bd_x hm
        rw [e_h9]
        have s_h9 : h9.1 = tb_SH := by rw [← e_h9]; exact s_h8
        refine pw_s (pc := 38) d258_38 rfl rfl ?_
        refine pw_t (pc := 39) d258_39 rfl rfl rfl rfl ?_
        obtain ⟨q10, e_q10, hm⟩ := ob_x hm
        refine wh_ind e_q10 (fun s : (Int32 × pm_H) => s.2.1 = tb_SH → PW b L xs d 258 0 0 40 [(Value.ref l0), (Value.int l1), (Value.int s.1)] [] s.2 Q) (fun s s2 hf ih sx => t_m_back_40 b L xs d hd s.2 sx l0 l1 s.1  f_l0 hf ih) (fun s hf sx => t_m_back_40 b L xs d hd s.2 sx l0 l1 s.1  f_l0 hf ?_) s_h9  
        intro s_q10_0 w1 w2
        refine pw_l (pc := 71) d258_71 rfl rfl rfl ?_
        obtain ⟨y11, e_y11, hm⟩ := ob_x hm
        have f_y11 := gA_x e_y11
        refine pw_gr (pc := 72) d258_72 (k258_39 b) (sho s_q10_0 f_l0) f10_20 f_y11.1 ?_
        refine pw_s (pc := 75) d258_75 rfl rfl ?_
        obtain ⟨g12, hm⟩ := gd_x hm
        refine pw_ai (pc := 76) d258_76 (sha s_q10_0 f_y11.2) (mi_in_x g12) ?_
        obtain rfl := Option.some.inj hm
        refine pw_ri (pc := 77) d258_77 t258 rfl ?_
        exact hE s_q10_0
      · rw [if_neg c5] at hm
        refine pw_s (pc := 21) d258_21 rfl rfl ?_
        obtain rfl := Option.some.inj hm
        refine pw_ri (pc := 22) d258_22 t258 rfl ?_
        exact hE s_h
  exact key _ (fun q => ⟨rfl, rfl, q⟩)
