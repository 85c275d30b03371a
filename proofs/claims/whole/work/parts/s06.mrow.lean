/-! The constructor of the reference: rows (written by wip/gen7.py). -/
theorem en147 : (tb_me 147).2.1 = (20, 6697) ∧ (tb_me 147).1.2.2.1 = 2 := by decide +kernel
theorem d147_0 : decode (tb_me 147).1.2.1 0 = .ok (.aload_n 0, 1) := by decide +kernel
theorem d147_1 : decode (tb_me 147).1.2.1 1 = .ok (.invokespecial 1, 3) := by decide +kernel
theorem k147_1 (b : Bool) : tb_lk b 147 1 = (8, 0, 0, 0, 0) := by cases b <;> decide +kernel
theorem d147_4 : decode (tb_me 147).1.2.1 4 = .ok (.aload_n 0, 1) := by decide +kernel
theorem d147_5 : decode (tb_me 147).1.2.1 5 = .ok (.sipush 400, 3) := by decide +kernel
theorem d147_8 : decode (tb_me 147).1.2.1 8 = .ok (.newarray .byte, 2) := by decide +kernel
theorem sh10_0 {k : Nat} (hk : mi_o k 10 = true) : tb_SH[k + 1 + 0]? = some (.inl (.byte, 400)) := (by decide +kernel : ∀ k, k < 214 → mi_o k 10 = true → tb_SH[k + 1 + 0]? = some (.inl (.byte, 400))) k (mo_lt hk) hk
theorem d147_10 : decode (tb_me 147).1.2.1 10 = .ok (.putfield 7, 3) := by decide +kernel
theorem k147_7 (b : Bool) : tb_lk b 147 7 = (1, 10, 0, 0, 0) := by cases b <;> decide +kernel
theorem q147_10_0 : (0 < pm_nf tb_cl 10) ∧ pm_isR (tb_ft 10 0) = true ∧ pm_fin tb_cl (tb_me 147).1.1 10 0 = true := by decide +kernel
theorem d147_13 : decode (tb_me 147).1.2.1 13 = .ok (.aload_n 0, 1) := by decide +kernel
theorem d147_14 : decode (tb_me 147).1.2.1 14 = .ok (.sipush 2400, 3) := by decide +kernel
theorem d147_17 : decode (tb_me 147).1.2.1 17 = .ok (.newarray .int, 2) := by decide +kernel
theorem sh10_1 {k : Nat} (hk : mi_o k 10 = true) : tb_SH[k + 1 + 1]? = some (.inl (.int, 2400)) := (by decide +kernel : ∀ k, k < 214 → mi_o k 10 = true → tb_SH[k + 1 + 1]? = some (.inl (.int, 2400))) k (mo_lt hk) hk
theorem d147_19 : decode (tb_me 147).1.2.1 19 = .ok (.putfield 13, 3) := by decide +kernel
theorem k147_13 (b : Bool) : tb_lk b 147 13 = (1, 10, 3, 0, 0) := by cases b <;> decide +kernel
theorem q147_10_3 : (3 < pm_nf tb_cl 10) ∧ pm_isR (tb_ft 10 3) = true ∧ pm_fin tb_cl (tb_me 147).1.1 10 3 = true := by decide +kernel
theorem d147_22 : decode (tb_me 147).1.2.1 22 = .ok (.aload_n 0, 1) := by decide +kernel
theorem d147_23 : decode (tb_me 147).1.2.1 23 = .ok (.bipush 7, 2) := by decide +kernel
theorem d147_25 : decode (tb_me 147).1.2.1 25 = .ok (.newarray .int, 2) := by decide +kernel
theorem sh10_2 {k : Nat} (hk : mi_o k 10 = true) : tb_SH[k + 1 + 2]? = some (.inl (.int, 7)) := (by decide +kernel : ∀ k, k < 214 → mi_o k 10 = true → tb_SH[k + 1 + 2]? = some (.inl (.int, 7))) k (mo_lt hk) hk
theorem d147_27 : decode (tb_me 147).1.2.1 27 = .ok (.putfield 17, 3) := by decide +kernel
theorem k147_17 (b : Bool) : tb_lk b 147 17 = (1, 10, 4, 0, 0) := by cases b <;> decide +kernel
theorem q147_10_4 : (4 < pm_nf tb_cl 10) ∧ pm_isR (tb_ft 10 4) = true ∧ pm_fin tb_cl (tb_me 147).1.1 10 4 = true := by decide +kernel
theorem d147_30 : decode (tb_me 147).1.2.1 30 = .ok (.aload_n 0, 1) := by decide +kernel
theorem d147_31 : decode (tb_me 147).1.2.1 31 = .ok (.sipush 288, 3) := by decide +kernel
theorem d147_34 : decode (tb_me 147).1.2.1 34 = .ok (.newarray .int, 2) := by decide +kernel
theorem sh10_3 {k : Nat} (hk : mi_o k 10 = true) : tb_SH[k + 1 + 3]? = some (.inl (.int, 288)) := (by decide +kernel : ∀ k, k < 214 → mi_o k 10 = true → tb_SH[k + 1 + 3]? = some (.inl (.int, 288))) k (mo_lt hk) hk
theorem d147_36 : decode (tb_me 147).1.2.1 36 = .ok (.putfield 20, 3) := by decide +kernel
theorem k147_20 (b : Bool) : tb_lk b 147 20 = (1, 10, 5, 0, 0) := by cases b <;> decide +kernel
theorem q147_10_5 : (5 < pm_nf tb_cl 10) ∧ pm_isR (tb_ft 10 5) = true ∧ pm_fin tb_cl (tb_me 147).1.1 10 5 = true := by decide +kernel
theorem d147_39 : decode (tb_me 147).1.2.1 39 = .ok (.aload_n 0, 1) := by decide +kernel
theorem d147_40 : decode (tb_me 147).1.2.1 40 = .ok (.bipush 6, 2) := by decide +kernel
theorem d147_42 : decode (tb_me 147).1.2.1 42 = .ok (.newarray .int, 2) := by decide +kernel
theorem sh10_4 {k : Nat} (hk : mi_o k 10 = true) : tb_SH[k + 1 + 4]? = some (.inl (.int, 6)) := (by decide +kernel : ∀ k, k < 214 → mi_o k 10 = true → tb_SH[k + 1 + 4]? = some (.inl (.int, 6))) k (mo_lt hk) hk
theorem d147_44 : decode (tb_me 147).1.2.1 44 = .ok (.putfield 23, 3) := by decide +kernel
theorem k147_23 (b : Bool) : tb_lk b 147 23 = (1, 10, 6, 0, 0) := by cases b <;> decide +kernel
theorem q147_10_6 : (6 < pm_nf tb_cl 10) ∧ pm_isR (tb_ft 10 6) = true ∧ pm_fin tb_cl (tb_me 147).1.1 10 6 = true := by decide +kernel
theorem d147_47 : decode (tb_me 147).1.2.1 47 = .ok (.aload_n 0, 1) := by decide +kernel
theorem d147_48 : decode (tb_me 147).1.2.1 48 = .ok (.sipush 206, 3) := by decide +kernel
theorem d147_51 : decode (tb_me 147).1.2.1 51 = .ok (.newarray .int, 2) := by decide +kernel
theorem sh10_5 {k : Nat} (hk : mi_o k 10 = true) : tb_SH[k + 1 + 5]? = some (.inl (.int, 206)) := (by decide +kernel : ∀ k, k < 214 → mi_o k 10 = true → tb_SH[k + 1 + 5]? = some (.inl (.int, 206))) k (mo_lt hk) hk
theorem d147_53 : decode (tb_me 147).1.2.1 53 = .ok (.putfield 26, 3) := by decide +kernel
theorem k147_26 (b : Bool) : tb_lk b 147 26 = (1, 10, 7, 0, 0) := by cases b <;> decide +kernel
theorem q147_10_7 : (7 < pm_nf tb_cl 10) ∧ pm_isR (tb_ft 10 7) = true ∧ pm_fin tb_cl (tb_me 147).1.1 10 7 = true := by decide +kernel
theorem d147_56 : decode (tb_me 147).1.2.1 56 = .ok (.aload_n 0, 1) := by decide +kernel
theorem d147_57 : decode (tb_me 147).1.2.1 57 = .ok (.sipush 400, 3) := by decide +kernel
theorem d147_60 : decode (tb_me 147).1.2.1 60 = .ok (.newarray .int, 2) := by decide +kernel
theorem sh10_6 {k : Nat} (hk : mi_o k 10 = true) : tb_SH[k + 1 + 6]? = some (.inl (.int, 400)) := (by decide +kernel : ∀ k, k < 214 → mi_o k 10 = true → tb_SH[k + 1 + 6]? = some (.inl (.int, 400))) k (mo_lt hk) hk
theorem d147_62 : decode (tb_me 147).1.2.1 62 = .ok (.putfield 29, 3) := by decide +kernel
theorem k147_29 (b : Bool) : tb_lk b 147 29 = (1, 10, 15, 0, 0) := by cases b <;> decide +kernel
theorem q147_10_15 : (15 < pm_nf tb_cl 10) ∧ pm_isR (tb_ft 10 15) = true ∧ pm_fin tb_cl (tb_me 147).1.1 10 15 = true := by decide +kernel
theorem d147_65 : decode (tb_me 147).1.2.1 65 = .ok (.aload_n 0, 1) := by decide +kernel
theorem d147_66 : decode (tb_me 147).1.2.1 66 = .ok (.bipush 64, 2) := by decide +kernel
theorem d147_68 : decode (tb_me 147).1.2.1 68 = .ok (.newarray .long, 2) := by decide +kernel
theorem sh10_7 {k : Nat} (hk : mi_o k 10 = true) : tb_SH[k + 1 + 7]? = some (.inl (.long, 64)) := (by decide +kernel : ∀ k, k < 214 → mi_o k 10 = true → tb_SH[k + 1 + 7]? = some (.inl (.long, 64))) k (mo_lt hk) hk
theorem d147_70 : decode (tb_me 147).1.2.1 70 = .ok (.putfield 32, 3) := by decide +kernel
theorem k147_32 (b : Bool) : tb_lk b 147 32 = (1, 10, 17, 0, 0) := by cases b <;> decide +kernel
theorem q147_10_17 : (17 < pm_nf tb_cl 10) ∧ pm_isR (tb_ft 10 17) = true ∧ pm_fin tb_cl (tb_me 147).1.1 10 17 = true := by decide +kernel
theorem d147_73 : decode (tb_me 147).1.2.1 73 = .ok (.aload_n 0, 1) := by decide +kernel
theorem d147_74 : decode (tb_me 147).1.2.1 74 = .ok (.bipush 11, 2) := by decide +kernel
theorem d147_76 : decode (tb_me 147).1.2.1 76 = .ok (.newarray .long, 2) := by decide +kernel
theorem sh10_8 {k : Nat} (hk : mi_o k 10 = true) : tb_SH[k + 1 + 8]? = some (.inl (.long, 11)) := (by decide +kernel : ∀ k, k < 214 → mi_o k 10 = true → tb_SH[k + 1 + 8]? = some (.inl (.long, 11))) k (mo_lt hk) hk
theorem d147_78 : decode (tb_me 147).1.2.1 78 = .ok (.putfield 36, 3) := by decide +kernel
theorem k147_36 (b : Bool) : tb_lk b 147 36 = (1, 10, 19, 0, 0) := by cases b <;> decide +kernel
theorem q147_10_19 : (19 < pm_nf tb_cl 10) ∧ pm_isR (tb_ft 10 19) = true ∧ pm_fin tb_cl (tb_me 147).1.1 10 19 = true := by decide +kernel
theorem d147_81 : decode (tb_me 147).1.2.1 81 = .ok (.aload_n 0, 1) := by decide +kernel
theorem d147_82 : decode (tb_me 147).1.2.1 82 = .ok (.sipush 227, 3) := by decide +kernel
theorem d147_85 : decode (tb_me 147).1.2.1 85 = .ok (.newarray .int, 2) := by decide +kernel
theorem sh10_9 {k : Nat} (hk : mi_o k 10 = true) : tb_SH[k + 1 + 9]? = some (.inl (.int, 227)) := (by decide +kernel : ∀ k, k < 214 → mi_o k 10 = true → tb_SH[k + 1 + 9]? = some (.inl (.int, 227))) k (mo_lt hk) hk
theorem d147_87 : decode (tb_me 147).1.2.1 87 = .ok (.putfield 39, 3) := by decide +kernel
theorem k147_39 (b : Bool) : tb_lk b 147 39 = (1, 10, 20, 0, 0) := by cases b <;> decide +kernel
theorem q147_10_20 : (20 < pm_nf tb_cl 10) ∧ pm_isR (tb_ft 10 20) = true ∧ pm_fin tb_cl (tb_me 147).1.1 10 20 = true := by decide +kernel
theorem d147_90 : decode (tb_me 147).1.2.1 90 = .ok (.aload_n 0, 1) := by decide +kernel
theorem d147_91 : decode (tb_me 147).1.2.1 91 = .ok (.iconst 5, 1) := by decide +kernel
theorem d147_92 : decode (tb_me 147).1.2.1 92 = .ok (.newarray .int, 2) := by decide +kernel
theorem sh10_10 {k : Nat} (hk : mi_o k 10 = true) : tb_SH[k + 1 + 10]? = some (.inl (.int, 5)) := (by decide +kernel : ∀ k, k < 214 → mi_o k 10 = true → tb_SH[k + 1 + 10]? = some (.inl (.int, 5))) k (mo_lt hk) hk
theorem d147_94 : decode (tb_me 147).1.2.1 94 = .ok (.putfield 42, 3) := by decide +kernel
theorem k147_42 (b : Bool) : tb_lk b 147 42 = (1, 10, 22, 0, 0) := by cases b <;> decide +kernel
theorem q147_10_22 : (22 < pm_nf tb_cl 10) ∧ pm_isR (tb_ft 10 22) = true ∧ pm_fin tb_cl (tb_me 147).1.1 10 22 = true := by decide +kernel
theorem d147_97 : decode (tb_me 147).1.2.1 97 = .ok (.aload_n 0, 1) := by decide +kernel
theorem d147_98 : decode (tb_me 147).1.2.1 98 = .ok (.iconst 5, 1) := by decide +kernel
theorem d147_99 : decode (tb_me 147).1.2.1 99 = .ok (.newarray .int, 2) := by decide +kernel
theorem sh10_11 {k : Nat} (hk : mi_o k 10 = true) : tb_SH[k + 1 + 11]? = some (.inl (.int, 5)) := (by decide +kernel : ∀ k, k < 214 → mi_o k 10 = true → tb_SH[k + 1 + 11]? = some (.inl (.int, 5))) k (mo_lt hk) hk
theorem d147_101 : decode (tb_me 147).1.2.1 101 = .ok (.putfield 45, 3) := by decide +kernel
theorem k147_45 (b : Bool) : tb_lk b 147 45 = (1, 10, 24, 0, 0) := by cases b <;> decide +kernel
theorem q147_10_24 : (24 < pm_nf tb_cl 10) ∧ pm_isR (tb_ft 10 24) = true ∧ pm_fin tb_cl (tb_me 147).1.1 10 24 = true := by decide +kernel
theorem d147_104 : decode (tb_me 147).1.2.1 104 = .ok (.aload_n 0, 1) := by decide +kernel
theorem d147_105 : decode (tb_me 147).1.2.1 105 = .ok (.iconst 2, 1) := by decide +kernel
theorem d147_106 : decode (tb_me 147).1.2.1 106 = .ok (.newarray .int, 2) := by decide +kernel
theorem sh10_12 {k : Nat} (hk : mi_o k 10 = true) : tb_SH[k + 1 + 12]? = some (.inl (.int, 2)) := (by decide +kernel : ∀ k, k < 214 → mi_o k 10 = true → tb_SH[k + 1 + 12]? = some (.inl (.int, 2))) k (mo_lt hk) hk
theorem d147_108 : decode (tb_me 147).1.2.1 108 = .ok (.putfield 48, 3) := by decide +kernel
theorem k147_48 (b : Bool) : tb_lk b 147 48 = (1, 10, 25, 0, 0) := by cases b <;> decide +kernel
theorem q147_10_25 : (25 < pm_nf tb_cl 10) ∧ pm_isR (tb_ft 10 25) = true ∧ pm_fin tb_cl (tb_me 147).1.1 10 25 = true := by decide +kernel
theorem d147_111 : decode (tb_me 147).1.2.1 111 = .ok (.aload_n 0, 1) := by decide +kernel
theorem d147_112 : decode (tb_me 147).1.2.1 112 = .ok (.sipush 512, 3) := by decide +kernel
theorem d147_115 : decode (tb_me 147).1.2.1 115 = .ok (.newarray .int, 2) := by decide +kernel
theorem sh10_13 {k : Nat} (hk : mi_o k 10 = true) : tb_SH[k + 1 + 13]? = some (.inl (.int, 512)) := (by decide +kernel : ∀ k, k < 214 → mi_o k 10 = true → tb_SH[k + 1 + 13]? = some (.inl (.int, 512))) k (mo_lt hk) hk
theorem d147_117 : decode (tb_me 147).1.2.1 117 = .ok (.putfield 51, 3) := by decide +kernel
theorem k147_51 (b : Bool) : tb_lk b 147 51 = (1, 10, 26, 0, 0) := by cases b <;> decide +kernel
theorem q147_10_26 : (26 < pm_nf tb_cl 10) ∧ pm_isR (tb_ft 10 26) = true ∧ pm_fin tb_cl (tb_me 147).1.1 10 26 = true := by decide +kernel
theorem d147_120 : decode (tb_me 147).1.2.1 120 = .ok (.aload_n 0, 1) := by decide +kernel
theorem d147_121 : decode (tb_me 147).1.2.1 121 = .ok (.sipush 1160, 3) := by decide +kernel
theorem d147_124 : decode (tb_me 147).1.2.1 124 = .ok (.newarray .int, 2) := by decide +kernel
theorem sh10_14 {k : Nat} (hk : mi_o k 10 = true) : tb_SH[k + 1 + 14]? = some (.inl (.int, 1160)) := (by decide +kernel : ∀ k, k < 214 → mi_o k 10 = true → tb_SH[k + 1 + 14]? = some (.inl (.int, 1160))) k (mo_lt hk) hk
theorem d147_126 : decode (tb_me 147).1.2.1 126 = .ok (.putfield 54, 3) := by decide +kernel
theorem k147_54 (b : Bool) : tb_lk b 147 54 = (1, 10, 27, 0, 0) := by cases b <;> decide +kernel
theorem q147_10_27 : (27 < pm_nf tb_cl 10) ∧ pm_isR (tb_ft 10 27) = true ∧ pm_fin tb_cl (tb_me 147).1.1 10 27 = true := by decide +kernel
theorem d147_129 : decode (tb_me 147).1.2.1 129 = .ok (.aload_n 0, 1) := by decide +kernel
theorem d147_130 : decode (tb_me 147).1.2.1 130 = .ok (.bipush 30, 2) := by decide +kernel
theorem d147_132 : decode (tb_me 147).1.2.1 132 = .ok (.newarray .int, 2) := by decide +kernel
theorem sh10_15 {k : Nat} (hk : mi_o k 10 = true) : tb_SH[k + 1 + 15]? = some (.inl (.int, 30)) := (by decide +kernel : ∀ k, k < 214 → mi_o k 10 = true → tb_SH[k + 1 + 15]? = some (.inl (.int, 30))) k (mo_lt hk) hk
theorem d147_134 : decode (tb_me 147).1.2.1 134 = .ok (.putfield 57, 3) := by decide +kernel
theorem k147_57 (b : Bool) : tb_lk b 147 57 = (1, 10, 29, 0, 0) := by cases b <;> decide +kernel
theorem q147_10_29 : (29 < pm_nf tb_cl 10) ∧ pm_isR (tb_ft 10 29) = true ∧ pm_fin tb_cl (tb_me 147).1.1 10 29 = true := by decide +kernel
theorem d147_137 : decode (tb_me 147).1.2.1 137 = .ok (.aload_n 0, 1) := by decide +kernel
theorem d147_138 : decode (tb_me 147).1.2.1 138 = .ok (.bipush 58, 2) := by decide +kernel
theorem d147_140 : decode (tb_me 147).1.2.1 140 = .ok (.newarray .int, 2) := by decide +kernel
theorem sh10_16 {k : Nat} (hk : mi_o k 10 = true) : tb_SH[k + 1 + 16]? = some (.inl (.int, 58)) := (by decide +kernel : ∀ k, k < 214 → mi_o k 10 = true → tb_SH[k + 1 + 16]? = some (.inl (.int, 58))) k (mo_lt hk) hk
theorem d147_142 : decode (tb_me 147).1.2.1 142 = .ok (.putfield 60, 3) := by decide +kernel
theorem k147_60 (b : Bool) : tb_lk b 147 60 = (1, 10, 30, 0, 0) := by cases b <;> decide +kernel
theorem q147_10_30 : (30 < pm_nf tb_cl 10) ∧ pm_isR (tb_ft 10 30) = true ∧ pm_fin tb_cl (tb_me 147).1.1 10 30 = true := by decide +kernel
theorem d147_145 : decode (tb_me 147).1.2.1 145 = .ok (.aload_n 0, 1) := by decide +kernel
theorem d147_146 : decode (tb_me 147).1.2.1 146 = .ok (.sipush 908, 3) := by decide +kernel
theorem d147_149 : decode (tb_me 147).1.2.1 149 = .ok (.newarray .int, 2) := by decide +kernel
theorem sh10_17 {k : Nat} (hk : mi_o k 10 = true) : tb_SH[k + 1 + 17]? = some (.inl (.int, 908)) := (by decide +kernel : ∀ k, k < 214 → mi_o k 10 = true → tb_SH[k + 1 + 17]? = some (.inl (.int, 908))) k (mo_lt hk) hk
theorem d147_151 : decode (tb_me 147).1.2.1 151 = .ok (.putfield 63, 3) := by decide +kernel
theorem k147_63 (b : Bool) : tb_lk b 147 63 = (1, 10, 32, 0, 0) := by cases b <;> decide +kernel
theorem q147_10_32 : (32 < pm_nf tb_cl 10) ∧ pm_isR (tb_ft 10 32) = true ∧ pm_fin tb_cl (tb_me 147).1.1 10 32 = true := by decide +kernel
theorem d147_154 : decode (tb_me 147).1.2.1 154 = .ok (.aload_n 0, 1) := by decide +kernel
theorem d147_155 : decode (tb_me 147).1.2.1 155 = .ok (.iconst 4, 1) := by decide +kernel
theorem d147_156 : decode (tb_me 147).1.2.1 156 = .ok (.newarray .int, 2) := by decide +kernel
theorem sh10_18 {k : Nat} (hk : mi_o k 10 = true) : tb_SH[k + 1 + 18]? = some (.inl (.int, 4)) := (by decide +kernel : ∀ k, k < 214 → mi_o k 10 = true → tb_SH[k + 1 + 18]? = some (.inl (.int, 4))) k (mo_lt hk) hk
theorem d147_158 : decode (tb_me 147).1.2.1 158 = .ok (.putfield 66, 3) := by decide +kernel
theorem k147_66 (b : Bool) : tb_lk b 147 66 = (1, 10, 33, 0, 0) := by cases b <;> decide +kernel
theorem q147_10_33 : (33 < pm_nf tb_cl 10) ∧ pm_isR (tb_ft 10 33) = true ∧ pm_fin tb_cl (tb_me 147).1.1 10 33 = true := by decide +kernel
theorem d147_161 : decode (tb_me 147).1.2.1 161 = .ok (.aload_n 0, 1) := by decide +kernel
theorem d147_162 : decode (tb_me 147).1.2.1 162 = .ok (.iconst 4, 1) := by decide +kernel
theorem d147_163 : decode (tb_me 147).1.2.1 163 = .ok (.newarray .boolean, 2) := by decide +kernel
theorem sh10_19 {k : Nat} (hk : mi_o k 10 = true) : tb_SH[k + 1 + 19]? = some (.inl (.boolean, 4)) := (by decide +kernel : ∀ k, k < 214 → mi_o k 10 = true → tb_SH[k + 1 + 19]? = some (.inl (.boolean, 4))) k (mo_lt hk) hk
theorem d147_165 : decode (tb_me 147).1.2.1 165 = .ok (.putfield 69, 3) := by decide +kernel
theorem k147_69 (b : Bool) : tb_lk b 147 69 = (1, 10, 34, 0, 0) := by cases b <;> decide +kernel
theorem q147_10_34 : (34 < pm_nf tb_cl 10) ∧ pm_isR (tb_ft 10 34) = true ∧ pm_fin tb_cl (tb_me 147).1.1 10 34 = true := by decide +kernel
theorem r147 : (tb_me 147).1.2.2.2 = none := by decide +kernel
theorem kl10 : ∀ q ∈ tb_rf, q.1.1 = 193 → (q.1.2, q.2) ∈ [(34, 213), (33, 212), (32, 211), (30, 210), (29, 209), (27, 208), (26, 207), (25, 206), (24, 205), (22, 204), (20, 203), (19, 202), (17, 201), (15, 200), (7, 199), (6, 198), (5, 197), (4, 196), (3, 195), (0, 194)] := by decide +kernel
theorem d147_178 : decode (tb_me 147).1.2.1 178 = .ok (.iload_n 1, 1) := by decide +kernel
theorem d147_179 : decode (tb_me 147).1.2.1 179 = .ok (.bipush 100, 2) := by decide +kernel
theorem d147_181 : decode (tb_me 147).1.2.1 181 = .ok (.if_icmp .ge 19, 3) := by decide +kernel
theorem d147_200 : decode (tb_me 147).1.2.1 200 = .ok (.return_, 1) := by decide +kernel
theorem d147_184 : decode (tb_me 147).1.2.1 184 = .ok (.aload_n 0, 1) := by decide +kernel
theorem d147_185 : decode (tb_me 147).1.2.1 185 = .ok (.getfield 39, 3) := by decide +kernel
theorem g147_10_20 : (20 < pm_nf tb_cl 10) ∧ tb_ft 10 20 ≠ .long ∧ pm_isR (tb_ft 10 20) = true := by decide +kernel
theorem d147_188 : decode (tb_me 147).1.2.1 188 = .ok (.bipush 106, 2) := by decide +kernel
theorem d147_190 : decode (tb_me 147).1.2.1 190 = .ok (.iload_n 1, 1) := by decide +kernel
theorem d147_191 : decode (tb_me 147).1.2.1 191 = .ok (.iadd, 1) := by decide +kernel
theorem d147_192 : decode (tb_me 147).1.2.1 192 = .ok (.iconst (-1), 1) := by decide +kernel
theorem d147_193 : decode (tb_me 147).1.2.1 193 = .ok (.iastore, 1) := by decide +kernel
theorem d147_194 : decode (tb_me 147).1.2.1 194 = .ok (.iinc 1 1, 3) := by decide +kernel
theorem d147_197 : decode (tb_me 147).1.2.1 197 = .ok (.goto (-19), 3) := by decide +kernel
theorem d147_168 : decode (tb_me 147).1.2.1 168 = .ok (.aload_n 0, 1) := by decide +kernel
theorem d147_169 : decode (tb_me 147).1.2.1 169 = .ok (.getfield 39, 3) := by decide +kernel
theorem d147_172 : decode (tb_me 147).1.2.1 172 = .ok (.bipush 6, 2) := by decide +kernel
theorem d147_174 : decode (tb_me 147).1.2.1 174 = .ok (.iconst (-1), 1) := by decide +kernel
theorem d147_175 : decode (tb_me 147).1.2.1 175 = .ok (.iastore, 1) := by decide +kernel
theorem d147_176 : decode (tb_me 147).1.2.1 176 = .ok (.iconst 0, 1) := by decide +kernel
theorem d147_177 : decode (tb_me 147).1.2.1 177 = .ok (.istore_n 1, 1) := by decide +kernel
