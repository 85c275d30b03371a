/-! Constructors without loops (written by wip/gen6.py). -/
theorem mo_lt {k ci : Nat} (hk : mi_o k ci = true) : k < 214 := by
  rw [← tb_SHl]
  exact (List.getElem?_eq_some_iff.mp (of_decide_eq_true hk)).1
theorem en133 : (tb_me 133).2.1 = (1, 400) ∧ (tb_me 133).1.2.2.1 = 1 := by decide +kernel
theorem d133_0 : decode (tb_me 133).1.2.1 0 = .ok (.aload_n 0, 1) := by decide +kernel
theorem d133_1 : decode (tb_me 133).1.2.1 1 = .ok (.invokespecial 3, 3) := by decide +kernel
theorem k133_3 (b : Bool) : tb_lk b 133 3 = (8, 0, 0, 0, 0) := by cases b <;> decide +kernel
theorem d133_4 : decode (tb_me 133).1.2.1 4 = .ok (.aload_n 0, 1) := by decide +kernel
theorem d133_5 : decode (tb_me 133).1.2.1 5 = .ok (.sipush 400, 3) := by decide +kernel
theorem d133_8 : decode (tb_me 133).1.2.1 8 = .ok (.newarray .int, 2) := by decide +kernel
theorem sh8_0 {k : Nat} (hk : mi_o k 8 = true) : tb_SH[k + 1 + 0]? = some (.inl (.int, 400)) := (by decide +kernel : ∀ k, k < 214 → mi_o k 8 = true → tb_SH[k + 1 + 0]? = some (.inl (.int, 400))) k (mo_lt hk) hk
theorem d133_10 : decode (tb_me 133).1.2.1 10 = .ok (.putfield 9, 3) := by decide +kernel
theorem k133_9 (b : Bool) : tb_lk b 133 9 = (1, 8, 0, 0, 0) := by cases b <;> decide +kernel
theorem q133_8_0 : (0 < pm_nf tb_cl 8) ∧ pm_isR (tb_ft 8 0) = true ∧ pm_fin tb_cl (tb_me 133).1.1 8 0 = true := by decide +kernel
theorem d133_13 : decode (tb_me 133).1.2.1 13 = .ok (.aload_n 0, 1) := by decide +kernel
theorem d133_14 : decode (tb_me 133).1.2.1 14 = .ok (.iconst 0, 1) := by decide +kernel
theorem d133_15 : decode (tb_me 133).1.2.1 15 = .ok (.putfield 15, 3) := by decide +kernel
theorem k133_15 (b : Bool) : tb_lk b 133 15 = (1, 8, 1, 0, 0) := by cases b <;> decide +kernel
theorem q133_8_1 : (1 < pm_nf tb_cl 8) ∧ tb_ft 8 1 = .int ∧ pm_fin tb_cl (tb_me 133).1.1 8 1 = true := by decide +kernel
theorem d133_18 : decode (tb_me 133).1.2.1 18 = .ok (.aload_n 0, 1) := by decide +kernel
theorem d133_19 : decode (tb_me 133).1.2.1 19 = .ok (.iconst 0, 1) := by decide +kernel
theorem d133_20 : decode (tb_me 133).1.2.1 20 = .ok (.putfield 19, 3) := by decide +kernel
theorem k133_19 (b : Bool) : tb_lk b 133 19 = (1, 8, 2, 0, 0) := by cases b <;> decide +kernel
theorem q133_8_2 : (2 < pm_nf tb_cl 8) ∧ tb_ft 8 2 = .int ∧ pm_fin tb_cl (tb_me 133).1.1 8 2 = true := by decide +kernel
theorem d133_23 : decode (tb_me 133).1.2.1 23 = .ok (.aload_n 0, 1) := by decide +kernel
theorem d133_24 : decode (tb_me 133).1.2.1 24 = .ok (.iconst 0, 1) := by decide +kernel
theorem d133_25 : decode (tb_me 133).1.2.1 25 = .ok (.putfield 22, 3) := by decide +kernel
theorem k133_22 (b : Bool) : tb_lk b 133 22 = (1, 8, 3, 0, 0) := by cases b <;> decide +kernel
theorem q133_8_3 : (3 < pm_nf tb_cl 8) ∧ tb_ft 8 3 = .int ∧ pm_fin tb_cl (tb_me 133).1.1 8 3 = true := by decide +kernel
theorem d133_28 : decode (tb_me 133).1.2.1 28 = .ok (.aload_n 0, 1) := by decide +kernel
theorem d133_29 : decode (tb_me 133).1.2.1 29 = .ok (.iconst 0, 1) := by decide +kernel
theorem d133_30 : decode (tb_me 133).1.2.1 30 = .ok (.putfield 25, 3) := by decide +kernel
theorem k133_25 (b : Bool) : tb_lk b 133 25 = (1, 8, 4, 0, 0) := by cases b <;> decide +kernel
theorem q133_8_4 : (4 < pm_nf tb_cl 8) ∧ tb_ft 8 4 = .int ∧ pm_fin tb_cl (tb_me 133).1.1 8 4 = true := by decide +kernel
theorem d133_33 : decode (tb_me 133).1.2.1 33 = .ok (.aload_n 0, 1) := by decide +kernel
theorem d133_34 : decode (tb_me 133).1.2.1 34 = .ok (.iconst 0, 1) := by decide +kernel
theorem d133_35 : decode (tb_me 133).1.2.1 35 = .ok (.putfield 28, 3) := by decide +kernel
theorem k133_28 (b : Bool) : tb_lk b 133 28 = (1, 8, 5, 0, 0) := by cases b <;> decide +kernel
theorem q133_8_5 : (5 < pm_nf tb_cl 8) ∧ tb_ft 8 5 = .int ∧ pm_fin tb_cl (tb_me 133).1.1 8 5 = true := by decide +kernel
theorem d133_38 : decode (tb_me 133).1.2.1 38 = .ok (.aload_n 0, 1) := by decide +kernel
theorem d133_39 : decode (tb_me 133).1.2.1 39 = .ok (.iconst 0, 1) := by decide +kernel
theorem d133_40 : decode (tb_me 133).1.2.1 40 = .ok (.putfield 31, 3) := by decide +kernel
theorem k133_31 (b : Bool) : tb_lk b 133 31 = (1, 8, 6, 0, 0) := by cases b <;> decide +kernel
theorem q133_8_6 : (6 < pm_nf tb_cl 8) ∧ tb_ft 8 6 = .int ∧ pm_fin tb_cl (tb_me 133).1.1 8 6 = true := by decide +kernel
theorem d133_43 : decode (tb_me 133).1.2.1 43 = .ok (.aload_n 0, 1) := by decide +kernel
theorem d133_44 : decode (tb_me 133).1.2.1 44 = .ok (.iconst 0, 1) := by decide +kernel
theorem d133_45 : decode (tb_me 133).1.2.1 45 = .ok (.putfield 34, 3) := by decide +kernel
theorem k133_34 (b : Bool) : tb_lk b 133 34 = (1, 8, 7, 0, 0) := by cases b <;> decide +kernel
theorem q133_8_7 : (7 < pm_nf tb_cl 8) ∧ tb_ft 8 7 = .int ∧ pm_fin tb_cl (tb_me 133).1.1 8 7 = true := by decide +kernel
theorem d133_48 : decode (tb_me 133).1.2.1 48 = .ok (.return_, 1) := by decide +kernel
theorem r133 : (tb_me 133).1.2.2.2 = none := by decide +kernel
theorem kl8 : ∀ q ∈ tb_rf, mi_o q.1.1 8 = true → (q.1.2, q.2) ∈ [(0, q.1.1 + 1)] := by decide +kernel
theorem en93 : (tb_me 93).2.1 = (2, 476) ∧ (tb_me 93).1.2.2.1 = 1 := by decide +kernel
theorem d93_0 : decode (tb_me 93).1.2.1 0 = .ok (.aload_n 0, 1) := by decide +kernel
theorem d93_1 : decode (tb_me 93).1.2.1 1 = .ok (.invokespecial 3, 3) := by decide +kernel
theorem k93_3 (b : Bool) : tb_lk b 93 3 = (8, 0, 0, 0, 0) := by cases b <;> decide +kernel
theorem d93_4 : decode (tb_me 93).1.2.1 4 = .ok (.aload_n 0, 1) := by decide +kernel
theorem d93_5 : decode (tb_me 93).1.2.1 5 = .ok (.sipush 412, 3) := by decide +kernel
theorem d93_8 : decode (tb_me 93).1.2.1 8 = .ok (.newarray .int, 2) := by decide +kernel
theorem sh6_0 {k : Nat} (hk : mi_o k 6 = true) : tb_SH[k + 1 + 0]? = some (.inl (.int, 412)) := (by decide +kernel : ∀ k, k < 214 → mi_o k 6 = true → tb_SH[k + 1 + 0]? = some (.inl (.int, 412))) k (mo_lt hk) hk
theorem d93_10 : decode (tb_me 93).1.2.1 10 = .ok (.putfield 11, 3) := by decide +kernel
theorem k93_11 (b : Bool) : tb_lk b 93 11 = (1, 6, 0, 0, 0) := by cases b <;> decide +kernel
theorem q93_6_0 : (0 < pm_nf tb_cl 6) ∧ pm_isR (tb_ft 6 0) = true ∧ pm_fin tb_cl (tb_me 93).1.1 6 0 = true := by decide +kernel
theorem d93_13 : decode (tb_me 93).1.2.1 13 = .ok (.aload_n 0, 1) := by decide +kernel
theorem d93_14 : decode (tb_me 93).1.2.1 14 = .ok (.iconst 0, 1) := by decide +kernel
theorem d93_15 : decode (tb_me 93).1.2.1 15 = .ok (.putfield 15, 3) := by decide +kernel
theorem k93_15 (b : Bool) : tb_lk b 93 15 = (1, 6, 1, 0, 0) := by cases b <;> decide +kernel
theorem q93_6_1 : (1 < pm_nf tb_cl 6) ∧ tb_ft 6 1 = .int ∧ pm_fin tb_cl (tb_me 93).1.1 6 1 = true := by decide +kernel
theorem d93_18 : decode (tb_me 93).1.2.1 18 = .ok (.aload_n 0, 1) := by decide +kernel
theorem d93_19 : decode (tb_me 93).1.2.1 19 = .ok (.iconst 0, 1) := by decide +kernel
theorem d93_20 : decode (tb_me 93).1.2.1 20 = .ok (.putfield 19, 3) := by decide +kernel
theorem k93_19 (b : Bool) : tb_lk b 93 19 = (1, 6, 2, 0, 0) := by cases b <;> decide +kernel
theorem q93_6_2 : (2 < pm_nf tb_cl 6) ∧ tb_ft 6 2 = .int ∧ pm_fin tb_cl (tb_me 93).1.1 6 2 = true := by decide +kernel
theorem d93_23 : decode (tb_me 93).1.2.1 23 = .ok (.aload_n 0, 1) := by decide +kernel
theorem d93_24 : decode (tb_me 93).1.2.1 24 = .ok (.bipush 64, 2) := by decide +kernel
theorem d93_26 : decode (tb_me 93).1.2.1 26 = .ok (.newarray .long, 2) := by decide +kernel
theorem sh6_1 {k : Nat} (hk : mi_o k 6 = true) : tb_SH[k + 1 + 1]? = some (.inl (.long, 64)) := (by decide +kernel : ∀ k, k < 214 → mi_o k 6 = true → tb_SH[k + 1 + 1]? = some (.inl (.long, 64))) k (mo_lt hk) hk
theorem d93_28 : decode (tb_me 93).1.2.1 28 = .ok (.putfield 22, 3) := by decide +kernel
theorem k93_22 (b : Bool) : tb_lk b 93 22 = (1, 6, 3, 0, 0) := by cases b <;> decide +kernel
theorem q93_6_3 : (3 < pm_nf tb_cl 6) ∧ pm_isR (tb_ft 6 3) = true ∧ pm_fin tb_cl (tb_me 93).1.1 6 3 = true := by decide +kernel
theorem d93_31 : decode (tb_me 93).1.2.1 31 = .ok (.aload_n 0, 1) := by decide +kernel
theorem d93_32 : decode (tb_me 93).1.2.1 32 = .ok (.iconst 0, 1) := by decide +kernel
theorem d93_33 : decode (tb_me 93).1.2.1 33 = .ok (.putfield 26, 3) := by decide +kernel
theorem k93_26 (b : Bool) : tb_lk b 93 26 = (1, 6, 4, 0, 0) := by cases b <;> decide +kernel
theorem q93_6_4 : (4 < pm_nf tb_cl 6) ∧ tb_ft 6 4 = .int ∧ pm_fin tb_cl (tb_me 93).1.1 6 4 = true := by decide +kernel
theorem d93_36 : decode (tb_me 93).1.2.1 36 = .ok (.return_, 1) := by decide +kernel
theorem r93 : (tb_me 93).1.2.2.2 = none := by decide +kernel
theorem kl6 : ∀ q ∈ tb_rf, mi_o q.1.1 6 = true → (q.1.2, q.2) ∈ [(0, q.1.1 + 1), (3, q.1.1 + 2)] := by decide +kernel
theorem en109 : (tb_me 109).2.1 = (9, 194) ∧ (tb_me 109).1.2.2.1 = 1 := by decide +kernel
theorem d109_0 : decode (tb_me 109).1.2.1 0 = .ok (.aload_n 0, 1) := by decide +kernel
theorem d109_1 : decode (tb_me 109).1.2.1 1 = .ok (.invokespecial 3, 3) := by decide +kernel
theorem k109_3 (b : Bool) : tb_lk b 109 3 = (8, 0, 0, 0, 0) := by cases b <;> decide +kernel
theorem d109_4 : decode (tb_me 109).1.2.1 4 = .ok (.aload_n 0, 1) := by decide +kernel
theorem d109_5 : decode (tb_me 109).1.2.1 5 = .ok (.iconst 0, 1) := by decide +kernel
theorem d109_6 : decode (tb_me 109).1.2.1 6 = .ok (.putfield 9, 3) := by decide +kernel
theorem k109_9 (b : Bool) : tb_lk b 109 9 = (1, 7, 0, 0, 0) := by cases b <;> decide +kernel
theorem q109_7_0 : (0 < pm_nf tb_cl 7) ∧ tb_ft 7 0 = .int ∧ pm_fin tb_cl (tb_me 109).1.1 7 0 = true := by decide +kernel
theorem d109_9 : decode (tb_me 109).1.2.1 9 = .ok (.aload_n 0, 1) := by decide +kernel
theorem d109_10 : decode (tb_me 109).1.2.1 10 = .ok (.iconst 0, 1) := by decide +kernel
theorem d109_11 : decode (tb_me 109).1.2.1 11 = .ok (.putfield 15, 3) := by decide +kernel
theorem k109_15 (b : Bool) : tb_lk b 109 15 = (1, 7, 1, 0, 0) := by cases b <;> decide +kernel
theorem q109_7_1 : (1 < pm_nf tb_cl 7) ∧ tb_ft 7 1 = .int ∧ pm_fin tb_cl (tb_me 109).1.1 7 1 = true := by decide +kernel
theorem d109_14 : decode (tb_me 109).1.2.1 14 = .ok (.aload_n 0, 1) := by decide +kernel
theorem d109_15 : decode (tb_me 109).1.2.1 15 = .ok (.iconst 0, 1) := by decide +kernel
theorem d109_16 : decode (tb_me 109).1.2.1 16 = .ok (.putfield 18, 3) := by decide +kernel
theorem k109_18 (b : Bool) : tb_lk b 109 18 = (1, 7, 2, 0, 0) := by cases b <;> decide +kernel
theorem q109_7_2 : (2 < pm_nf tb_cl 7) ∧ tb_ft 7 2 = .int ∧ pm_fin tb_cl (tb_me 109).1.1 7 2 = true := by decide +kernel
theorem d109_19 : decode (tb_me 109).1.2.1 19 = .ok (.aload_n 0, 1) := by decide +kernel
theorem d109_20 : decode (tb_me 109).1.2.1 20 = .ok (.iconst 0, 1) := by decide +kernel
theorem d109_21 : decode (tb_me 109).1.2.1 21 = .ok (.putfield 21, 3) := by decide +kernel
theorem k109_21 (b : Bool) : tb_lk b 109 21 = (1, 7, 3, 0, 0) := by cases b <;> decide +kernel
theorem q109_7_3 : (3 < pm_nf tb_cl 7) ∧ tb_ft 7 3 = .int ∧ pm_fin tb_cl (tb_me 109).1.1 7 3 = true := by decide +kernel
theorem d109_24 : decode (tb_me 109).1.2.1 24 = .ok (.aload_n 0, 1) := by decide +kernel
theorem d109_25 : decode (tb_me 109).1.2.1 25 = .ok (.bipush 8, 2) := by decide +kernel
theorem d109_27 : decode (tb_me 109).1.2.1 27 = .ok (.newarray .int, 2) := by decide +kernel
theorem sh7_0 {k : Nat} (hk : mi_o k 7 = true) : tb_SH[k + 1 + 0]? = some (.inl (.int, 8)) := (by decide +kernel : ∀ k, k < 214 → mi_o k 7 = true → tb_SH[k + 1 + 0]? = some (.inl (.int, 8))) k (mo_lt hk) hk
theorem d109_29 : decode (tb_me 109).1.2.1 29 = .ok (.putfield 24, 3) := by decide +kernel
theorem k109_24 (b : Bool) : tb_lk b 109 24 = (1, 7, 4, 0, 0) := by cases b <;> decide +kernel
theorem q109_7_4 : (4 < pm_nf tb_cl 7) ∧ pm_isR (tb_ft 7 4) = true ∧ pm_fin tb_cl (tb_me 109).1.1 7 4 = true := by decide +kernel
theorem d109_32 : decode (tb_me 109).1.2.1 32 = .ok (.aload_n 0, 1) := by decide +kernel
theorem d109_33 : decode (tb_me 109).1.2.1 33 = .ok (.bipush 8, 2) := by decide +kernel
theorem d109_35 : decode (tb_me 109).1.2.1 35 = .ok (.newarray .int, 2) := by decide +kernel
theorem sh7_1 {k : Nat} (hk : mi_o k 7 = true) : tb_SH[k + 1 + 1]? = some (.inl (.int, 8)) := (by decide +kernel : ∀ k, k < 214 → mi_o k 7 = true → tb_SH[k + 1 + 1]? = some (.inl (.int, 8))) k (mo_lt hk) hk
theorem d109_37 : decode (tb_me 109).1.2.1 37 = .ok (.putfield 28, 3) := by decide +kernel
theorem k109_28 (b : Bool) : tb_lk b 109 28 = (1, 7, 5, 0, 0) := by cases b <;> decide +kernel
theorem q109_7_5 : (5 < pm_nf tb_cl 7) ∧ pm_isR (tb_ft 7 5) = true ∧ pm_fin tb_cl (tb_me 109).1.1 7 5 = true := by decide +kernel
theorem d109_40 : decode (tb_me 109).1.2.1 40 = .ok (.aload_n 0, 1) := by decide +kernel
theorem d109_41 : decode (tb_me 109).1.2.1 41 = .ok (.bipush 8, 2) := by decide +kernel
theorem d109_43 : decode (tb_me 109).1.2.1 43 = .ok (.newarray .int, 2) := by decide +kernel
theorem sh7_2 {k : Nat} (hk : mi_o k 7 = true) : tb_SH[k + 1 + 2]? = some (.inl (.int, 8)) := (by decide +kernel : ∀ k, k < 214 → mi_o k 7 = true → tb_SH[k + 1 + 2]? = some (.inl (.int, 8))) k (mo_lt hk) hk
theorem d109_45 : decode (tb_me 109).1.2.1 45 = .ok (.putfield 31, 3) := by decide +kernel
theorem k109_31 (b : Bool) : tb_lk b 109 31 = (1, 7, 6, 0, 0) := by cases b <;> decide +kernel
theorem q109_7_6 : (6 < pm_nf tb_cl 7) ∧ pm_isR (tb_ft 7 6) = true ∧ pm_fin tb_cl (tb_me 109).1.1 7 6 = true := by decide +kernel
theorem d109_48 : decode (tb_me 109).1.2.1 48 = .ok (.aload_n 0, 1) := by decide +kernel
theorem d109_49 : decode (tb_me 109).1.2.1 49 = .ok (.bipush 8, 2) := by decide +kernel
theorem d109_51 : decode (tb_me 109).1.2.1 51 = .ok (.newarray .int, 2) := by decide +kernel
theorem sh7_3 {k : Nat} (hk : mi_o k 7 = true) : tb_SH[k + 1 + 3]? = some (.inl (.int, 8)) := (by decide +kernel : ∀ k, k < 214 → mi_o k 7 = true → tb_SH[k + 1 + 3]? = some (.inl (.int, 8))) k (mo_lt hk) hk
theorem d109_53 : decode (tb_me 109).1.2.1 53 = .ok (.putfield 34, 3) := by decide +kernel
theorem k109_34 (b : Bool) : tb_lk b 109 34 = (1, 7, 7, 0, 0) := by cases b <;> decide +kernel
theorem q109_7_7 : (7 < pm_nf tb_cl 7) ∧ pm_isR (tb_ft 7 7) = true ∧ pm_fin tb_cl (tb_me 109).1.1 7 7 = true := by decide +kernel
theorem d109_56 : decode (tb_me 109).1.2.1 56 = .ok (.aload_n 0, 1) := by decide +kernel
theorem d109_57 : decode (tb_me 109).1.2.1 57 = .ok (.bipush 32, 2) := by decide +kernel
theorem d109_59 : decode (tb_me 109).1.2.1 59 = .ok (.newarray .int, 2) := by decide +kernel
theorem sh7_4 {k : Nat} (hk : mi_o k 7 = true) : tb_SH[k + 1 + 4]? = some (.inl (.int, 32)) := (by decide +kernel : ∀ k, k < 214 → mi_o k 7 = true → tb_SH[k + 1 + 4]? = some (.inl (.int, 32))) k (mo_lt hk) hk
theorem d109_61 : decode (tb_me 109).1.2.1 61 = .ok (.putfield 37, 3) := by decide +kernel
theorem k109_37 (b : Bool) : tb_lk b 109 37 = (1, 7, 8, 0, 0) := by cases b <;> decide +kernel
theorem q109_7_8 : (8 < pm_nf tb_cl 7) ∧ pm_isR (tb_ft 7 8) = true ∧ pm_fin tb_cl (tb_me 109).1.1 7 8 = true := by decide +kernel
theorem d109_64 : decode (tb_me 109).1.2.1 64 = .ok (.aload_n 0, 1) := by decide +kernel
theorem d109_65 : decode (tb_me 109).1.2.1 65 = .ok (.bipush 10, 2) := by decide +kernel
theorem d109_67 : decode (tb_me 109).1.2.1 67 = .ok (.newarray .int, 2) := by decide +kernel
theorem sh7_5 {k : Nat} (hk : mi_o k 7 = true) : tb_SH[k + 1 + 5]? = some (.inl (.int, 10)) := (by decide +kernel : ∀ k, k < 214 → mi_o k 7 = true → tb_SH[k + 1 + 5]? = some (.inl (.int, 10))) k (mo_lt hk) hk
theorem d109_69 : decode (tb_me 109).1.2.1 69 = .ok (.putfield 40, 3) := by decide +kernel
theorem k109_40 (b : Bool) : tb_lk b 109 40 = (1, 7, 9, 0, 0) := by cases b <;> decide +kernel
theorem q109_7_9 : (9 < pm_nf tb_cl 7) ∧ pm_isR (tb_ft 7 9) = true ∧ pm_fin tb_cl (tb_me 109).1.1 7 9 = true := by decide +kernel
theorem d109_72 : decode (tb_me 109).1.2.1 72 = .ok (.aload_n 0, 1) := by decide +kernel
theorem d109_73 : decode (tb_me 109).1.2.1 73 = .ok (.bipush 10, 2) := by decide +kernel
theorem d109_75 : decode (tb_me 109).1.2.1 75 = .ok (.newarray .int, 2) := by decide +kernel
theorem sh7_6 {k : Nat} (hk : mi_o k 7 = true) : tb_SH[k + 1 + 6]? = some (.inl (.int, 10)) := (by decide +kernel : ∀ k, k < 214 → mi_o k 7 = true → tb_SH[k + 1 + 6]? = some (.inl (.int, 10))) k (mo_lt hk) hk
theorem d109_77 : decode (tb_me 109).1.2.1 77 = .ok (.putfield 43, 3) := by decide +kernel
theorem k109_43 (b : Bool) : tb_lk b 109 43 = (1, 7, 10, 0, 0) := by cases b <;> decide +kernel
theorem q109_7_10 : (10 < pm_nf tb_cl 7) ∧ pm_isR (tb_ft 7 10) = true ∧ pm_fin tb_cl (tb_me 109).1.1 7 10 = true := by decide +kernel
theorem d109_80 : decode (tb_me 109).1.2.1 80 = .ok (.aload_n 0, 1) := by decide +kernel
theorem d109_81 : decode (tb_me 109).1.2.1 81 = .ok (.bipush 10, 2) := by decide +kernel
theorem d109_83 : decode (tb_me 109).1.2.1 83 = .ok (.newarray .int, 2) := by decide +kernel
theorem sh7_7 {k : Nat} (hk : mi_o k 7 = true) : tb_SH[k + 1 + 7]? = some (.inl (.int, 10)) := (by decide +kernel : ∀ k, k < 214 → mi_o k 7 = true → tb_SH[k + 1 + 7]? = some (.inl (.int, 10))) k (mo_lt hk) hk
theorem d109_85 : decode (tb_me 109).1.2.1 85 = .ok (.putfield 46, 3) := by decide +kernel
theorem k109_46 (b : Bool) : tb_lk b 109 46 = (1, 7, 11, 0, 0) := by cases b <;> decide +kernel
theorem q109_7_11 : (11 < pm_nf tb_cl 7) ∧ pm_isR (tb_ft 7 11) = true ∧ pm_fin tb_cl (tb_me 109).1.1 7 11 = true := by decide +kernel
theorem d109_88 : decode (tb_me 109).1.2.1 88 = .ok (.aload_n 0, 1) := by decide +kernel
theorem d109_89 : decode (tb_me 109).1.2.1 89 = .ok (.bipush 100, 2) := by decide +kernel
theorem d109_91 : decode (tb_me 109).1.2.1 91 = .ok (.newarray .int, 2) := by decide +kernel
theorem sh7_8 {k : Nat} (hk : mi_o k 7 = true) : tb_SH[k + 1 + 8]? = some (.inl (.int, 100)) := (by decide +kernel : ∀ k, k < 214 → mi_o k 7 = true → tb_SH[k + 1 + 8]? = some (.inl (.int, 100))) k (mo_lt hk) hk
theorem d109_93 : decode (tb_me 109).1.2.1 93 = .ok (.putfield 49, 3) := by decide +kernel
theorem k109_49 (b : Bool) : tb_lk b 109 49 = (1, 7, 12, 0, 0) := by cases b <;> decide +kernel
theorem q109_7_12 : (12 < pm_nf tb_cl 7) ∧ pm_isR (tb_ft 7 12) = true ∧ pm_fin tb_cl (tb_me 109).1.1 7 12 = true := by decide +kernel
theorem d109_96 : decode (tb_me 109).1.2.1 96 = .ok (.return_, 1) := by decide +kernel
theorem r109 : (tb_me 109).1.2.2.2 = none := by decide +kernel
theorem kl7 : ∀ q ∈ tb_rf, mi_o q.1.1 7 = true → (q.1.2, q.2) ∈ [(4, q.1.1 + 1), (5, q.1.1 + 2), (6, q.1.1 + 3), (7, q.1.1 + 4), (8, q.1.1 + 5), (9, q.1.1 + 6), (10, q.1.1 + 7), (11, q.1.1 + 8), (12, q.1.1 + 9)] := by decide +kernel
theorem en74 : (tb_me 74).2.1 = (2, 16) ∧ (tb_me 74).1.2.2.1 = 1 := by decide +kernel
theorem d74_0 : decode (tb_me 74).1.2.1 0 = .ok (.aload_n 0, 1) := by decide +kernel
theorem d74_1 : decode (tb_me 74).1.2.1 1 = .ok (.invokespecial 3, 3) := by decide +kernel
theorem k74_3 (b : Bool) : tb_lk b 74 3 = (8, 0, 0, 0, 0) := by cases b <;> decide +kernel
theorem d74_4 : decode (tb_me 74).1.2.1 4 = .ok (.aload_n 0, 1) := by decide +kernel
theorem d74_5 : decode (tb_me 74).1.2.1 5 = .ok (.iconst 0, 1) := by decide +kernel
theorem d74_6 : decode (tb_me 74).1.2.1 6 = .ok (.putfield 9, 3) := by decide +kernel
theorem k74_9 (b : Bool) : tb_lk b 74 9 = (1, 3, 0, 0, 0) := by cases b <;> decide +kernel
theorem q74_3_0 : (0 < pm_nf tb_cl 3) ∧ tb_ft 3 0 = .int ∧ pm_fin tb_cl (tb_me 74).1.1 3 0 = true := by decide +kernel
theorem d74_9 : decode (tb_me 74).1.2.1 9 = .ok (.aload_n 0, 1) := by decide +kernel
theorem d74_10 : decode (tb_me 74).1.2.1 10 = .ok (.iconst 0, 1) := by decide +kernel
theorem d74_11 : decode (tb_me 74).1.2.1 11 = .ok (.putfield 15, 3) := by decide +kernel
theorem k74_15 (b : Bool) : tb_lk b 74 15 = (1, 3, 1, 0, 0) := by cases b <;> decide +kernel
theorem q74_3_1 : (1 < pm_nf tb_cl 3) ∧ tb_ft 3 1 = .int ∧ pm_fin tb_cl (tb_me 74).1.1 3 1 = true := by decide +kernel
theorem d74_14 : decode (tb_me 74).1.2.1 14 = .ok (.aload_n 0, 1) := by decide +kernel
theorem d74_15 : decode (tb_me 74).1.2.1 15 = .ok (.iconst 0, 1) := by decide +kernel
theorem d74_16 : decode (tb_me 74).1.2.1 16 = .ok (.putfield 18, 3) := by decide +kernel
theorem k74_18 (b : Bool) : tb_lk b 74 18 = (1, 3, 2, 0, 0) := by cases b <;> decide +kernel
theorem q74_3_2 : (2 < pm_nf tb_cl 3) ∧ tb_ft 3 2 = .int ∧ pm_fin tb_cl (tb_me 74).1.1 3 2 = true := by decide +kernel
theorem d74_19 : decode (tb_me 74).1.2.1 19 = .ok (.aload_n 0, 1) := by decide +kernel
theorem d74_20 : decode (tb_me 74).1.2.1 20 = .ok (.iconst 0, 1) := by decide +kernel
theorem d74_21 : decode (tb_me 74).1.2.1 21 = .ok (.putfield 21, 3) := by decide +kernel
theorem k74_21 (b : Bool) : tb_lk b 74 21 = (1, 3, 3, 0, 0) := by cases b <;> decide +kernel
theorem q74_3_3 : (3 < pm_nf tb_cl 3) ∧ tb_ft 3 3 = .int ∧ pm_fin tb_cl (tb_me 74).1.1 3 3 = true := by decide +kernel
theorem d74_24 : decode (tb_me 74).1.2.1 24 = .ok (.aload_n 0, 1) := by decide +kernel
theorem d74_25 : decode (tb_me 74).1.2.1 25 = .ok (.iconst (-1), 1) := by decide +kernel
theorem d74_26 : decode (tb_me 74).1.2.1 26 = .ok (.putfield 24, 3) := by decide +kernel
theorem k74_24 (b : Bool) : tb_lk b 74 24 = (1, 3, 4, 0, 0) := by cases b <;> decide +kernel
theorem q74_3_4 : (4 < pm_nf tb_cl 3) ∧ tb_ft 3 4 = .int ∧ pm_fin tb_cl (tb_me 74).1.1 3 4 = true := by decide +kernel
theorem d74_29 : decode (tb_me 74).1.2.1 29 = .ok (.aload_n 0, 1) := by decide +kernel
theorem d74_30 : decode (tb_me 74).1.2.1 30 = .ok (.bipush 8, 2) := by decide +kernel
theorem d74_32 : decode (tb_me 74).1.2.1 32 = .ok (.newarray .int, 2) := by decide +kernel
theorem sh3_0 {k : Nat} (hk : mi_o k 3 = true) : tb_SH[k + 1 + 0]? = some (.inl (.int, 8)) := (by decide +kernel : ∀ k, k < 214 → mi_o k 3 = true → tb_SH[k + 1 + 0]? = some (.inl (.int, 8))) k (mo_lt hk) hk
theorem d74_34 : decode (tb_me 74).1.2.1 34 = .ok (.putfield 27, 3) := by decide +kernel
theorem k74_27 (b : Bool) : tb_lk b 74 27 = (1, 3, 5, 0, 0) := by cases b <;> decide +kernel
theorem q74_3_5 : (5 < pm_nf tb_cl 3) ∧ pm_isR (tb_ft 3 5) = true ∧ pm_fin tb_cl (tb_me 74).1.1 3 5 = true := by decide +kernel
theorem d74_37 : decode (tb_me 74).1.2.1 37 = .ok (.aload_n 0, 1) := by decide +kernel
theorem d74_38 : decode (tb_me 74).1.2.1 38 = .ok (.bipush 8, 2) := by decide +kernel
theorem d74_40 : decode (tb_me 74).1.2.1 40 = .ok (.newarray .int, 2) := by decide +kernel
theorem sh3_1 {k : Nat} (hk : mi_o k 3 = true) : tb_SH[k + 1 + 1]? = some (.inl (.int, 8)) := (by decide +kernel : ∀ k, k < 214 → mi_o k 3 = true → tb_SH[k + 1 + 1]? = some (.inl (.int, 8))) k (mo_lt hk) hk
theorem d74_42 : decode (tb_me 74).1.2.1 42 = .ok (.putfield 31, 3) := by decide +kernel
theorem k74_31 (b : Bool) : tb_lk b 74 31 = (1, 3, 6, 0, 0) := by cases b <;> decide +kernel
theorem q74_3_6 : (6 < pm_nf tb_cl 3) ∧ pm_isR (tb_ft 3 6) = true ∧ pm_fin tb_cl (tb_me 74).1.1 3 6 = true := by decide +kernel
theorem d74_45 : decode (tb_me 74).1.2.1 45 = .ok (.return_, 1) := by decide +kernel
theorem r74 : (tb_me 74).1.2.2.2 = none := by decide +kernel
theorem kl3 : ∀ q ∈ tb_rf, mi_o q.1.1 3 = true → (q.1.2, q.2) ∈ [(5, q.1.1 + 1), (6, q.1.1 + 2)] := by decide +kernel
theorem en86 : (tb_me 86).2.1 = (3, 42) ∧ (tb_me 86).1.2.2.1 = 1 := by decide +kernel
theorem d86_0 : decode (tb_me 86).1.2.1 0 = .ok (.aload_n 0, 1) := by decide +kernel
theorem d86_1 : decode (tb_me 86).1.2.1 1 = .ok (.invokespecial 3, 3) := by decide +kernel
theorem k86_3 (b : Bool) : tb_lk b 86 3 = (8, 0, 0, 0, 0) := by cases b <;> decide +kernel
theorem d86_4 : decode (tb_me 86).1.2.1 4 = .ok (.aload_n 0, 1) := by decide +kernel
theorem d86_5 : decode (tb_me 86).1.2.1 5 = .ok (.aconst_null, 1) := by decide +kernel
theorem d86_6 : decode (tb_me 86).1.2.1 6 = .ok (.putfield 9, 3) := by decide +kernel
theorem k86_9 (b : Bool) : tb_lk b 86 9 = (1, 5, 0, 0, 0) := by cases b <;> decide +kernel
theorem q86_5_0 : (0 < pm_nf tb_cl 5) ∧ pm_isR (tb_ft 5 0) = true ∧ pm_fin tb_cl (tb_me 86).1.1 5 0 = true := by decide +kernel
theorem d86_9 : decode (tb_me 86).1.2.1 9 = .ok (.aload_n 0, 1) := by decide +kernel
theorem d86_10 : decode (tb_me 86).1.2.1 10 = .ok (.bipush 30, 2) := by decide +kernel
theorem d86_12 : decode (tb_me 86).1.2.1 12 = .ok (.newarray .int, 2) := by decide +kernel
theorem sh5_0 {k : Nat} (hk : mi_o k 5 = true) : tb_SH[k + 1 + 0]? = some (.inl (.int, 30)) := (by decide +kernel : ∀ k, k < 214 → mi_o k 5 = true → tb_SH[k + 1 + 0]? = some (.inl (.int, 30))) k (mo_lt hk) hk
theorem d86_14 : decode (tb_me 86).1.2.1 14 = .ok (.putfield 15, 3) := by decide +kernel
theorem k86_15 (b : Bool) : tb_lk b 86 15 = (1, 5, 1, 0, 0) := by cases b <;> decide +kernel
theorem q86_5_1 : (1 < pm_nf tb_cl 5) ∧ pm_isR (tb_ft 5 1) = true ∧ pm_fin tb_cl (tb_me 86).1.1 5 1 = true := by decide +kernel
theorem d86_17 : decode (tb_me 86).1.2.1 17 = .ok (.aload_n 0, 1) := by decide +kernel
theorem d86_18 : decode (tb_me 86).1.2.1 18 = .ok (.bipush 6, 2) := by decide +kernel
theorem d86_20 : decode (tb_me 86).1.2.1 20 = .ok (.newarray .int, 2) := by decide +kernel
theorem sh5_1 {k : Nat} (hk : mi_o k 5 = true) : tb_SH[k + 1 + 1]? = some (.inl (.int, 6)) := (by decide +kernel : ∀ k, k < 214 → mi_o k 5 = true → tb_SH[k + 1 + 1]? = some (.inl (.int, 6))) k (mo_lt hk) hk
theorem d86_22 : decode (tb_me 86).1.2.1 22 = .ok (.putfield 19, 3) := by decide +kernel
theorem k86_19 (b : Bool) : tb_lk b 86 19 = (1, 5, 2, 0, 0) := by cases b <;> decide +kernel
theorem q86_5_2 : (2 < pm_nf tb_cl 5) ∧ pm_isR (tb_ft 5 2) = true ∧ pm_fin tb_cl (tb_me 86).1.1 5 2 = true := by decide +kernel
theorem d86_25 : decode (tb_me 86).1.2.1 25 = .ok (.aload_n 0, 1) := by decide +kernel
theorem d86_26 : decode (tb_me 86).1.2.1 26 = .ok (.bipush 6, 2) := by decide +kernel
theorem d86_28 : decode (tb_me 86).1.2.1 28 = .ok (.newarray .int, 2) := by decide +kernel
theorem sh5_2 {k : Nat} (hk : mi_o k 5 = true) : tb_SH[k + 1 + 2]? = some (.inl (.int, 6)) := (by decide +kernel : ∀ k, k < 214 → mi_o k 5 = true → tb_SH[k + 1 + 2]? = some (.inl (.int, 6))) k (mo_lt hk) hk
theorem d86_30 : decode (tb_me 86).1.2.1 30 = .ok (.putfield 22, 3) := by decide +kernel
theorem k86_22 (b : Bool) : tb_lk b 86 22 = (1, 5, 3, 0, 0) := by cases b <;> decide +kernel
theorem q86_5_3 : (3 < pm_nf tb_cl 5) ∧ pm_isR (tb_ft 5 3) = true ∧ pm_fin tb_cl (tb_me 86).1.1 5 3 = true := by decide +kernel
theorem d86_33 : decode (tb_me 86).1.2.1 33 = .ok (.aload_n 0, 1) := by decide +kernel
theorem d86_34 : decode (tb_me 86).1.2.1 34 = .ok (.iconst 0, 1) := by decide +kernel
theorem d86_35 : decode (tb_me 86).1.2.1 35 = .ok (.putfield 25, 3) := by decide +kernel
theorem k86_25 (b : Bool) : tb_lk b 86 25 = (1, 5, 4, 0, 0) := by cases b <;> decide +kernel
theorem q86_5_4 : (4 < pm_nf tb_cl 5) ∧ tb_ft 5 4 = .int ∧ pm_fin tb_cl (tb_me 86).1.1 5 4 = true := by decide +kernel
theorem d86_38 : decode (tb_me 86).1.2.1 38 = .ok (.aload_n 0, 1) := by decide +kernel
theorem d86_39 : decode (tb_me 86).1.2.1 39 = .ok (.iconst 0, 1) := by decide +kernel
theorem d86_40 : decode (tb_me 86).1.2.1 40 = .ok (.putfield 29, 3) := by decide +kernel
theorem k86_29 (b : Bool) : tb_lk b 86 29 = (1, 5, 5, 0, 0) := by cases b <;> decide +kernel
theorem q86_5_5 : (5 < pm_nf tb_cl 5) ∧ tb_ft 5 5 = .boolean ∧ pm_fin tb_cl (tb_me 86).1.1 5 5 = true := by decide +kernel
theorem d86_43 : decode (tb_me 86).1.2.1 43 = .ok (.aload_n 0, 1) := by decide +kernel
theorem d86_44 : decode (tb_me 86).1.2.1 44 = .ok (.iconst 0, 1) := by decide +kernel
theorem d86_45 : decode (tb_me 86).1.2.1 45 = .ok (.putfield 33, 3) := by decide +kernel
theorem k86_33 (b : Bool) : tb_lk b 86 33 = (1, 5, 6, 0, 0) := by cases b <;> decide +kernel
theorem q86_5_6 : (6 < pm_nf tb_cl 5) ∧ tb_ft 5 6 = .int ∧ pm_fin tb_cl (tb_me 86).1.1 5 6 = true := by decide +kernel
theorem d86_48 : decode (tb_me 86).1.2.1 48 = .ok (.return_, 1) := by decide +kernel
theorem r86 : (tb_me 86).1.2.2.2 = none := by decide +kernel
theorem kl5 : ∀ q ∈ tb_rf, mi_o q.1.1 5 = true → (q.1.2, q.2) ∈ [(1, q.1.1 + 1), (2, q.1.1 + 2), (3, q.1.1 + 3)] := by decide +kernel
theorem en67 : (tb_me 67).2.1 = (7, 5878) ∧ (tb_me 67).1.2.2.1 = 1 := by decide +kernel
theorem d67_0 : decode (tb_me 67).1.2.1 0 = .ok (.aload_n 0, 1) := by decide +kernel
theorem d67_1 : decode (tb_me 67).1.2.1 1 = .ok (.invokespecial 3, 3) := by decide +kernel
theorem k67_3 (b : Bool) : tb_lk b 67 3 = (8, 0, 0, 0, 0) := by cases b <;> decide +kernel
theorem d67_4 : decode (tb_me 67).1.2.1 4 = .ok (.aload_n 0, 1) := by decide +kernel
theorem d67_5 : decode (tb_me 67).1.2.1 5 = .ok (.aconst_null, 1) := by decide +kernel
theorem d67_6 : decode (tb_me 67).1.2.1 6 = .ok (.putfield 9, 3) := by decide +kernel
theorem k67_9 (b : Bool) : tb_lk b 67 9 = (1, 2, 0, 0, 0) := by cases b <;> decide +kernel
theorem q67_2_0 : (0 < pm_nf tb_cl 2) ∧ pm_isR (tb_ft 2 0) = true ∧ pm_fin tb_cl (tb_me 67).1.1 2 0 = true := by decide +kernel
theorem d67_9 : decode (tb_me 67).1.2.1 9 = .ok (.aload_n 0, 1) := by decide +kernel
theorem d67_10 : decode (tb_me 67).1.2.1 10 = .ok (.new 15, 3) := by decide +kernel
theorem k67_15 (b : Bool) : tb_lk b 67 15 = (9, 5, 0, 0, 0) := by cases b <;> decide +kernel
theorem d67_13 : decode (tb_me 67).1.2.1 13 = .ok (.dup, 1) := by decide +kernel
theorem d67_14 : decode (tb_me 67).1.2.1 14 = .ok (.invokespecial 17, 3) := by decide +kernel
theorem k67_17 (b : Bool) : tb_lk b 67 17 = (7, 86, 0, 0, 0) := by cases b <;> decide +kernel
theorem mm86 : (tb_me 86).2 = ((3, 42), (0, 5)) ∧ (tb_me 86).1.2.2.1 = 1 := by decide +kernel
theorem mo2_0 {k : Nat} (hk : mi_o k 2 = true) : mi_o (k + 1 + 0) 5 = true := (by decide +kernel : ∀ k, k < 214 → mi_o k 2 = true → mi_o (k + 1 + 0) 5 = true) k (mo_lt hk) hk
theorem sh2_0 {k : Nat} (hk : mi_o k 2 = true) : tb_SH[k + 1 + 0]? = some (.inr 5) := (by decide +kernel : ∀ k, k < 214 → mi_o k 2 = true → tb_SH[k + 1 + 0]? = some (.inr 5)) k (mo_lt hk) hk
theorem d67_17 : decode (tb_me 67).1.2.1 17 = .ok (.putfield 18, 3) := by decide +kernel
theorem k67_18 (b : Bool) : tb_lk b 67 18 = (1, 2, 1, 0, 0) := by cases b <;> decide +kernel
theorem q67_2_1 : (1 < pm_nf tb_cl 2) ∧ pm_isR (tb_ft 2 1) = true ∧ pm_fin tb_cl (tb_me 67).1.1 2 1 = true := by decide +kernel
theorem d67_20 : decode (tb_me 67).1.2.1 20 = .ok (.aload_n 0, 1) := by decide +kernel
theorem d67_21 : decode (tb_me 67).1.2.1 21 = .ok (.sipush 3003, 3) := by decide +kernel
theorem d67_24 : decode (tb_me 67).1.2.1 24 = .ok (.newarray .int, 2) := by decide +kernel
theorem sh2_4 {k : Nat} (hk : mi_o k 2 = true) : tb_SH[k + 1 + 4]? = some (.inl (.int, 3003)) := (by decide +kernel : ∀ k, k < 214 → mi_o k 2 = true → tb_SH[k + 1 + 4]? = some (.inl (.int, 3003))) k (mo_lt hk) hk
theorem d67_26 : decode (tb_me 67).1.2.1 26 = .ok (.putfield 22, 3) := by decide +kernel
theorem k67_22 (b : Bool) : tb_lk b 67 22 = (1, 2, 2, 0, 0) := by cases b <;> decide +kernel
theorem q67_2_2 : (2 < pm_nf tb_cl 2) ∧ pm_isR (tb_ft 2 2) = true ∧ pm_fin tb_cl (tb_me 67).1.1 2 2 = true := by decide +kernel
theorem d67_29 : decode (tb_me 67).1.2.1 29 = .ok (.aload_n 0, 1) := by decide +kernel
theorem d67_30 : decode (tb_me 67).1.2.1 30 = .ok (.sipush 2816, 3) := by decide +kernel
theorem d67_33 : decode (tb_me 67).1.2.1 33 = .ok (.newarray .int, 2) := by decide +kernel
theorem sh2_5 {k : Nat} (hk : mi_o k 2 = true) : tb_SH[k + 1 + 5]? = some (.inl (.int, 2816)) := (by decide +kernel : ∀ k, k < 214 → mi_o k 2 = true → tb_SH[k + 1 + 5]? = some (.inl (.int, 2816))) k (mo_lt hk) hk
theorem d67_35 : decode (tb_me 67).1.2.1 35 = .ok (.putfield 26, 3) := by decide +kernel
theorem k67_26 (b : Bool) : tb_lk b 67 26 = (1, 2, 3, 0, 0) := by cases b <;> decide +kernel
theorem q67_2_3 : (3 < pm_nf tb_cl 2) ∧ pm_isR (tb_ft 2 3) = true ∧ pm_fin tb_cl (tb_me 67).1.1 2 3 = true := by decide +kernel
theorem d67_38 : decode (tb_me 67).1.2.1 38 = .ok (.aload_n 0, 1) := by decide +kernel
theorem d67_39 : decode (tb_me 67).1.2.1 39 = .ok (.iconst 0, 1) := by decide +kernel
theorem d67_40 : decode (tb_me 67).1.2.1 40 = .ok (.putfield 29, 3) := by decide +kernel
theorem k67_29 (b : Bool) : tb_lk b 67 29 = (1, 2, 4, 0, 0) := by cases b <;> decide +kernel
theorem q67_2_4 : (4 < pm_nf tb_cl 2) ∧ tb_ft 2 4 = .int ∧ pm_fin tb_cl (tb_me 67).1.1 2 4 = true := by decide +kernel
theorem d67_43 : decode (tb_me 67).1.2.1 43 = .ok (.aload_n 0, 1) := by decide +kernel
theorem d67_44 : decode (tb_me 67).1.2.1 44 = .ok (.bipush 10, 2) := by decide +kernel
theorem d67_46 : decode (tb_me 67).1.2.1 46 = .ok (.newarray .int, 2) := by decide +kernel
theorem sh2_6 {k : Nat} (hk : mi_o k 2 = true) : tb_SH[k + 1 + 6]? = some (.inl (.int, 10)) := (by decide +kernel : ∀ k, k < 214 → mi_o k 2 = true → tb_SH[k + 1 + 6]? = some (.inl (.int, 10))) k (mo_lt hk) hk
theorem d67_48 : decode (tb_me 67).1.2.1 48 = .ok (.putfield 33, 3) := by decide +kernel
theorem k67_33 (b : Bool) : tb_lk b 67 33 = (1, 2, 5, 0, 0) := by cases b <;> decide +kernel
theorem q67_2_5 : (5 < pm_nf tb_cl 2) ∧ pm_isR (tb_ft 2 5) = true ∧ pm_fin tb_cl (tb_me 67).1.1 2 5 = true := by decide +kernel
theorem d67_51 : decode (tb_me 67).1.2.1 51 = .ok (.return_, 1) := by decide +kernel
theorem r67 : (tb_me 67).1.2.2.2 = none := by decide +kernel
theorem kl2 : ∀ q ∈ tb_rf, mi_o q.1.1 2 = true → (q.1.2, q.2) ∈ [(1, q.1.1 + 1), (2, q.1.1 + 5), (3, q.1.1 + 6), (5, q.1.1 + 7)] := by decide +kernel
theorem en42 : (tb_me 42).2.1 = (20, 6014) ∧ (tb_me 42).1.2.2.1 = 1 := by decide +kernel
theorem un1 {k : Nat} (hk : mi_o k 1 = true) : k = 68 := (by decide +kernel : ∀ k, k < 214 → mi_o k 1 = true → k = 68) k (mo_lt hk) hk
theorem d42_0 : decode (tb_me 42).1.2.1 0 = .ok (.aload_n 0, 1) := by decide +kernel
theorem d42_1 : decode (tb_me 42).1.2.1 1 = .ok (.invokespecial 3, 3) := by decide +kernel
theorem k42_3 (b : Bool) : tb_lk b 42 3 = (8, 0, 0, 0, 0) := by cases b <;> decide +kernel
theorem d42_4 : decode (tb_me 42).1.2.1 4 = .ok (.aload_n 0, 1) := by decide +kernel
theorem d42_5 : decode (tb_me 42).1.2.1 5 = .ok (.new 9, 3) := by decide +kernel
theorem k42_9 (b : Bool) : tb_lk b 42 9 = (9, 2, 0, 0, 0) := by cases b <;> decide +kernel
theorem d42_8 : decode (tb_me 42).1.2.1 8 = .ok (.dup, 1) := by decide +kernel
theorem d42_9 : decode (tb_me 42).1.2.1 9 = .ok (.invokespecial 11, 3) := by decide +kernel
theorem k42_11 (b : Bool) : tb_lk b 42 11 = (7, 67, 0, 0, 0) := by cases b <;> decide +kernel
theorem mm67 : (tb_me 67).2 = ((7, 5878), (0, 2)) ∧ (tb_me 67).1.2.2.1 = 1 := by decide +kernel
theorem mo1_0 {k : Nat} (hk : mi_o k 1 = true) : mi_o (k + 1 + 0) 2 = true := (by decide +kernel : ∀ k, k < 214 → mi_o k 1 = true → mi_o (k + 1 + 0) 2 = true) k (mo_lt hk) hk
theorem sh1_0 {k : Nat} (hk : mi_o k 1 = true) : tb_SH[k + 1 + 0]? = some (.inr 2) := (by decide +kernel : ∀ k, k < 214 → mi_o k 1 = true → tb_SH[k + 1 + 0]? = some (.inr 2)) k (mo_lt hk) hk
theorem d42_12 : decode (tb_me 42).1.2.1 12 = .ok (.putfield 12, 3) := by decide +kernel
theorem k42_12 (b : Bool) : tb_lk b 42 12 = (1, 1, 0, 0, 0) := by cases b <;> decide +kernel
theorem q42_1_0 : (0 < pm_nf tb_cl 1) ∧ pm_isR (tb_ft 1 0) = true ∧ pm_fin tb_cl (tb_me 42).1.1 1 0 = true := by decide +kernel
theorem d42_15 : decode (tb_me 42).1.2.1 15 = .ok (.aload_n 0, 1) := by decide +kernel
theorem d42_16 : decode (tb_me 42).1.2.1 16 = .ok (.new 18, 3) := by decide +kernel
theorem k42_18 (b : Bool) : tb_lk b 42 18 = (9, 5, 0, 0, 0) := by cases b <;> decide +kernel
theorem d42_19 : decode (tb_me 42).1.2.1 19 = .ok (.dup, 1) := by decide +kernel
theorem d42_20 : decode (tb_me 42).1.2.1 20 = .ok (.invokespecial 20, 3) := by decide +kernel
theorem k42_20 (b : Bool) : tb_lk b 42 20 = (7, 86, 0, 0, 0) := by cases b <;> decide +kernel
theorem mo1_8 {k : Nat} (hk : mi_o k 1 = true) : mi_o (k + 1 + 8) 5 = true := (by decide +kernel : ∀ k, k < 214 → mi_o k 1 = true → mi_o (k + 1 + 8) 5 = true) k (mo_lt hk) hk
theorem sh1_8 {k : Nat} (hk : mi_o k 1 = true) : tb_SH[k + 1 + 8]? = some (.inr 5) := (by decide +kernel : ∀ k, k < 214 → mi_o k 1 = true → tb_SH[k + 1 + 8]? = some (.inr 5)) k (mo_lt hk) hk
theorem d42_23 : decode (tb_me 42).1.2.1 23 = .ok (.putfield 21, 3) := by decide +kernel
theorem k42_21 (b : Bool) : tb_lk b 42 21 = (1, 1, 1, 0, 0) := by cases b <;> decide +kernel
theorem q42_1_1 : (1 < pm_nf tb_cl 1) ∧ pm_isR (tb_ft 1 1) = true ∧ pm_fin tb_cl (tb_me 42).1.1 1 1 = true := by decide +kernel
theorem d42_26 : decode (tb_me 42).1.2.1 26 = .ok (.aload_n 0, 1) := by decide +kernel
theorem d42_27 : decode (tb_me 42).1.2.1 27 = .ok (.iconst 5, 1) := by decide +kernel
theorem d42_28 : decode (tb_me 42).1.2.1 28 = .ok (.newarray .int, 2) := by decide +kernel
theorem sh1_12 {k : Nat} (hk : mi_o k 1 = true) : tb_SH[k + 1 + 12]? = some (.inl (.int, 5)) := (by decide +kernel : ∀ k, k < 214 → mi_o k 1 = true → tb_SH[k + 1 + 12]? = some (.inl (.int, 5))) k (mo_lt hk) hk
theorem d42_30 : decode (tb_me 42).1.2.1 30 = .ok (.putfield 25, 3) := by decide +kernel
theorem k42_25 (b : Bool) : tb_lk b 42 25 = (1, 1, 2, 0, 0) := by cases b <;> decide +kernel
theorem q42_1_2 : (2 < pm_nf tb_cl 1) ∧ pm_isR (tb_ft 1 2) = true ∧ pm_fin tb_cl (tb_me 42).1.1 1 2 = true := by decide +kernel
theorem d42_33 : decode (tb_me 42).1.2.1 33 = .ok (.aload_n 0, 1) := by decide +kernel
theorem d42_34 : decode (tb_me 42).1.2.1 34 = .ok (.iconst 0, 1) := by decide +kernel
theorem d42_35 : decode (tb_me 42).1.2.1 35 = .ok (.putfield 29, 3) := by decide +kernel
theorem k42_29 (b : Bool) : tb_lk b 42 29 = (1, 1, 3, 0, 0) := by cases b <;> decide +kernel
theorem q42_1_3 : (3 < pm_nf tb_cl 1) ∧ tb_ft 1 3 = .int ∧ pm_fin tb_cl (tb_me 42).1.1 1 3 = true := by decide +kernel
theorem d42_38 : decode (tb_me 42).1.2.1 38 = .ok (.aload_n 0, 1) := by decide +kernel
theorem d42_39 : decode (tb_me 42).1.2.1 39 = .ok (.iconst 5, 1) := by decide +kernel
theorem d42_40 : decode (tb_me 42).1.2.1 40 = .ok (.newarray .int, 2) := by decide +kernel
theorem sh1_13 {k : Nat} (hk : mi_o k 1 = true) : tb_SH[k + 1 + 13]? = some (.inl (.int, 5)) := (by decide +kernel : ∀ k, k < 214 → mi_o k 1 = true → tb_SH[k + 1 + 13]? = some (.inl (.int, 5))) k (mo_lt hk) hk
theorem d42_42 : decode (tb_me 42).1.2.1 42 = .ok (.putfield 33, 3) := by decide +kernel
theorem k42_33 (b : Bool) : tb_lk b 42 33 = (1, 1, 4, 0, 0) := by cases b <;> decide +kernel
theorem q42_1_4 : (4 < pm_nf tb_cl 1) ∧ pm_isR (tb_ft 1 4) = true ∧ pm_fin tb_cl (tb_me 42).1.1 1 4 = true := by decide +kernel
theorem d42_45 : decode (tb_me 42).1.2.1 45 = .ok (.aload_n 0, 1) := by decide +kernel
theorem d42_46 : decode (tb_me 42).1.2.1 46 = .ok (.iconst 0, 1) := by decide +kernel
theorem d42_47 : decode (tb_me 42).1.2.1 47 = .ok (.putfield 36, 3) := by decide +kernel
theorem k42_36 (b : Bool) : tb_lk b 42 36 = (1, 1, 5, 0, 0) := by cases b <;> decide +kernel
theorem q42_1_5 : (5 < pm_nf tb_cl 1) ∧ tb_ft 1 5 = .int ∧ pm_fin tb_cl (tb_me 42).1.1 1 5 = true := by decide +kernel
theorem d42_50 : decode (tb_me 42).1.2.1 50 = .ok (.aload_n 0, 1) := by decide +kernel
theorem d42_51 : decode (tb_me 42).1.2.1 51 = .ok (.bipush (-2), 2) := by decide +kernel
theorem d42_53 : decode (tb_me 42).1.2.1 53 = .ok (.putfield 39, 3) := by decide +kernel
theorem k42_39 (b : Bool) : tb_lk b 42 39 = (1, 1, 6, 0, 0) := by cases b <;> decide +kernel
theorem q42_1_6 : (6 < pm_nf tb_cl 1) ∧ tb_ft 1 6 = .int ∧ pm_fin tb_cl (tb_me 42).1.1 1 6 = true := by decide +kernel
theorem d42_56 : decode (tb_me 42).1.2.1 56 = .ok (.aload_n 0, 1) := by decide +kernel
theorem d42_57 : decode (tb_me 42).1.2.1 57 = .ok (.bipush (-2), 2) := by decide +kernel
theorem d42_59 : decode (tb_me 42).1.2.1 59 = .ok (.putfield 42, 3) := by decide +kernel
theorem k42_42 (b : Bool) : tb_lk b 42 42 = (1, 1, 7, 0, 0) := by cases b <;> decide +kernel
theorem q42_1_7 : (7 < pm_nf tb_cl 1) ∧ tb_ft 1 7 = .int ∧ pm_fin tb_cl (tb_me 42).1.1 1 7 = true := by decide +kernel
theorem d42_62 : decode (tb_me 42).1.2.1 62 = .ok (.aload_n 0, 1) := by decide +kernel
theorem d42_63 : decode (tb_me 42).1.2.1 63 = .ok (.bipush 10, 2) := by decide +kernel
theorem d42_65 : decode (tb_me 42).1.2.1 65 = .ok (.newarray .int, 2) := by decide +kernel
theorem sh1_14 {k : Nat} (hk : mi_o k 1 = true) : tb_SH[k + 1 + 14]? = some (.inl (.int, 10)) := (by decide +kernel : ∀ k, k < 214 → mi_o k 1 = true → tb_SH[k + 1 + 14]? = some (.inl (.int, 10))) k (mo_lt hk) hk
theorem d42_67 : decode (tb_me 42).1.2.1 67 = .ok (.putfield 45, 3) := by decide +kernel
theorem k42_45 (b : Bool) : tb_lk b 42 45 = (1, 1, 8, 0, 0) := by cases b <;> decide +kernel
theorem q42_1_8 : (8 < pm_nf tb_cl 1) ∧ pm_isR (tb_ft 1 8) = true ∧ pm_fin tb_cl (tb_me 42).1.1 1 8 = true := by decide +kernel
theorem d42_70 : decode (tb_me 42).1.2.1 70 = .ok (.aload_n 0, 1) := by decide +kernel
theorem d42_71 : decode (tb_me 42).1.2.1 71 = .ok (.bipush (-2), 2) := by decide +kernel
theorem d42_73 : decode (tb_me 42).1.2.1 73 = .ok (.putfield 48, 3) := by decide +kernel
theorem k42_48 (b : Bool) : tb_lk b 42 48 = (1, 1, 9, 0, 0) := by cases b <;> decide +kernel
theorem q42_1_9 : (9 < pm_nf tb_cl 1) ∧ tb_ft 1 9 = .int ∧ pm_fin tb_cl (tb_me 42).1.1 1 9 = true := by decide +kernel
theorem d42_76 : decode (tb_me 42).1.2.1 76 = .ok (.aload_n 0, 1) := by decide +kernel
theorem d42_77 : decode (tb_me 42).1.2.1 77 = .ok (.bipush (-2), 2) := by decide +kernel
theorem d42_79 : decode (tb_me 42).1.2.1 79 = .ok (.putfield 51, 3) := by decide +kernel
theorem k42_51 (b : Bool) : tb_lk b 42 51 = (1, 1, 10, 0, 0) := by cases b <;> decide +kernel
theorem q42_1_10 : (10 < pm_nf tb_cl 1) ∧ tb_ft 1 10 = .int ∧ pm_fin tb_cl (tb_me 42).1.1 1 10 = true := by decide +kernel
theorem d42_82 : decode (tb_me 42).1.2.1 82 = .ok (.aload_n 0, 1) := by decide +kernel
theorem d42_83 : decode (tb_me 42).1.2.1 83 = .ok (.bipush 30, 2) := by decide +kernel
theorem d42_85 : decode (tb_me 42).1.2.1 85 = .ok (.newarray .int, 2) := by decide +kernel
theorem sh1_15 {k : Nat} (hk : mi_o k 1 = true) : tb_SH[k + 1 + 15]? = some (.inl (.int, 30)) := (by decide +kernel : ∀ k, k < 214 → mi_o k 1 = true → tb_SH[k + 1 + 15]? = some (.inl (.int, 30))) k (mo_lt hk) hk
theorem d42_87 : decode (tb_me 42).1.2.1 87 = .ok (.putfield 54, 3) := by decide +kernel
theorem k42_54 (b : Bool) : tb_lk b 42 54 = (1, 1, 11, 0, 0) := by cases b <;> decide +kernel
theorem q42_1_11 : (11 < pm_nf tb_cl 1) ∧ pm_isR (tb_ft 1 11) = true ∧ pm_fin tb_cl (tb_me 42).1.1 1 11 = true := by decide +kernel
theorem d42_90 : decode (tb_me 42).1.2.1 90 = .ok (.aload_n 0, 1) := by decide +kernel
theorem d42_91 : decode (tb_me 42).1.2.1 91 = .ok (.iconst 0, 1) := by decide +kernel
theorem d42_92 : decode (tb_me 42).1.2.1 92 = .ok (.putfield 57, 3) := by decide +kernel
theorem k42_57 (b : Bool) : tb_lk b 42 57 = (1, 1, 12, 0, 0) := by cases b <;> decide +kernel
theorem q42_1_12 : (12 < pm_nf tb_cl 1) ∧ tb_ft 1 12 = .int ∧ pm_fin tb_cl (tb_me 42).1.1 1 12 = true := by decide +kernel
theorem d42_95 : decode (tb_me 42).1.2.1 95 = .ok (.aload_n 0, 1) := by decide +kernel
theorem d42_96 : decode (tb_me 42).1.2.1 96 = .ok (.iconst 0, 1) := by decide +kernel
theorem d42_97 : decode (tb_me 42).1.2.1 97 = .ok (.putfield 60, 3) := by decide +kernel
theorem k42_60 (b : Bool) : tb_lk b 42 60 = (1, 1, 13, 0, 0) := by cases b <;> decide +kernel
theorem q42_1_13 : (13 < pm_nf tb_cl 1) ∧ tb_ft 1 13 = .int ∧ pm_fin tb_cl (tb_me 42).1.1 1 13 = true := by decide +kernel
theorem d42_100 : decode (tb_me 42).1.2.1 100 = .ok (.aload_n 0, 1) := by decide +kernel
theorem d42_101 : decode (tb_me 42).1.2.1 101 = .ok (.iconst 0, 1) := by decide +kernel
theorem d42_102 : decode (tb_me 42).1.2.1 102 = .ok (.putfield 63, 3) := by decide +kernel
theorem k42_63 (b : Bool) : tb_lk b 42 63 = (1, 1, 14, 0, 0) := by cases b <;> decide +kernel
theorem q42_1_14 : (14 < pm_nf tb_cl 1) ∧ tb_ft 1 14 = .int ∧ pm_fin tb_cl (tb_me 42).1.1 1 14 = true := by decide +kernel
theorem d42_105 : decode (tb_me 42).1.2.1 105 = .ok (.aload_n 0, 1) := by decide +kernel
theorem d42_106 : decode (tb_me 42).1.2.1 106 = .ok (.bipush 8, 2) := by decide +kernel
theorem d42_108 : decode (tb_me 42).1.2.1 108 = .ok (.newarray .int, 2) := by decide +kernel
theorem sh1_16 {k : Nat} (hk : mi_o k 1 = true) : tb_SH[k + 1 + 16]? = some (.inl (.int, 8)) := (by decide +kernel : ∀ k, k < 214 → mi_o k 1 = true → tb_SH[k + 1 + 16]? = some (.inl (.int, 8))) k (mo_lt hk) hk
theorem d42_110 : decode (tb_me 42).1.2.1 110 = .ok (.putfield 66, 3) := by decide +kernel
theorem k42_66 (b : Bool) : tb_lk b 42 66 = (1, 1, 15, 0, 0) := by cases b <;> decide +kernel
theorem q42_1_15 : (15 < pm_nf tb_cl 1) ∧ pm_isR (tb_ft 1 15) = true ∧ pm_fin tb_cl (tb_me 42).1.1 1 15 = true := by decide +kernel
theorem d42_113 : decode (tb_me 42).1.2.1 113 = .ok (.aload_n 0, 1) := by decide +kernel
theorem d42_114 : decode (tb_me 42).1.2.1 114 = .ok (.iconst 0, 1) := by decide +kernel
theorem d42_115 : decode (tb_me 42).1.2.1 115 = .ok (.putfield 69, 3) := by decide +kernel
theorem k42_69 (b : Bool) : tb_lk b 42 69 = (1, 1, 16, 0, 0) := by cases b <;> decide +kernel
theorem q42_1_16 : (16 < pm_nf tb_cl 1) ∧ tb_ft 1 16 = .int ∧ pm_fin tb_cl (tb_me 42).1.1 1 16 = true := by decide +kernel
theorem d42_118 : decode (tb_me 42).1.2.1 118 = .ok (.aload_n 0, 1) := by decide +kernel
theorem d42_119 : decode (tb_me 42).1.2.1 119 = .ok (.iconst 0, 1) := by decide +kernel
theorem d42_120 : decode (tb_me 42).1.2.1 120 = .ok (.putfield 72, 3) := by decide +kernel
theorem k42_72 (b : Bool) : tb_lk b 42 72 = (1, 1, 17, 0, 0) := by cases b <;> decide +kernel
theorem q42_1_17 : (17 < pm_nf tb_cl 1) ∧ tb_ft 1 17 = .int ∧ pm_fin tb_cl (tb_me 42).1.1 1 17 = true := by decide +kernel
theorem d42_123 : decode (tb_me 42).1.2.1 123 = .ok (.aload_n 0, 1) := by decide +kernel
theorem d42_124 : decode (tb_me 42).1.2.1 124 = .ok (.iconst 0, 1) := by decide +kernel
theorem d42_125 : decode (tb_me 42).1.2.1 125 = .ok (.putfield 75, 3) := by decide +kernel
theorem k42_75 (b : Bool) : tb_lk b 42 75 = (1, 1, 18, 0, 0) := by cases b <;> decide +kernel
theorem q42_1_18 : (18 < pm_nf tb_cl 1) ∧ tb_ft 1 18 = .int ∧ pm_fin tb_cl (tb_me 42).1.1 1 18 = true := by decide +kernel
theorem d42_128 : decode (tb_me 42).1.2.1 128 = .ok (.aload_n 0, 1) := by decide +kernel
theorem d42_129 : decode (tb_me 42).1.2.1 129 = .ok (.new 78, 3) := by decide +kernel
theorem k42_78 (b : Bool) : tb_lk b 42 78 = (9, 3, 0, 0, 0) := by cases b <;> decide +kernel
theorem d42_132 : decode (tb_me 42).1.2.1 132 = .ok (.dup, 1) := by decide +kernel
theorem d42_133 : decode (tb_me 42).1.2.1 133 = .ok (.invokespecial 80, 3) := by decide +kernel
theorem k42_80 (b : Bool) : tb_lk b 42 80 = (7, 74, 0, 0, 0) := by cases b <;> decide +kernel
theorem mm74 : (tb_me 74).2 = ((2, 16), (0, 3)) ∧ (tb_me 74).1.2.2.1 = 1 := by decide +kernel
theorem mo1_17 {k : Nat} (hk : mi_o k 1 = true) : mi_o (k + 1 + 17) 3 = true := (by decide +kernel : ∀ k, k < 214 → mi_o k 1 = true → mi_o (k + 1 + 17) 3 = true) k (mo_lt hk) hk
theorem sh1_17 {k : Nat} (hk : mi_o k 1 = true) : tb_SH[k + 1 + 17]? = some (.inr 3) := (by decide +kernel : ∀ k, k < 214 → mi_o k 1 = true → tb_SH[k + 1 + 17]? = some (.inr 3)) k (mo_lt hk) hk
theorem d42_136 : decode (tb_me 42).1.2.1 136 = .ok (.putfield 81, 3) := by decide +kernel
theorem k42_81 (b : Bool) : tb_lk b 42 81 = (1, 1, 19, 0, 0) := by cases b <;> decide +kernel
theorem q42_1_19 : (19 < pm_nf tb_cl 1) ∧ pm_isR (tb_ft 1 19) = true ∧ pm_fin tb_cl (tb_me 42).1.1 1 19 = true := by decide +kernel
theorem d42_139 : decode (tb_me 42).1.2.1 139 = .ok (.return_, 1) := by decide +kernel
theorem r42 : (tb_me 42).1.2.2.2 = none := by decide +kernel
theorem kl1 : ∀ q ∈ tb_rf, mi_o q.1.1 1 = true → (q.1.2, q.2) ∈ [(0, q.1.1 + 1), (1, q.1.1 + 9), (2, q.1.1 + 13), (4, q.1.1 + 14), (8, q.1.1 + 15), (11, q.1.1 + 16), (15, q.1.1 + 17), (19, q.1.1 + 18)] := by decide +kernel
theorem en143 : (tb_me 143).2.1 = (4, 33) ∧ (tb_me 143).1.2.2.1 = 2 := by decide +kernel
theorem d143_0 : decode (tb_me 143).1.2.1 0 = .ok (.aload_n 0, 1) := by decide +kernel
theorem d143_1 : decode (tb_me 143).1.2.1 1 = .ok (.invokespecial 3, 3) := by decide +kernel
theorem k143_3 (b : Bool) : tb_lk b 143 3 = (8, 0, 0, 0, 0) := by cases b <;> decide +kernel
theorem d143_4 : decode (tb_me 143).1.2.1 4 = .ok (.aload_n 0, 1) := by decide +kernel
theorem d143_5 : decode (tb_me 143).1.2.1 5 = .ok (.new 9, 3) := by decide +kernel
theorem k143_9 (b : Bool) : tb_lk b 143 9 = (9, 3, 0, 0, 0) := by cases b <;> decide +kernel
theorem d143_8 : decode (tb_me 143).1.2.1 8 = .ok (.dup, 1) := by decide +kernel
theorem d143_9 : decode (tb_me 143).1.2.1 9 = .ok (.invokespecial 11, 3) := by decide +kernel
theorem k143_11 (b : Bool) : tb_lk b 143 11 = (7, 74, 0, 0, 0) := by cases b <;> decide +kernel
theorem mo9_0 {k : Nat} (hk : mi_o k 9 = true) : mi_o (k + 1 + 0) 3 = true := (by decide +kernel : ∀ k, k < 214 → mi_o k 9 = true → mi_o (k + 1 + 0) 3 = true) k (mo_lt hk) hk
theorem sh9_0 {k : Nat} (hk : mi_o k 9 = true) : tb_SH[k + 1 + 0]? = some (.inr 3) := (by decide +kernel : ∀ k, k < 214 → mi_o k 9 = true → tb_SH[k + 1 + 0]? = some (.inr 3)) k (mo_lt hk) hk
theorem d143_12 : decode (tb_me 143).1.2.1 12 = .ok (.putfield 12, 3) := by decide +kernel
theorem k143_12 (b : Bool) : tb_lk b 143 12 = (1, 9, 1, 0, 0) := by cases b <;> decide +kernel
theorem q143_9_1 : (1 < pm_nf tb_cl 9) ∧ pm_isR (tb_ft 9 1) = true ∧ pm_fin tb_cl (tb_me 143).1.1 9 1 = true := by decide +kernel
theorem d143_15 : decode (tb_me 143).1.2.1 15 = .ok (.aload_n 0, 1) := by decide +kernel
theorem d143_16 : decode (tb_me 143).1.2.1 16 = .ok (.iconst 0, 1) := by decide +kernel
theorem d143_17 : decode (tb_me 143).1.2.1 17 = .ok (.putfield 18, 3) := by decide +kernel
theorem k143_18 (b : Bool) : tb_lk b 143 18 = (1, 9, 2, 0, 0) := by cases b <;> decide +kernel
theorem q143_9_2 : (2 < pm_nf tb_cl 9) ∧ tb_ft 9 2 = .int ∧ pm_fin tb_cl (tb_me 143).1.1 9 2 = true := by decide +kernel
theorem d143_20 : decode (tb_me 143).1.2.1 20 = .ok (.aload_n 0, 1) := by decide +kernel
theorem d143_21 : decode (tb_me 143).1.2.1 21 = .ok (.bipush 10, 2) := by decide +kernel
theorem d143_23 : decode (tb_me 143).1.2.1 23 = .ok (.newarray .int, 2) := by decide +kernel
theorem sh9_3 {k : Nat} (hk : mi_o k 9 = true) : tb_SH[k + 1 + 3]? = some (.inl (.int, 10)) := (by decide +kernel : ∀ k, k < 214 → mi_o k 9 = true → tb_SH[k + 1 + 3]? = some (.inl (.int, 10))) k (mo_lt hk) hk
theorem d143_25 : decode (tb_me 143).1.2.1 25 = .ok (.putfield 22, 3) := by decide +kernel
theorem k143_22 (b : Bool) : tb_lk b 143 22 = (1, 9, 3, 0, 0) := by cases b <;> decide +kernel
theorem q143_9_3 : (3 < pm_nf tb_cl 9) ∧ pm_isR (tb_ft 9 3) = true ∧ pm_fin tb_cl (tb_me 143).1.1 9 3 = true := by decide +kernel
theorem d143_28 : decode (tb_me 143).1.2.1 28 = .ok (.aload_n 0, 1) := by decide +kernel
theorem d143_29 : decode (tb_me 143).1.2.1 29 = .ok (.iconst 0, 1) := by decide +kernel
theorem d143_30 : decode (tb_me 143).1.2.1 30 = .ok (.putfield 26, 3) := by decide +kernel
theorem k143_26 (b : Bool) : tb_lk b 143 26 = (1, 9, 4, 0, 0) := by cases b <;> decide +kernel
theorem q143_9_4 : (4 < pm_nf tb_cl 9) ∧ tb_ft 9 4 = .int ∧ pm_fin tb_cl (tb_me 143).1.1 9 4 = true := by decide +kernel
theorem d143_33 : decode (tb_me 143).1.2.1 33 = .ok (.aload_n 0, 1) := by decide +kernel
theorem d143_34 : decode (tb_me 143).1.2.1 34 = .ok (.iconst 0, 1) := by decide +kernel
theorem d143_35 : decode (tb_me 143).1.2.1 35 = .ok (.putfield 29, 3) := by decide +kernel
theorem k143_29 (b : Bool) : tb_lk b 143 29 = (1, 9, 5, 0, 0) := by cases b <;> decide +kernel
theorem q143_9_5 : (5 < pm_nf tb_cl 9) ∧ tb_ft 9 5 = .int ∧ pm_fin tb_cl (tb_me 143).1.1 9 5 = true := by decide +kernel
theorem d143_38 : decode (tb_me 143).1.2.1 38 = .ok (.aload_n 0, 1) := by decide +kernel
theorem d143_39 : decode (tb_me 143).1.2.1 39 = .ok (.iconst 0, 1) := by decide +kernel
theorem d143_40 : decode (tb_me 143).1.2.1 40 = .ok (.putfield 32, 3) := by decide +kernel
theorem k143_32 (b : Bool) : tb_lk b 143 32 = (1, 9, 6, 0, 0) := by cases b <;> decide +kernel
theorem q143_9_6 : (6 < pm_nf tb_cl 9) ∧ tb_ft 9 6 = .boolean ∧ pm_fin tb_cl (tb_me 143).1.1 9 6 = true := by decide +kernel
theorem d143_43 : decode (tb_me 143).1.2.1 43 = .ok (.aload_n 0, 1) := by decide +kernel
theorem d143_44 : decode (tb_me 143).1.2.1 44 = .ok (.aload_n 1, 1) := by decide +kernel
theorem d143_45 : decode (tb_me 143).1.2.1 45 = .ok (.putfield 36, 3) := by decide +kernel
theorem k143_36 (b : Bool) : tb_lk b 143 36 = (1, 9, 0, 0, 0) := by cases b <;> decide +kernel
theorem q143_9_0 : (0 < pm_nf tb_cl 9) ∧ pm_isR (tb_ft 9 0) = true ∧ pm_fin tb_cl (tb_me 143).1.1 9 0 = true := by decide +kernel
theorem d143_48 : decode (tb_me 143).1.2.1 48 = .ok (.return_, 1) := by decide +kernel
theorem r143 : (tb_me 143).1.2.2.2 = none := by decide +kernel
theorem kl9 : ∀ q ∈ tb_rf, mi_o q.1.1 9 = true → (q.1.2, q.2) ∈ [(1, q.1.1 + 1), (3, q.1.1 + 4)] := by decide +kernel
