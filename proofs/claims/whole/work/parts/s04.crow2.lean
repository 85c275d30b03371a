/-! Rows of the constructors with loops (written by wip/gen7.py). -/
theorem CS.sub {k m : Nat} {P P' : Nat → Prop} {h0 h : pm_H} {F : List (Nat × Nat)} (W : CS k P h0 m F h) (hP : ∀ q ∈ tb_rf, P q.1.1 → P' q.1.1 ∨ h.2.2.2 q.1.1 q.1.2 = some q.2) : CS k P' h0 m F h := ⟨W.1.weak (fun q hq _ z => by
  rcases z with z | z
  · exact (hP q hq z).elim (fun y => .inl (.inl y)) .inr
  · exact .inl (.inr z)), W.2.1, W.2.2⟩
theorem CS.AO {k m : Nat} {P P' : Nat → Prop} {h0 h : pm_H} {F : List (Nat × Nat)} (W : CS k P h0 m F h) {sh : pm_Sh} (e : tb_SH[k + 1 + m]? = some sh) (hP : ∀ c, P c ∨ c = k + 1 + m → P' c) : CS k P' h0 (m + 1) F (pm_mk h sh) := by
  have l := W.len
  refine ⟨(W.1.mk e).weak (fun q hq _ z => ?_), W.2.1.mk _ (by omega), fun f hf => by rw [rm_c _ (by omega)]; exact W.2.2 f hf⟩
  rcases z with (z | z) | z
  · exact .inl (.inl (hP _ (.inl z)))
  · exact .inl (.inr z)
  · exact .inl (.inl (hP _ (.inr z)))
theorem CS.S {k m : Nat} {P : Nat → Prop} {h0 h : pm_H} {F : List (Nat × Nat)} (W : CS k P h0 m F h) {a j : Nat} {v : Option Nat} (hp : P a) (ha : k < a) : CS k P h0 m F (pm_setR h a j v) := ⟨W.1.setR (.inl hp), W.2.1.setR _ (by omega), fun f hf => by rw [rr_c _ (by omega)]; exact W.2.2 f hf⟩
theorem ad8 : ∀ i, i < 20 → mi_o (8 + 3 * i) 3 = true := by decide +kernel
theorem ae8 : ∀ i, i < 20 → tb_SH[8 + 3 * i]? = some (.inr 3) := by decide +kernel
theorem as7 : tb_SH[7]? = some (.inl (.object "ChoirShip$Hands", 20)) := by decide +kernel
theorem nf3 : pm_nf tb_cl 3 = 7 := by decide +kernel
theorem cn3 : (tb_cl[3]?).map (fun q => q.1) = some "ChoirShip$Hands" := by decide +kernel
theorem d82_25 : decode (tb_me 82).1.2.1 25 = .ok (.iload_n 1, 1) := by decide +kernel
theorem d82_26 : decode (tb_me 82).1.2.1 26 = .ok (.aload_n 0, 1) := by decide +kernel
theorem d82_27 : decode (tb_me 82).1.2.1 27 = .ok (.getfield 11, 3) := by decide +kernel
theorem k82_11 (b : Bool) : tb_lk b 82 11 = (1, 4, 0, 0, 0) := by cases b <;> decide +kernel
theorem g82_4_0 : (0 < pm_nf tb_cl 4) ∧ tb_ft 4 0 ≠ .long ∧ pm_isR (tb_ft 4 0) = true := by decide +kernel
theorem d82_30 : decode (tb_me 82).1.2.1 30 = .ok (.arraylength, 1) := by decide +kernel
theorem d82_31 : decode (tb_me 82).1.2.1 31 = .ok (.if_icmp .ge 22, 3) := by decide +kernel
theorem d82_34 : decode (tb_me 82).1.2.1 34 = .ok (.aload_n 0, 1) := by decide +kernel
theorem d82_35 : decode (tb_me 82).1.2.1 35 = .ok (.getfield 11, 3) := by decide +kernel
theorem d82_38 : decode (tb_me 82).1.2.1 38 = .ok (.iload_n 1, 1) := by decide +kernel
theorem d82_39 : decode (tb_me 82).1.2.1 39 = .ok (.new 9, 3) := by decide +kernel
theorem k82_9 (b : Bool) : tb_lk b 82 9 = (10, 3, 0, 0, 0) := by cases b <;> decide +kernel
theorem d82_42 : decode (tb_me 82).1.2.1 42 = .ok (.dup, 1) := by decide +kernel
theorem d82_43 : decode (tb_me 82).1.2.1 43 = .ok (.invokespecial 24, 3) := by decide +kernel
theorem k82_24 (b : Bool) : tb_lk b 82 24 = (7, 74, 0, 0, 0) := by cases b <;> decide +kernel
theorem d82_46 : decode (tb_me 82).1.2.1 46 = .ok (.aastore, 1) := by decide +kernel
theorem d82_47 : decode (tb_me 82).1.2.1 47 = .ok (.iinc 1 1, 3) := by decide +kernel
theorem d82_50 : decode (tb_me 82).1.2.1 50 = .ok (.goto (-25), 3) := by decide +kernel
theorem ad90 : ∀ i, i < 6 → mi_o (90 + 3 * i) 6 = true := by decide +kernel
theorem ae90 : ∀ i, i < 6 → tb_SH[90 + 3 * i]? = some (.inr 6) := by decide +kernel
theorem as3 : tb_SH[3]? = some (.inl (.object "ChoirShip$Rule", 6)) := by decide +kernel
theorem nf6 : pm_nf tb_cl 6 = 5 := by decide +kernel
theorem cn6 : (tb_cl[6]?).map (fun q => q.1) = some "ChoirShip$Rule" := by decide +kernel
theorem d1_77 : decode (tb_me 1).1.2.1 77 = .ok (.iload_n 1, 1) := by decide +kernel
theorem d1_78 : decode (tb_me 1).1.2.1 78 = .ok (.aload_n 0, 1) := by decide +kernel
theorem d1_79 : decode (tb_me 1).1.2.1 79 = .ok (.getfield 18, 3) := by decide +kernel
theorem k1_18 (b : Bool) : tb_lk b 1 18 = (1, 0, 1, 0, 0) := by cases b <;> decide +kernel
theorem g1_0_1 : (1 < pm_nf tb_cl 0) ∧ tb_ft 0 1 ≠ .long ∧ pm_isR (tb_ft 0 1) = true := by decide +kernel
theorem d1_82 : decode (tb_me 1).1.2.1 82 = .ok (.arraylength, 1) := by decide +kernel
theorem d1_83 : decode (tb_me 1).1.2.1 83 = .ok (.if_icmp .ge 22, 3) := by decide +kernel
theorem d1_86 : decode (tb_me 1).1.2.1 86 = .ok (.aload_n 0, 1) := by decide +kernel
theorem d1_87 : decode (tb_me 1).1.2.1 87 = .ok (.getfield 18, 3) := by decide +kernel
theorem d1_90 : decode (tb_me 1).1.2.1 90 = .ok (.iload_n 1, 1) := by decide +kernel
theorem d1_91 : decode (tb_me 1).1.2.1 91 = .ok (.new 16, 3) := by decide +kernel
theorem k1_16 (b : Bool) : tb_lk b 1 16 = (10, 6, 0, 0, 0) := by cases b <;> decide +kernel
theorem d1_94 : decode (tb_me 1).1.2.1 94 = .ok (.dup, 1) := by decide +kernel
theorem d1_95 : decode (tb_me 1).1.2.1 95 = .ok (.invokespecial 56, 3) := by decide +kernel
theorem k1_56 (b : Bool) : tb_lk b 1 56 = (7, 93, 0, 0, 0) := by cases b <;> decide +kernel
theorem mm93 : (tb_me 93).2 = ((2, 476), (0, 6)) ∧ (tb_me 93).1.2.2.1 = 1 := by decide +kernel
theorem d1_98 : decode (tb_me 1).1.2.1 98 = .ok (.aastore, 1) := by decide +kernel
theorem d1_99 : decode (tb_me 1).1.2.1 99 = .ok (.iinc 1 1, 3) := by decide +kernel
theorem d1_102 : decode (tb_me 1).1.2.1 102 = .ok (.goto (-25), 3) := by decide +kernel
theorem ad108 : ∀ i, i < 6 → mi_o (108 + 10 * i) 7 = true := by decide +kernel
theorem ae108 : ∀ i, i < 6 → tb_SH[108 + 10 * i]? = some (.inr 7) := by decide +kernel
theorem as4 : tb_SH[4]? = some (.inl (.object "ChoirShip$Ship", 6)) := by decide +kernel
theorem nf7 : pm_nf tb_cl 7 = 13 := by decide +kernel
theorem cn7 : (tb_cl[7]?).map (fun q => q.1) = some "ChoirShip$Ship" := by decide +kernel
theorem d1_107 : decode (tb_me 1).1.2.1 107 = .ok (.iload_n 1, 1) := by decide +kernel
theorem d1_108 : decode (tb_me 1).1.2.1 108 = .ok (.aload_n 0, 1) := by decide +kernel
theorem d1_109 : decode (tb_me 1).1.2.1 109 = .ok (.getfield 28, 3) := by decide +kernel
theorem k1_28 (b : Bool) : tb_lk b 1 28 = (1, 0, 3, 0, 0) := by cases b <;> decide +kernel
theorem g1_0_3 : (3 < pm_nf tb_cl 0) ∧ tb_ft 0 3 ≠ .long ∧ pm_isR (tb_ft 0 3) = true := by decide +kernel
theorem d1_112 : decode (tb_me 1).1.2.1 112 = .ok (.arraylength, 1) := by decide +kernel
theorem d1_113 : decode (tb_me 1).1.2.1 113 = .ok (.if_icmp .ge 22, 3) := by decide +kernel
theorem d1_116 : decode (tb_me 1).1.2.1 116 = .ok (.aload_n 0, 1) := by decide +kernel
theorem d1_117 : decode (tb_me 1).1.2.1 117 = .ok (.getfield 28, 3) := by decide +kernel
theorem d1_120 : decode (tb_me 1).1.2.1 120 = .ok (.iload_n 1, 1) := by decide +kernel
theorem d1_121 : decode (tb_me 1).1.2.1 121 = .ok (.new 26, 3) := by decide +kernel
theorem k1_26 (b : Bool) : tb_lk b 1 26 = (10, 7, 0, 0, 0) := by cases b <;> decide +kernel
theorem d1_124 : decode (tb_me 1).1.2.1 124 = .ok (.dup, 1) := by decide +kernel
theorem d1_125 : decode (tb_me 1).1.2.1 125 = .ok (.invokespecial 57, 3) := by decide +kernel
theorem k1_57 (b : Bool) : tb_lk b 1 57 = (7, 109, 0, 0, 0) := by cases b <;> decide +kernel
theorem mm109 : (tb_me 109).2 = ((9, 194), (0, 7)) ∧ (tb_me 109).1.2.2.1 = 1 := by decide +kernel
theorem d1_128 : decode (tb_me 1).1.2.1 128 = .ok (.aastore, 1) := by decide +kernel
theorem d1_129 : decode (tb_me 1).1.2.1 129 = .ok (.iinc 1 1, 3) := by decide +kernel
theorem d1_132 : decode (tb_me 1).1.2.1 132 = .ok (.goto (-25), 3) := by decide +kernel
theorem ad173 : ∀ i, i < 4 → mi_o (173 + 5 * i) 9 = true := by decide +kernel
theorem ae173 : ∀ i, i < 4 → tb_SH[173 + 5 * i]? = some (.inr 9) := by decide +kernel
theorem as5 : tb_SH[5]? = some (.inl (.object "ChoirShip$World", 4)) := by decide +kernel
theorem nf9 : pm_nf tb_cl 9 = 7 := by decide +kernel
theorem cn9 : (tb_cl[9]?).map (fun q => q.1) = some "ChoirShip$World" := by decide +kernel
theorem d1_154 : decode (tb_me 1).1.2.1 154 = .ok (.iload_n 1, 1) := by decide +kernel
theorem d1_155 : decode (tb_me 1).1.2.1 155 = .ok (.aload_n 0, 1) := by decide +kernel
theorem d1_156 : decode (tb_me 1).1.2.1 156 = .ok (.getfield 34, 3) := by decide +kernel
theorem k1_34 (b : Bool) : tb_lk b 1 34 = (1, 0, 5, 0, 0) := by cases b <;> decide +kernel
theorem g1_0_5 : (5 < pm_nf tb_cl 0) ∧ tb_ft 0 5 ≠ .long ∧ pm_isR (tb_ft 0 5) = true := by decide +kernel
theorem d1_159 : decode (tb_me 1).1.2.1 159 = .ok (.arraylength, 1) := by decide +kernel
theorem d1_160 : decode (tb_me 1).1.2.1 160 = .ok (.if_icmp .ge 28, 3) := by decide +kernel
theorem d1_163 : decode (tb_me 1).1.2.1 163 = .ok (.aload_n 0, 1) := by decide +kernel
theorem d1_164 : decode (tb_me 1).1.2.1 164 = .ok (.getfield 34, 3) := by decide +kernel
theorem d1_167 : decode (tb_me 1).1.2.1 167 = .ok (.iload_n 1, 1) := by decide +kernel
theorem d1_168 : decode (tb_me 1).1.2.1 168 = .ok (.new 32, 3) := by decide +kernel
theorem k1_32 (b : Bool) : tb_lk b 1 32 = (10, 9, 0, 0, 0) := by cases b <;> decide +kernel
theorem d1_171 : decode (tb_me 1).1.2.1 171 = .ok (.dup, 1) := by decide +kernel
theorem d1_172 : decode (tb_me 1).1.2.1 172 = .ok (.aload_n 0, 1) := by decide +kernel
theorem d1_173 : decode (tb_me 1).1.2.1 173 = .ok (.getfield 28, 3) := by decide +kernel
theorem d1_176 : decode (tb_me 1).1.2.1 176 = .ok (.iconst 0, 1) := by decide +kernel
theorem d1_177 : decode (tb_me 1).1.2.1 177 = .ok (.aaload, 1) := by decide +kernel
theorem d1_178 : decode (tb_me 1).1.2.1 178 = .ok (.invokespecial 58, 3) := by decide +kernel
theorem k1_58 (b : Bool) : tb_lk b 1 58 = (6, 143, 0, 0, 0) := by cases b <;> decide +kernel
theorem mm143 : (tb_me 143).2 = ((4, 33), (1, 9)) ∧ (tb_me 143).1.2.2.1 = 2 := by decide +kernel
theorem d1_181 : decode (tb_me 1).1.2.1 181 = .ok (.aastore, 1) := by decide +kernel
theorem d1_182 : decode (tb_me 1).1.2.1 182 = .ok (.iinc 1 1, 3) := by decide +kernel
theorem d1_185 : decode (tb_me 1).1.2.1 185 = .ok (.goto (-31), 3) := by decide +kernel
theorem en82 : (tb_me 82).2.1 = (61, 480) ∧ (tb_me 82).1.2.2.1 = 2 := by decide +kernel
theorem d82_0 : decode (tb_me 82).1.2.1 0 = .ok (.aload_n 0, 1) := by decide +kernel
theorem d82_1 : decode (tb_me 82).1.2.1 1 = .ok (.invokespecial 3, 3) := by decide +kernel
theorem k82_3 (b : Bool) : tb_lk b 82 3 = (8, 0, 0, 0, 0) := by cases b <;> decide +kernel
theorem d82_4 : decode (tb_me 82).1.2.1 4 = .ok (.aload_n 0, 1) := by decide +kernel
theorem d82_5 : decode (tb_me 82).1.2.1 5 = .ok (.bipush 20, 2) := by decide +kernel
theorem d82_7 : decode (tb_me 82).1.2.1 7 = .ok (.anewarray 9, 3) := by decide +kernel
theorem sh4_0 {k : Nat} (hk : mi_o k 4 = true) : tb_SH[k + 1 + 0]? = some (.inl (.object "ChoirShip$Hands", 20)) := (by decide +kernel : ∀ k, k < 214 → mi_o k 4 = true → tb_SH[k + 1 + 0]? = some (.inl (.object "ChoirShip$Hands", 20))) k (mo_lt hk) hk
theorem d82_10 : decode (tb_me 82).1.2.1 10 = .ok (.putfield 11, 3) := by decide +kernel
theorem q82_4_0 : (0 < pm_nf tb_cl 4) ∧ pm_isR (tb_ft 4 0) = true ∧ pm_fin tb_cl (tb_me 82).1.1 4 0 = true := by decide +kernel
theorem d82_13 : decode (tb_me 82).1.2.1 13 = .ok (.aload_n 0, 1) := by decide +kernel
theorem d82_14 : decode (tb_me 82).1.2.1 14 = .ok (.iconst 0, 1) := by decide +kernel
theorem d82_15 : decode (tb_me 82).1.2.1 15 = .ok (.putfield 17, 3) := by decide +kernel
theorem k82_17 (b : Bool) : tb_lk b 82 17 = (1, 4, 1, 0, 0) := by cases b <;> decide +kernel
theorem q82_4_1 : (1 < pm_nf tb_cl 4) ∧ tb_ft 4 1 = .int ∧ pm_fin tb_cl (tb_me 82).1.1 4 1 = true := by decide +kernel
theorem d82_18 : decode (tb_me 82).1.2.1 18 = .ok (.aload_n 0, 1) := by decide +kernel
theorem d82_19 : decode (tb_me 82).1.2.1 19 = .ok (.iconst 0, 1) := by decide +kernel
theorem d82_20 : decode (tb_me 82).1.2.1 20 = .ok (.putfield 21, 3) := by decide +kernel
theorem k82_21 (b : Bool) : tb_lk b 82 21 = (1, 4, 2, 0, 0) := by cases b <;> decide +kernel
theorem q82_4_2 : (2 < pm_nf tb_cl 4) ∧ tb_ft 4 2 = .int ∧ pm_fin tb_cl (tb_me 82).1.1 4 2 = true := by decide +kernel
theorem r82 : (tb_me 82).1.2.2.2 = none := by decide +kernel
theorem kz7 : ∀ q ∈ tb_rf, q.1.1 = 7 → q.1.2 < 20 ∧ q.2 = 8 + 3 * q.1.2 := by decide +kernel
theorem kz6 : ∀ q ∈ tb_rf, q.1.1 = 6 → (q.1.2, q.2) ∈ [(0, 7)] := by decide +kernel
theorem d82_23 : decode (tb_me 82).1.2.1 23 = .ok (.iconst 0, 1) := by decide +kernel
theorem d82_24 : decode (tb_me 82).1.2.1 24 = .ok (.istore_n 1, 1) := by decide +kernel
theorem d82_53 : decode (tb_me 82).1.2.1 53 = .ok (.return_, 1) := by decide +kernel
theorem en1 : (tb_me 1).2.1 = (192, 11274) ∧ (tb_me 1).1.2.2.1 = 2 := by decide +kernel
theorem d1_0 : decode (tb_me 1).1.2.1 0 = .ok (.aload_n 0, 1) := by decide +kernel
theorem d1_1 : decode (tb_me 1).1.2.1 1 = .ok (.invokespecial 1, 3) := by decide +kernel
theorem k1_1 (b : Bool) : tb_lk b 1 1 = (8, 0, 0, 0, 0) := by cases b <;> decide +kernel
theorem d1_4 : decode (tb_me 1).1.2.1 4 = .ok (.aload_n 0, 1) := by decide +kernel
theorem d1_5 : decode (tb_me 1).1.2.1 5 = .ok (.new 7, 3) := by decide +kernel
theorem k1_7 (b : Bool) : tb_lk b 1 7 = (9, 8, 0, 0, 0) := by cases b <;> decide +kernel
theorem d1_8 : decode (tb_me 1).1.2.1 8 = .ok (.dup, 1) := by decide +kernel
theorem d1_9 : decode (tb_me 1).1.2.1 9 = .ok (.invokespecial 9, 3) := by decide +kernel
theorem k1_9 (b : Bool) : tb_lk b 1 9 = (7, 133, 0, 0, 0) := by cases b <;> decide +kernel
theorem mm133 : (tb_me 133).2 = ((1, 400), (0, 8)) ∧ (tb_me 133).1.2.2.1 = 1 := by decide +kernel
theorem mo0_0 {k : Nat} (hk : mi_o k 0 = true) : mi_o (k + 1 + 0) 8 = true := (by decide +kernel : ∀ k, k < 214 → mi_o k 0 = true → mi_o (k + 1 + 0) 8 = true) k (mo_lt hk) hk
theorem sh0_0 {k : Nat} (hk : mi_o k 0 = true) : tb_SH[k + 1 + 0]? = some (.inr 8) := (by decide +kernel : ∀ k, k < 214 → mi_o k 0 = true → tb_SH[k + 1 + 0]? = some (.inr 8)) k (mo_lt hk) hk
theorem d1_12 : decode (tb_me 1).1.2.1 12 = .ok (.putfield 10, 3) := by decide +kernel
theorem k1_10 (b : Bool) : tb_lk b 1 10 = (1, 0, 0, 0, 0) := by cases b <;> decide +kernel
theorem q1_0_0 : (0 < pm_nf tb_cl 0) ∧ pm_isR (tb_ft 0 0) = true ∧ pm_fin tb_cl (tb_me 1).1.1 0 0 = true := by decide +kernel
theorem d1_15 : decode (tb_me 1).1.2.1 15 = .ok (.aload_n 0, 1) := by decide +kernel
theorem d1_16 : decode (tb_me 1).1.2.1 16 = .ok (.bipush 6, 2) := by decide +kernel
theorem d1_18 : decode (tb_me 1).1.2.1 18 = .ok (.anewarray 16, 3) := by decide +kernel
theorem sh0_2 {k : Nat} (hk : mi_o k 0 = true) : tb_SH[k + 1 + 2]? = some (.inl (.object "ChoirShip$Rule", 6)) := (by decide +kernel : ∀ k, k < 214 → mi_o k 0 = true → tb_SH[k + 1 + 2]? = some (.inl (.object "ChoirShip$Rule", 6))) k (mo_lt hk) hk
theorem d1_21 : decode (tb_me 1).1.2.1 21 = .ok (.putfield 18, 3) := by decide +kernel
theorem q1_0_1 : (1 < pm_nf tb_cl 0) ∧ pm_isR (tb_ft 0 1) = true ∧ pm_fin tb_cl (tb_me 1).1.1 0 1 = true := by decide +kernel
theorem d1_24 : decode (tb_me 1).1.2.1 24 = .ok (.aload_n 0, 1) := by decide +kernel
theorem d1_25 : decode (tb_me 1).1.2.1 25 = .ok (.iconst 0, 1) := by decide +kernel
theorem d1_26 : decode (tb_me 1).1.2.1 26 = .ok (.putfield 22, 3) := by decide +kernel
theorem k1_22 (b : Bool) : tb_lk b 1 22 = (1, 0, 2, 0, 0) := by cases b <;> decide +kernel
theorem q1_0_2 : (2 < pm_nf tb_cl 0) ∧ tb_ft 0 2 = .int ∧ pm_fin tb_cl (tb_me 1).1.1 0 2 = true := by decide +kernel
theorem d1_29 : decode (tb_me 1).1.2.1 29 = .ok (.aload_n 0, 1) := by decide +kernel
theorem d1_30 : decode (tb_me 1).1.2.1 30 = .ok (.bipush 6, 2) := by decide +kernel
theorem d1_32 : decode (tb_me 1).1.2.1 32 = .ok (.anewarray 26, 3) := by decide +kernel
theorem sh0_3 {k : Nat} (hk : mi_o k 0 = true) : tb_SH[k + 1 + 3]? = some (.inl (.object "ChoirShip$Ship", 6)) := (by decide +kernel : ∀ k, k < 214 → mi_o k 0 = true → tb_SH[k + 1 + 3]? = some (.inl (.object "ChoirShip$Ship", 6))) k (mo_lt hk) hk
theorem d1_35 : decode (tb_me 1).1.2.1 35 = .ok (.putfield 28, 3) := by decide +kernel
theorem q1_0_3 : (3 < pm_nf tb_cl 0) ∧ pm_isR (tb_ft 0 3) = true ∧ pm_fin tb_cl (tb_me 1).1.1 0 3 = true := by decide +kernel
theorem d1_38 : decode (tb_me 1).1.2.1 38 = .ok (.aload_n 0, 1) := by decide +kernel
theorem d1_39 : decode (tb_me 1).1.2.1 39 = .ok (.iconst 4, 1) := by decide +kernel
theorem d1_40 : decode (tb_me 1).1.2.1 40 = .ok (.anewarray 32, 3) := by decide +kernel
theorem sh0_4 {k : Nat} (hk : mi_o k 0 = true) : tb_SH[k + 1 + 4]? = some (.inl (.object "ChoirShip$World", 4)) := (by decide +kernel : ∀ k, k < 214 → mi_o k 0 = true → tb_SH[k + 1 + 4]? = some (.inl (.object "ChoirShip$World", 4))) k (mo_lt hk) hk
theorem d1_43 : decode (tb_me 1).1.2.1 43 = .ok (.putfield 34, 3) := by decide +kernel
theorem q1_0_5 : (5 < pm_nf tb_cl 0) ∧ pm_isR (tb_ft 0 5) = true ∧ pm_fin tb_cl (tb_me 1).1.1 0 5 = true := by decide +kernel
theorem d1_46 : decode (tb_me 1).1.2.1 46 = .ok (.aload_n 0, 1) := by decide +kernel
theorem d1_47 : decode (tb_me 1).1.2.1 47 = .ok (.new 38, 3) := by decide +kernel
theorem k1_38 (b : Bool) : tb_lk b 1 38 = (9, 4, 0, 0, 0) := by cases b <;> decide +kernel
theorem d1_50 : decode (tb_me 1).1.2.1 50 = .ok (.dup, 1) := by decide +kernel
theorem d1_51 : decode (tb_me 1).1.2.1 51 = .ok (.invokespecial 40, 3) := by decide +kernel
theorem k1_40 (b : Bool) : tb_lk b 1 40 = (6, 82, 0, 0, 0) := by cases b <;> decide +kernel
theorem mm82 : (tb_me 82).2 = ((61, 480), (0, 4)) ∧ (tb_me 82).1.2.2.1 = 2 := by decide +kernel
theorem mo0_5 {k : Nat} (hk : mi_o k 0 = true) : mi_o (k + 1 + 5) 4 = true := (by decide +kernel : ∀ k, k < 214 → mi_o k 0 = true → mi_o (k + 1 + 5) 4 = true) k (mo_lt hk) hk
theorem sh0_5 {k : Nat} (hk : mi_o k 0 = true) : tb_SH[k + 1 + 5]? = some (.inr 4) := (by decide +kernel : ∀ k, k < 214 → mi_o k 0 = true → tb_SH[k + 1 + 5]? = some (.inr 4)) k (mo_lt hk) hk
theorem d1_54 : decode (tb_me 1).1.2.1 54 = .ok (.putfield 41, 3) := by decide +kernel
theorem k1_41 (b : Bool) : tb_lk b 1 41 = (1, 0, 6, 0, 0) := by cases b <;> decide +kernel
theorem q1_0_6 : (6 < pm_nf tb_cl 0) ∧ pm_isR (tb_ft 0 6) = true ∧ pm_fin tb_cl (tb_me 1).1.1 0 6 = true := by decide +kernel
theorem d1_57 : decode (tb_me 1).1.2.1 57 = .ok (.aload_n 0, 1) := by decide +kernel
theorem d1_58 : decode (tb_me 1).1.2.1 58 = .ok (.new 45, 3) := by decide +kernel
theorem k1_45 (b : Bool) : tb_lk b 1 45 = (9, 1, 0, 0, 0) := by cases b <;> decide +kernel
theorem d1_61 : decode (tb_me 1).1.2.1 61 = .ok (.dup, 1) := by decide +kernel
theorem d1_62 : decode (tb_me 1).1.2.1 62 = .ok (.invokespecial 47, 3) := by decide +kernel
theorem k1_47 (b : Bool) : tb_lk b 1 47 = (7, 42, 0, 0, 0) := by cases b <;> decide +kernel
theorem mm42 : (tb_me 42).2 = ((20, 6014), (0, 1)) ∧ (tb_me 42).1.2.2.1 = 1 := by decide +kernel
theorem mo0_67 {k : Nat} (hk : mi_o k 0 = true) : mi_o (k + 1 + 67) 1 = true := (by decide +kernel : ∀ k, k < 214 → mi_o k 0 = true → mi_o (k + 1 + 67) 1 = true) k (mo_lt hk) hk
theorem sh0_67 {k : Nat} (hk : mi_o k 0 = true) : tb_SH[k + 1 + 67]? = some (.inr 1) := (by decide +kernel : ∀ k, k < 214 → mi_o k 0 = true → tb_SH[k + 1 + 67]? = some (.inr 1)) k (mo_lt hk) hk
theorem d1_65 : decode (tb_me 1).1.2.1 65 = .ok (.putfield 48, 3) := by decide +kernel
theorem k1_48 (b : Bool) : tb_lk b 1 48 = (1, 0, 7, 0, 0) := by cases b <;> decide +kernel
theorem q1_0_7 : (7 < pm_nf tb_cl 0) ∧ pm_isR (tb_ft 0 7) = true ∧ pm_fin tb_cl (tb_me 1).1.1 0 7 = true := by decide +kernel
theorem d1_68 : decode (tb_me 1).1.2.1 68 = .ok (.aload_n 0, 1) := by decide +kernel
theorem d1_69 : decode (tb_me 1).1.2.1 69 = .ok (.iconst 5, 1) := by decide +kernel
theorem d1_70 : decode (tb_me 1).1.2.1 70 = .ok (.newarray .int, 2) := by decide +kernel
theorem sh0_88 {k : Nat} (hk : mi_o k 0 = true) : tb_SH[k + 1 + 88]? = some (.inl (.int, 5)) := (by decide +kernel : ∀ k, k < 214 → mi_o k 0 = true → tb_SH[k + 1 + 88]? = some (.inl (.int, 5))) k (mo_lt hk) hk
theorem d1_72 : decode (tb_me 1).1.2.1 72 = .ok (.putfield 52, 3) := by decide +kernel
theorem k1_52 (b : Bool) : tb_lk b 1 52 = (1, 0, 8, 0, 0) := by cases b <;> decide +kernel
theorem q1_0_8 : (8 < pm_nf tb_cl 0) ∧ pm_isR (tb_ft 0 8) = true ∧ pm_fin tb_cl (tb_me 1).1.1 0 8 = true := by decide +kernel
theorem r1 : (tb_me 1).1.2.2.2 = none := by decide +kernel
theorem kz3 : ∀ q ∈ tb_rf, q.1.1 = 3 → q.1.2 < 6 ∧ q.2 = 90 + 3 * q.1.2 := by decide +kernel
theorem kz4 : ∀ q ∈ tb_rf, q.1.1 = 4 → q.1.2 < 6 ∧ q.2 = 108 + 10 * q.1.2 := by decide +kernel
theorem kz5 : ∀ q ∈ tb_rf, q.1.1 = 5 → q.1.2 < 4 ∧ q.2 = 173 + 5 * q.1.2 := by decide +kernel
theorem kz0 : ∀ q ∈ tb_rf, q.1.1 = 0 → (q.1.2, q.2) ∈ [(0, 1), (1, 3), (3, 4), (4, 168), (5, 5), (6, 6), (7, 68), (8, 89)] := by decide +kernel
theorem sh0_167 {k : Nat} (hk : mi_o k 0 = true) : tb_SH[k + 1 + 167]? = some (.inr 9) := (by decide +kernel : ∀ k, k < 214 → mi_o k 0 = true → tb_SH[k + 1 + 167]? = some (.inr 9)) k (mo_lt hk) hk
theorem mo0_167 {k : Nat} (hk : mi_o k 0 = true) : mi_o (k + 1 + 167) 9 = true := (by decide +kernel : ∀ k, k < 214 → mi_o k 0 = true → mi_o (k + 1 + 167) 9 = true) k (mo_lt hk) hk
theorem d1_75 : decode (tb_me 1).1.2.1 75 = .ok (.iconst 0, 1) := by decide +kernel
theorem d1_76 : decode (tb_me 1).1.2.1 76 = .ok (.istore_n 1, 1) := by decide +kernel
theorem d1_105 : decode (tb_me 1).1.2.1 105 = .ok (.iconst 0, 1) := by decide +kernel
theorem d1_106 : decode (tb_me 1).1.2.1 106 = .ok (.istore_n 1, 1) := by decide +kernel
theorem d1_135 : decode (tb_me 1).1.2.1 135 = .ok (.aload_n 0, 1) := by decide +kernel
theorem d1_136 : decode (tb_me 1).1.2.1 136 = .ok (.new 32, 3) := by decide +kernel
theorem d1_139 : decode (tb_me 1).1.2.1 139 = .ok (.dup, 1) := by decide +kernel
theorem d1_140 : decode (tb_me 1).1.2.1 140 = .ok (.aload_n 0, 1) := by decide +kernel
theorem d1_141 : decode (tb_me 1).1.2.1 141 = .ok (.getfield 28, 3) := by decide +kernel
theorem d1_144 : decode (tb_me 1).1.2.1 144 = .ok (.iconst 0, 1) := by decide +kernel
theorem d1_145 : decode (tb_me 1).1.2.1 145 = .ok (.aaload, 1) := by decide +kernel
theorem d1_146 : decode (tb_me 1).1.2.1 146 = .ok (.invokespecial 58, 3) := by decide +kernel
theorem d1_149 : decode (tb_me 1).1.2.1 149 = .ok (.putfield 61, 3) := by decide +kernel
theorem k1_61 (b : Bool) : tb_lk b 1 61 = (1, 0, 4, 0, 0) := by cases b <;> decide +kernel
theorem q1_0_4 : (4 < pm_nf tb_cl 0) ∧ pm_isR (tb_ft 0 4) = true ∧ pm_fin tb_cl (tb_me 1).1.1 0 4 = true := by decide +kernel
theorem d1_152 : decode (tb_me 1).1.2.1 152 = .ok (.iconst 0, 1) := by decide +kernel
theorem d1_153 : decode (tb_me 1).1.2.1 153 = .ok (.istore_n 1, 1) := by decide +kernel
theorem d1_188 : decode (tb_me 1).1.2.1 188 = .ok (.return_, 1) := by decide +kernel
