/-! The constructor of the reference (written by wip/gen7.py). -/
def A0 : Nat → Int32 := fun j => if j = 6 then ng 1 else if 106 ≤ j ∧ j < 206 then ng 1 else nI 0
theorem lp_M (b : Bool) (L : Nat) (xs : Nat → Int32) (d : Nat) {P : Nat → Prop} {h0 : pm_H} {Q : Option Value → pm_H → Prop} {F : List (Nat × Nat)} (hF : (20, 203) ∈ F) (kk : ∀ h, CS 193 P h0 20 F h → (∀ j, h.2.1 203 j = A0 j) → Q none h) : ∀ (r i : Nat) (h : pm_H), r + i = 100 → CS 193 P h0 20 F h → (∀ j, h.2.1 203 j = if j = 6 then ng 1 else if 106 ≤ j ∧ j < 106 + i then ng 1 else nI 0) → PW b L xs d 147 0 0 178 [.ref 193, .int (nI i)] [] h Q
  | 0, i, h, hr, C, G => by
    have e : i = 100 := by omega
    subst e
    refine pw_l (pc := 178) d147_178 rfl rfl rfl ?_
    refine pw_s (pc := 179) d147_179 rfl rfl ?_
    refine pw_ige (pc := 181) (t := 200) d147_181 (by decide) (fun _ => ?_) (fun z => absurd (by show nI 100 ≤ nI 100; rw [nx_le (by omega) (by omega)]; omega) z)
    exact pw_rv (pc := 200) d147_200 r147 (kk h C G)
  | r + 1, i, h, hr, C, G => by
    have W := C.1
    have hs : h.1[193]? = some (.inr 10) := W.o (by omega) (by decide +kernel)
    have hy : h.2.2.2 193 20 = some 203 := C.2.2 (20, 203) hF
    refine pw_l (pc := 178) d147_178 rfl rfl rfl ?_
    refine pw_s (pc := 179) d147_179 rfl rfl ?_
    refine pw_ige (pc := 181) (t := 200) d147_181 (by decide) (fun z => absurd (show nI 100 ≤ nI i from z) (by rw [nx_le (by omega) (by omega)]; omega)) (fun _ => ?_)
    refine pw_l (pc := 184) d147_184 rfl rfl rfl ?_
    refine pw_gr (pc := 185) d147_185 (k147_39 b) hs g147_10_20 hy ?_
    refine pw_s (pc := 188) d147_188 rfl rfl ?_
    refine pw_l (pc := 190) d147_190 rfl rfl rfl ?_
    refine pw_s (pc := 191) d147_191 rfl rfl ?_
    refine pw_s (pc := 192) d147_192 rfl rfl ?_
    have e6 : (fun x y : Int32 => x + y) (Int8.ofInt 106).toInt32 (nI i) = nI (106 + i) := by show (Int8.ofInt 106).toInt32 + nI i = _; rw [show (Int8.ofInt 106).toInt32 = nI 106 by decide, nx_add]
    rw [e6]
    refine pw_si (pc := 193) d147_193 (W.at (by omega) s203) (by show ¬ (nI (106 + i) < nI 0 ∨ 227 ≤ (nI (106 + i)).toNatClampNeg); rw [nx_lt (by omega) (by omega), nx_cl (by omega)]; omega) ?_
    rw [nx_cl (by omega)]
    refine pw_t (pc := 194) d147_194 rfl rfl rfl rfl ?_
    refine pw_go (pc := 197) (t := 178) d147_197 (by decide) ?_
    have st1 : pm_st1 [.ref 193, .int (nI i)] 1 (.int (nI i + Int32.ofInt 1)) = [.ref 193, .int (nI (i + 1))] := by rw [kc_i1, nx_add]; rfl
    rw [st1]
    have C2 : CS 193 P h0 20 F (pm_setI h 203 (106 + i) (Int32.ofInt (-1))) := ⟨C.1.setI (.inr (.inr (.inr rfl))), C.2.1.setI _ (by omega), C.2.2⟩
    refine lp_M b L xs d hF kk r (i + 1) _ (by omega) C2 (fun j => ?_)
    by_cases z : j = 106 + i
    · rw [z, ri_s, if_neg (by omega), if_pos (by omega)]
      decide
    · rw [ri_j _ z, G j]
      by_cases z6 : j = 6
      · rw [if_pos z6, if_pos z6]
      · rw [if_neg z6, if_neg z6]
        by_cases z7 : 106 ≤ j ∧ j < 106 + i
        · rw [if_pos z7, if_pos (by omega)]
        · rw [if_neg z7, if_neg (by omega)]
theorem N_M (b : Bool) (L : Nat) (xs : Nat → Int32) (d : Nat) (hd : 1 ≤ d) {P : Nat → Prop} {h : pm_H} (hk : mi_o 193 10 = true) (W : NW (193 + 1) (fun c => P c ∨ c = 193) h) : PC b L xs d 147 [.ref 193] h (fun v h' => v = none ∧ NW (193 + 1 + 20) P h' ∧ LO 193 h h' ∧ ∀ j, h'.2.1 203 j = A0 j) := by
  refine pc_inM en147 (ls0 := [.ref 193, .retAddr 0]) rfl ?_
  have C0 : CS 193 P h 0 [] h := ⟨W, LO.refl 193 h, fun f hf => by cases hf⟩
  refine pw_l (pc := 0) d147_0 rfl rfl rfl ?_
  refine pw_oi (pc := 1) (by omega) d147_1 (k147_1 b) (by decide) ?_
  refine pw_l (pc := 4) d147_4 rfl rfl rfl ?_
  refine pw_s (pc := 5) d147_5 rfl rfl ?_
  refine pw_na (pc := 8) (n := 400) (kc' := 19) (ks' := 6297) (ty := .byte) d147_8 (by decide) (by decide) (by decide) C0.1.lt ?_
  rw [C0.len]
  have C1 : CS 193 P h 1 [] (pm_mk h (.inl (.byte, 400))) := C0.A (sh10_0 hk) (fun C z => by cases z)
  generalize (pm_mk h (.inl (.byte, 400))) = h1 at C1 ⊢
  refine pw_pr (pc := 10) d147_10 (k147_7 b) (C1.1.o (by omega) hk) q147_10_0 ?_
  have C2 : CS 193 P h 1 [(0, 193 + 1 + 0)] (pm_setR h1 193 0 (some (193 + 1 + 0))) := C1.R (by simp)
  generalize (pm_setR h1 193 0 (some (193 + 1 + 0))) = h2 at C2 ⊢
  refine pw_l (pc := 13) d147_13 rfl rfl rfl ?_
  refine pw_s (pc := 14) d147_14 rfl rfl ?_
  refine pw_na (pc := 17) (n := 2400) (kc' := 18) (ks' := 3897) (ty := .int) d147_17 (by decide) (by decide) (by decide) C2.1.lt ?_
  rw [C2.len]
  have C3 : CS 193 P h 2 [(0, 193 + 1 + 0)] (pm_mk h2 (.inl (.int, 2400))) := C2.A (sh10_1 hk) (fun C z => by cases z)
  generalize (pm_mk h2 (.inl (.int, 2400))) = h3 at C3 ⊢
  refine pw_pr (pc := 19) d147_19 (k147_13 b) (C3.1.o (by omega) hk) q147_10_3 ?_
  have C4 : CS 193 P h 2 [(3, 193 + 1 + 1), (0, 193 + 1 + 0)] (pm_setR h3 193 3 (some (193 + 1 + 1))) := C3.R (by simp)
  generalize (pm_setR h3 193 3 (some (193 + 1 + 1))) = h4 at C4 ⊢
  refine pw_l (pc := 22) d147_22 rfl rfl rfl ?_
  refine pw_s (pc := 23) d147_23 rfl rfl ?_
  refine pw_na (pc := 25) (n := 7) (kc' := 17) (ks' := 3890) (ty := .int) d147_25 (by decide) (by decide) (by decide) C4.1.lt ?_
  rw [C4.len]
  have C5 : CS 193 P h 3 [(3, 193 + 1 + 1), (0, 193 + 1 + 0)] (pm_mk h4 (.inl (.int, 7))) := C4.A (sh10_2 hk) (fun C z => by cases z)
  generalize (pm_mk h4 (.inl (.int, 7))) = h5 at C5 ⊢
  refine pw_pr (pc := 27) d147_27 (k147_17 b) (C5.1.o (by omega) hk) q147_10_4 ?_
  have C6 : CS 193 P h 3 [(4, 193 + 1 + 2), (3, 193 + 1 + 1), (0, 193 + 1 + 0)] (pm_setR h5 193 4 (some (193 + 1 + 2))) := C5.R (by simp)
  generalize (pm_setR h5 193 4 (some (193 + 1 + 2))) = h6 at C6 ⊢
  refine pw_l (pc := 30) d147_30 rfl rfl rfl ?_
  refine pw_s (pc := 31) d147_31 rfl rfl ?_
  refine pw_na (pc := 34) (n := 288) (kc' := 16) (ks' := 3602) (ty := .int) d147_34 (by decide) (by decide) (by decide) C6.1.lt ?_
  rw [C6.len]
  have C7 : CS 193 P h 4 [(4, 193 + 1 + 2), (3, 193 + 1 + 1), (0, 193 + 1 + 0)] (pm_mk h6 (.inl (.int, 288))) := C6.A (sh10_3 hk) (fun C z => by cases z)
  generalize (pm_mk h6 (.inl (.int, 288))) = h7 at C7 ⊢
  refine pw_pr (pc := 36) d147_36 (k147_20 b) (C7.1.o (by omega) hk) q147_10_5 ?_
  have C8 : CS 193 P h 4 [(5, 193 + 1 + 3), (4, 193 + 1 + 2), (3, 193 + 1 + 1), (0, 193 + 1 + 0)] (pm_setR h7 193 5 (some (193 + 1 + 3))) := C7.R (by simp)
  generalize (pm_setR h7 193 5 (some (193 + 1 + 3))) = h8 at C8 ⊢
  refine pw_l (pc := 39) d147_39 rfl rfl rfl ?_
  refine pw_s (pc := 40) d147_40 rfl rfl ?_
  refine pw_na (pc := 42) (n := 6) (kc' := 15) (ks' := 3596) (ty := .int) d147_42 (by decide) (by decide) (by decide) C8.1.lt ?_
  rw [C8.len]
  have C9 : CS 193 P h 5 [(5, 193 + 1 + 3), (4, 193 + 1 + 2), (3, 193 + 1 + 1), (0, 193 + 1 + 0)] (pm_mk h8 (.inl (.int, 6))) := C8.A (sh10_4 hk) (fun C z => by cases z)
  generalize (pm_mk h8 (.inl (.int, 6))) = h9 at C9 ⊢
  refine pw_pr (pc := 44) d147_44 (k147_23 b) (C9.1.o (by omega) hk) q147_10_6 ?_
  have C10 : CS 193 P h 5 [(6, 193 + 1 + 4), (5, 193 + 1 + 3), (4, 193 + 1 + 2), (3, 193 + 1 + 1), (0, 193 + 1 + 0)] (pm_setR h9 193 6 (some (193 + 1 + 4))) := C9.R (by simp)
  generalize (pm_setR h9 193 6 (some (193 + 1 + 4))) = h10 at C10 ⊢
  refine pw_l (pc := 47) d147_47 rfl rfl rfl ?_
  refine pw_s (pc := 48) d147_48 rfl rfl ?_
  refine pw_na (pc := 51) (n := 206) (kc' := 14) (ks' := 3390) (ty := .int) d147_51 (by decide) (by decide) (by decide) C10.1.lt ?_
  rw [C10.len]
  have C11 : CS 193 P h 6 [(6, 193 + 1 + 4), (5, 193 + 1 + 3), (4, 193 + 1 + 2), (3, 193 + 1 + 1), (0, 193 + 1 + 0)] (pm_mk h10 (.inl (.int, 206))) := C10.A (sh10_5 hk) (fun C z => by cases z)
  generalize (pm_mk h10 (.inl (.int, 206))) = h11 at C11 ⊢
  refine pw_pr (pc := 53) d147_53 (k147_26 b) (C11.1.o (by omega) hk) q147_10_7 ?_
  have C12 : CS 193 P h 6 [(7, 193 + 1 + 5), (6, 193 + 1 + 4), (5, 193 + 1 + 3), (4, 193 + 1 + 2), (3, 193 + 1 + 1), (0, 193 + 1 + 0)] (pm_setR h11 193 7 (some (193 + 1 + 5))) := C11.R (by simp)
  generalize (pm_setR h11 193 7 (some (193 + 1 + 5))) = h12 at C12 ⊢
  refine pw_l (pc := 56) d147_56 rfl rfl rfl ?_
  refine pw_s (pc := 57) d147_57 rfl rfl ?_
  refine pw_na (pc := 60) (n := 400) (kc' := 13) (ks' := 2990) (ty := .int) d147_60 (by decide) (by decide) (by decide) C12.1.lt ?_
  rw [C12.len]
  have C13 : CS 193 P h 7 [(7, 193 + 1 + 5), (6, 193 + 1 + 4), (5, 193 + 1 + 3), (4, 193 + 1 + 2), (3, 193 + 1 + 1), (0, 193 + 1 + 0)] (pm_mk h12 (.inl (.int, 400))) := C12.A (sh10_6 hk) (fun C z => by cases z)
  generalize (pm_mk h12 (.inl (.int, 400))) = h13 at C13 ⊢
  refine pw_pr (pc := 62) d147_62 (k147_29 b) (C13.1.o (by omega) hk) q147_10_15 ?_
  have C14 : CS 193 P h 7 [(15, 193 + 1 + 6), (7, 193 + 1 + 5), (6, 193 + 1 + 4), (5, 193 + 1 + 3), (4, 193 + 1 + 2), (3, 193 + 1 + 1), (0, 193 + 1 + 0)] (pm_setR h13 193 15 (some (193 + 1 + 6))) := C13.R (by simp)
  generalize (pm_setR h13 193 15 (some (193 + 1 + 6))) = h14 at C14 ⊢
  refine pw_l (pc := 65) d147_65 rfl rfl rfl ?_
  refine pw_s (pc := 66) d147_66 rfl rfl ?_
  refine pw_na (pc := 68) (n := 64) (kc' := 12) (ks' := 2926) (ty := .long) d147_68 (by decide) (by decide) (by decide) C14.1.lt ?_
  rw [C14.len]
  have C15 : CS 193 P h 8 [(15, 193 + 1 + 6), (7, 193 + 1 + 5), (6, 193 + 1 + 4), (5, 193 + 1 + 3), (4, 193 + 1 + 2), (3, 193 + 1 + 1), (0, 193 + 1 + 0)] (pm_mk h14 (.inl (.long, 64))) := C14.A (sh10_7 hk) (fun C z => by cases z)
  generalize (pm_mk h14 (.inl (.long, 64))) = h15 at C15 ⊢
  refine pw_pr (pc := 70) d147_70 (k147_32 b) (C15.1.o (by omega) hk) q147_10_17 ?_
  have C16 : CS 193 P h 8 [(17, 193 + 1 + 7), (15, 193 + 1 + 6), (7, 193 + 1 + 5), (6, 193 + 1 + 4), (5, 193 + 1 + 3), (4, 193 + 1 + 2), (3, 193 + 1 + 1), (0, 193 + 1 + 0)] (pm_setR h15 193 17 (some (193 + 1 + 7))) := C15.R (by simp)
  generalize (pm_setR h15 193 17 (some (193 + 1 + 7))) = h16 at C16 ⊢
  refine pw_l (pc := 73) d147_73 rfl rfl rfl ?_
  refine pw_s (pc := 74) d147_74 rfl rfl ?_
  refine pw_na (pc := 76) (n := 11) (kc' := 11) (ks' := 2915) (ty := .long) d147_76 (by decide) (by decide) (by decide) C16.1.lt ?_
  rw [C16.len]
  have C17 : CS 193 P h 9 [(17, 193 + 1 + 7), (15, 193 + 1 + 6), (7, 193 + 1 + 5), (6, 193 + 1 + 4), (5, 193 + 1 + 3), (4, 193 + 1 + 2), (3, 193 + 1 + 1), (0, 193 + 1 + 0)] (pm_mk h16 (.inl (.long, 11))) := C16.A (sh10_8 hk) (fun C z => by cases z)
  generalize (pm_mk h16 (.inl (.long, 11))) = h17 at C17 ⊢
  refine pw_pr (pc := 78) d147_78 (k147_36 b) (C17.1.o (by omega) hk) q147_10_19 ?_
  have C18 : CS 193 P h 9 [(19, 193 + 1 + 8), (17, 193 + 1 + 7), (15, 193 + 1 + 6), (7, 193 + 1 + 5), (6, 193 + 1 + 4), (5, 193 + 1 + 3), (4, 193 + 1 + 2), (3, 193 + 1 + 1), (0, 193 + 1 + 0)] (pm_setR h17 193 19 (some (193 + 1 + 8))) := C17.R (by simp)
  generalize (pm_setR h17 193 19 (some (193 + 1 + 8))) = h18 at C18 ⊢
  refine pw_l (pc := 81) d147_81 rfl rfl rfl ?_
  refine pw_s (pc := 82) d147_82 rfl rfl ?_
  refine pw_na (pc := 85) (n := 227) (kc' := 10) (ks' := 2688) (ty := .int) d147_85 (by decide) (by decide) (by decide) C18.1.lt ?_
  rw [C18.len]
  have C19 : CS 193 P h 10 [(19, 193 + 1 + 8), (17, 193 + 1 + 7), (15, 193 + 1 + 6), (7, 193 + 1 + 5), (6, 193 + 1 + 4), (5, 193 + 1 + 3), (4, 193 + 1 + 2), (3, 193 + 1 + 1), (0, 193 + 1 + 0)] (pm_mk h18 (.inl (.int, 227))) := C18.A (sh10_9 hk) (fun C z => by cases z)
  have X19 : ∀ j, (pm_mk h18 (.inl (.int, 227))).2.1 203 j = nI 0 := fun j => by have e := im_s (h := h18) (j := j) (.inl (.int, 227)); rw [C18.len] at e; exact e
  generalize (pm_mk h18 (.inl (.int, 227))) = h19 at C19 X19 ⊢
  refine pw_pr (pc := 87) d147_87 (k147_39 b) (C19.1.o (by omega) hk) q147_10_20 ?_
  have C20 : CS 193 P h 10 [(20, 193 + 1 + 9), (19, 193 + 1 + 8), (17, 193 + 1 + 7), (15, 193 + 1 + 6), (7, 193 + 1 + 5), (6, 193 + 1 + 4), (5, 193 + 1 + 3), (4, 193 + 1 + 2), (3, 193 + 1 + 1), (0, 193 + 1 + 0)] (pm_setR h19 193 20 (some (193 + 1 + 9))) := C19.R (by simp)
  have X20 : ∀ j, (pm_setR h19 193 20 (some (193 + 1 + 9))).2.1 203 j = nI 0 := X19
  generalize (pm_setR h19 193 20 (some (193 + 1 + 9))) = h20 at C20 X20 ⊢
  refine pw_l (pc := 90) d147_90 rfl rfl rfl ?_
  refine pw_s (pc := 91) d147_91 rfl rfl ?_
  refine pw_na (pc := 92) (n := 5) (kc' := 9) (ks' := 2683) (ty := .int) d147_92 (by decide) (by decide) (by decide) C20.1.lt ?_
  rw [C20.len]
  have C21 : CS 193 P h 11 [(20, 193 + 1 + 9), (19, 193 + 1 + 8), (17, 193 + 1 + 7), (15, 193 + 1 + 6), (7, 193 + 1 + 5), (6, 193 + 1 + 4), (5, 193 + 1 + 3), (4, 193 + 1 + 2), (3, 193 + 1 + 1), (0, 193 + 1 + 0)] (pm_mk h20 (.inl (.int, 5))) := C20.A (sh10_10 hk) (fun C z => by cases z)
  have X21 : ∀ j, (pm_mk h20 (.inl (.int, 5))).2.1 203 j = nI 0 := fun j => (im_c _ (by have := C20.len; omega)).trans (X20 j)
  generalize (pm_mk h20 (.inl (.int, 5))) = h21 at C21 X21 ⊢
  refine pw_pr (pc := 94) d147_94 (k147_42 b) (C21.1.o (by omega) hk) q147_10_22 ?_
  have C22 : CS 193 P h 11 [(22, 193 + 1 + 10), (20, 193 + 1 + 9), (19, 193 + 1 + 8), (17, 193 + 1 + 7), (15, 193 + 1 + 6), (7, 193 + 1 + 5), (6, 193 + 1 + 4), (5, 193 + 1 + 3), (4, 193 + 1 + 2), (3, 193 + 1 + 1), (0, 193 + 1 + 0)] (pm_setR h21 193 22 (some (193 + 1 + 10))) := C21.R (by simp)
  have X22 : ∀ j, (pm_setR h21 193 22 (some (193 + 1 + 10))).2.1 203 j = nI 0 := X21
  generalize (pm_setR h21 193 22 (some (193 + 1 + 10))) = h22 at C22 X22 ⊢
  refine pw_l (pc := 97) d147_97 rfl rfl rfl ?_
  refine pw_s (pc := 98) d147_98 rfl rfl ?_
  refine pw_na (pc := 99) (n := 5) (kc' := 8) (ks' := 2678) (ty := .int) d147_99 (by decide) (by decide) (by decide) C22.1.lt ?_
  rw [C22.len]
  have C23 : CS 193 P h 12 [(22, 193 + 1 + 10), (20, 193 + 1 + 9), (19, 193 + 1 + 8), (17, 193 + 1 + 7), (15, 193 + 1 + 6), (7, 193 + 1 + 5), (6, 193 + 1 + 4), (5, 193 + 1 + 3), (4, 193 + 1 + 2), (3, 193 + 1 + 1), (0, 193 + 1 + 0)] (pm_mk h22 (.inl (.int, 5))) := C22.A (sh10_11 hk) (fun C z => by cases z)
  have X23 : ∀ j, (pm_mk h22 (.inl (.int, 5))).2.1 203 j = nI 0 := fun j => (im_c _ (by have := C22.len; omega)).trans (X22 j)
  generalize (pm_mk h22 (.inl (.int, 5))) = h23 at C23 X23 ⊢
  refine pw_pr (pc := 101) d147_101 (k147_45 b) (C23.1.o (by omega) hk) q147_10_24 ?_
  have C24 : CS 193 P h 12 [(24, 193 + 1 + 11), (22, 193 + 1 + 10), (20, 193 + 1 + 9), (19, 193 + 1 + 8), (17, 193 + 1 + 7), (15, 193 + 1 + 6), (7, 193 + 1 + 5), (6, 193 + 1 + 4), (5, 193 + 1 + 3), (4, 193 + 1 + 2), (3, 193 + 1 + 1), (0, 193 + 1 + 0)] (pm_setR h23 193 24 (some (193 + 1 + 11))) := C23.R (by simp)
  have X24 : ∀ j, (pm_setR h23 193 24 (some (193 + 1 + 11))).2.1 203 j = nI 0 := X23
  generalize (pm_setR h23 193 24 (some (193 + 1 + 11))) = h24 at C24 X24 ⊢
  refine pw_l (pc := 104) d147_104 rfl rfl rfl ?_
  refine pw_s (pc := 105) d147_105 rfl rfl ?_
  refine pw_na (pc := 106) (n := 2) (kc' := 7) (ks' := 2676) (ty := .int) d147_106 (by decide) (by decide) (by decide) C24.1.lt ?_
  rw [C24.len]
  have C25 : CS 193 P h 13 [(24, 193 + 1 + 11), (22, 193 + 1 + 10), (20, 193 + 1 + 9), (19, 193 + 1 + 8), (17, 193 + 1 + 7), (15, 193 + 1 + 6), (7, 193 + 1 + 5), (6, 193 + 1 + 4), (5, 193 + 1 + 3), (4, 193 + 1 + 2), (3, 193 + 1 + 1), (0, 193 + 1 + 0)] (pm_mk h24 (.inl (.int, 2))) := C24.A (sh10_12 hk) (fun C z => by cases z)
  have X25 : ∀ j, (pm_mk h24 (.inl (.int, 2))).2.1 203 j = nI 0 := fun j => (im_c _ (by have := C24.len; omega)).trans (X24 j)
  generalize (pm_mk h24 (.inl (.int, 2))) = h25 at C25 X25 ⊢
  refine pw_pr (pc := 108) d147_108 (k147_48 b) (C25.1.o (by omega) hk) q147_10_25 ?_
  have C26 : CS 193 P h 13 [(25, 193 + 1 + 12), (24, 193 + 1 + 11), (22, 193 + 1 + 10), (20, 193 + 1 + 9), (19, 193 + 1 + 8), (17, 193 + 1 + 7), (15, 193 + 1 + 6), (7, 193 + 1 + 5), (6, 193 + 1 + 4), (5, 193 + 1 + 3), (4, 193 + 1 + 2), (3, 193 + 1 + 1), (0, 193 + 1 + 0)] (pm_setR h25 193 25 (some (193 + 1 + 12))) := C25.R (by simp)
  have X26 : ∀ j, (pm_setR h25 193 25 (some (193 + 1 + 12))).2.1 203 j = nI 0 := X25
  generalize (pm_setR h25 193 25 (some (193 + 1 + 12))) = h26 at C26 X26 ⊢
  refine pw_l (pc := 111) d147_111 rfl rfl rfl ?_
  refine pw_s (pc := 112) d147_112 rfl rfl ?_
  refine pw_na (pc := 115) (n := 512) (kc' := 6) (ks' := 2164) (ty := .int) d147_115 (by decide) (by decide) (by decide) C26.1.lt ?_
  rw [C26.len]
  have C27 : CS 193 P h 14 [(25, 193 + 1 + 12), (24, 193 + 1 + 11), (22, 193 + 1 + 10), (20, 193 + 1 + 9), (19, 193 + 1 + 8), (17, 193 + 1 + 7), (15, 193 + 1 + 6), (7, 193 + 1 + 5), (6, 193 + 1 + 4), (5, 193 + 1 + 3), (4, 193 + 1 + 2), (3, 193 + 1 + 1), (0, 193 + 1 + 0)] (pm_mk h26 (.inl (.int, 512))) := C26.A (sh10_13 hk) (fun C z => by cases z)
  have X27 : ∀ j, (pm_mk h26 (.inl (.int, 512))).2.1 203 j = nI 0 := fun j => (im_c _ (by have := C26.len; omega)).trans (X26 j)
  generalize (pm_mk h26 (.inl (.int, 512))) = h27 at C27 X27 ⊢
  refine pw_pr (pc := 117) d147_117 (k147_51 b) (C27.1.o (by omega) hk) q147_10_26 ?_
  have C28 : CS 193 P h 14 [(26, 193 + 1 + 13), (25, 193 + 1 + 12), (24, 193 + 1 + 11), (22, 193 + 1 + 10), (20, 193 + 1 + 9), (19, 193 + 1 + 8), (17, 193 + 1 + 7), (15, 193 + 1 + 6), (7, 193 + 1 + 5), (6, 193 + 1 + 4), (5, 193 + 1 + 3), (4, 193 + 1 + 2), (3, 193 + 1 + 1), (0, 193 + 1 + 0)] (pm_setR h27 193 26 (some (193 + 1 + 13))) := C27.R (by simp)
  have X28 : ∀ j, (pm_setR h27 193 26 (some (193 + 1 + 13))).2.1 203 j = nI 0 := X27
  generalize (pm_setR h27 193 26 (some (193 + 1 + 13))) = h28 at C28 X28 ⊢
  refine pw_l (pc := 120) d147_120 rfl rfl rfl ?_
  refine pw_s (pc := 121) d147_121 rfl rfl ?_
  refine pw_na (pc := 124) (n := 1160) (kc' := 5) (ks' := 1004) (ty := .int) d147_124 (by decide) (by decide) (by decide) C28.1.lt ?_
  rw [C28.len]
  have C29 : CS 193 P h 15 [(26, 193 + 1 + 13), (25, 193 + 1 + 12), (24, 193 + 1 + 11), (22, 193 + 1 + 10), (20, 193 + 1 + 9), (19, 193 + 1 + 8), (17, 193 + 1 + 7), (15, 193 + 1 + 6), (7, 193 + 1 + 5), (6, 193 + 1 + 4), (5, 193 + 1 + 3), (4, 193 + 1 + 2), (3, 193 + 1 + 1), (0, 193 + 1 + 0)] (pm_mk h28 (.inl (.int, 1160))) := C28.A (sh10_14 hk) (fun C z => by cases z)
  have X29 : ∀ j, (pm_mk h28 (.inl (.int, 1160))).2.1 203 j = nI 0 := fun j => (im_c _ (by have := C28.len; omega)).trans (X28 j)
  generalize (pm_mk h28 (.inl (.int, 1160))) = h29 at C29 X29 ⊢
  refine pw_pr (pc := 126) d147_126 (k147_54 b) (C29.1.o (by omega) hk) q147_10_27 ?_
  have C30 : CS 193 P h 15 [(27, 193 + 1 + 14), (26, 193 + 1 + 13), (25, 193 + 1 + 12), (24, 193 + 1 + 11), (22, 193 + 1 + 10), (20, 193 + 1 + 9), (19, 193 + 1 + 8), (17, 193 + 1 + 7), (15, 193 + 1 + 6), (7, 193 + 1 + 5), (6, 193 + 1 + 4), (5, 193 + 1 + 3), (4, 193 + 1 + 2), (3, 193 + 1 + 1), (0, 193 + 1 + 0)] (pm_setR h29 193 27 (some (193 + 1 + 14))) := C29.R (by simp)
  have X30 : ∀ j, (pm_setR h29 193 27 (some (193 + 1 + 14))).2.1 203 j = nI 0 := X29
  generalize (pm_setR h29 193 27 (some (193 + 1 + 14))) = h30 at C30 X30 ⊢
  refine pw_l (pc := 129) d147_129 rfl rfl rfl ?_
  refine pw_s (pc := 130) d147_130 rfl rfl ?_
  refine pw_na (pc := 132) (n := 30) (kc' := 4) (ks' := 974) (ty := .int) d147_132 (by decide) (by decide) (by decide) C30.1.lt ?_
  rw [C30.len]
  have C31 : CS 193 P h 16 [(27, 193 + 1 + 14), (26, 193 + 1 + 13), (25, 193 + 1 + 12), (24, 193 + 1 + 11), (22, 193 + 1 + 10), (20, 193 + 1 + 9), (19, 193 + 1 + 8), (17, 193 + 1 + 7), (15, 193 + 1 + 6), (7, 193 + 1 + 5), (6, 193 + 1 + 4), (5, 193 + 1 + 3), (4, 193 + 1 + 2), (3, 193 + 1 + 1), (0, 193 + 1 + 0)] (pm_mk h30 (.inl (.int, 30))) := C30.A (sh10_15 hk) (fun C z => by cases z)
  have X31 : ∀ j, (pm_mk h30 (.inl (.int, 30))).2.1 203 j = nI 0 := fun j => (im_c _ (by have := C30.len; omega)).trans (X30 j)
  generalize (pm_mk h30 (.inl (.int, 30))) = h31 at C31 X31 ⊢
  refine pw_pr (pc := 134) d147_134 (k147_57 b) (C31.1.o (by omega) hk) q147_10_29 ?_
  have C32 : CS 193 P h 16 [(29, 193 + 1 + 15), (27, 193 + 1 + 14), (26, 193 + 1 + 13), (25, 193 + 1 + 12), (24, 193 + 1 + 11), (22, 193 + 1 + 10), (20, 193 + 1 + 9), (19, 193 + 1 + 8), (17, 193 + 1 + 7), (15, 193 + 1 + 6), (7, 193 + 1 + 5), (6, 193 + 1 + 4), (5, 193 + 1 + 3), (4, 193 + 1 + 2), (3, 193 + 1 + 1), (0, 193 + 1 + 0)] (pm_setR h31 193 29 (some (193 + 1 + 15))) := C31.R (by simp)
  have X32 : ∀ j, (pm_setR h31 193 29 (some (193 + 1 + 15))).2.1 203 j = nI 0 := X31
  generalize (pm_setR h31 193 29 (some (193 + 1 + 15))) = h32 at C32 X32 ⊢
  refine pw_l (pc := 137) d147_137 rfl rfl rfl ?_
  refine pw_s (pc := 138) d147_138 rfl rfl ?_
  refine pw_na (pc := 140) (n := 58) (kc' := 3) (ks' := 916) (ty := .int) d147_140 (by decide) (by decide) (by decide) C32.1.lt ?_
  rw [C32.len]
  have C33 : CS 193 P h 17 [(29, 193 + 1 + 15), (27, 193 + 1 + 14), (26, 193 + 1 + 13), (25, 193 + 1 + 12), (24, 193 + 1 + 11), (22, 193 + 1 + 10), (20, 193 + 1 + 9), (19, 193 + 1 + 8), (17, 193 + 1 + 7), (15, 193 + 1 + 6), (7, 193 + 1 + 5), (6, 193 + 1 + 4), (5, 193 + 1 + 3), (4, 193 + 1 + 2), (3, 193 + 1 + 1), (0, 193 + 1 + 0)] (pm_mk h32 (.inl (.int, 58))) := C32.A (sh10_16 hk) (fun C z => by cases z)
  have X33 : ∀ j, (pm_mk h32 (.inl (.int, 58))).2.1 203 j = nI 0 := fun j => (im_c _ (by have := C32.len; omega)).trans (X32 j)
  generalize (pm_mk h32 (.inl (.int, 58))) = h33 at C33 X33 ⊢
  refine pw_pr (pc := 142) d147_142 (k147_60 b) (C33.1.o (by omega) hk) q147_10_30 ?_
  have C34 : CS 193 P h 17 [(30, 193 + 1 + 16), (29, 193 + 1 + 15), (27, 193 + 1 + 14), (26, 193 + 1 + 13), (25, 193 + 1 + 12), (24, 193 + 1 + 11), (22, 193 + 1 + 10), (20, 193 + 1 + 9), (19, 193 + 1 + 8), (17, 193 + 1 + 7), (15, 193 + 1 + 6), (7, 193 + 1 + 5), (6, 193 + 1 + 4), (5, 193 + 1 + 3), (4, 193 + 1 + 2), (3, 193 + 1 + 1), (0, 193 + 1 + 0)] (pm_setR h33 193 30 (some (193 + 1 + 16))) := C33.R (by simp)
  have X34 : ∀ j, (pm_setR h33 193 30 (some (193 + 1 + 16))).2.1 203 j = nI 0 := X33
  generalize (pm_setR h33 193 30 (some (193 + 1 + 16))) = h34 at C34 X34 ⊢
  refine pw_l (pc := 145) d147_145 rfl rfl rfl ?_
  refine pw_s (pc := 146) d147_146 rfl rfl ?_
  refine pw_na (pc := 149) (n := 908) (kc' := 2) (ks' := 8) (ty := .int) d147_149 (by decide) (by decide) (by decide) C34.1.lt ?_
  rw [C34.len]
  have C35 : CS 193 P h 18 [(30, 193 + 1 + 16), (29, 193 + 1 + 15), (27, 193 + 1 + 14), (26, 193 + 1 + 13), (25, 193 + 1 + 12), (24, 193 + 1 + 11), (22, 193 + 1 + 10), (20, 193 + 1 + 9), (19, 193 + 1 + 8), (17, 193 + 1 + 7), (15, 193 + 1 + 6), (7, 193 + 1 + 5), (6, 193 + 1 + 4), (5, 193 + 1 + 3), (4, 193 + 1 + 2), (3, 193 + 1 + 1), (0, 193 + 1 + 0)] (pm_mk h34 (.inl (.int, 908))) := C34.A (sh10_17 hk) (fun C z => by cases z)
  have X35 : ∀ j, (pm_mk h34 (.inl (.int, 908))).2.1 203 j = nI 0 := fun j => (im_c _ (by have := C34.len; omega)).trans (X34 j)
  generalize (pm_mk h34 (.inl (.int, 908))) = h35 at C35 X35 ⊢
  refine pw_pr (pc := 151) d147_151 (k147_63 b) (C35.1.o (by omega) hk) q147_10_32 ?_
  have C36 : CS 193 P h 18 [(32, 193 + 1 + 17), (30, 193 + 1 + 16), (29, 193 + 1 + 15), (27, 193 + 1 + 14), (26, 193 + 1 + 13), (25, 193 + 1 + 12), (24, 193 + 1 + 11), (22, 193 + 1 + 10), (20, 193 + 1 + 9), (19, 193 + 1 + 8), (17, 193 + 1 + 7), (15, 193 + 1 + 6), (7, 193 + 1 + 5), (6, 193 + 1 + 4), (5, 193 + 1 + 3), (4, 193 + 1 + 2), (3, 193 + 1 + 1), (0, 193 + 1 + 0)] (pm_setR h35 193 32 (some (193 + 1 + 17))) := C35.R (by simp)
  have X36 : ∀ j, (pm_setR h35 193 32 (some (193 + 1 + 17))).2.1 203 j = nI 0 := X35
  generalize (pm_setR h35 193 32 (some (193 + 1 + 17))) = h36 at C36 X36 ⊢
  refine pw_l (pc := 154) d147_154 rfl rfl rfl ?_
  refine pw_s (pc := 155) d147_155 rfl rfl ?_
  refine pw_na (pc := 156) (n := 4) (kc' := 1) (ks' := 4) (ty := .int) d147_156 (by decide) (by decide) (by decide) C36.1.lt ?_
  rw [C36.len]
  have C37 : CS 193 P h 19 [(32, 193 + 1 + 17), (30, 193 + 1 + 16), (29, 193 + 1 + 15), (27, 193 + 1 + 14), (26, 193 + 1 + 13), (25, 193 + 1 + 12), (24, 193 + 1 + 11), (22, 193 + 1 + 10), (20, 193 + 1 + 9), (19, 193 + 1 + 8), (17, 193 + 1 + 7), (15, 193 + 1 + 6), (7, 193 + 1 + 5), (6, 193 + 1 + 4), (5, 193 + 1 + 3), (4, 193 + 1 + 2), (3, 193 + 1 + 1), (0, 193 + 1 + 0)] (pm_mk h36 (.inl (.int, 4))) := C36.A (sh10_18 hk) (fun C z => by cases z)
  have X37 : ∀ j, (pm_mk h36 (.inl (.int, 4))).2.1 203 j = nI 0 := fun j => (im_c _ (by have := C36.len; omega)).trans (X36 j)
  generalize (pm_mk h36 (.inl (.int, 4))) = h37 at C37 X37 ⊢
  refine pw_pr (pc := 158) d147_158 (k147_66 b) (C37.1.o (by omega) hk) q147_10_33 ?_
  have C38 : CS 193 P h 19 [(33, 193 + 1 + 18), (32, 193 + 1 + 17), (30, 193 + 1 + 16), (29, 193 + 1 + 15), (27, 193 + 1 + 14), (26, 193 + 1 + 13), (25, 193 + 1 + 12), (24, 193 + 1 + 11), (22, 193 + 1 + 10), (20, 193 + 1 + 9), (19, 193 + 1 + 8), (17, 193 + 1 + 7), (15, 193 + 1 + 6), (7, 193 + 1 + 5), (6, 193 + 1 + 4), (5, 193 + 1 + 3), (4, 193 + 1 + 2), (3, 193 + 1 + 1), (0, 193 + 1 + 0)] (pm_setR h37 193 33 (some (193 + 1 + 18))) := C37.R (by simp)
  have X38 : ∀ j, (pm_setR h37 193 33 (some (193 + 1 + 18))).2.1 203 j = nI 0 := X37
  generalize (pm_setR h37 193 33 (some (193 + 1 + 18))) = h38 at C38 X38 ⊢
  refine pw_l (pc := 161) d147_161 rfl rfl rfl ?_
  refine pw_s (pc := 162) d147_162 rfl rfl ?_
  refine pw_na (pc := 163) (n := 4) (kc' := 0) (ks' := 0) (ty := .boolean) d147_163 (by decide) (by decide) (by decide) C38.1.lt ?_
  rw [C38.len]
  have C39 : CS 193 P h 20 [(33, 193 + 1 + 18), (32, 193 + 1 + 17), (30, 193 + 1 + 16), (29, 193 + 1 + 15), (27, 193 + 1 + 14), (26, 193 + 1 + 13), (25, 193 + 1 + 12), (24, 193 + 1 + 11), (22, 193 + 1 + 10), (20, 193 + 1 + 9), (19, 193 + 1 + 8), (17, 193 + 1 + 7), (15, 193 + 1 + 6), (7, 193 + 1 + 5), (6, 193 + 1 + 4), (5, 193 + 1 + 3), (4, 193 + 1 + 2), (3, 193 + 1 + 1), (0, 193 + 1 + 0)] (pm_mk h38 (.inl (.boolean, 4))) := C38.A (sh10_19 hk) (fun C z => by cases z)
  have X39 : ∀ j, (pm_mk h38 (.inl (.boolean, 4))).2.1 203 j = nI 0 := fun j => (im_c _ (by have := C38.len; omega)).trans (X38 j)
  generalize (pm_mk h38 (.inl (.boolean, 4))) = h39 at C39 X39 ⊢
  refine pw_pr (pc := 165) d147_165 (k147_69 b) (C39.1.o (by omega) hk) q147_10_34 ?_
  have C40 : CS 193 P h 20 [(34, 193 + 1 + 19), (33, 193 + 1 + 18), (32, 193 + 1 + 17), (30, 193 + 1 + 16), (29, 193 + 1 + 15), (27, 193 + 1 + 14), (26, 193 + 1 + 13), (25, 193 + 1 + 12), (24, 193 + 1 + 11), (22, 193 + 1 + 10), (20, 193 + 1 + 9), (19, 193 + 1 + 8), (17, 193 + 1 + 7), (15, 193 + 1 + 6), (7, 193 + 1 + 5), (6, 193 + 1 + 4), (5, 193 + 1 + 3), (4, 193 + 1 + 2), (3, 193 + 1 + 1), (0, 193 + 1 + 0)] (pm_setR h39 193 34 (some (193 + 1 + 19))) := C39.R (by simp)
  have X40 : ∀ j, (pm_setR h39 193 34 (some (193 + 1 + 19))).2.1 203 j = nI 0 := X39
  generalize (pm_setR h39 193 34 (some (193 + 1 + 19))) = h40 at C40 X40 ⊢
  have hy : h40.2.2.2 193 20 = some 203 := C40.2.2 (20, 203) (by decide)
  refine pw_l (pc := 168) d147_168 rfl rfl rfl ?_
  refine pw_gr (pc := 169) d147_169 (k147_39 b) (C40.1.o (by omega) hk) g147_10_20 hy ?_
  refine pw_s (pc := 172) d147_172 rfl rfl ?_
  refine pw_s (pc := 174) d147_174 rfl rfl ?_
  refine pw_si (pc := 175) d147_175 (C40.1.at (by omega) s203) (by unfold vp_in; decide) ?_
  have D1 : CS 193 P h 20 [(34, 193 + 1 + 19), (33, 193 + 1 + 18), (32, 193 + 1 + 17), (30, 193 + 1 + 16), (29, 193 + 1 + 15), (27, 193 + 1 + 14), (26, 193 + 1 + 13), (25, 193 + 1 + 12), (24, 193 + 1 + 11), (22, 193 + 1 + 10), (20, 193 + 1 + 9), (19, 193 + 1 + 8), (17, 193 + 1 + 7), (15, 193 + 1 + 6), (7, 193 + 1 + 5), (6, 193 + 1 + 4), (5, 193 + 1 + 3), (4, 193 + 1 + 2), (3, 193 + 1 + 1), (0, 193 + 1 + 0)] (pm_setI h40 203 (Int8.ofInt 6).toInt32.toNatClampNeg (Int32.ofInt (-1))) := ⟨C40.1.setI (.inr (.inr (.inr rfl))), C40.2.1.setI _ (by omega), C40.2.2⟩
  have Y1 : ∀ j, (pm_setI h40 203 (Int8.ofInt 6).toInt32.toNatClampNeg (Int32.ofInt (-1))).2.1 203 j = if j = 6 then ng 1 else if 106 ≤ j ∧ j < 106 + 0 then ng 1 else nI 0 := by
    intro j
    have e6 : (Int8.ofInt 6).toInt32.toNatClampNeg = 6 := by decide
    rw [e6]
    by_cases z : j = 6
    · rw [z, ri_s, if_pos rfl]
      decide
    · rw [ri_j _ z, X40 j, if_neg z, if_neg (by omega)]
  generalize pm_setI h40 203 (Int8.ofInt 6).toInt32.toNatClampNeg (Int32.ofInt (-1)) = g1 at D1 Y1 ⊢
  refine pw_s (pc := 176) d147_176 rfl rfl ?_
  refine pw_t (pc := 177) d147_177 rfl rfl rfl rfl ?_
  refine lp_M b L xs d (h0 := h) (by decide) (fun g2 D2 G2 => ?_) 100 0 _ rfl D1 Y1
  have E := D2.end (fun q hq e => kl10 q hq e)
  exact ⟨rfl, E.1, E.2, G2⟩
