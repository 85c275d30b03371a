/-! Constructors without loops (written by wip/gen6.py). -/
theorem N_T (b : Bool) (L : Nat) (xs : Nat → Int32) (d : Nat) (hd : 1 ≤ d) {k : Nat} {P : Nat → Prop} {h : pm_H} (hk : mi_o k 8 = true) (W : NW (k + 1) (fun c => P c ∨ c = k) h) : PC b L xs d 133 [.ref k] h (fun v h' => v = none ∧ NW (k + 1 + 1) P h' ∧ LO k h h') := by
  refine pc_inM en133 (ls0 := [.ref k]) rfl ?_
  have C0 : CS k P h 0 [] h := ⟨W, LO.refl k h, fun f hf => by cases hf⟩
  refine pw_l (pc := 0) d133_0 rfl rfl rfl ?_
  refine pw_oi (pc := 1) (by omega) d133_1 (k133_3 b) (by decide) ?_
  refine pw_l (pc := 4) d133_4 rfl rfl rfl ?_
  refine pw_s (pc := 5) d133_5 rfl rfl ?_
  refine pw_na (pc := 8) (n := 400) (kc' := 0) (ks' := 0) (ty := .int) d133_8 (by decide) (by decide) (by decide) C0.1.lt ?_
  rw [C0.len]
  have C1 : CS k P h 1 [] (pm_mk h (.inl (.int, 400))) := C0.A (sh8_0 hk) (fun C z => by cases z)
  generalize (pm_mk h (.inl (.int, 400))) = h1 at C1 ⊢
  refine pw_pr (pc := 10) d133_10 (k133_9 b) (C1.1.o (by omega) hk) q133_8_0 ?_
  have C2 : CS k P h 1 [(0, k + 1 + 0)] (pm_setR h1 k 0 (some (k + 1 + 0))) := C1.R (by simp)
  generalize (pm_setR h1 k 0 (some (k + 1 + 0))) = h2 at C2 ⊢
  refine pw_l (pc := 13) d133_13 rfl rfl rfl ?_
  refine pw_s (pc := 14) d133_14 rfl rfl ?_
  refine pw_pi (pc := 15) d133_15 (k133_15 b) (C2.1.o (by omega) hk) q133_8_1 ?_
  have C3 : CS k P h 1 [(0, k + 1 + 0)] (pm_setI h2 k 1 (Int32.ofInt 0)) := C2.I (.inl (by decide))
  generalize (pm_setI h2 k 1 (Int32.ofInt 0)) = h3 at C3 ⊢
  refine pw_l (pc := 18) d133_18 rfl rfl rfl ?_
  refine pw_s (pc := 19) d133_19 rfl rfl ?_
  refine pw_pi (pc := 20) d133_20 (k133_19 b) (C3.1.o (by omega) hk) q133_8_2 ?_
  have C4 : CS k P h 1 [(0, k + 1 + 0)] (pm_setI h3 k 2 (Int32.ofInt 0)) := C3.I (.inl (by decide))
  generalize (pm_setI h3 k 2 (Int32.ofInt 0)) = h4 at C4 ⊢
  refine pw_l (pc := 23) d133_23 rfl rfl rfl ?_
  refine pw_s (pc := 24) d133_24 rfl rfl ?_
  refine pw_pi (pc := 25) d133_25 (k133_22 b) (C4.1.o (by omega) hk) q133_8_3 ?_
  have C5 : CS k P h 1 [(0, k + 1 + 0)] (pm_setI h4 k 3 (Int32.ofInt 0)) := C4.I (.inl (by decide))
  generalize (pm_setI h4 k 3 (Int32.ofInt 0)) = h5 at C5 ⊢
  refine pw_l (pc := 28) d133_28 rfl rfl rfl ?_
  refine pw_s (pc := 29) d133_29 rfl rfl ?_
  refine pw_pi (pc := 30) d133_30 (k133_25 b) (C5.1.o (by omega) hk) q133_8_4 ?_
  have C6 : CS k P h 1 [(0, k + 1 + 0)] (pm_setI h5 k 4 (Int32.ofInt 0)) := C5.I (.inl (by decide))
  generalize (pm_setI h5 k 4 (Int32.ofInt 0)) = h6 at C6 ⊢
  refine pw_l (pc := 33) d133_33 rfl rfl rfl ?_
  refine pw_s (pc := 34) d133_34 rfl rfl ?_
  refine pw_pi (pc := 35) d133_35 (k133_28 b) (C6.1.o (by omega) hk) q133_8_5 ?_
  have C7 : CS k P h 1 [(0, k + 1 + 0)] (pm_setI h6 k 5 (Int32.ofInt 0)) := C6.I (.inl (by decide))
  generalize (pm_setI h6 k 5 (Int32.ofInt 0)) = h7 at C7 ⊢
  refine pw_l (pc := 38) d133_38 rfl rfl rfl ?_
  refine pw_s (pc := 39) d133_39 rfl rfl ?_
  refine pw_pi (pc := 40) d133_40 (k133_31 b) (C7.1.o (by omega) hk) q133_8_6 ?_
  have C8 : CS k P h 1 [(0, k + 1 + 0)] (pm_setI h7 k 6 (Int32.ofInt 0)) := C7.I (.inl (by decide))
  generalize (pm_setI h7 k 6 (Int32.ofInt 0)) = h8 at C8 ⊢
  refine pw_l (pc := 43) d133_43 rfl rfl rfl ?_
  refine pw_s (pc := 44) d133_44 rfl rfl ?_
  refine pw_pi (pc := 45) d133_45 (k133_34 b) (C8.1.o (by omega) hk) q133_8_7 ?_
  have C9 : CS k P h 1 [(0, k + 1 + 0)] (pm_setI h8 k 7 (Int32.ofInt 0)) := C8.I (.inl (by decide))
  generalize (pm_setI h8 k 7 (Int32.ofInt 0)) = h9 at C9 ⊢
  have E := C9.end (fun q hq e => by have z := kl8 q hq (by rw [e]; exact hk); rw [e] at z; simp only [List.mem_cons, List.not_mem_nil, or_false, Prod.mk.injEq] at z ⊢; omega)
  exact pw_rv (pc := 48) d133_48 r133 ⟨rfl, E.1, E.2⟩
theorem N_U (b : Bool) (L : Nat) (xs : Nat → Int32) (d : Nat) (hd : 1 ≤ d) {k : Nat} {P : Nat → Prop} {h : pm_H} (hk : mi_o k 6 = true) (W : NW (k + 1) (fun c => P c ∨ c = k) h) : PC b L xs d 93 [.ref k] h (fun v h' => v = none ∧ NW (k + 1 + 2) P h' ∧ LO k h h') := by
  refine pc_inM en93 (ls0 := [.ref k]) rfl ?_
  have C0 : CS k P h 0 [] h := ⟨W, LO.refl k h, fun f hf => by cases hf⟩
  refine pw_l (pc := 0) d93_0 rfl rfl rfl ?_
  refine pw_oi (pc := 1) (by omega) d93_1 (k93_3 b) (by decide) ?_
  refine pw_l (pc := 4) d93_4 rfl rfl rfl ?_
  refine pw_s (pc := 5) d93_5 rfl rfl ?_
  refine pw_na (pc := 8) (n := 412) (kc' := 1) (ks' := 64) (ty := .int) d93_8 (by decide) (by decide) (by decide) C0.1.lt ?_
  rw [C0.len]
  have C1 : CS k P h 1 [] (pm_mk h (.inl (.int, 412))) := C0.A (sh6_0 hk) (fun C z => by cases z)
  generalize (pm_mk h (.inl (.int, 412))) = h1 at C1 ⊢
  refine pw_pr (pc := 10) d93_10 (k93_11 b) (C1.1.o (by omega) hk) q93_6_0 ?_
  have C2 : CS k P h 1 [(0, k + 1 + 0)] (pm_setR h1 k 0 (some (k + 1 + 0))) := C1.R (by simp)
  generalize (pm_setR h1 k 0 (some (k + 1 + 0))) = h2 at C2 ⊢
  refine pw_l (pc := 13) d93_13 rfl rfl rfl ?_
  refine pw_s (pc := 14) d93_14 rfl rfl ?_
  refine pw_pi (pc := 15) d93_15 (k93_15 b) (C2.1.o (by omega) hk) q93_6_1 ?_
  have C3 : CS k P h 1 [(0, k + 1 + 0)] (pm_setI h2 k 1 (Int32.ofInt 0)) := C2.I (.inl (by decide))
  generalize (pm_setI h2 k 1 (Int32.ofInt 0)) = h3 at C3 ⊢
  refine pw_l (pc := 18) d93_18 rfl rfl rfl ?_
  refine pw_s (pc := 19) d93_19 rfl rfl ?_
  refine pw_pi (pc := 20) d93_20 (k93_19 b) (C3.1.o (by omega) hk) q93_6_2 ?_
  have C4 : CS k P h 1 [(0, k + 1 + 0)] (pm_setI h3 k 2 (Int32.ofInt 0)) := C3.I (.inl (by decide))
  generalize (pm_setI h3 k 2 (Int32.ofInt 0)) = h4 at C4 ⊢
  refine pw_l (pc := 23) d93_23 rfl rfl rfl ?_
  refine pw_s (pc := 24) d93_24 rfl rfl ?_
  refine pw_na (pc := 26) (n := 64) (kc' := 0) (ks' := 0) (ty := .long) d93_26 (by decide) (by decide) (by decide) C4.1.lt ?_
  rw [C4.len]
  have C5 : CS k P h 2 [(0, k + 1 + 0)] (pm_mk h4 (.inl (.long, 64))) := C4.A (sh6_1 hk) (fun C z => by cases z)
  generalize (pm_mk h4 (.inl (.long, 64))) = h5 at C5 ⊢
  refine pw_pr (pc := 28) d93_28 (k93_22 b) (C5.1.o (by omega) hk) q93_6_3 ?_
  have C6 : CS k P h 2 [(3, k + 1 + 1), (0, k + 1 + 0)] (pm_setR h5 k 3 (some (k + 1 + 1))) := C5.R (by simp)
  generalize (pm_setR h5 k 3 (some (k + 1 + 1))) = h6 at C6 ⊢
  refine pw_l (pc := 31) d93_31 rfl rfl rfl ?_
  refine pw_s (pc := 32) d93_32 rfl rfl ?_
  refine pw_pi (pc := 33) d93_33 (k93_26 b) (C6.1.o (by omega) hk) q93_6_4 ?_
  have C7 : CS k P h 2 [(3, k + 1 + 1), (0, k + 1 + 0)] (pm_setI h6 k 4 (Int32.ofInt 0)) := C6.I (.inl (by decide))
  generalize (pm_setI h6 k 4 (Int32.ofInt 0)) = h7 at C7 ⊢
  have E := C7.end (fun q hq e => by have z := kl6 q hq (by rw [e]; exact hk); rw [e] at z; simp only [List.mem_cons, List.not_mem_nil, or_false, Prod.mk.injEq] at z ⊢; omega)
  exact pw_rv (pc := 36) d93_36 r93 ⟨rfl, E.1, E.2⟩
theorem N_S (b : Bool) (L : Nat) (xs : Nat → Int32) (d : Nat) (hd : 1 ≤ d) {k : Nat} {P : Nat → Prop} {h : pm_H} (hk : mi_o k 7 = true) (W : NW (k + 1) (fun c => P c ∨ c = k) h) : PC b L xs d 109 [.ref k] h (fun v h' => v = none ∧ NW (k + 1 + 9) P h' ∧ LO k h h') := by
  refine pc_inM en109 (ls0 := [.ref k]) rfl ?_
  have C0 : CS k P h 0 [] h := ⟨W, LO.refl k h, fun f hf => by cases hf⟩
  refine pw_l (pc := 0) d109_0 rfl rfl rfl ?_
  refine pw_oi (pc := 1) (by omega) d109_1 (k109_3 b) (by decide) ?_
  refine pw_l (pc := 4) d109_4 rfl rfl rfl ?_
  refine pw_s (pc := 5) d109_5 rfl rfl ?_
  refine pw_pi (pc := 6) d109_6 (k109_9 b) (C0.1.o (by omega) hk) q109_7_0 ?_
  have C1 : CS k P h 0 [] (pm_setI h k 0 (Int32.ofInt 0)) := C0.I (.inl (by decide))
  generalize (pm_setI h k 0 (Int32.ofInt 0)) = h1 at C1 ⊢
  refine pw_l (pc := 9) d109_9 rfl rfl rfl ?_
  refine pw_s (pc := 10) d109_10 rfl rfl ?_
  refine pw_pi (pc := 11) d109_11 (k109_15 b) (C1.1.o (by omega) hk) q109_7_1 ?_
  have C2 : CS k P h 0 [] (pm_setI h1 k 1 (Int32.ofInt 0)) := C1.I (.inl (by decide))
  generalize (pm_setI h1 k 1 (Int32.ofInt 0)) = h2 at C2 ⊢
  refine pw_l (pc := 14) d109_14 rfl rfl rfl ?_
  refine pw_s (pc := 15) d109_15 rfl rfl ?_
  refine pw_pi (pc := 16) d109_16 (k109_18 b) (C2.1.o (by omega) hk) q109_7_2 ?_
  have C3 : CS k P h 0 [] (pm_setI h2 k 2 (Int32.ofInt 0)) := C2.I (.inl (by decide))
  generalize (pm_setI h2 k 2 (Int32.ofInt 0)) = h3 at C3 ⊢
  refine pw_l (pc := 19) d109_19 rfl rfl rfl ?_
  refine pw_s (pc := 20) d109_20 rfl rfl ?_
  refine pw_pi (pc := 21) d109_21 (k109_21 b) (C3.1.o (by omega) hk) q109_7_3 ?_
  have C4 : CS k P h 0 [] (pm_setI h3 k 3 (Int32.ofInt 0)) := C3.I (.inl (by decide))
  generalize (pm_setI h3 k 3 (Int32.ofInt 0)) = h4 at C4 ⊢
  refine pw_l (pc := 24) d109_24 rfl rfl rfl ?_
  refine pw_s (pc := 25) d109_25 rfl rfl ?_
  refine pw_na (pc := 27) (n := 8) (kc' := 8) (ks' := 186) (ty := .int) d109_27 (by decide) (by decide) (by decide) C4.1.lt ?_
  rw [C4.len]
  have C5 : CS k P h 1 [] (pm_mk h4 (.inl (.int, 8))) := C4.A (sh7_0 hk) (fun C z => by cases z)
  generalize (pm_mk h4 (.inl (.int, 8))) = h5 at C5 ⊢
  refine pw_pr (pc := 29) d109_29 (k109_24 b) (C5.1.o (by omega) hk) q109_7_4 ?_
  have C6 : CS k P h 1 [(4, k + 1 + 0)] (pm_setR h5 k 4 (some (k + 1 + 0))) := C5.R (by simp)
  generalize (pm_setR h5 k 4 (some (k + 1 + 0))) = h6 at C6 ⊢
  refine pw_l (pc := 32) d109_32 rfl rfl rfl ?_
  refine pw_s (pc := 33) d109_33 rfl rfl ?_
  refine pw_na (pc := 35) (n := 8) (kc' := 7) (ks' := 178) (ty := .int) d109_35 (by decide) (by decide) (by decide) C6.1.lt ?_
  rw [C6.len]
  have C7 : CS k P h 2 [(4, k + 1 + 0)] (pm_mk h6 (.inl (.int, 8))) := C6.A (sh7_1 hk) (fun C z => by cases z)
  generalize (pm_mk h6 (.inl (.int, 8))) = h7 at C7 ⊢
  refine pw_pr (pc := 37) d109_37 (k109_28 b) (C7.1.o (by omega) hk) q109_7_5 ?_
  have C8 : CS k P h 2 [(5, k + 1 + 1), (4, k + 1 + 0)] (pm_setR h7 k 5 (some (k + 1 + 1))) := C7.R (by simp)
  generalize (pm_setR h7 k 5 (some (k + 1 + 1))) = h8 at C8 ⊢
  refine pw_l (pc := 40) d109_40 rfl rfl rfl ?_
  refine pw_s (pc := 41) d109_41 rfl rfl ?_
  refine pw_na (pc := 43) (n := 8) (kc' := 6) (ks' := 170) (ty := .int) d109_43 (by decide) (by decide) (by decide) C8.1.lt ?_
  rw [C8.len]
  have C9 : CS k P h 3 [(5, k + 1 + 1), (4, k + 1 + 0)] (pm_mk h8 (.inl (.int, 8))) := C8.A (sh7_2 hk) (fun C z => by cases z)
  generalize (pm_mk h8 (.inl (.int, 8))) = h9 at C9 ⊢
  refine pw_pr (pc := 45) d109_45 (k109_31 b) (C9.1.o (by omega) hk) q109_7_6 ?_
  have C10 : CS k P h 3 [(6, k + 1 + 2), (5, k + 1 + 1), (4, k + 1 + 0)] (pm_setR h9 k 6 (some (k + 1 + 2))) := C9.R (by simp)
  generalize (pm_setR h9 k 6 (some (k + 1 + 2))) = h10 at C10 ⊢
  refine pw_l (pc := 48) d109_48 rfl rfl rfl ?_
  refine pw_s (pc := 49) d109_49 rfl rfl ?_
  refine pw_na (pc := 51) (n := 8) (kc' := 5) (ks' := 162) (ty := .int) d109_51 (by decide) (by decide) (by decide) C10.1.lt ?_
  rw [C10.len]
  have C11 : CS k P h 4 [(6, k + 1 + 2), (5, k + 1 + 1), (4, k + 1 + 0)] (pm_mk h10 (.inl (.int, 8))) := C10.A (sh7_3 hk) (fun C z => by cases z)
  generalize (pm_mk h10 (.inl (.int, 8))) = h11 at C11 ⊢
  refine pw_pr (pc := 53) d109_53 (k109_34 b) (C11.1.o (by omega) hk) q109_7_7 ?_
  have C12 : CS k P h 4 [(7, k + 1 + 3), (6, k + 1 + 2), (5, k + 1 + 1), (4, k + 1 + 0)] (pm_setR h11 k 7 (some (k + 1 + 3))) := C11.R (by simp)
  generalize (pm_setR h11 k 7 (some (k + 1 + 3))) = h12 at C12 ⊢
  refine pw_l (pc := 56) d109_56 rfl rfl rfl ?_
  refine pw_s (pc := 57) d109_57 rfl rfl ?_
  refine pw_na (pc := 59) (n := 32) (kc' := 4) (ks' := 130) (ty := .int) d109_59 (by decide) (by decide) (by decide) C12.1.lt ?_
  rw [C12.len]
  have C13 : CS k P h 5 [(7, k + 1 + 3), (6, k + 1 + 2), (5, k + 1 + 1), (4, k + 1 + 0)] (pm_mk h12 (.inl (.int, 32))) := C12.A (sh7_4 hk) (fun C z => by cases z)
  generalize (pm_mk h12 (.inl (.int, 32))) = h13 at C13 ⊢
  refine pw_pr (pc := 61) d109_61 (k109_37 b) (C13.1.o (by omega) hk) q109_7_8 ?_
  have C14 : CS k P h 5 [(8, k + 1 + 4), (7, k + 1 + 3), (6, k + 1 + 2), (5, k + 1 + 1), (4, k + 1 + 0)] (pm_setR h13 k 8 (some (k + 1 + 4))) := C13.R (by simp)
  generalize (pm_setR h13 k 8 (some (k + 1 + 4))) = h14 at C14 ⊢
  refine pw_l (pc := 64) d109_64 rfl rfl rfl ?_
  refine pw_s (pc := 65) d109_65 rfl rfl ?_
  refine pw_na (pc := 67) (n := 10) (kc' := 3) (ks' := 120) (ty := .int) d109_67 (by decide) (by decide) (by decide) C14.1.lt ?_
  rw [C14.len]
  have C15 : CS k P h 6 [(8, k + 1 + 4), (7, k + 1 + 3), (6, k + 1 + 2), (5, k + 1 + 1), (4, k + 1 + 0)] (pm_mk h14 (.inl (.int, 10))) := C14.A (sh7_5 hk) (fun C z => by cases z)
  generalize (pm_mk h14 (.inl (.int, 10))) = h15 at C15 ⊢
  refine pw_pr (pc := 69) d109_69 (k109_40 b) (C15.1.o (by omega) hk) q109_7_9 ?_
  have C16 : CS k P h 6 [(9, k + 1 + 5), (8, k + 1 + 4), (7, k + 1 + 3), (6, k + 1 + 2), (5, k + 1 + 1), (4, k + 1 + 0)] (pm_setR h15 k 9 (some (k + 1 + 5))) := C15.R (by simp)
  generalize (pm_setR h15 k 9 (some (k + 1 + 5))) = h16 at C16 ⊢
  refine pw_l (pc := 72) d109_72 rfl rfl rfl ?_
  refine pw_s (pc := 73) d109_73 rfl rfl ?_
  refine pw_na (pc := 75) (n := 10) (kc' := 2) (ks' := 110) (ty := .int) d109_75 (by decide) (by decide) (by decide) C16.1.lt ?_
  rw [C16.len]
  have C17 : CS k P h 7 [(9, k + 1 + 5), (8, k + 1 + 4), (7, k + 1 + 3), (6, k + 1 + 2), (5, k + 1 + 1), (4, k + 1 + 0)] (pm_mk h16 (.inl (.int, 10))) := C16.A (sh7_6 hk) (fun C z => by cases z)
  generalize (pm_mk h16 (.inl (.int, 10))) = h17 at C17 ⊢
  refine pw_pr (pc := 77) d109_77 (k109_43 b) (C17.1.o (by omega) hk) q109_7_10 ?_
  have C18 : CS k P h 7 [(10, k + 1 + 6), (9, k + 1 + 5), (8, k + 1 + 4), (7, k + 1 + 3), (6, k + 1 + 2), (5, k + 1 + 1), (4, k + 1 + 0)] (pm_setR h17 k 10 (some (k + 1 + 6))) := C17.R (by simp)
  generalize (pm_setR h17 k 10 (some (k + 1 + 6))) = h18 at C18 ⊢
  refine pw_l (pc := 80) d109_80 rfl rfl rfl ?_
  refine pw_s (pc := 81) d109_81 rfl rfl ?_
  refine pw_na (pc := 83) (n := 10) (kc' := 1) (ks' := 100) (ty := .int) d109_83 (by decide) (by decide) (by decide) C18.1.lt ?_
  rw [C18.len]
  have C19 : CS k P h 8 [(10, k + 1 + 6), (9, k + 1 + 5), (8, k + 1 + 4), (7, k + 1 + 3), (6, k + 1 + 2), (5, k + 1 + 1), (4, k + 1 + 0)] (pm_mk h18 (.inl (.int, 10))) := C18.A (sh7_7 hk) (fun C z => by cases z)
  generalize (pm_mk h18 (.inl (.int, 10))) = h19 at C19 ⊢
  refine pw_pr (pc := 85) d109_85 (k109_46 b) (C19.1.o (by omega) hk) q109_7_11 ?_
  have C20 : CS k P h 8 [(11, k + 1 + 7), (10, k + 1 + 6), (9, k + 1 + 5), (8, k + 1 + 4), (7, k + 1 + 3), (6, k + 1 + 2), (5, k + 1 + 1), (4, k + 1 + 0)] (pm_setR h19 k 11 (some (k + 1 + 7))) := C19.R (by simp)
  generalize (pm_setR h19 k 11 (some (k + 1 + 7))) = h20 at C20 ⊢
  refine pw_l (pc := 88) d109_88 rfl rfl rfl ?_
  refine pw_s (pc := 89) d109_89 rfl rfl ?_
  refine pw_na (pc := 91) (n := 100) (kc' := 0) (ks' := 0) (ty := .int) d109_91 (by decide) (by decide) (by decide) C20.1.lt ?_
  rw [C20.len]
  have C21 : CS k P h 9 [(11, k + 1 + 7), (10, k + 1 + 6), (9, k + 1 + 5), (8, k + 1 + 4), (7, k + 1 + 3), (6, k + 1 + 2), (5, k + 1 + 1), (4, k + 1 + 0)] (pm_mk h20 (.inl (.int, 100))) := C20.A (sh7_8 hk) (fun C z => by cases z)
  generalize (pm_mk h20 (.inl (.int, 100))) = h21 at C21 ⊢
  refine pw_pr (pc := 93) d109_93 (k109_49 b) (C21.1.o (by omega) hk) q109_7_12 ?_
  have C22 : CS k P h 9 [(12, k + 1 + 8), (11, k + 1 + 7), (10, k + 1 + 6), (9, k + 1 + 5), (8, k + 1 + 4), (7, k + 1 + 3), (6, k + 1 + 2), (5, k + 1 + 1), (4, k + 1 + 0)] (pm_setR h21 k 12 (some (k + 1 + 8))) := C21.R (by simp)
  generalize (pm_setR h21 k 12 (some (k + 1 + 8))) = h22 at C22 ⊢
  have E := C22.end (fun q hq e => by have z := kl7 q hq (by rw [e]; exact hk); rw [e] at z; simp only [List.mem_cons, List.not_mem_nil, or_false, Prod.mk.injEq] at z ⊢; omega)
  exact pw_rv (pc := 96) d109_96 r109 ⟨rfl, E.1, E.2⟩
theorem N_H (b : Bool) (L : Nat) (xs : Nat → Int32) (d : Nat) (hd : 1 ≤ d) {k : Nat} {P : Nat → Prop} {h : pm_H} (hk : mi_o k 3 = true) (W : NW (k + 1) (fun c => P c ∨ c = k) h) : PC b L xs d 74 [.ref k] h (fun v h' => v = none ∧ NW (k + 1 + 2) P h' ∧ LO k h h' ∧ h'.2.1 (k) 4 = ng 1) := by
  refine pc_inM en74 (ls0 := [.ref k]) rfl ?_
  have C0 : CS k P h 0 [] h := ⟨W, LO.refl k h, fun f hf => by cases hf⟩
  refine pw_l (pc := 0) d74_0 rfl rfl rfl ?_
  refine pw_oi (pc := 1) (by omega) d74_1 (k74_3 b) (by decide) ?_
  refine pw_l (pc := 4) d74_4 rfl rfl rfl ?_
  refine pw_s (pc := 5) d74_5 rfl rfl ?_
  refine pw_pi (pc := 6) d74_6 (k74_9 b) (C0.1.o (by omega) hk) q74_3_0 ?_
  have C1 : CS k P h 0 [] (pm_setI h k 0 (Int32.ofInt 0)) := C0.I (.inl (by decide))
  generalize (pm_setI h k 0 (Int32.ofInt 0)) = h1 at C1 ⊢
  refine pw_l (pc := 9) d74_9 rfl rfl rfl ?_
  refine pw_s (pc := 10) d74_10 rfl rfl ?_
  refine pw_pi (pc := 11) d74_11 (k74_15 b) (C1.1.o (by omega) hk) q74_3_1 ?_
  have C2 : CS k P h 0 [] (pm_setI h1 k 1 (Int32.ofInt 0)) := C1.I (.inl (by decide))
  generalize (pm_setI h1 k 1 (Int32.ofInt 0)) = h2 at C2 ⊢
  refine pw_l (pc := 14) d74_14 rfl rfl rfl ?_
  refine pw_s (pc := 15) d74_15 rfl rfl ?_
  refine pw_pi (pc := 16) d74_16 (k74_18 b) (C2.1.o (by omega) hk) q74_3_2 ?_
  have C3 : CS k P h 0 [] (pm_setI h2 k 2 (Int32.ofInt 0)) := C2.I (.inl (by decide))
  generalize (pm_setI h2 k 2 (Int32.ofInt 0)) = h3 at C3 ⊢
  refine pw_l (pc := 19) d74_19 rfl rfl rfl ?_
  refine pw_s (pc := 20) d74_20 rfl rfl ?_
  refine pw_pi (pc := 21) d74_21 (k74_21 b) (C3.1.o (by omega) hk) q74_3_3 ?_
  have C4 : CS k P h 0 [] (pm_setI h3 k 3 (Int32.ofInt 0)) := C3.I (.inl (by decide))
  generalize (pm_setI h3 k 3 (Int32.ofInt 0)) = h4 at C4 ⊢
  refine pw_l (pc := 24) d74_24 rfl rfl rfl ?_
  refine pw_s (pc := 25) d74_25 rfl rfl ?_
  refine pw_pi (pc := 26) d74_26 (k74_24 b) (C4.1.o (by omega) hk) q74_3_4 ?_
  have C5 : CS k P h 0 [] (pm_setI h4 k 4 (Int32.ofInt (-1))) := C4.I (.inr (.inl ⟨hk, rfl⟩))
  have X5 : (pm_setI h4 k 4 (Int32.ofInt (-1))).2.1 (k) 4 = ng 1 := (ri_s _).trans (by decide)
  generalize (pm_setI h4 k 4 (Int32.ofInt (-1))) = h5 at C5 X5 ⊢
  refine pw_l (pc := 29) d74_29 rfl rfl rfl ?_
  refine pw_s (pc := 30) d74_30 rfl rfl ?_
  refine pw_na (pc := 32) (n := 8) (kc' := 1) (ks' := 8) (ty := .int) d74_32 (by decide) (by decide) (by decide) C5.1.lt ?_
  rw [C5.len]
  have C6 : CS k P h 1 [] (pm_mk h5 (.inl (.int, 8))) := C5.A (sh3_0 hk) (fun C z => by cases z)
  have X6 : (pm_mk h5 (.inl (.int, 8))).2.1 (k) 4 = ng 1 := (im_c _ (by have := C5.len; omega)).trans X5
  generalize (pm_mk h5 (.inl (.int, 8))) = h6 at C6 X6 ⊢
  refine pw_pr (pc := 34) d74_34 (k74_27 b) (C6.1.o (by omega) hk) q74_3_5 ?_
  have C7 : CS k P h 1 [(5, k + 1 + 0)] (pm_setR h6 k 5 (some (k + 1 + 0))) := C6.R (by simp)
  have X7 : (pm_setR h6 k 5 (some (k + 1 + 0))).2.1 (k) 4 = ng 1 := X6
  generalize (pm_setR h6 k 5 (some (k + 1 + 0))) = h7 at C7 X7 ⊢
  refine pw_l (pc := 37) d74_37 rfl rfl rfl ?_
  refine pw_s (pc := 38) d74_38 rfl rfl ?_
  refine pw_na (pc := 40) (n := 8) (kc' := 0) (ks' := 0) (ty := .int) d74_40 (by decide) (by decide) (by decide) C7.1.lt ?_
  rw [C7.len]
  have C8 : CS k P h 2 [(5, k + 1 + 0)] (pm_mk h7 (.inl (.int, 8))) := C7.A (sh3_1 hk) (fun C z => by cases z)
  have X8 : (pm_mk h7 (.inl (.int, 8))).2.1 (k) 4 = ng 1 := (im_c _ (by have := C7.len; omega)).trans X7
  generalize (pm_mk h7 (.inl (.int, 8))) = h8 at C8 X8 ⊢
  refine pw_pr (pc := 42) d74_42 (k74_31 b) (C8.1.o (by omega) hk) q74_3_6 ?_
  have C9 : CS k P h 2 [(6, k + 1 + 1), (5, k + 1 + 0)] (pm_setR h8 k 6 (some (k + 1 + 1))) := C8.R (by simp)
  have X9 : (pm_setR h8 k 6 (some (k + 1 + 1))).2.1 (k) 4 = ng 1 := X8
  generalize (pm_setR h8 k 6 (some (k + 1 + 1))) = h9 at C9 X9 ⊢
  have E := C9.end (fun q hq e => by have z := kl3 q hq (by rw [e]; exact hk); rw [e] at z; simp only [List.mem_cons, List.not_mem_nil, or_false, Prod.mk.injEq] at z ⊢; omega)
  exact pw_rv (pc := 45) d74_45 r74 ⟨rfl, E.1, E.2, X9⟩
theorem N_R (b : Bool) (L : Nat) (xs : Nat → Int32) (d : Nat) (hd : 1 ≤ d) {k : Nat} {P : Nat → Prop} {h : pm_H} (hk : mi_o k 5 = true) (W : NW (k + 1) (fun c => P c ∨ c = k) h) : PC b L xs d 86 [.ref k] h (fun v h' => v = none ∧ NW (k + 1 + 3) P h' ∧ LO k h h') := by
  refine pc_inM en86 (ls0 := [.ref k]) rfl ?_
  have C0 : CS k P h 0 [] h := ⟨W, LO.refl k h, fun f hf => by cases hf⟩
  refine pw_l (pc := 0) d86_0 rfl rfl rfl ?_
  refine pw_oi (pc := 1) (by omega) d86_1 (k86_3 b) (by decide) ?_
  refine pw_l (pc := 4) d86_4 rfl rfl rfl ?_
  refine pw_s (pc := 5) d86_5 rfl rfl ?_
  refine pw_pn (pc := 6) d86_6 (k86_9 b) (C0.1.o (by omega) hk) q86_5_0 ?_
  have C1 : CS k P h 0 [] (pm_setR h k 0 none) := C0.Z (by intro f hf; cases hf)
  generalize (pm_setR h k 0 none) = h1 at C1 ⊢
  refine pw_l (pc := 9) d86_9 rfl rfl rfl ?_
  refine pw_s (pc := 10) d86_10 rfl rfl ?_
  refine pw_na (pc := 12) (n := 30) (kc' := 2) (ks' := 12) (ty := .int) d86_12 (by decide) (by decide) (by decide) C1.1.lt ?_
  rw [C1.len]
  have C2 : CS k P h 1 [] (pm_mk h1 (.inl (.int, 30))) := C1.A (sh5_0 hk) (fun C z => by cases z)
  generalize (pm_mk h1 (.inl (.int, 30))) = h2 at C2 ⊢
  refine pw_pr (pc := 14) d86_14 (k86_15 b) (C2.1.o (by omega) hk) q86_5_1 ?_
  have C3 : CS k P h 1 [(1, k + 1 + 0)] (pm_setR h2 k 1 (some (k + 1 + 0))) := C2.R (by simp)
  generalize (pm_setR h2 k 1 (some (k + 1 + 0))) = h3 at C3 ⊢
  refine pw_l (pc := 17) d86_17 rfl rfl rfl ?_
  refine pw_s (pc := 18) d86_18 rfl rfl ?_
  refine pw_na (pc := 20) (n := 6) (kc' := 1) (ks' := 6) (ty := .int) d86_20 (by decide) (by decide) (by decide) C3.1.lt ?_
  rw [C3.len]
  have C4 : CS k P h 2 [(1, k + 1 + 0)] (pm_mk h3 (.inl (.int, 6))) := C3.A (sh5_1 hk) (fun C z => by cases z)
  generalize (pm_mk h3 (.inl (.int, 6))) = h4 at C4 ⊢
  refine pw_pr (pc := 22) d86_22 (k86_19 b) (C4.1.o (by omega) hk) q86_5_2 ?_
  have C5 : CS k P h 2 [(2, k + 1 + 1), (1, k + 1 + 0)] (pm_setR h4 k 2 (some (k + 1 + 1))) := C4.R (by simp)
  generalize (pm_setR h4 k 2 (some (k + 1 + 1))) = h5 at C5 ⊢
  refine pw_l (pc := 25) d86_25 rfl rfl rfl ?_
  refine pw_s (pc := 26) d86_26 rfl rfl ?_
  refine pw_na (pc := 28) (n := 6) (kc' := 0) (ks' := 0) (ty := .int) d86_28 (by decide) (by decide) (by decide) C5.1.lt ?_
  rw [C5.len]
  have C6 : CS k P h 3 [(2, k + 1 + 1), (1, k + 1 + 0)] (pm_mk h5 (.inl (.int, 6))) := C5.A (sh5_2 hk) (fun C z => by cases z)
  generalize (pm_mk h5 (.inl (.int, 6))) = h6 at C6 ⊢
  refine pw_pr (pc := 30) d86_30 (k86_22 b) (C6.1.o (by omega) hk) q86_5_3 ?_
  have C7 : CS k P h 3 [(3, k + 1 + 2), (2, k + 1 + 1), (1, k + 1 + 0)] (pm_setR h6 k 3 (some (k + 1 + 2))) := C6.R (by simp)
  generalize (pm_setR h6 k 3 (some (k + 1 + 2))) = h7 at C7 ⊢
  refine pw_l (pc := 33) d86_33 rfl rfl rfl ?_
  refine pw_s (pc := 34) d86_34 rfl rfl ?_
  refine pw_pi (pc := 35) d86_35 (k86_25 b) (C7.1.o (by omega) hk) q86_5_4 ?_
  have C8 : CS k P h 3 [(3, k + 1 + 2), (2, k + 1 + 1), (1, k + 1 + 0)] (pm_setI h7 k 4 (Int32.ofInt 0)) := C7.I (.inl (by decide))
  generalize (pm_setI h7 k 4 (Int32.ofInt 0)) = h8 at C8 ⊢
  refine pw_l (pc := 38) d86_38 rfl rfl rfl ?_
  refine pw_s (pc := 39) d86_39 rfl rfl ?_
  refine pw_pz (pc := 40) d86_40 (k86_29 b) (C8.1.o (by omega) hk) q86_5_5 (.inl rfl) ?_
  have C9 : CS k P h 3 [(3, k + 1 + 2), (2, k + 1 + 1), (1, k + 1 + 0)] (pm_setI h8 k 5 (Int32.ofInt 0)) := C8.I (.inl (by decide))
  generalize (pm_setI h8 k 5 (Int32.ofInt 0)) = h9 at C9 ⊢
  refine pw_l (pc := 43) d86_43 rfl rfl rfl ?_
  refine pw_s (pc := 44) d86_44 rfl rfl ?_
  refine pw_pi (pc := 45) d86_45 (k86_33 b) (C9.1.o (by omega) hk) q86_5_6 ?_
  have C10 : CS k P h 3 [(3, k + 1 + 2), (2, k + 1 + 1), (1, k + 1 + 0)] (pm_setI h9 k 6 (Int32.ofInt 0)) := C9.I (.inl (by decide))
  generalize (pm_setI h9 k 6 (Int32.ofInt 0)) = h10 at C10 ⊢
  have E := C10.end (fun q hq e => by have z := kl5 q hq (by rw [e]; exact hk); rw [e] at z; simp only [List.mem_cons, List.not_mem_nil, or_false, Prod.mk.injEq] at z ⊢; omega)
  exact pw_rv (pc := 48) d86_48 r86 ⟨rfl, E.1, E.2⟩
theorem N_C (b : Bool) (L : Nat) (xs : Nat → Int32) (d : Nat) (hd : 2 ≤ d) {k : Nat} {P : Nat → Prop} {h : pm_H} (hk : mi_o k 2 = true) (W : NW (k + 1) (fun c => P c ∨ c = k) h) : PC b L xs d 67 [.ref k] h (fun v h' => v = none ∧ NW (k + 1 + 7) P h' ∧ LO k h h') := by
  refine pc_inM en67 (ls0 := [.ref k]) rfl ?_
  have C0 : CS k P h 0 [] h := ⟨W, LO.refl k h, fun f hf => by cases hf⟩
  refine pw_l (pc := 0) d67_0 rfl rfl rfl ?_
  refine pw_oi (pc := 1) (by omega) d67_1 (k67_3 b) (by decide) ?_
  refine pw_l (pc := 4) d67_4 rfl rfl rfl ?_
  refine pw_s (pc := 5) d67_5 rfl rfl ?_
  refine pw_pn (pc := 6) d67_6 (k67_9 b) (C0.1.o (by omega) hk) q67_2_0 ?_
  have C1 : CS k P h 0 [] (pm_setR h k 0 none) := C0.Z (by intro f hf; cases hf)
  generalize (pm_setR h k 0 none) = h1 at C1 ⊢
  refine pw_l (pc := 9) d67_9 rfl rfl rfl ?_
  refine pw_new (pc := 10) (kc' := 6) (ks' := 5871) d67_10 (k67_15 b) (by decide) (by decide +kernel) C1.1.lt ?_
  rw [C1.len]
  refine pw_s (pc := 13) d67_13 rfl rfl ?_
  refine pw_k (pc := 14) (kc' := 3) (ks' := 5829) (as := [.ref (k + 1 + 0)]) (rest := [.ref (k + 1 + 0), .ref (k)]) (by omega) d67_14 (k67_17 b) (by decide) mm86 rfl (by decide) (Nat.le_of_ble_eq_true rfl) (Nat.le_of_ble_eq_true rfl) rfl rfl (N_R b L xs (d - 1) (by omega) (P := fun c => P c ∨ c = k) (mo2_0 hk) (C1.1.mk (sh2_0 hk))) (fun v h2 hq => ?_)
  obtain ⟨rfl, w2, o2⟩ := hq
  have C2 : CS k P h 4 [] h2 := C1.O w2 o2
  simp only [Option.toList_none, List.nil_append]
  clear w2 o2
  refine pw_pr (pc := 17) d67_17 (k67_18 b) (C2.1.o (by omega) hk) q67_2_1 ?_
  have C3 : CS k P h 4 [(1, k + 1 + 0)] (pm_setR h2 k 1 (some (k + 1 + 0))) := C2.R (by simp)
  generalize (pm_setR h2 k 1 (some (k + 1 + 0))) = h3 at C3 ⊢
  refine pw_l (pc := 20) d67_20 rfl rfl rfl ?_
  refine pw_s (pc := 21) d67_21 rfl rfl ?_
  refine pw_na (pc := 24) (n := 3003) (kc' := 2) (ks' := 2826) (ty := .int) d67_24 (by decide) (by decide) (by decide) C3.1.lt ?_
  rw [C3.len]
  have C4 : CS k P h 5 [(1, k + 1 + 0)] (pm_mk h3 (.inl (.int, 3003))) := C3.A (sh2_4 hk) (fun C z => by cases z)
  generalize (pm_mk h3 (.inl (.int, 3003))) = h4 at C4 ⊢
  refine pw_pr (pc := 26) d67_26 (k67_22 b) (C4.1.o (by omega) hk) q67_2_2 ?_
  have C5 : CS k P h 5 [(2, k + 1 + 4), (1, k + 1 + 0)] (pm_setR h4 k 2 (some (k + 1 + 4))) := C4.R (by simp)
  generalize (pm_setR h4 k 2 (some (k + 1 + 4))) = h5 at C5 ⊢
  refine pw_l (pc := 29) d67_29 rfl rfl rfl ?_
  refine pw_s (pc := 30) d67_30 rfl rfl ?_
  refine pw_na (pc := 33) (n := 2816) (kc' := 1) (ks' := 10) (ty := .int) d67_33 (by decide) (by decide) (by decide) C5.1.lt ?_
  rw [C5.len]
  have C6 : CS k P h 6 [(2, k + 1 + 4), (1, k + 1 + 0)] (pm_mk h5 (.inl (.int, 2816))) := C5.A (sh2_5 hk) (fun C z => by cases z)
  generalize (pm_mk h5 (.inl (.int, 2816))) = h6 at C6 ⊢
  refine pw_pr (pc := 35) d67_35 (k67_26 b) (C6.1.o (by omega) hk) q67_2_3 ?_
  have C7 : CS k P h 6 [(3, k + 1 + 5), (2, k + 1 + 4), (1, k + 1 + 0)] (pm_setR h6 k 3 (some (k + 1 + 5))) := C6.R (by simp)
  generalize (pm_setR h6 k 3 (some (k + 1 + 5))) = h7 at C7 ⊢
  refine pw_l (pc := 38) d67_38 rfl rfl rfl ?_
  refine pw_s (pc := 39) d67_39 rfl rfl ?_
  refine pw_pi (pc := 40) d67_40 (k67_29 b) (C7.1.o (by omega) hk) q67_2_4 ?_
  have C8 : CS k P h 6 [(3, k + 1 + 5), (2, k + 1 + 4), (1, k + 1 + 0)] (pm_setI h7 k 4 (Int32.ofInt 0)) := C7.I (.inl (by decide))
  generalize (pm_setI h7 k 4 (Int32.ofInt 0)) = h8 at C8 ⊢
  refine pw_l (pc := 43) d67_43 rfl rfl rfl ?_
  refine pw_s (pc := 44) d67_44 rfl rfl ?_
  refine pw_na (pc := 46) (n := 10) (kc' := 0) (ks' := 0) (ty := .int) d67_46 (by decide) (by decide) (by decide) C8.1.lt ?_
  rw [C8.len]
  have C9 : CS k P h 7 [(3, k + 1 + 5), (2, k + 1 + 4), (1, k + 1 + 0)] (pm_mk h8 (.inl (.int, 10))) := C8.A (sh2_6 hk) (fun C z => by cases z)
  generalize (pm_mk h8 (.inl (.int, 10))) = h9 at C9 ⊢
  refine pw_pr (pc := 48) d67_48 (k67_33 b) (C9.1.o (by omega) hk) q67_2_5 ?_
  have C10 : CS k P h 7 [(5, k + 1 + 6), (3, k + 1 + 5), (2, k + 1 + 4), (1, k + 1 + 0)] (pm_setR h9 k 5 (some (k + 1 + 6))) := C9.R (by simp)
  generalize (pm_setR h9 k 5 (some (k + 1 + 6))) = h10 at C10 ⊢
  have E := C10.end (fun q hq e => by have z := kl2 q hq (by rw [e]; exact hk); rw [e] at z; simp only [List.mem_cons, List.not_mem_nil, or_false, Prod.mk.injEq] at z ⊢; omega)
  exact pw_rv (pc := 51) d67_51 r67 ⟨rfl, E.1, E.2⟩
theorem N_A (b : Bool) (L : Nat) (xs : Nat → Int32) (d : Nat) (hd : 3 ≤ d) {k : Nat} {P : Nat → Prop} {h : pm_H} (hk : mi_o k 1 = true) (W : NW (k + 1) (fun c => P c ∨ c = k) h) : PC b L xs d 42 [.ref k] h (fun v h' => v = none ∧ NW (k + 1 + 20) P h' ∧ LO k h h') := by
  refine pc_inM en42 (ls0 := [.ref k]) rfl ?_
  have C0 : CS k P h 0 [] h := ⟨W, LO.refl k h, fun f hf => by cases hf⟩
  refine pw_l (pc := 0) d42_0 rfl rfl rfl ?_
  refine pw_oi (pc := 1) (by omega) d42_1 (k42_3 b) (by decide) ?_
  refine pw_l (pc := 4) d42_4 rfl rfl rfl ?_
  refine pw_new (pc := 5) (kc' := 19) (ks' := 6008) d42_5 (k42_9 b) (by decide) (by decide +kernel) C0.1.lt ?_
  rw [C0.len]
  refine pw_s (pc := 8) d42_8 rfl rfl ?_
  refine pw_k (pc := 9) (kc' := 12) (ks' := 130) (as := [.ref (k + 1 + 0)]) (rest := [.ref (k + 1 + 0), .ref (k)]) (by omega) d42_9 (k42_11 b) (by decide) mm67 rfl (by decide) (Nat.le_of_ble_eq_true rfl) (Nat.le_of_ble_eq_true rfl) rfl rfl (N_C b L xs (d - 1) (by omega) (P := fun c => P c ∨ c = k) (mo1_0 hk) (C0.1.mk (sh1_0 hk))) (fun v h1 hq => ?_)
  obtain ⟨rfl, w1, o1⟩ := hq
  have C1 : CS k P h 8 [] h1 := C0.O w1 o1
  simp only [Option.toList_none, List.nil_append]
  clear w1 o1
  refine pw_pr (pc := 12) d42_12 (k42_12 b) (C1.1.o (by omega) hk) q42_1_0 ?_
  have C2 : CS k P h 8 [(0, k + 1 + 0)] (pm_setR h1 k 0 (some (k + 1 + 0))) := C1.R (by simp)
  generalize (pm_setR h1 k 0 (some (k + 1 + 0))) = h2 at C2 ⊢
  refine pw_l (pc := 15) d42_15 rfl rfl rfl ?_
  refine pw_new (pc := 16) (kc' := 11) (ks' := 123) d42_16 (k42_18 b) (by decide) (by decide +kernel) C2.1.lt ?_
  rw [C2.len]
  refine pw_s (pc := 19) d42_19 rfl rfl ?_
  refine pw_k (pc := 20) (kc' := 8) (ks' := 81) (as := [.ref (k + 1 + 8)]) (rest := [.ref (k + 1 + 8), .ref (k)]) (by omega) d42_20 (k42_20 b) (by decide) mm86 rfl (by decide) (Nat.le_of_ble_eq_true rfl) (Nat.le_of_ble_eq_true rfl) rfl rfl (N_R b L xs (d - 1) (by omega) (P := fun c => P c ∨ c = k) (mo1_8 hk) (C2.1.mk (sh1_8 hk))) (fun v h3 hq => ?_)
  obtain ⟨rfl, w3, o3⟩ := hq
  have C3 : CS k P h 12 [(0, k + 1 + 0)] h3 := C2.O w3 o3
  simp only [Option.toList_none, List.nil_append]
  clear w3 o3
  refine pw_pr (pc := 23) d42_23 (k42_21 b) (C3.1.o (by omega) hk) q42_1_1 ?_
  have C4 : CS k P h 12 [(1, k + 1 + 8), (0, k + 1 + 0)] (pm_setR h3 k 1 (some (k + 1 + 8))) := C3.R (by simp)
  generalize (pm_setR h3 k 1 (some (k + 1 + 8))) = h4 at C4 ⊢
  refine pw_l (pc := 26) d42_26 rfl rfl rfl ?_
  refine pw_s (pc := 27) d42_27 rfl rfl ?_
  refine pw_na (pc := 28) (n := 5) (kc' := 7) (ks' := 76) (ty := .int) d42_28 (by decide) (by decide) (by decide) C4.1.lt ?_
  rw [C4.len]
  have C5 : CS k P h 13 [(1, k + 1 + 8), (0, k + 1 + 0)] (pm_mk h4 (.inl (.int, 5))) := C4.A (sh1_12 hk) (fun C z => by cases z)
  generalize (pm_mk h4 (.inl (.int, 5))) = h5 at C5 ⊢
  refine pw_pr (pc := 30) d42_30 (k42_25 b) (C5.1.o (by omega) hk) q42_1_2 ?_
  have C6 : CS k P h 13 [(2, k + 1 + 12), (1, k + 1 + 8), (0, k + 1 + 0)] (pm_setR h5 k 2 (some (k + 1 + 12))) := C5.R (by simp)
  generalize (pm_setR h5 k 2 (some (k + 1 + 12))) = h6 at C6 ⊢
  refine pw_l (pc := 33) d42_33 rfl rfl rfl ?_
  refine pw_s (pc := 34) d42_34 rfl rfl ?_
  refine pw_pi (pc := 35) d42_35 (k42_29 b) (C6.1.o (by omega) hk) q42_1_3 ?_
  have C7 : CS k P h 13 [(2, k + 1 + 12), (1, k + 1 + 8), (0, k + 1 + 0)] (pm_setI h6 k 3 (Int32.ofInt 0)) := C6.I (.inl (by decide))
  generalize (pm_setI h6 k 3 (Int32.ofInt 0)) = h7 at C7 ⊢
  refine pw_l (pc := 38) d42_38 rfl rfl rfl ?_
  refine pw_s (pc := 39) d42_39 rfl rfl ?_
  refine pw_na (pc := 40) (n := 5) (kc' := 6) (ks' := 71) (ty := .int) d42_40 (by decide) (by decide) (by decide) C7.1.lt ?_
  rw [C7.len]
  have C8 : CS k P h 14 [(2, k + 1 + 12), (1, k + 1 + 8), (0, k + 1 + 0)] (pm_mk h7 (.inl (.int, 5))) := C7.A (sh1_13 hk) (fun C z => by cases z)
  generalize (pm_mk h7 (.inl (.int, 5))) = h8 at C8 ⊢
  refine pw_pr (pc := 42) d42_42 (k42_33 b) (C8.1.o (by omega) hk) q42_1_4 ?_
  have C9 : CS k P h 14 [(4, k + 1 + 13), (2, k + 1 + 12), (1, k + 1 + 8), (0, k + 1 + 0)] (pm_setR h8 k 4 (some (k + 1 + 13))) := C8.R (by simp)
  generalize (pm_setR h8 k 4 (some (k + 1 + 13))) = h9 at C9 ⊢
  refine pw_l (pc := 45) d42_45 rfl rfl rfl ?_
  refine pw_s (pc := 46) d42_46 rfl rfl ?_
  refine pw_pi (pc := 47) d42_47 (k42_36 b) (C9.1.o (by omega) hk) q42_1_5 ?_
  have C10 : CS k P h 14 [(4, k + 1 + 13), (2, k + 1 + 12), (1, k + 1 + 8), (0, k + 1 + 0)] (pm_setI h9 k 5 (Int32.ofInt 0)) := C9.I (.inl (by decide))
  generalize (pm_setI h9 k 5 (Int32.ofInt 0)) = h10 at C10 ⊢
  refine pw_l (pc := 50) d42_50 rfl rfl rfl ?_
  refine pw_s (pc := 51) d42_51 rfl rfl ?_
  refine pw_pi (pc := 53) d42_53 (k42_39 b) (C10.1.o (by omega) hk) q42_1_6 ?_
  have C11 : CS k P h 14 [(4, k + 1 + 13), (2, k + 1 + 12), (1, k + 1 + 8), (0, k + 1 + 0)] (pm_setI h10 k 6 (Int8.ofInt (-2)).toInt32) := C10.I (.inr (.inr (.inl (un1 hk))))
  generalize (pm_setI h10 k 6 (Int8.ofInt (-2)).toInt32) = h11 at C11 ⊢
  refine pw_l (pc := 56) d42_56 rfl rfl rfl ?_
  refine pw_s (pc := 57) d42_57 rfl rfl ?_
  refine pw_pi (pc := 59) d42_59 (k42_42 b) (C11.1.o (by omega) hk) q42_1_7 ?_
  have C12 : CS k P h 14 [(4, k + 1 + 13), (2, k + 1 + 12), (1, k + 1 + 8), (0, k + 1 + 0)] (pm_setI h11 k 7 (Int8.ofInt (-2)).toInt32) := C11.I (.inr (.inr (.inl (un1 hk))))
  generalize (pm_setI h11 k 7 (Int8.ofInt (-2)).toInt32) = h12 at C12 ⊢
  refine pw_l (pc := 62) d42_62 rfl rfl rfl ?_
  refine pw_s (pc := 63) d42_63 rfl rfl ?_
  refine pw_na (pc := 65) (n := 10) (kc' := 5) (ks' := 61) (ty := .int) d42_65 (by decide) (by decide) (by decide) C12.1.lt ?_
  rw [C12.len]
  have C13 : CS k P h 15 [(4, k + 1 + 13), (2, k + 1 + 12), (1, k + 1 + 8), (0, k + 1 + 0)] (pm_mk h12 (.inl (.int, 10))) := C12.A (sh1_14 hk) (fun C z => by cases z)
  generalize (pm_mk h12 (.inl (.int, 10))) = h13 at C13 ⊢
  refine pw_pr (pc := 67) d42_67 (k42_45 b) (C13.1.o (by omega) hk) q42_1_8 ?_
  have C14 : CS k P h 15 [(8, k + 1 + 14), (4, k + 1 + 13), (2, k + 1 + 12), (1, k + 1 + 8), (0, k + 1 + 0)] (pm_setR h13 k 8 (some (k + 1 + 14))) := C13.R (by simp)
  generalize (pm_setR h13 k 8 (some (k + 1 + 14))) = h14 at C14 ⊢
  refine pw_l (pc := 70) d42_70 rfl rfl rfl ?_
  refine pw_s (pc := 71) d42_71 rfl rfl ?_
  refine pw_pi (pc := 73) d42_73 (k42_48 b) (C14.1.o (by omega) hk) q42_1_9 ?_
  have C15 : CS k P h 15 [(8, k + 1 + 14), (4, k + 1 + 13), (2, k + 1 + 12), (1, k + 1 + 8), (0, k + 1 + 0)] (pm_setI h14 k 9 (Int8.ofInt (-2)).toInt32) := C14.I (.inr (.inr (.inl (un1 hk))))
  generalize (pm_setI h14 k 9 (Int8.ofInt (-2)).toInt32) = h15 at C15 ⊢
  refine pw_l (pc := 76) d42_76 rfl rfl rfl ?_
  refine pw_s (pc := 77) d42_77 rfl rfl ?_
  refine pw_pi (pc := 79) d42_79 (k42_51 b) (C15.1.o (by omega) hk) q42_1_10 ?_
  have C16 : CS k P h 15 [(8, k + 1 + 14), (4, k + 1 + 13), (2, k + 1 + 12), (1, k + 1 + 8), (0, k + 1 + 0)] (pm_setI h15 k 10 (Int8.ofInt (-2)).toInt32) := C15.I (.inr (.inr (.inl (un1 hk))))
  generalize (pm_setI h15 k 10 (Int8.ofInt (-2)).toInt32) = h16 at C16 ⊢
  refine pw_l (pc := 82) d42_82 rfl rfl rfl ?_
  refine pw_s (pc := 83) d42_83 rfl rfl ?_
  refine pw_na (pc := 85) (n := 30) (kc' := 4) (ks' := 31) (ty := .int) d42_85 (by decide) (by decide) (by decide) C16.1.lt ?_
  rw [C16.len]
  have C17 : CS k P h 16 [(8, k + 1 + 14), (4, k + 1 + 13), (2, k + 1 + 12), (1, k + 1 + 8), (0, k + 1 + 0)] (pm_mk h16 (.inl (.int, 30))) := C16.A (sh1_15 hk) (fun C z => by cases z)
  generalize (pm_mk h16 (.inl (.int, 30))) = h17 at C17 ⊢
  refine pw_pr (pc := 87) d42_87 (k42_54 b) (C17.1.o (by omega) hk) q42_1_11 ?_
  have C18 : CS k P h 16 [(11, k + 1 + 15), (8, k + 1 + 14), (4, k + 1 + 13), (2, k + 1 + 12), (1, k + 1 + 8), (0, k + 1 + 0)] (pm_setR h17 k 11 (some (k + 1 + 15))) := C17.R (by simp)
  generalize (pm_setR h17 k 11 (some (k + 1 + 15))) = h18 at C18 ⊢
  refine pw_l (pc := 90) d42_90 rfl rfl rfl ?_
  refine pw_s (pc := 91) d42_91 rfl rfl ?_
  refine pw_pi (pc := 92) d42_92 (k42_57 b) (C18.1.o (by omega) hk) q42_1_12 ?_
  have C19 : CS k P h 16 [(11, k + 1 + 15), (8, k + 1 + 14), (4, k + 1 + 13), (2, k + 1 + 12), (1, k + 1 + 8), (0, k + 1 + 0)] (pm_setI h18 k 12 (Int32.ofInt 0)) := C18.I (.inl (by decide))
  generalize (pm_setI h18 k 12 (Int32.ofInt 0)) = h19 at C19 ⊢
  refine pw_l (pc := 95) d42_95 rfl rfl rfl ?_
  refine pw_s (pc := 96) d42_96 rfl rfl ?_
  refine pw_pi (pc := 97) d42_97 (k42_60 b) (C19.1.o (by omega) hk) q42_1_13 ?_
  have C20 : CS k P h 16 [(11, k + 1 + 15), (8, k + 1 + 14), (4, k + 1 + 13), (2, k + 1 + 12), (1, k + 1 + 8), (0, k + 1 + 0)] (pm_setI h19 k 13 (Int32.ofInt 0)) := C19.I (.inl (by decide))
  generalize (pm_setI h19 k 13 (Int32.ofInt 0)) = h20 at C20 ⊢
  refine pw_l (pc := 100) d42_100 rfl rfl rfl ?_
  refine pw_s (pc := 101) d42_101 rfl rfl ?_
  refine pw_pi (pc := 102) d42_102 (k42_63 b) (C20.1.o (by omega) hk) q42_1_14 ?_
  have C21 : CS k P h 16 [(11, k + 1 + 15), (8, k + 1 + 14), (4, k + 1 + 13), (2, k + 1 + 12), (1, k + 1 + 8), (0, k + 1 + 0)] (pm_setI h20 k 14 (Int32.ofInt 0)) := C20.I (.inl (by decide))
  generalize (pm_setI h20 k 14 (Int32.ofInt 0)) = h21 at C21 ⊢
  refine pw_l (pc := 105) d42_105 rfl rfl rfl ?_
  refine pw_s (pc := 106) d42_106 rfl rfl ?_
  refine pw_na (pc := 108) (n := 8) (kc' := 3) (ks' := 23) (ty := .int) d42_108 (by decide) (by decide) (by decide) C21.1.lt ?_
  rw [C21.len]
  have C22 : CS k P h 17 [(11, k + 1 + 15), (8, k + 1 + 14), (4, k + 1 + 13), (2, k + 1 + 12), (1, k + 1 + 8), (0, k + 1 + 0)] (pm_mk h21 (.inl (.int, 8))) := C21.A (sh1_16 hk) (fun C z => by cases z)
  generalize (pm_mk h21 (.inl (.int, 8))) = h22 at C22 ⊢
  refine pw_pr (pc := 110) d42_110 (k42_66 b) (C22.1.o (by omega) hk) q42_1_15 ?_
  have C23 : CS k P h 17 [(15, k + 1 + 16), (11, k + 1 + 15), (8, k + 1 + 14), (4, k + 1 + 13), (2, k + 1 + 12), (1, k + 1 + 8), (0, k + 1 + 0)] (pm_setR h22 k 15 (some (k + 1 + 16))) := C22.R (by simp)
  generalize (pm_setR h22 k 15 (some (k + 1 + 16))) = h23 at C23 ⊢
  refine pw_l (pc := 113) d42_113 rfl rfl rfl ?_
  refine pw_s (pc := 114) d42_114 rfl rfl ?_
  refine pw_pi (pc := 115) d42_115 (k42_69 b) (C23.1.o (by omega) hk) q42_1_16 ?_
  have C24 : CS k P h 17 [(15, k + 1 + 16), (11, k + 1 + 15), (8, k + 1 + 14), (4, k + 1 + 13), (2, k + 1 + 12), (1, k + 1 + 8), (0, k + 1 + 0)] (pm_setI h23 k 16 (Int32.ofInt 0)) := C23.I (.inl (by decide))
  generalize (pm_setI h23 k 16 (Int32.ofInt 0)) = h24 at C24 ⊢
  refine pw_l (pc := 118) d42_118 rfl rfl rfl ?_
  refine pw_s (pc := 119) d42_119 rfl rfl ?_
  refine pw_pi (pc := 120) d42_120 (k42_72 b) (C24.1.o (by omega) hk) q42_1_17 ?_
  have C25 : CS k P h 17 [(15, k + 1 + 16), (11, k + 1 + 15), (8, k + 1 + 14), (4, k + 1 + 13), (2, k + 1 + 12), (1, k + 1 + 8), (0, k + 1 + 0)] (pm_setI h24 k 17 (Int32.ofInt 0)) := C24.I (.inl (by decide))
  generalize (pm_setI h24 k 17 (Int32.ofInt 0)) = h25 at C25 ⊢
  refine pw_l (pc := 123) d42_123 rfl rfl rfl ?_
  refine pw_s (pc := 124) d42_124 rfl rfl ?_
  refine pw_pi (pc := 125) d42_125 (k42_75 b) (C25.1.o (by omega) hk) q42_1_18 ?_
  have C26 : CS k P h 17 [(15, k + 1 + 16), (11, k + 1 + 15), (8, k + 1 + 14), (4, k + 1 + 13), (2, k + 1 + 12), (1, k + 1 + 8), (0, k + 1 + 0)] (pm_setI h25 k 18 (Int32.ofInt 0)) := C25.I (.inl (by decide))
  generalize (pm_setI h25 k 18 (Int32.ofInt 0)) = h26 at C26 ⊢
  refine pw_l (pc := 128) d42_128 rfl rfl rfl ?_
  refine pw_new (pc := 129) (kc' := 2) (ks' := 16) d42_129 (k42_78 b) (by decide) (by decide +kernel) C26.1.lt ?_
  rw [C26.len]
  refine pw_s (pc := 132) d42_132 rfl rfl ?_
  refine pw_k (pc := 133) (kc' := 0) (ks' := 0) (as := [.ref (k + 1 + 17)]) (rest := [.ref (k + 1 + 17), .ref (k)]) (by omega) d42_133 (k42_80 b) (by decide) mm74 rfl (by decide) (Nat.le_of_ble_eq_true rfl) (Nat.le_of_ble_eq_true rfl) rfl rfl (N_H b L xs (d - 1) (by omega) (P := fun c => P c ∨ c = k) (mo1_17 hk) (C26.1.mk (sh1_17 hk))) (fun v h27 hq => ?_)
  obtain ⟨rfl, w27, o27, x27⟩ := hq
  have C27 : CS k P h 20 [(15, k + 1 + 16), (11, k + 1 + 15), (8, k + 1 + 14), (4, k + 1 + 13), (2, k + 1 + 12), (1, k + 1 + 8), (0, k + 1 + 0)] h27 := C26.O w27 o27
  simp only [Option.toList_none, List.nil_append]
  clear w27 o27 x27
  refine pw_pr (pc := 136) d42_136 (k42_81 b) (C27.1.o (by omega) hk) q42_1_19 ?_
  have C28 : CS k P h 20 [(19, k + 1 + 17), (15, k + 1 + 16), (11, k + 1 + 15), (8, k + 1 + 14), (4, k + 1 + 13), (2, k + 1 + 12), (1, k + 1 + 8), (0, k + 1 + 0)] (pm_setR h27 k 19 (some (k + 1 + 17))) := C27.R (by simp)
  generalize (pm_setR h27 k 19 (some (k + 1 + 17))) = h28 at C28 ⊢
  have E := C28.end (fun q hq e => by have z := kl1 q hq (by rw [e]; exact hk); rw [e] at z; simp only [List.mem_cons, List.not_mem_nil, or_false, Prod.mk.injEq] at z ⊢; omega)
  exact pw_rv (pc := 139) d42_139 r42 ⟨rfl, E.1, E.2⟩
theorem N_W (b : Bool) (L : Nat) (xs : Nat → Int32) (d : Nat) (hd : 2 ≤ d) {k : Nat} {P : Nat → Prop} {h : pm_H} (s : Nat) (hk : mi_o k 9 = true) (W : NW (k + 1) (fun c => P c ∨ c = k) h) : PC b L xs d 143 [.ref k, .ref s] h (fun v h' => v = none ∧ NW (k + 1 + 4) P h' ∧ LO k h h' ∧ h'.2.1 (k + 1 + 0) 4 = ng 1 ∧ h'.2.2.2 k 0 = some s) := by
  refine pc_inM en143 (ls0 := [.ref k, .ref s]) rfl ?_
  have C0 : CS k P h 0 [] h := ⟨W, LO.refl k h, fun f hf => by cases hf⟩
  refine pw_l (pc := 0) d143_0 rfl rfl rfl ?_
  refine pw_oi (pc := 1) (by omega) d143_1 (k143_3 b) (by decide) ?_
  refine pw_l (pc := 4) d143_4 rfl rfl rfl ?_
  refine pw_new (pc := 5) (kc' := 3) (ks' := 26) d143_5 (k143_9 b) (by decide) (by decide +kernel) C0.1.lt ?_
  rw [C0.len]
  refine pw_s (pc := 8) d143_8 rfl rfl ?_
  refine pw_k (pc := 9) (kc' := 1) (ks' := 10) (as := [.ref (k + 1 + 0)]) (rest := [.ref (k + 1 + 0), .ref (k)]) (by omega) d143_9 (k143_11 b) (by decide) mm74 rfl (by decide) (Nat.le_of_ble_eq_true rfl) (Nat.le_of_ble_eq_true rfl) rfl rfl (N_H b L xs (d - 1) (by omega) (P := fun c => P c ∨ c = k) (mo9_0 hk) (C0.1.mk (sh9_0 hk))) (fun v h1 hq => ?_)
  obtain ⟨rfl, w1, o1, x1⟩ := hq
  have C1 : CS k P h 3 [] h1 := C0.O w1 o1
  simp only [Option.toList_none, List.nil_append]
  have X1 : h1.2.1 (k + 1 + 0) 4 = ng 1 := x1
  clear w1 o1 x1
  refine pw_pr (pc := 12) d143_12 (k143_12 b) (C1.1.o (by omega) hk) q143_9_1 ?_
  have C2 : CS k P h 3 [(1, k + 1 + 0)] (pm_setR h1 k 1 (some (k + 1 + 0))) := C1.R (by simp)
  have X2 : (pm_setR h1 k 1 (some (k + 1 + 0))).2.1 (k + 1 + 0) 4 = ng 1 := X1
  generalize (pm_setR h1 k 1 (some (k + 1 + 0))) = h2 at C2 X2 ⊢
  refine pw_l (pc := 15) d143_15 rfl rfl rfl ?_
  refine pw_s (pc := 16) d143_16 rfl rfl ?_
  refine pw_pi (pc := 17) d143_17 (k143_18 b) (C2.1.o (by omega) hk) q143_9_2 ?_
  have C3 : CS k P h 3 [(1, k + 1 + 0)] (pm_setI h2 k 2 (Int32.ofInt 0)) := C2.I (.inl (by decide))
  have X3 : (pm_setI h2 k 2 (Int32.ofInt 0)).2.1 (k + 1 + 0) 4 = ng 1 := (ri_c _ (by omega)).trans X2
  generalize (pm_setI h2 k 2 (Int32.ofInt 0)) = h3 at C3 X3 ⊢
  refine pw_l (pc := 20) d143_20 rfl rfl rfl ?_
  refine pw_s (pc := 21) d143_21 rfl rfl ?_
  refine pw_na (pc := 23) (n := 10) (kc' := 0) (ks' := 0) (ty := .int) d143_23 (by decide) (by decide) (by decide) C3.1.lt ?_
  rw [C3.len]
  have C4 : CS k P h 4 [(1, k + 1 + 0)] (pm_mk h3 (.inl (.int, 10))) := C3.A (sh9_3 hk) (fun C z => by cases z)
  have X4 : (pm_mk h3 (.inl (.int, 10))).2.1 (k + 1 + 0) 4 = ng 1 := (im_c _ (by have := C3.len; omega)).trans X3
  generalize (pm_mk h3 (.inl (.int, 10))) = h4 at C4 X4 ⊢
  refine pw_pr (pc := 25) d143_25 (k143_22 b) (C4.1.o (by omega) hk) q143_9_3 ?_
  have C5 : CS k P h 4 [(3, k + 1 + 3), (1, k + 1 + 0)] (pm_setR h4 k 3 (some (k + 1 + 3))) := C4.R (by simp)
  have X5 : (pm_setR h4 k 3 (some (k + 1 + 3))).2.1 (k + 1 + 0) 4 = ng 1 := X4
  generalize (pm_setR h4 k 3 (some (k + 1 + 3))) = h5 at C5 X5 ⊢
  refine pw_l (pc := 28) d143_28 rfl rfl rfl ?_
  refine pw_s (pc := 29) d143_29 rfl rfl ?_
  refine pw_pi (pc := 30) d143_30 (k143_26 b) (C5.1.o (by omega) hk) q143_9_4 ?_
  have C6 : CS k P h 4 [(3, k + 1 + 3), (1, k + 1 + 0)] (pm_setI h5 k 4 (Int32.ofInt 0)) := C5.I (.inl (by decide))
  have X6 : (pm_setI h5 k 4 (Int32.ofInt 0)).2.1 (k + 1 + 0) 4 = ng 1 := (ri_c _ (by omega)).trans X5
  generalize (pm_setI h5 k 4 (Int32.ofInt 0)) = h6 at C6 X6 ⊢
  refine pw_l (pc := 33) d143_33 rfl rfl rfl ?_
  refine pw_s (pc := 34) d143_34 rfl rfl ?_
  refine pw_pi (pc := 35) d143_35 (k143_29 b) (C6.1.o (by omega) hk) q143_9_5 ?_
  have C7 : CS k P h 4 [(3, k + 1 + 3), (1, k + 1 + 0)] (pm_setI h6 k 5 (Int32.ofInt 0)) := C6.I (.inl (by decide))
  have X7 : (pm_setI h6 k 5 (Int32.ofInt 0)).2.1 (k + 1 + 0) 4 = ng 1 := (ri_c _ (by omega)).trans X6
  generalize (pm_setI h6 k 5 (Int32.ofInt 0)) = h7 at C7 X7 ⊢
  refine pw_l (pc := 38) d143_38 rfl rfl rfl ?_
  refine pw_s (pc := 39) d143_39 rfl rfl ?_
  refine pw_pz (pc := 40) d143_40 (k143_32 b) (C7.1.o (by omega) hk) q143_9_6 (.inl rfl) ?_
  have C8 : CS k P h 4 [(3, k + 1 + 3), (1, k + 1 + 0)] (pm_setI h7 k 6 (Int32.ofInt 0)) := C7.I (.inl (by decide))
  have X8 : (pm_setI h7 k 6 (Int32.ofInt 0)).2.1 (k + 1 + 0) 4 = ng 1 := (ri_c _ (by omega)).trans X7
  generalize (pm_setI h7 k 6 (Int32.ofInt 0)) = h8 at C8 X8 ⊢
  refine pw_l (pc := 43) d143_43 rfl rfl rfl ?_
  refine pw_l (pc := 44) d143_44 rfl rfl rfl ?_
  refine pw_pr (pc := 45) d143_45 (k143_36 b) (C8.1.o (by omega) hk) q143_9_0 ?_
  have C9 : CS k P h 4 [(0, s), (3, k + 1 + 3), (1, k + 1 + 0)] (pm_setR h8 k 0 (some (s))) := C8.R (by simp)
  have X9 : (pm_setR h8 k 0 (some (s))).2.1 (k + 1 + 0) 4 = ng 1 := X8
  generalize (pm_setR h8 k 0 (some (s))) = h9 at C9 X9 ⊢
  have E := C9.end (fun q hq e => by have z := kl9 q hq (by rw [e]; exact hk); rw [e] at z; simp only [List.mem_cons, List.not_mem_nil, or_false, Prod.mk.injEq] at z ⊢; omega)
  exact pw_rv (pc := 48) d143_48 r143 ⟨rfl, E.1, E.2, X9, C9.2.2 (0, s) (by simp)⟩
