/-! Constructors with loops (written by wip/gen7.py). -/
theorem lp_P (b : Bool) (L : Nat) (xs : Nat → Int32) (d : Nat) (hd : 2 ≤ d) {P : Nat → Prop} {h0 : pm_H} {Q : Option Value → pm_H → Prop} {F : List (Nat × Nat)} {kE sE : Nat} (hF : (0, 7) ∈ F) (hp : P 7) (kk : ∀ h, CS 6 P h0 (1 + 3 * 20) F h → (∀ j, j < 20 → h.2.2.2 7 j = some (8 + 3 * j)) → PW b L xs d 82 kE sE 53 [.ref 6, .int (nI 20)] [] h Q) : ∀ (r i : Nat) (h : pm_H), r + i = 20 → CS 6 P h0 (1 + 3 * i) F h → (∀ j, j < i → h.2.2.2 7 j = some (8 + 3 * j)) → PW b L xs d 82 (kE + 3 * r) (sE + 23 * r) 25 [.ref 6, .int (nI i)] [] h Q
  | 0, i, h, hr, C, G => by
    have e : i = 20 := by omega
    subst e
    have W := C.1
    have hs : h.1[6]? = some (.inr 4) := W.o (by omega) (by decide +kernel)
    have ha : h.1[7]? = some (.inl (.object "ChoirShip$Hands", 20)) := W.at (by omega) as7
    have hy : h.2.2.2 6 0 = some 7 := C.2.2 (0, 7) hF
    refine pw_l (pc := 25) d82_25 rfl rfl rfl ?_
    refine pw_l (pc := 26) d82_26 rfl rfl rfl ?_
    refine pw_gr (pc := 27) d82_27 (k82_11 b) hs g82_4_0 hy ?_
    refine pw_an (pc := 30) d82_30 ha ?_
    refine pw_ige (pc := 31) (t := 53) d82_31 (by decide) (fun _ => kk h C G) (fun z => absurd (by show nI 20 ≤ nI 20; rw [nx_le (by omega) (by omega)]; omega) z)
  | r + 1, i, h, hr, C, G => by
    have W := C.1
    have hs : h.1[6]? = some (.inr 4) := W.o (by omega) (by decide +kernel)
    have ha : h.1[7]? = some (.inl (.object "ChoirShip$Hands", 20)) := W.at (by omega) as7
    have hy : h.2.2.2 6 0 = some 7 := C.2.2 (0, 7) hF
    refine pw_l (pc := 25) d82_25 rfl rfl rfl ?_
    refine pw_l (pc := 26) d82_26 rfl rfl rfl ?_
    refine pw_gr (pc := 27) d82_27 (k82_11 b) hs g82_4_0 hy ?_
    refine pw_an (pc := 30) d82_30 ha ?_
    refine pw_ige (pc := 31) (t := 53) d82_31 (by decide) (fun z => absurd (show nI 20 ≤ nI i from z) (by rw [nx_le (by omega) (by omega)]; omega)) (fun _ => ?_)
    refine pw_l (pc := 34) d82_34 rfl rfl rfl ?_
    refine pw_gr (pc := 35) d82_35 (k82_11 b) hs g82_4_0 hy ?_
    refine pw_l (pc := 38) d82_38 rfl rfl rfl ?_
    have ll : h.1.length = 8 + 3 * i := by have := C.len; omega
    refine pw_new (pc := 39) (kc' := kE + 3 * r + 2) (ks' := sE + 23 * r + 16) d82_39 (k82_9 b) (by decide) ⟨by omega, by rw [nf3]; omega, by decide⟩ W.lt ?_
    rw [ll]
    refine pw_s (pc := 42) d82_42 rfl rfl ?_
    have W1 := W.mk (sh := .inr 3) (by rw [show 6 + 1 + (1 + 3 * i) = 8 + 3 * i by omega]; exact ae8 i (by omega))
    rw [show 6 + 1 + (1 + 3 * i) = 8 + 3 * i by omega] at W1
    refine pw_k (pc := 43) (kc' := kE + 3 * r) (ks' := sE + 23 * r) (as := [.ref (8 + 3 * i)]) (rest := [.ref (8 + 3 * i), .int (nI i), .ref 7]) (by omega) d82_43 (k82_24 b) (by decide) mm74 rfl ⟨by omega, by omega⟩ (Nat.le_of_ble_eq_true rfl) (Nat.le_of_ble_eq_true rfl) rfl rfl (N_H b L xs (d - 1) (by omega) (P := fun c => P c ∨ c = 6) (ad8 i (by omega)) W1) (fun v h' hq => ?_)
    obtain ⟨rfl, w, o, _⟩ := hq
    have o1 := o
    rw [show 8 + 3 * i + 1 + 2 = 6 + 1 + (1 + 3 * i) + 1 + 2 by omega] at w
    rw [show 8 + 3 * i = 6 + 1 + (1 + 3 * i) by omega] at o
    have C1 := C.O w o
    have G1 : ∀ j, j < i → h'.2.2.2 7 j = some (8 + 3 * j) := fun j hj => by rw [(o1 7 (by omega)).2, rm_c _ (by omega)]; exact G j hj
    simp only [Option.toList_none, List.nil_append]
    refine pw_sr (pc := 46) (ci := 3) d82_46 (C1.1.at (by omega) as7) (C1.1.o (by omega) (ad8 i (by omega))) cn3 (by show ¬ (nI i < nI 0 ∨ 20 ≤ (nI i).toNatClampNeg); rw [nx_lt (by omega) (by omega), nx_cl (by omega)]; omega) ?_
    rw [nx_cl (by omega)]
    refine pw_t (pc := 47) d82_47 rfl rfl rfl rfl ?_
    refine pw_go (pc := 50) (t := 25) d82_50 (by decide) ?_
    have C2 := C1.S (a := 7) (j := i) (v := some (8 + 3 * i)) hp (by omega)
    rw [show 1 + 3 * i + 1 + 2 = 1 + 3 * (i + 1) by omega] at C2
    have G2 : ∀ j, j < i + 1 → (pm_setR h' 7 i (some (8 + 3 * i))).2.2.2 7 j = some (8 + 3 * j) := by
      intro j hj
      by_cases z : j = i
      · rw [z, rr_s]
      · rw [rr_j _ z]; exact G1 j (by omega)
    have st1 : pm_st1 [.ref 6, .int (nI i)] 1 (.int (nI i + Int32.ofInt 1)) = [.ref 6, .int (nI (i + 1))] := by rw [kc_i1, nx_add]; rfl
    rw [st1]
    exact lp_P b L xs d hd hF hp kk r (i + 1) _ (by omega) C2 G2
theorem lp_U (b : Bool) (L : Nat) (xs : Nat → Int32) (d : Nat) (hd : 2 ≤ d) {P : Nat → Prop} {h0 : pm_H} {Q : Option Value → pm_H → Prop} {F : List (Nat × Nat)} {kE sE : Nat} (hF : (1, 3) ∈ F) (hp : P 3) (kk : ∀ h, CS 0 P h0 (89 + 3 * 6) F h → (∀ j, j < 6 → h.2.2.2 3 j = some (90 + 3 * j)) → PW b L xs d 1 kE sE 105 [.ref 0, .int (nI 6)] [] h Q) : ∀ (r i : Nat) (h : pm_H), r + i = 6 → CS 0 P h0 (89 + 3 * i) F h → (∀ j, j < i → h.2.2.2 3 j = some (90 + 3 * j)) → PW b L xs d 1 (kE + 3 * r) (sE + 481 * r) 77 [.ref 0, .int (nI i)] [] h Q
  | 0, i, h, hr, C, G => by
    have e : i = 6 := by omega
    subst e
    have W := C.1
    have hs : h.1[0]? = some (.inr 0) := W.o (by omega) (by decide +kernel)
    have ha : h.1[3]? = some (.inl (.object "ChoirShip$Rule", 6)) := W.at (by omega) as3
    have hy : h.2.2.2 0 1 = some 3 := C.2.2 (1, 3) hF
    refine pw_l (pc := 77) d1_77 rfl rfl rfl ?_
    refine pw_l (pc := 78) d1_78 rfl rfl rfl ?_
    refine pw_gr (pc := 79) d1_79 (k1_18 b) hs g1_0_1 hy ?_
    refine pw_an (pc := 82) d1_82 ha ?_
    refine pw_ige (pc := 83) (t := 105) d1_83 (by decide) (fun _ => kk h C G) (fun z => absurd (by show nI 6 ≤ nI 6; rw [nx_le (by omega) (by omega)]; omega) z)
  | r + 1, i, h, hr, C, G => by
    have W := C.1
    have hs : h.1[0]? = some (.inr 0) := W.o (by omega) (by decide +kernel)
    have ha : h.1[3]? = some (.inl (.object "ChoirShip$Rule", 6)) := W.at (by omega) as3
    have hy : h.2.2.2 0 1 = some 3 := C.2.2 (1, 3) hF
    refine pw_l (pc := 77) d1_77 rfl rfl rfl ?_
    refine pw_l (pc := 78) d1_78 rfl rfl rfl ?_
    refine pw_gr (pc := 79) d1_79 (k1_18 b) hs g1_0_1 hy ?_
    refine pw_an (pc := 82) d1_82 ha ?_
    refine pw_ige (pc := 83) (t := 105) d1_83 (by decide) (fun z => absurd (show nI 6 ≤ nI i from z) (by rw [nx_le (by omega) (by omega)]; omega)) (fun _ => ?_)
    refine pw_l (pc := 86) d1_86 rfl rfl rfl ?_
    refine pw_gr (pc := 87) d1_87 (k1_18 b) hs g1_0_1 hy ?_
    refine pw_l (pc := 90) d1_90 rfl rfl rfl ?_
    have ll : h.1.length = 90 + 3 * i := by have := C.len; omega
    refine pw_new (pc := 91) (kc' := kE + 3 * r + 2) (ks' := sE + 481 * r + 476) d1_91 (k1_16 b) (by decide) ⟨by omega, by rw [nf6]; omega, by decide⟩ W.lt ?_
    rw [ll]
    refine pw_s (pc := 94) d1_94 rfl rfl ?_
    have W1 := W.mk (sh := .inr 6) (by rw [show 0 + 1 + (89 + 3 * i) = 90 + 3 * i by omega]; exact ae90 i (by omega))
    rw [show 0 + 1 + (89 + 3 * i) = 90 + 3 * i by omega] at W1
    refine pw_k (pc := 95) (kc' := kE + 3 * r) (ks' := sE + 481 * r) (as := [.ref (90 + 3 * i)]) (rest := [.ref (90 + 3 * i), .int (nI i), .ref 3]) (by omega) d1_95 (k1_56 b) (by decide) mm93 rfl ⟨by omega, by omega⟩ (Nat.le_of_ble_eq_true rfl) (Nat.le_of_ble_eq_true rfl) rfl rfl (N_U b L xs (d - 1) (by omega) (P := fun c => P c ∨ c = 0) (ad90 i (by omega)) W1) (fun v h' hq => ?_)
    obtain ⟨rfl, w, o⟩ := hq
    have o1 := o
    rw [show 90 + 3 * i + 1 + 2 = 0 + 1 + (89 + 3 * i) + 1 + 2 by omega] at w
    rw [show 90 + 3 * i = 0 + 1 + (89 + 3 * i) by omega] at o
    have C1 := C.O w o
    have G1 : ∀ j, j < i → h'.2.2.2 3 j = some (90 + 3 * j) := fun j hj => by rw [(o1 3 (by omega)).2, rm_c _ (by omega)]; exact G j hj
    simp only [Option.toList_none, List.nil_append]
    refine pw_sr (pc := 98) (ci := 6) d1_98 (C1.1.at (by omega) as3) (C1.1.o (by omega) (ad90 i (by omega))) cn6 (by show ¬ (nI i < nI 0 ∨ 6 ≤ (nI i).toNatClampNeg); rw [nx_lt (by omega) (by omega), nx_cl (by omega)]; omega) ?_
    rw [nx_cl (by omega)]
    refine pw_t (pc := 99) d1_99 rfl rfl rfl rfl ?_
    refine pw_go (pc := 102) (t := 77) d1_102 (by decide) ?_
    have C2 := C1.S (a := 3) (j := i) (v := some (90 + 3 * i)) hp (by omega)
    rw [show 89 + 3 * i + 1 + 2 = 89 + 3 * (i + 1) by omega] at C2
    have G2 : ∀ j, j < i + 1 → (pm_setR h' 3 i (some (90 + 3 * i))).2.2.2 3 j = some (90 + 3 * j) := by
      intro j hj
      by_cases z : j = i
      · rw [z, rr_s]
      · rw [rr_j _ z]; exact G1 j (by omega)
    have st1 : pm_st1 [.ref 0, .int (nI i)] 1 (.int (nI i + Int32.ofInt 1)) = [.ref 0, .int (nI (i + 1))] := by rw [kc_i1, nx_add]; rfl
    rw [st1]
    exact lp_U b L xs d hd hF hp kk r (i + 1) _ (by omega) C2 G2
theorem lp_S (b : Bool) (L : Nat) (xs : Nat → Int32) (d : Nat) (hd : 2 ≤ d) {P : Nat → Prop} {h0 : pm_H} {Q : Option Value → pm_H → Prop} {F : List (Nat × Nat)} {kE sE : Nat} (hF : (3, 4) ∈ F) (hp : P 4) (kk : ∀ h, CS 0 P h0 (107 + 10 * 6) F h → (∀ j, j < 6 → h.2.2.2 4 j = some (108 + 10 * j)) → PW b L xs d 1 kE sE 135 [.ref 0, .int (nI 6)] [] h Q) : ∀ (r i : Nat) (h : pm_H), r + i = 6 → CS 0 P h0 (107 + 10 * i) F h → (∀ j, j < i → h.2.2.2 4 j = some (108 + 10 * j)) → PW b L xs d 1 (kE + 10 * r) (sE + 207 * r) 107 [.ref 0, .int (nI i)] [] h Q
  | 0, i, h, hr, C, G => by
    have e : i = 6 := by omega
    subst e
    have W := C.1
    have hs : h.1[0]? = some (.inr 0) := W.o (by omega) (by decide +kernel)
    have ha : h.1[4]? = some (.inl (.object "ChoirShip$Ship", 6)) := W.at (by omega) as4
    have hy : h.2.2.2 0 3 = some 4 := C.2.2 (3, 4) hF
    refine pw_l (pc := 107) d1_107 rfl rfl rfl ?_
    refine pw_l (pc := 108) d1_108 rfl rfl rfl ?_
    refine pw_gr (pc := 109) d1_109 (k1_28 b) hs g1_0_3 hy ?_
    refine pw_an (pc := 112) d1_112 ha ?_
    refine pw_ige (pc := 113) (t := 135) d1_113 (by decide) (fun _ => kk h C G) (fun z => absurd (by show nI 6 ≤ nI 6; rw [nx_le (by omega) (by omega)]; omega) z)
  | r + 1, i, h, hr, C, G => by
    have W := C.1
    have hs : h.1[0]? = some (.inr 0) := W.o (by omega) (by decide +kernel)
    have ha : h.1[4]? = some (.inl (.object "ChoirShip$Ship", 6)) := W.at (by omega) as4
    have hy : h.2.2.2 0 3 = some 4 := C.2.2 (3, 4) hF
    refine pw_l (pc := 107) d1_107 rfl rfl rfl ?_
    refine pw_l (pc := 108) d1_108 rfl rfl rfl ?_
    refine pw_gr (pc := 109) d1_109 (k1_28 b) hs g1_0_3 hy ?_
    refine pw_an (pc := 112) d1_112 ha ?_
    refine pw_ige (pc := 113) (t := 135) d1_113 (by decide) (fun z => absurd (show nI 6 ≤ nI i from z) (by rw [nx_le (by omega) (by omega)]; omega)) (fun _ => ?_)
    refine pw_l (pc := 116) d1_116 rfl rfl rfl ?_
    refine pw_gr (pc := 117) d1_117 (k1_28 b) hs g1_0_3 hy ?_
    refine pw_l (pc := 120) d1_120 rfl rfl rfl ?_
    have ll : h.1.length = 108 + 10 * i := by have := C.len; omega
    refine pw_new (pc := 121) (kc' := kE + 10 * r + 9) (ks' := sE + 207 * r + 194) d1_121 (k1_26 b) (by decide) ⟨by omega, by rw [nf7]; omega, by decide⟩ W.lt ?_
    rw [ll]
    refine pw_s (pc := 124) d1_124 rfl rfl ?_
    have W1 := W.mk (sh := .inr 7) (by rw [show 0 + 1 + (107 + 10 * i) = 108 + 10 * i by omega]; exact ae108 i (by omega))
    rw [show 0 + 1 + (107 + 10 * i) = 108 + 10 * i by omega] at W1
    refine pw_k (pc := 125) (kc' := kE + 10 * r) (ks' := sE + 207 * r) (as := [.ref (108 + 10 * i)]) (rest := [.ref (108 + 10 * i), .int (nI i), .ref 4]) (by omega) d1_125 (k1_57 b) (by decide) mm109 rfl ⟨by omega, by omega⟩ (Nat.le_of_ble_eq_true rfl) (Nat.le_of_ble_eq_true rfl) rfl rfl (N_S b L xs (d - 1) (by omega) (P := fun c => P c ∨ c = 0) (ad108 i (by omega)) W1) (fun v h' hq => ?_)
    obtain ⟨rfl, w, o⟩ := hq
    have o1 := o
    rw [show 108 + 10 * i + 1 + 9 = 0 + 1 + (107 + 10 * i) + 1 + 9 by omega] at w
    rw [show 108 + 10 * i = 0 + 1 + (107 + 10 * i) by omega] at o
    have C1 := C.O w o
    have G1 : ∀ j, j < i → h'.2.2.2 4 j = some (108 + 10 * j) := fun j hj => by rw [(o1 4 (by omega)).2, rm_c _ (by omega)]; exact G j hj
    simp only [Option.toList_none, List.nil_append]
    refine pw_sr (pc := 128) (ci := 7) d1_128 (C1.1.at (by omega) as4) (C1.1.o (by omega) (ad108 i (by omega))) cn7 (by show ¬ (nI i < nI 0 ∨ 6 ≤ (nI i).toNatClampNeg); rw [nx_lt (by omega) (by omega), nx_cl (by omega)]; omega) ?_
    rw [nx_cl (by omega)]
    refine pw_t (pc := 129) d1_129 rfl rfl rfl rfl ?_
    refine pw_go (pc := 132) (t := 107) d1_132 (by decide) ?_
    have C2 := C1.S (a := 4) (j := i) (v := some (108 + 10 * i)) hp (by omega)
    rw [show 107 + 10 * i + 1 + 9 = 107 + 10 * (i + 1) by omega] at C2
    have G2 : ∀ j, j < i + 1 → (pm_setR h' 4 i (some (108 + 10 * i))).2.2.2 4 j = some (108 + 10 * j) := by
      intro j hj
      by_cases z : j = i
      · rw [z, rr_s]
      · rw [rr_j _ z]; exact G1 j (by omega)
    have st1 : pm_st1 [.ref 0, .int (nI i)] 1 (.int (nI i + Int32.ofInt 1)) = [.ref 0, .int (nI (i + 1))] := by rw [kc_i1, nx_add]; rfl
    rw [st1]
    exact lp_S b L xs d hd hF hp kk r (i + 1) _ (by omega) C2 G2
theorem lp_W (b : Bool) (L : Nat) (xs : Nat → Int32) (d : Nat) (hd : 3 ≤ d) {P : Nat → Prop} {h0 : pm_H} {Q : Option Value → pm_H → Prop} {F : List (Nat × Nat)} {kE sE : Nat} (hG : (3, 4) ∈ F) (hF : (5, 5) ∈ F) (hp : P 5) (np : ¬ P 4) (kk : ∀ h, CS 0 P h0 (172 + 5 * 4) F h → (∀ j, j < 4 → h.2.2.2 5 j = some (173 + 5 * j)) → h.2.1 169 4 = ng 1 → h.2.2.2 168 0 = some 108 → PW b L xs d 1 kE sE 188 [.ref 0, .int (nI 4)] [] h Q) : ∀ (r i : Nat) (h : pm_H), r + i = 4 → CS 0 P h0 (172 + 5 * i) F h → (∀ j, j < i → h.2.2.2 5 j = some (173 + 5 * j)) → h.2.1 169 4 = ng 1 → h.2.2.2 168 0 = some 108 → PW b L xs d 1 (kE + 5 * r) (sE + 40 * r) 154 [.ref 0, .int (nI i)] [] h Q
  | 0, i, h, hr, C, G, x1, x2 => by
    have e : i = 4 := by omega
    subst e
    have W := C.1
    have hs : h.1[0]? = some (.inr 0) := W.o (by omega) (by decide +kernel)
    have ha : h.1[5]? = some (.inl (.object "ChoirShip$World", 4)) := W.at (by omega) as5
    have hy : h.2.2.2 0 5 = some 5 := C.2.2 (5, 5) hF
    refine pw_l (pc := 154) d1_154 rfl rfl rfl ?_
    refine pw_l (pc := 155) d1_155 rfl rfl rfl ?_
    refine pw_gr (pc := 156) d1_156 (k1_34 b) hs g1_0_5 hy ?_
    refine pw_an (pc := 159) d1_159 ha ?_
    refine pw_ige (pc := 160) (t := 188) d1_160 (by decide) (fun _ => kk h C G x1 x2) (fun z => absurd (by show nI 4 ≤ nI 4; rw [nx_le (by omega) (by omega)]; omega) z)
  | r + 1, i, h, hr, C, G, x1, x2 => by
    have W := C.1
    have hs : h.1[0]? = some (.inr 0) := W.o (by omega) (by decide +kernel)
    have ha : h.1[5]? = some (.inl (.object "ChoirShip$World", 4)) := W.at (by omega) as5
    have hy : h.2.2.2 0 5 = some 5 := C.2.2 (5, 5) hF
    refine pw_l (pc := 154) d1_154 rfl rfl rfl ?_
    refine pw_l (pc := 155) d1_155 rfl rfl rfl ?_
    refine pw_gr (pc := 156) d1_156 (k1_34 b) hs g1_0_5 hy ?_
    refine pw_an (pc := 159) d1_159 ha ?_
    refine pw_ige (pc := 160) (t := 188) d1_160 (by decide) (fun z => absurd (show nI 4 ≤ nI i from z) (by rw [nx_le (by omega) (by omega)]; omega)) (fun _ => ?_)
    refine pw_l (pc := 163) d1_163 rfl rfl rfl ?_
    refine pw_gr (pc := 164) d1_164 (k1_34 b) hs g1_0_5 hy ?_
    refine pw_l (pc := 167) d1_167 rfl rfl rfl ?_
    have ll : h.1.length = 173 + 5 * i := by have := C.len; omega
    refine pw_new (pc := 168) (kc' := kE + 5 * r + 4) (ks' := sE + 40 * r + 33) d1_168 (k1_32 b) (by decide) ⟨by omega, by rw [nf9]; omega, by decide⟩ W.lt ?_
    rw [ll]
    refine pw_s (pc := 171) d1_171 rfl rfl ?_
    have W1 := W.mk (sh := .inr 9) (by rw [show 0 + 1 + (172 + 5 * i) = 173 + 5 * i by omega]; exact ae173 i (by omega))
    rw [show 0 + 1 + (172 + 5 * i) = 173 + 5 * i by omega] at W1
    have ln1 : h.1.length ≠ 4 ∧ h.1.length ≠ 0 := by omega
    have h40 : h.2.2.2 4 0 = some 108 := W.2.2.2 ((4, 0), 108) (by decide +kernel) (by show 4 < _; omega) (by rintro (y | y); exact np y; exact absurd y (by decide))
    have h03 : h.2.2.2 0 3 = some 4 := C.2.2 (3, 4) hG
    refine pw_l (pc := 172) d1_172 rfl rfl rfl ?_
    refine pw_gr (pc := 173) d1_173 (k1_28 b) (W1.o (by omega) (by decide +kernel)) g1_0_3 (y := 4) (by rw [rm_c _ (by omega)]; exact h03) ?_
    refine pw_s (pc := 176) d1_176 rfl rfl ?_
    refine pw_ar (pc := 177) (y := 108) (C := "ChoirShip$Ship") (n := 6) d1_177 (W1.at (by omega) as4) (by unfold vp_in; decide) (by rw [rm_c _ (by omega)]; exact h40) ?_
    refine pw_k (pc := 178) (kc' := kE + 5 * r) (ks' := sE + 40 * r) (as := [.ref (173 + 5 * i), .ref 108]) (rest := [.ref (173 + 5 * i), .int (nI i), .ref 5]) (by omega) d1_178 (k1_58 b) (by decide) mm143 rfl ⟨by omega, by omega⟩ (Nat.le_of_ble_eq_true rfl) (Nat.le_of_ble_eq_true rfl) rfl rfl (N_W b L xs (d - 1) (by omega) (s := 108) (P := fun c => P c ∨ c = 0) (ad173 i (by omega)) W1) (fun v h' hq => ?_)
    obtain ⟨rfl, w, o, _, _⟩ := hq
    have o1 := o
    rw [show 173 + 5 * i + 1 + 4 = 0 + 1 + (172 + 5 * i) + 1 + 4 by omega] at w
    rw [show 173 + 5 * i = 0 + 1 + (172 + 5 * i) by omega] at o
    have C1 := C.O w o
    have G1 : ∀ j, j < i → h'.2.2.2 5 j = some (173 + 5 * j) := fun j hj => by rw [(o1 5 (by omega)).2, rm_c _ (by omega)]; exact G j hj
    have y1 : h'.2.1 169 4 = ng 1 := by rw [(o1 169 (by omega)).1, im_c _ (by omega)]; exact x1
    have y2 : h'.2.2.2 168 0 = some 108 := by rw [(o1 168 (by omega)).2, rm_c _ (by omega)]; exact x2
    simp only [Option.toList_none, List.nil_append]
    refine pw_sr (pc := 181) (ci := 9) d1_181 (C1.1.at (by omega) as5) (C1.1.o (by omega) (ad173 i (by omega))) cn9 (by show ¬ (nI i < nI 0 ∨ 4 ≤ (nI i).toNatClampNeg); rw [nx_lt (by omega) (by omega), nx_cl (by omega)]; omega) ?_
    rw [nx_cl (by omega)]
    refine pw_t (pc := 182) d1_182 rfl rfl rfl rfl ?_
    refine pw_go (pc := 185) (t := 154) d1_185 (by decide) ?_
    have C2 := C1.S (a := 5) (j := i) (v := some (173 + 5 * i)) hp (by omega)
    rw [show 172 + 5 * i + 1 + 4 = 172 + 5 * (i + 1) by omega] at C2
    have G2 : ∀ j, j < i + 1 → (pm_setR h' 5 i (some (173 + 5 * i))).2.2.2 5 j = some (173 + 5 * j) := by
      intro j hj
      by_cases z : j = i
      · rw [z, rr_s]
      · rw [rr_j _ z]; exact G1 j (by omega)
    have st1 : pm_st1 [.ref 0, .int (nI i)] 1 (.int (nI i + Int32.ofInt 1)) = [.ref 0, .int (nI (i + 1))] := by rw [kc_i1, nx_add]; rfl
    rw [st1]
    exact lp_W b L xs d hd hG hF hp np kk r (i + 1) _ (by omega) C2 G2 y1 (by rw [rr_c _ (by omega)]; exact y2)
theorem N_P (b : Bool) (L : Nat) (xs : Nat → Int32) (d : Nat) (hd : 2 ≤ d) {P : Nat → Prop} {h : pm_H} (hk : mi_o 6 4 = true) (W : NW (6 + 1) (fun c => P c ∨ c = 6) h) : PC b L xs d 82 [.ref 6] h (fun v h' => v = none ∧ NW (6 + 1 + 61) P h' ∧ LO 6 h h') := by
  refine pc_inM en82 (ls0 := [.ref 6, .retAddr 0]) rfl ?_
  have C0 : CS 6 P h 0 [] h := ⟨W, LO.refl 6 h, fun f hf => by cases hf⟩
  refine pw_l (pc := 0) d82_0 rfl rfl rfl ?_
  refine pw_oi (pc := 1) (by omega) d82_1 (k82_3 b) (by decide) ?_
  refine pw_l (pc := 4) d82_4 rfl rfl rfl ?_
  refine pw_s (pc := 5) d82_5 rfl rfl ?_
  refine pw_nr (pc := 7) (n := 20) (kc' := 60) (ks' := 460) (C := "ChoirShip$Hands") d82_7 (k82_9 b) (by decide +kernel) (by decide) (by decide) C0.1.lt ?_
  rw [C0.len]
  have C1 : CS 6 (fun c => (P c ∨ c = 7)) h 1 [] (pm_mk h (.inl (.object "ChoirShip$Hands", 20))) := C0.AO (sh4_0 hk) (fun c z => by rcases z with z | z; exact .inl z; exact .inr (by omega))
  generalize (pm_mk h (.inl (.object "ChoirShip$Hands", 20))) = h1 at C1 ⊢
  refine pw_pr (pc := 10) d82_10 (k82_11 b) (C1.1.o (by omega) hk) q82_4_0 ?_
  have C2 : CS 6 (fun c => (P c ∨ c = 7)) h 1 [(0, 6 + 1 + 0)] (pm_setR h1 6 0 (some (6 + 1 + 0))) := C1.R (by simp)
  generalize (pm_setR h1 6 0 (some (6 + 1 + 0))) = h2 at C2 ⊢
  refine pw_l (pc := 13) d82_13 rfl rfl rfl ?_
  refine pw_s (pc := 14) d82_14 rfl rfl ?_
  refine pw_pi (pc := 15) d82_15 (k82_17 b) (C2.1.o (by omega) hk) q82_4_1 ?_
  have C3 : CS 6 (fun c => (P c ∨ c = 7)) h 1 [(0, 6 + 1 + 0)] (pm_setI h2 6 1 (Int32.ofInt 0)) := C2.I (.inl (by decide))
  generalize (pm_setI h2 6 1 (Int32.ofInt 0)) = h3 at C3 ⊢
  refine pw_l (pc := 18) d82_18 rfl rfl rfl ?_
  refine pw_s (pc := 19) d82_19 rfl rfl ?_
  refine pw_pi (pc := 20) d82_20 (k82_21 b) (C3.1.o (by omega) hk) q82_4_2 ?_
  have C4 : CS 6 (fun c => (P c ∨ c = 7)) h 1 [(0, 6 + 1 + 0)] (pm_setI h3 6 2 (Int32.ofInt 0)) := C3.I (.inl (by decide))
  generalize (pm_setI h3 6 2 (Int32.ofInt 0)) = h4 at C4 ⊢
  refine pw_s (pc := 23) d82_23 rfl rfl ?_
  refine pw_t (pc := 24) d82_24 rfl rfl rfl rfl ?_
  refine lp_P b L xs d (by omega) (h0 := h) (P := fun c => P c ∨ c = 7) (F := [(0, 6 + 1 + 0)]) (kE := 0) (sE := 0) (by simp) (.inr rfl) (fun h' C' G' => ?_) 20 0 _ rfl C4 (fun j hj => absurd hj (Nat.not_lt_zero j))
  have C2 : CS 6 P h 61 [(0, 6 + 1 + 0)] h' := C'.sub (fun q hq z => by
    rcases z with z | z
    · exact .inl z
    · have e := kz7 q hq z
      rw [e.2, z]
      exact .inr (G' q.1.2 e.1))
  have E := C2.end (fun q hq e => kz6 q hq e)
  exact pw_rv (pc := 53) d82_53 r82 ⟨rfl, E.1, E.2⟩
theorem N_X (b : Bool) (L : Nat) (xs : Nat → Int32) (d : Nat) (hd : 4 ≤ d) {P : Nat → Prop} {h : pm_H} (hk : mi_o 0 0 = true) (np : ¬ P 4) (W : NW (0 + 1) (fun c => P c ∨ c = 0) h) : PC b L xs d 1 [.ref 0] h (fun v h' => v = none ∧ NW (0 + 1 + 192) P h' ∧ h'.2.1 169 4 = ng 1 ∧ h'.2.2.2 168 0 = some 108) := by
  refine pc_inM en1 (ls0 := [.ref 0, .retAddr 0]) rfl ?_
  have C0 : CS 0 P h 0 [] h := ⟨W, LO.refl 0 h, fun f hf => by cases hf⟩
  refine pw_l (pc := 0) d1_0 rfl rfl rfl ?_
  refine pw_oi (pc := 1) (by omega) d1_1 (k1_1 b) (by decide) ?_
  refine pw_l (pc := 4) d1_4 rfl rfl rfl ?_
  refine pw_new (pc := 5) (kc' := 191) (ks' := 11266) d1_5 (k1_7 b) (by decide) (by decide +kernel) C0.1.lt ?_
  rw [C0.len]
  refine pw_s (pc := 8) d1_8 rfl rfl ?_
  refine pw_k (pc := 9) (kc' := 190) (ks' := 10866) (as := [.ref (0 + 1 + 0)]) (rest := [.ref (0 + 1 + 0), .ref (0)]) (by omega) d1_9 (k1_9 b) (by decide) mm133 rfl (by decide) (Nat.le_of_ble_eq_true rfl) (Nat.le_of_ble_eq_true rfl) rfl rfl (N_T b L xs (d - 1) (by omega) (P := fun c => P c ∨ c = 0) (mo0_0 hk) (C0.1.mk (sh0_0 hk))) (fun v h1 hq => ?_)
  obtain ⟨rfl, w1, o1⟩ := hq
  have C1 : CS 0 P h 2 [] h1 := C0.O w1 o1
  simp only [Option.toList_none, List.nil_append]
  clear w1 o1
  refine pw_pr (pc := 12) d1_12 (k1_10 b) (C1.1.o (by omega) hk) q1_0_0 ?_
  have C2 : CS 0 P h 2 [(0, 0 + 1 + 0)] (pm_setR h1 0 0 (some (0 + 1 + 0))) := C1.R (by simp)
  generalize (pm_setR h1 0 0 (some (0 + 1 + 0))) = h2 at C2 ⊢
  refine pw_l (pc := 15) d1_15 rfl rfl rfl ?_
  refine pw_s (pc := 16) d1_16 rfl rfl ?_
  refine pw_nr (pc := 18) (n := 6) (kc' := 189) (ks' := 10860) (C := "ChoirShip$Rule") d1_18 (k1_16 b) (by decide +kernel) (by decide) (by decide) C2.1.lt ?_
  rw [C2.len]
  have C3 : CS 0 (fun c => (P c ∨ c = 3)) h 3 [(0, 0 + 1 + 0)] (pm_mk h2 (.inl (.object "ChoirShip$Rule", 6))) := C2.AO (sh0_2 hk) (fun c z => by rcases z with z | z; exact .inl z; exact .inr (by omega))
  generalize (pm_mk h2 (.inl (.object "ChoirShip$Rule", 6))) = h3 at C3 ⊢
  refine pw_pr (pc := 21) d1_21 (k1_18 b) (C3.1.o (by omega) hk) q1_0_1 ?_
  have C4 : CS 0 (fun c => (P c ∨ c = 3)) h 3 [(1, 0 + 1 + 2), (0, 0 + 1 + 0)] (pm_setR h3 0 1 (some (0 + 1 + 2))) := C3.R (by simp)
  generalize (pm_setR h3 0 1 (some (0 + 1 + 2))) = h4 at C4 ⊢
  refine pw_l (pc := 24) d1_24 rfl rfl rfl ?_
  refine pw_s (pc := 25) d1_25 rfl rfl ?_
  refine pw_pi (pc := 26) d1_26 (k1_22 b) (C4.1.o (by omega) hk) q1_0_2 ?_
  have C5 : CS 0 (fun c => (P c ∨ c = 3)) h 3 [(1, 0 + 1 + 2), (0, 0 + 1 + 0)] (pm_setI h4 0 2 (Int32.ofInt 0)) := C4.I (.inl (by decide))
  generalize (pm_setI h4 0 2 (Int32.ofInt 0)) = h5 at C5 ⊢
  refine pw_l (pc := 29) d1_29 rfl rfl rfl ?_
  refine pw_s (pc := 30) d1_30 rfl rfl ?_
  refine pw_nr (pc := 32) (n := 6) (kc' := 188) (ks' := 10854) (C := "ChoirShip$Ship") d1_32 (k1_26 b) (by decide +kernel) (by decide) (by decide) C5.1.lt ?_
  rw [C5.len]
  have C6 : CS 0 (fun c => ((P c ∨ c = 3) ∨ c = 4)) h 4 [(1, 0 + 1 + 2), (0, 0 + 1 + 0)] (pm_mk h5 (.inl (.object "ChoirShip$Ship", 6))) := C5.AO (sh0_3 hk) (fun c z => by rcases z with z | z; exact .inl z; exact .inr (by omega))
  generalize (pm_mk h5 (.inl (.object "ChoirShip$Ship", 6))) = h6 at C6 ⊢
  refine pw_pr (pc := 35) d1_35 (k1_28 b) (C6.1.o (by omega) hk) q1_0_3 ?_
  have C7 : CS 0 (fun c => ((P c ∨ c = 3) ∨ c = 4)) h 4 [(3, 0 + 1 + 3), (1, 0 + 1 + 2), (0, 0 + 1 + 0)] (pm_setR h6 0 3 (some (0 + 1 + 3))) := C6.R (by simp)
  generalize (pm_setR h6 0 3 (some (0 + 1 + 3))) = h7 at C7 ⊢
  refine pw_l (pc := 38) d1_38 rfl rfl rfl ?_
  refine pw_s (pc := 39) d1_39 rfl rfl ?_
  refine pw_nr (pc := 40) (n := 4) (kc' := 187) (ks' := 10850) (C := "ChoirShip$World") d1_40 (k1_32 b) (by decide +kernel) (by decide) (by decide) C7.1.lt ?_
  rw [C7.len]
  have C8 : CS 0 (fun c => (((P c ∨ c = 3) ∨ c = 4) ∨ c = 5)) h 5 [(3, 0 + 1 + 3), (1, 0 + 1 + 2), (0, 0 + 1 + 0)] (pm_mk h7 (.inl (.object "ChoirShip$World", 4))) := C7.AO (sh0_4 hk) (fun c z => by rcases z with z | z; exact .inl z; exact .inr (by omega))
  generalize (pm_mk h7 (.inl (.object "ChoirShip$World", 4))) = h8 at C8 ⊢
  refine pw_pr (pc := 43) d1_43 (k1_34 b) (C8.1.o (by omega) hk) q1_0_5 ?_
  have C9 : CS 0 (fun c => (((P c ∨ c = 3) ∨ c = 4) ∨ c = 5)) h 5 [(5, 0 + 1 + 4), (3, 0 + 1 + 3), (1, 0 + 1 + 2), (0, 0 + 1 + 0)] (pm_setR h8 0 5 (some (0 + 1 + 4))) := C8.R (by simp)
  generalize (pm_setR h8 0 5 (some (0 + 1 + 4))) = h9 at C9 ⊢
  refine pw_l (pc := 46) d1_46 rfl rfl rfl ?_
  refine pw_new (pc := 47) (kc' := 186) (ks' := 10847) d1_47 (k1_38 b) (by decide) (by decide +kernel) C9.1.lt ?_
  rw [C9.len]
  refine pw_s (pc := 50) d1_50 rfl rfl ?_
  refine pw_k (pc := 51) (kc' := 125) (ks' := 10367) (as := [.ref (0 + 1 + 5)]) (rest := [.ref (0 + 1 + 5), .ref (0)]) (by omega) d1_51 (k1_40 b) (by decide) mm82 rfl (by decide) (Nat.le_of_ble_eq_true rfl) (Nat.le_of_ble_eq_true rfl) rfl rfl (N_P b L xs (d - 1) (by omega) (P := fun c => (fun c => (((P c ∨ c = 3) ∨ c = 4) ∨ c = 5)) c ∨ c = 0) (mo0_5 hk) (C9.1.mk (sh0_5 hk))) (fun v h10 hq => ?_)
  obtain ⟨rfl, w10, o10⟩ := hq
  have C10 : CS 0 (fun c => (((P c ∨ c = 3) ∨ c = 4) ∨ c = 5)) h 67 [(5, 0 + 1 + 4), (3, 0 + 1 + 3), (1, 0 + 1 + 2), (0, 0 + 1 + 0)] h10 := C9.O w10 o10
  simp only [Option.toList_none, List.nil_append]
  clear w10 o10
  refine pw_pr (pc := 54) d1_54 (k1_41 b) (C10.1.o (by omega) hk) q1_0_6 ?_
  have C11 : CS 0 (fun c => (((P c ∨ c = 3) ∨ c = 4) ∨ c = 5)) h 67 [(6, 0 + 1 + 5), (5, 0 + 1 + 4), (3, 0 + 1 + 3), (1, 0 + 1 + 2), (0, 0 + 1 + 0)] (pm_setR h10 0 6 (some (0 + 1 + 5))) := C10.R (by simp)
  generalize (pm_setR h10 0 6 (some (0 + 1 + 5))) = h11 at C11 ⊢
  refine pw_l (pc := 57) d1_57 rfl rfl rfl ?_
  refine pw_new (pc := 58) (kc' := 124) (ks' := 10347) d1_58 (k1_45 b) (by decide) (by decide +kernel) C11.1.lt ?_
  rw [C11.len]
  refine pw_s (pc := 61) d1_61 rfl rfl ?_
  refine pw_k (pc := 62) (kc' := 104) (ks' := 4333) (as := [.ref (0 + 1 + 67)]) (rest := [.ref (0 + 1 + 67), .ref (0)]) (by omega) d1_62 (k1_47 b) (by decide) mm42 rfl (by decide) (Nat.le_of_ble_eq_true rfl) (Nat.le_of_ble_eq_true rfl) rfl rfl (N_A b L xs (d - 1) (by omega) (P := fun c => (fun c => (((P c ∨ c = 3) ∨ c = 4) ∨ c = 5)) c ∨ c = 0) (mo0_67 hk) (C11.1.mk (sh0_67 hk))) (fun v h12 hq => ?_)
  obtain ⟨rfl, w12, o12⟩ := hq
  have C12 : CS 0 (fun c => (((P c ∨ c = 3) ∨ c = 4) ∨ c = 5)) h 88 [(6, 0 + 1 + 5), (5, 0 + 1 + 4), (3, 0 + 1 + 3), (1, 0 + 1 + 2), (0, 0 + 1 + 0)] h12 := C11.O w12 o12
  simp only [Option.toList_none, List.nil_append]
  clear w12 o12
  refine pw_pr (pc := 65) d1_65 (k1_48 b) (C12.1.o (by omega) hk) q1_0_7 ?_
  have C13 : CS 0 (fun c => (((P c ∨ c = 3) ∨ c = 4) ∨ c = 5)) h 88 [(7, 0 + 1 + 67), (6, 0 + 1 + 5), (5, 0 + 1 + 4), (3, 0 + 1 + 3), (1, 0 + 1 + 2), (0, 0 + 1 + 0)] (pm_setR h12 0 7 (some (0 + 1 + 67))) := C12.R (by simp)
  generalize (pm_setR h12 0 7 (some (0 + 1 + 67))) = h13 at C13 ⊢
  refine pw_l (pc := 68) d1_68 rfl rfl rfl ?_
  refine pw_s (pc := 69) d1_69 rfl rfl ?_
  refine pw_na (pc := 70) (n := 5) (kc' := 103) (ks' := 4328) (ty := .int) d1_70 (by decide) (by decide) (by decide) C13.1.lt ?_
  rw [C13.len]
  have C14 : CS 0 (fun c => (((P c ∨ c = 3) ∨ c = 4) ∨ c = 5)) h 89 [(7, 0 + 1 + 67), (6, 0 + 1 + 5), (5, 0 + 1 + 4), (3, 0 + 1 + 3), (1, 0 + 1 + 2), (0, 0 + 1 + 0)] (pm_mk h13 (.inl (.int, 5))) := C13.A (sh0_88 hk) (fun C z => by cases z)
  generalize (pm_mk h13 (.inl (.int, 5))) = h14 at C14 ⊢
  refine pw_pr (pc := 72) d1_72 (k1_52 b) (C14.1.o (by omega) hk) q1_0_8 ?_
  have C15 : CS 0 (fun c => (((P c ∨ c = 3) ∨ c = 4) ∨ c = 5)) h 89 [(8, 0 + 1 + 88), (7, 0 + 1 + 67), (6, 0 + 1 + 5), (5, 0 + 1 + 4), (3, 0 + 1 + 3), (1, 0 + 1 + 2), (0, 0 + 1 + 0)] (pm_setR h14 0 8 (some (0 + 1 + 88))) := C14.R (by simp)
  generalize (pm_setR h14 0 8 (some (0 + 1 + 88))) = h15 at C15 ⊢
  refine pw_s (pc := 75) d1_75 rfl rfl ?_
  refine pw_t (pc := 76) d1_76 rfl rfl rfl rfl ?_
  refine lp_U b L xs d (by omega) (h0 := h) (F := [(8, 0 + 1 + 88), (7, 0 + 1 + 67), (6, 0 + 1 + 5), (5, 0 + 1 + 4), (3, 0 + 1 + 3), (1, 0 + 1 + 2), (0, 0 + 1 + 0)]) (kE := 85) (sE := 1442) (by decide) (.inl (.inl (.inr rfl))) (fun g1 D1 G1 => ?_) 6 0 _ rfl C15 (fun j hj => absurd hj (Nat.not_lt_zero j))
  have D2 : CS 0 (fun c => (P c ∨ c = 4) ∨ c = 5) h 107 [(8, 0 + 1 + 88), (7, 0 + 1 + 67), (6, 0 + 1 + 5), (5, 0 + 1 + 4), (3, 0 + 1 + 3), (1, 0 + 1 + 2), (0, 0 + 1 + 0)] g1 := D1.sub (fun q hq z => by
    rcases z with ((z | z) | z) | z
    · exact .inl (.inl (.inl z))
    · have e := kz3 q hq z
      rw [e.2, z]
      exact .inr (G1 q.1.2 e.1)
    · exact .inl (.inl (.inr z))
    · exact .inl (.inr z))
  refine pw_s (pc := 105) d1_105 rfl rfl ?_
  refine pw_t (pc := 106) d1_106 rfl rfl rfl rfl ?_
  refine lp_S b L xs d (by omega) (h0 := h) (F := [(8, 0 + 1 + 88), (7, 0 + 1 + 67), (6, 0 + 1 + 5), (5, 0 + 1 + 4), (3, 0 + 1 + 3), (1, 0 + 1 + 2), (0, 0 + 1 + 0)]) (kE := 25) (sE := 200) (by decide) (.inl (.inr rfl)) (fun g2 D3 G3 => ?_) 6 0 _ rfl D2 (fun j hj => absurd hj (Nat.not_lt_zero j))
  have D4 : CS 0 (fun c => P c ∨ c = 5) h 167 [(8, 0 + 1 + 88), (7, 0 + 1 + 67), (6, 0 + 1 + 5), (5, 0 + 1 + 4), (3, 0 + 1 + 3), (1, 0 + 1 + 2), (0, 0 + 1 + 0)] g2 := D3.sub (fun q hq z => by
    rcases z with (z | z) | z
    · exact .inl (.inl z)
    · have e := kz4 q hq z
      rw [e.2, z]
      exact .inr (G3 q.1.2 e.1)
    · exact .inl (.inr z))
  have np5 : ¬ (fun c => P c ∨ c = 5) 4 := fun y => y.elim np (by decide)
  have h40 : g2.2.2.2 4 0 = some 108 := G3 0 (by omega)
  have h03 : g2.2.2.2 0 3 = some 4 := D4.2.2 (3, 4) (by decide)
  refine pw_l (pc := 135) d1_135 rfl rfl rfl ?_
  refine pw_new (pc := 136) (kc' := 24) (ks' := 193) d1_136 (k1_32 b) (by decide) (by decide +kernel) D4.1.lt ?_
  have ll := D4.len
  rw [ll]
  refine pw_s (pc := 139) d1_139 rfl rfl ?_
  refine pw_l (pc := 140) d1_140 rfl rfl rfl ?_
  have W1 := D4.1.mk (sh0_167 hk)
  refine pw_gr (pc := 141) d1_141 (k1_28 b) (W1.o (by omega) hk) g1_0_3 (y := 4) (by rw [rm_c _ (by omega)]; exact h03) ?_
  refine pw_s (pc := 144) d1_144 rfl rfl ?_
  refine pw_ar (pc := 145) (y := 108) (C := "ChoirShip$Ship") (n := 6) d1_145 (W1.at (by omega) as4) (by unfold vp_in; decide) (by rw [rm_c _ (by omega)]; exact h40) ?_
  refine pw_k (pc := 146) (kc' := 20) (ks' := 160) (as := [.ref (0 + 1 + 167), .ref 108]) (rest := [.ref (0 + 1 + 167), .ref 0]) (by omega) d1_146 (k1_58 b) (by decide) mm143 rfl (by decide) (Nat.le_of_ble_eq_true rfl) (Nat.le_of_ble_eq_true rfl) rfl rfl (N_W b L xs (d - 1) (by omega) (s := 108) (P := fun c => (P c ∨ c = 5) ∨ c = 0) (mo0_167 hk) W1) (fun v g3 hq => ?_)
  obtain ⟨rfl, w3, o3, x3, y3⟩ := hq
  have D5 : CS 0 (fun c => P c ∨ c = 5) h 172 [(8, 0 + 1 + 88), (7, 0 + 1 + 67), (6, 0 + 1 + 5), (5, 0 + 1 + 4), (3, 0 + 1 + 3), (1, 0 + 1 + 2), (0, 0 + 1 + 0)] g3 := D4.O w3 o3
  simp only [Option.toList_none, List.nil_append]
  refine pw_pr (pc := 149) d1_149 (k1_61 b) (D5.1.o (by omega) hk) q1_0_4 ?_
  have D6 : CS 0 (fun c => P c ∨ c = 5) h 172 ((4, 0 + 1 + 167) :: [(8, 0 + 1 + 88), (7, 0 + 1 + 67), (6, 0 + 1 + 5), (5, 0 + 1 + 4), (3, 0 + 1 + 3), (1, 0 + 1 + 2), (0, 0 + 1 + 0)]) (pm_setR g3 0 4 (some (0 + 1 + 167))) := D5.R (by decide)
  have x4 : (pm_setR g3 0 4 (some (0 + 1 + 167))).2.1 169 4 = ng 1 := x3
  have y4 : (pm_setR g3 0 4 (some (0 + 1 + 167))).2.2.2 168 0 = some 108 := (rr_c _ (by omega)).trans y3
  generalize pm_setR g3 0 4 (some (0 + 1 + 167)) = g4 at D6 x4 y4 ⊢
  refine pw_s (pc := 152) d1_152 rfl rfl ?_
  refine pw_t (pc := 153) d1_153 rfl rfl rfl rfl ?_
  refine lp_W b L xs d (by omega) (h0 := h) (F := (4, 0 + 1 + 167) :: [(8, 0 + 1 + 88), (7, 0 + 1 + 67), (6, 0 + 1 + 5), (5, 0 + 1 + 4), (3, 0 + 1 + 3), (1, 0 + 1 + 2), (0, 0 + 1 + 0)]) (kE := 0) (sE := 0) (by decide) (by decide) (.inr rfl) np5 (fun g5 D7 G7 x7 y7 => ?_) 4 0 _ rfl D6 (fun j hj => absurd hj (Nat.not_lt_zero j)) x4 y4
  have D8 : CS 0 P h 192 ((4, 0 + 1 + 167) :: [(8, 0 + 1 + 88), (7, 0 + 1 + 67), (6, 0 + 1 + 5), (5, 0 + 1 + 4), (3, 0 + 1 + 3), (1, 0 + 1 + 2), (0, 0 + 1 + 0)]) g5 := D7.sub (fun q hq z => by
    rcases z with z | z
    · exact .inl z
    · have e := kz5 q hq z
      rw [e.2, z]
      exact .inr (G7 q.1.2 e.1))
  have E := D8.end (fun q hq e => by have z := kz0 q hq e; simp only [List.mem_cons, List.not_mem_nil, or_false, Prod.mk.injEq] at z ⊢; omega)
  exact pw_rv (pc := 188) d1_188 r1 ⟨rfl, E.1, x7, y7⟩
