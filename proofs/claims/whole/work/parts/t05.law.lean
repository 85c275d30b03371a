/-! The law: its loop, and the claim (written by wip/gen8.py). -/
theorem lw_loop (b : Bool) (L : Nat) (xs : Nat → Int32) (hL : L ≤ 3072) : ∀ (r i : Nat) (h : pm_H), L ≤ i + 5 + 6 * r → i ≤ L + 6 → INV h → h.1 = tb_SH → PW b L xs 100 0 0 0 18 [.ref pm_B, .ref 0, .ref 193, .int (nI i)] [] h (fun v _ => v = some (.int 1)) := by
  intro r
  induction r with
  | zero =>
    intro i h hr hi I sh
    refine pw_l (pc := 18) d0_18 rfl rfl rfl ?_
    refine pw_l (pc := 19) d0_19 rfl rfl rfl ?_
    refine pw_sl2 (pc := 20) d0_20 (by rw [sh, tb_SHl]; omega) ?_
    refine pw_s (pc := 21) d0_21 rfl rfl ?_
    refine pw_s (pc := 23) d0_23 rfl rfl ?_
    refine pw_igt (pc := 24) (t := 1120) d0_24 (by decide) (fun _ => ?_) (fun q => absurd (lw_end hL (by omega) (by omega)) q)
    refine pw_s (pc := 1120) d0_1120 rfl rfl ?_
    exact pw_ri (pc := 1121) d0_1121 lw_rt rfl rfl
  | succ r ih =>
    intro i h hr hi I sh
    have lb : h.1.length ≤ 1000 := by rw [sh, tb_SHl]; omega
    refine pw_l (pc := 18) d0_18 rfl rfl rfl ?_
    refine pw_l (pc := 19) d0_19 rfl rfl rfl ?_
    refine pw_sl2 (pc := 20) d0_20 lb ?_
    refine pw_s (pc := 21) d0_21 rfl rfl ?_
    refine pw_s (pc := 23) d0_23 rfl rfl ?_
    refine pw_igt (pc := 24) (t := 1120) d0_24 (by decide) (fun _ => ?_) (fun q => ?_)
    · refine pw_s (pc := 1120) d0_1120 rfl rfl ?_
      exact pw_ri (pc := 1121) d0_1121 lw_rt rfl rfl
    · have hi6 : i + 6 ≤ L := by
        apply Classical.byContradiction
        intro z
        exact q (lw_end hL (by omega) (by omega))
      refine pw_l (pc := 27) d0_27 rfl rfl rfl ?_
      refine pw_l (pc := 28) d0_28 rfl rfl rfl ?_
      refine pw_sc (pc := 29) d0_29 lb (by show ¬ (nI i < nI 0 ∨ L ≤ (nI i).toNatClampNeg); rw [nx_lt (by omega) (by omega), nx_cl (by omega)]; omega) ?_
      refine pw_s (pc := 30) d0_30 rfl rfl ?_
      refine pw_s (pc := 32) d0_32 rfl rfl ?_
      have kk : ∀ h2, INV h2 → h2.1 = tb_SH → PW b L xs 100 0 0 0 1114 [.ref pm_B, .ref 0, .ref 193, .int (nI i)] [] h2 (fun v _ => v = some (.int 1)) := by
        intro h2 I2 s2
        refine pw_t (pc := 1114) d0_1114 rfl rfl rfl rfl ?_
        refine pw_go (pc := 1117) (t := 18) d0_1117 (by decide) ?_
        have st1 : pm_st1 [.ref pm_B, .ref 0, .ref 193, .int (nI i)] 3 (.int (nI i + Int32.ofInt 6)) = [.ref pm_B, .ref 0, .ref 193, .int (nI (i + 6))] := by rw [show Int32.ofInt 6 = nI 6 by decide, nx_add]; rfl
        rw [st1]
        exact ih (i + 6) h2 (by omega) (by omega) I2 s2
      obtain ⟨c, hc, ec⟩ := and31 (xs (nI i).toNatClampNeg)
      show PW b L xs 100 0 0 0 33 [.ref pm_B, .ref 0, .ref 193, .int (nI i)] [.int (xs (nI i).toNatClampNeg &&& (Int8.ofInt 31).toInt32)] h _
      rw [ec]
      have fin : ∀ t off, PW b L xs 100 0 0 0 t [.ref pm_B, .ref 0, .ref 193, .int (nI i)] [] h (fun v _ => v = some (.int 1)) → sw_o[c]? = some off → pm_to 33 off = some t → PW b L xs 100 0 0 0 33 [.ref pm_B, .ref 0, .ref 193, .int (nI i)] [.int (nI c)] h (fun v _ => v = some (.int 1)) := by
        intro t off hw ho ht
        have ti : (nI c).toInt = (c : Int) := nI_small (by omega)
        exact pw_tin (pc := 33) d0_33 (by rw [ti]; omega) (by rw [ti]; exact ho) ht hw
      have cc : c = 0 ∨ c = 1 ∨ c = 2 ∨ c = 3 ∨ c = 4 ∨ c = 5 ∨ c = 6 ∨ c = 7 ∨ c = 8 ∨ c = 9 ∨ c = 10 ∨ c = 11 ∨ c = 12 ∨ c = 13 ∨ c = 14 ∨ c = 15 ∨ c = 16 ∨ c = 17 ∨ c = 18 ∨ c = 19 ∨ c = 20 ∨ c = 21 ∨ c = 22 ∨ c = 23 ∨ c = 24 ∨ c = 25 ∨ c = 26 ∨ c = 27 ∨ c = 28 ∨ c = 29 ∨ c = 30 ∨ c = 31 := by omega
      rcases cc with rfl | rfl | rfl | rfl | rfl | rfl | rfl | rfl | rfl | rfl | rfl | rfl | rfl | rfl | rfl | rfl | rfl | rfl | rfl | rfl | rfl | rfl | rfl | rfl | rfl | rfl | rfl | rfl | rfl | rfl | rfl | rfl
      · exact fin 176 143 (lc_0 b L xs I sh hi6 hL kk) rfl (by decide)
      · exact fin 239 206 (lc_1 b L xs I sh hi6 hL kk) rfl (by decide)
      · exact fin 262 229 (lc_2 b L xs I sh hi6 hL kk) rfl (by decide)
      · exact fin 275 242 (lc_3 b L xs I sh hi6 hL kk) rfl (by decide)
      · exact fin 288 255 (lc_4 b L xs I sh hi6 hL kk) rfl (by decide)
      · exact fin 321 288 (lc_5 b L xs I sh hi6 hL kk) rfl (by decide)
      · exact fin 354 321 (lc_6 b L xs I sh hi6 hL kk) rfl (by decide)
      · exact fin 387 354 (lc_7 b L xs I sh hi6 hL kk) rfl (by decide)
      · exact fin 420 387 (lc_8 b L xs I sh hi6 hL kk) rfl (by decide)
      · exact fin 453 420 (lc_9 b L xs I sh hi6 hL kk) rfl (by decide)
      · exact fin 466 433 (lc_10 b L xs I sh hi6 hL kk) rfl (by decide)
      · exact fin 515 482 (lc_11 b L xs I sh hi6 hL kk) rfl (by decide)
      · exact fin 548 515 (lc_12 b L xs I sh hi6 hL kk) rfl (by decide)
      · exact fin 571 538 (lc_13 b L xs I sh hi6 hL kk) rfl (by decide)
      · exact fin 594 561 (lc_14 b L xs I sh hi6 hL kk) rfl (by decide)
      · exact fin 617 584 (lc_15 b L xs I sh hi6 hL kk) rfl (by decide)
      · exact fin 630 597 (lc_16 b L xs I sh hi6 hL kk) rfl (by decide)
      · exact fin 663 630 (lc_17 b L xs I sh hi6 hL kk) rfl (by decide)
      · exact fin 676 643 (lc_18 b L xs I sh hi6 hL kk) rfl (by decide)
      · exact fin 709 676 (lc_19 b L xs I sh hi6 hL kk) rfl (by decide)
      · exact fin 742 709 (lc_20 b L xs I sh hi6 hL kk) rfl (by decide)
      · exact fin 775 742 (lc_21 b L xs I sh hi6 hL kk) rfl (by decide)
      · exact fin 798 765 (lc_22 b L xs I sh hi6 hL kk) rfl (by decide)
      · exact fin 831 798 (lc_23 b L xs I sh hi6 hL kk) rfl (by decide)
      · exact fin 874 841 (lc_24 b L xs I sh hi6 hL kk) rfl (by decide)
      · exact fin 923 890 (lc_25 b L xs I sh hi6 hL kk) rfl (by decide)
      · exact fin 946 913 (lc_26 b L xs I sh hi6 hL kk) rfl (by decide)
      · exact fin 969 936 (lc_27 b L xs I sh hi6 hL kk) rfl (by decide)
      · exact fin 992 959 (lc_28 b L xs I sh hi6 hL kk) rfl (by decide)
      · exact fin 1045 1012 (lc_29 b L xs I sh hi6 hL kk) rfl (by decide)
      · exact fin 1068 1035 (lc_30 b L xs I sh hi6 hL kk) rfl (by decide)
      · exact fin 1091 1058 (lc_31 b L xs I sh hi6 hL kk) rfl (by decide)
theorem lw_claim : tb_Claim := by
  intro b L xs hL
  have o0 : mi_o 0 0 = true := by decide +kernel
  have o193 : mi_o 193 10 = true := by decide +kernel
  have W0 : NW 0 (fun _ => False) tb_h0 := ⟨by rw [List.take_zero]; rfl, by omega, fun _ _ _ => rfl, fun q _ hN _ => absurd hN (Nat.not_lt_zero _)⟩
  show PW b L xs 100 0 214 18015 0 [.ref pm_B, .retAddr 0, .retAddr 0, .retAddr 0] [] tb_h0 (fun v _ => v = some (.int 1))
  refine pw_new (pc := 0) (kc' := 213) (ks' := 18006) d0_0 (k0_7 b) (by decide) (by decide +kernel) W0.lt ?_
  rw [W0.len]
  have W1 := W0.mk (of_decide_eq_true o0)
  generalize pm_mk tb_h0 (.inr 0) = h1 at W1 ⊢
  refine pw_s (pc := 3) d0_3 rfl rfl ?_
  refine pw_k (pc := 4) (kc' := 21) (ks' := 6732) (as := [.ref 0]) (rest := [.ref 0]) (by omega) d0_4 (k0_9 b) (by decide) mmX rfl (by decide) (Nat.le_of_ble_eq_true rfl) (Nat.le_of_ble_eq_true rfl) rfl rfl (N_X b L xs (100 - 1) (by omega) (P := fun _ => False) o0 id W1) (fun v h2 hq => ?_)
  obtain ⟨rfl, W2, x2, y2⟩ := hq
  simp only [Option.toList_none, List.nil_append]
  refine pw_t (pc := 7) d0_7 rfl rfl rfl rfl ?_
  refine pw_new (pc := 8) (kc' := 20) (ks' := 6697) d0_8 (k0_10 b) (by decide) (by decide +kernel) W2.lt ?_
  have W3 := W2.mk (of_decide_eq_true o193)
  have l2 : h2.1.length = 193 := W2.len
  rw [l2]
  have x3 : (pm_mk h2 (.inr 10)).2.1 169 4 = ng 1 := (im_c _ (by omega)).trans x2
  have y3 : (pm_mk h2 (.inr 10)).2.2.2 168 0 = some 108 := (rm_c _ (by omega)).trans y2
  generalize pm_mk h2 (.inr 10) = h3 at W3 x3 y3 ⊢
  refine pw_s (pc := 11) d0_11 rfl rfl ?_
  refine pw_k (pc := 12) (kc' := 0) (ks' := 0) (as := [.ref 193]) (rest := [.ref 193]) (by omega) d0_12 (k0_12 b) (by decide) mmM rfl (by decide) (Nat.le_of_ble_eq_true rfl) (Nat.le_of_ble_eq_true rfl) rfl rfl (N_M b L xs (100 - 1) (by omega) (P := fun _ => False) o193 W3) (fun v h4 hq => ?_)
  obtain ⟨rfl, W4, lo4, z4⟩ := hq
  simp only [Option.toList_none, List.nil_append]
  refine pw_t (pc := 15) d0_15 rfl rfl rfl rfl ?_
  refine pw_s (pc := 16) d0_16 rfl rfl ?_
  refine pw_t (pc := 17) d0_17 rfl rfl rfl rfl ?_
  have sh : h4.1 = tb_SH := by
    rw [W4.1]
    exact List.take_of_length_le (by rw [tb_SHl]; omega)
  refine lw_loop b L xs hL 512 0 h4 (by omega) (by omega) (inv_start W4 ?_ ?_ z4) sh
  · rw [(lo4 169 (by omega)).1]; exact x3
  · rw [(lo4 168 (by omega)).2]; exact y3
