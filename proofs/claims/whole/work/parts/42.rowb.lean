/-! Rows for jumps; the shapes of all cells; the model's rows. -/
section ROWB
variable {b : Bool} {L : Nat} {xs : Nat → Int32} {d i kc ks pc t : Nat} {ls st r : List Value} {h : pm_H} {Q : Option Value → pm_H → Prop} {off : Int} {u v : Int32}
theorem pw_zeq (hdg : decode (tb_me i).1.2.1 pc = .ok (.ifCond .eq off, 3)) (ht : pm_to pc off = some t) (k1 : u = 0 → PW b L xs d i kc ks t ls r h Q) (k2 : ¬ (u = 0) → PW b L xs d i kc ks (pc + 3) ls r h Q) : PW b L xs d i kc ks pc ls (.int u :: r) h Q := by
  refine pw_b (f := decide (u = 0)) (t := t) hdg rfl rfl rfl rfl ?_ (fun q => k1 (of_decide_eq_true q)) (fun q => k2 (of_decide_eq_false q))
  simp only [pm_br, pm_cI, ht, Option.map_some]
theorem pw_ieq (hdg : decode (tb_me i).1.2.1 pc = .ok (.if_icmp .eq off, 3)) (ht : pm_to pc off = some t) (k1 : u = v → PW b L xs d i kc ks t ls r h Q) (k2 : ¬ (u = v) → PW b L xs d i kc ks (pc + 3) ls r h Q) : PW b L xs d i kc ks pc ls (.int v :: .int u :: r) h Q := by
  refine pw_b (f := decide (u = v)) (t := t) hdg rfl rfl rfl rfl ?_ (fun q => k1 (of_decide_eq_true q)) (fun q => k2 (of_decide_eq_false q))
  simp only [pm_br, pm_cII, ht, Option.map_some]
theorem pw_zne (hdg : decode (tb_me i).1.2.1 pc = .ok (.ifCond .ne off, 3)) (ht : pm_to pc off = some t) (k1 : ¬ u = 0 → PW b L xs d i kc ks t ls r h Q) (k2 : ¬ (¬ u = 0) → PW b L xs d i kc ks (pc + 3) ls r h Q) : PW b L xs d i kc ks pc ls (.int u :: r) h Q := by
  refine pw_b (f := decide (¬ u = 0)) (t := t) hdg rfl rfl rfl rfl ?_ (fun q => k1 (of_decide_eq_true q)) (fun q => k2 (of_decide_eq_false q))
  simp only [pm_br, pm_cI, ht, Option.map_some]
theorem pw_ine (hdg : decode (tb_me i).1.2.1 pc = .ok (.if_icmp .ne off, 3)) (ht : pm_to pc off = some t) (k1 : ¬ u = v → PW b L xs d i kc ks t ls r h Q) (k2 : ¬ (¬ u = v) → PW b L xs d i kc ks (pc + 3) ls r h Q) : PW b L xs d i kc ks pc ls (.int v :: .int u :: r) h Q := by
  refine pw_b (f := decide (¬ u = v)) (t := t) hdg rfl rfl rfl rfl ?_ (fun q => k1 (of_decide_eq_true q)) (fun q => k2 (of_decide_eq_false q))
  simp only [pm_br, pm_cII, ht, Option.map_some]
theorem pw_zlt (hdg : decode (tb_me i).1.2.1 pc = .ok (.ifCond .lt off, 3)) (ht : pm_to pc off = some t) (k1 : u < 0 → PW b L xs d i kc ks t ls r h Q) (k2 : ¬ (u < 0) → PW b L xs d i kc ks (pc + 3) ls r h Q) : PW b L xs d i kc ks pc ls (.int u :: r) h Q := by
  refine pw_b (f := decide (u < 0)) (t := t) hdg rfl rfl rfl rfl ?_ (fun q => k1 (of_decide_eq_true q)) (fun q => k2 (of_decide_eq_false q))
  simp only [pm_br, pm_cI, ht, Option.map_some]
theorem pw_ilt (hdg : decode (tb_me i).1.2.1 pc = .ok (.if_icmp .lt off, 3)) (ht : pm_to pc off = some t) (k1 : u < v → PW b L xs d i kc ks t ls r h Q) (k2 : ¬ (u < v) → PW b L xs d i kc ks (pc + 3) ls r h Q) : PW b L xs d i kc ks pc ls (.int v :: .int u :: r) h Q := by
  refine pw_b (f := decide (u < v)) (t := t) hdg rfl rfl rfl rfl ?_ (fun q => k1 (of_decide_eq_true q)) (fun q => k2 (of_decide_eq_false q))
  simp only [pm_br, pm_cII, ht, Option.map_some]
theorem pw_zge (hdg : decode (tb_me i).1.2.1 pc = .ok (.ifCond .ge off, 3)) (ht : pm_to pc off = some t) (k1 : 0 ≤ u → PW b L xs d i kc ks t ls r h Q) (k2 : ¬ (0 ≤ u) → PW b L xs d i kc ks (pc + 3) ls r h Q) : PW b L xs d i kc ks pc ls (.int u :: r) h Q := by
  refine pw_b (f := decide (0 ≤ u)) (t := t) hdg rfl rfl rfl rfl ?_ (fun q => k1 (of_decide_eq_true q)) (fun q => k2 (of_decide_eq_false q))
  simp only [pm_br, pm_cI, ht, Option.map_some]
theorem pw_ige (hdg : decode (tb_me i).1.2.1 pc = .ok (.if_icmp .ge off, 3)) (ht : pm_to pc off = some t) (k1 : v ≤ u → PW b L xs d i kc ks t ls r h Q) (k2 : ¬ (v ≤ u) → PW b L xs d i kc ks (pc + 3) ls r h Q) : PW b L xs d i kc ks pc ls (.int v :: .int u :: r) h Q := by
  refine pw_b (f := decide (v ≤ u)) (t := t) hdg rfl rfl rfl rfl ?_ (fun q => k1 (of_decide_eq_true q)) (fun q => k2 (of_decide_eq_false q))
  simp only [pm_br, pm_cII, ht, Option.map_some]
theorem pw_zgt (hdg : decode (tb_me i).1.2.1 pc = .ok (.ifCond .gt off, 3)) (ht : pm_to pc off = some t) (k1 : 0 < u → PW b L xs d i kc ks t ls r h Q) (k2 : ¬ (0 < u) → PW b L xs d i kc ks (pc + 3) ls r h Q) : PW b L xs d i kc ks pc ls (.int u :: r) h Q := by
  refine pw_b (f := decide (0 < u)) (t := t) hdg rfl rfl rfl rfl ?_ (fun q => k1 (of_decide_eq_true q)) (fun q => k2 (of_decide_eq_false q))
  simp only [pm_br, pm_cI, ht, Option.map_some]
theorem pw_igt (hdg : decode (tb_me i).1.2.1 pc = .ok (.if_icmp .gt off, 3)) (ht : pm_to pc off = some t) (k1 : v < u → PW b L xs d i kc ks t ls r h Q) (k2 : ¬ (v < u) → PW b L xs d i kc ks (pc + 3) ls r h Q) : PW b L xs d i kc ks pc ls (.int v :: .int u :: r) h Q := by
  refine pw_b (f := decide (v < u)) (t := t) hdg rfl rfl rfl rfl ?_ (fun q => k1 (of_decide_eq_true q)) (fun q => k2 (of_decide_eq_false q))
  simp only [pm_br, pm_cII, ht, Option.map_some]
theorem pw_zle (hdg : decode (tb_me i).1.2.1 pc = .ok (.ifCond .le off, 3)) (ht : pm_to pc off = some t) (k1 : u ≤ 0 → PW b L xs d i kc ks t ls r h Q) (k2 : ¬ (u ≤ 0) → PW b L xs d i kc ks (pc + 3) ls r h Q) : PW b L xs d i kc ks pc ls (.int u :: r) h Q := by
  refine pw_b (f := decide (u ≤ 0)) (t := t) hdg rfl rfl rfl rfl ?_ (fun q => k1 (of_decide_eq_true q)) (fun q => k2 (of_decide_eq_false q))
  simp only [pm_br, pm_cI, ht, Option.map_some]
theorem pw_ile (hdg : decode (tb_me i).1.2.1 pc = .ok (.if_icmp .le off, 3)) (ht : pm_to pc off = some t) (k1 : u ≤ v → PW b L xs d i kc ks t ls r h Q) (k2 : ¬ (u ≤ v) → PW b L xs d i kc ks (pc + 3) ls r h Q) : PW b L xs d i kc ks pc ls (.int v :: .int u :: r) h Q := by
  refine pw_b (f := decide (u ≤ v)) (t := t) hdg rfl rfl rfl rfl ?_ (fun q => k1 (of_decide_eq_true q)) (fun q => k2 (of_decide_eq_false q))
  simp only [pm_br, pm_cII, ht, Option.map_some]
theorem pw_go (hdg : decode (tb_me i).1.2.1 pc = .ok (.goto off, 3)) (ht : pm_to pc off = some t) (k : PW b L xs d i kc ks t ls st h Q) : PW b L xs d i kc ks pc ls st h Q :=
  pw_j hdg rfl rfl rfl rfl (by simp only [pm_br, ht, Option.map_some]) k
end ROWB
/-- the shapes of all cells behind the two constructors: 0 to 192 the class's, 193 to 213 the model's -/
def tb_SH : List pm_Sh := [.inr 0, .inr 8, .inl (.int, 400), .inl (.object "ChoirShip$Rule", 6), .inl (.object "ChoirShip$Ship", 6), .inl (.object "ChoirShip$World", 4), .inr 4, .inl (.object "ChoirShip$Hands", 20), .inr 3, .inl (.int, 8), .inl (.int, 8), .inr 3, .inl (.int, 8), .inl (.int, 8), .inr 3, .inl (.int, 8), .inl (.int, 8), .inr 3, .inl (.int, 8), .inl (.int, 8), .inr 3, .inl (.int, 8), .inl (.int, 8), .inr 3, .inl (.int, 8), .inl (.int, 8), .inr 3, .inl (.int, 8), .inl (.int, 8), .inr 3, .inl (.int, 8), .inl (.int, 8), .inr 3, .inl (.int, 8), .inl (.int, 8), .inr 3, .inl (.int, 8), .inl (.int, 8), .inr 3, .inl (.int, 8), .inl (.int, 8), .inr 3, .inl (.int, 8), .inl (.int, 8), .inr 3, .inl (.int, 8), .inl (.int, 8), .inr 3, .inl (.int, 8), .inl (.int, 8), .inr 3, .inl (.int, 8), .inl (.int, 8), .inr 3, .inl (.int, 8), .inl (.int, 8), .inr 3, .inl (.int, 8), .inl (.int, 8), .inr 3, .inl (.int, 8), .inl (.int, 8), .inr 3, .inl (.int, 8), .inl (.int, 8), .inr 3, .inl (.int, 8), .inl (.int, 8), .inr 1, .inr 2, .inr 5, .inl (.int, 30), .inl (.int, 6), .inl (.int, 6), .inl (.int, 3003), .inl (.int, 2816), .inl (.int, 10), .inr 5, .inl (.int, 30), .inl (.int, 6), .inl (.int, 6), .inl (.int, 5), .inl (.int, 5), .inl (.int, 10), .inl (.int, 30), .inl (.int, 8), .inr 3, .inl (.int, 8), .inl (.int, 8), .inl (.int, 5), .inr 6, .inl (.int, 412), .inl (.long, 64), .inr 6, .inl (.int, 412), .inl (.long, 64), .inr 6, .inl (.int, 412), .inl (.long, 64), .inr 6, .inl (.int, 412), .inl (.long, 64), .inr 6, .inl (.int, 412), .inl (.long, 64), .inr 6, .inl (.int, 412), .inl (.long, 64), .inr 7, .inl (.int, 8), .inl (.int, 8), .inl (.int, 8), .inl (.int, 8), .inl (.int, 32), .inl (.int, 10), .inl (.int, 10), .inl (.int, 10), .inl (.int, 100), .inr 7, .inl (.int, 8), .inl (.int, 8), .inl (.int, 8), .inl (.int, 8), .inl (.int, 32), .inl (.int, 10), .inl (.int, 10), .inl (.int, 10), .inl (.int, 100), .inr 7, .inl (.int, 8), .inl (.int, 8), .inl (.int, 8), .inl (.int, 8), .inl (.int, 32), .inl (.int, 10), .inl (.int, 10), .inl (.int, 10), .inl (.int, 100), .inr 7, .inl (.int, 8), .inl (.int, 8), .inl (.int, 8), .inl (.int, 8), .inl (.int, 32), .inl (.int, 10), .inl (.int, 10), .inl (.int, 10), .inl (.int, 100), .inr 7, .inl (.int, 8), .inl (.int, 8), .inl (.int, 8), .inl (.int, 8), .inl (.int, 32), .inl (.int, 10), .inl (.int, 10), .inl (.int, 10), .inl (.int, 100), .inr 7, .inl (.int, 8), .inl (.int, 8), .inl (.int, 8), .inl (.int, 8), .inl (.int, 32), .inl (.int, 10), .inl (.int, 10), .inl (.int, 10), .inl (.int, 100), .inr 9, .inr 3, .inl (.int, 8), .inl (.int, 8), .inl (.int, 10), .inr 9, .inr 3, .inl (.int, 8), .inl (.int, 8), .inl (.int, 10), .inr 9, .inr 3, .inl (.int, 8), .inl (.int, 8), .inl (.int, 10), .inr 9, .inr 3, .inl (.int, 8), .inl (.int, 8), .inl (.int, 10), .inr 9, .inr 3, .inl (.int, 8), .inl (.int, 8), .inl (.int, 10), .inr 10, .inl (.byte, 400), .inl (.int, 2400), .inl (.int, 7), .inl (.int, 288), .inl (.int, 6), .inl (.int, 206), .inl (.int, 400), .inl (.long, 64), .inl (.long, 11), .inl (.int, 227), .inl (.int, 5), .inl (.int, 5), .inl (.int, 2), .inl (.int, 512), .inl (.int, 1160), .inl (.int, 30), .inl (.int, 58), .inl (.int, 908), .inl (.int, 4), .inl (.boolean, 4)]
theorem sh_at {h : pm_H} {k : Nat} {x : pm_Sh} (hh : h.1 = tb_SH) (s : tb_SH[k]? = some x) : h.1[k]? = some x := by rw [hh]; exact s
theorem s0 : tb_SH[0]? = some (.inr 0) := by decide +kernel
theorem s1 : tb_SH[1]? = some (.inr 8) := by decide +kernel
theorem s2 : tb_SH[2]? = some (.inl (.int, 400)) := by decide +kernel
theorem s3 : tb_SH[3]? = some (.inl (.object "ChoirShip$Rule", 6)) := by decide +kernel
theorem s4 : tb_SH[4]? = some (.inl (.object "ChoirShip$Ship", 6)) := by decide +kernel
theorem s5 : tb_SH[5]? = some (.inl (.object "ChoirShip$World", 4)) := by decide +kernel
theorem s6 : tb_SH[6]? = some (.inr 4) := by decide +kernel
theorem s7 : tb_SH[7]? = some (.inl (.object "ChoirShip$Hands", 20)) := by decide +kernel
theorem s8 : tb_SH[8]? = some (.inr 3) := by decide +kernel
theorem s9 : tb_SH[9]? = some (.inl (.int, 8)) := by decide +kernel
theorem s10 : tb_SH[10]? = some (.inl (.int, 8)) := by decide +kernel
theorem s11 : tb_SH[11]? = some (.inr 3) := by decide +kernel
theorem s12 : tb_SH[12]? = some (.inl (.int, 8)) := by decide +kernel
theorem s13 : tb_SH[13]? = some (.inl (.int, 8)) := by decide +kernel
theorem s14 : tb_SH[14]? = some (.inr 3) := by decide +kernel
theorem s15 : tb_SH[15]? = some (.inl (.int, 8)) := by decide +kernel
theorem s16 : tb_SH[16]? = some (.inl (.int, 8)) := by decide +kernel
theorem s17 : tb_SH[17]? = some (.inr 3) := by decide +kernel
theorem s18 : tb_SH[18]? = some (.inl (.int, 8)) := by decide +kernel
theorem s19 : tb_SH[19]? = some (.inl (.int, 8)) := by decide +kernel
theorem s20 : tb_SH[20]? = some (.inr 3) := by decide +kernel
theorem s21 : tb_SH[21]? = some (.inl (.int, 8)) := by decide +kernel
theorem s22 : tb_SH[22]? = some (.inl (.int, 8)) := by decide +kernel
theorem s23 : tb_SH[23]? = some (.inr 3) := by decide +kernel
theorem s24 : tb_SH[24]? = some (.inl (.int, 8)) := by decide +kernel
theorem s25 : tb_SH[25]? = some (.inl (.int, 8)) := by decide +kernel
theorem s26 : tb_SH[26]? = some (.inr 3) := by decide +kernel
theorem s27 : tb_SH[27]? = some (.inl (.int, 8)) := by decide +kernel
theorem s28 : tb_SH[28]? = some (.inl (.int, 8)) := by decide +kernel
theorem s29 : tb_SH[29]? = some (.inr 3) := by decide +kernel
theorem s30 : tb_SH[30]? = some (.inl (.int, 8)) := by decide +kernel
theorem s31 : tb_SH[31]? = some (.inl (.int, 8)) := by decide +kernel
theorem s32 : tb_SH[32]? = some (.inr 3) := by decide +kernel
theorem s33 : tb_SH[33]? = some (.inl (.int, 8)) := by decide +kernel
theorem s34 : tb_SH[34]? = some (.inl (.int, 8)) := by decide +kernel
theorem s35 : tb_SH[35]? = some (.inr 3) := by decide +kernel
theorem s36 : tb_SH[36]? = some (.inl (.int, 8)) := by decide +kernel
theorem s37 : tb_SH[37]? = some (.inl (.int, 8)) := by decide +kernel
theorem s38 : tb_SH[38]? = some (.inr 3) := by decide +kernel
theorem s39 : tb_SH[39]? = some (.inl (.int, 8)) := by decide +kernel
theorem s40 : tb_SH[40]? = some (.inl (.int, 8)) := by decide +kernel
theorem s41 : tb_SH[41]? = some (.inr 3) := by decide +kernel
theorem s42 : tb_SH[42]? = some (.inl (.int, 8)) := by decide +kernel
theorem s43 : tb_SH[43]? = some (.inl (.int, 8)) := by decide +kernel
theorem s44 : tb_SH[44]? = some (.inr 3) := by decide +kernel
theorem s45 : tb_SH[45]? = some (.inl (.int, 8)) := by decide +kernel
theorem s46 : tb_SH[46]? = some (.inl (.int, 8)) := by decide +kernel
theorem s47 : tb_SH[47]? = some (.inr 3) := by decide +kernel
theorem s48 : tb_SH[48]? = some (.inl (.int, 8)) := by decide +kernel
theorem s49 : tb_SH[49]? = some (.inl (.int, 8)) := by decide +kernel
theorem s50 : tb_SH[50]? = some (.inr 3) := by decide +kernel
theorem s51 : tb_SH[51]? = some (.inl (.int, 8)) := by decide +kernel
theorem s52 : tb_SH[52]? = some (.inl (.int, 8)) := by decide +kernel
theorem s53 : tb_SH[53]? = some (.inr 3) := by decide +kernel
theorem s54 : tb_SH[54]? = some (.inl (.int, 8)) := by decide +kernel
theorem s55 : tb_SH[55]? = some (.inl (.int, 8)) := by decide +kernel
theorem s56 : tb_SH[56]? = some (.inr 3) := by decide +kernel
theorem s57 : tb_SH[57]? = some (.inl (.int, 8)) := by decide +kernel
theorem s58 : tb_SH[58]? = some (.inl (.int, 8)) := by decide +kernel
theorem s59 : tb_SH[59]? = some (.inr 3) := by decide +kernel
theorem s60 : tb_SH[60]? = some (.inl (.int, 8)) := by decide +kernel
theorem s61 : tb_SH[61]? = some (.inl (.int, 8)) := by decide +kernel
theorem s62 : tb_SH[62]? = some (.inr 3) := by decide +kernel
theorem s63 : tb_SH[63]? = some (.inl (.int, 8)) := by decide +kernel
theorem s64 : tb_SH[64]? = some (.inl (.int, 8)) := by decide +kernel
theorem s65 : tb_SH[65]? = some (.inr 3) := by decide +kernel
theorem s66 : tb_SH[66]? = some (.inl (.int, 8)) := by decide +kernel
theorem s67 : tb_SH[67]? = some (.inl (.int, 8)) := by decide +kernel
theorem s68 : tb_SH[68]? = some (.inr 1) := by decide +kernel
theorem s69 : tb_SH[69]? = some (.inr 2) := by decide +kernel
theorem s70 : tb_SH[70]? = some (.inr 5) := by decide +kernel
theorem s71 : tb_SH[71]? = some (.inl (.int, 30)) := by decide +kernel
theorem s72 : tb_SH[72]? = some (.inl (.int, 6)) := by decide +kernel
theorem s73 : tb_SH[73]? = some (.inl (.int, 6)) := by decide +kernel
theorem s74 : tb_SH[74]? = some (.inl (.int, 3003)) := by decide +kernel
theorem s75 : tb_SH[75]? = some (.inl (.int, 2816)) := by decide +kernel
theorem s76 : tb_SH[76]? = some (.inl (.int, 10)) := by decide +kernel
theorem s77 : tb_SH[77]? = some (.inr 5) := by decide +kernel
theorem s78 : tb_SH[78]? = some (.inl (.int, 30)) := by decide +kernel
theorem s79 : tb_SH[79]? = some (.inl (.int, 6)) := by decide +kernel
theorem s80 : tb_SH[80]? = some (.inl (.int, 6)) := by decide +kernel
theorem s81 : tb_SH[81]? = some (.inl (.int, 5)) := by decide +kernel
theorem s82 : tb_SH[82]? = some (.inl (.int, 5)) := by decide +kernel
theorem s83 : tb_SH[83]? = some (.inl (.int, 10)) := by decide +kernel
theorem s84 : tb_SH[84]? = some (.inl (.int, 30)) := by decide +kernel
theorem s85 : tb_SH[85]? = some (.inl (.int, 8)) := by decide +kernel
theorem s86 : tb_SH[86]? = some (.inr 3) := by decide +kernel
theorem s87 : tb_SH[87]? = some (.inl (.int, 8)) := by decide +kernel
theorem s88 : tb_SH[88]? = some (.inl (.int, 8)) := by decide +kernel
theorem s89 : tb_SH[89]? = some (.inl (.int, 5)) := by decide +kernel
theorem s90 : tb_SH[90]? = some (.inr 6) := by decide +kernel
theorem s91 : tb_SH[91]? = some (.inl (.int, 412)) := by decide +kernel
theorem s92 : tb_SH[92]? = some (.inl (.long, 64)) := by decide +kernel
theorem s93 : tb_SH[93]? = some (.inr 6) := by decide +kernel
theorem s94 : tb_SH[94]? = some (.inl (.int, 412)) := by decide +kernel
theorem s95 : tb_SH[95]? = some (.inl (.long, 64)) := by decide +kernel
theorem s96 : tb_SH[96]? = some (.inr 6) := by decide +kernel
theorem s97 : tb_SH[97]? = some (.inl (.int, 412)) := by decide +kernel
theorem s98 : tb_SH[98]? = some (.inl (.long, 64)) := by decide +kernel
theorem s99 : tb_SH[99]? = some (.inr 6) := by decide +kernel
theorem s100 : tb_SH[100]? = some (.inl (.int, 412)) := by decide +kernel
theorem s101 : tb_SH[101]? = some (.inl (.long, 64)) := by decide +kernel
theorem s102 : tb_SH[102]? = some (.inr 6) := by decide +kernel
theorem s103 : tb_SH[103]? = some (.inl (.int, 412)) := by decide +kernel
theorem s104 : tb_SH[104]? = some (.inl (.long, 64)) := by decide +kernel
theorem s105 : tb_SH[105]? = some (.inr 6) := by decide +kernel
theorem s106 : tb_SH[106]? = some (.inl (.int, 412)) := by decide +kernel
theorem s107 : tb_SH[107]? = some (.inl (.long, 64)) := by decide +kernel
theorem s108 : tb_SH[108]? = some (.inr 7) := by decide +kernel
theorem s109 : tb_SH[109]? = some (.inl (.int, 8)) := by decide +kernel
theorem s110 : tb_SH[110]? = some (.inl (.int, 8)) := by decide +kernel
theorem s111 : tb_SH[111]? = some (.inl (.int, 8)) := by decide +kernel
theorem s112 : tb_SH[112]? = some (.inl (.int, 8)) := by decide +kernel
theorem s113 : tb_SH[113]? = some (.inl (.int, 32)) := by decide +kernel
theorem s114 : tb_SH[114]? = some (.inl (.int, 10)) := by decide +kernel
theorem s115 : tb_SH[115]? = some (.inl (.int, 10)) := by decide +kernel
theorem s116 : tb_SH[116]? = some (.inl (.int, 10)) := by decide +kernel
theorem s117 : tb_SH[117]? = some (.inl (.int, 100)) := by decide +kernel
theorem s118 : tb_SH[118]? = some (.inr 7) := by decide +kernel
theorem s119 : tb_SH[119]? = some (.inl (.int, 8)) := by decide +kernel
theorem s120 : tb_SH[120]? = some (.inl (.int, 8)) := by decide +kernel
theorem s121 : tb_SH[121]? = some (.inl (.int, 8)) := by decide +kernel
theorem s122 : tb_SH[122]? = some (.inl (.int, 8)) := by decide +kernel
theorem s123 : tb_SH[123]? = some (.inl (.int, 32)) := by decide +kernel
theorem s124 : tb_SH[124]? = some (.inl (.int, 10)) := by decide +kernel
theorem s125 : tb_SH[125]? = some (.inl (.int, 10)) := by decide +kernel
theorem s126 : tb_SH[126]? = some (.inl (.int, 10)) := by decide +kernel
theorem s127 : tb_SH[127]? = some (.inl (.int, 100)) := by decide +kernel
theorem s128 : tb_SH[128]? = some (.inr 7) := by decide +kernel
theorem s129 : tb_SH[129]? = some (.inl (.int, 8)) := by decide +kernel
theorem s130 : tb_SH[130]? = some (.inl (.int, 8)) := by decide +kernel
theorem s131 : tb_SH[131]? = some (.inl (.int, 8)) := by decide +kernel
theorem s132 : tb_SH[132]? = some (.inl (.int, 8)) := by decide +kernel
theorem s133 : tb_SH[133]? = some (.inl (.int, 32)) := by decide +kernel
theorem s134 : tb_SH[134]? = some (.inl (.int, 10)) := by decide +kernel
theorem s135 : tb_SH[135]? = some (.inl (.int, 10)) := by decide +kernel
theorem s136 : tb_SH[136]? = some (.inl (.int, 10)) := by decide +kernel
theorem s137 : tb_SH[137]? = some (.inl (.int, 100)) := by decide +kernel
theorem s138 : tb_SH[138]? = some (.inr 7) := by decide +kernel
theorem s139 : tb_SH[139]? = some (.inl (.int, 8)) := by decide +kernel
theorem s140 : tb_SH[140]? = some (.inl (.int, 8)) := by decide +kernel
theorem s141 : tb_SH[141]? = some (.inl (.int, 8)) := by decide +kernel
theorem s142 : tb_SH[142]? = some (.inl (.int, 8)) := by decide +kernel
theorem s143 : tb_SH[143]? = some (.inl (.int, 32)) := by decide +kernel
theorem s144 : tb_SH[144]? = some (.inl (.int, 10)) := by decide +kernel
theorem s145 : tb_SH[145]? = some (.inl (.int, 10)) := by decide +kernel
theorem s146 : tb_SH[146]? = some (.inl (.int, 10)) := by decide +kernel
theorem s147 : tb_SH[147]? = some (.inl (.int, 100)) := by decide +kernel
theorem s148 : tb_SH[148]? = some (.inr 7) := by decide +kernel
theorem s149 : tb_SH[149]? = some (.inl (.int, 8)) := by decide +kernel
theorem s150 : tb_SH[150]? = some (.inl (.int, 8)) := by decide +kernel
theorem s151 : tb_SH[151]? = some (.inl (.int, 8)) := by decide +kernel
theorem s152 : tb_SH[152]? = some (.inl (.int, 8)) := by decide +kernel
theorem s153 : tb_SH[153]? = some (.inl (.int, 32)) := by decide +kernel
theorem s154 : tb_SH[154]? = some (.inl (.int, 10)) := by decide +kernel
theorem s155 : tb_SH[155]? = some (.inl (.int, 10)) := by decide +kernel
theorem s156 : tb_SH[156]? = some (.inl (.int, 10)) := by decide +kernel
theorem s157 : tb_SH[157]? = some (.inl (.int, 100)) := by decide +kernel
theorem s158 : tb_SH[158]? = some (.inr 7) := by decide +kernel
theorem s159 : tb_SH[159]? = some (.inl (.int, 8)) := by decide +kernel
theorem s160 : tb_SH[160]? = some (.inl (.int, 8)) := by decide +kernel
theorem s161 : tb_SH[161]? = some (.inl (.int, 8)) := by decide +kernel
theorem s162 : tb_SH[162]? = some (.inl (.int, 8)) := by decide +kernel
theorem s163 : tb_SH[163]? = some (.inl (.int, 32)) := by decide +kernel
theorem s164 : tb_SH[164]? = some (.inl (.int, 10)) := by decide +kernel
theorem s165 : tb_SH[165]? = some (.inl (.int, 10)) := by decide +kernel
theorem s166 : tb_SH[166]? = some (.inl (.int, 10)) := by decide +kernel
theorem s167 : tb_SH[167]? = some (.inl (.int, 100)) := by decide +kernel
theorem s168 : tb_SH[168]? = some (.inr 9) := by decide +kernel
theorem s169 : tb_SH[169]? = some (.inr 3) := by decide +kernel
theorem s170 : tb_SH[170]? = some (.inl (.int, 8)) := by decide +kernel
theorem s171 : tb_SH[171]? = some (.inl (.int, 8)) := by decide +kernel
theorem s172 : tb_SH[172]? = some (.inl (.int, 10)) := by decide +kernel
theorem s173 : tb_SH[173]? = some (.inr 9) := by decide +kernel
theorem s174 : tb_SH[174]? = some (.inr 3) := by decide +kernel
theorem s175 : tb_SH[175]? = some (.inl (.int, 8)) := by decide +kernel
theorem s176 : tb_SH[176]? = some (.inl (.int, 8)) := by decide +kernel
theorem s177 : tb_SH[177]? = some (.inl (.int, 10)) := by decide +kernel
theorem s178 : tb_SH[178]? = some (.inr 9) := by decide +kernel
theorem s179 : tb_SH[179]? = some (.inr 3) := by decide +kernel
theorem s180 : tb_SH[180]? = some (.inl (.int, 8)) := by decide +kernel
theorem s181 : tb_SH[181]? = some (.inl (.int, 8)) := by decide +kernel
theorem s182 : tb_SH[182]? = some (.inl (.int, 10)) := by decide +kernel
theorem s183 : tb_SH[183]? = some (.inr 9) := by decide +kernel
theorem s184 : tb_SH[184]? = some (.inr 3) := by decide +kernel
theorem s185 : tb_SH[185]? = some (.inl (.int, 8)) := by decide +kernel
theorem s186 : tb_SH[186]? = some (.inl (.int, 8)) := by decide +kernel
theorem s187 : tb_SH[187]? = some (.inl (.int, 10)) := by decide +kernel
theorem s188 : tb_SH[188]? = some (.inr 9) := by decide +kernel
theorem s189 : tb_SH[189]? = some (.inr 3) := by decide +kernel
theorem s190 : tb_SH[190]? = some (.inl (.int, 8)) := by decide +kernel
theorem s191 : tb_SH[191]? = some (.inl (.int, 8)) := by decide +kernel
theorem s192 : tb_SH[192]? = some (.inl (.int, 10)) := by decide +kernel
theorem s193 : tb_SH[193]? = some (.inr 10) := by decide +kernel
theorem s194 : tb_SH[194]? = some (.inl (.byte, 400)) := by decide +kernel
theorem s195 : tb_SH[195]? = some (.inl (.int, 2400)) := by decide +kernel
theorem s196 : tb_SH[196]? = some (.inl (.int, 7)) := by decide +kernel
theorem s197 : tb_SH[197]? = some (.inl (.int, 288)) := by decide +kernel
theorem s198 : tb_SH[198]? = some (.inl (.int, 6)) := by decide +kernel
theorem s199 : tb_SH[199]? = some (.inl (.int, 206)) := by decide +kernel
theorem s200 : tb_SH[200]? = some (.inl (.int, 400)) := by decide +kernel
theorem s201 : tb_SH[201]? = some (.inl (.long, 64)) := by decide +kernel
theorem s202 : tb_SH[202]? = some (.inl (.long, 11)) := by decide +kernel
theorem s203 : tb_SH[203]? = some (.inl (.int, 227)) := by decide +kernel
theorem s204 : tb_SH[204]? = some (.inl (.int, 5)) := by decide +kernel
theorem s205 : tb_SH[205]? = some (.inl (.int, 5)) := by decide +kernel
theorem s206 : tb_SH[206]? = some (.inl (.int, 2)) := by decide +kernel
theorem s207 : tb_SH[207]? = some (.inl (.int, 512)) := by decide +kernel
theorem s208 : tb_SH[208]? = some (.inl (.int, 1160)) := by decide +kernel
theorem s209 : tb_SH[209]? = some (.inl (.int, 30)) := by decide +kernel
theorem s210 : tb_SH[210]? = some (.inl (.int, 58)) := by decide +kernel
theorem s211 : tb_SH[211]? = some (.inl (.int, 908)) := by decide +kernel
theorem s212 : tb_SH[212]? = some (.inl (.int, 4)) := by decide +kernel
theorem s213 : tb_SH[213]? = some (.inl (.boolean, 4)) := by decide +kernel
/-- the model's rows, by the places of its fields -/
def tb_mr : List (Nat × Nat) := [(0, 194), (3, 195), (4, 196), (5, 197), (6, 198), (7, 199), (15, 200), (17, 201), (19, 202), (20, 203), (22, 204), (24, 205), (25, 206), (26, 207), (27, 208), (29, 209), (30, 210), (32, 211), (33, 212), (34, 213)]
/-- the model stands at 193: the shapes, and its rows in their places -/
def IM (h : pm_H) : Prop := h.1 = tb_SH ∧ ∀ q ∈ tb_mr, h.2.2.2 193 q.1 = some q.2
theorem IM.r0 {h : pm_H} (q : IM h) : h.2.2.2 193 0 = some 194 := q.2 (0, 194) (by decide)
theorem IM.r3 {h : pm_H} (q : IM h) : h.2.2.2 193 3 = some 195 := q.2 (3, 195) (by decide)
theorem IM.r4 {h : pm_H} (q : IM h) : h.2.2.2 193 4 = some 196 := q.2 (4, 196) (by decide)
theorem IM.r5 {h : pm_H} (q : IM h) : h.2.2.2 193 5 = some 197 := q.2 (5, 197) (by decide)
theorem IM.r6 {h : pm_H} (q : IM h) : h.2.2.2 193 6 = some 198 := q.2 (6, 198) (by decide)
theorem IM.r7 {h : pm_H} (q : IM h) : h.2.2.2 193 7 = some 199 := q.2 (7, 199) (by decide)
theorem IM.r15 {h : pm_H} (q : IM h) : h.2.2.2 193 15 = some 200 := q.2 (15, 200) (by decide)
theorem IM.r17 {h : pm_H} (q : IM h) : h.2.2.2 193 17 = some 201 := q.2 (17, 201) (by decide)
theorem IM.r19 {h : pm_H} (q : IM h) : h.2.2.2 193 19 = some 202 := q.2 (19, 202) (by decide)
theorem IM.r20 {h : pm_H} (q : IM h) : h.2.2.2 193 20 = some 203 := q.2 (20, 203) (by decide)
theorem IM.r22 {h : pm_H} (q : IM h) : h.2.2.2 193 22 = some 204 := q.2 (22, 204) (by decide)
theorem IM.r24 {h : pm_H} (q : IM h) : h.2.2.2 193 24 = some 205 := q.2 (24, 205) (by decide)
theorem IM.r25 {h : pm_H} (q : IM h) : h.2.2.2 193 25 = some 206 := q.2 (25, 206) (by decide)
theorem IM.r26 {h : pm_H} (q : IM h) : h.2.2.2 193 26 = some 207 := q.2 (26, 207) (by decide)
theorem IM.r27 {h : pm_H} (q : IM h) : h.2.2.2 193 27 = some 208 := q.2 (27, 208) (by decide)
theorem IM.r29 {h : pm_H} (q : IM h) : h.2.2.2 193 29 = some 209 := q.2 (29, 209) (by decide)
theorem IM.r30 {h : pm_H} (q : IM h) : h.2.2.2 193 30 = some 210 := q.2 (30, 210) (by decide)
theorem IM.r32 {h : pm_H} (q : IM h) : h.2.2.2 193 32 = some 211 := q.2 (32, 211) (by decide)
theorem IM.r33 {h : pm_H} (q : IM h) : h.2.2.2 193 33 = some 212 := q.2 (33, 212) (by decide)
theorem IM.r34 {h : pm_H} (q : IM h) : h.2.2.2 193 34 = some 213 := q.2 (34, 213) (by decide)
theorem IM.setI {h : pm_H} {a k : Nat} {v : Int32} (q : IM h) : IM (pm_setI h a k v) := q
theorem IM.setL {h : pm_H} {a k : Nat} {v : Int64} (q : IM h) : IM (pm_setL h a k v) := q
