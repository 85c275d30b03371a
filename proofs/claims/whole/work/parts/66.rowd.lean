/-! Rows for divisions and switches. -/
section ROWD
variable {b : Bool} {L : Nat} {xs : Nat → Int32} {d i kc ks pc t : Nat} {ls st r : List Value} {h : pm_H} {Q : Option Value → pm_H → Prop} {u v : Int32} {x y : Int64}
theorem pw_di (hdg : decode (tb_me i).1.2.1 pc = .ok (.idiv, 1)) (hv : ¬ v = 0) (k : PW b L xs d i kc ks (pc + 1) ls (.int (u / v) :: r) h Q) : PW b L xs d i kc ks pc ls (.int v :: .int u :: r) h Q :=
  pw_s hdg rfl (n := 1) (st' := .int (u / v) :: r) (by simp [pm_stk, pm_d2, hv]) k
theorem pw_re (hdg : decode (tb_me i).1.2.1 pc = .ok (.irem, 1)) (hv : ¬ v = 0) (k : PW b L xs d i kc ks (pc + 1) ls (.int (u - u / v * v) :: r) h Q) : PW b L xs d i kc ks pc ls (.int v :: .int u :: r) h Q :=
  pw_s hdg rfl (n := 1) (st' := .int (u - u / v * v) :: r) (by simp [pm_stk, pm_d2, hv]) k
theorem pw_ldi (hdg : decode (tb_me i).1.2.1 pc = .ok (.ldiv, 1)) (hv : ¬ y = 0) (k : PW b L xs d i kc ks (pc + 1) ls (.long (x / y) :: r) h Q) : PW b L xs d i kc ks pc ls (.long y :: .long x :: r) h Q :=
  pw_s hdg rfl (n := 1) (st' := .long (x / y) :: r) (by simp [pm_stk, pm_ld2, hv]) k
theorem pw_lre (hdg : decode (tb_me i).1.2.1 pc = .ok (.lrem, 1)) (hv : ¬ y = 0) (k : PW b L xs d i kc ks (pc + 1) ls (.long (x - x / y * y) :: r) h Q) : PW b L xs d i kc ks pc ls (.long y :: .long x :: r) h Q :=
  pw_s hdg rfl (n := 1) (st' := .long (x - x / y * y) :: r) (by simp [pm_stk, pm_ld2, hv]) k
/-- a switch by a table: the answer lies in it, or not -/
theorem pw_tin {dflt lo hi off : Int} {offs : Array Int} {len : Nat} (hdg : decode (tb_me i).1.2.1 pc = .ok (.tableswitch dflt lo hi offs, len)) (h1 : ¬ (u.toInt < lo ∨ hi < u.toInt)) (ho : offs[(u.toInt - lo).toNat]? = some off) (ht : pm_to pc off = some t) (k : PW b L xs d i kc ks t ls r h Q) : PW b L xs d i kc ks pc ls (.int u :: r) h Q :=
  pw_j hdg rfl rfl rfl rfl (by simp only [pm_br, pm_tab, if_neg h1, ho, Option.bind_some, ht, Option.map_some]) k
theorem pw_tout {dflt lo hi : Int} {offs : Array Int} {len : Nat} (hdg : decode (tb_me i).1.2.1 pc = .ok (.tableswitch dflt lo hi offs, len)) (h1 : u.toInt < lo ∨ hi < u.toInt) (ht : pm_to pc dflt = some t) (k : PW b L xs d i kc ks t ls r h Q) : PW b L xs d i kc ks pc ls (.int u :: r) h Q :=
  pw_j hdg rfl rfl rfl rfl (by simp only [pm_br, pm_tab, if_pos h1, ht, Option.map_some]) k
end ROWD
