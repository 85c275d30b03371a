/-! Acts: both answer alike, and stay alike. -/
section ACT
variable {h : pm_H} {s n L X R0 : Nat} {A : Nat → Int32} {P : Nat → Nat → Int32} {B : Nat → Nat} {RL : Nat → Cls} {b : Nat → Bool} {IS IX : Nat → Nat} {IA : Nat → Nat → Int32}
/-- an act of both -/
theorem call_a {x m : pm_H → Option (Int32 × pm_H)} (Ip : PI h s A n P L B X) (Ix : PX h R0 RL b IS IA IX) (Ir : RI h A n P L B X) (Iy : RX h R0 RL b IA IX) (Ig : GI A n P X R0 RL) {v : Int32} {A' : Nat → Int32} {G : Nat → Prop} (same : SameS A' A) (h4 : an A' 4 ≤ 999) (hx : SP (x h) (fun z => z.1 = v ∧ Fr (fun c => AF c ∨ c = 89) h z.2 ∧ QI z.2 s A' ∧ CP z.2 (min (n + 1) 20) (push A P))) (hG : ∀ j, G j → j ≠ 1 ∧ j ≠ 2 ∧ j ≠ 21) (km : ∀ h1, RI h1 A n P L B X → SP (m h1) (fun z => z.1 = v ∧ FrM (fun c => c = 203 ∨ c = 204 ∨ c = 205 ∨ c = 208) G h1 z.2 ∧ MI z.2 A' ∧ MP z.2 (min (n + 1) 20) (push A P))) : CALL x m h := by
  obtain ⟨⟨v1, h1⟩, e1, a1, f1, Q1, C1⟩ := hx
  dsimp only at a1 f1 Q1 C1
  have e : ∀ c, ¬ (AF c ∨ c = 89) → h1.2.1 c = h.2.1 c := fun c hc => (f1.2.2 c hc).1
  have c1 : ∀ c, 193 ≤ c → h1.2.1 c = h.2.1 c := fun c hc => e c (by unfold AF; omega)
  have Ir1 := Ir.keep Q1.1 c1
  obtain ⟨⟨v2, h2⟩, e2, a2, f2, M2, P2⟩ := km h1 Ir1
  dsimp only at a2 f2 M2 P2
  subst a1
  subst a2
  have lo := f2.lo (fun c hc => by omega)
  have Ip1 : PI h1 s A' (min (n + 1) 20) (push A P) L B X := ⟨Q1, C1, Ip.2.2.1.eq (by rw [e 1 (by unfold AF; omega)]) (e 2 (by unfold AF; omega)), by rw [e 168 (by unfold AF; omega)]; exact Ip.2.2.2⟩
  have Ix1 : PX h1 R0 RL b IS IA IX := Ix.same (by rw [e 0 (by unfold AF; omega)]) (fun c h1 h2 h3 => e c (by unfold AF; omega)) Ig.2.1 (fun k _ => f1.r _ _)
  have Ir2 : RI h2 A' (min (n + 1) 20) (push A P) L B X := by
    obtain ⟨_, _, ⟨t1, t2, t3⟩, x⟩ := Ir1
    exact ⟨M2, P2, ⟨by rw [f2.f (fun z => by have := hG _ z; omega)]; exact t1, t2, fun k hk => by rw [f2.i (by omega) (by omega)]; exact t3 k hk⟩, by rw [f2.f (fun z => by have := hG _ z; omega)]; exact x⟩
  exact ⟨_, h1, h2, e1, e2, ⟨s, A', _, _, L, B, X, R0, RL, b, IS, IA, IX, Ip1.lo lo, Ix1.lo Ig.2.1 lo, Ir2, (Iy.keep c1).frm f2 (fun c hc => by omega) (fun z => by have := hG _ z; omega), Ig.1, Ig.2.1, Ig.2.2.1, h4, PW_.more Ig.2.2.2.2 Ir.1.2.2 Ig.2.2.2.1 same⟩, f1.1, f2.1.trans f1.1⟩
theorem call_xy {x m : pm_H → Option (Int32 × pm_H)} (Ip : PI h s A n P L B X) (Ix : PX h R0 RL b IS IA IX) (Ir : RI h A n P L B X) (Iy : RX h R0 RL b IA IX) (Ig : GI A n P X R0 RL) {v : Int32} {A' : Nat → Int32} (same : SameS A' A) (h4 : an A' 4 ≤ 999) (hx : SP (x h) (fun z => z.1 = v ∧ XA h s n A A' P z.2)) (km : ∀ h1, RI h1 A n P L B X → SP (m h1) (fun z => z.1 = v ∧ YA h1 n A A' P z.2)) : CALL x m h :=
  call_a Ip Ix Ir Iy Ig (G := (· = 28)) same h4 (hx.mono (fun z hz => ⟨hz.1, hz.2.1.mono (fun c hc => .inl hc), hz.2.2.1, hz.2.2.2⟩)) (fun j hj => by omega) (fun h1 Ir1 => (km h1 Ir1).mono (fun z hz => ⟨hz.1, hz.2.1.mono (fun c hc => by omega) (fun j hj => hj), hz.2.2.1, hz.2.2.2⟩))
theorem cl_hour (I : INV h) : CALL (x_hour 0) (m_hour 193) h := by
  have I0 := I
  obtain ⟨s, A, n, P, L, B, X, R0, RL, b, IS, IA, IX, Ip, Ix, Ir, Iy, Ig⟩ := I
  have w := Ir.1.2.2
  by_cases ok : hourOk A
  · have p4 : an (psA A) 4 ≤ 999 := by
      have e4 := w.e4
      have : psA A 4 = nI (an A 4 + 1) := by
        unfold psA
        rw [if_pos rfl, e4.1, nx_add]
      unfold an
      rw [this]
      have := ok.2
      rw [nx_cl (by omega)]
      omega
    exact call_xy Ip Ix Ir Iy Ig (psA_same w) p4 (x_hour_ok Ip.1 Ip.2.1 ok) (fun h1 Ir1 => m_hour_ok Ir1.1 Ir1.2.1 ok)
  · exact call_0 I0 (x_hour_no Ip.1 Ig.2.2.2.1 ok) (m_hour_no Ir.1 Ig.2.2.2.1 ok)
theorem up_4 {j : Nat} {v : Int32} (hj : 4 ≠ j) (h4 : an A 4 ≤ 999) : an (upA A j v) 4 ≤ 999 := by
  unfold an
  rw [upA_ne hj]
  exact h4
theorem cl_turn (I : INV h) (x : Int32) : CALL (x_turn 0 x) (m_turn 193 x) h := by
  have I0 := I
  obtain ⟨s, A, n, P, L, B, X, R0, RL, b, IS, IA, IX, Ip, Ix, Ir, Iy, Ig⟩ := I
  have w := Ir.1.2.2
  by_cases q : ∃ k, x = nI k ∧ turnOk A k
  · obtain ⟨k, rfl, ok⟩ := q
    exact call_xy Ip Ix Ir Iy Ig (up5_wf w ok.2.1).1 (up_4 (by omega) Ig.2.2.2.1) (x_turn_ok Ip.1 Ip.2.1 ok) (fun h1 Ir1 => m_turn_ok Ir1.1 Ir1.2.1 ok)
  · exact call_0 I0 (x_turn_no Ip.1 q) (m_turn_no Ir.1 q)
theorem cl_teach (I : INV h) (x : Int32) : CALL (x_teach 0 x) (m_teach 193 x) h := by
  have I0 := I
  obtain ⟨s, A, n, P, L, B, X, R0, RL, b, IS, IA, IX, Ip, Ix, Ir, Iy, Ig⟩ := I
  have w := Ir.1.2.2
  by_cases q : ∃ k, x = nI k ∧ teachOk A k
  · obtain ⟨k, rfl, ok⟩ := q
    exact call_xy Ip Ix Ir Iy Ig (up6_wf w ok.1).1 (up_4 (by omega) Ig.2.2.2.1) (x_teach_ok Ip.1 Ip.2.1 ok) (fun h1 Ir1 => m_teach_ok Ir1.1 Ir1.2.1 ok)
  · exact call_0 I0 (x_teach_no Ip.1 q) (m_teach_no Ir.1 q)
theorem cl_wake (I : INV h) (x : Int32) (z : Bool) : CALL (x_wake 0 x (nI z.toNat)) (m_wake 193 x (nI z.toNat)) h := by
  have I0 := I
  obtain ⟨s, A, n, P, L, B, X, R0, RL, b, IS, IA, IX, Ip, Ix, Ir, Iy, Ig⟩ := I
  have w := Ir.1.2.2
  by_cases q : ∃ m, x = nI m ∧ wakeOk A m z
  · obtain ⟨m, rfl, ok⟩ := q
    exact call_xy Ip Ix Ir Iy Ig (up2_wf w ok.1 z).1 (up_4 (by omega) Ig.2.2.2.1) (x_wake_ok Ip.1 Ip.2.1 ok) (fun h1 Ir1 => m_wake_ok Ir1.1 Ir1.2.1 ok)
  · exact call_0 I0 (x_wake_no Ip.1 q) (m_wake_no Ir.1 q)
theorem cl_sicken (I : INV h) (x y : Int32) : CALL (x_sicken 0 x y) (m_sicken 193 x y) h := by
  have I0 := I
  obtain ⟨s, A, n, P, L, B, X, R0, RL, b, IS, IA, IX, Ip, Ix, Ir, Iy, Ig⟩ := I
  have w := Ir.1.2.2
  by_cases q : ∃ m k, x = nI m ∧ y = nI k ∧ sickOk A m k
  · obtain ⟨m, k, rfl, rfl, ok⟩ := q
    exact call_xy Ip Ix Ir Iy Ig (up3_wf w ok.1 ok.2.2).1 (up_4 (by omega) Ig.2.2.2.1) (x_sicken_ok Ip.1 Ip.2.1 ok) (fun h1 Ir1 => m_sicken_ok Ir1.1 Ir1.2.1 ok)
  · exact call_0 I0 (x_sicken_no Ip.1 q) (m_sicken_no Ir.1 q)
theorem cl_die (I : INV h) (x : Int32) : CALL (x_die 0 x) (m_die 193 x) h := by
  have I0 := I
  obtain ⟨s, A, n, P, L, B, X, R0, RL, b, IS, IA, IX, Ip, Ix, Ir, Iy, Ig⟩ := I
  have w := Ir.1.2.2
  by_cases q : ∃ m, x = nI m ∧ dieOk A m
  · obtain ⟨m, rfl, ok⟩ := q
    exact call_xy Ip Ix Ir Iy Ig (die_wf w ok.1).1 (up_4 (by omega) (up_4 (by omega) Ig.2.2.2.1)) (x_die_ok Ip.1 Ip.2.1 ok) (fun h1 Ir1 => m_die_ok Ir1.1 Ir1.2.1 ok)
  · exact call_0 I0 (x_die_no Ip.1 q) (m_die_no Ir.1 q)
theorem cl_say (I : INV h) (x y : Int32) : CALL (x_say 0 x y) (m_say 193 x y) h := by
  have I0 := I
  obtain ⟨s, A, n, P, L, B, X, R0, RL, b, IS, IA, IX, Ip, Ix, Ir, Iy, Ig⟩ := I
  by_cases q : ∃ N k, isRD x y N k ∧ isM A N k ∧ isHd A N k
  · obtain ⟨N, k, ⟨rfl, rfl, h0, h5, hN⟩, ok, hd⟩ := q
    exact call_a Ip Ix Ir Iy Ig (G := fun j => j = 23 ∨ j = 28) (SameS.refl A) Ig.2.2.2.1 (x_say_ok Ip.1 Ip.2.1 h0 h5 hN ok hd) (fun j hj => by omega) (fun h1 Ir1 => m_say_ok Ir1.1 Ir1.2.1 h0 h5 hN ok hd)
  · obtain ⟨⟨v1, h1⟩, e1, a1, f1⟩ := x_say_no Ip.1 q
    dsimp only at a1 f1
    have Q1 := Ip.1.f89 f1
    have c1 : ∀ c, 193 ≤ c → h1.2.1 c = h.2.1 c := fun c hc => (f1.2.2 c (by omega)).1
    have Ir1 := Ir.keep Q1.1 c1
    obtain ⟨⟨v2, h2⟩, e2, a2, f2⟩ := m_say_no Ir1.1 q
    dsimp only at a2 f2
    subst a1
    subst a2
    exact ⟨_, h1, h2, e1, e2, ⟨s, A, n, P, L, B, X, R0, RL, b, IS, IA, IX, (Ip.fq f1.q89 Q1).lo f2.lo, (Ix.fq Ig.2.1 f1.q89).lo Ig.2.1 f2.lo, Ir1.fm f2, (Iy.keep c1).fn f2.fn, Ig⟩, f1.1, f2.1.trans f1.1⟩
end ACT
