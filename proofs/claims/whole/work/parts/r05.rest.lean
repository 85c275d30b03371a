/-! The tape, the seed, images, ship, rule: both answer alike, and stay alike. -/
section RES
variable {h h' : pm_H} {s n L X R0 : Nat} {A : Nat → Int32} {P : Nat → Nat → Int32} {B : Nat → Nat} {RL : Nat → Cls} {b : Nat → Bool} {IS IX : Nat → Nat} {IA : Nat → Nat → Int32}
theorem nn_x {x : Int32} (hx : nI 0 ≤ x) : ∃ k, k < 2147483648 ∧ x = nI k := by
  rcases ixx x (n := 2147483647) (by omega) with a | a | ⟨j, hj, e⟩
  · rw [Int32.lt_iff_toInt_lt] at a
    rw [Int32.le_iff_toInt_le] at hx
    omega
  · refine ⟨2147483647, by omega, ?_⟩
    rw [Int32.le_iff_toInt_le] at a
    have t : (nI 2147483647).toInt = 2147483647 := by decide
    have u := x.toInt_lt
    apply Int32.toInt_inj.mp
    omega
  · exact ⟨j, by omega, e⟩
theorem cl_feed (I : INV h) (a1 a2 a3 a4 a5 : Int32) : CALL (x_feed 0 a1 a2 a3 a4 a5) (m_feed 193 a1 a2 a3 a4 a5) h := by
  have I0 := I
  obtain ⟨s, A, n, P, L, B, X, R0, RL, b, IS, IA, IX, Ip, Ix, Ir, Iy, Ig⟩ := I
  by_cases q : L + 20 ≤ 400
  · obtain ⟨⟨v1, h1⟩, e1, b1, f1, T1⟩ := x_feed_ok Ip.1.1 Ip.2.2.1 q a1 a2 a3 a4 a5
    dsimp only at b1 f1 T1
    have e : ∀ c, c ≠ 1 ∧ c ≠ 2 → h1.2.1 c = h.2.1 c := fun c hc => (f1.2.2 c (by omega)).1
    have c1 : ∀ c, 193 ≤ c → h1.2.1 c = h.2.1 c := fun c hc => e c (by omega)
    have R1 := Ip.1.1.fr f1
    have Ir1 := Ir.keep R1 c1
    obtain ⟨⟨v2, h2⟩, e2, b2, f2, T2⟩ := m_feed_ok R1 Ir1.2.2.1 q a1 a2 a3 a4 a5
    dsimp only at b2 f2 T2
    subst b1
    subst b2
    have hs := hull_ge Ip.1.2.2.1.1
    have lo := f2.lo (fun c hc => by omega)
    have Q1 : QI h1 s A := Ip.1.keep R1 (f1.r _ _) (f1.r _ _) (fun c h1 h2 => e c (by omega)) (fun j _ => by rw [e 168 (by omega)]) (fun c hc => e c (by omega))
    have Ip1 : PI h1 s A n P (L + 20) (pB5 B L a1 a2 a3 a4 a5) X := ⟨Q1, Ip.2.1.fr (e 6 (by omega)) (fun c _ h2 => e c (by omega)), T1, by rw [e 168 (by omega)]; exact Ip.2.2.2⟩
    have Ix1 : PX h1 R0 RL b IS IA IX := Ix.same (by rw [e 0 (by omega)]) (fun c _ h2 _ => e c (by omega)) Ig.2.1 (fun k _ => f1.r _ _)
    have Ir2 : RI h2 A n P (L + 20) (pB5 B L a1 a2 a3 a4 a5) X := by
      obtain ⟨⟨m1, m2, m3⟩, ⟨p1, p2, p3⟩, _, x⟩ := Ir1
      exact ⟨⟨m1.fm f2, by rw [f2.i (by omega) (by omega)]; exact m2, m3⟩, ⟨p1, by rw [f2.f (by omega)]; exact p2, fun i hi k hk => by rw [f2.i (by omega) (by omega)]; exact p3 i hi k hk⟩, T2, by rw [f2.f (by omega)]; exact x⟩
    exact ⟨_, h1, h2, e1, e2, ⟨s, A, n, P, _, _, X, R0, RL, b, IS, IA, IX, Ip1.lo lo, Ix1.lo Ig.2.1 lo, Ir2, (Iy.keep c1).frm f2 (fun c hc => by omega) (by omega), Ig⟩, f1.1, f2.1.trans f1.1⟩
  · exact call_0 I0 (x_feed_no Ip.1.1 Ip.2.2.1 q a1 a2 a3 a4 a5) (m_feed_no Ir.2.2.1 q a1 a2 a3 a4 a5)
theorem cl_end (I : INV h) (x : Int32) : CALL (x_end 0 x) (m_end 193 x) h := by
  have I0 := I
  obtain ⟨s, A, n, P, L, B, X, R0, RL, b, IS, IA, IX, Ip, Ix, Ir, Iy, Ig⟩ := I
  by_cases q : ∃ k, k ≤ L ∧ x = nI k
  · obtain ⟨k, hk, rfl⟩ := q
    obtain ⟨e1, T1⟩ := x_end_t Ip.1.1 Ip.2.2.1 hk
    have f1 : Fr (· = 1) h (pm_setI h 1 1 (nI k)) := (Fr.refl _ h).setI rfl
    generalize pm_setI h 1 1 (nI k) = h1 at e1 T1 f1
    have e : ∀ c, c ≠ 1 → h1.2.1 c = h.2.1 c := fun c hc => (f1.2.2 c hc).1
    have c1 : ∀ c, 193 ≤ c → h1.2.1 c = h.2.1 c := fun c hc => e c (by omega)
    have R1 := Ip.1.1.fr f1
    have Ir1 := Ir.keep R1 c1
    obtain ⟨e2, T2⟩ := m_end_t Ir1.2.2.1 hk
    have f2 : FrM (fun _ => False) (· = 1) h1 (pm_setI h1 193 1 (nI k)) := (FrM.refl _ _ h1).setF rfl
    generalize pm_setI h1 193 1 (nI k) = h2 at e2 T2 f2
    have hs := hull_ge Ip.1.2.2.1.1
    have lo := f2.lo (fun c hc => hc.elim)
    have Q1 : QI h1 s A := Ip.1.keep R1 (f1.r _ _) (f1.r _ _) (fun c h1 h2 => e c (by omega)) (fun j _ => by rw [e 168 (by omega)]) (fun c hc => e c (by omega))
    have Ip1 : PI h1 s A n P k B X := ⟨Q1, Ip.2.1.fr (e 6 (by omega)) (fun c _ h2 => e c (by omega)), T1, by rw [e 168 (by omega)]; exact Ip.2.2.2⟩
    have Ix1 : PX h1 R0 RL b IS IA IX := Ix.same (by rw [e 0 (by omega)]) (fun c _ h2 _ => e c (by omega)) Ig.2.1 (fun k _ => f1.r _ _)
    have Ir2 : RI h2 A n P k B X := by
      obtain ⟨⟨m1, m2, m3⟩, ⟨p1, p2, p3⟩, _, x⟩ := Ir1
      exact ⟨⟨m1.fm f2, by rw [f2.i (by omega) id]; exact m2, m3⟩, ⟨p1, by rw [f2.f (by omega)]; exact p2, fun i hi k hk => by rw [f2.i (by omega) id]; exact p3 i hi k hk⟩, T2, by rw [f2.f (by omega)]; exact x⟩
    exact ⟨_, h1, h2, e1, e2, ⟨s, A, n, P, _, _, X, R0, RL, b, IS, IA, IX, Ip1.lo lo, Ix1.lo Ig.2.1 lo, Ir2, (Iy.keep c1).frm f2 (fun c hc => hc.elim) (by omega), Ig⟩, f1.1, f2.1.trans f1.1⟩
  · exact call_0 I0 (x_end_f Ip.1.1 Ip.2.2.1 q) (m_end_f Ir.2.2.1 q)
theorem cl_seed (I : INV h) (x : Int32) : CALL (x_seed 0 x) (m_seed 193 x) h := by
  have I0 := I
  obtain ⟨s, A, n, P, L, B, X, R0, RL, b, IS, IA, IX, Ip, Ix, Ir, Iy, Ig⟩ := I
  by_cases q : nI 0 ≤ x
  · obtain ⟨k, hk, rfl⟩ := nn_x q
    have e1 := x_seed_t Ip.1.1 q
    have f1 : Fr (· = 168) h (pm_setI h 168 5 (nI k)) := (Fr.refl _ h).setI rfl
    have x5 : (pm_setI h 168 5 (nI k)).2.1 168 5 = nI k := ri_s _
    have xj : ∀ j, j ≠ 5 → (pm_setI h 168 5 (nI k)).2.1 168 j = h.2.1 168 j := fun j hj => ri_j _ hj
    generalize pm_setI h 168 5 (nI k) = h1 at e1 f1 x5 xj
    have e : ∀ c, c ≠ 168 → h1.2.1 c = h.2.1 c := fun c hc => (f1.2.2 c hc).1
    have c1 : ∀ c, 193 ≤ c → h1.2.1 c = h.2.1 c := fun c hc => e c (by omega)
    have R1 := Ip.1.1.fr f1
    have Ir1 := Ir.keep R1 c1
    have e2 := m_seed_t (h := h1) q
    have f2 : FrM (fun _ => False) (· = 21) h1 (pm_setI h1 193 21 (nI k)) := (FrM.refl _ _ h1).setF rfl
    have y5 : (pm_setI h1 193 21 (nI k)).2.1 193 21 = nI k := ri_s _
    generalize pm_setI h1 193 21 (nI k) = h2 at e2 f2 y5
    rw [Ip.2.2.2] at e1
    rw [Ir1.2.2.2] at e2
    have hs := hull_ge Ip.1.2.2.1.1
    have lo := f2.lo (fun c hc => hc.elim)
    have Q1 : QI h1 s A := Ip.1.keep R1 (f1.r _ _) (f1.r _ _) (fun c h1 h2 => e c (by omega)) xj (fun c hc => e c (by omega))
    have Ip1 : PI h1 s A n P L B k := ⟨Q1, Ip.2.1.fr (e 6 (by omega)) (fun c _ h2 => e c (by omega)), Ip.2.2.1.eq (by rw [e 1 (by omega)]) (e 2 (by omega)), x5⟩
    have Ix1 : PX h1 R0 RL b IS IA IX := Ix.same (by rw [e 0 (by omega)]) (fun c _ h2 _ => e c (by omega)) Ig.2.1 (fun k _ => f1.r _ _)
    have Ir2 : RI h2 A n P L B k := by
      obtain ⟨⟨m1, m2, m3⟩, ⟨p1, p2, p3⟩, ⟨t1, t2, t3⟩, _⟩ := Ir1
      exact ⟨⟨m1.fm f2, by rw [f2.i (by omega) id]; exact m2, m3⟩, ⟨p1, by rw [f2.f (by omega)]; exact p2, fun i hi k hk => by rw [f2.i (by omega) id]; exact p3 i hi k hk⟩, ⟨by rw [f2.f (by omega)]; exact t1, t2, fun k hk => by rw [f2.i (by omega) id]; exact t3 k hk⟩, y5⟩
    exact ⟨_, h1, h2, e1, e2, ⟨s, A, n, P, L, B, k, R0, RL, b, IS, IA, IX, Ip1.lo lo, Ix1.lo Ig.2.1 lo, Ir2, (Iy.keep c1).frm f2 (fun c hc => hc.elim) (by omega), hk, Ig.2⟩, f1.1, f2.1.trans f1.1⟩
  · exact call_0 I0 (x_seed_f q) (m_seed_f q)
theorem cl_image (I : INV h) (x : Int32) : CALL (x_image 0 x) (m_image 193 x) h := by
  have I0 := I
  obtain ⟨s, A, n, P, L, B, X, R0, RL, b, IS, IA, IX, Ip, Ix, Ir, Iy, Ig⟩ := I
  by_cases q : ∃ k, k < 4 ∧ x = nI k
  · obtain ⟨k, hk, rfl⟩ := q
    obtain ⟨⟨v1, h1⟩, e1, b1, f1, W1, g1⟩ := x_image_ok Ip.1 Ig.2.2.2.1 Ip.2.2.2 Ig.1 hk
    dsimp only at b1 f1 W1 g1
    have e : ∀ c, ¬ (173 + 5 * k ≤ c ∧ c ≤ 173 + 5 * k + 4) → h1.2.1 c = h.2.1 c := fun c hc => (f1.2.2 c hc).1
    have rr : ∀ c j, ¬ (c = 173 + 5 * k ∧ j = 0) → h1.2.2.2 c j = h.2.2.2 c j := fun c j hc => f1.2.1 c j hc
    have c1 : ∀ c, 193 ≤ c → h1.2.1 c = h.2.1 c := fun c hc => e c (by omega)
    have R1 := f1.rf W1.1 Ip.1.1
    have Ir1 := Ir.keep R1 c1
    have Iy1 := Iy.keep c1
    obtain ⟨⟨v2, h2⟩, e2, b2, f2, G2, o2⟩ := m_image_ok Ir1.1 Ir1.2.2.2 hk
    dsimp only at b2 f2 G2 o2
    subst b1
    subst b2
    have hs := hull_ge Ip.1.2.2.1.1
    have lo := f2.lo (fun c hc => by omega)
    have Q1 : QI h1 s A := Ip.1.keep R1 (rr _ _ (by omega)) (rr _ _ (by omega)) (fun c h1 h2 => e c (by omega)) (fun j _ => by rw [e 168 (by omega)]) (fun c hc => e c (by omega))
    have Ip1 : PI h1 s A n P L B X := ⟨Q1, Ip.2.1.fr (e 6 (by omega)) (fun c _ h2 => e c (by omega)), Ip.2.2.1.eq (by rw [e 1 (by omega)]) (e 2 (by omega)), by rw [e 168 (by omega)]; exact Ip.2.2.2⟩
    have is := fun k hk hb => PX.is (k := k) Ix hk hb
    have r6 := Ig.2.1
    have Ix1 : PX h1 R0 RL (fun i => if i = k then true else b i) (fun i => if i = k then s else IS i) (fun i => if i = k then A else IA i) (fun i => if i = k then X else IX i) := by
      refine ⟨by rw [e 0 (by omega)]; exact Ix.1, fun r hr => (Ix.2.1 r hr).eq (by rw [e _ (by omega)]) (e _ (by omega)), fun i hi => ?_, fun i hi hb => ?_⟩
      · dsimp only
        by_cases z : i = k
        · rw [if_pos z, z]; exact g1
        · rw [if_neg z, e _ (by omega)]; exact Ix.2.2.1 i hi
      · dsimp only at hb ⊢
        by_cases z : i = k
        · rw [if_pos z, if_pos z, if_pos z, z]; exact W1
        · rw [if_neg z] at hb
          have := is i hi hb
          rw [if_neg z, if_neg z, if_neg z]
          exact (Ix.2.2.2 i hi hb).eq (rr _ _ (by omega)) (fun c h1 h2 => e c (by omega)) (fun c h1 h2 => e c (by omega))
    have Ir2 : RI h2 A n P L B X := by
      obtain ⟨⟨m1, m2, m3⟩, ⟨p1, p2, p3⟩, ⟨t1, t2, t3⟩, x⟩ := Ir1
      exact ⟨⟨m1.fm f2, by rw [f2.i (by omega) (by omega)]; exact m2, m3⟩, ⟨p1, by rw [f2.f id]; exact p2, fun i hi k hk => by rw [f2.i (by omega) (by omega)]; exact p3 i hi k hk⟩, ⟨by rw [f2.f id]; exact t1, t2, fun k hk => by rw [f2.i (by omega) (by omega)]; exact t3 k hk⟩, by rw [f2.f id]; exact x⟩
    have Iy2 : RX h2 R0 RL (fun i => if i = k then true else b i) (fun i => if i = k then A else IA i) (fun i => if i = k then X else IX i) := by
      refine ⟨by rw [f2.f id]; exact Iy1.1, fun r hr => (Iy1.2.1 r hr).same (fun j => by rw [f2.i (by omega) (by omega)]) (fun j => by rw [f2.i (by omega) (by omega)]) (fun j => by rw [f2.i (by omega) (by omega)]), fun i hi => ?_, fun i hi hb => ?_⟩
      · dsimp only
        by_cases z : i = k
        · rw [if_pos z, z]; exact G2.1
        · rw [if_neg z, (o2 i hi z).1]; exact Iy1.2.2.1 i hi
      · dsimp only at hb ⊢
        by_cases z : i = k
        · rw [if_pos z, if_pos z, z]; exact G2
        · rw [if_neg z] at hb
          rw [if_neg z, if_neg z]
          obtain ⟨g1, g2, g3⟩ := Iy1.2.2.2 i hi hb
          obtain ⟨o3, o4, o5⟩ := o2 i hi z
          exact ⟨by rw [o3]; exact g1, by rw [o4]; exact g2, fun j hj => by rw [o5 j hj]; exact g3 j hj⟩
    exact ⟨_, h1, h2, e1, e2, ⟨s, A, n, P, L, B, X, R0, RL, _, _, _, _, Ip1.lo lo, Ix1.lo Ig.2.1 lo, Ir2, Iy2, Ig⟩, f1.1, f2.1.trans f1.1⟩
  · exact call_0 I0 (x_image_no Ip.1 q) (m_image_no q)
end RES
