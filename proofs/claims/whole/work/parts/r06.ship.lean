/-! back, ship, rule: both answer alike, and stay alike. -/
section SHI
variable {h h' : pm_H} {s n L X R0 : Nat} {A : Nat → Int32} {P : Nat → Nat → Int32} {B : Nat → Nat} {RL : Nat → Cls} {b : Nat → Bool} {IS IX : Nat → Nat} {IA : Nat → Nat → Int32}
/-- what stands from 227 on doesn't matter -/
theorem QI.cut {D : Nat → Int32} (Q : QI h s D) (A : Nat → Int32) : QI h s (fun j => if j < 227 then D j else A j) := by
  have w := Q.2.2.2.2.2.1
  have d0 := w.d0
  have lo : LowS (fun j => if j < 227 then D j else A j) D := fun j hj => if_pos (by omega)
  have e26 : (fun j => if j < 227 then D j else A j) 226 = D 226 := if_pos (by omega)
  have n26 : an (fun j => if j < 227 then D j else A j) 226 = an D 226 := by unfold an; rw [e26]
  have ed : ∀ k, k < an D 226 → (fun j => if j < 227 then D j else A j) (206 + 2 * k) = D (206 + 2 * k) ∧ (fun j => if j < 227 then D j else A j) (206 + 2 * k + 1) = D (206 + 2 * k + 1) := fun k hk => ⟨if_pos (by omega), if_pos (by omega)⟩
  generalize (fun j => if j < 227 then D j else A j) = A' at lo e26 n26 ed ⊢
  have w' : WFA A' := WFA_low w lo (by rw [e26]; exact w.2.2.2.2.2.2.2.2.2.2.1) (fun k hk => by
    rw [n26] at hk
    rw [(ed k hk).1, (ed k hk).2]
    exact w.2.2.2.2.2.2.2.2.2.2.2 k hk)
  refine Q.tell (Fr.refl DF h) lo w' ?_
  obtain ⟨d1, d2, d3, d, d4, d5, d6⟩ := Q.2.2.2.2.1
  refine ⟨d1, by rw [e26]; exact d2, fun k hk => ?_, d, d4, d5, fun k hk => ?_⟩
  · rw [n26] at hk
    rw [(ed k hk).1]; exact d3 k hk
  · rw [n26] at hk
    rw [(ed k hk).2]; exact d6 k hk
theorem cl_back (I : INV h) (x : Int32) : CALL (x_back 0 x) (m_back 193 x) h := by
  have I0 := I
  obtain ⟨s, A, n, P, L, B, X, R0, RL, b, IS, IA, IX, Ip, Ix, Ir, Iy, Ig⟩ := I
  by_cases q : ∃ k, k < 4 ∧ x = nI k ∧ b k = true
  · obtain ⟨k, hk, rfl, hb⟩ := q
    have W := Ix.2.2.2 k hk hb
    have mk : h.2.1 (173 + 5 * k) 6 = nI 1 := by rw [Ix.2.2.1 k hk, hb]; rfl
    obtain ⟨⟨v1, h1⟩, e1, b1, Q1, x5, C1, f1⟩ := x_back_ok Ip.1 Ip.2.1 hk W mk
    dsimp only at b1 Q1 x5 C1 f1
    have e : ∀ c, ¬ (168 ≤ c ∧ c ≤ 172) → c ≠ 6 → ¬ (69 ≤ c ∧ c ≤ 76) → h1.2.1 c = h.2.1 c := fun c h1 h2 h3 => (f1.2.2 c (by unfold WC KC; omega)).1
    have c1 : ∀ c, 193 ≤ c → h1.2.1 c = h.2.1 c := fun c hc => e c (by omega) (by omega) (by omega)
    have Ir1 := Ir.keep Q1.1 c1
    have Iy1 := Iy.keep c1
    obtain ⟨⟨v2, h2⟩, e2, b2, f2, s2, y5, y28⟩ := m_back_ok Ir1.1 hk (Iy1.2.2.2 k hk hb)
    dsimp only at b2 f2 s2 y5 y28
    subst b1
    subst b2
    have lo := f2.lo (fun c hc => by omega)
    have Q1' := Q1.cut A
    have a4 : (fun j => if j < 227 then IA k j else A j) 4 = IA k 4 := if_pos (by omega)
    have h4 : an (fun j => if j < 227 then IA k j else A j) 4 ≤ 999 := by
      have := W.2.2.2.2.2.2.1
      unfold an at this ⊢
      rw [a4]
      exact this
    generalize (fun j => if j < 227 then IA k j else A j) = A' at Q1' s2 a4 h4
    have is := fun k hk hb => PX.is (k := k) Ix hk hb
    have r6 := Ig.2.1
    have Ip1 : PI h1 (IS k) A' 0 P L B (IX k) := ⟨Q1', C1, Ip.2.2.1.eq (by rw [e 1 (by omega) (by omega) (by omega)]) (e 2 (by omega) (by omega) (by omega)), x5⟩
    have Ix1 : PX h1 R0 RL b IS IA IX := Ix.same (by rw [e 0 (by omega) (by omega) (by omega)]) (fun c h1 h2 _ => e c (by omega) (by omega) (by omega)) Ig.2.1 (fun k hk => f1.2.1 _ _ (fun _ => by omega))
    have Ir2 : RI h2 A' 0 P L B (IX k) := by
      obtain ⟨⟨m1, m2, m3⟩, _, ⟨t1, t2, t3⟩, _⟩ := Ir1
      exact ⟨⟨m1.fm f2, s2, Q1'.2.2.2.2.2.1⟩, MP0 y28, ⟨by rw [f2.f (by omega)]; exact t1, t2, fun k hk => by rw [f2.i (by omega) (by omega)]; exact t3 k hk⟩, y5⟩
    exact ⟨_, h1, h2, e1, e2, ⟨IS k, A', 0, P, L, B, IX k, R0, RL, b, IS, IA, IX, Ip1.lo lo, Ix1.lo Ig.2.1 lo, Ir2, Iy1.frm f2 (fun c hc => by omega) (by omega), W.2.2.2.2.2.2.2.2, Ig.2.1, Ig.2.2.1, h4, PW0⟩, f1.1, f2.1.trans f1.1⟩
  · exact call_0 I0 (x_back_no Ip.1 Ix.2.2.1 q) (m_back_no Ir.1 Iy.2.2.1 q)
theorem PX.img (I : PX h R0 RL b IS IA IX) : IMG h b IS := fun k hk => ⟨I.2.2.1 k hk, fun hb => ⟨(I.2.2.2 k hk hb).2.1, (I.2.2.2 k hk hb).2.2.1.1⟩⟩
theorem cl_ship (I : INV h) : CALL (x_ship 0) (m_ship 193) h := by
  obtain ⟨s, A, n, P, L, B, X, R0, RL, b, IS, IA, IX, Ip, Ix, Ir, Iy, Ig⟩ := I
  obtain ⟨q, q7, sq, im, ⟨v1, h1⟩, e1, f1, t1, x5, hz⟩ := x_ship_n (D := zD (h.2.1 199)) (A0 := A) Ip.1 Ip.2.1 Ip.2.2.1 Ix.img Ip.2.2.2 Ig.1 zD_z
  dsimp only at f1 t1 x5 hz
  have hq := hull_ge q7
  have e : ∀ c, ¬ (168 ≤ c ∧ c ≤ 172) → c ≠ 1 → c ≠ 6 → ¬ (69 ≤ c ∧ c ≤ 76) → ¬ (q ≤ c ∧ c ≤ q + 9) → h1.2.1 c = h.2.1 c := fun c h1 h2 h3 h4 h5 => (f1.2.2 c (by unfold WC KC; omega)).1
  have c1 : ∀ c, 193 ≤ c → h1.2.1 c = h.2.1 c := fun c hc => e c (by omega) (by omega) (by omega) (by omega) (by omega)
  have is := fun k hk hb => PX.is (k := k) Ix hk hb
  have r6 := Ig.2.1
  have Ix1 : PX h1 R0 RL b IS IA IX := Ix.keep (by rw [e 0 (by omega) (by omega) (by omega) (by omega) (by omega)]) (fun r hr C => C.eq (by rw [e _ (by omega) (by omega) (by omega) (by omega) (by omega)]) (e _ (by omega) (by omega) (by omega) (by omega) (by omega))) (fun c h1 h2 => e c (by omega) (by omega) (by omega) (by omega) (by omega)) (fun k hk hb c h1 h2 => by
      have i1 := is k hk hb
      have i2 := hulls_apart (Ix.2.2.2 k hk hb).2.2.1.1 q7 (im k hk hb)
      exact e c (by omega) (by omega) (by omega) (by omega) (by omega)) (fun k hk => f1.2.1 _ _ (fun _ => by omega))
  have R1 : RF h1 := by
    cases es : shP B L 41 0 (skp B L 0) (zD (h.2.1 199)) with
    | inl e => rw [es] at hz; exact hz.2.1.1
    | inr D' => rw [es] at hz; exact hz.2.1.1
  have Ir1 := Ir.keep R1 c1
  have Iy1 := Iy.keep c1
  obtain ⟨⟨v2, h2⟩, e2, f2, t2, hy⟩ := m_ship_n Ir1.1 Ir1.2.2.1
  dsimp only at f2 t2 hy
  rw [c1 199 (by omega)] at hy
  have lo := f2.lo (fun c hc => by omega)
  have Iy2 : RX h2 R0 RL b IA IX := Iy1.frm f2 (fun c hc => by omega) (by omega)
  have y5 : h2.2.1 193 21 = nI X := by rw [f2.f (by omega)]; exact Ir1.2.2.2
  have R2 := R1.fm f2
  cases es : shP B L 41 0 (skp B L 0) (zD (h.2.1 199)) with
  | inl er =>
    rw [es] at hz hy
    obtain ⟨z1, Q1, g1⟩ := hz
    obtain ⟨y1, s2, y28⟩ := hy
    subst z1
    subst y1
    have Ip1 : PI h1 s A n P 0 B X := ⟨Q1, Ip.2.1.fr (g1.2.2 6 (by omega)).1 (fun c _ h2 => (g1.2.2 c (by omega)).1), CT.nil t1, x5⟩
    have Ir2 : RI h2 A n P 0 B X := by
      obtain ⟨⟨m1, m2, m3⟩, ⟨p1, p2, p3⟩, _, _⟩ := Ir1
      exact ⟨⟨R2, s2, m3⟩, ⟨p1, by rw [y28]; exact p2, fun i hi k hk => by rw [f2.i (by omega) (by omega)]; exact p3 i hi k hk⟩, MT.nil t2, y5⟩
    exact ⟨_, h1, h2, e1, e2, ⟨s, A, n, P, 0, B, X, R0, RL, b, IS, IA, IX, Ip1.lo lo, Ix1.lo Ig.2.1 lo, Ir2, Iy2, Ig⟩, f1.1, f2.1.trans f1.1⟩
  | inr D' =>
    rw [es] at hz hy
    obtain ⟨z1, Q1, C1⟩ := hz
    obtain ⟨y1, s2, y28⟩ := hy
    subst z1
    subst y1
    have W := (shP_wr (B := B) (L := L) 41 0 (skp B L 0) (zD (h.2.1 199)) D' rfl (zD_z (D := h.2.1 199)).bt.1 (skp_ge (B := B) (Nat.zero_le L)).2 es).1
    have h4 : an (begA D' A) 4 ≤ 999 := by rw [(begA_wf W A).2]; omega
    have Ip1 : PI h1 q (begA D' A) 0 P 0 B X := ⟨Q1, C1, CT.nil t1, x5⟩
    have Ir2 : RI h2 (begA D' A) 0 P 0 B X := ⟨⟨R2, s2, Q1.2.2.2.2.2.1⟩, MP0 y28, MT.nil t2, y5⟩
    exact ⟨_, h1, h2, e1, e2, ⟨q, _, 0, P, 0, B, X, R0, RL, b, IS, IA, IX, Ip1.lo lo, Ix1.lo Ig.2.1 lo, Ir2, Iy2, Ig.1, Ig.2.1, Ig.2.2.1, h4, PW0⟩, f1.1, f2.1.trans f1.1⟩
theorem cl_rule (I : INV h) : CALL (x_rule 0) (m_rule 193) h := by
  have I0 := I
  obtain ⟨s, A, n, P, L, B, X, R0, RL, b, IS, IA, IX, Ip, Ix, Ir, Iy, Ig⟩ := I
  by_cases h6 : R0 < 6
  · obtain ⟨⟨v1, h1⟩, e1, f1, Q1, t1, j1, hz⟩ := x_rule_ok Ip.1 Ip.2.2.1 h6 Ix.1
    dsimp only at f1 Q1 t1 j1 hz
    have e : ∀ c, c ≠ 0 → c ≠ 1 → c ≠ 90 + 3 * R0 → c ≠ 90 + 3 * R0 + 1 → h1.2.1 c = h.2.1 c := fun c h1 h2 h3 h4 => (f1.2.2 c (by omega)).1
    have c1 : ∀ c, 193 ≤ c → h1.2.1 c = h.2.1 c := fun c hc => e c (by omega) (by omega) (by omega) (by omega)
    have is := fun k hk hb => PX.is (k := k) Ix hk hb
    have Ir1 := Ir.keep Q1.1 c1
    have Iy1 := Iy.keep c1
    obtain ⟨⟨v2, h2⟩, e2, f2, t2, hy⟩ := m_rule_ok Q1.1 Ir1.2.2.1 h6 Iy1.1
    dsimp only at f2 t2 hy
    have lo := f2.1.lo (fun c hc => by omega)
    have Ip1 : PI h1 s A n P 0 B X := ⟨Q1, Ip.2.1.fr (e 6 (by omega) (by omega) (by omega) (by omega)) (fun c _ h2 => e c (by omega) (by omega) (by omega) (by omega)), CT.nil t1, by rw [e 168 (by omega) (by omega) (by omega) (by omega)]; exact Ip.2.2.2⟩
    have Ir2 : RI h2 A n P 0 B X := by
      obtain ⟨⟨m1, m2, m3⟩, ⟨p1, p2, p3⟩, _, x⟩ := Ir1
      exact ⟨⟨m1.fm f2.1, by rw [f2.1.i (by omega) (by omega)]; exact m2, m3⟩, ⟨p1, by rw [f2.1.f (by omega)]; exact p2, fun i hi k hk => by rw [f2.1.i (by omega) (by omega)]; exact p3 i hi k hk⟩, MT.nil t2, by rw [f2.1.f (by omega)]; exact x⟩
    have rc : ∀ r, r < R0 → RC h1 (90 + 3 * r) (RL r) := fun r hr => (Ix.2.1 r hr).eq (by rw [e _ (by omega) (by omega) (by omega) (by omega)]) (e _ (by omega) (by omega) (by omega) (by omega))
    have rm : ∀ r, r < R0 → RM h2 r (RL r) := fun r hr => f2.rm (by omega) (Iy1.2.1 r hr)
    have im : ∀ k, k < 4 → h1.2.1 (173 + 5 * k) 6 = nI (b k).toNat := fun k hk => by rw [e _ (by omega) (by omega) (by omega) (by omega)]; exact Ix.2.2.1 k hk
    have wl : ∀ k, k < 4 → b k = true → WLD h1 (173 + 5 * k) (IS k) (IA k) (IX k) := fun k hk hb => (Ix.2.2.2 k hk hb).eq (f1.r _ _) (fun c h1 h2 => by
      have := is k hk hb
      exact e c (by omega) (by omega) (by omega) (by omega)) (fun c h1 h2 => e c (by omega) (by omega) (by omega) (by omega))
    have g1 : ∀ k, k < 4 → h2.2.1 213 k = nI (b k).toNat := fun k hk => by rw [f2.1.i (by omega) (by omega)]; exact Iy1.2.2.1 k hk
    have g2 : ∀ k, k < 4 → b k = true → MG h2 k (IA k) (IX k) := fun k hk hb => by
      obtain ⟨g1, g2, g3⟩ := Iy1.2.2.2 k hk hb
      exact ⟨by rw [f2.1.i (by omega) (by omega)]; exact g1, by rw [f2.1.i (by omega) (by omega)]; exact g2, fun i hi => by rw [f2.1.i (by omega) (by omega)]; exact g3 i hi⟩
    cases es : rulP B L 13 0 0 [] (skp B L 0) with
    | inl er =>
      rw [es] at hz hy
      obtain ⟨z1, z2⟩ := hz
      obtain ⟨y1, y2⟩ := hy
      subst z1
      subst y1
      have Ix1 : PX h1 R0 RL b IS IA IX := ⟨z2, rc, im, wl⟩
      exact ⟨_, h1, h2, e1, e2, ⟨s, A, n, P, 0, B, X, R0, RL, b, IS, IA, IX, Ip1.lo lo, Ix1.lo Ig.2.1 lo, Ir2, ⟨y2, rm, g1, g2⟩, Ig⟩, f1.1, f2.1.1.trans f1.1⟩
    | inr cls =>
      rw [es] at hz hy
      obtain ⟨z1, z2, z3⟩ := hz
      obtain ⟨y1, y2, y3⟩ := hy
      subst z1
      subst y1
      have okc := rulP_ok (B := B) (L := L) 13 0 0 [] (skp B L 0) cls es (skp_ge (B := B) (Nat.zero_le L)).2 (skp_ca (Nat.zero_le L)) (by omega) (fun c hc => by cases hc)
      have Ix1 : PX h1 (R0 + 1) (fun r => if r = R0 then cls else RL r) b IS IA IX := ⟨z2, fun r hr => by
        dsimp only
        by_cases z : r = R0
        · rw [if_pos z, z]; exact z3
        · rw [if_neg z]; exact rc r (by omega), im, wl⟩
      have Iy2 : RX h2 (R0 + 1) (fun r => if r = R0 then cls else RL r) b IA IX := ⟨y2, fun r hr => by
        dsimp only
        by_cases z : r = R0
        · rw [if_pos z, z]; exact y3
        · rw [if_neg z]; exact rm r (by omega), g1, g2⟩
      refine ⟨_, h1, h2, e1, e2, ⟨s, A, n, P, 0, B, X, R0 + 1, _, b, IS, IA, IX, Ip1.lo lo, Ix1.lo (by omega) lo, Ir2, Iy2, Ig.1, by omega, fun r hr => ?_, Ig.2.2.2⟩, f1.1, f2.1.1.trans f1.1⟩
      dsimp only
      by_cases z : r = R0
      · rw [if_pos z]; exact okc
      · rw [if_neg z]; exact Ig.2.2.1 r (by omega)
  · have r6 : R0 = 6 := by have := Ig.2.1; omega
    subst r6
    exact call_0 I0 (x_rule_no Ip.1 Ix.1) (m_rule_no Iy.1)
end SHI
