/-! done, undo, run, the tape, the seed, images: both answer alike, and stay alike. -/
section MOR
variable {h h' : pm_H} {s n L X R0 : Nat} {A : Nat → Int32} {P : Nat → Nat → Int32} {B : Nat → Nat} {RL : Nat → Cls} {b : Nat → Bool} {IS IX : Nat → Nat} {IA : Nat → Nat → Int32}
theorem w_tell_5 (R : RF h) {x y : Int32} (e : w_tell 168 x y h = some h') : h'.2.1 168 5 = h.2.1 168 5 := by
  unfold w_tell at e
  split at e
  · cases e; rfl
  · split at e
    · rw [rf_w3 R (by decide +kernel), Option.bind_some] at e
      split at e
      · unfold bd w_tell_56 bd at e
        split at e
        · cases e
          rw [ri_j _ (by omega), ri_j _ (by omega), ri_c _ (by omega)]
        · cases e
          rw [ri_j _ (by omega), ri_j _ (by omega), ri_c _ (by omega)]
      · cases e
    · cases e; rfl
theorem x_done_5 (R : RF h) {x y : Int32} {r : Int32 × pm_H} (e : x_done 0 x y h = some r) : r.2.2.1 168 5 = h.2.1 168 5 := by
  unfold x_done at e
  split at e
  · rw [ra_0_4 R, Option.bind_some] at e
    obtain ⟨y3, _, e⟩ := ob_x e
    obtain ⟨q4, _, e⟩ := ob_x e
    split at e
    · cases e; rfl
    · rw [Option.bind_some] at e
      split at e
      · rw [Option.bind_some] at e
        obtain ⟨q9, e9, e⟩ := ob_x e
        obtain ⟨y10, _, e⟩ := ob_x e
        cases e
        exact w_tell_5 R e9
      · cases e; rfl
  · rw [ra_0_4 R, Option.bind_some] at e
    unfold bd at e
    cases e
    exact ri_j _ (by omega)
theorem cl_done (I : INV h) (x : Int32) (z : Bool) : CALL (x_done 0 x (nI z.toNat)) (m_done 193 x (nI z.toNat)) h := by
  have I0 := I
  obtain ⟨s, A, n, P, L, B, X, R0, RL, b, IS, IA, IX, Ip, Ix, Ir, Iy, Ig⟩ := I
  have w := Ir.1.2.2
  have go : ∀ (v : Int32) (A' : Nat → Int32), LowS A' A → SP (x_done 0 x (nI z.toNat) h) (fun r => r.1 = v ∧ Fr DF h r.2 ∧ QI r.2 s A') → (∀ h1, MI h1 A → SP (m_done 193 x (nI z.toNat) h1) (fun r => r.1 = v ∧ FrM (· = 203) (fun _ => False) h1 r.2 ∧ MI r.2 A')) → (∀ j, j < 206 → A' j = A j) → CALL (x_done 0 x (nI z.toNat)) (m_done 193 x (nI z.toNat)) h := by
    intro v A' low hx km e206
    obtain ⟨⟨v1, h1⟩, e1, a1, f1, Q1⟩ := hx
    dsimp only at a1 f1 Q1
    have x5 : h1.2.1 168 5 = nI X := by rw [x_done_5 Ip.1.1 e1]; exact Ip.2.2.2
    have e : ∀ c, c ≠ 168 ∧ c ≠ 172 → h1.2.1 c = h.2.1 c := fun c hc => (f1.2.2 c (by unfold DF; omega)).1
    have c1 : ∀ c, 193 ≤ c → h1.2.1 c = h.2.1 c := fun c hc => e c (by omega)
    have Ir1 := Ir.keep Q1.1 c1
    obtain ⟨⟨v2, h2⟩, e2, a2, f2, M2⟩ := km h1 Ir1.1
    dsimp only at a2 f2 M2
    subst a1
    subst a2
    have lo := f2.lo (fun c hc => by omega)
    have Ip1 : PI h1 s A' n P L B X := ⟨Q1, Ip.2.1.fr (e 6 (by omega)) (fun c _ h2 => e c (by omega)), Ip.2.2.1.eq (by rw [e 1 (by omega)]) (e 2 (by omega)), x5⟩
    have Ix1 : PX h1 R0 RL b IS IA IX := Ix.same (by rw [e 0 (by omega)]) (fun c _ h2 _ => e c (by omega)) Ig.2.1 (fun k _ => f1.r _ _)
    have Ir2 : RI h2 A' n P L B X := by
      obtain ⟨_, ⟨p1, p2, p3⟩, ⟨t1, t2, t3⟩, x⟩ := Ir1
      exact ⟨M2, ⟨p1, by rw [f2.f id]; exact p2, fun i hi k hk => by rw [f2.i (by omega) (by omega)]; exact p3 i hi k hk⟩, ⟨by rw [f2.f id]; exact t1, t2, fun k hk => by rw [f2.i (by omega) (by omega)]; exact t3 k hk⟩, by rw [f2.f id]; exact x⟩
    have h4 : an A' 4 ≤ 999 := by unfold an; rw [e206 4 (by omega)]; exact Ig.2.2.2.1
    have mx : ∀ i j, j < 206 → mix (P i) A' j = mix (P i) A j := fun i j hj => by
      unfold mix
      by_cases q : j < 58
      · rw [if_pos q, if_pos q]
      · rw [if_neg q, if_neg q, e206 j hj]
    have PW' : PW_ A' n P := by
      intro i hi
      obtain ⟨w1, w2, w3⟩ := Ig.2.2.2.2 i hi
      have s58 : ∀ j, 58 ≤ j → mix (P i) A' j = A' j := fun j hj => by unfold mix; rw [if_neg (by omega)]
      have w' := M2.2.2
      have n2 : an (mix (P i) A') 2 = an A' 2 := by
        unfold an
        rw [mx i 2 (by omega), w1.1 2 (by omega), e206 2 (by omega)]
      refine ⟨⟨fun j hj => ?_, fun m => ?_, fun j hj => s58 j hj⟩, ?_, w3⟩
      · rw [mx i j (by omega), w1.1 j hj, e206 j (by omega)]
      · by_cases q : 10 + 6 * m + 1 < 58
        · rw [mx i _ (by omega), mx i _ (by omega), (w1.2.1 m).1, (w1.2.1 m).2, e206 _ (by omega), e206 _ (by omega)]
          exact ⟨rfl, rfl⟩
        · refine ⟨?_, s58 _ (by omega)⟩
          by_cases q2 : 10 + 6 * m < 58
          · omega
          · exact s58 _ (by omega)
      · refine WFA_low w2 (fun j hj => mx i j hj) (by rw [s58 226 (by omega)]; exact w'.2.2.2.2.2.2.2.2.2.2.1) (fun k hk => ?_)
        have e26 : an (mix (P i) A') 226 = an A' 226 := by unfold an; rw [s58 226 (by omega)]
        rw [e26] at hk
        have d0 := w'.d0
        have q := w'.2.2.2.2.2.2.2.2.2.2.2 k hk
        have n2' : an (mix (P i) A) 2 = an A' 2 := by
          unfold an
          rw [w1.1 2 (by omega), e206 2 (by omega)]
        rw [s58 _ (by omega), s58 _ (by omega), n2']
        exact q
    exact ⟨_, h1, h2, e1, e2, ⟨s, A', n, P, L, B, X, R0, RL, b, IS, IA, IX, Ip1.lo lo, Ix1.lo Ig.2.1 lo, Ir2, (Iy.keep c1).frm f2 (fun c hc => by omega) id, Ig.1, Ig.2.1, Ig.2.2.1, h4, PW'⟩, f1.1, f2.1.trans f1.1⟩
  by_cases q1 : x = ng 1
  · subst q1
    exact go _ _ (clr_wf w).1 (x_done_clr Ip.1 _) (fun h1 M1 => m_done_clr M1 _) (clr_wf w).1
  · by_cases q : ∃ o, x = nI o ∧ o < an A 2 ∧ an A 226 < 10
    · obtain ⟨o, rfl, ho, hn⟩ := q
      exact go _ _ (tell_wf w z ho hn).1 (x_done_ok Ip.1 z ho hn) (fun h1 M1 => m_done_ok M1 z ho hn) (tell_wf w z ho hn).1
    · exact call_0 I0 (x_done_no Ip.1 q1 q) (m_done_no Ir.1 q1 q)
theorem cl_undo (I : INV h) : CALL (x_undo 0) (m_undo 193) h := by
  have I0 := I
  obtain ⟨s, A, n, P, L, B, X, R0, RL, b, IS, IA, IX, Ip, Ix, Ir, Iy, Ig⟩ := I
  obtain ⟨⟨v1, h1⟩, e1, a1⟩ := x_undo_sp Ip.1 Ip.2.1 Ig.2.2.2.2
  rcases a1 with ⟨n0, a1⟩ | ⟨n0, a1, f1, Q1, C1⟩
  · obtain ⟨z2, e2, a2⟩ := m_undo_sp Ir.1 Ir.2.1
    rcases a2 with ⟨_, a2⟩ | ⟨n1, _⟩
    · rw [a1] at e1
      rw [a2] at e2
      exact call_0 I0 e1 e2
    · omega
  · dsimp only at a1 f1 Q1 C1
    have e : ∀ c, ¬ AF c → h1.2.1 c = h.2.1 c := fun c hc => (f1.2.2 c hc).1
    have c1 : ∀ c, 193 ≤ c → h1.2.1 c = h.2.1 c := fun c hc => e c (by unfold AF; omega)
    have Ir1 := Ir.keep Q1.1 c1
    obtain ⟨⟨v2, h2⟩, e2, a2⟩ := m_undo_sp Ir1.1 Ir1.2.1
    rcases a2 with ⟨n1, _⟩ | ⟨_, a2, f2, P2, s2⟩
    · omega
    · dsimp only at a2 f2 P2 s2
      subst a1
      subst a2
      have lo := f2.lo (fun c hc => by omega)
      have Ip1 : PI h1 s (mix (P 0) A) (n - 1) (fun i => P (i + 1)) L B X := ⟨Q1, C1, Ip.2.2.1.eq (by rw [e 1 (by unfold AF; omega)]) (e 2 (by unfold AF; omega)), by rw [e 168 (by unfold AF; omega)]; exact Ip.2.2.2⟩
      have Ix1 : PX h1 R0 RL b IS IA IX := Ix.same (by rw [e 0 (by unfold AF; omega)]) (fun c h1 h2 h3 => e c (by unfold AF; omega)) Ig.2.1 (fun k _ => f1.r _ _)
      have Ir2 : RI h2 (mix (P 0) A) (n - 1) (fun i => P (i + 1)) L B X := by
        obtain ⟨M, _, ⟨t1, t2, t3⟩, x⟩ := Ir1
        exact ⟨⟨M.1.fm f2, s2, Q1.2.2.2.2.2.1⟩, P2, ⟨by rw [f2.f (by omega)]; exact t1, t2, fun k hk => by rw [f2.i (by omega) (by omega)]; exact t3 k hk⟩, by rw [f2.f (by omega)]; exact x⟩
      obtain ⟨w1, w2, w3⟩ := Ig.2.2.2.2 0 n0
      have h4 : an (mix (P 0) A) 4 ≤ 999 := by
        have : mix (P 0) A 4 = P 0 4 := by unfold mix; rw [if_pos (by omega)]
        unfold an
        rw [this]
        exact w3
      have PW' : PW_ (mix (P 0) A) (n - 1) (fun i => P (i + 1)) := by
        intro i hi
        obtain ⟨u1, u2, u3⟩ := Ig.2.2.2.2 (i + 1) (by omega)
        rw [mix_same w1]
        exact ⟨u1.trans w1.symm, u2, u3⟩
      exact ⟨_, h1, h2, e1, e2, ⟨s, _, _, _, L, B, X, R0, RL, b, IS, IA, IX, Ip1.lo lo, Ix1.lo Ig.2.1 lo, Ir2, (Iy.keep c1).frm f2 (fun c hc => by omega) (by omega), Ig.1, Ig.2.1, Ig.2.2.1, h4, PW'⟩, f1.1, f2.1.trans f1.1⟩
theorem PW0 : PW_ A 0 P := fun i hi => absurd hi (Nat.not_lt_zero i)
theorem MP0 (e : h.2.1 193 28 = nI 0) : MP h 0 P := ⟨by omega, e, fun i hi => absurd hi (Nat.not_lt_zero i)⟩
theorem cl_run (I : INV h) (x y : Int32) : CALL (x_run 0 x y) (m_run 193 x y) h := by
  have I0 := I
  obtain ⟨s, A, n, P, L, B, X, R0, RL, b, IS, IA, IX, Ip, Ix, Ir, Iy, Ig⟩ := I
  have w := Ir.1.2.2
  by_cases q : ∃ r k, x = nI r ∧ y = nI k ∧ runOk A R0 r k
  · obtain ⟨r, k, rfl, rfl, ok⟩ := q
    have r6 := Ig.2.1
    have rR := ok.2.1
    obtain ⟨⟨v1, h1⟩, e1, a1, Q1, C1, h0, f0, eh⟩ := x_run_ok Ip.1 Ip.2.1 Ix.1 Ig.2.1 ok (Ix.2.1 r rR) (Ig.2.2.1 r rR)
    dsimp only at a1 Q1 C1 eh
    have e : ∀ c, ¬ ((90 ≤ c ∧ c ≤ 107) ∨ (169 ≤ c ∧ c ≤ 171)) → c ≠ 6 → h1.2.1 c = h.2.1 c := fun c hc h6 => by
      rw [eh]
      funext j
      rw [ri_c _ h6, (f0.1.2.2 c hc).1]
    have c1 : ∀ c, 193 ≤ c → h1.2.1 c = h.2.1 c := fun c hc => e c (by omega) (by omega)
    have rr : ∀ c j, h1.2.2.2 c j = h.2.2.2 c j := fun c j => by rw [eh]; exact f0.1.r c j
    have sh : h1.1 = h.1 := by rw [eh]; exact f0.1.1
    have Ir1 := Ir.keep Q1.1 c1
    have Iy1 := Iy.keep c1
    obtain ⟨⟨v2, h2⟩, e2, a2, M2, f2⟩ := m_run_ok Ir1.1 Iy1.1 Ig.2.1 ok (Iy1.2.1 r rR) (Ig.2.2.1 r rR)
    dsimp only at a2 M2 f2
    subst a1
    subst a2
    have g2 : Fr (fun c => 193 ≤ c) h1 (pm_setI h1 193 28 (nI 0)) := (Fr.refl _ h1).setI (by omega)
    have lo := g2.trans f2.lo
    have h4 : an (rnH (RL r) k A) 4 ≤ 999 := by
      have := ok.2.2.2.2
      unfold an
      rw [rnH_4 w k, nx_cl (by omega)]
      exact this
    have Ip1 : PI h1 s (rnH (RL r) k A) 0 P L B X := ⟨Q1, C1, Ip.2.2.1.eq (by rw [e 1 (by omega) (by omega)]) (e 2 (by omega) (by omega)), by rw [e 168 (by omega) (by omega)]; exact Ip.2.2.2⟩
    have is := fun k hk hb => PX.is (k := k) Ix hk hb
    have Ix1 : PX h1 R0 RL b IS IA IX := Ix.keep (by rw [e 0 (by omega) (by omega)]) (fun r' hr' C => by
      have C' := f0.rc (by omega) C
      rw [eh]
      exact C'.eq (ri_c _ (by omega)) (by funext j; exact ri_c _ (by omega))) (fun c h1 h2 => e c (by omega) (by omega)) (fun k hk hb c h1 h2 => e c (by have := is k hk hb; omega) (by have := is k hk hb; omega)) (fun k _ => rr _ _)
    have fc := f2.2.2.2.1
    have ff := f2.2.2.2.2
    have Ir2 : RI h2 (rnH (RL r) k A) 0 P L B X := by
      obtain ⟨_, _, ⟨t1, t2, t3⟩, x⟩ := Ir1
      exact ⟨M2, MP0 (by rw [ff 28 (by simp), ri_s]), ⟨by rw [ff 1 (by simp), ri_j _ (by omega)]; exact t1, t2, fun k hk => by rw [fc 194 (by simp), ri_c _ (by omega)]; exact t3 k hk⟩, by rw [ff 21 (by simp), ri_j _ (by omega)]; exact x⟩
    have Iy2 : RX h2 R0 RL b IA IX := (Iy1.frm (C := fun _ => False) (F := (· = 28)) ((FrM.refl _ _ h1).setF rfl) (fun c hc => hc.elim) (by omega)).fn f2
    exact ⟨_, h1, h2, e1, e2, ⟨s, _, 0, P, L, B, X, R0, RL, b, IS, IA, IX, Ip1.lo lo, Ix1.lo Ig.2.1 lo, Ir2, Iy2, Ig.1, Ig.2.1, Ig.2.2.1, h4, PW0⟩, sh, (f2.1.trans g2.1).trans sh⟩
  · exact call_0 I0 (x_run_no Ip.1 Ig.2.2.2.1 Ix.1 Ig.2.1 q) (m_run_no Ir.1 Iy.1 Ig.2.1 q)
end MOR
