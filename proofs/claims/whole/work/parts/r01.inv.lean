/-! THE INVARIANT of both sides, and what keeps it. -/
abbrev Cls := List (List Nat × Option (List Nat))
/-- rules and images of the program -/
def PX (h : pm_H) (R0 : Nat) (RL : Nat → Cls) (b : Nat → Bool) (IS : Nat → Nat) (IA : Nat → Nat → Int32) (IX : Nat → Nat) : Prop :=
  h.2.1 0 2 = nI R0 ∧ (∀ r, r < R0 → RC h (90 + 3 * r) (RL r)) ∧ (∀ k, k < 4 → h.2.1 (173 + 5 * k) 6 = nI (b k).toNat) ∧ ∀ k, k < 4 → b k = true → WLD h (173 + 5 * k) (IS k) (IA k) (IX k)
/-- rules and images of the reference -/
def RX (h : pm_H) (R0 : Nat) (RL : Nat → Cls) (b : Nat → Bool) (IA : Nat → Nat → Int32) (IX : Nat → Nat) : Prop :=
  h.2.1 193 2 = nI R0 ∧ (∀ r, r < R0 → RM h r (RL r)) ∧ (∀ k, k < 4 → h.2.1 213 k = nI (b k).toNat) ∧ ∀ k, k < 4 → b k = true → MG h k (IA k) (IX k)
def PI (h : pm_H) (s : Nat) (A : Nat → Int32) (n : Nat) (P : Nat → Nat → Int32) (L : Nat) (B : Nat → Nat) (X : Nat) : Prop := QI h s A ∧ CP h n P ∧ CT h L B ∧ h.2.1 168 5 = nI X
def RI (h : pm_H) (A : Nat → Int32) (n : Nat) (P : Nat → Nat → Int32) (L : Nat) (B : Nat → Nat) (X : Nat) : Prop := MI h A ∧ MP h n P ∧ MT h L B ∧ h.2.1 193 21 = nI X
def GI (A : Nat → Int32) (n : Nat) (P : Nat → Nat → Int32) (X R0 : Nat) (RL : Nat → Cls) : Prop := X < 2147483648 ∧ R0 ≤ 6 ∧ (∀ r, r < R0 → ∀ c ∈ RL r, clOK c) ∧ an A 4 ≤ 999 ∧ PW_ A n P
def INV (h : pm_H) : Prop := ∃ s A n P L B X R0 RL b IS IA IX, PI h s A n P L B X ∧ PX h R0 RL b IS IA IX ∧ RI h A n P L B X ∧ RX h R0 RL b IA IX ∧ GI A n P X R0 RL
/-- a call of both: the same answer, and the invariant afterwards -/
def CALL (x m : pm_H → Option (Int32 × pm_H)) (h : pm_H) : Prop := ∃ v h1 h2, x h = some (v, h1) ∧ m h1 = some (v, h2) ∧ INV h2 ∧ h1.1 = h.1 ∧ h2.1 = h.1
section KEE
variable {h h' : pm_H} {s n L X R0 : Nat} {A : Nat → Int32} {P : Nat → Nat → Int32} {B : Nat → Nat} {RL : Nat → Cls} {b : Nat → Bool} {IS IX : Nat → Nat} {IA : Nat → Nat → Int32}
/-- the reference stays as it is where the program works -/
theorem RI.keep (I : RI h A n P L B X) (R : RF h') (e : ∀ c, 193 ≤ c → h'.2.1 c = h.2.1 c) : RI h' A n P L B X := by
  obtain ⟨⟨_, a, w⟩, ⟨p1, p2, p3⟩, ⟨t1, t2, t3⟩, x⟩ := I
  refine ⟨⟨R, by rw [e 203 (by omega)]; exact a, w⟩, ⟨p1, by rw [e 193 (by omega)]; exact p2, fun i hi k hk => by rw [e 208 (by omega)]; exact p3 i hi k hk⟩, ⟨by rw [e 193 (by omega)]; exact t1, t2, fun k hk => by rw [e 194 (by omega)]; exact t3 k hk⟩, by rw [e 193 (by omega)]; exact x⟩
theorem RX.keep (I : RX h R0 RL b IA IX) (e : ∀ c, 193 ≤ c → h'.2.1 c = h.2.1 c) : RX h' R0 RL b IA IX := by
  obtain ⟨a, r, i, g⟩ := I
  refine ⟨by rw [e 193 (by omega)]; exact a, fun x hx => (r x hx).same (fun j => by rw [e 195 (by omega)]) (fun j => by rw [e 197 (by omega)]) (fun j => by rw [e 198 (by omega)]), fun k hk => by rw [e 213 (by omega)]; exact i k hk, fun k hk hb => ?_⟩
  obtain ⟨g1, g2, g3⟩ := g k hk hb
  exact ⟨by rw [e 213 (by omega)]; exact g1, by rw [e 212 (by omega)]; exact g2, fun i hi => by rw [e 211 (by omega)]; exact g3 i hi⟩
theorem CSh.eq (S : CSh h s A) (e : ∀ c, s ≤ c → c ≤ s + 9 → h'.2.1 c = h.2.1 c) : CSh h' s A := by
  unfold CSh at *
  rw [e s (by omega) (by omega), e (s + 1) (by omega) (by omega), e (s + 2) (by omega) (by omega), e (s + 3) (by omega) (by omega), e (s + 4) (by omega) (by omega), e (s + 5) (by omega) (by omega), e (s + 6) (by omega) (by omega), e (s + 7) (by omega) (by omega), e (s + 8) (by omega) (by omega), e (s + 9) (by omega) (by omega)]
  exact S
/-- the questions' cells stay as they are; of cell 168 field 5 may change -/
theorem QI.keep (Q : QI h s A) (R : RF h') (r0 : h'.2.2.2 168 0 = h.2.2.2 168 0) (r1 : h'.2.2.2 69 0 = h.2.2.2 69 0) (eh : ∀ c, s ≤ c → c ≤ s + 9 → h'.2.1 c = h.2.1 c) (e8 : ∀ j, j ≠ 5 → h'.2.1 168 j = h.2.1 168 j) (e : ∀ c, c = 69 ∨ c = 74 ∨ c = 75 ∨ (169 ≤ c ∧ c ≤ 172) → h'.2.1 c = h.2.1 c) : QI h' s A := by
  obtain ⟨_, h1, S, H, D, w, C⟩ := Q
  obtain ⟨d1, d2, d3, d, d4, d5, d6⟩ := D
  exact ⟨R, by rw [r0]; exact h1, S.eq eh, H.of (e 169 (by omega)) (e 170 (by omega)) (e 171 (by omega)), ⟨d1, by rw [e8 2 (by omega)]; exact d2, fun k hk => by rw [e (168 + 4) (by omega)]; exact d3 k hk, d, d4, by rw [e8 4 (by omega)]; exact d5, d6⟩, w, fun z => (C z).fr r1 (e 69 (by omega)) (e 74 (by omega)) (e 75 (by omega))⟩
theorem CT.eq (T : CT h L B) (e1 : h'.2.1 1 1 = h.2.1 1 1) (e2 : h'.2.1 2 = h.2.1 2) : CT h' L B := ⟨by rw [e1]; exact T.1, T.2.1, fun k hk => by rw [e2]; exact T.2.2 k hk⟩
theorem CT.nil (e : h.2.1 1 1 = nI 0) : CT h 0 B := ⟨e, Nat.zero_le _, fun k hk => absurd hk (Nat.not_lt_zero k)⟩
theorem MT.nil (e : h.2.1 193 1 = nI 0) : MT h 0 B := ⟨e, Nat.zero_le _, fun k hk => absurd hk (Nat.not_lt_zero k)⟩
theorem RC.eq {u : Nat} {cls : Cls} (C : RC h u cls) (e0 : h'.2.1 u 1 = h.2.1 u 1) (e1 : h'.2.1 (u + 1) = h.2.1 (u + 1)) : RC h' u cls := ⟨by rw [e0]; exact C.1, C.2.1, fun j hj => by rw [e1]; exact C.2.2 j hj⟩
theorem WLD.eq {c S : Nat} {D : Nat → Int32} {Y : Nat} (W : WLD h c S D Y) (r0 : h'.2.2.2 c 0 = h.2.2.2 c 0) (eh : ∀ x, S ≤ x → x ≤ S + 9 → h'.2.1 x = h.2.1 x) (e : ∀ x, c ≤ x → x ≤ c + 4 → h'.2.1 x = h.2.1 x) : WLD h' c S D Y := by
  obtain ⟨a0, a1, a2, a3, a4, a5, a6, a7, a8⟩ := W
  exact ⟨a0, by rw [r0]; exact a1, a2.eq eh, a3.of (e _ (by omega) (by omega)) (e _ (by omega) (by omega)) (e _ (by omega) (by omega)), a4.of (e _ (by omega) (by omega)) (e _ (by omega) (by omega)), a5, a6, by rw [e c (by omega) (by omega)]; exact a7, a8⟩
theorem PX.keep (I : PX h R0 RL b IS IA IX) (e0 : h'.2.1 0 2 = h.2.1 0 2) (er : ∀ r, r < R0 → RC h (90 + 3 * r) (RL r) → RC h' (90 + 3 * r) (RL r)) (ei : ∀ c, 173 ≤ c → c < 193 → h'.2.1 c = h.2.1 c) (eh : ∀ k, k < 4 → b k = true → ∀ c, IS k ≤ c → c ≤ IS k + 9 → h'.2.1 c = h.2.1 c) (r : ∀ k, k < 4 → h'.2.2.2 (173 + 5 * k) 0 = h.2.2.2 (173 + 5 * k) 0) : PX h' R0 RL b IS IA IX := by
  obtain ⟨a, c, i, g⟩ := I
  exact ⟨by rw [e0]; exact a, fun x hx => er x hx (c x hx), fun k hk => by rw [ei _ (by omega) (by omega)]; exact i k hk, fun k hk hb => (g k hk hb).eq (r k hk) (eh k hk hb) (fun x h1 h2 => ei x (by omega) (by omega))⟩
theorem PX.is (I : PX h R0 RL b IS IA IX) {k : Nat} (hk : k < 4) (hb : b k = true) : 108 ≤ IS k ∧ IS k ≤ 158 := hull_ge (I.2.2.2 k hk hb).2.2.1.1
/-- all cells of rules, hulls and images as they were -/
theorem PX.same (I : PX h R0 RL b IS IA IX) (e0 : h'.2.1 0 2 = h.2.1 0 2) (e : ∀ c, 90 ≤ c → c < 168 ∨ 172 < c → c < 193 → h'.2.1 c = h.2.1 c) (hR : R0 ≤ 6) (r : ∀ k, k < 4 → h'.2.2.2 (173 + 5 * k) 0 = h.2.2.2 (173 + 5 * k) 0) : PX h' R0 RL b IS IA IX := by
  have is := fun k hk hb => PX.is (k := k) I hk hb
  exact I.keep e0 (fun x hx C => C.eq (by rw [e _ (by omega) (by omega) (by omega)]) (e _ (by omega) (by omega) (by omega))) (fun c h1 h2 => e c (by omega) (by omega) h2) (fun k hk hb c h1 h2 => e c (by have := is k hk hb; omega) (by have := is k hk hb; omega) (by have := is k hk hb; omega)) r
/-- the program stays as it is where the reference works -/
theorem PI.lo (I : PI h s A n P L B X) (f : Fr (fun c => 193 ≤ c) h h') : PI h' s A n P L B X := by
  obtain ⟨Q, C, T, x⟩ := I
  have e : ∀ c, c < 193 → h'.2.1 c = h.2.1 c := fun c hc => (f.2.2 c (by omega)).1
  have hs := hull_ge Q.2.2.1.1
  exact ⟨Q.keep (Q.1.fr f) (f.r _ _) (f.r _ _) (fun c h1 h2 => e c (by omega)) (fun j _ => by rw [e 168 (by omega)]) (fun c hc => e c (by omega)), C.fr (e 6 (by omega)) (fun c _ h2 => e c (by omega)), T.eq (by rw [e 1 (by omega)]) (e 2 (by omega)), by rw [e 168 (by omega)]; exact x⟩
theorem PX.lo (I : PX h R0 RL b IS IA IX) (hR : R0 ≤ 6) (f : Fr (fun c => 193 ≤ c) h h') : PX h' R0 RL b IS IA IX := by
  have e : ∀ c, c < 193 → h'.2.1 c = h.2.1 c := fun c hc => (f.2.2 c (by omega)).1
  exact I.same (by rw [e 0 (by omega)]) (fun c _ _ h3 => e c h3) hR (fun k _ => f.r _ _)
theorem FM.lo (f : FM h h') : Fr (fun c => 193 ≤ c) h h' := ⟨f.1, f.2.1, fun c hc => f.2.2.1 c (by omega)⟩
theorem FN.lo (f : FN h h') : Fr (fun c => 193 ≤ c) h h' := ⟨f.1, f.2.1, fun c hc => f.2.2.1 c (by omega)⟩
theorem FrM.lo {C F : Nat → Prop} (f : FrM C F h h') (hC : ∀ c, C c → 193 ≤ c) : Fr (fun c => 193 ≤ c) h h' := ⟨f.1, f.2.1, fun c hc => ⟨f.i (by omega) (fun z => hc (hC c z)), by rw [f.2.2.1]⟩⟩
theorem RI.fm (I : RI h A n P L B X) (f : FM h h') : RI h' A n P L B X := by
  obtain ⟨M, ⟨p1, p2, p3⟩, ⟨t1, t2, t3⟩, x⟩ := I
  have fc := f.2.2.2.1
  have ff := f.2.2.2.2
  exact ⟨M.fm f, ⟨p1, by rw [ff 28 (by simp)]; exact p2, fun i hi k hk => by rw [fc 208 (by simp)]; exact p3 i hi k hk⟩, ⟨by rw [ff 1 (by simp)]; exact t1, t2, fun k hk => by rw [fc 194 (by simp)]; exact t3 k hk⟩, by rw [ff 21 (by simp)]; exact x⟩
theorem RX.fn (I : RX h R0 RL b IA IX) (f : FN h h') : RX h' R0 RL b IA IX := by
  obtain ⟨a, r, i, g⟩ := I
  have fc := f.2.2.2.1
  have ff := f.2.2.2.2
  refine ⟨by rw [ff 2 (by simp)]; exact a, fun x hx => f.rm (r x hx), fun k hk => by rw [fc 213 (by simp)]; exact i k hk, fun k hk hb => ?_⟩
  obtain ⟨g1, g2, g3⟩ := g k hk hb
  exact ⟨by rw [fc 213 (by simp)]; exact g1, by rw [fc 212 (by simp)]; exact g2, fun i hi => by rw [fc 211 (by simp)]; exact g3 i hi⟩
theorem RX.frm {C F : Nat → Prop} (I : RX h R0 RL b IA IX) (f : FrM C F h h') (hC : ∀ c, C c → c ≠ 195 ∧ c ≠ 197 ∧ c ≠ 198 ∧ c ≠ 211 ∧ c ≠ 212 ∧ c ≠ 213) (hF : ¬ F 2) : RX h' R0 RL b IA IX := by
  obtain ⟨a, r, i, g⟩ := I
  have e : ∀ c, c = 195 ∨ c = 197 ∨ c = 198 ∨ c = 211 ∨ c = 212 ∨ c = 213 → h'.2.1 c = h.2.1 c := fun c hc => f.i (by omega) (fun z => by have := hC c z; omega)
  refine ⟨by rw [f.f hF]; exact a, fun x hx => (r x hx).same (fun j => by rw [e 195 (by omega)]) (fun j => by rw [e 197 (by omega)]) (fun j => by rw [e 198 (by omega)]), fun k hk => by rw [e 213 (by omega)]; exact i k hk, fun k hk hb => ?_⟩
  obtain ⟨g1, g2, g3⟩ := g k hk hb
  exact ⟨by rw [e 213 (by omega)]; exact g1, by rw [e 212 (by omega)]; exact g2, fun i hi => by rw [e 211 (by omega)]; exact g3 i hi⟩
/-- questions of the program -/
theorem PI.fq (I : PI h s A n P L B X) (f : Fq QF h h') (Q : QI h' s A) : PI h' s A n P L B X := by
  obtain ⟨_, C, T, x⟩ := I
  have e : ∀ c, c < 68 ∨ 89 < c → h'.2.1 c = h.2.1 c := fun c hc => (f.2.2 c (by unfold QF; omega)).1
  exact ⟨Q, C.fr (e 6 (by omega)) (fun c _ h2 => e c (by omega)), T.eq (by rw [e 1 (by omega)]) (e 2 (by omega)), by rw [e 168 (by omega)]; exact x⟩
theorem PX.fq (I : PX h R0 RL b IS IA IX) (hR : R0 ≤ 6) (f : Fq QF h h') : PX h' R0 RL b IS IA IX := by
  have e : ∀ c, c < 68 ∨ 89 < c → h'.2.1 c = h.2.1 c := fun c hc => (f.2.2 c (by unfold QF; omega)).1
  exact I.same (by rw [e 0 (by omega)]) (fun c h1 _ _ => e c (by omega)) hR (fun k hk => f.2.1 _ _ (fun _ => by omega))
end KEE
/-- a question: neither side changes what is told -/
theorem call_q {x m : pm_H → Option (Int32 × pm_H)} {h : pm_H} (I : INV h) (k : ∀ s A n P L B X R0 RL, PI h s A n P L B X → GI A n P X R0 RL → ∃ v, SP (x h) (fun z => z.1 = v ∧ Fq QF h z.2 ∧ QI z.2 s A) ∧ ∀ h1, RI h1 A n P L B X → SP (m h1) (fun z => z.1 = v ∧ FM h1 z.2)) : CALL x m h := by
  obtain ⟨s, A, n, P, L, B, X, R0, RL, b, IS, IA, IX, Ip, Ix, Ir, Iy, Ig⟩ := I
  obtain ⟨v, ⟨⟨v1, h1⟩, e1, a1, f1, Q1⟩, km⟩ := k s A n P L B X R0 RL Ip Ig
  dsimp only at a1 f1 Q1
  have c1 : ∀ c, 193 ≤ c → h1.2.1 c = h.2.1 c := fun c hc => (f1.2.2 c (by unfold QF; omega)).1
  have Ir1 := Ir.keep Q1.1 c1
  obtain ⟨⟨v2, h2⟩, e2, a2, f2⟩ := km h1 Ir1
  dsimp only at a2 f2
  subst a1
  subst a2
  exact ⟨_, h1, h2, e1, e2, ⟨s, A, n, P, L, B, X, R0, RL, b, IS, IA, IX, (Ip.fq f1 Q1).lo f2.lo, (Ix.fq Ig.2.1 f1).lo Ig.2.1 f2.lo, Ir1.fm f2, (Iy.keep c1).fn f2.fn, Ig⟩, f1.1, f2.1.trans f1.1⟩
/-- nothing changes -/
theorem call_0 {x m : pm_H → Option (Int32 × pm_H)} {h : pm_H} (I : INV h) {v : Int32} (ex : x h = some (v, h)) (em : m h = some (v, h)) : CALL x m h := ⟨v, h, h, ex, em, I, rfl, rfl⟩
