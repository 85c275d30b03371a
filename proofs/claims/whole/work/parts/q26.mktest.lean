/-! A rule's text: facts and tests, read by the reference. -/
def ktA (a w : Bool) : List Nat := (if a = true then [12] else []) ++ (if w = true then [13] else [])
def ktN (a : Bool) (l : List Nat) : List Nat := if a = true then l ++ [12] else l
def KtF (h0 : pm_H) (r b : Nat) (B : Nat → Nat) (L : Nat) (s : List Nat) (X : Option (Int32 × pm_H)) (o : RDO) : Prop := match o with
  | .inl e => KEr h0 r b X e
  | .inr y => ∃ h', FJ r b h0 h' ∧ TT h' r b B L y.1 y.2.1 y.2.2 s ∧ ∀ z, KtD h' = some z → X = some z
def KtL (h0 : pm_H) (r b : Nat) (B : Nat → Nat) (L : Nat) (s : List Nat) (X : Option (Int32 × pm_H)) (o : RDO) : Prop := match o with
  | .inl e => KEr h0 r b X e
  | .inr y => ∃ h' a w l, FJ r b h0 h' ∧ TT h' r b B L y.1 l y.2.2 (ktA a w ++ s) ∧ y.2.1 = finO w (ktN a l) ∧ isW B L y.2.2 wAnd = false ∧ isW B L y.2.2 wOrw = false ∧ ∀ z, KtD h' = some z → X = some z
def KtX (h0 : pm_H) (r b : Nat) (B : Nat → Nat) (L : Nat) (s : List Nat) (X : Option (Int32 × pm_H)) (o : RDO) : Bool → Prop
  | true => KtL h0 r b B L s X o
  | false => KtF h0 r b B L s X o
section MKT
variable {h h0 : pm_H} {r k b L p n0 : Nat} {B : Nat → Nat} {l s : List Nat}
theorem KEr.of {X Y : Option (Int32 × pm_H)} {e : Nat} (q : KEr h r b X e) (f : FJ r b h0 h) (c : ∀ z, X = some z → Y = some z) : KEr h0 r b Y e := by
  obtain ⟨z, e1, f1, e2⟩ := q
  exact ⟨z, c _ e1, f.trans f1, e2⟩
theorem KtL.of {X Y : Option (Int32 × pm_H)} {o : RDO} (q : KtL h r b B L s X o) (f : FJ r b h0 h) (c : ∀ z, X = some z → Y = some z) : KtL h0 r b B L s Y o := by
  cases o with
  | inl e => exact KEr.of q f c
  | inr y =>
    obtain ⟨h', a, w, l, f1, q2, q3, q4, q5, q6⟩ := q
    exact ⟨h', a, w, l, f.trans f1, q2, q3, q4, q5, fun z hz => c z (q6 z hz)⟩
theorem KtF.of {X Y : Option (Int32 × pm_H)} {o : RDO} (q : KtF h r b B L s X o) (f : FJ r b h0 h) (c : ∀ z, X = some z → Y = some z) : KtF h0 r b B L s Y o := by
  cases o with
  | inl e => exact KEr.of q f c
  | inr y =>
    obtain ⟨h', f1, q2, q6⟩ := q
    exact ⟨h', f.trans f1, q2, fun z hz => c z (q6 z hz)⟩
theorem ktA_m (a w : Bool) : ∀ t ∈ ktA a w, t = 12 ∨ t = 13 := by cases a <;> cases w <;> decide
theorem ktA_d (a w : Bool) (s : List Nat) : dep (ktA a w ++ s) = dep s := by
  cases a <;> cases w
  · rfl
  · show 0 + dep s = dep s; omega
  · show 0 + dep s = dep s; omega
  · show 0 + (0 + dep s) = dep s; omega
theorem ktA_l (a w : Bool) (s : List Nat) : (ktA a w ++ s).length = a.toNat + w.toNat + s.length := by
  cases a <;> cases w
  · show s.length = 0 + 0 + s.length; omega
  · show s.length + 1 = 0 + 1 + s.length; omega
  · show s.length + 1 = 1 + 0 + s.length; omega
  · show s.length + 1 + 1 = 1 + 1 + s.length; omega
theorem ktN_f (a w : Bool) (l : List Nat) : l ++ ktA a w = finO w (ktN a l) := by
  cases a <;> cases w
  · exact List.append_nil l
  · rfl
  · rfl
  · exact (List.append_assoc l [12] [13]).symm
theorem ktN_l (a : Bool) (l : List Nat) : (ktN a l).length = l.length + a.toNat := by
  cases a with
  | false => rfl
  | true => exact List.length_append
/-- settling ahead of and, of or -/
theorem tw_top {g : Nat} {s0 : List Nat} (h0 : ∀ t s', s0 = t :: s' → t = 91) (hg : 1 ≤ g) : s0.takeWhile (fun t => decide (g ≤ stg t)) = [] ∧ s0.dropWhile (fun t => decide (g ≤ stg t)) = s0 := by
  cases s0 with
  | nil => exact ⟨rfl, rfl⟩
  | cons t s =>
    have := h0 t s rfl
    subst this
    have : ¬ g ≤ stg 91 := by have : stg 91 = 0 := rfl; omega
    rw [List.takeWhile_cons, List.dropWhile_cons, decide_eq_false this]
    exact ⟨rfl, rfl⟩
theorem tw_and (a w : Bool) {s0 : List Nat} (h0 : ∀ t s', s0 = t :: s' → t = 91) : l ++ (ktA a w ++ s0).takeWhile (fun t => decide (stg 12 ≤ stg t)) = ktN a l ∧ 12 :: (ktA a w ++ s0).dropWhile (fun t => decide (stg 12 ≤ stg t)) = ktA true w ++ s0 := by
  have t0 := tw_top (g := stg 12) h0 (by decide)
  have d12 : decide (stg 12 ≤ stg 12) = true := by decide
  have d13 : decide (stg 12 ≤ stg 13) = false := by decide
  cases a <;> cases w
  · show l ++ s0.takeWhile _ = l ∧ 12 :: s0.dropWhile _ = 12 :: s0
    rw [t0.1, t0.2]
    exact ⟨List.append_nil l, rfl⟩
  · show l ++ (13 :: s0).takeWhile _ = l ∧ 12 :: (13 :: s0).dropWhile _ = 12 :: 13 :: s0
    rw [List.takeWhile_cons, List.dropWhile_cons, d13]
    exact ⟨List.append_nil l, rfl⟩
  · show l ++ (12 :: s0).takeWhile _ = l ++ [12] ∧ 12 :: (12 :: s0).dropWhile _ = 12 :: s0
    rw [List.takeWhile_cons, List.dropWhile_cons, d12, if_pos rfl, if_pos rfl, t0.1, t0.2]
    exact ⟨rfl, rfl⟩
  · show l ++ (12 :: 13 :: s0).takeWhile _ = l ++ [12] ∧ 12 :: (12 :: 13 :: s0).dropWhile _ = 12 :: 13 :: s0
    rw [List.takeWhile_cons, List.dropWhile_cons, d12, if_pos rfl, if_pos rfl, List.takeWhile_cons, List.dropWhile_cons, d13]
    exact ⟨rfl, rfl⟩
theorem tw_or (a w : Bool) {s0 : List Nat} (h0 : ∀ t s', s0 = t :: s' → t = 91) : l ++ (ktA a w ++ s0).takeWhile (fun t => decide (stg 13 ≤ stg t)) = finO w (ktN a l) ∧ 13 :: (ktA a w ++ s0).dropWhile (fun t => decide (stg 13 ≤ stg t)) = ktA false true ++ s0 := by
  have t0 := tw_top (g := stg 13) h0 (by decide)
  have d12 : decide (stg 13 ≤ stg 12) = true := by decide
  have d13 : decide (stg 13 ≤ stg 13) = true := by decide
  rw [← ktN_f]
  cases a <;> cases w
  · show l ++ s0.takeWhile _ = l ++ [] ∧ 13 :: s0.dropWhile _ = 13 :: s0
    rw [t0.1, t0.2]
    exact ⟨rfl, rfl⟩
  · show l ++ (13 :: s0).takeWhile _ = l ++ [13] ∧ 13 :: (13 :: s0).dropWhile _ = 13 :: s0
    rw [List.takeWhile_cons, List.dropWhile_cons, d13, if_pos rfl, if_pos rfl, t0.1, t0.2]
    exact ⟨rfl, rfl⟩
  · show l ++ (12 :: s0).takeWhile _ = l ++ [12] ∧ 13 :: (12 :: s0).dropWhile _ = 13 :: s0
    rw [List.takeWhile_cons, List.dropWhile_cons, d12, if_pos rfl, if_pos rfl, t0.1, t0.2]
    exact ⟨rfl, rfl⟩
  · show l ++ (12 :: 13 :: s0).takeWhile _ = l ++ [12, 13] ∧ 13 :: (12 :: 13 :: s0).dropWhile _ = 13 :: s0
    rw [List.takeWhile_cons, List.dropWhile_cons, d12, if_pos rfl, if_pos rfl, List.takeWhile_cons, List.dropWhile_cons, d13, if_pos rfl, if_pos rfl, t0.1, t0.2]
    exact ⟨rfl, rfl⟩
/-- facts joined -/
theorem kt_loop (hr : r < 6) {F : Nat → List Nat → Nat → RDO} {D : Nat} {s0 : List Nat} (hs0 : ∀ t s', s0 = t :: s' → t = 91) (hd0 : dep s0 = D)
    (hF : ∀ k l p y ts, F k l p = .inr y → p ≤ L → ca B L p ≠ 32 → k ≤ 60 → GT n0 ts k l → RK B L n0 k l p (true :: ts) y)
    (hG : ∀ k l p ts s h, TT h r b B L k l p s → dep s = D → b + l.length + s.length ≤ p → GT n0 ts k l → KtF h r b B L s (KtE h) (F k l p)) :
    ∀ (f : Nat) (a w : Bool) (k : Nat) (l : List Nat) (p : Nat) (ts : List Bool) (h : pm_H), L - p < f → TT h r b B L k l p (ktA a w ++ s0) → b + l.length + (ktA a w ++ s0).length ≤ p → GT n0 (tso w ts) k (ktN a l) → KtL h r b B L s0 (KtD h) (tstL B L F f w k (ktN a l) p)
  | 0, a, w, k, l, p, ts, h, hf, _, _, _ => by omega
  | f + 1, a, w, k, l, p, ts, h, hf, T, hb, G => by
    have top := top_u (ktA_m a w) hs0
    obtain ⟨hp, cp, hb'⟩ := T.1.hp
    have hk := T.1.2.2.2.2.1
    have hL := T.1.2.1.2.1
    have nl := ktN_l a l
    have al := ktA_l a w s0
    rw [tstL]
    cases ea : isW B L p wAnd with
    | true =>
      obtain ⟨b1, b2, b3, b4⟩ := word_bh hp ea
      obtain ⟨h1, f1, T1, c1⟩ := kd_join hr T top (by omega) (.inl ⟨rfl, ea⟩)
      rw [(tw_and (l := l) a w hs0).1, (tw_and (l := l) a w hs0).2] at T1
      rw [if_pos rfl]
      have al1 := ktA_l true w s0
      have g := hG k (ktN a l) _ (tso w ts) _ h1 T1 (by rw [ktA_d]; exact hd0) (by rw [al1, nl]; show b + (l.length + a.toNat) + (1 + w.toNat + s0.length) ≤ _; omega) G
      cases ev : F k (ktN a l) (skp B L (bh B L p)) with
      | inl e => rw [ev] at g; exact KEr.of g f1 c1
      | inr y =>
        rw [ev] at g
        obtain ⟨h2, f2, T2, c2⟩ := g
        obtain ⟨o1, o2, o3, o4, o5, o6, G1⟩ := hF _ _ _ _ _ ev b3 b4 hk G
        have G2 : GT n0 (tso w ts) y.1 (ktN true y.2.1) := by
          cases w with
          | false => exact GT.fact G1 (.inl rfl)
          | true => exact GT.fact G1 (.inl rfl)
        have i := kt_loop hr hs0 hd0 hF hG f true w y.1 y.2.1 y.2.2 ts h2 (by omega) T2 (by rw [al1]; show b + y.2.1.length + (1 + w.toNat + s0.length) ≤ _; omega) G2
        exact KtL.of i (f1.trans f2) (fun z hz => c1 z (c2 z hz))
    | false =>
      rw [if_neg (by decide)]
      cases eo : isW B L p wOrw with
      | true =>
        obtain ⟨b1, b2, b3, b4⟩ := word_bh hp eo
        obtain ⟨h1, f1, T1, c1⟩ := kd_join hr T top (by omega) (.inr ⟨rfl, ea, eo⟩)
        rw [(tw_or (l := l) a w hs0).1, (tw_or (l := l) a w hs0).2] at T1
        rw [if_pos rfl]
        have al1 := ktA_l false true s0
        have fl := finO_len w (ktN a l)
        have g := hG k (finO w (ktN a l)) _ (true :: ts) _ h1 T1 (by rw [ktA_d]; exact hd0) (by rw [al1, fl, nl]; show b + (l.length + a.toNat + w.toNat) + (0 + 1 + s0.length) ≤ _; omega) G.finO
        cases ev : F k (finO w (ktN a l)) (skp B L (bh B L p)) with
        | inl e => rw [ev] at g; exact KEr.of g f1 c1
        | inr y =>
          rw [ev] at g
          obtain ⟨h2, f2, T2, c2⟩ := g
          obtain ⟨o1, o2, o3, o4, o5, o6, G1⟩ := hF _ _ _ _ _ ev b3 b4 hk G.finO
          have i := kt_loop hr hs0 hd0 hF hG f false true y.1 y.2.1 y.2.2 ts h2 (by omega) T2 (by rw [al1]; show b + y.2.1.length + (0 + 1 + s0.length) ≤ _; omega) G1
          exact KtL.of i (f1.trans f2) (fun z hz => c1 z (c2 z hz))
      | false =>
        rw [if_neg (by decide)]
        exact ⟨h, a, w, l, FJ.refl r b h, T, rfl, ea, eo, fun z hz => hz⟩
theorem kt_rd (hr : r < 6) : ∀ (n : Nat) (c : Bool) (D k : Nat) (l : List Nat) (p : Nat) (ts : List Bool) (s : List Nat) (h : pm_H), TT h r b B L k l p s → dep s = D → (c = true → ∀ t s', s = t :: s' → t = 91) → b + l.length + s.length ≤ p → GT n0 ts k l → D ≤ 10 → 2 * (11 - D) ≤ n + (if c = true then 0 else 1) → KtX h r b B L s (KtE h) (rdP B L n c D k l p) c
  | 0, c, D, k, l, p, ts, s, h, T, hd, hs, hb, G, hD, hn => by
    exfalso
    split at hn <;> omega
  | n + 1, true, D, k, l, p, ts, s, h, T, hd, hs, hb, G, hD, hn => by
    have hn' : 2 * (11 - D) ≤ n + 1 + 0 := hn
    obtain ⟨hp, cp, hb'⟩ := T.1.hp
    have hk := T.1.2.2.2.2.1
    have hL := T.1.2.1.2.1
    show KtL h r b B L s (KtE h) _
    rw [rdP]
    have g : KtF h r b B L s (KtE h) (rdP B L n false D k l p) := kt_rd hr n false D k l p ts s h T hd (fun z => by cases z) hb G hD (by show 2 * (11 - D) ≤ n + 1; omega)
    cases ev : rdP B L n false D k l p with
    | inl e => rw [ev] at g; exact g
    | inr y =>
      rw [ev] at g
      obtain ⟨h2, f2, T2, c2⟩ := g
      obtain ⟨o1, o2, o3, o4, o5, o6, G1⟩ := rdP_ok n false D k l p y ts ev hp cp hk G
      have i := kt_loop (F := rdP B L n false D) (n0 := n0) hr (hs rfl) hd (fun k l p y ts => rdP_ok n false D k l p y ts) (fun k l p ts s h T hd hb G => kt_rd hr n false D k l p ts s h T hd (fun z => by cases z) hb G hD (by show 2 * (11 - D) ≤ n + 1; omega)) 400 false false y.1 y.2.1 y.2.2 ts h2 (by omega) T2 (by show b + y.2.1.length + s.length ≤ _; omega) G1
      exact KtL.of i f2 c2
  | n + 1, false, D, k, l, p, ts, s, h, T, hd, hs, hb, G, hD, hn => by
    have hn' : 2 * (11 - D) ≤ n + 1 + 1 := hn
    obtain ⟨hp, cp, hb'⟩ := T.1.hp
    have hk := T.1.2.2.2.2.1
    have hL := T.1.2.1.2.1
    have bg := bh_ge (B := B) hp
    have sg := skp_ge (B := B) bg.2
    show KtF h r b B L s (KtE h) _
    rw [rdP]
    cases en : isW B L p wNot with
    | true =>
      rw [if_pos rfl]
      obtain ⟨b1, b2, b3, b4⟩ := word_bh hp en
      have g := ke_open T (by omega) (by omega) (.inl ⟨rfl, en⟩)
      rw [hd] at g
      by_cases q : D < 10
      · rw [if_pos q] at g ⊢
        obtain ⟨h1, f1, T1, c1⟩ := g
        have dp : dep (11 :: s) = D + 1 := by show (if 11 = 91 ∨ 11 = 11 then 1 else 0) + dep s = _; rw [if_pos (.inr rfl)]; omega
        have i : KtF h1 r b B L (11 :: s) (KtE h1) (rdP B L n false (D + 1) k l (skp B L (bh B L p))) := kt_rd hr n false (D + 1) k l _ ts (11 :: s) h1 T1 dp (fun z => by cases z) (by show b + l.length + (s.length + 1) ≤ _; omega) G (by omega) (by show 2 * (11 - (D + 1)) ≤ n + 1; omega)
        cases ev : rdP B L n false (D + 1) k l (skp B L (bh B L p)) with
        | inl e =>
          rw [ev] at i
          exact KEr.of i f1 (fun z hz => by rw [c1]; exact hz)
        | inr y =>
          rw [ev] at i
          obtain ⟨h2, f2, T2, c2⟩ := i
          obtain ⟨h3, f3, T3, c3⟩ := kd_not hr T2
          exact ⟨h3, (f1.trans f2).trans f3, T3, fun z hz => by rw [c1]; exact c2 z (by rw [c3]; exact hz)⟩
      · rw [if_neg q] at g ⊢
        exact g
    | false =>
      rw [if_neg (by decide)]
      by_cases ec : ca B L p = 91
      · rw [if_pos ec]
        have gt := bh_gt hp (show ca B L p ≠ 256 by omega)
        have pL := (ca_in (show ca B L p ≠ 256 by omega)).1
        have g := ke_open T (by omega) (by omega) (.inr ⟨rfl, en, ec⟩)
        rw [hd] at g
        by_cases q : D < 10
        · rw [if_pos q] at g ⊢
          obtain ⟨h1, f1, T1, c1⟩ := g
          have dp : dep (91 :: s) = D + 1 := by show (if 91 = 91 ∨ 91 = 11 then 1 else 0) + dep s = _; rw [if_pos (.inl rfl)]; omega
          have i : KtL h1 r b B L (91 :: s) (KtE h1) (rdP B L n true (D + 1) k l (skp B L (bh B L p))) := kt_rd hr n true (D + 1) k l _ ts (91 :: s) h1 T1 dp (fun _ t s' e => by cases e; rfl) (by show b + l.length + (s.length + 1) ≤ _; omega) G (by omega) (by show 2 * (11 - (D + 1)) ≤ n + 0; omega)
          cases ev : rdP B L n true (D + 1) k l (skp B L (bh B L p)) with
          | inl e =>
            rw [ev] at i
            exact KEr.of i f1 (fun z hz => by rw [c1]; exact hz)
          | inr y =>
            rw [ev] at i
            obtain ⟨h2, a, w, l2, f2, T2, e2, na, nr, c2⟩ := i
            have top := top_u (ktA_m a w) (s0 := 91 :: s) (fun t s' e => by cases e; rfl)
            dsimp only
            by_cases e93 : ca B L y.2.2 = 93
            · rw [if_pos e93]
              obtain ⟨h3, f3, T3, c3⟩ := kd_close hr (ktA_m a w) T2 e93
              rw [ktN_f, ← e2] at T3
              exact ⟨h3, (f1.trans f2).trans f3, T3, fun z hz => by rw [c1]; exact c2 z (by rw [c3]; exact hz)⟩
            · rw [if_neg e93]
              exact KEr.of (kt_end_in T2 top e93 (by simp) na nr) (f1.trans f2) (fun z hz => by rw [c1]; exact c2 z hz)
        · rw [if_neg q] at g ⊢
          exact g
      · rw [if_neg ec]
        have g := ke_cmp hr T en ec
        cases ev : cmpP B L k l p with
        | inl e => rw [ev] at g; exact g
        | inr y =>
          rw [ev] at g
          obtain ⟨h1, f1, T1, c1⟩ := g
          exact ⟨h1, f1, T1, fun z hz => by rw [c1]; exact hz⟩
/-- a test as a whole -/
theorem m_tested_n (hr : r < 6) {ts : List Bool} (T : ST h r b 0 B L k l p) (G : GT n0 ts k l) : SP (m_tested 193 h) (fun z => FJ r b h z.2 ∧ (match rdP B L 30 true 0 k l p with
    | .inl e => z.1 = nI 0 ∧ z.2.2.1 193 9 = nI e
    | .inr y => z.1 = nI 1 ∧ ST z.2 r b 0 B L y.1 y.2.1 y.2.2)) := by
  obtain ⟨hp, cp, hb⟩ := T.hp
  have g2 : FrM (fun c => c = 200) (fun j => j = 13 ∨ j = 16) h (pm_setI (pm_setI h 193 16 (nI 0)) 193 13 (nI 0)) := ((FrM.refl _ _ h).setF (.inr rfl)).setF (.inl rfl)
  have f2 : FJ r b h (pm_setI (pm_setI h 193 16 (nI 0)) 193 13 (nI 0)) := ((FJ.refl r b h).set (.inr rfl)).set (.inl rfl)
  have K2 : SKs (pm_setI (pm_setI h 193 16 (nI 0)) 193 13 (nI 0)) [] := ⟨by rw [ri_j _ (by omega), ri_s]; rfl, Nat.zero_le _, fun i hi => absurd hi (Nat.not_lt_zero i), by rw [ri_s]; rfl, fun t ht => by cases ht⟩
  have T2 := T.stk g2
  unfold m_tested
  rw [sp_bd, kc_i0, sp_bd]
  generalize pm_setI (pm_setI h 193 16 (nI 0)) 193 13 (nI 0) = h2 at f2 K2 T2 ⊢
  have i : KtL h2 r b B L [] (KtE h2) (rdP B L 30 true 0 k l p) := kt_rd hr 30 true 0 k l p ts [] h2 ⟨T2, K2⟩ rfl (fun _ t s' e => by cases e) (by show b + l.length + 0 ≤ p; omega) G (by omega) (by decide)
  have lp : ∀ z, KtE h2 = some z → (wh (fun s : (Int32 × pm_H) => m_tested_12 193 s.1 s.2) (Int32.ofInt 1, h2)).bind mtEnd = some z := fun z hz => loop_of (v := Int32.ofInt 1) (by decide) hz
  cases ev : rdP B L 30 true 0 k l p with
  | inl e =>
    rw [ev] at i
    obtain ⟨z, e1, f1, e9⟩ := i
    exact ⟨_, lp _ e1, f2.trans f1, rfl, e9⟩
  | inr y =>
    rw [ev] at i
    obtain ⟨h3, a, w, l3, f3, T3, e3, na, nr, c3⟩ := i
    rw [List.append_nil] at T3
    obtain ⟨z, e4, f4, T4⟩ := kt_end_top hr T3 (ktA_m a w) na nr
    rw [ktN_f, ← e3] at T4
    exact ⟨_, lp _ (c3 _ e4), (f2.trans f3).trans f4, rfl, T4⟩
end MKT
