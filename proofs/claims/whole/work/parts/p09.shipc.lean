/-! A ship's text, read whole by the program. -/
def ws4 : List (List Nat) := [[115, 104, 105, 112], [109, 97, 110], [111, 114, 100, 101, 114], [109, 101, 97, 110, 115]]
def clAt (B : Nat → Nat) (L : Nat) (D : Nat → Int32) (ln p : Nat) : CLO := match widx B L p ws4 0 with
  | none => .inl (1 + 8 * p)
  | some k => if ¬ (k = 0 ↔ ln = 0) ∨ 40 ≤ ln ∨ (k = 1 ∧ 8 ≤ an D 1) ∨ (k = 2 ∧ 8 ≤ an D 2) ∨ (k = 3 ∧ 10 ≤ an D 3) then .inl (1 + 8 * p + 4) else if k = 0 then clShip B L D (skp B L (bh B L p)) else if k = 1 then clMan B L D (skp B L (bh B L p)) else if k = 2 then clOrd B L D (skp B L (bh B L p)) else clMea B L D (skp B L (bh B L p))
def shP (B : Nat → Nat) (L : Nat) : Nat → Nat → Nat → (Nat → Int32) → Nat ⊕ (Nat → Int32)
  | 0, _, _, _ => .inl 0
  | f + 1, ln, p, D => match clAt B L D ln p with
    | .inl e => .inl e
    | .inr q => if ca B L q.1 = 256 then .inr q.2 else if ca B L q.1 = 59 then shP B L f (ln + 1) (skp B L (q.1 + 1)) q.2 else .inl (1 + 8 * q.1)
/-- what is so between clauses -/
def BT (D : Nat → Int32) (ln : Nat) : Prop := WR D ∧ (ln = 0 ↔ an D 0 = 0) ∧ (ln = 0 → an D 3 = 0) ∧ ln ≤ 40
theorem widx_lt {B : Nat → Nat} {L p : Nat} : ∀ (ws : List (List Nat)) (k0 k : Nat), widx B L p ws k0 = some k → k0 ≤ k ∧ k < k0 + ws.length
  | [], _, _, h => by cases h
  | w :: r, k0, k, h => by
    rw [widx] at h
    split at h
    · cases h
      rw [List.length_cons]
      omega
    · have := widx_lt r (k0 + 1) k h
      rw [List.length_cons]
      omega
section CLA
variable {h : pm_H} {s L p ln : Nat} {B : Nat → Nat} {D : Nat → Int32}
theorem cl_wr (T : BT D ln) {q : Nat × (Nat → Int32)} (e : clAt B L D ln p = .inr q) (hp : p ≤ L) : BT q.2 (ln + 1) ∧ q.1 ≤ L ∧ ca B L q.1 ≠ 32 ∧ ln < 40 := by
  obtain ⟨W, t1, t2, t3⟩ := T
  have c0 := W.c0
  unfold clAt at e
  have pos : ∀ x, x ≤ L → bh B L x ≤ L := fun x hx => (bh_ge (B := B) hx).2
  have pk : ∀ x, x ≤ L → skp B L x ≤ L := fun x hx => (skp_ge (B := B) hx).2
  split at e
  · cases e
  · rename_i k ek
    have kl := widx_lt ws4 0 k ek
    split at e
    · cases e
    · rename_i nq
      have n1 : k = 0 ↔ ln = 0 := Classical.byContradiction (fun z => nq (.inl z))
      have n2 : ln < 40 := by
        apply Classical.byContradiction
        intro z
        exact nq (.inr (.inl (by omega)))
      have p1 := pk _ (pos p hp)
      split at e
      · rename_i k0
        unfold clShip at e
        split at e
        · cases e
        · rename_i en
          cases e
          have n := nrE_none en
          have z0 : an D 0 = 0 := t1.mp (n1.mp k0)
          refine ⟨⟨rdShip_wr W z0 (by omega), ?_, fun z => by omega, by omega⟩, pk _ (pos _ p1), skp_ca (pos _ p1), n2⟩
          have : an (upA D 0 (nI (nrV B L (skp B L (bh B L p))))) 0 = nrV B L (skp B L (bh B L p)) := an_n (upA_s _ _ _) (by omega)
          dsimp only
          rw [this]
          omega
      · rename_i k0
        have l0 : ¬ ln = 0 := fun z => k0 (n1.mpr z)
        have z0 : 0 < an D 0 := by
          have : ¬ an D 0 = 0 := fun z => l0 (t1.mpr z)
          omega
        split at e
        · rename_i k1
          have m8 : an D 1 < 8 := by
            apply Classical.byContradiction
            intro z
            exact nq (.inr (.inr (.inl ⟨k1, by omega⟩)))
          unfold clMan at e
          split at e
          · cases e
          · rename_i en
            split at e
            · cases e
            · rename_i en2
              cases e
              have n := nrE_none en
              have n' := nrE_none en2
              have re := rdMan_e (D := D) (w := nrV B L (skp B L (bh B L p))) (b := nrV B L (skp B L (bh B L (skp B L (bh B L p))))) m8
              have p2 := pk _ (pos _ p1)
              exact ⟨⟨rdMan_wr W m8 (by omega) (by omega), by dsimp only; rw [re.1]; omega, fun z => by omega, by omega⟩, pk _ (pos _ p2), skp_ca (pos _ p2), n2⟩
        · rename_i k1
          split at e
          · rename_i k2
            have m8 : an D 2 < 8 := by
              apply Classical.byContradiction
              intro z
              exact nq (.inr (.inr (.inr (.inl ⟨k2, by omega⟩))))
            unfold clOrd at e
            split at e
            · cases e
            · rename_i en
              split at e
              · rename_i kd1
                split at e
                · rename_i sz
                  split at e
                  · cases e
                  · rename_i eo
                    cases e
                    have n := nrE_none en
                    have p2 := pk _ (pos _ p1)
                    have re := rdOrd_e (D := D) (n := nrV B L (skp B L (bh B L p))) (g := fun i => B (skp B L (bh B L (skp B L (bh B L p))) + i) - 48) (k := bh B L (skp B L (bh B L (skp B L (bh B L p)))) - skp B L (bh B L (skp B L (bh B L p)))) m8
                    have bp : skp B L (bh B L (skp B L (bh B L p))) < bh B L (skp B L (bh B L (skp B L (bh B L p)))) := by
                      generalize skp B L (bh B L (skp B L (bh B L p))) = x at kd1 p2
                      have pL : x < L := by
                        apply Classical.byContradiction
                        intro q2
                        unfold ca at kd1
                        rw [if_neg q2] at kd1
                        exact absurd kd1 (by decide)
                      have z : isKd B 1 x = true := by
                        have k1' := kd1
                        rw [ca_lt pL] at k1'
                        exact decide_eq_true k1'
                      rw [bh_dig kd1, nx_t pL z]
                      have := (nx_ge (c := isKd B 1) (L := L) (p := x + 1) (by omega)).1
                      omega
                    refine ⟨⟨rdOrd_wr (n := nrV B L (skp B L (bh B L p))) (k := bh B L (skp B L (bh B L (skp B L (bh B L p)))) - skp B L (bh B L (skp B L (bh B L p)))) (g := fun i => B (skp B L (bh B L (skp B L (bh B L p))) + i) - 48) W m8 (by omega) (by omega) sz (fun i hi => ?_), by dsimp only; rw [re.1]; omega, fun z => by omega, by omega⟩, pk _ (pos _ p2), skp_ca (pos _ p2), n2⟩
                    have := find_all.mp eo i hi
                    apply Classical.byContradiction
                    intro z
                    rw [dec_f z] at this
                    cases this
                · cases e
              · cases e
          · rename_i k2
            have m10 : an D 3 < 10 := by
              apply Classical.byContradiction
              intro z
              have : k < 4 := by have := kl.2; show k < 4; exact Nat.lt_of_lt_of_eq this rfl
              exact nq (.inr (.inr (.inr (.inr ⟨by omega, by omega⟩))))
            unfold clMea at e
            split at e
            · cases e
            · rename_i en
              split at e
              · cases e
              · rename_i en2
                split at e
                · cases e
                · split at e
                  · cases e
                  · rename_i en3
                    cases e
                    have n := nrE_none en
                    have n' := nrE_none en2
                    have n3 := nrE_none en3
                    have p2 := pk _ (pos _ p1)
                    have p3 := pk _ (pos _ p2)
                    have re := rdMea_e (D := D) (a := nrV B L (skp B L (bh B L p))) (b := nrV B L (skp B L (bh B L (skp B L (bh B L p))))) (c := nrV B L (skp B L (bh B L (skp B L (bh B L (skp B L (bh B L p))))))) m10
                    exact ⟨⟨rdMea_wr W m10 (by omega) (by omega) (by omega), by dsimp only; rw [re.1]; omega, fun z => by omega, by omega⟩, pk _ (pos _ p3), skp_ca (pos _ p3), n2⟩
theorem tx3 : tx_ok 3 = true ∧ tx_l 3 = (flw ws4).map nI ∧ (flw ws4).length < 1000 ∧ (∀ w ∈ ws4, ∀ x ∈ w, x ≠ 32 ∧ x < 256) ∧ ws4.length < 1000 := by decide +kernel
theorem s_clause_n (R : RF h) (C : CT h L B) (U : UNT h B L p) (S : CSh h s D) (T : BT D ln) (tg : an D 0 = 0 → TGs h s D) : SP (s_readClause s 1 (nI ln) h) (CO h s B L (clAt B L D ln p)) := by
  obtain ⟨W, t1, t2, t3⟩ := T
  have hs := hull_ge S.1
  have c0 := W.c0
  have c1 := W.c1
  have c2 := W.c2
  have c3 := W.c3
  have U' := U
  obtain ⟨u1, u2, u3, u4, u5, u6, u7⟩ := U
  have bg := bh_ge (B := B) u1
  unfold s_readClause clAt
  rw [t_wordOf_n R C U' tx3.1 tx3.2.1 tx3.2.2.1 tx3.2.2.2.1 tx3.2.2.2.2, Option.bind_some]
  cases ek : widx B L p ws4 0 with
  | none =>
    dsimp only
    refine sp_neg (by decide) ?_
    rw [u4, kc_i0, t_blame_n, Option.bind_some]
    exact sp_pos mi_bo0 (sp_some.mpr ⟨blame_fh (by omega), rfl, ri_s _⟩)
  | some k =>
    have kl := widx_lt ws4 0 k ek
    have k4 : k < 4 := Nat.lt_of_lt_of_eq kl.2 rfl
    dsimp only
    refine sp_pos (by rw [kc_0, nx_le (by omega) (by omega)]; omega) ?_
    have b68 : SP (s_readClause_68 1 h) (fun z => FH s h z.2 ∧ z.1 = nI 0 ∧ z.2.2.1 1 7 = nI (1 + 8 * p + 4)) := by
      unfold s_readClause_68
      rw [u4, kc_i4, t_blame_n, Option.bind_some]
      exact sp_pos mi_bo0 (sp_some.mpr ⟨blame_fh (by omega), rfl, ri_s _⟩)
    -- 47: astray or not
    have e47 : (if ¬ nI k = 0 then s_readClause_30 s 1 (nI ln) (nI k) (Int32.ofInt 0) h else s_readClause_30 s 1 (nI ln) (nI k) (Int32.ofInt 1) h) = s_readClause_47 s 1 (nI ln) (nI k) (nI (decide (¬ (k = 0 ↔ ln = 0))).toNat) h := by
      unfold s_readClause_30 s_readClause_39
      rw [kc_i0, kc_i1]
      by_cases a : k = 0
      · by_cases b : ln = 0
        · rw [dec_f (fun z => z (by omega))]
          exact (if_neg (fun z => z (by rw [a]; rfl))).trans ((if_neg (fun z => z (by rw [b]; rfl))).trans (if_pos rfl))
        · rw [dec_t (fun z => b (z.mp a))]
          exact (if_neg (fun z => z (by rw [a]; rfl))).trans ((if_pos (by rw [kc_0, nx_eq (by omega) (by omega)]; exact b)).trans (if_neg n10))
      · by_cases b : ln = 0
        · rw [dec_t (fun z => a (z.mpr b))]
          exact (if_pos (by rw [kc_0, nx_eq (by omega) (by omega)]; exact a)).trans ((if_neg (fun z => z (by rw [b]; rfl))).trans (if_neg (fun z => n10 z.symm)))
        · rw [dec_f (fun z => z (by omega))]
          exact (if_pos (by rw [kc_0, nx_eq (by omega) (by omega)]; exact a)).trans ((if_pos (by rw [kc_0, nx_eq (by omega) (by omega)]; exact b)).trans (if_pos rfl))
    rw [e47]
    unfold s_readClause_47
    have efull : s_isFull s (nI k) h = some (nI (decide ((k = 1 ∧ 8 ≤ an D 1) ∨ (k = 2 ∧ 8 ≤ an D 2) ∨ (k = 3 ∧ 10 ≤ an D 3))).toNat) := by
      unfold s_isFull
      rw [S.2.2.1, S.2.2.2.1, S.2.2.2.2.1, c1.1, c2.1, c3.1, kc_i0, kc_i1, kc_b_8, kc_b_10]
      have : k = 0 ∨ k = 1 ∨ k = 2 ∨ k = 3 := by omega
      rcases this with rfl | rfl | rfl | rfl
      · rw [dec_f (by omega)]
        exact (if_neg (by decide)).trans ((if_neg (by decide)).trans (if_neg (by decide)))
      · refine (if_pos (by decide)).trans ?_
        by_cases z : an D 1 < 8
        · rw [dec_f (by omega)]; exact if_pos (by rw [nx_lt (by omega) (by omega)]; exact z)
        · rw [dec_t (by omega)]; exact if_neg (by rw [nx_lt (by omega) (by omega)]; exact z)
      · refine (if_neg (by decide)).trans ((if_pos (by decide)).trans ?_)
        by_cases z : an D 2 < 8
        · rw [dec_f (by omega)]; exact if_pos (by rw [nx_lt (by omega) (by omega)]; exact z)
        · rw [dec_t (by omega)]; exact if_neg (by rw [nx_lt (by omega) (by omega)]; exact z)
      · refine (if_neg (by decide)).trans ((if_neg (by decide)).trans ((if_pos (by decide)).trans ?_))
        by_cases z : an D 3 < 10
        · rw [dec_f (by omega)]; exact if_pos (by rw [nx_lt (by omega) (by omega)]; exact z)
        · rw [dec_t (by omega)]; exact if_neg (by rw [nx_lt (by omega) (by omega)]; exact z)
    by_cases q1 : k = 0 ↔ ln = 0
    · rw [dec_f (fun z => z q1)]
      refine sp_neg (fun z => z rfl) ?_
      by_cases q2 : 40 ≤ ln
      · rw [if_pos (show ¬ (k = 0 ↔ ln = 0) ∨ 40 ≤ ln ∨ (k = 1 ∧ 8 ≤ an D 1) ∨ (k = 2 ∧ 8 ≤ an D 2) ∨ (k = 3 ∧ 10 ≤ an D 3) from .inr (.inl q2))]
        exact sp_pos (by rw [kc_b_40, nx_le (by omega) (by omega)]; exact q2) b68
      · refine sp_neg (by rw [kc_b_40, nx_le (by omega) (by omega)]; exact q2) ?_
        rw [efull, Option.bind_some]
        by_cases q3 : (k = 1 ∧ 8 ≤ an D 1) ∨ (k = 2 ∧ 8 ≤ an D 2) ∨ (k = 3 ∧ 10 ≤ an D 3)
        · rw [if_pos (show ¬ (k = 0 ↔ ln = 0) ∨ 40 ≤ ln ∨ (k = 1 ∧ 8 ≤ an D 1) ∨ (k = 2 ∧ 8 ≤ an D 2) ∨ (k = 3 ∧ 10 ≤ an D 3) from .inr (.inr q3)), dec_t q3]
          exact sp_neg n10 b68
        · rw [if_neg (show ¬ (¬ (k = 0 ↔ ln = 0) ∨ 40 ≤ ln ∨ (k = 1 ∧ 8 ≤ an D 1) ∨ (k = 2 ∧ 8 ≤ an D 2) ∨ (k = 3 ∧ 10 ≤ an D 3)) from fun z => z.elim (fun z => z q1) (fun z => z.elim q2 q3)), dec_f q3]
          refine sp_pos rfl ?_
          refine sp_call (t_advance_sp R C u5 bg.2) ?_
          rintro h1 ⟨f1, U1, z1⟩
          have S1 := S.ft f1
          have R1 := f1.rf R
          have C1 := f1.ct C
          have fin : ∀ (o : CLO) (m : Option (Int32 × pm_H)), SP m (CO h1 s B L o) → SP (m.bind fun q7 => if mi_bo q7.1 = true then some (q7.1, q7.2) else none) (CO h s B L o) := by
            intro o m hm
            refine sp_call hm ?_
            rintro ⟨v, h2⟩ ⟨fh, hz⟩
            cases o with
            | inl e =>
              obtain ⟨y1, y2⟩ := hz
              dsimp only at y1 y2
              subst y1
              exact sp_pos mi_bo0 (sp_some.mpr ⟨(f1.fh s).trans fh, rfl, y2⟩)
            | inr q =>
              obtain ⟨y1, y2, y3, y4⟩ := hz
              dsimp only at y1 y2 y3 y4
              subst y1
              exact sp_pos mi_bo1 (sp_some.mpr ⟨(f1.fh s).trans fh, rfl, y2, y3, y4.trans z1⟩)
          by_cases k0 : k = 0
          · have z0 : an D 0 = 0 := t1.mp (q1.mp k0)
            rw [if_pos k0]
            exact sp_pos (by rw [k0]; rfl) (fin _ _ (s_words_n R1 C1 U1 S1 W z0 (t2 (q1.mp k0)) (fun a b ha hb => by rw [f1.fr.i _ (by omega)]; exact tg z0 a b ha hb)))
          · have l0 : ¬ ln = 0 := fun z => k0 (q1.mpr z)
            have z0 : 0 < an D 0 := by
              have : ¬ an D 0 = 0 := fun z => l0 (t1.mpr z)
              omega
            rw [if_neg k0]
            refine sp_neg (by rw [show (0 : Int32) = nI 0 from rfl, nx_eq (by omega) (by omega)]; exact k0) ?_
            by_cases k1 : k = 1
            · rw [if_pos k1]
              exact sp_pos (by rw [k1]; rfl) (fin _ _ (s_man_n R1 C1 U1 S1 W z0 (by omega)))
            · rw [if_neg k1]
              refine sp_neg (by rw [show (1 : Int32) = nI 1 from rfl, nx_eq (by omega) (by omega)]; exact k1) ?_
              by_cases k2 : k = 2
              · rw [if_pos k2]
                exact sp_pos (by rw [k2]; rfl) (fin _ _ (s_ord_n R1 C1 U1 S1 W z0 (by omega)))
              · rw [if_neg k2]
                exact sp_neg (by rw [show (2 : Int32) = nI 2 from rfl, nx_eq (by omega) (by omega)]; exact k2) (fin _ _ (s_mea_n R1 C1 U1 S1 W z0 (by omega)))
    · rw [if_pos (show ¬ (k = 0 ↔ ln = 0) ∨ 40 ≤ ln ∨ (k = 1 ∧ 8 ≤ an D 1) ∨ (k = 2 ∧ 8 ≤ an D 2) ∨ (k = 3 ∧ 10 ≤ an D 3) from .inl q1), dec_t q1]
      exact sp_pos n10 b68
end CLA
