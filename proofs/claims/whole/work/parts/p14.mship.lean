/-! ship, of the reference. -/
section MSH
variable {h : pm_H} {L p : Nat} {B : Nat → Nat} {D A : Nat → Int32}
theorem nrE_pos {lo hi e : Nat} (q : nrE B L p lo hi = some e) (hp : p ≤ L) : 0 < e ∧ e ≤ 8 * L + 6 := by
  unfold nrE at q
  split at q
  · split at q
    · cases q; omega
    · cases q
  · cases q; omega
theorem cl_pos {ln e : Nat} (q : clAt B L D ln p = .inl e) (hp : p ≤ L) : 0 < e ∧ e ≤ 8 * L + 6 := by
  have pos : ∀ x, x ≤ L → bh B L x ≤ L := fun x hx => (bh_ge (B := B) hx).2
  have pk : ∀ x, x ≤ L → skp B L x ≤ L := fun x hx => (skp_ge (B := B) hx).2
  have p1 := pk _ (pos p hp)
  have p2 := pk _ (pos _ p1)
  have p3 := pk _ (pos _ p2)
  unfold clAt at q
  split at q
  · cases q; omega
  · split at q
    · cases q; omega
    · split at q
      · unfold clShip at q
        split at q
        · cases q; rename_i z; exact nrE_pos z p1
        · cases q
      · split at q
        · unfold clMan at q
          split at q
          · cases q; rename_i z; exact nrE_pos z p1
          · split at q
            · cases q; rename_i z; exact nrE_pos z p2
            · cases q
        · split at q
          · unfold clOrd at q
            split at q
            · cases q; rename_i z; exact nrE_pos z p1
            · split at q
              · split at q
                · split at q
                  · cases q
                    rename_i i z
                    have := List.mem_range.mp (List.mem_of_find?_eq_some z)
                    have b := pos _ p2
                    omega
                  · cases q
                · cases q; omega
              · cases q; omega
          · unfold clMea at q
            split at q
            · cases q; rename_i z; exact nrE_pos z p1
            · split at q
              · cases q; rename_i z; exact nrE_pos z p2
              · split at q
                · cases q; omega
                · split at q
                  · cases q; rename_i z; exact nrE_pos z p3
                  · cases q
theorem shP_pos : ∀ (f ln p : Nat) (D : Nat → Int32) (e : Nat), f + ln = 41 → BT D ln → p ≤ L → shP B L f ln p D = .inl e → 0 < e ∧ e ≤ 8 * L + 6
  | 0, ln, p, D, e, hf, T, hp, q => absurd T.2.2.2 (by omega)
  | f + 1, ln, p, D, e, hf, T, hp, q => by
    rw [shP] at q
    cases eo : clAt B L D ln p with
    | inl e' =>
      rw [eo] at q
      cases q
      exact cl_pos eo hp
    | inr r =>
      rw [eo] at q
      dsimp only at q
      obtain ⟨T1, r1, r2, r3⟩ := cl_wr T eo hp
      split at q
      · cases q
      · rename_i en
        split at q
        · have rL : r.1 < L := by
            apply Classical.byContradiction
            intro z
            exact en (by unfold ca; rw [if_neg z])
          exact shP_pos f (ln + 1) _ r.2 e (by omega) T1 (skp_ge (B := B) (L := L) (p := r.1 + 1) (by omega)).2 q
        · cases q; omega
theorem shP_wr : ∀ (f ln p : Nat) (D D' : Nat → Int32), f + ln = 41 → BT D ln → p ≤ L → shP B L f ln p D = .inr D' → WR D' ∧ 0 < an D' 0
  | 0, ln, p, D, D', hf, T, hp, q => absurd T.2.2.2 (by omega)
  | f + 1, ln, p, D, D', hf, T, hp, q => by
    rw [shP] at q
    cases eo : clAt B L D ln p with
    | inl e' =>
      rw [eo] at q
      cases q
    | inr r =>
      rw [eo] at q
      dsimp only at q
      obtain ⟨T1, r1, r2, r3⟩ := cl_wr T eo hp
      split at q
      · cases q
        refine ⟨T1.1, ?_⟩
        have : ¬ an r.2 0 = 0 := fun z => by have := T1.2.1.mpr z; omega
        omega
      · rename_i en
        split at q
        · have rL : r.1 < L := by
            apply Classical.byContradiction
            intro z
            exact en (by unfold ca; rw [if_neg z])
          exact shP_wr f (ln + 1) _ r.2 D' (by omega) T1 (skp_ge (B := B) (L := L) (p := r.1 + 1) (by omega)).2 q
        · cases q
def FW (h h' : pm_H) : Prop := FrM (fun c => c = 196 ∨ c = 199) (fun j => j = 1 ∨ j = 8 ∨ j = 9 ∨ j = 10 ∨ j = 11 ∨ j = 12 ∨ j = 14) h h'
theorem FZ.fw {h' : pm_H} (f : FZ h h') : FW h h' := f.mono (fun _ q => .inr q) (fun j hj => by omega)
theorem m_reads_n (R : RF h) (C : MT h L B) (e199 : h.2.1 199 = D) (z : Dz D) (e11 : h.2.1 193 11 = nI 6) : SP (m_readsAll 193 h) (fun y => FW h y.2 ∧ y.2.2.1 193 1 = nI 0 ∧ (match shP B L 41 0 (skp B L 0) D with
    | .inl e => y.1 = nI 0 ∧ y.2.2.1 193 9 = nI e
    | .inr D' => y.1 = nI 1 ∧ y.2.2.1 199 = D')) := by
  have hL := C.2.1
  have hB := fun k hk => (C.2.2 k hk).2
  have T := z.bt.1
  have s0 := (skp_ge (B := B) (Nat.zero_le L)).2
  unfold m_readsAll
  rw [ra_193_4 R, Option.bind_some, e11, mn_196, gi_n (by omega), nx_cl (by omega), kc_i0]
  refine sp_pos (dec_t (by omega)) ?_
  rw [sp_bd, sp_bd, sp_bd, sp_bd, sp_bd]
  have f0 : FW h (pm_setI (pm_setI (pm_setI (pm_setI (pm_setI h 196 6 (nI 0)) 193 14 (nI 0)) 193 8 (nI 0)) 193 9 (nI 0)) 193 12 (nI 0)) := (((((FrM.refl _ _ h).setI (by omega) (.inl rfl)).setF (by omega)).setF (by omega)).setF (by omega)).setF (by omega)
  have a14 : (pm_setI (pm_setI (pm_setI (pm_setI (pm_setI h 196 6 (nI 0)) 193 14 (nI 0)) 193 8 (nI 0)) 193 9 (nI 0)) 193 12 (nI 0)).2.1 193 14 = nI 0 := by rw [ri_j _ (by omega), ri_j _ (by omega), ri_j _ (by omega), ri_s]
  have a8 : (pm_setI (pm_setI (pm_setI (pm_setI (pm_setI h 196 6 (nI 0)) 193 14 (nI 0)) 193 8 (nI 0)) 193 9 (nI 0)) 193 12 (nI 0)).2.1 193 8 = nI 0 := by rw [ri_j _ (by omega), ri_j _ (by omega), ri_s]
  have a9 : (pm_setI (pm_setI (pm_setI (pm_setI (pm_setI h 196 6 (nI 0)) 193 14 (nI 0)) 193 8 (nI 0)) 193 9 (nI 0)) 193 12 (nI 0)).2.1 193 9 = nI 0 := by rw [ri_j _ (by omega), ri_s]
  have a11 : (pm_setI (pm_setI (pm_setI (pm_setI (pm_setI h 196 6 (nI 0)) 193 14 (nI 0)) 193 8 (nI 0)) 193 9 (nI 0)) 193 12 (nI 0)).2.1 193 11 = nI 6 := by rw [ri_j _ (by omega), ri_j _ (by omega), ri_j _ (by omega), ri_j _ (by omega), ri_c _ (by omega)]; exact e11
  have a1 : (pm_setI (pm_setI (pm_setI (pm_setI (pm_setI h 196 6 (nI 0)) 193 14 (nI 0)) 193 8 (nI 0)) 193 9 (nI 0)) 193 12 (nI 0)).2.1 193 1 = nI L := by rw [ri_j _ (by omega), ri_j _ (by omega), ri_j _ (by omega), ri_j _ (by omega), ri_c _ (by omega)]; exact C.1
  have a199 : (pm_setI (pm_setI (pm_setI (pm_setI (pm_setI h 196 6 (nI 0)) 193 14 (nI 0)) 193 8 (nI 0)) 193 9 (nI 0)) 193 12 (nI 0)).2.1 199 = D := by
    rw [← e199]
    funext j
    rw [ri_c _ (by omega), ri_c _ (by omega), ri_c _ (by omega), ri_c _ (by omega), ri_c _ (by omega)]
  generalize pm_setI (pm_setI (pm_setI (pm_setI (pm_setI h 196 6 (nI 0)) 193 14 (nI 0)) 193 8 (nI 0)) 193 9 (nI 0)) 193 12 (nI 0) = h1 at f0 a14 a8 a9 a11 a1 a199 ⊢
  have R1 := R.fm f0
  have C1 : MT h1 L B := ⟨a1, hL, fun k hk => by rw [f0.i (by omega) (by omega)]; exact C.2.2 k hk⟩
  obtain ⟨z2, ez2, mz2⟩ := m_clause_n R1 C1 a199 a8 (Nat.zero_le L) a9 T a14 a11
  rw [ez2, Option.bind_some]
  refine sp_call (m_textW 40 0 D (clAt B L D 0 (skp B L 0)) h1 z2 R1 C1 mz2 a11 (fun r er => cl_wr T er s0) rfl) ?_
  rintro ⟨v, h3⟩ ⟨f3, hz⟩
  dsimp only at f3
  have f03 : FW h h3 := f0.trans f3.fw
  have R3 := R1.fm f3
  have C3 := f3.mt C1
  have sp := shP_pos (B := B) (L := L) 41 0 (skp B L 0) D
  -- the end: the tape is empty, whether a fault was found
  have e88 : ∀ (h4 : pm_H) (w : Nat), w < 2147483648 → h4.2.1 193 9 = nI w → m_readsAll_88 193 h4 = some (nI (if w = 0 then 1 else 0), pm_setI h4 193 1 (nI 0)) := by
    intro h4 w hw e
    unfold m_readsAll_88
    show (if ¬ (pm_setI h4 193 1 (Int32.ofInt 0)).2.1 193 9 = 0 then some (Int32.ofInt 0, pm_setI h4 193 1 (Int32.ofInt 0)) else some (Int32.ofInt 1, pm_setI h4 193 1 (Int32.ofInt 0))) = _
    rw [ri_j _ (by omega), e, kc_i0, kc_i1]
    by_cases w0 : w = 0
    · rw [if_pos w0]
      exact if_neg (fun z => z (by rw [w0]; rfl))
    · rw [if_neg w0]
      exact if_pos (by rw [kc_0, nx_eq (by omega) (by omega)]; exact w0)
  have bad : ∀ e, shP B L 41 0 (skp B L 0) D = .inl e → v = nI 0 → h3.2.1 193 9 = nI e → SP (m_readsAll_66 193 (v, h3).1 (v, h3).2) (fun y => FW h y.2 ∧ y.2.2.1 193 1 = nI 0 ∧ y.1 = nI 0 ∧ y.2.2.1 193 9 = nI e) := by
    intro e es ev e9
    have ep := sp e rfl T s0 es
    subst ev
    unfold m_readsAll_66
    refine sp_pos rfl ?_
    rw [e88 h3 e (by omega) e9, if_neg (by omega)]
    exact sp_some.mpr ⟨f03.setF (by omega), ri_s _, rfl, by show (pm_setI h3 193 1 (nI 0)).2.1 193 9 = _; rw [ri_j _ (by omega)]; exact e9⟩
  have es : shP B L 41 0 (skp B L 0) D = match clAt B L D 0 (skp B L 0) with
    | .inl e => .inl e
    | .inr q => if ca B L q.1 = 256 then .inr q.2 else if ca B L q.1 = 59 then shP B L 40 (0 + 1) (skp B L (q.1 + 1)) q.2 else .inl (1 + 8 * q.1) := by
    rw [shP]
    cases clAt B L D 0 (skp B L 0) <;> rfl
  cases eo : clAt B L D 0 (skp B L 0) with
  | inl e =>
    rw [eo] at hz es
    dsimp only at es
    rw [es]
    exact bad e es hz.1 hz.2
  | inr r =>
    rw [eo] at hz es
    dsimp only at hz es
    rw [← es] at hz
    cases eq : shP B L 41 0 (skp B L 0) D with
    | inl e =>
      rw [eq] at hz
      rcases hz with ⟨y1, y2⟩ | ⟨y1, y2, q', y3, y4, y5, y6⟩
      · exact bad e eq y1 y2
      · subst y1
        have ep := sp e rfl T s0 eq
        unfold m_readsAll_66
        refine sp_neg n10 ?_
        dsimp only
        rw [m_see_n R3 C3 y3 y4, Option.bind_some]
        have cl : ca B L (skp B L q') ≤ 256 := ca_le hB
        have ec : cv (ca B L (skp B L q')) = nI (ca B L (skp B L q')) := by unfold cv; rw [if_neg y5]
        dsimp only
        rw [ec]
        refine sp_neg (by rw [kc_im1, n_eq_ng (by omega) (by omega) (by omega)]; exact id) ?_
        rw [ri_s, kc_i0, m_fails_n (by rw [ri_j _ (by omega)]; exact y2), Option.bind_some]
        dsimp only
        rw [e88 _ (1 + 8 * skp B L q' + 0) (by omega) (ri_s _), if_neg (by omega)]
        refine sp_some.mpr ⟨((f03.setF (by omega)).setF (by omega)).setF (by omega), ri_s _, rfl, ?_⟩
        show (pm_setI (pm_setI (pm_setI h3 193 8 _) 193 9 (nI (1 + 8 * skp B L q' + 0))) 193 1 (nI 0)).2.1 193 9 = _
        rw [ri_j _ (by omega), ri_s, y6]
        rfl
    | inr D' =>
      rw [eq] at hz
      obtain ⟨y1, y2, y3, q', y4, y5, y6⟩ := hz
      subst y1
      unfold m_readsAll_66
      refine sp_neg n10 ?_
      dsimp only
      rw [m_see_n R3 C3 y4 y5, Option.bind_some, y6]
      refine sp_pos (by rw [kc_im1]; rfl) ?_
      dsimp only
      rw [e88 _ 0 (by omega) (by rw [ri_j _ (by omega)]; exact y2), if_pos rfl]
      refine sp_some.mpr ⟨(f03.setF (by omega)).setF (by omega), ri_s _, rfl, ?_⟩
      show (pm_setI (pm_setI h3 193 8 _) 193 1 (nI 0)).2.1 199 = D'
      rw [← y3]
      funext j
      rw [ri_c _ (by omega), ri_c _ (by omega)]
end MSH
