/-! Texts: numbers, of the program and of the reference. -/
/-- the fault of a number from lo to hi at p, if it has one -/
def nrE (B : Nat → Nat) (L p lo hi : Nat) : Option Nat := if kd (ca B L p) = 1 then (if 5 < bh B L p - p ∨ dgv B p (bh B L p - p) < lo ∨ hi < dgv B p (bh B L p - p) then some (1 + 8 * p + 1) else none) else some (1 + 8 * p)
/-- the number at p -/
def nrV (B : Nat → Nat) (L p : Nat) : Nat := dgv B p (bh B L p - p)
section NM_
variable {h : pm_H} {L p : Nat} {B : Nat → Nat}
theorem dgv_bd : ∀ n, (∀ i, i < n → 48 ≤ B (p + i) ∧ B (p + i) ≤ 57) → dgv B p n < 10 ^ (min n 5)
  | 0, _ => by show 0 < 10 ^ 0; decide
  | n + 1, hd => by
    have ih := dgv_bd n (fun i hi => hd i (by omega))
    rw [dgv]
    by_cases q : n < 5
    · rw [if_pos q, show min (n + 1) 5 = n + 1 from by omega, Nat.pow_succ]
      rw [show min n 5 = n from by omega] at ih
      have := hd n (by omega)
      omega
    · rw [if_neg q, show min (n + 1) 5 = 5 from by omega]
      rw [show min n 5 = 5 from by omega] at ih
      exact ih
theorem dig_of {c : Nat} (hk : kd c = 1) : 48 ≤ c ∧ c ≤ 57 := by
  unfold kd at hk
  split at hk
  · omega
  · split at hk
    · assumption
    · split at hk <;> omega
theorem bh_dig (k1 : kd (ca B L p) = 1) : bh B L p = nx (isKd B 1) L p := by
  unfold bh
  rw [k1, if_neg (by omega)]
theorem nrV_lt (hp : p ≤ L) (k1 : kd (ca B L p) = 1) : nrV B L p < 100000 := by
  unfold nrV
  rw [bh_dig k1]
  have h1 := dgv_bd (B := B) (p := p) (nx (isKd B 1) L p - p) (fun i hi => dig_of (of_decide_eq_true (nx_in (c := isKd B 1) hp (q := p + i) (by omega) (by omega))))
  have h2 : 10 ^ (min (nx (isKd B 1) L p - p) 5) ≤ 10 ^ 5 := Nat.pow_le_pow_right (by decide) (by omega)
  omega
theorem t_blame_n {q k : Nat} : t_blame 1 (nI q) (nI k) h = some (nI 0, pm_setI h 1 7 (nI (1 + 8 * q + k))) := by
  unfold t_blame
  rw [kc_i0, kc_i1, kc_b_8, nx_mul, nx_add, nx_add]
  rfl
theorem t_number_n (R : RF h) (C : CT h L B) (U : UNT h B L p) {lo hi : Nat} (hlo : lo < 2147483648) (hhi : hi < 2147483648) : SP (s_readNumber 1 (nI lo) (nI hi) h) (fun z => match nrE B L p lo hi with
    | some e => z.1 = ng 1 ∧ z.2 = pm_setI h 1 7 (nI e)
    | none => z.1 = nI (nrV B L p) ∧ FT h z.2 ∧ UNT z.2 B L (skp B L (bh B L p)) ∧ z.2.2.1 1 7 = h.2.1 1 7) := by
  have U' := U
  obtain ⟨u1, u2, u3, u4, u5, u6, u7⟩ := U
  have hL := C.2.1
  have kl := kd_le (ca B L p)
  have bg := bh_ge (B := B) u1
  unfold s_readNumber nrE
  rw [u3]
  by_cases k1 : kd (ca B L p) = 1
  · have vl := nrV_lt u1 k1
    have en : nbr B L p = nrV B L p := by
      unfold nbr
      rw [if_neg (by omega), if_pos k1]
      rfl
    have ev : dgv B p (bh B L p - p) = nrV B L p := rfl
    rw [if_pos k1, ev]
    refine sp_pos (by rw [k1, kc_i1]) ?_
    rw [u6, u7, en]
    have bad : SP (s_readNumber_43 1 h) (fun z => z.1 = ng 1 ∧ z.2 = pm_setI h 1 7 (nI (1 + 8 * p + 1))) := by
      unfold s_readNumber_43
      rw [u4, kc_i1, t_blame_n, Option.bind_some, kc_im1]
      exact sp_some.mpr ⟨rfl, rfl⟩
    by_cases q : 5 < bh B L p - p ∨ nrV B L p < lo ∨ hi < nrV B L p
    · rw [if_pos q]
      by_cases q1 : 5 < bh B L p - p
      · exact sp_pos (by rw [kc_i5, nx_lt (by omega) (by omega)]; exact q1) bad
      refine sp_neg (by rw [kc_i5, nx_lt (by omega) (by omega)]; exact q1) ?_
      by_cases q2 : nrV B L p < lo
      · exact sp_pos (by rw [nx_lt (by omega) (by omega)]; exact q2) bad
      exact sp_neg (by rw [nx_lt (by omega) (by omega)]; exact q2) (sp_neg (by rw [nx_le (by omega) (by omega)]; omega) bad)
    · rw [if_neg q]
      refine sp_neg (by rw [kc_i5, nx_lt (by omega) (by omega)]; omega) (sp_neg (by rw [nx_lt (by omega) (by omega)]; omega) (sp_pos (by rw [nx_le (by omega) (by omega)]; omega) ?_))
      refine sp_call (t_advance_sp R C u5 bg.2) ?_
      rintro h1 ⟨f1, U1, e1⟩
      exact sp_some.mpr ⟨rfl, f1, U1, e1⟩
  · rw [if_neg k1]
    refine sp_neg (by rw [kc_i1, nx_eq (by omega) (by omega)]; exact k1) ?_
    rw [u4, kc_i0, t_blame_n, Option.bind_some, kc_im1]
    exact sp_some.mpr ⟨rfl, rfl⟩
theorem m_fails_n {q k : Nat} (e9 : h.2.1 193 9 = nI 0) : m_fails 193 (nI k) (nI q) h = some (nI 0, pm_setI h 193 9 (nI (1 + 8 * q + k))) := by
  unfold m_fails
  rw [e9]
  refine (if_neg (fun z => z rfl)).trans ?_
  rw [kc_i0, kc_i1, kc_b_8, nx_mul, nx_add, nx_add]
  rfl
theorem mi_bo0 : mi_bo (nI 0) = true := by decide
theorem mi_bo1 : mi_bo (nI 1) = true := by decide
theorem m_number_n (R : RF h) (C : MT h L B) {q : Nat} (e8 : h.2.1 193 8 = nI q) (hq : q ≤ L) (e9 : h.2.1 193 9 = nI 0) (ep : skp B L q = p) {lo hi : Nat} (hlo : lo < 2147483648) (hhi : hi < 2147483647) : SP (m_numberHere 193 (nI lo) (nI hi) h) (fun z => FX h z.2 ∧ (match nrE B L p lo hi with
    | some e => z.1 = nI 0 ∧ z.2.2.1 193 9 = nI e
    | none => z.1 = nI 1 ∧ z.2.2.1 193 8 = nI (bh B L p) ∧ z.2.2.1 193 10 = nI (nrV B L p) ∧ z.2.2.1 193 9 = nI 0)) := by
  have hL := C.2.1
  have hB := fun k hk => (C.2.2 k hk).2
  have sg := skp_ge (B := B) hq
  rw [ep] at sg
  have bg := bh_ge (B := B) sg.2
  unfold m_numberHere nrE
  rw [m_see_n R C e8 hq, Option.bind_some, ep]
  dsimp only
  have f1 := fx8 h (nI p)
  have R1 := R.fm f1
  have C1 := f1.mt C
  have a8 : (pm_setI h 193 8 (nI p)).2.1 193 8 = nI p := ri_s _
  have a9 : (pm_setI h 193 8 (nI p)).2.1 193 9 = nI 0 := by rw [ri_j _ (by omega)]; exact e9
  generalize pm_setI h 193 8 (nI p) = h1 at f1 R1 C1 a8 a9 ⊢
  rw [a8, m_isDigit_n R1 C1 (by omega), Option.bind_some]
  by_cases k1 : kd (ca B L p) = 1
  · have vl := nrV_lt sg.2 k1
    rw [dec_t k1, if_pos k1]
    refine sp_pos n10 ?_
    have eb := bh_dig k1
    have key : wh (fun z : (Int32 × pm_H) => m_numberHere_34 193 (nI lo) (nI hi) (nI p) z.1 z.2) (Int32.ofInt 0, h1) = some (nI (dgv B p (bh B L p - p)), pm_setI h1 193 8 (nI (bh B L p))) := by
      have e0 : (Int32.ofInt 0, h1) = (fun k => (nI (dgv B p (k - p)), pm_setI h1 193 8 (nI k))) p := by
        dsimp only
        rw [Nat.sub_self, kc_i0, ← a8, setI_self]
        rfl
      rw [e0, eb]
      refine wh_nx (c := isKd B 1) (L := L) (p := p) (fun k => (nI (dgv B p (k - p)), pm_setI h1 193 8 (nI k))) (fun k => (nI (dgv B p (k - p)), pm_setI h1 193 8 (nI k))) sg.2 (fun k b1 b2 b3 => ?_) (fun k b1 b2 b3 => ?_)
      · dsimp only
        have f := fx8 h1 (nI k)
        have z : kd (B k) = 1 := of_decide_eq_true b3
        have zd := dig_of z
        unfold m_numberHere_34 m_numberHere_75
        rw [ri_s, m_isDigit_n (R1.fm f) (f.mt C1) (by omega), Option.bind_some, ca_lt b2, dec_t z]
        refine (if_neg n10).trans ?_
        rw [nx_sub b1, show k + 1 - p = (k - p) + 1 from by omega, dgv, kc_i1, nx_add]
        by_cases q5 : k - p < 5
        · rw [if_pos q5]
          refine (if_neg (by rw [kc_i5, nx_le (by omega) (by omega)]; omega)).trans ?_
          have es : sb (B k) = nI (B k) := by unfold sb; rw [if_pos (by omega)]
          rw [ra_193_0 (R1.fm f), Option.bind_some, mn_194, gi_n (by omega), nx_cl (by omega), ri_c _ (by omega), (C1.2.2 k b2).1, es, kc_b_10, kc_b_48, nx_mul, nx_add, nx_sub (by omega)]
          refine (if_pos (dec_t (by omega))).trans ?_
          show some (Sum.inl (_, pm_setI (pm_setI h1 193 8 _) 193 8 _)) = _
          rw [setI_over, show p + (k - p) = k from by omega, show 10 * dgv B p (k - p) + B k - 48 = dgv B p (k - p) * 10 + (B k - 48) from by omega]
        · rw [if_neg q5]
          refine (if_pos (by rw [kc_i5, nx_le (by omega) (by omega)]; omega)).trans ?_
          show some (Sum.inl (_, pm_setI (pm_setI h1 193 8 _) 193 8 _)) = _
          rw [setI_over]
      · dsimp only
        have f := fx8 h1 (nI k)
        have : ¬ kd (ca B L k) = 1 := by
          unfold ca
          by_cases q2 : k < L
          · rw [if_pos q2]
            exact of_decide_eq_false (b3 q2)
          · rw [if_neg q2]
            decide
        unfold m_numberHere_34
        rw [ri_s, m_isDigit_n (R1.fm f) (f.mt C1) (by omega), Option.bind_some, dec_f this]
        exact if_pos rfl
    rw [key, Option.bind_some]
    dsimp only
    rw [sp_bd]
    have ev : dgv B p (bh B L p - p) = nrV B L p := rfl
    rw [ev]
    have f5 : FX h (pm_setI (pm_setI h1 193 8 (nI (bh B L p))) 193 10 (nI (nrV B L p))) := (f1.setF (.inl rfl)).setF (.inr (.inr rfl))
    have b8 : (pm_setI (pm_setI h1 193 8 (nI (bh B L p))) 193 10 (nI (nrV B L p))).2.1 193 8 = nI (bh B L p) := by rw [ri_j _ (by omega), ri_s]
    have b9 : (pm_setI (pm_setI h1 193 8 (nI (bh B L p))) 193 10 (nI (nrV B L p))).2.1 193 9 = nI 0 := by rw [ri_j _ (by omega), ri_j _ (by omega)]; exact a9
    have b10 : (pm_setI (pm_setI h1 193 8 (nI (bh B L p))) 193 10 (nI (nrV B L p))).2.1 193 10 = nI (nrV B L p) := ri_s _
    generalize pm_setI (pm_setI h1 193 8 (nI (bh B L p))) 193 10 (nI (nrV B L p)) = h5 at f5 b8 b9 b10 ⊢
    rw [b8, nx_sub bg.1]
    have bad : SP (m_numberHere_117 193 (nI p) h5) (fun z => FX h z.2 ∧ z.1 = nI 0 ∧ z.2.2.1 193 9 = nI (1 + 8 * p + 1)) := by
      unfold m_numberHere_117
      rw [kc_i1, m_fails_n b9, Option.bind_some]
      refine sp_pos rfl (sp_some.mpr ⟨f5.setF (.inr (.inl rfl)), kc_i0, ri_s _⟩)
    by_cases q1 : 5 < bh B L p - p
    · rw [if_pos (show 5 < bh B L p - p ∨ nrV B L p < lo ∨ hi < nrV B L p from .inl q1)]
      exact sp_pos (by rw [kc_i5, nx_lt (by omega) (by omega)]; exact q1) bad
    · refine sp_neg (by rw [kc_i5, nx_lt (by omega) (by omega)]; exact q1) ?_
      rw [m_in_n h5 (nI (nrV B L p)) (a := lo) (n := hi) rfl rfl, Option.bind_some]
      by_cases q2 : nrV B L p < lo ∨ hi < nrV B L p
      · rw [if_pos (show 5 < bh B L p - p ∨ nrV B L p < lo ∨ hi < nrV B L p from .inr q2), dec_f (by rw [nx_lt (by omega) (by omega), nx_lt (by omega) (by omega)]; omega)]
        exact sp_neg (fun z => z rfl) bad
      · rw [if_neg (show ¬ (5 < bh B L p - p ∨ nrV B L p < lo ∨ hi < nrV B L p) by omega), dec_t (by rw [nx_lt (by omega) (by omega), nx_lt (by omega) (by omega)]; omega)]
        refine sp_pos n10 ?_
        unfold m_numberHere_126
        exact sp_some.mpr ⟨f5, kc_i1, b8, b10, b9⟩
  · rw [dec_f k1, if_neg k1]
    refine sp_neg (fun z => z rfl) ?_
    rw [kc_i0, m_fails_n a9, Option.bind_some]
    exact sp_pos mi_bo0 (sp_some.mpr ⟨f1.setF (.inr (.inl rfl)), rfl, ri_s _⟩)
end NM_
