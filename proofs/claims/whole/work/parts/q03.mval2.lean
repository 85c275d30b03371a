/-! A rule's text: a value, read by the reference. -/
section MV2
variable {h : pm_H} {r k b d L p q : Nat} {B : Nat → Nat} {l : List Nat}
theorem ca_in {B : Nat → Nat} {L p : Nat} (z : ca B L p ≠ 256) : p < L ∧ ca B L p = B p := by
  unfold ca at z ⊢
  by_cases y : p < L
  · exact ⟨y, if_pos y⟩
  · exact (z (if_neg y)).elim
theorem bh_gt {B : Nat → Nat} {L p : Nat} (hp : p ≤ L) (z : ca B L p ≠ 256) : p < bh B L p := by
  obtain ⟨y1, y2⟩ := ca_in z
  unfold bh
  split
  · split <;> omega
  · have t : isKd B (kd (ca B L p)) p = true := by
      unfold isKd
      rw [y2]
      exact decide_eq_true rfl
    rw [nx_t y1 t]
    have := nx_ge (c := isKd B (kd (ca B L p))) (L := L) (p := p + 1) (by omega)
    omega
theorem kd_256 {c k : Nat} (e : kd c = k) (hk : k ≠ 0) : c ≠ 256 := fun z => by
  subst z
  exact hk (by rw [← e]; rfl)
theorem m_value_n (R : RF h) (C : MT h L B) (hr : r < 6) (S : MRS h r k b l) (e8 : h.2.1 193 8 = nI q) (hq : q ≤ L) (ep : skp B L q = p) (e9 : h.2.1 193 9 = nI 0) (hk : k ≤ 60) (hb : b + l.length + d ≤ q) : SP (m_value 193 h) (VO h r b d B L (valP B L k l p)) := by
  have hL := C.2.1
  have hB := fun k hk => (C.2.2 k hk).2
  have sg := skp_ge (B := B) hq
  have cp := skp_ca (B := B) hq
  rw [ep] at sg cp
  have bg := bh_ge (B := B) sg.2
  unfold m_value valP
  rw [m_see_n R C e8 hq, Option.bind_some, ep]
  dsimp only
  have f1 := fx8 h (nI p)
  have R1 := R.fm f1
  have C1 := f1.mt C
  have S1 := f1.mrs S
  have a8 : (pm_setI h 193 8 (nI p)).2.1 193 8 = nI p := ri_s _
  have a9 : (pm_setI h 193 8 (nI p)).2.1 193 9 = nI 0 := by rw [ri_j _ (by omega)]; exact e9
  have k1 : FK r b h (pm_setI h 193 8 (nI p)) := f1.fk r b
  generalize pm_setI h 193 8 (nI p) = h1 at f1 R1 C1 S1 a8 a9 k1 ⊢
  rw [a8, m_isDigit_n R1 C1 (by omega), Option.bind_some]
  by_cases d1 : kd (ca B L p) = 1
  · have vl := nrV_lt sg.2 d1
    have gt := bh_gt sg.2 (kd_256 d1 (by omega))
    rw [if_pos d1, decide_eq_true d1]
    refine sp_neg n10 ?_
    rw [kc_i0, kc_l99999]
    have mn := m_number_n R1 C1 a8 sg.2 a9 (skp_id cp) (lo := 0) (hi := 99999) (by omega) (by omega)
    have en : nrE B L p 0 99999 = if 5 < bh B L p - p then some (1 + 8 * p + 1) else none := by
      unfold nrE
      rw [if_pos d1]
      have ev : dgv B p (bh B L p - p) = nrV B L p := rfl
      rw [ev]
      by_cases z : 5 < bh B L p - p
      · rw [if_pos (.inl z), if_pos z]
      · rw [if_neg (by omega), if_neg z]
    rw [en] at mn
    refine sp_call mn ?_
    rintro ⟨v, h2⟩ ⟨f2, hz⟩
    dsimp only at f2 hz ⊢
    by_cases z : 5 < bh B L p - p
    · rw [if_pos z] at hz
      obtain ⟨y1, y2⟩ := hz
      subst y1
      rw [if_pos z]
      exact sp_pos rfl (sp_some.mpr ⟨k1.trans (f2.fk r b), rfl, y2⟩)
    · rw [if_neg z] at hz
      obtain ⟨y1, y2, y3, y4⟩ := hz
      subst y1
      rw [if_neg z]
      refine sp_neg n10 ?_
      have S2 := f2.mrs S1
      have k2 := k1.trans (f2.fk r b)
      rw [m_makes_n S2.1 y4 hk, Option.bind_some]
      by_cases w : k < 60
      · rw [if_pos w, if_pos w]
        refine sp_pos n10 ?_
        have k3 := k2.set (v := nI (k + 1)) (j := 12) (by omega)
        have S3 : MRS (pm_setI h2 193 12 (nI (k + 1))) r (k + 1) b l := ⟨ri_s _, by rw [ri_j _ (by omega)]; exact S2.2.1, by rw [ri_c _ (by omega)]; exact S2.2.2.1, S2.2.2.2.1, fun j hj => by rw [ri_c _ (by omega)]; exact S2.2.2.2.2 j hj⟩
        have a10 : (pm_setI h2 193 12 (nI (k + 1))).2.1 193 10 = nI (nrV B L p) := by rw [ri_j _ (by omega)]; exact y3
        have b8 : (pm_setI h2 193 12 (nI (k + 1))).2.1 193 8 = nI (bh B L p) := by rw [ri_j _ (by omega)]; exact y2
        have b9 : (pm_setI h2 193 12 (nI (k + 1))).2.1 193 9 = nI 0 := by rw [ri_j _ (by omega)]; exact y4
        dsimp only
        generalize pm_setI h2 193 12 (nI (k + 1)) = h3 at k3 S3 a10 b8 b9 ⊢
        rw [a10]
        refine sp_call (m_puts_n (k3.rf R) hr S3 (by omega)) ?_
        rintro h4 ⟨k4, S4, e4⟩
        refine sp_some.mpr ⟨k3.trans k4, by rw [kc_i1], ?_, by rw [e4]; exact b9, bh B L p, by rw [e4]; exact b8, bg.2, rfl, ?_⟩
        · rw [show 0 + 16 * nrV B L p = 16 * nrV B L p by omega] at S4
          exact S4
        · rw [List.length_append]
          show b + (l.length + 1) + d ≤ _
          omega
      · rw [if_neg w, if_neg w]
        exact sp_neg (fun z => z rfl) (sp_some.mpr ⟨k2.set (by omega), rfl, ri_s _⟩)
  · rw [if_neg d1, decide_eq_false d1]
    refine sp_pos rfl ?_
    rw [m_wordHere_n R1 C1 a8 sg.2 cp, Option.bind_some]
    cases ew : widx B L p lws 0 with
    | none =>
      dsimp only
      refine sp_neg (by decide) ?_
      rw [kc_i0, m_fails_n a9, Option.bind_some]
      exact sp_pos mi_bo0 (sp_some.mpr ⟨k1.set (by omega), rfl, ri_s _⟩)
    | some w =>
      have k2 := widx_k2 ew
      have gt := bh_gt sg.2 (kd_256 k2 (by omega))
      have wl := widx_lt lws 0 w ew
      have w11 : w < 11 := by
        have : lws.length = 11 := rfl
        omega
      dsimp only
      refine sp_pos (by rw [kc_0, nx_le (by omega) (by omega)]; omega) ?_
      rw [m_makes_n S1.1 a9 hk, Option.bind_some]
      by_cases w60 : k < 60
      · rw [if_pos w60, if_pos w60]
        refine sp_pos n10 ?_
        have k3 := k1.set (v := nI (k + 1)) (j := 12) (by omega)
        have S3 : MRS (pm_setI h1 193 12 (nI (k + 1))) r (k + 1) b l := ⟨ri_s _, by rw [ri_j _ (by omega)]; exact S1.2.1, by rw [ri_c _ (by omega)]; exact S1.2.2.1, S1.2.2.2.1, fun j hj => by rw [ri_c _ (by omega)]; exact S1.2.2.2.2 j hj⟩
        have b8 : (pm_setI h1 193 12 (nI (k + 1))).2.1 193 8 = nI p := by rw [ri_j _ (by omega)]; exact a8
        have b9 : (pm_setI h1 193 12 (nI (k + 1))).2.1 193 9 = nI 0 := by rw [ri_j _ (by omega)]; exact a9
        dsimp only
        generalize pm_setI h1 193 12 (nI (k + 1)) = h3 at k3 S3 b8 b9 ⊢
        have eb : nx (isKd B 2) L p = bh B L p := by
          unfold bh
          rw [k2, if_neg (by omega)]
        rw [m_pass_n (k3.rf R) (k3.mt C) b8 sg.2, Option.bind_some, eb]
        have f4 := fx8 h3 (nI (bh B L p))
        have S4 := f4.mrs S3
        have c8 : (pm_setI h3 193 8 (nI (bh B L p))).2.1 193 8 = nI (bh B L p) := ri_s _
        have c9 : (pm_setI h3 193 8 (nI (bh B L p))).2.1 193 9 = nI 0 := by rw [ri_j _ (by omega)]; exact b9
        have k4 := k3.trans (f4.fk r b)
        generalize pm_setI h3 193 8 (nI (bh B L p)) = h4 at f4 S4 c8 c9 k4 ⊢
        rw [kc_i1]
        refine sp_call (m_puts_n (k4.rf R) hr S4 (by omega)) ?_
        rintro h5 ⟨k5, S5, e5⟩
        refine sp_some.mpr ⟨k4.trans k5, rfl, S5, by rw [e5]; exact c9, bh B L p, by rw [e5]; exact c8, bg.2, rfl, ?_⟩
        rw [List.length_append]
        show b + (l.length + 1) + d ≤ _
        omega
      · rw [if_neg w60, if_neg w60]
        exact sp_neg (fun z => z rfl) (sp_some.mpr ⟨k1.set (by omega), by rw [kc_i0], ri_s _⟩)
end MV2
