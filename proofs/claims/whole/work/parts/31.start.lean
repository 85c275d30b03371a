set_option maxHeartbeats 4000000 in
/-- the law's start gives the pure machine all that it wants -/
theorem tb_start {s : State} {b0 L : Nat} {xs : Nat → Int32} (hts : ∀ w ∈ lw_tbl, w.before #[Value.ref b0] s = true) (hX : va_X b0 L xs s s.heap) (hL : L ≤ 3072) (hbl : b0 < s.heap.size) (hgv : (Jvm.Cond.and given_1 narrow_1).before #[Value.ref b0] s = true) : ∃ (b : Bool) (D : va_G) (ad : Nat → Nat), ad pm_B = b0 ∧ pm_Ks D tb_cl tb_nw tb_ao (tb_kt L xs) (tb_zs b) tb_tx ad (fun q : Nat => s.heap.size ≤ q) s s.heap := by
  have hs := flat_of_before _ hgv
  have hA : ∀ a : Nat, a < s.heap.size → ¬ (fun q : Nat => s.heap.size ≤ q) a := fun a h1 h2 => absurd h2 (Nat.not_le.mpr h1)
  obtain ⟨c0, i0, hk0⟩ := u_known (C := "ChoirShip") (T := tb_T0) (N := 9) (n := 9) hts (fun w hw => (List.mem_filter.mp (tb_w0 w hw)).1) (hts (.instantiable "ChoirShip" 9) (List.mem_of_getElem? (i := 128) (by decide +kernel)))
  obtain ⟨c1, i1, hk1⟩ := u_known (C := "ChoirShip$Asker") (T := tb_T1) (N := 20) (n := 20) hts (fun w hw => (List.mem_filter.mp (tb_w1 w hw)).1) (hts (.instantiable "ChoirShip$Asker" 20) (List.mem_of_getElem? (i := 246) (by decide +kernel)))
  obtain ⟨c2, i2, hk2⟩ := u_known (C := "ChoirShip$Choir") (T := tb_T2) (N := 6) (n := 6) hts (fun w hw => (List.mem_filter.mp (tb_w2 w hw)).1) (hts (.instantiable "ChoirShip$Choir" 6) (List.mem_of_getElem? (i := 252) (by decide +kernel)))
  obtain ⟨c3, i3, hk3⟩ := u_known (C := "ChoirShip$Hands") (T := tb_T3) (N := 7) (n := 7) hts (fun w hw => (List.mem_filter.mp (tb_w3 w hw)).1) (hts (.instantiable "ChoirShip$Hands" 7) (List.mem_of_getElem? (i := 191) (by decide +kernel)))
  obtain ⟨c4, i4, hk4⟩ := u_known (C := "ChoirShip$Past") (T := tb_T4) (N := 3) (n := 3) hts (fun w hw => (List.mem_filter.mp (tb_w4 w hw)).1) (hts (.instantiable "ChoirShip$Past" 3) (List.mem_of_getElem? (i := 184) (by decide +kernel)))
  obtain ⟨c5, i5, hk5⟩ := u_known (C := "ChoirShip$Rows") (T := tb_T5) (N := 7) (n := 7) hts (fun w hw => (List.mem_filter.mp (tb_w5 w hw)).1) (hts (.instantiable "ChoirShip$Rows" 7) (List.mem_of_getElem? (i := 258) (by decide +kernel)))
  obtain ⟨c6, i6, hk6⟩ := u_known (C := "ChoirShip$Rule") (T := tb_T6) (N := 5) (n := 5) hts (fun w hw => (List.mem_filter.mp (tb_w6 w hw)).1) (hts (.instantiable "ChoirShip$Rule" 5) (List.mem_of_getElem? (i := 381) (by decide +kernel)))
  obtain ⟨c7, i7, hk7⟩ := u_known (C := "ChoirShip$Ship") (T := tb_T7) (N := 13) (n := 13) hts (fun w hw => (List.mem_filter.mp (tb_w7 w hw)).1) (hts (.instantiable "ChoirShip$Ship" 13) (List.mem_of_getElem? (i := 403) (by decide +kernel)))
  obtain ⟨c8, i8, hk8⟩ := u_known (C := "ChoirShip$Tape") (T := tb_T8) (N := 8) (n := 8) hts (fun w hw => (List.mem_filter.mp (tb_w8 w hw)).1) (hts (.instantiable "ChoirShip$Tape" 8) (List.mem_of_getElem? (i := 136) (by decide +kernel)))
  obtain ⟨c9, i9, hk9⟩ := u_known (C := "ChoirShip$World") (T := tb_T9) (N := 7) (n := 7) hts (fun w hw => (List.mem_filter.mp (tb_w9 w hw)).1) (hts (.instantiable "ChoirShip$World" 7) (List.mem_of_getElem? (i := 475) (by decide +kernel)))
  obtain ⟨c10, i10, hk10⟩ := u_known (C := "ChoirShipModel") (T := tb_T10) (N := 35) (n := 35) hts (fun w hw => (List.mem_filter.mp (tb_w10 w hw)).1) (hts (.instantiable "ChoirShipModel" 35) (List.mem_of_getElem? (i := 1212) (by decide +kernel)))
  obtain ⟨adK, adV, hvS, hvT⟩ := vk_Sof (args := #[Value.ref b0]) (s := s) (N := 7) (tm := tb_tm) (len := tb_len) (byt := tb_byt) (A := fun q : Nat => s.heap.size ≤ q) (by decide +kernel) (fun i hi => hs _ (tb_f1 i hi)) (fun i hi => hs _ (tb_f2 i hi)) (fun i hi => hs _ (tb_f3 i hi)) (fun i hi => hs _ (tb_f4 i hi)) (fun i hi j hj => hs _ (tb_f5 i hi j hj)) (fun i j hi hj hne => (tb_f6 i hi j hj hne).elim (fun h => Or.inl (hs _ h)) (fun h => Or.inr (hs _ h))) hA
  obtain ⟨tc, hc1, hc2⟩ := va_Tof (args := #[Value.ref b0]) (s := s) (tm := .static "ChoirShip$Choir" "CHOOSE" "[I") (ty := .int) (N := 50) (f := fun j => .int (tb_choose.getD j 0)) (A := fun q : Nat => s.heap.size ≤ q) (by decide) (hs _ tb_f8.1) (va_eqt (hs _ tb_f8.2.1)) (fun j hj => va_eqt (hs _ (tb_f7 j hj))) hA
  have hz1 : va_Z "ChoirShip$Choir" "CHOOSE" "[I" (.ref tc) (fun q : Nat => s.heap.size ≤ q) s s.heap := va_Zof (hts _ tb_g4.1) (hts _ tb_g4.2.2.2.1) hc1 hA
  have hz2 : va_Z "java/lang/String" "COMPACT_STRINGS" "Z" (.int 1) (fun q : Nat => s.heap.size ≤ q) s s.heap := va_Zof (hts _ tb_g4.2.1) (hts _ tb_g4.2.2.2.2.1) (va_eqi (hs _ tb_f8.2.2.1)) hA
  have hz3 : va_Zq "jdk/internal/util/Preconditions" "SIOOBE_FORMATTER" "Ljava/util/function/BiFunction;" (fun q : Nat => s.heap.size ≤ q) s s.heap := va_Zqof (hts _ tb_g4.2.2.1) (hts _ tb_g4.2.2.2.2.2) (hs _ tb_f8.2.2.2) hA
  have hscr : va_T .int b0 L (fun j => .int (xs j)) (fun q : Nat => s.heap.size ≤ q) s s.heap := by
    obtain ⟨scr, g1, g2, g3, g4, g5⟩ := hX
    exact ⟨scr, g1, g2, g3, by omega, by rw [g4] <;> rfl, g5, hA b0 hbl⟩
  obtain ⟨sio, b, hz4⟩ : ∃ (sio : Nat) (b : Bool), va_Z "jdk/internal/util/Preconditions" "SIOOBE_FORMATTER" "Ljava/util/function/BiFunction;" (if b = true then .null else .ref sio) (fun q : Nat => s.heap.size ≤ q) s s.heap := by
    rcases hz3 with h | ⟨t, h⟩
    · exact ⟨0, true, h⟩
    · exact ⟨t, false, h⟩
  refine ⟨b, (fun k => if k = 0 then c0 else if k = 1 then c1 else if k = 2 then c2 else if k = 3 then c3 else if k = 4 then c4 else if k = 5 then c5 else if k = 6 then c6 else if k = 7 then c7 else if k = 8 then c8 else if k = 9 then c9 else c10, fun k => if k = 0 then i0 else if k = 1 then i1 else if k = 2 then i2 else if k = 3 then i3 else if k = 4 then i4 else if k = 5 then i5 else if k = 6 then i6 else if k = 7 then i7 else if k = 8 then i8 else if k = 9 then i9 else i10), tb_ad b0 tc sio adK adV, ?_, ⟨?_, fun k q h => by simp at h⟩, ?_, ?_, ?_, ?_, ?_, ?_⟩
  · show tb_ad b0 tc sio adK adV (pm_B + 0) = b0
    rw [tb_ad_at]; rfl
  · intro k q hq
    match k, hq with
    | 0, hq => cases hq; exact hk0
    | 1, hq => cases hq; exact hk1
    | 2, hq => cases hq; exact hk2
    | 3, hq => cases hq; exact hk3
    | 4, hq => cases hq; exact hk4
    | 5, hq => cases hq; exact hk5
    | 6, hq => cases hq; exact hk6
    | 7, hq => cases hq; exact hk7
    | 8, hq => cases hq; exact hk8
    | 9, hq => cases hq; exact hk9
    | 10, hq => cases hq; exact hk10
    | k + 11, hq => simp [tb_cl] at hq
  · exact fun w hw => va_Nw.of rfl (hts _ (tb_g1 w hw))
  · exact fun C hC => va_AO.of (hts _ (tb_g2 C hC))
  · intro i ty len f hi
    rw [tb_ad_at]
    match i, hi with
    | 0, hi => cases hi; exact hscr
    | 1, hi => cases hi; exact hc2
    | 2, hi => cases hi; exact (hvS.1 0 (by decide)).2.2.2
    | 3, hi => cases hi
    | 4, hi => cases hi; exact (hvS.1 1 (by decide)).2.2.2
    | 5, hi => cases hi
    | 6, hi => cases hi; exact (hvS.1 2 (by decide)).2.2.2
    | 7, hi => cases hi
    | 8, hi => cases hi; exact (hvS.1 3 (by decide)).2.2.2
    | 9, hi => cases hi
    | 10, hi => cases hi; exact (hvS.1 4 (by decide)).2.2.2
    | 11, hi => cases hi
    | 12, hi => cases hi; exact (hvS.1 5 (by decide)).2.2.2
    | 13, hi => cases hi
    | 14, hi => cases hi; exact (hvS.1 6 (by decide)).2.2.2
    | 15, hi => cases hi
    | i + 16, hi => cases hi
  · intro i vi hi
    rw [tb_ad_at, tb_ad_at]
    match i, hi with
    | 0, hi => cases hi
    | 1, hi => cases hi
    | 2, hi => cases hi
    | 3, hi => cases hi; exact ⟨(hvS.1 0 (by decide)).1, (hvS.1 0 (by decide)).2.1, (hvS.1 0 (by decide)).2.2.1⟩
    | 4, hi => cases hi
    | 5, hi => cases hi; exact ⟨(hvS.1 1 (by decide)).1, (hvS.1 1 (by decide)).2.1, (hvS.1 1 (by decide)).2.2.1⟩
    | 6, hi => cases hi
    | 7, hi => cases hi; exact ⟨(hvS.1 2 (by decide)).1, (hvS.1 2 (by decide)).2.1, (hvS.1 2 (by decide)).2.2.1⟩
    | 8, hi => cases hi
    | 9, hi => cases hi; exact ⟨(hvS.1 3 (by decide)).1, (hvS.1 3 (by decide)).2.1, (hvS.1 3 (by decide)).2.2.1⟩
    | 10, hi => cases hi
    | 11, hi => cases hi; exact ⟨(hvS.1 4 (by decide)).1, (hvS.1 4 (by decide)).2.1, (hvS.1 4 (by decide)).2.2.1⟩
    | 12, hi => cases hi
    | 13, hi => cases hi; exact ⟨(hvS.1 5 (by decide)).1, (hvS.1 5 (by decide)).2.1, (hvS.1 5 (by decide)).2.2.1⟩
    | 14, hi => cases hi
    | 15, hi => cases hi; exact ⟨(hvS.1 6 (by decide)).1, (hvS.1 6 (by decide)).2.1, (hvS.1 6 (by decide)).2.2.1⟩
    | i + 16, hi => cases hi
  · intro z hz
    simp only [tb_zs, List.mem_cons, List.not_mem_nil, or_false] at hz
    rcases hz with rfl | rfl | rfl
    · refine ⟨?_, by simp [pm_ok, pm_okr]⟩
      show va_Z _ _ _ (.ref (tb_ad b0 tc sio adK adV (pm_B + 1))) _ _ _
      rw [tb_ad_at]; exact hz1
    · exact ⟨hz2, rfl⟩
    · cases b
      · refine ⟨?_, by simp [pm_ok, pm_okr]⟩
        show va_Z _ _ _ (.ref (tb_ad b0 tc sio adK adV (pm_B + 40))) _ _ _
        rw [tb_ad_at]; exact hz4
      · exact ⟨hz4, rfl⟩
  · intro t ht
    have hr := hts _ (tb_g3 t ht)
    rw [tb_ad_at]
    simp only [tb_tx, List.mem_cons, List.not_mem_nil, or_false] at ht
    rcases ht with rfl | rfl | rfl | rfl | rfl | rfl | rfl
    · exact vk_R.of hr (hvT 0 (by decide))
    · exact vk_R.of hr (hvT 1 (by decide))
    · exact vk_R.of hr (hvT 2 (by decide))
    · exact vk_R.of hr (hvT 3 (by decide))
    · exact vk_R.of hr (hvT 4 (by decide))
    · exact vk_R.of hr (hvT 5 (by decide))
    · exact vk_R.of hr (hvT 6 (by decide))
set_option maxHeartbeats 4000000 in
theorem whole_start (hCl : tb_Claim) {p : Program} {e : Env} {s : State} {m : MethodId} {below : List Frame} {meth : Method} {c : Code} (l : Launch) {b L : Nat} {xs : Nat → Int32} (hL : L ≤ 3072) (C0 : lw_At p s m meth c b L xs) : W p l e room_1 s m #[Value.ref b] below meth c s.heap [] 0 0 (lw_Z below #[Value.ref b] s) (entryFrame m ([Value.ref b] : List Value).toArray 4) := by
  obtain ⟨hx, hb, hr, hml, hown, hts, hX, hbl, hlocks, hgv, hnm⟩ := C0
  obtain ⟨bb, D, ad, had, hKs⟩ := tb_start hts hX hL hbl hgv
  obtain ⟨n, v, h', hrun, hv⟩ := hCl bb L xs hL
  subst hv
  have hLr := pm_ent_Lr (ad := ad) (as := [.ref pm_B]) (n := 4) (by decide)
  subst had
  rw [lg_entry_eq]
  refine pm_snd (l := l) (D := D) (Tg := tb_Tg) tb_good tb_okC tb_okA (tb_okL bb) n 100 0 _ _ 0 _ [] tb_h0 _ h' hrun p e room_1 s m _ below meth c _ (fun q : Nat => s.heap.size ≤ q) ad (fun _ => 0) s.heap [] 0 0 _ hx hb hml hown hnm (fun w hw => hts w (List.mem_filter.mp hw).1) hKs (fun k ty len hk => by simp [tb_h0] at hk) ⟨fun k j r hk => (by cases hk), by decide⟩ (fun k q hk => by simp [pm_ws, tb_h0] at hk) ⟨fun i j p q hi => (by simp [pm_ws, tb_h0] at hi), fun k q hk => (by simp [pm_ws, tb_h0] at hk)⟩ va_S.rf (fun _ h => h) hLr pm_oks_nil (pm_ent_ok (fun v hv => by rw [List.mem_singleton.mp hv]; rfl)) (by decide) (by decide) (by decide) (by decide) ?_
  intro pc' len ins ad' ca' H' locs' cells' slots' lsC' hdg hlk hre hex hle hHa' hc' hP' hD' hS' hov hce hsl
  cases ins with
  | ireturn =>
    cases pm_ln hlk
    refine va_forget (fun q hq => hS'.2.2 q hq) ?_
    refine W.widen (k := 600000) (n := 7302250) (Nat.le_trans hce (by decide)) (Nat.le_trans hsl (by decide)) ?_
    exact lw_ret hx hb hr hlocks hdg
  | return_ => simp [pm_ret] at hre
  | lreturn => simp [pm_ret] at hre
  | areturn => simp [pm_ret] at hre
  | _ => cases hre
