/-! The pure machine, part 13: a call of the real machine out of a method's contract. -/
theorem pm_at {st : List Value} {n : Nat} {v : Value} (h : st[n]? = some v) : st = st.take n ++ v :: st.drop (n + 1) ∧ (st.take (n + 1)).reverse = v :: (st.take n).reverse ∧ (st.take n).length = n := by
  obtain ⟨hl, hv⟩ := List.getElem?_eq_some_iff.mp h
  refine ⟨?_, ?_, by simp; omega⟩
  · rw [← hv, List.getElem_cons_drop, List.take_append_drop]
  · rw [List.take_add_one, h]; simp
theorem pm_rcv_inv {kt : pm_Kt} {h : pm_H} {ci : Nat} {o : Option Value} (q : pm_rcv kt h ci o = true) : ∃ b, o = some (.ref b) ∧ ((ci = pm_tc ∧ ∃ i vi, b = pm_B + i ∧ kt i = some (.inr vi)) ∨ (ci ≠ pm_tc ∧ h.1[b]? = some (.inr ci))) := by
  unfold pm_rcv at q; split at q
  · rename_i b
    refine ⟨b, rfl, ?_⟩
    split at q
    · rename_i hc
      simp only [Bool.and_eq_true, decide_eq_true_eq] at q
      obtain ⟨q1, q2⟩ := q
      unfold pm_istx at q2
      split at q2
      · rename_i vi hk
        exact Or.inl ⟨hc, b - pm_B, vi, (Nat.add_sub_cancel' q1).symm, hk⟩
      · cases q2
    · rename_i hc
      exact Or.inr ⟨hc, by simpa using q⟩
  · cases q
theorem pm_isref_inv {o : Option Value} (q : pm_isref o = true) : ∃ b, o = some (.ref b) := by
  unfold pm_isref at q; split at q
  · exact ⟨_, rfl⟩
  · cases q
section PMR
variable {p : Program} {l : Launch} {e : Env} {R : Room} {s : State} {m : MethodId} {args : Array Value} {below : List Frame} {meth : Method} {c : Code} {H : Heap} {locs : List Loc} {cells slots : Nat}
variable {cc : ByteArray} {pc nL : Nat} {lsC : Array Slot} {st rest as : List Value} {ad : Nat → Nat} {ca : Nat → ClassId} {D : va_G} {cl : List vw_C} {ft : Nat → Nat → FieldType} {kt : pm_Kt} {A : Nat → Prop} {h : pm_H} {Tg : List Cond} {own : String}
variable {me : Nat → pm_Me} {nw : List (String × Nat × MethodName × String)} {ao : List String} {zs : List (String × String × String × Value)} {tx : List (String × Nat × String × Nat)} {lk : Nat → pm_Lk} {ins : Instr} {len d kc ks j : Nat}
set_option maxHeartbeats 1000000 in
theorem pm_cal_run {Qc : Array Value → State → Outcome → State → Prop} {free : Addr → Prop} (hx : p.tables.exec = Jvm.exec) (hb : c.code = cc) (hml : c.maxLocals = lsC.size) (hown : s.vm.findClass own = some m.cls) (hts : ∀ w ∈ Tg, w.before args s = true) (hT1 : ∀ w ∈ Tg, goodWord w = true) (hL : ∀ i, pm_okL Tg cl me nw ao zs tx own i (lk i))
    (hdg : decode cc pc = .ok (ins, len)) (hl : pm_lok len ins = true) (hq : pm_cal kt me lk kc ks st h ins = some (j, as, rest))
    (hKs : pm_Ks D cl nw ao kt zs tx ad A s s.heap) (ha : pm_Ha s ca h) (hP : va_P D cl (pm_ws cl ft ad ca h) H) (hD : va_D A (pm_ws cl ft ad ca h)) (hS : va_S A s.heap H locs) (hA : ∀ q, s.heap.size ≤ q → A q)
    (hd : d + 1 ≤ R.frames) (hlo : 60 * (d + 1) ≤ R.locals) (hkc : cells + kc ≤ R.cells) (hks : slots + ks ≤ R.slots)
    (hMet : pm_okM Tg (me j) → (as.map fun v => v.category).sum ≤ (me j).1.2.2.1 → Met l (me j).1.1 (Cond.code (me j).1.1 (me j).1.2.1 (me j).1.2.2.1 (me j).1.2.2.2 :: Tg) (pm_rm d (me j).2.1.1 (me j).2.1.2) (pm_Pc D cl ft nw ao kt zs tx ad ca h H.size as) Qc (me j).2.1.1 (me j).2.1.2 free) :
    va_Run p l e R s m args below meth c H locs cells slots (me j).2.1.1 (me j).2.1.2 (F0 m pc lsC (st.map (pm_cv ad))) (rest.map (pm_cv ad)) (Qc (as.map (pm_cv ad)).toArray) free ∧ (me j).2.1.1 ≤ kc ∧ (me j).2.1.2 ≤ ks := by
  have hfree : ∀ q, va_A (pm_ws cl ft ad ca h) H.size q → A q := by
    rintro q (⟨k, e, hk⟩ | hq)
    · exact hD.2 k _ hk
    · exact hA q (Nat.le_trans hS.1 hq)
  have hPc : ∀ U : State, U.heap = H → s.WarmedH U.vm → pm_Pc D cl ft nw ao kt zs tx ad ca h H.size as (as.map (pm_cv ad)).toArray U := fun U hU hW =>
    ⟨rfl, by rw [hU], by rw [hU]; exact hP, hD.weaken (fun _ _ _ _ => trivial), ha.moved hW.alike, hKs.call hS hW hU hfree⟩
  have hG : pm_okM Tg (me j) → GoodIn Tg (Cond.code (me j).1.1 (me j).1.2.1 (me j).1.2.2.1 (me j).1.2.2.2 :: Tg) := fun hM w hw => by
    have : w ∈ Tg := by
      rcases List.mem_cons.mp hw with rfl | hw
      · exact hM.1
      · exact hw
    exact ⟨this, good_of_word (hT1 w this)⟩
  have hR : pm_okM Tg (me j) → (pm_rm d (me j).2.1.1 (me j).2.1.2).frames + 1 ≤ R.frames ∧ 8 + ((me j).1.2.2.1 + 11) + (pm_rm d (me j).2.1.1 (me j).2.1.2).locals ≤ R.locals := fun hM => by
    have := hM.2.2.2.2
    refine ⟨hd, ?_⟩
    show 8 + ((me j).1.2.2.1 + 11) + 60 * d ≤ R.locals
    omega
  have hsum : ∀ {r : List Value}, (r.map fun v => v.category).sum ≤ 8 → ((r.map (pm_cv ad)).map fun v => v.category).sum ≤ 8 := fun h => by rw [pm_sum_cv]; exact h
  have hrev : ∀ {k : Nat}, ((st.take k).reverse.map fun v => v.category).sum = ((st.take k).map fun v => v.category).sum := fun {k} => by rw [List.map_reverse, List.sum_reverse]
  cases ins with
  | invokevirtual i =>
    cases pm_ln hl
    have hLi := hL i
    simp only [pm_cal] at hq
    split at hq
    · rename_i hcd
      obtain ⟨ht, hrc, c1, c2, c3, c4⟩ := hcd
      cases hq
      obtain ⟨b, hb1, hb2⟩ := pm_rcv_inv hrc
      obtain ⟨e1, e2, e3⟩ := pm_at hb1
      rw [e2] at hPc hMet ⊢
      have hst : st.map (pm_cv ad) = ((st.take (me (lk i).2.1).2.2.1).reverse.map (pm_cv ad)).reverse ++ Value.ref (ad b) :: (st.drop ((me (lk i).2.1).2.2.1 + 1)).map (pm_cv ad) := by
        conv => lhs; rw [e1]
        rw [List.map_append, List.map_cons, List.map_reverse, List.reverse_reverse]; rfl
      have has : ((Value.ref b :: (st.take (me (lk i).2.1).2.2.1).reverse).map fun v => v.category).sum ≤ (me (lk i).2.1).1.2.2.1 := by
        rw [← e2, hrev]; exact c4
      have hrecv : pm_okR cl (me (lk i).2.1) → ∃ cell : Cell, H[ad b]? = some cell ∧ cell.vm.isStatics = false ∧ s.vm.findClass (me (lk i).2.1).1.1.cls = some cell.cls := fun hO => by
        rcases hb2 with ⟨z1, i2, vi, rfl, z2⟩ | ⟨z1, z2⟩
        · rw [hO.1 z1]
          obtain ⟨cell, q1, q2, q3, -⟩ := (hKs.2.2.2.2.1 i2 vi z2).1.kept hS.2.1
          exact ⟨cell, q1, q2, q3⟩
        · have z3 := hO.2 z1
          cases hcl : cl[(me (lk i).2.1).2.2.2]? with
          | none => rw [hcl] at z3; cases z3
          | some r =>
            rw [hcl] at z3
            have z3 : r.1 = (me (lk i).2.1).1.1.cls := by simpa using z3
            have := va_recv hKs.1 hP (q0 := b) hcl (pm_ws_get z2)
            rw [z3] at this
            exact this
      rcases ht with ht | ht
      · simp only [pm_okL, ht] at hLi
        obtain ⟨w1, w2, w3, hM, hO⟩ := hLi
        have hGV : GoodIn Tg (wsV own i (me (lk i).2.1).1.1.cls (me (lk i).2.1).1.1 (Cond.code (me (lk i).2.1).1.1 (me (lk i).2.1).1.2.1 (me (lk i).2.1).1.2.2.1 (me (lk i).2.1).1.2.2.2 :: Tg)) := by
          intro w hw
          unfold wsV at hw
          rcases List.mem_append.mp hw with hw | hw
          · have : w ∈ Tg := by
              simp only [List.mem_cons, List.not_mem_nil, or_false] at hw
              rcases hw with rfl | rfl | rfl | rfl
              · exact w1
              · exact w2
              · exact w3
              · exact hM.2.1
            exact ⟨this, good_of_word (hT1 w this)⟩
          · exact hG hM w hw
        refine ⟨va_runV (own := own) (As := (st.take (me (lk i).2.1).2.2.1).reverse.map (pm_cv ad)) ⟨hx, hb, hml, hown, hts⟩ (hMet hM has) (cwV (me (lk i).2.1).2.2.1 hts hGV rfl rfl rfl ⟨rfl, hM.2.2.2.1⟩ (hR hM)) ⟨pm_Pc_blind, hrecv hO, hPc⟩ rfl (by rw [List.length_map, List.length_reverse]; exact e3) rfl hst (lv_room (hsum c3)) hdg ⟨by omega, by omega⟩, c1, c2⟩
      · simp only [pm_okL, ht] at hLi
        obtain ⟨⟨host, w1⟩, w2, w3, hM, hO⟩ := hLi
        exact ⟨va_runVN (own := own) (As := (st.take (me (lk i).2.1).2.2.1).reverse.map (pm_cv ad)) ⟨hx, hb, hml, hown, hts⟩ (hMet hM has) ⟨va_cnB (me (lk i).2.1).2.2.1 hts (hG hM) rfl rfl rfl (hKs.2.1 _ w1) (hts _ hM.2.1) hM.2.2.2.1 (hR hM), hts _ w2, hts _ w3⟩ ⟨pm_Pc_blind, hrecv hO, hPc⟩ rfl (by rw [List.length_map, List.length_reverse]; exact e3) rfl hst (lv_room (hsum c3)) hdg ⟨by omega, by omega⟩, c1, c2⟩
    · cases hq
  | invokespecial i =>
    cases pm_ln hl
    have hLi := hL i
    simp only [pm_cal] at hq
    split at hq
    · rename_i hcd
      obtain ⟨ht, hrc, c1, c2, c3, c4⟩ := hcd
      cases hq
      obtain ⟨b, hb1⟩ := pm_isref_inv hrc
      obtain ⟨e1, e2, e3⟩ := pm_at hb1
      rw [e2] at hPc hMet ⊢
      have hst : st.map (pm_cv ad) = ((st.take (me (lk i).2.1).2.2.1).reverse.map (pm_cv ad)).reverse ++ Value.ref (ad b) :: (st.drop ((me (lk i).2.1).2.2.1 + 1)).map (pm_cv ad) := by
        conv => lhs; rw [e1]
        rw [List.map_append, List.map_cons, List.map_reverse, List.reverse_reverse]; rfl
      have has : ((Value.ref b :: (st.take (me (lk i).2.1).2.2.1).reverse).map fun v => v.category).sum ≤ (me (lk i).2.1).1.2.2.1 := by
        rw [← e2, hrev]; exact c4
      rcases ht with ht | ht
      · simp only [pm_okL, ht] at hLi
        obtain ⟨w1, w2, w3, w4, hM⟩ := hLi
        have hm := hMet hM has
        have hgg := hG hM
        rw [w4] at hm hgg
        exact ⟨va_runI (own := own) (As := (st.take (me (lk i).2.1).2.2.1).reverse.map (pm_cv ad)) ⟨hx, hb, hml, hown, hts⟩ hm (cwI (me (lk i).2.1).2.2.1 hts hgg rfl rfl rfl (hts _ hM.2.1) (hts _ w1) (hts _ w2) w3 hM.2.2.2.1 (hR hM)) ⟨pm_Pc_blind, hPc⟩ rfl (by rw [List.length_map, List.length_reverse]; exact e3) rfl hst (lv_room (hsum c3)) hdg ⟨by omega, by omega⟩, c1, c2⟩
      · simp only [pm_okL, ht] at hLi
        obtain ⟨⟨host, w1⟩, w2, w3, w4, hM⟩ := hLi
        have hm := hMet hM has
        have hgg := hG hM
        rw [w4] at hm hgg
        exact ⟨va_runIN (own := own) (As := (st.take (me (lk i).2.1).2.2.1).reverse.map (pm_cv ad)) ⟨hx, hb, hml, hown, hts⟩ hm ⟨va_cnB (me (lk i).2.1).2.2.1 hts hgg rfl rfl rfl (hKs.2.1 _ w1) (hts _ hM.2.1) hM.2.2.2.1 (hR hM), w3, hts _ w2⟩ ⟨pm_Pc_blind, hPc⟩ rfl (by rw [List.length_map, List.length_reverse]; exact e3) rfl hst (lv_room (hsum c3)) hdg ⟨by omega, by omega⟩, c1, c2⟩
    · cases hq
  | invokestatic i =>
    cases pm_ln hl
    have hLi := hL i
    simp only [pm_cal] at hq
    split at hq
    · rename_i hcd
      obtain ⟨ht, hrc, c1, c2, c3, c4⟩ := hcd
      cases hq
      have hst : st.map (pm_cv ad) = ((st.take (me (lk i).2.1).2.2.1).reverse.map (pm_cv ad)).reverse ++ (st.drop (me (lk i).2.1).2.2.1).map (pm_cv ad) := by
        conv => lhs; rw [← List.take_append_drop (me (lk i).2.1).2.2.1 st]
        rw [List.map_append, List.map_reverse, List.reverse_reverse]
      have has : ((st.take (me (lk i).2.1).2.2.1).reverse.map fun v => v.category).sum ≤ (me (lk i).2.1).1.2.2.1 := by
        rw [hrev]; exact c4
      rcases ht with ht | ht
      · simp only [pm_okL, ht] at hLi
        obtain ⟨w1, w2, hM⟩ := hLi
        have hGS : GoodIn Tg (va_wsS own i (me (lk i).2.1).1.1 (Cond.code (me (lk i).2.1).1.1 (me (lk i).2.1).1.2.1 (me (lk i).2.1).1.2.2.1 (me (lk i).2.1).1.2.2.2 :: Tg)) := by
          intro w hw
          unfold va_wsS at hw
          rcases List.mem_append.mp hw with hw | hw
          · have : w ∈ Tg := by
              simp only [List.mem_cons, List.not_mem_nil, or_false] at hw
              rcases hw with rfl | rfl | rfl
              · exact w1
              · exact w2
              · exact hM.2.1
            exact ⟨this, good_of_word (hT1 w this)⟩
          · exact hG hM w hw
        exact ⟨va_runS (own := own) (As := (st.take (me (lk i).2.1).2.2.1).reverse.map (pm_cv ad)) ⟨hx, hb, hml, hown, hts⟩ (hMet hM has) (va_cwS (me (lk i).2.1).2.2.1 hts hGS rfl rfl rfl hM.2.2.2.1 (hR hM)) ⟨pm_Pc_blind, hPc⟩ rfl (by simp; omega) rfl hst (lv_room (hsum c3)) hdg ⟨by omega, by omega⟩, c1, c2⟩
      · simp only [pm_okL, ht] at hLi
        obtain ⟨⟨host, w1⟩, w2, hM⟩ := hLi
        exact ⟨va_runSN (own := own) (As := (st.take (me (lk i).2.1).2.2.1).reverse.map (pm_cv ad)) ⟨hx, hb, hml, hown, hts⟩ (hMet hM has) ⟨va_cnB (me (lk i).2.1).2.2.1 hts (hG hM) rfl rfl rfl (hKs.2.1 _ w1) (hts _ hM.2.1) hM.2.2.2.1 (hR hM), hts _ w2, trivial⟩ ⟨pm_Pc_blind, hPc⟩ rfl (by simp; omega) rfl hst (lv_room (hsum c3)) hdg ⟨by omega, by omega⟩, c1, c2⟩
    · cases hq
  | _ => cases hq
theorem pm_cal_ok {N : Nat} (hq : pm_cal kt me lk kc ks st h ins = some (j, as, rest)) (ho : pm_oks N st) : pm_oks N as ∧ pm_oks N rest := by
  have g1 : ∀ k, pm_oks N (st.take k).reverse := fun k v hv => ho v (List.mem_of_mem_take (List.mem_reverse.mp hv))
  have g2 : ∀ k, pm_oks N (st.drop k) := fun k v hv => ho v (List.mem_of_mem_drop hv)
  cases ins with
  | invokevirtual i =>
    simp only [pm_cal] at hq
    split at hq
    · cases hq; exact ⟨g1 _, g2 _⟩
    · cases hq
  | invokespecial i =>
    simp only [pm_cal] at hq
    split at hq
    · cases hq; exact ⟨g1 _, g2 _⟩
    · cases hq
  | invokestatic i =>
    simp only [pm_cal] at hq
    split at hq
    · cases hq; exact ⟨g1 _, g2 _⟩
    · cases hq
  | _ => cases hq
end PMR
