/-! The pure machine, part 9: new cells, constants in the real one. -/
def pm_ex (n : Nat) (ad ad' : Nat → Nat) : Prop := ∀ k, pm_okr n k = true → ad' k = ad k
theorem pm_ex.rf {n : Nat} {ad : Nat → Nat} : pm_ex n ad ad := fun _ _ => rfl
theorem pm_okr_mono {n n' k : Nat} (h : n ≤ n') (q : pm_okr n k = true) : pm_okr n' k = true := by
  simp only [pm_okr, Bool.or_eq_true, decide_eq_true_eq] at q ⊢; omega
theorem pm_ok_mono {n n' : Nat} {v : Value} (h : n ≤ n') (q : pm_ok n v = true) : pm_ok n' v = true := by
  cases v with
  | ref k => exact pm_okr_mono h q
  | _ => rfl
theorem pm_oks_mono {n n' : Nat} {st : List Value} (h : n ≤ n') (q : pm_oks n st) : pm_oks n' st := fun v hv => pm_ok_mono h (q v hv)
theorem pm_ex.trans {n n' : Nat} {a b c : Nat → Nat} (h : n ≤ n') (h1 : pm_ex n a b) (h2 : pm_ex n' b c) : pm_ex n a c := fun k hk => (h2 k (pm_okr_mono h hk)).trans (h1 k hk)
theorem pm_ex_up {n q : Nat} {ad : Nat → Nat} (hn : n < pm_B) : pm_ex n ad (va_up ad n q) := fun k hk => by
  have : k ≠ n := fun e => by
    subst e
    simp only [pm_okr, Bool.or_eq_true, decide_eq_true_eq] at hk
    omega
  simp [va_up, this]
theorem pm_mk_len (h : pm_H) (sh : pm_Sh) : (pm_mk h sh).1.length = h.1.length + 1 := by simp [pm_mk]
theorem pm_mk_get_lt {h : pm_H} {sh : pm_Sh} {j : Nat} (hj : j < h.1.length) : (pm_mk h sh).1[j]? = h.1[j]? := by simp [pm_mk, List.getElem?_append_left hj]
theorem pm_mk_get_self {h : pm_H} {sh : pm_Sh} : (pm_mk h sh).1[h.1.length]? = some sh := by simp [pm_mk]
theorem pm_ws_mk {cl : List vw_C} {ft : Nat → Nat → FieldType} {ad : Nat → Nat} {ca : Nat → ClassId} {h : pm_H} {sh : pm_Sh} {q : Nat} {cA : ClassId} (hc : pm_Hc h) (hn : h.1.length < pm_B) :
    pm_ws cl ft (va_up ad h.1.length q) (va_up ca h.1.length cA) (pm_mk h sh) = pm_ws cl ft ad ca h ++ [(q, pm_cell cl ft (va_up ad h.1.length q) (va_up ca h.1.length cA) (pm_mk h sh) h.1.length sh)] := by
  apply List.ext_getElem?
  intro j
  rcases Nat.lt_trichotomy j h.1.length with hj | hj | hj
  · rw [List.getElem?_append_left (by rw [pm_ws_len]; exact hj)]
    have hs : h.1[j]? = some (h.1[j]) := List.getElem?_eq_getElem hj
    rw [pm_ws_get hs, pm_ws_get ((pm_mk_get_lt hj).trans hs)]
    have hne : j ≠ h.1.length := by omega
    have e1 : pm_cell cl ft (va_up ad h.1.length q) (va_up ca h.1.length cA) (pm_mk h sh) j h.1[j] = pm_cell cl ft (va_up ad h.1.length q) (va_up ca h.1.length cA) h j h.1[j] := pm_cell_congr (pm_row_ne hne) (pm_row_ne hne) (pm_row_ne hne)
    have e2 : pm_cell cl ft (va_up ad h.1.length q) (va_up ca h.1.length cA) h j h.1[j] = pm_cell cl ft ad ca h j h.1[j] := pm_cell_ext (by simp [va_up, hne]) (fun i r hr => pm_ex_up hn r (hc.1 j i r hr))
    rw [e1, e2]
    simp [va_up, hne]
  · subst hj
    rw [List.getElem?_append_right (by rw [pm_ws_len]; exact Nat.le_refl _), pm_ws_len, Nat.sub_self, pm_ws_get pm_mk_get_self]
    simp [va_up]
  · rw [List.getElem?_eq_none (by rw [pm_ws_len, pm_mk_len]; omega), List.getElem?_eq_none (by simp [pm_ws_len]; omega)]
theorem pm_Hc.mk {h : pm_H} {sh : pm_Sh} (hc : pm_Hc h) (hn : h.1.length < pm_B) : pm_Hc (pm_mk h sh) := by
  refine ⟨fun k j r hr => ?_, by rw [pm_mk_len]; exact hn⟩
  rw [pm_mk_len]
  by_cases e : k = h.1.length
  · simp [pm_mk, pm_row, e] at hr
  · simp only [pm_mk, pm_row, if_neg e] at hr
    exact pm_okr_mono (Nat.le_succ _) (hc.1 k j r hr)
theorem pm_Ha.mkO {U : State} {ca : Nat → ClassId} {h : pm_H} {ci : Nat} {cA : ClassId} (ha : pm_Ha U ca h) : pm_Ha U (va_up ca h.1.length cA) (pm_mk h (.inr ci)) := by
  intro k ty len hk
  rcases Nat.lt_trichotomy k h.1.length with hj | hj | hj
  · rw [pm_mk_get_lt hj] at hk
    have hne : k ≠ h.1.length := by omega
    simp only [va_up, if_neg hne]
    exact ha k ty len hk
  · subst hj; rw [pm_mk_get_self] at hk; cases hk
  · rw [List.getElem?_eq_none (by rw [pm_mk_len]; omega)] at hk; cases hk
theorem pm_Ha.mkA {U : State} {ca : Nat → ClassId} {h : pm_H} {ty : FieldType} {n : Nat} {cA : ClassId} (ha : pm_Ha U ca h) (h1 : ArrOfT U cA ty ∧ va_RA U cA ty) : pm_Ha U (va_up ca h.1.length cA) (pm_mk h (.inl (ty, n))) := by
  intro k ty' len hk
  rcases Nat.lt_trichotomy k h.1.length with hj | hj | hj
  · rw [pm_mk_get_lt hj] at hk
    have hne : k ≠ h.1.length := by omega
    simp only [va_up, if_neg hne]
    exact ha k ty' len hk
  · subst hj; rw [pm_mk_get_self] at hk; cases hk; simp only [va_up, if_pos]; exact h1
  · rw [List.getElem?_eq_none (by rw [pm_mk_len]; omega)] at hk; cases hk
theorem pm_newa_inv {h h' : pm_H} {ty : FieldType} {n : Nat} {st st' : List Value} (q : pm_newa h ty st = some (n, st', h')) : ∃ (x : Int32) (r : List Value), st = .int x :: r ∧ ¬ x < 0 ∧ x.toNatClampNeg = n ∧ n ≤ 60000 ∧ h.1.length < pm_B ∧ st' = .ref h.1.length :: r ∧ h' = pm_mk h (.inl (ty, n)) := by
  unfold pm_newa at q; split at q
  · split at q
    · rename_i hc; cases q; exact ⟨_, _, rfl, hc.1, rfl, hc.2.1, hc.2.2, rfl, rfl⟩
    · cases q
  · cases q
theorem pm_mk_val {ad : Nat → Nat} {h : pm_H} {sh : pm_Sh} {ty : FieldType} (j : Nat) : pm_fv ad (pm_mk h sh) ty h.1.length j = if ty = .long then .long 0 else if pm_isR ty = true then .null else .int 0 := by
  simp [pm_fv, pm_mk, pm_row, va_rf]
section PMN
variable {p : Program} {l : Launch} {e : Env} {R : Room} {s : State} {m : MethodId} {args : Array Value} {below : List Frame} {meth : Method} {c : Code} {H : Heap} {locs : List Loc} {cells slots : Nat} {Q : State → Prop}
variable {cc : ByteArray} {pc nL : Nat} {lsC : Array Slot} {ls st st' : List Value} {ad : Nat → Nat} {ca : Nat → ClassId} {D : va_G} {cl : List vw_C} {ft : Nat → Nat → FieldType} {kt : pm_Kt} {A : Nat → Prop} {h h' : pm_H} {Tg : List Cond} {own : String}
theorem pm_new_W {i ci : Nat} (hx : p.tables.exec = Jvm.exec) (hb : c.code = cc) (hown : s.vm.findClass own = some m.cls) (hts : ∀ w ∈ Tg, w.before args s = true) (hC : pm_okC Tg cl ft) (hcl : ∀ C T N, cl[ci]? = some (C, T, N) → Cond.classLink own i C ∈ Tg)
    (hK : va_K D cl [] s) (ha : pm_Ha s ca h) (hc : pm_Hc h) (hP : va_P D cl (pm_ws cl ft ad ca h) H) (hD : va_D A (pm_ws cl ft ad ca h)) (hS : va_S A s.heap H locs) (hA : ∀ q, s.heap.size ≤ q → A q) (ho : pm_oks h.1.length st)
    (hci : ci < cl.length) (hn : h.1.length < pm_B) (hcells : cells + 1 ≤ R.cells) (hslots : slots + pm_nf cl ci ≤ R.slots) (hdg : decode cc pc = .ok (.new i, 3))
    (k : ∀ (ad' : Nat → Nat) (ca' : Nat → ClassId) (H1 : Heap), pm_ex h.1.length ad ad' → pm_Ha s ca' (pm_mk h (.inr ci)) → va_P D cl (pm_ws cl ft ad' ca' (pm_mk h (.inr ci))) H1 → va_D A (pm_ws cl ft ad' ca' (pm_mk h (.inr ci))) → va_S A s.heap H1 locs →
      W p l e R s m args below meth c H1 locs (cells + 1) (slots + pm_nf cl ci) Q (F0 m (pc + 3) lsC ((.ref h.1.length :: st).map (pm_cv ad')))) : W p l e R s m args below meth c H locs cells slots Q (F0 m pc lsC (st.map (pm_cv ad))) := by
  obtain ⟨C, T, N, hcq⟩ : ∃ C T N, cl[ci]? = some (C, T, N) := ⟨cl[ci].1, cl[ci].2.1, cl[ci].2.2, List.getElem?_eq_getElem hci⟩
  obtain ⟨w1, w2, w3, w4, w5, w6⟩ := hC ci C T N hcq
  have hN : pm_nf cl ci = N := by unfold pm_nf; rw [show cl.getD ci ("", fun _ => ("", "", "", false), 0) = (C, T, N) from pm_cl_get hcq]
  rw [hN] at hslots k
  refine va_new (ci := ci) (fs := (List.range N).map (fun j => defaultValue (ft ci j))) (C := C) (T := T) (N := N) hx hb hts w1 (ft ci) w2 hown (hts _ (hcl C T N hcq)) (hts _ w4) (hts _ w5) hK hP hD hS hA hcq (fun j hj => by simp [vp_V, hj]) hcells hslots hdg (fun q H1 g1 g2 g3 => ?_)
  have he : pm_ws cl ft (va_up ad h.1.length q) (va_up ca h.1.length 0) (pm_mk h (.inr ci)) = pm_ws cl ft ad ca h ++ [(q, .inr (ci, (List.range N).map (fun j => defaultValue (ft ci j))))] := by
    rw [pm_ws_mk hc hn]
    congr 3
    show Sum.inr (ci, _) = _
    rw [pm_cl_get hcq]
    congr 2
    apply List.map_congr_left
    intro j hj
    rw [pm_mk_val, w6 j (List.mem_range.mp hj)]
  rw [← he] at g1 g2
  have := k (va_up ad h.1.length q) (va_up ca h.1.length 0) H1 (pm_ex_up hn) ha.mkO g1 g2 g3
  simp only [List.map_cons] at this
  rw [pm_map_ext (pm_ex_up hn) ho] at this
  simpa [pm_cv, va_up] using this
theorem pm_newa_W {t : ArrayType} {n : Nat} (hx : p.tables.exec = Jvm.exec) (hb : c.code = cc) (ht : t = .int ∨ t = .byte ∨ t = .boolean ∨ t = .long) (harr : (Cond.arrayClass (newarray.typeOf t)).before args s = true)
    (hK : va_K D cl [] s) (ha : pm_Ha s ca h) (hc : pm_Hc h) (hP : va_P D cl (pm_ws cl ft ad ca h) H) (hD : va_D A (pm_ws cl ft ad ca h)) (hS : va_S A s.heap H locs) (hA : ∀ q, s.heap.size ≤ q → A q) (ho : pm_oks h.1.length st)
    (hcells : cells + 1 ≤ R.cells) (hslots : slots + n ≤ R.slots) (hdg : decode cc pc = .ok (.newarray t, 2)) (q : pm_newa h (pm_atype t) st = some (n, st', h'))
    (k : ∀ (ad' : Nat → Nat) (ca' : Nat → ClassId) (H1 : Heap), pm_ex h.1.length ad ad' → pm_Ha s ca' h' → va_P D cl (pm_ws cl ft ad' ca' h') H1 → va_D A (pm_ws cl ft ad' ca' h') → va_S A s.heap H1 locs →
      W p l e R s m args below meth c H1 locs (cells + 1) (slots + n) Q (F0 m (pc + 2) lsC (st'.map (pm_cv ad')))) : W p l e R s m args below meth c H locs cells slots Q (F0 m pc lsC (st.map (pm_cv ad))) := by
  obtain ⟨x, r, rfl, hx0, rfl, hm, hn, rfl, rfl⟩ := pm_newa_inv q
  have ho' := (pm_oks_c.mp ho).2
  have key : ∀ (ty : FieldType) (a0 : vp_A), newarray.typeOf t = ty → (∀ cA : ClassId, vp_cell cA a0 = arrV cA x.toNatClampNeg (fun _ => defaultValue ty)) → (∀ ad', (x.toNatClampNeg, pm_cont ad' (pm_mk h (.inl (ty, x.toNatClampNeg))) ty h.1.length) = a0) → x.toNatClampNeg * componentBytes ty ≤ 536870912 → W p l e R s m args below meth c H locs cells slots Q (F0 m pc lsC ((.int x :: r).map (pm_cv ad))) := by
    intro ty a0 hty h1 h2 h3
    refine va_newa (a0 := a0) hx hb harr hty hK hP hD hS hA h1 hx0 rfl h3 hcells hslots hdg (fun q cA H1 g0 g1 g2 g3 => ?_)
    have he : pm_ws cl ft (va_up ad h.1.length q) (va_up ca h.1.length cA) (pm_mk h (.inl (ty, x.toNatClampNeg))) = pm_ws cl ft ad ca h ++ [(q, .inl (cA, a0))] := by
      rw [pm_ws_mk hc hn, ← h2 (va_up ad h.1.length q)]
      congr 3
      show Sum.inl (va_up ca h.1.length cA h.1.length, _) = _
      simp [va_up]
    rw [← he] at g1 g2
    have hty' : pm_atype t = ty := hty
    rw [hty'] at k
    have := k (va_up ad h.1.length q) (va_up ca h.1.length cA) H1 (pm_ex_up hn) (ha.mkA (g0.2 0 (cA, ty) rfl)) g1 g2 g3
    simp only [List.map_cons] at this
    rw [pm_map_ext (pm_ex_up hn) ho'] at this
    simpa [pm_cv, va_up] using this
  rcases ht with rfl | rfl | rfl | rfl
  · exact key .int (x.toNatClampNeg, .inl (fun _ => 0)) rfl (fun _ => rfl) (fun ad' => by rw [pm_cont_i (by decide) (by decide)]; simp [pm_mk, pm_row_self]) (by show _ * 4 ≤ _; omega)
  · exact key .byte (x.toNatClampNeg, .inl (fun _ => 0)) rfl (fun _ => rfl) (fun ad' => by rw [pm_cont_i (by decide) (by decide)]; simp [pm_mk, pm_row_self]) (by show _ * 1 ≤ _; omega)
  · exact key .boolean (x.toNatClampNeg, .inl (fun _ => 0)) rfl (fun _ => rfl) (fun ad' => by rw [pm_cont_i (by decide) (by decide)]; simp [pm_mk, pm_row_self]) (by show _ * 1 ≤ _; omega)
  · exact key .long (x.toNatClampNeg, .inr (.inl (fun _ => 0))) rfl (fun _ => rfl) (fun ad' => by simp [pm_cont, pm_mk, pm_row_self]) (by show _ * 8 ≤ _; omega)
theorem pm_newq_W {C : String} {i n : Nat} (hx : p.tables.exec = Jvm.exec) (hb : c.code = cc) (hown : s.vm.findClass own = some m.cls) (hclink : (Cond.classLink own i C).before args s = true) (hover : va_AO C s)
    (hK : va_K D cl [] s) (ha : pm_Ha s ca h) (hc : pm_Hc h) (hP : va_P D cl (pm_ws cl ft ad ca h) H) (hD : va_D A (pm_ws cl ft ad ca h)) (hS : va_S A s.heap H locs) (hA : ∀ q, s.heap.size ≤ q → A q) (ho : pm_oks h.1.length st)
    (hcells : cells + 1 ≤ R.cells) (hslots : slots + n ≤ R.slots) (hdg : decode cc pc = .ok (.anewarray i, 3)) (q : pm_newa h (.object C) st = some (n, st', h'))
    (k : ∀ (ad' : Nat → Nat) (ca' : Nat → ClassId) (H1 : Heap), pm_ex h.1.length ad ad' → pm_Ha s ca' h' → va_P D cl (pm_ws cl ft ad' ca' h') H1 → va_D A (pm_ws cl ft ad' ca' h') → va_S A s.heap H1 locs →
      W p l e R s m args below meth c H1 locs (cells + 1) (slots + n) Q (F0 m (pc + 3) lsC (st'.map (pm_cv ad')))) : W p l e R s m args below meth c H locs cells slots Q (F0 m pc lsC (st.map (pm_cv ad))) := by
  obtain ⟨x, r, rfl, hx0, rfl, hm, hn, rfl, rfl⟩ := pm_newa_inv q
  have ho' := (pm_oks_c.mp ho).2
  refine va_newq hx hb hown hclink hover hK hP hD hS hA hx0 rfl (by omega) hcells hslots hdg (fun q cA H1 g0 g1 g2 g3 => ?_)
  have he : pm_ws cl ft (va_up ad h.1.length q) (va_up ca h.1.length cA) (pm_mk h (.inl (.object C, x.toNatClampNeg))) = pm_ws cl ft ad ca h ++ [(q, .inl (cA, x.toNatClampNeg, .inr (.inr (.inr (.inr (fun _ => none))))))] := by
    rw [pm_ws_mk hc hn]
    congr 3
    show Sum.inl (va_up ca h.1.length cA h.1.length, x.toNatClampNeg, pm_cont _ _ _ _) = _
    simp [va_up, pm_cont, pm_isR, pm_mk, pm_row]
  rw [← he] at g1 g2
  have := k (va_up ad h.1.length q) (va_up ca h.1.length cA) H1 (pm_ex_up hn) (ha.mkA (g0.2 0 (cA, .object C) rfl)) g1 g2 g3
  simp only [List.map_cons] at this
  rw [pm_map_ext (pm_ex_up hn) ho'] at this
  simpa [pm_cv, va_up] using this
end PMN
