/-! The pure machine, part 11: calls. -/
theorem pm_lg_len (as : List Value) : (lg_sl as).length = (as.map fun v => v.category).sum := by
  induction as with
  | nil => rfl
  | cons v vs ih =>
    rcases lv_cat v with h | h <;> simp [lg_sl, h] at ih ⊢ <;> omega
theorem pm_ent_get {ad : Nat → Nat} : ∀ (as : List Value) (i : Nat) (v : Value), (as.flatMap fun v => if v.category = 2 then [v, .retAddr 0] else [v])[i]? = some v → pm_jk v = false → (lg_sl (as.map (pm_cv ad)))[i]? = some (.val (pm_cv ad v)) := by
  intro as
  induction as with
  | nil => intro i v h; simp at h
  | cons w ws ih =>
    intro i v h hj
    by_cases hc : w.category = 2
    · have hc' : (pm_cv ad w).category = 2 := (pm_cv_cat ad w).trans hc
      simp only [List.flatMap_cons, if_pos hc] at h
      simp only [List.map_cons, lg_sl, List.flatMap_cons, if_pos hc']
      match i, h with
      | 0, h => simp at h ⊢; rw [h]
      | 1, h => simp at h; rw [← h] at hj; cases hj
      | i + 2, h => simp at h ⊢; exact ih i v h hj
    · have hc' : ¬ (pm_cv ad w).category = 2 := by rw [pm_cv_cat]; exact hc
      simp only [List.flatMap_cons, if_neg hc] at h
      simp only [List.map_cons, lg_sl, List.flatMap_cons, if_neg hc']
      match i, h with
      | 0, h => simp at h ⊢; rw [h]
      | i + 1, h => simp at h ⊢; exact ih i v h hj
theorem pm_ent_len (as : List Value) : (as.flatMap fun v => if v.category = 2 then [v, (.retAddr 0 : Value)] else [v]).length = (as.map fun v => v.category).sum := by
  induction as with
  | nil => rfl
  | cons v vs ih =>
    rcases lv_cat v with h | h <;> simp [h] at ih ⊢ <;> omega
theorem pm_ent_Lr {ad : Nat → Nat} {as : List Value} {n : Nat} (h : (as.map fun v => v.category).sum ≤ n) : pm_Lr ad (pm_ent as n) ((lg_sl (as.map (pm_cv ad)) ++ List.replicate (n - (lg_sl (as.map (pm_cv ad))).length) Slot.unset).toArray) n := by
  have hs : ((as.map (pm_cv ad)).map fun v => v.category).sum = (as.map fun v => v.category).sum := pm_sum_cv
  have hl : (lg_sl (as.map (pm_cv ad))).length = (as.map fun v => v.category).sum := (pm_lg_len _).trans hs
  have he := lv_entry (as.map (pm_cv ad)) (n := n) (by rw [hl]; exact h)
  refine ⟨by simp only [pm_ent, List.length_append, pm_ent_len, List.length_replicate]; omega, he.1, he.2.1, fun i v hi hj => ?_⟩
  unfold pm_ent at hi
  rw [List.getElem?_toArray]
  by_cases hil : i < (as.map fun v => v.category).sum
  · rw [List.getElem?_append_left (by rw [pm_ent_len]; exact hil)] at hi
    rw [List.getElem?_append_left (by rw [hl]; exact hil)]
    exact pm_ent_get as i v hi hj
  · rw [List.getElem?_append_right (by rw [pm_ent_len]; omega)] at hi
    have := List.mem_of_getElem? hi
    rw [List.eq_of_mem_replicate this] at hj
    cases hj
theorem pm_ent_ok {as : List Value} {N n : Nat} (h : pm_oks N as) : pm_oks N (pm_ent as n) := by
  intro v hv
  unfold pm_ent at hv
  rcases List.mem_append.mp hv with hv | hv
  · obtain ⟨w, hw, hq⟩ := List.mem_flatMap.mp hv
    split at hq
    · rcases List.mem_cons.mp hq with rfl | hq
      · exact h _ hw
      · rw [List.mem_singleton.mp hq]; rfl
    · rw [List.mem_singleton.mp hq]; exact h _ hw
  · rw [List.eq_of_mem_replicate hv]; rfl
theorem pm_Ha.moved {u U : State} {ca : Nat → ClassId} {h : pm_H} (hvm : u.vm.Alike U.vm) (q : pm_Ha u ca h) : pm_Ha U ca h := fun k ty len hk => ⟨arrOfT_moved hvm (q k ty len hk).1, (q k ty len hk).2.moved hvm⟩
theorem pm_Ks.same {D : va_G} {cl : List vw_C} {nw : List (String × Nat × MethodName × String)} {ao : List String} {kt : pm_Kt} {zs : List (String × String × String × Value)} {tx : List (String × Nat × String × Nat)} {ad : Nat → Nat} {A : Nat → Prop} {u U : State} {H : Heap} (h : pm_Ks D cl nw ao kt zs tx ad A u H) (hv : U.vm = u.vm) : pm_Ks D cl nw ao kt zs tx ad A U H := by
  have hal : u.vm.Alike U.vm := by rw [hv]; exact Vm.Alike.refl u.vm
  obtain ⟨h1, h2, h3, h4, h5, h6, h7⟩ := h
  refine ⟨va_K.moved hal h1, fun w hw => va_Nw.same rfl hv.symm (h2 w hw), fun C hC => va_AO.moved hal (h3 C hC), fun i ty len f hi => va_T.moved hal (h4 i ty len f hi), fun i vi hi => ?_, fun z hz => ⟨va_Z.moved hal (h6 z hz).1, (h6 z hz).2⟩, fun t ht => vk_R.same hv (h7 t ht)⟩
  obtain ⟨g1, g2, g3⟩ := h5 i vi hi
  exact ⟨va_O.moved hal g1, va_OF.moved hal g2, va_OF.moved hal g3⟩
section PMC
variable {p : Program} {l : Launch} {e : Env} {R : Room} {s : State} {m : MethodId} {args : Array Value} {below : List Frame} {meth : Method} {c : Code} {H : Heap} {locs : List Loc} {cells slots : Nat} {Q : State → Prop}
/-- behind a call, whatever its end says -/
theorem pm_call {pc mc ms : Nat} {ls : Array Slot} {rest st0 : List Value} {A0 A1 : Nat → Prop} {free : Addr → Prop} {Qa : State → Outcome → State → Prop} (hr : va_Run p l e R s m args below meth c H locs cells slots mc ms (F0 m pc ls st0) rest Qa free) (hS : va_S A0 s.heap H locs) (hA : ∀ q, A1 q → A0 q) (hf : ∀ q, free q → A0 q) (hQ : ∀ st₀ o t, Qa st₀ o t → va_F A1 st₀ t)
    (kk : ∀ (v : Option Value) (st₀ t : State) (locs1 : List Loc), st₀.heap = H → s.vm.Alike t.vm → Qa st₀ (.returned v) t → va_S A0 s.heap t.heap locs1 → W p l e R s m args below meth c t.heap locs1 (cells + mc) (slots + ms) Q (F0 m (pc + 3) ls (v.toList ++ rest))) : W p l e R s m args below meth c H locs cells slots Q (F0 m pc ls st0) := by
  intro T hT X
  obtain ⟨v, st₀, t, T', L, h0, X', hL, e1, e2, hqa, st⟩ := hr T hT X
  obtain ⟨hz, hk⟩ := hQ _ _ _ hqa
  rw [h0] at hz hk
  obtain ⟨t2, a1, b1⟩ := kk v st₀ t (locs ++ L) h0 (by rw [← e2]; exact X'.warmed.alike) hqa
    ⟨Nat.le_trans hS.1 hz, fun q h1 h2 => by rw [hk q (Nat.lt_of_lt_of_le h1 hS.1) (fun z => h2 (hA q z))]; exact hS.2.1 q h1 h2, fun q hq => by
      rcases List.mem_append.mp hq with h | h
      · exact hS.2.2 q h
      · exact hf _ (hL q h)⟩ T' e1 X'
  exact ⟨t2, st t2 a1, b1⟩
end PMC
/-- a method's start: the world, and what holds of tables and constants -/
def pm_Pc (D : va_G) (cl : List vw_C) (ft : Nat → Nat → FieldType) (nw : List (String × Nat × MethodName × String)) (ao : List String) (kt : pm_Kt) (zs : List (String × String × String × Value)) (tx : List (String × Nat × String × Nat)) (ad : Nat → Nat) (ca : Nat → ClassId) (h : pm_H) (sz : Nat) (as : List Value) : Array Value → State → Prop :=
  fun v U => v = (as.map (pm_cv ad)).toArray ∧ U.heap.size = sz ∧ va_P D cl (pm_ws cl ft ad ca h) U.heap ∧ va_D (fun _ => True) (pm_ws cl ft ad ca h) ∧ pm_Ha U ca h ∧ pm_Ks D cl nw ao kt zs tx ad (va_A (pm_ws cl ft ad ca h) sz) U U.heap
/-- a method's end -/
def pm_Qc (D : va_G) (cl : List vw_C) (ft : Nat → Nat → FieldType) (ad : Nat → Nat) (ca : Nat → ClassId) (h : pm_H) (sz : Nat) (v : Option Value) (h' : pm_H) : Array Value → State → Outcome → State → Prop :=
  fun _ st o t => (∃ (ad' : Nat → Nat) (ca' : Nat → ClassId), o = .returned (v.map (pm_cv ad')) ∧ pm_ex h.1.length ad ad' ∧ h.1.length ≤ h'.1.length ∧ pm_Hc h' ∧ (∀ x, v = some x → pm_ok h'.1.length x = true) ∧ pm_Ha t ca' h' ∧ va_P D cl (pm_ws cl ft ad' ca' h') t.heap ∧ va_D (va_A (pm_ws cl ft ad ca h) sz) (pm_ws cl ft ad' ca' h')) ∧ va_F (va_A (pm_ws cl ft ad ca h) sz) st t
theorem pm_Pc_blind {D : va_G} {cl : List vw_C} {ft : Nat → Nat → FieldType} {nw : List (String × Nat × MethodName × String)} {ao : List String} {kt : pm_Kt} {zs : List (String × String × String × Value)} {tx : List (String × Nat × String × Nat)} {ad : Nat → Nat} {ca : Nat → ClassId} {h : pm_H} {sz : Nat} {as : List Value} : FrameBlind (pm_Pc D cl ft nw ao kt zs tx ad ca h sz as) := by
  intro a U g mk q
  obtain ⟨q1, q2, q3, q4, q5, q6⟩ := q
  exact ⟨q1, q2, q3, q4, q5.moved (U := U.calling g mk a) (Vm.Alike.refl U.vm), q6.same (U := U.calling g mk a) rfl⟩
/-- the room of a method d deep -/
def pm_rm (d mc ms : Nat) : Room := { frames := d, cells := mc, slots := ms, locals := 60 * d }
theorem pm_ret_inv {rt : Option FieldType} {st : List Value} {ins : Instr} {v : Option Value} (h : pm_ret rt st ins = some v) : st = v.toList := by
  cases ins with
  | return_ =>
    simp only [pm_ret] at h
    split at h
    · rename_i q; cases h; exact q.2
    · cases h
  | ireturn =>
    simp only [pm_ret] at h
    split at h
    · split at h
      · cases h; rfl
      · cases h
    · cases h
  | lreturn =>
    simp only [pm_ret] at h
    split at h
    · cases h; rfl
    · cases h
  | areturn =>
    simp only [pm_ret] at h
    split at h
    · cases h; rfl
    · cases h; rfl
    · cases h
  | _ => cases h
