/-! The pure machine, part 6: jumps in the real one. -/
theorem pm_to_spec {pc t : Nat} {off : Int} (h : pm_to pc off = some t) : (pc : Int) + off = (t : Int) := by
  unfold pm_to at h; split at h
  · cases h; omega
  · cases h
theorem pm_cI_inv {pc t : Nat} {off : Int} {f : Int32 → Bool} {st st' : List Value} (h : pm_cI pc off f st = some (t, st')) : ∃ (x : Int32) (t' : Nat), st = .int x :: st' ∧ (pc : Int) + off = (t' : Int) ∧ t = if f x = true then t' else pc + 3 := by
  unfold pm_cI at h; split at h
  · obtain ⟨t', h1, h2⟩ := Option.map_eq_some_iff.mp h
    cases h2; exact ⟨_, t', rfl, pm_to_spec h1, rfl⟩
  · cases h
theorem pm_cII_inv {pc t : Nat} {off : Int} {f : Int32 → Int32 → Bool} {st st' : List Value} (h : pm_cII pc off f st = some (t, st')) : ∃ (x y : Int32) (t' : Nat), st = .int y :: .int x :: st' ∧ (pc : Int) + off = (t' : Int) ∧ t = if f x y = true then t' else pc + 3 := by
  unfold pm_cII at h; split at h
  · obtain ⟨t', h1, h2⟩ := Option.map_eq_some_iff.mp h
    cases h2; exact ⟨_, _, t', rfl, pm_to_spec h1, rfl⟩
  · cases h
theorem pm_cA_inv {N pc t : Nat} {off : Int} {same : Bool} {st st' : List Value} (h : pm_cA N pc off same st = some (t, st')) : ∃ (rx ry : Option Nat) (t' : Nat), st = va_rf ry :: va_rf rx :: st' ∧ (pc : Int) + off = (t' : Int) ∧ (∀ z, rx = some z → ry ≠ none → z < N) ∧ (∀ z, ry = some z → rx ≠ none → z < N) ∧ t = if decide (rx = ry) = same then t' else pc + 3 := by
  unfold pm_cA at h; split at h
  · split at h
    · rename_i y x r hN
      obtain ⟨t', h1, h2⟩ := Option.map_eq_some_iff.mp h
      cases h2
      refine ⟨some x, some y, t', rfl, pm_to_spec h1, fun z hz _ => by cases hz; exact hN.1, fun z hz _ => by cases hz; exact hN.2, ?_⟩
      by_cases e : x = y <;> simp [e]
    · cases h
  · obtain ⟨t', h1, h2⟩ := Option.map_eq_some_iff.mp h
    cases h2
    exact ⟨some _, none, t', rfl, pm_to_spec h1, fun z _ q => absurd rfl q, (fun z hz _ => by cases hz), by simp⟩
  · obtain ⟨t', h1, h2⟩ := Option.map_eq_some_iff.mp h
    cases h2
    exact ⟨none, some _, t', rfl, pm_to_spec h1, (fun z hz _ => by cases hz), fun z _ q => absurd rfl q, by simp⟩
  · obtain ⟨t', h1, h2⟩ := Option.map_eq_some_iff.mp h
    cases h2
    exact ⟨none, none, t', rfl, pm_to_spec h1, (fun z hz _ => by cases hz), (fun z hz _ => by cases hz), by simp⟩
  · cases h
theorem pm_br_ok {ins : Instr} {N n pc t : Nat} {st st' : List Value} (h : pm_br N pc st ins = some (t, st')) (ho : pm_oks n st) : pm_oks n st' := by
  have g1 : ∀ {off : Int} {f : Int32 → Bool}, pm_cI pc off f st = some (t, st') → pm_oks n st' := fun h => by
    obtain ⟨x, t', rfl, -⟩ := pm_cI_inv h; exact (pm_oks_c.mp ho).2
  have g2 : ∀ {off : Int} {f : Int32 → Int32 → Bool}, pm_cII pc off f st = some (t, st') → pm_oks n st' := fun h => by
    obtain ⟨x, y, t', rfl, -⟩ := pm_cII_inv h; exact (pm_oks_c.mp (pm_oks_c.mp ho).2).2
  have g3 : ∀ {off : Int} {f : Bool}, pm_cA N pc off f st = some (t, st') → pm_oks n st' := fun h => by
    obtain ⟨x, y, t', rfl, -⟩ := pm_cA_inv h; exact (pm_oks_c.mp (pm_oks_c.mp ho).2).2
  have g4 : ∀ {off : Int} {f : Bool}, pm_cN pc off f st = some (t, st') → pm_oks n st' := fun h => by
    unfold pm_cN at h; split at h
    · obtain ⟨t', h1, h2⟩ := Option.map_eq_some_iff.mp h; cases h2; exact (pm_oks_c.mp ho).2
    · obtain ⟨t', h1, h2⟩ := Option.map_eq_some_iff.mp h; cases h2; exact (pm_oks_c.mp ho).2
    · cases h
  cases ins with
  | goto off => obtain ⟨t', h1, h2⟩ := Option.map_eq_some_iff.mp h; cases h2; exact ho
  | ifCond cd off => cases cd <;> exact g1 h
  | if_icmp cd off => cases cd <;> exact g2 h
  | if_acmp cd off => cases cd <;> exact g3 h
  | ifnull off => exact g4 h
  | ifnonnull off => exact g4 h
  | tableswitch a b cc d =>
    match st, h with
    | .int x :: r, h =>
      simp only [pm_br, pm_tab] at h
      split at h
      · obtain ⟨t', h1, h2⟩ := Option.map_eq_some_iff.mp h; cases h2; exact (pm_oks_c.mp ho).2
      · obtain ⟨o, h0, h⟩ := Option.bind_eq_some_iff.mp h
        obtain ⟨t', h1, h2⟩ := Option.map_eq_some_iff.mp h; cases h2; exact (pm_oks_c.mp ho).2
  | lookupswitch a b =>
    match st, h with
    | .int x :: r, h =>
      simp only [pm_br, pm_look] at h
      split at h
      · obtain ⟨t', h1, h2⟩ := Option.map_eq_some_iff.mp h; cases h2; exact (pm_oks_c.mp ho).2
      · cases h
  | _ => cases h
section PMB
variable {p : Program} {l : Launch} {e : Env} {R : Room} {s : State} {m : MethodId} {args : Array Value} {below : List Frame} {meth : Method} {c : Code} {H : Heap} {locs : List Loc} {cells slots : Nat} {Q : State → Prop}
variable {cc : ByteArray} {pc nL : Nat} {lsC : Array Slot} {ls st : List Value} {ad : Nat → Nat} {ins : Instr} {len n : Nat}
theorem pm_cv_rf (ad : Nat → Nat) (r : Option Nat) : pm_cv ad (va_rf r) = va_rf (r.map ad) := by cases r <;> rfl
theorem pm_br_W {N t : Nat} {st' : List Value} (hx : p.tables.exec = Jvm.exec) (hb : c.code = cc) (hdg : decode cc pc = .ok (ins, len)) (hl : pm_lok len ins = true) (h : pm_br N pc st ins = some (t, st')) (hinj : ∀ x y, x < N → y < N → ad x = ad y → x = y)
    (k : W p l e R s m args below meth c H locs cells slots Q (F0 m t lsC (st'.map (pm_cv ad)))) : W p l e R s m args below meth c H locs cells slots Q (F0 m pc lsC (st.map (pm_cv ad))) := by
  have tt : ∀ {f : Bool} {a b : Nat}, t = (if f = true then a else b) → f = true → W p l e R s m args below meth c H locs cells slots Q (F0 m a lsC (st'.map (pm_cv ad))) := fun h1 h2 => by
    rw [h1, if_pos h2] at k; exact k
  have tf : ∀ {f : Bool} {a b : Nat}, t = (if f = true then a else b) → ¬ f = true → W p l e R s m args below meth c H locs cells slots Q (F0 m b lsC (st'.map (pm_cv ad))) := fun h1 h2 => by
    rw [h1, if_neg h2] at k; exact k
  cases ins with
  | goto off =>
    cases pm_ln hl
    obtain ⟨t', h1, h2⟩ := Option.map_eq_some_iff.mp h
    cases h2
    exact lv_goto hx hb hdg (pm_to_spec h1) k
  | ifCond cd off =>
    cases pm_ln hl
    cases cd <;> obtain ⟨x, t', rfl, ht, he⟩ := pm_cI_inv h
    · exact lv_if_eq hx hb hdg ht (fun q => tt he (by simpa using q)) (fun q => tf he (by simpa using q))
    · exact lv_if_ne hx hb hdg ht (fun q => tt he (by simpa using q)) (fun q => tf he (by simpa using q))
    · exact lv_if_lt hx hb hdg ht (fun q => tt he (by simpa using q)) (fun q => tf he (by simpa using q))
    · exact lv_if_ge hx hb hdg ht (fun q => tt he (by simpa using q)) (fun q => tf he (by simpa using q))
    · exact lv_if_gt hx hb hdg ht (fun q => tt he (by simpa using q)) (fun q => tf he (by simpa using q))
    · exact lv_if_le hx hb hdg ht (fun q => tt he (by simpa using q)) (fun q => tf he (by simpa using q))
  | if_icmp cd off =>
    cases pm_ln hl
    cases cd <;> obtain ⟨x, y, t', rfl, ht, he⟩ := pm_cII_inv h
    · exact lv_icmp_eq hx hb hdg ht (fun q => tt he (by simpa using q)) (fun q => tf he (by simpa using q))
    · exact lv_icmp_ne hx hb hdg ht (fun q => tt he (by simpa using q)) (fun q => tf he (by simpa using q))
    · exact lv_icmp_lt hx hb hdg ht (fun q => tt he (by simpa using q)) (fun q => tf he (by simpa using q))
    · exact lv_icmp_ge hx hb hdg ht (fun q => tt he (by simpa using q)) (fun q => tf he (by simpa using q))
    · exact lv_icmp_gt hx hb hdg ht (fun q => tt he (by simpa using q)) (fun q => tf he (by simpa using q))
    · exact lv_icmp_le hx hb hdg ht (fun q => tt he (by simpa using q)) (fun q => tf he (by simpa using q))
  | if_acmp cd off =>
    cases pm_ln hl
    have key : ∀ {rx ry : Option Nat}, (∀ z, rx = some z → ry ≠ none → z < N) → (∀ z, ry = some z → rx ≠ none → z < N) → (rx.map ad = ry.map ad ↔ rx = ry) := by
      intro rx ry g1 g2
      cases rx with
      | none => cases ry <;> simp
      | some x =>
        cases ry with
        | none => simp
        | some y =>
          simp only [Option.map_some, Option.some.injEq]
          exact ⟨hinj x y (g1 x rfl (by simp)) (g2 y rfl (by simp)), fun q => by rw [q]⟩
    cases cd <;> obtain ⟨rx, ry, t', rfl, ht, g1, g2, he⟩ := pm_cA_inv h <;> simp only [List.map_cons, pm_cv_rf]
    · exact lv_acmp_eq hx hb hdg ht (fun q => tt he (by simpa using (key g1 g2).mp q)) (fun q => tf he (by simpa using fun z => q ((key g1 g2).mpr z)))
    · exact lv_acmp_ne hx hb hdg ht (fun q => by rw [he, if_pos (by simpa using fun z => q ((key g1 g2).mpr z))] at k; exact k) (fun q => by rw [he, if_neg (by simpa using (key g1 g2).mp q)] at k; exact k)
  | ifnull off =>
    cases pm_ln hl
    match st, h with
    | .ref x :: r, h =>
      obtain ⟨t', h1, h2⟩ := Option.map_eq_some_iff.mp h
      cases h2
      exact lv_ifnull hx hb hdg k
    | .null :: r, h =>
      obtain ⟨t', h1, h2⟩ := Option.map_eq_some_iff.mp h
      cases h2
      exact lv_ifnullN hx hb hdg (pm_to_spec h1) k
  | ifnonnull off =>
    cases pm_ln hl
    match st, h with
    | .ref x :: r, h =>
      obtain ⟨t', h1, h2⟩ := Option.map_eq_some_iff.mp h
      cases h2
      exact lv_ifnonnull hx hb hdg (pm_to_spec h1) k
    | .null :: r, h =>
      obtain ⟨t', h1, h2⟩ := Option.map_eq_some_iff.mp h
      cases h2
      exact lv_ifnonnullN hx hb hdg k
  | tableswitch a b cc d =>
    match st, h with
    | .int x :: r, h =>
      simp only [pm_br, pm_tab] at h
      split at h
      · rename_i q
        obtain ⟨t', h1, h2⟩ := Option.map_eq_some_iff.mp h
        cases h2
        exact lv_tableOut hx hb hdg q (pm_to_spec h1) k
      · rename_i q
        obtain ⟨o, h0, h⟩ := Option.bind_eq_some_iff.mp h
        obtain ⟨t', h1, h2⟩ := Option.map_eq_some_iff.mp h
        cases h2
        exact lv_tableIn hx hb hdg (fun z => q (Or.inl z)) (fun z => q (Or.inr z)) h0 (pm_to_spec h1) k
  | lookupswitch a b =>
    match st, h with
    | .int x :: r, h =>
      simp only [pm_br, pm_look] at h
      split at h
      · rename_i q
        obtain ⟨t', h1, h2⟩ := Option.map_eq_some_iff.mp h
        cases h2
        exact lv_lookup hx hb hdg q rfl (pm_to_spec h1) k
      · cases h
  | _ => cases h
end PMB
