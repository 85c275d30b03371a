/-! The pure machine, part 10: what holds of tables and constants; heap instructions in the real one. -/
/-- what a state says of classes, nest mates, rows of classes, constants, statics, texts -/
def pm_Ks (D : va_G) (cl : List vw_C) (nw : List (String × Nat × MethodName × String)) (ao : List String) (kt : pm_Kt) (zs : List (String × String × String × Value)) (tx : List (String × Nat × String × Nat)) (ad : Nat → Nat) (A : Nat → Prop) (U : State) (H : Heap) : Prop :=
  va_K D cl [] U ∧ (∀ w ∈ nw, va_Nw (.methodLinkNest w.1 w.2.1 w.2.2.1 w.2.2.2) U) ∧ (∀ C ∈ ao, va_AO C U) ∧ pm_Kr kt ad A U H ∧
  (∀ (i vi : Nat), kt i = some (.inr vi) → va_O "java/lang/String" (ad (pm_B + i)) A U H ∧ va_OF "java/lang/String" "coder" "B" (.int 0) (ad (pm_B + i)) A U H ∧ va_OF "java/lang/String" "value" "[B" (.ref (ad (pm_B + vi))) (ad (pm_B + i)) A U H) ∧
  (∀ z ∈ zs, va_Z z.1 z.2.1 z.2.2.1 (pm_cv ad z.2.2.2) A U H ∧ pm_ok 0 z.2.2.2 = true) ∧ (∀ t ∈ tx, vk_R t.1 t.2.1 t.2.2.1 (ad (pm_B + t.2.2.2)) U)
theorem pm_ex.b {n i : Nat} {ad ad' : Nat → Nat} (h : pm_ex n ad ad') : ad' (pm_B + i) = ad (pm_B + i) := h _ (by simp [pm_okr])
theorem pm_Ks.ext {D : va_G} {cl : List vw_C} {nw : List (String × Nat × MethodName × String)} {ao : List String} {kt : pm_Kt} {zs : List (String × String × String × Value)} {tx : List (String × Nat × String × Nat)} {ad ad' : Nat → Nat} {A : Nat → Prop} {U : State} {H : Heap} {n : Nat} (h : pm_Ks D cl nw ao kt zs tx ad A U H) (hx : pm_ex n ad ad') : pm_Ks D cl nw ao kt zs tx ad' A U H := by
  obtain ⟨h1, h2, h3, h4, h5, h6, h7⟩ := h
  refine ⟨h1, h2, h3, fun i ty len f hi => ?_, fun i vi hi => ?_, fun z hz => ?_, fun t ht => ?_⟩
  · rw [hx.b]; exact h4 i ty len f hi
  · rw [hx.b, hx.b]; exact h5 i vi hi
  · rw [pm_cv_ext hx (pm_ok_mono (Nat.zero_le n) (h6 z hz).2)]; exact h6 z hz
  · rw [hx.b]; exact h7 t ht
/-- at a callee's entry -/
theorem pm_Ks.call {D : va_G} {cl : List vw_C} {nw : List (String × Nat × MethodName × String)} {ao : List String} {kt : pm_Kt} {zs : List (String × String × String × Value)} {tx : List (String × Nat × String × Nat)} {ad : Nat → Nat} {A A' : Nat → Prop} {s U : State} {H : Heap} {locs : List Loc} (h : pm_Ks D cl nw ao kt zs tx ad A s s.heap) (hS : va_S A s.heap H locs) (hW : s.WarmedH U.vm) (hU : U.heap = H) (hA : ∀ q, A' q → A q) : pm_Ks D cl nw ao kt zs tx ad A' U U.heap := by
  obtain ⟨h1, h2, h3, h4, h5, h6, h7⟩ := h
  rw [hU]
  refine ⟨va_K.moved hW.alike h1, fun w hw => va_Nw.warmM hW (h2 w hw), fun C hC => va_AO.moved hW.alike (h3 C hC), fun i ty len f hi => va_T.moved hW.alike (((h4 i ty len f hi).kept hS.2.1).narrow hA), fun i vi hi => ?_, fun z hz => ⟨va_Z.moved hW.alike (((h6 z hz).1.kept hS.2.1).narrow hA), (h6 z hz).2⟩, fun t ht => vk_R.warm hW (h7 t ht)⟩
  obtain ⟨g1, g2, g3⟩ := h5 i vi hi
  exact ⟨va_O.moved hW.alike ((g1.kept hS.2.1).narrow hA), va_OF.moved hW.alike ((g2.kept hS.2.1).narrow hA), va_OF.moved hW.alike ((g3.kept hS.2.1).narrow hA)⟩
/-- what the tables must say of a method that is called -/
def pm_okM (Tg : List Cond) (q : pm_Me) : Prop := Cond.code q.1.1 q.1.2.1 q.1.2.2.1 q.1.2.2.2 ∈ Tg ∧ Cond.initialized q.1.1.cls ∈ Tg ∧ plainName q.1.1.cls = true ∧ (q.1.1.cls ≠ "java/lang/invoke/MethodHandle" ∧ q.1.1.cls ≠ "java/lang/invoke/VarHandle" ∧ (parseMethodDescriptor q.1.1.desc).map (fun d => d.parameters.length) = some q.2.2.1) ∧ q.1.2.2.1 ≤ 41
/-- the receiver's class -/
def pm_okR (cl : List vw_C) (q : pm_Me) : Prop := (q.2.2.2 = pm_tc → q.1.1.cls = "java/lang/String") ∧ (q.2.2.2 ≠ pm_tc → (cl[q.2.2.2]?).map (fun r => r.1) = some q.1.1.cls)
/-- what the tables must say of a link -/
def pm_okL (Tg : List Cond) (cl : List vw_C) (me : Nat → pm_Me) (nw : List (String × Nat × MethodName × String)) (ao : List String) (zs : List (String × String × String × Value)) (tx : List (String × Nat × String × Nat)) (own : String) (i : Nat) (k : pm_Lk) : Prop :=
  match k.1 with
  | 1 => ∀ C T N, cl[k.2.1]? = some (C, T, N) → k.2.2.1 < N → Cond.fieldLink own i (T k.2.2.1).1 (T k.2.2.1).2.1 (T k.2.2.1).2.2.1 ∈ Tg
  | 2 => Cond.methodLink own i (me k.2.1).1.1 ∈ Tg ∧ Cond.instanceMethod (me k.2.1).1.1 ∈ Tg ∧ Cond.selects (me k.2.1).1.1.cls (me k.2.1).1.1 (me k.2.1).1.1 ∈ Tg ∧ pm_okM Tg (me k.2.1) ∧ pm_okR cl (me k.2.1)
  | 3 => (∃ host, (own, i, (me k.2.1).1.1, host) ∈ nw) ∧ Cond.instanceMethod (me k.2.1).1.1 ∈ Tg ∧ Cond.selects (me k.2.1).1.1.cls (me k.2.1).1.1 (me k.2.1).1.1 ∈ Tg ∧ pm_okM Tg (me k.2.1) ∧ pm_okR cl (me k.2.1)
  | 4 => Cond.methodLink own i (me k.2.1).1.1 ∈ Tg ∧ Cond.static (me k.2.1).1.1 ∈ Tg ∧ pm_okM Tg (me k.2.1)
  | 5 => (∃ host, (own, i, (me k.2.1).1.1, host) ∈ nw) ∧ Cond.static (me k.2.1).1.1 ∈ Tg ∧ pm_okM Tg (me k.2.1)
  | 6 => Cond.methodLink own i (me k.2.1).1.1 ∈ Tg ∧ Cond.instanceMethod (me k.2.1).1.1 ∈ Tg ∧ (me k.2.1).1.1.name = "<init>" ∧ (me k.2.1).1.2.2.2 = none ∧ pm_okM Tg (me k.2.1)
  | 7 => (∃ host, (own, i, (me k.2.1).1.1, host) ∈ nw) ∧ Cond.instanceMethod (me k.2.1).1.1 ∈ Tg ∧ (me k.2.1).1.1.name = "<init>" ∧ (me k.2.1).1.2.2.2 = none ∧ pm_okM Tg (me k.2.1)
  | 8 => Cond.methodLink own i objectInit ∈ Tg ∧ Cond.instanceMethod objectInit ∈ Tg ∧ Cond.code objectInit ⟨#[0xb1]⟩ 1 none ∈ Tg
  | 9 => ∀ C T N, cl[k.2.1]? = some (C, T, N) → Cond.classLink own i C ∈ Tg
  | 10 => (∀ C T N, cl[k.2.1]? = some (C, T, N) → Cond.classLink own i C ∈ Tg) ∧ Cond.classLink own i (cl.getD k.2.1 pm_dc).1 ∈ Tg ∧ (cl.getD k.2.1 pm_dc).1 ∈ ao
  | 11 => Cond.constant own i k.2.2.2.1 ∈ Tg
  | 12 => Cond.constantLong own i k.2.2.2.2 ∈ Tg
  | 13 => ∃ t, (own, i, t, k.2.1) ∈ tx
  | 14 => Cond.methodLink own i arraycopyName ∈ Tg ∧ Cond.native arraycopyName ∈ Tg ∧ Cond.static arraycopyName ∈ Tg ∧ Cond.initialized "java/lang/System" ∈ Tg
  | 15 => ∃ C n d, (C, n, d, Value.ref (pm_B + k.2.1)) ∈ zs ∧ Cond.fieldLink own i C n d ∈ Tg
  | 16 => Cond.methodLink own i Lib.Math.max.name ∈ Tg ∧ Cond.static Lib.Math.max.name ∈ Tg ∧ Cond.initialized "java/lang/Math" ∈ Tg ∧ Cond.code Lib.Math.max.name Lib.Math.max.code 2 (some .int) ∈ Tg
  | 17 => Cond.methodLink own i Lib.Math.min.name ∈ Tg ∧ Cond.static Lib.Math.min.name ∈ Tg ∧ Cond.initialized "java/lang/Math" ∈ Tg ∧ Cond.code Lib.Math.min.name Lib.Math.min.code 2 (some .int) ∈ Tg
  | 18 => Cond.fieldLink own i "java/lang/String" (if k.2.1 = 0 then "coder" else "value") (if k.2.1 = 0 then "B" else "[B") ∈ Tg
  | 19 => ∃ C n d, (C, n, d, Value.int k.2.2.2.1) ∈ zs ∧ Cond.fieldLink own i C n d ∈ Tg
  | 20 => ∃ C n d, (C, n, d, Value.null) ∈ zs ∧ Cond.fieldLink own i C n d ∈ Tg
  | _ => True
def pm_okA (Tg : List Cond) : Prop := Cond.arrayClass .int ∈ Tg ∧ Cond.arrayClass .byte ∈ Tg ∧ Cond.arrayClass .boolean ∈ Tg ∧ Cond.arrayClass .long ∈ Tg
theorem pm_gtx_inv {kt : pm_Kt} {a : Nat} {st st' : List Value} (q : pm_gtx kt a st = some st') : ∃ b r vi, st = .ref (pm_B + b) :: r ∧ kt b = some (.inr vi) ∧ st' = (if a = 0 then .int 0 else .ref (pm_B + vi)) :: r := by
  unfold pm_gtx at q; split at q
  · rename_i k r
    split at q
    · rename_i hB
      split at q
      · rename_i vi hk
        cases q
        exact ⟨k - pm_B, r, vi, by rw [Nat.add_sub_cancel' hB], hk, rfl⟩
      · cases q
    · cases q
  · cases q
theorem pm_oI_inv {d : Nat} {st st' : List Value} (q : pm_oI d st = some st') : ∃ b, st = .ref b :: st' ∧ 1 ≤ d ∧ (st'.map fun v => v.category).sum ≤ 8 := by
  unfold pm_oI at q; split at q
  · split at q
    · rename_i hc; cases q; exact ⟨_, rfl, hc.1, hc.2⟩
    · cases q
  · cases q
theorem pm_mm_inv {t : Nat} {st st' : List Value} (q : pm_mm t st = some st') : ∃ x y r, st = .int y :: .int x :: r ∧ (r.map fun v => v.category).sum ≤ 8 ∧ st' = .int (if t = 16 then (if x < y then y else x) else (if y < x then y else x)) :: r := by
  unfold pm_mm at q; split at q
  · split at q
    · rename_i hc; cases q; exact ⟨_, _, _, rfl, hc, rfl⟩
    · cases q
  · cases q
theorem pm_arr_inv {kc ks pc kc' ks' pc' : Nat} {o : Option (Nat × List Value × pm_H)} {st' : List Value} {h' : pm_H} (q : pm_arr kc ks pc o = some (kc', ks', pc', st', h')) : ∃ n, o = some (n, st', h') ∧ 1 ≤ kc ∧ n ≤ ks ∧ kc' = kc - 1 ∧ ks' = ks - n ∧ pc' = pc := by
  unfold pm_arr at q; split at q
  · split at q
    · rename_i hc; cases q; exact ⟨_, rfl, hc.1, hc.2, rfl, rfl, rfl⟩
    · cases q
  · cases q
theorem pm_sh_inv {kc ks pc kc' ks' pc' : Nat} {o : Option (List Value × pm_H)} {st' : List Value} {h' : pm_H} (q : pm_sh kc ks pc o = some (kc', ks', pc', st', h')) : o = some (st', h') ∧ kc' = kc ∧ ks' = ks ∧ pc' = pc := by
  obtain ⟨⟨a, b⟩, h1, h2⟩ := Option.map_eq_some_iff.mp q
  cases h2; exact ⟨h1, rfl, rfl, rfl⟩
theorem pm_sum_cv {ad : Nat → Nat} {r : List Value} : ((r.map (pm_cv ad)).map fun v => v.category).sum = (r.map fun v => v.category).sum := by
  rw [List.map_map, show ((fun v => v.category) ∘ pm_cv ad) = (fun v : Value => v.category) from funext (fun v => pm_cv_cat ad v)]
section PMH
variable {p : Program} {l : Launch} {e : Env} {R : Room} {s : State} {m : MethodId} {args : Array Value} {below : List Frame} {meth : Method} {c : Code} {H : Heap} {locs : List Loc} {cells slots : Nat} {Q : State → Prop}
variable {cc : ByteArray} {pc nL : Nat} {lsC : Array Slot} {ls st st' : List Value} {ad : Nat → Nat} {ca : Nat → ClassId} {D : va_G} {cl : List vw_C} {ft : Nat → Nat → FieldType} {kt : pm_Kt} {A : Nat → Prop} {h h' : pm_H} {Tg : List Cond} {own : String}
variable {me : Nat → pm_Me} {nw : List (String × Nat × MethodName × String)} {ao : List String} {zs : List (String × String × String × Value)} {tx : List (String × Nat × String × Nat)} {lk : Nat → pm_Lk} {mi : MethodName} {ins : Instr} {len d kc ks kc' ks' pc' : Nat}
set_option maxHeartbeats 1000000 in
theorem pm_hp_W (hx : p.tables.exec = Jvm.exec) (hb : c.code = cc) (hml : c.maxLocals = lsC.size) (hown : s.vm.findClass mi.cls = some m.cls) (hnm : meth.name = mi.name) (hts : ∀ w ∈ Tg, w.before args s = true) (hC : pm_okC Tg cl ft) (hAr : pm_okA Tg) (hL : ∀ i, pm_okL Tg cl me nw ao zs tx mi.cls i (lk i))
    (hdg : decode cc pc = .ok (ins, len)) (hl : pm_lok len ins = true) (hq : pm_hp cl ft kt mi lk d kc ks pc st h ins = some (kc', ks', pc', st', h'))
    (hKs : pm_Ks D cl nw ao kt zs tx ad A s s.heap) (ha : pm_Ha s ca h) (hc : pm_Hc h) (hP : va_P D cl (pm_ws cl ft ad ca h) H) (hD : va_D A (pm_ws cl ft ad ca h)) (hS : va_S A s.heap H locs) (hA : ∀ q, s.heap.size ≤ q → A q) (ho : pm_oks h.1.length st)
    (hd : d ≤ R.frames) (hlo : 60 * d ≤ R.locals) (hkc : cells + kc ≤ R.cells) (hks : slots + ks ≤ R.slots)
    (k : ∀ (ad' : Nat → Nat) (ca' : Nat → ClassId) (H1 : Heap) (locs1 : List Loc) (cells1 slots1 : Nat), pm_ex h.1.length ad ad' → pm_Ha s ca' h' → pm_Hc h' → h.1.length ≤ h'.1.length → va_P D cl (pm_ws cl ft ad' ca' h') H1 → va_D A (pm_ws cl ft ad' ca' h') → va_S A s.heap H1 locs1 → pm_oks h'.1.length st' → cells1 + kc' ≤ cells + kc → slots1 + ks' ≤ slots + ks →
      W p l e R s m args below meth c H1 locs1 cells1 slots1 Q (F0 m pc' lsC (st'.map (pm_cv ad')))) : W p l e R s m args below meth c H locs cells slots Q (F0 m pc lsC (st.map (pm_cv ad))) := by
  have hK := hKs.1
  -- the heap stays
  have k0 : ∀ {st1 : List Value}, kc' = kc → ks' = ks → h' = h → st' = st1 → pm_oks h.1.length st1 → W p l e R s m args below meth c H locs cells slots Q (F0 m pc' lsC (st1.map (pm_cv ad))) := by
    intro st1 e1 e2 e3 e4 e5
    subst e1; subst e2; subst e3; subst e4
    exact k ad ca H locs cells slots pm_ex.rf ha hc (Nat.le_refl _) hP hD hS e5 (Nat.le_refl _) (Nat.le_refl _)
  -- the heap changes in a cell
  have k1 : kc' = kc → ks' = ks → pm_Hc h' → h'.1 = h.1 → pm_oks h.1.length st' → ∀ (H1 : Heap) (locs1 : List Loc), va_P D cl (pm_ws cl ft ad ca h') H1 → va_D A (pm_ws cl ft ad ca h') → va_S A s.heap H1 locs1 → W p l e R s m args below meth c H1 locs1 cells slots Q (F0 m pc' lsC (st'.map (pm_cv ad))) := by
    intro e1 e2 e3 e4 e5 H1 locs1 g1 g2 g3
    subst e1; subst e2
    exact k ad ca H1 locs1 cells slots pm_ex.rf (fun k ty len hk => ha k ty len (by rw [← e4]; exact hk)) e3 (by rw [e4]; exact Nat.le_refl _) g1 g2 g3 (by rw [e4]; exact e5) (Nat.le_refl _) (Nat.le_refl _)
  cases ins with
  | getfield i =>
    cases pm_ln hl
    have hLi := hL i
    simp only [pm_hp] at hq
    split at hq
    · rename_i ht
      obtain ⟨st1, h1, h2⟩ := Option.map_eq_some_iff.mp hq
      cases h2
      simp only [pm_okL, ht] at hLi
      refine pm_get_W hx hb hown hts hC hdg hLi hK hP h1 (k0 rfl rfl rfl rfl ?_)
      obtain ⟨b, r, rfl, -, -, rfl⟩ := pm_get_inv h1
      exact pm_oks_c.mpr ⟨pm_fg_ok hc _ _ _, (pm_oks_c.mp ho).2⟩
    · split at hq
      · rename_i ht
        obtain ⟨st1, h1, h2⟩ := Option.map_eq_some_iff.mp hq
        cases h2
        simp only [pm_okL, ht] at hLi
        obtain ⟨b, r, vi, rfl, hb1, rfl⟩ := pm_gtx_inv h1
        obtain ⟨g1, g2, g3⟩ := hKs.2.2.2.2.1 b vi hb1
        by_cases h0 : (lk i).2.1 = 0
        · have k9 := k0 rfl rfl rfl rfl (pm_oks_c.mpr ⟨by rw [if_pos h0]; rfl, (pm_oks_c.mp ho).2⟩)
          rw [if_pos h0] at k9
          rw [if_pos h0, if_pos h0] at hLi
          exact vk_getf hx hb g2 hS hown (hts _ hLi) (fun _ h9 => h9) hdg k9
        · have k9 := k0 rfl rfl rfl rfl (pm_oks_c.mpr ⟨by rw [if_neg h0]; simp [pm_ok, pm_okr], (pm_oks_c.mp ho).2⟩)
          rw [if_neg h0] at k9
          rw [if_neg h0, if_neg h0] at hLi
          exact vk_getf hx hb g3 hS hown (hts _ hLi) (fun _ h9 => h9) hdg k9
      · cases hq
  | putfield i =>
    cases pm_ln hl
    have hLi := hL i
    simp only [pm_hp] at hq
    split at hq
    · rename_i ht
      obtain ⟨h1, e1, e2, e3⟩ := pm_sh_inv hq
      subst e3
      simp only [pm_okL, ht] at hLi
      obtain ⟨g1, g2, g3⟩ := pm_put_ok h1 hc ho
      exact pm_put_W hx hb hown hnm hts hC hdg hLi hK hP hD hS h1 (k1 e1 e2 g1 g2 g3)
    · cases hq
  | getstatic i =>
    cases pm_ln hl
    have hLi := hL i
    simp only [pm_hp] at hq
    split at hq
    · rename_i ht
      cases hq
      simp only [pm_okL, ht] at hLi
      obtain ⟨C, n, dd, hz, hf⟩ := hLi
      exact va_gets hx hb (hKs.2.2.2.2.2.1 _ hz).1 hS hown (hts _ hf) (fun _ h9 => h9) hdg (k0 rfl rfl rfl rfl (pm_oks_c.mpr ⟨by simp [pm_ok, pm_okr], ho⟩))
    · split at hq
      · rename_i ht
        cases hq
        simp only [pm_okL, ht] at hLi
        obtain ⟨C, n, dd, hz, hf⟩ := hLi
        exact va_gets hx hb (hKs.2.2.2.2.2.1 _ hz).1 hS hown (hts _ hf) (fun _ h9 => h9) hdg (k0 rfl rfl rfl rfl (pm_oks_c.mpr ⟨rfl, ho⟩))
      · split at hq
        · rename_i ht
          cases hq
          simp only [pm_okL, ht] at hLi
          obtain ⟨C, n, dd, hz, hf⟩ := hLi
          exact va_gets hx hb (hKs.2.2.2.2.2.1 _ hz).1 hS hown (hts _ hf) (fun _ h9 => h9) hdg (k0 rfl rfl rfl rfl (pm_oks_c.mpr ⟨rfl, ho⟩))
        · cases hq
  | ldc i =>
    cases pm_ln hl
    have hLi := hL i
    simp only [pm_hp] at hq
    split at hq
    · rename_i ht
      cases hq
      simp only [pm_okL, ht] at hLi
      exact lv_ldc hx hb hown (hts _ hLi) hdg (k0 rfl rfl rfl rfl (pm_oks_c.mpr ⟨rfl, ho⟩))
    · split at hq
      · rename_i ht
        cases hq
        simp only [pm_okL, ht] at hLi
        obtain ⟨t, htx⟩ := hLi
        exact va_ldcS hx hb hown (hKs.2.2.2.2.2.2 _ htx) hdg (k0 rfl rfl rfl rfl (pm_oks_c.mpr ⟨by simp [pm_ok, pm_okr], ho⟩))
      · cases hq
  | ldc_w i =>
    cases pm_ln hl
    have hLi := hL i
    simp only [pm_hp] at hq
    split at hq
    · rename_i ht
      cases hq
      simp only [pm_okL, ht] at hLi
      exact lv_ldcw hx hb hown (hts _ hLi) hdg (k0 rfl rfl rfl rfl (pm_oks_c.mpr ⟨rfl, ho⟩))
    · cases hq
  | ldc2_w i =>
    cases pm_ln hl
    have hLi := hL i
    simp only [pm_hp] at hq
    split at hq
    · rename_i ht
      cases hq
      simp only [pm_okL, ht] at hLi
      exact lv_ldc2 hx hb hown (hts _ hLi) hdg (k0 rfl rfl rfl rfl (pm_oks_c.mpr ⟨rfl, ho⟩))
    · cases hq
  | iaload =>
    cases pm_ln hl
    obtain ⟨st1, h1, h2⟩ := Option.map_eq_some_iff.mp hq
    cases h2
    refine pm_iald_W hx hb hK ha hP hS hKs.2.2.2.1 hdg h1 (k0 rfl rfl rfl rfl ?_)
    obtain ⟨i, b, r, rfl, ⟨ty, ln, -, -, -, rfl⟩ | ⟨ty, ln, f, b', rfl, -, -, -, rfl⟩⟩ := pm_aldI_inv h1 <;> exact pm_oks_c.mpr ⟨rfl, (pm_oks_c.mp (pm_oks_c.mp ho).2).2⟩
  | baload =>
    cases pm_ln hl
    obtain ⟨st1, h1, h2⟩ := Option.map_eq_some_iff.mp hq
    cases h2
    refine pm_bald_W hx hb hK ha hP hS hKs.2.2.2.1 hdg h1 (k0 rfl rfl rfl rfl ?_)
    obtain ⟨i, b, r, rfl, ⟨ty, ln, -, -, -, rfl⟩ | ⟨ty, ln, f, b', rfl, -, -, -, rfl⟩⟩ := pm_aldI_inv h1 <;> exact pm_oks_c.mpr ⟨rfl, (pm_oks_c.mp (pm_oks_c.mp ho).2).2⟩
  | laload =>
    cases pm_ln hl
    obtain ⟨st1, h1, h2⟩ := Option.map_eq_some_iff.mp hq
    cases h2
    refine pm_lald_W hx hb hK ha hP hdg h1 (k0 rfl rfl rfl rfl ?_)
    obtain ⟨i, b, ln, r, rfl, -, -, rfl⟩ := pm_aldL_inv h1
    exact pm_oks_c.mpr ⟨rfl, (pm_oks_c.mp (pm_oks_c.mp ho).2).2⟩
  | aaload =>
    cases pm_ln hl
    obtain ⟨st1, h1, h2⟩ := Option.map_eq_some_iff.mp hq
    cases h2
    refine pm_aald_W hx hb hK ha hP hdg h1 (k0 rfl rfl rfl rfl ?_)
    obtain ⟨i, b, ln, C, r, rfl, -, -, rfl⟩ := pm_aldR_inv h1
    refine pm_oks_c.mpr ⟨?_, (pm_oks_c.mp (pm_oks_c.mp ho).2).2⟩
    cases hr : h.2.2.2 b i.toNatClampNeg with
    | none => rfl
    | some r => exact hc.1 _ _ r hr
  | arraylength =>
    cases pm_ln hl
    obtain ⟨st1, h1, h2⟩ := Option.map_eq_some_iff.mp hq
    cases h2
    refine pm_alen_W hx hb hK ha hP hS hKs.2.2.2.1 hdg h1 (k0 rfl rfl rfl rfl ?_)
    obtain ⟨b, r, rfl, ⟨ty, ln, -, rfl⟩ | ⟨ty, ln, f, b', rfl, -, rfl⟩⟩ := pm_alen_inv h1 <;> exact pm_oks_c.mpr ⟨rfl, (pm_oks_c.mp ho).2⟩
  | iastore =>
    cases pm_ln hl
    obtain ⟨h1, e1, e2, e3⟩ := pm_sh_inv hq
    subst e3
    refine pm_iast_W hx hb hK ha hP hD hS hdg h1 ?_
    obtain ⟨x, i, b, ln, ty, rfl, -, -, -, rfl⟩ := pm_astI_inv h1
    exact k1 e1 e2 hc.setI rfl (pm_oks_c.mp (pm_oks_c.mp (pm_oks_c.mp ho).2).2).2
  | bastore =>
    cases pm_ln hl
    obtain ⟨h1, e1, e2, e3⟩ := pm_sh_inv hq
    subst e3
    refine pm_bast_W hx hb hK ha hP hD hS hdg h1 ?_
    obtain ⟨x, i, b, ln, ty, rfl, -, -, -, rfl⟩ := pm_astI_inv h1
    exact k1 e1 e2 hc.setI rfl (pm_oks_c.mp (pm_oks_c.mp (pm_oks_c.mp ho).2).2).2
  | lastore =>
    cases pm_ln hl
    obtain ⟨h1, e1, e2, e3⟩ := pm_sh_inv hq
    subst e3
    refine pm_last_W hx hb hK ha hP hD hS hdg h1 ?_
    obtain ⟨x, i, b, ln, rfl, -, -, rfl⟩ := pm_astL_inv h1
    exact k1 e1 e2 hc.setL rfl (pm_oks_c.mp (pm_oks_c.mp (pm_oks_c.mp ho).2).2).2
  | aastore =>
    cases pm_ln hl
    obtain ⟨h1, e1, e2, e3⟩ := pm_sh_inv hq
    subst e3
    refine pm_aast_W hx hb hK ha hP hD hS hdg h1 ?_
    obtain ⟨x, b, ci, ln, i, C, rfl, -, -, -, -, rfl⟩ := pm_astR_inv h1
    exact k1 e1 e2 (hc.setR (fun r hr => by cases hr; exact (pm_oks_c.mp ho).1)) rfl (pm_oks_c.mp (pm_oks_c.mp (pm_oks_c.mp ho).2).2).2
  | new i =>
    cases pm_ln hl
    have hLi := hL i
    simp only [pm_hp] at hq
    split at hq
    · rename_i ht
      have hLi : ∀ C T N, cl[(lk i).2.1]? = some (C, T, N) → Cond.classLink mi.cls i C ∈ Tg := by
        rcases ht with ht | ht
        · simp only [pm_okL, ht] at hLi; exact hLi
        · simp only [pm_okL, ht] at hLi; exact hLi.1
      unfold pm_new at hq
      split at hq
      · rename_i hcd
        obtain ⟨c1, c2, c3, c4⟩ := hcd
        cases hq
        refine pm_new_W hx hb hown hts hC hLi hK ha hc hP hD hS hA ho c4 c3 (by omega) (by omega) hdg (fun ad' ca' H1 g1 g2 g3 g4 g5 => ?_)
        exact k ad' ca' H1 locs _ _ g1 g2 (hc.mk c3) (by rw [pm_mk_len]; omega) g3 g4 g5 (pm_oks_c.mpr ⟨by simp [pm_ok, pm_okr, pm_mk_len], by rw [pm_mk_len]; exact pm_oks_mono (Nat.le_succ _) ho⟩) (by omega) (by omega)
      · cases hq
    · cases hq
  | newarray t =>
    cases pm_ln hl
    simp only [pm_hp] at hq
    split at hq
    · rename_i ht
      obtain ⟨n, h1, c1, c2, rfl, rfl, rfl⟩ := pm_arr_inv hq
      refine pm_newa_W hx hb ht ?_ hK ha hc hP hD hS hA ho (by omega) (by omega) hdg h1 (fun ad' ca' H1 g1 g2 g3 g4 g5 => ?_)
      · obtain ⟨a1, a2, a3, a4⟩ := hAr
        rcases ht with rfl | rfl | rfl | rfl
        · exact hts _ a1
        · exact hts _ a2
        · exact hts _ a3
        · exact hts _ a4
      · obtain ⟨x, r, rfl, -, -, -, c3, rfl, rfl⟩ := pm_newa_inv h1
        exact k ad' ca' H1 locs _ _ g1 g2 (hc.mk c3) (by rw [pm_mk_len]; omega) g3 g4 g5 (pm_oks_c.mpr ⟨by simp [pm_ok, pm_okr, pm_mk_len], by rw [pm_mk_len]; exact pm_oks_mono (Nat.le_succ _) (pm_oks_c.mp ho).2⟩) (by omega) (by omega)
    · cases hq
  | anewarray i =>
    cases pm_ln hl
    have hLi := hL i
    simp only [pm_hp] at hq
    split at hq
    · rename_i ht
      simp only [pm_okL, ht] at hLi
      obtain ⟨n, h1, c1, c2, rfl, rfl, rfl⟩ := pm_arr_inv hq
      refine pm_newq_W hx hb hown (hts _ hLi.2.1) (hKs.2.2.1 _ hLi.2.2) hK ha hc hP hD hS hA ho (by omega) (by omega) hdg h1 (fun ad' ca' H1 g1 g2 g3 g4 g5 => ?_)
      obtain ⟨x, r, rfl, -, -, -, c3, rfl, rfl⟩ := pm_newa_inv h1
      exact k ad' ca' H1 locs _ _ g1 g2 (hc.mk c3) (by rw [pm_mk_len]; omega) g3 g4 g5 (pm_oks_c.mpr ⟨by simp [pm_ok, pm_okr, pm_mk_len], by rw [pm_mk_len]; exact pm_oks_mono (Nat.le_succ _) (pm_oks_c.mp ho).2⟩) (by omega) (by omega)
    · cases hq
  | invokespecial i =>
    cases pm_ln hl
    have hLi := hL i
    simp only [pm_hp] at hq
    split at hq
    · rename_i ht
      simp only [pm_okL, ht] at hLi
      obtain ⟨st1, h1, h2⟩ := Option.map_eq_some_iff.mp hq
      cases h2
      obtain ⟨b, rfl, c1, c2⟩ := pm_oI_inv h1
      refine W.objInit hx hb hown (hts _ hLi.1) (hts _ hLi.2.1) (hts _ hLi.2.2) rfl hml.symm rfl hdg (by omega) ?_ ?_
      · show 2 * 0 + (((st'.map (pm_cv ad)).map fun v => v.category).sum) + 12 ≤ R.locals
        rw [pm_sum_cv]; omega
      · exact k0 rfl rfl rfl rfl (pm_oks_c.mp ho).2
    · cases hq
  | invokestatic i =>
    cases pm_ln hl
    have hLi := hL i
    simp only [pm_hp] at hq
    split at hq
    · rename_i ht
      simp only [pm_okL, ht.1] at hLi
      obtain ⟨h1, e1, e2, e3⟩ := pm_sh_inv hq
      subst e3
      refine pm_copy_W hx hb hml hown (hts _ hLi.1) (hts _ hLi.2.1) (hts _ hLi.2.2.1) (hts _ hLi.2.2.2) hK ha hP hD hS (by omega) (by omega) hdg h1 ?_
      obtain ⟨n, dp, sp, a, b, la, lb, rfl, -, -, -, -, -, -, -, -, rfl⟩ := pm_copy_inv h1
      exact k1 e1 e2 hc rfl (pm_oks_c.mp (pm_oks_c.mp (pm_oks_c.mp (pm_oks_c.mp (pm_oks_c.mp ho).2).2).2).2).2
    · split at hq
      · rename_i ht
        obtain ⟨st1, h1, h2⟩ := Option.map_eq_some_iff.mp hq
        cases h2
        obtain ⟨x, y, r, rfl, c2, rfl⟩ := pm_mm_inv h1
        have c3 : ((r.map (pm_cv ad)).map fun v => v.category).sum + 13 ≤ R.locals := by rw [pm_sum_cv]; omega
        have k9 := k0 rfl rfl rfl rfl (pm_oks_c.mpr ⟨rfl, (pm_oks_c.mp (pm_oks_c.mp ho).2).2⟩)
        rcases ht with ⟨ht | ht, c1⟩
        · rw [if_pos ht] at k9
          simp only [pm_okL, ht] at hLi
          exact va_mmax hx hb hml hown (hts _ hLi.1) (hts _ hLi.2.1) (hts _ hLi.2.2.1) (hts _ hLi.2.2.2) (by omega) c3 (by omega) (by omega) hdg k9
        · rw [if_neg (by omega)] at k9
          simp only [pm_okL, ht] at hLi
          exact va_mmin hx hb hml hown (hts _ hLi.1) (hts _ hLi.2.1) (hts _ hLi.2.2.1) (hts _ hLi.2.2.2) (by omega) c3 (by omega) (by omega) hdg k9
      · cases hq
  | _ => cases hq
end PMH
