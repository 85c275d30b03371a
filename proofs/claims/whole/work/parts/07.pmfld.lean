/-! The pure machine, part 7: the heap in the real one; fields. -/
abbrev pm_dc : vw_C := ("", fun _ => ("", "", "", false), 0)
/-- what the tables must say of the classes -/
def pm_okC (Tg : List Cond) (cl : List vw_C) (ft : Nat → Nat → FieldType) : Prop := ∀ (ci : Nat) (C : String) (T : u_T) (N : Nat), cl[ci]? = some (C, T, N) → (∀ w ∈ u_ws C T N, w ∈ Tg) ∧ (∀ k, k < N → parseFieldDescriptor (T k).2.2.1 = some (ft ci k)) ∧ (∀ a, a < N → ∀ b, b < N → a ≠ b → (T a).2.1 ≠ (T b).2.1) ∧ Cond.instantiable C N ∈ Tg ∧ Cond.initialized C ∈ Tg ∧ (∀ k, k < N → defaultValue (ft ci k) = if ft ci k = .long then .long 0 else if pm_isR (ft ci k) = true then .null else .int 0)
/-- the rows' classes, the references -/
def pm_Ha (U : State) (ca : Nat → ClassId) (h : pm_H) : Prop := ∀ (k : Nat) (ty : FieldType) (len : Nat), h.1[k]? = some (.inl (ty, len)) → ArrOfT U (ca k) ty ∧ va_RA U (ca k) ty
def pm_Hc (h : pm_H) : Prop := (∀ (k j r : Nat), h.2.2.2 k j = some r → pm_okr h.1.length r = true) ∧ h.1.length ≤ pm_B
theorem pm_Hc.setI {h : pm_H} {a k : Nat} {v : Int32} (q : pm_Hc h) : pm_Hc (pm_setI h a k v) := q
theorem pm_Hc.setL {h : pm_H} {a k : Nat} {v : Int64} (q : pm_Hc h) : pm_Hc (pm_setL h a k v) := q
theorem pm_Hc.setR {h : pm_H} {a k : Nat} {v : Option Nat} (q : pm_Hc h) (hv : ∀ r, v = some r → pm_okr h.1.length r = true) : pm_Hc (pm_setR h a k v) := by
  refine ⟨fun b j r hr => ?_, q.2⟩
  simp only [pm_setR, pm_up] at hr
  split at hr
  · split at hr
    · exact hv r hr
    · exact q.1 b j r hr
  · exact q.1 b j r hr
theorem pm_cl_get {cl : List vw_C} {ci : Nat} {C : String} {T : u_T} {N : Nat} (h : cl[ci]? = some (C, T, N)) : cl.getD ci pm_dc = (C, T, N) := by
  rw [List.getD_eq_getElem?_getD, h]; rfl
theorem pm_cl_lt {cl : List vw_C} {ci j : Nat} (h : j < (cl.getD ci pm_dc).2.2) : ∃ C T N, cl[ci]? = some (C, T, N) := by
  cases hc : cl[ci]? with
  | none => rw [List.getD_eq_getElem?_getD, hc] at h; exact absurd h (Nat.not_lt_zero _)
  | some q => exact ⟨q.1, q.2.1, q.2.2, rfl⟩
theorem pm_fs_get {N j : Nat} {f : Nat → Value} (h : j < N) : ((List.range N).map f)[j]? = some (f j) := by simp [h]
theorem pm_fs_set {N j : Nat} {f g : Nat → Value} {v : Value} (hg : ∀ i, g i = if i = j then v else f i) : ((List.range N).map f).set j v = (List.range N).map g := by
  apply List.ext_getElem?
  intro i
  by_cases e : i = j
  · subst e
    by_cases hl : i < N
    · rw [List.getElem?_set_self (by simpa using hl), pm_fs_get hl, hg i, if_pos rfl]
    · rw [List.getElem?_eq_none (by simpa using hl), List.getElem?_eq_none (by simpa using hl)]
  · rw [List.getElem?_set_ne (Ne.symm e)]
    by_cases hl : i < N
    · rw [pm_fs_get hl, pm_fs_get hl, hg i, if_neg e]
    · rw [List.getElem?_eq_none (by simpa using hl), List.getElem?_eq_none (by simpa using hl)]
theorem pm_fg_cv (ad : Nat → Nat) (h : pm_H) (ty : FieldType) (k j : Nat) : pm_cv ad (pm_fg h ty k j) = pm_fv ad h ty k j := by
  unfold pm_fg pm_fv
  split
  · rfl
  · split
    · exact pm_cv_rf ad _
    · rfl
theorem pm_fg_ok {h : pm_H} (hc : pm_Hc h) (ty : FieldType) (k j : Nat) : pm_ok h.1.length (pm_fg h ty k j) = true := by
  unfold pm_fg
  split
  · rfl
  · split
    · cases hr : h.2.2.2 k j with
      | none => rfl
      | some r => exact hc.1 k j r hr
    · rfl
theorem pm_get_inv {cl : List vw_C} {ft : Nat → Nat → FieldType} {h : pm_H} {ci j : Nat} {st st' : List Value} (q : pm_get cl ft h ci j st = some st') : ∃ k r, st = .ref k :: r ∧ h.1[k]? = some (.inr ci) ∧ j < (cl.getD ci pm_dc).2.2 ∧ st' = pm_fg h (ft ci j) k j :: r := by
  unfold pm_get at q; split at q
  · split at q
    · rename_i hc; cases q; exact ⟨_, _, rfl, hc.1, hc.2, rfl⟩
    · cases q
  · cases q
theorem pm_ob_set {cl : List vw_C} {ft : Nat → Nat → FieldType} {ad : Nat → Nat} {ca : Nat → ClassId} {h h' : pm_H} {k ci j N : Nat} {C : String} {T : u_T} {v : Value} (hk : h.1[k]? = some (.inr ci)) (hs : h'.1 = h.1) (hc : cl[ci]? = some (C, T, N)) (hv : ∀ i, pm_fv ad h' (ft ci i) k i = if i = j then v else pm_fv ad h (ft ci i) k i)
    (h1 : ∀ b, b ≠ k → h'.2.1 b = h.2.1 b) (h2 : ∀ b, b ≠ k → h'.2.2.1 b = h.2.2.1 b) (h3 : ∀ b, b ≠ k → h'.2.2.2 b = h.2.2.2 b) :
    (pm_ws cl ft ad ca h).set k (ad k, .inr (ci, ((List.range N).map (fun i => pm_fv ad h (ft ci i) k i)).set j v)) = pm_ws cl ft ad ca h' := by
  refine pm_ws_set hk hs ?_ (fun b sb _ hb => pm_cell_congr (h1 b hb) (h2 b hb) (h3 b hb))
  show Sum.inr (ci, _) = Sum.inr (ci, _)
  rw [pm_cl_get hc, pm_fs_set hv]
theorem pm_ob_get {cl : List vw_C} {ft : Nat → Nat → FieldType} {ad : Nat → Nat} {ca : Nat → ClassId} {h : pm_H} {k ci N : Nat} {C : String} {T : u_T} (hk : h.1[k]? = some (.inr ci)) (hc : cl[ci]? = some (C, T, N)) : (pm_ws cl ft ad ca h)[k]? = some (ad k, .inr (ci, (List.range N).map (fun i => pm_fv ad h (ft ci i) k i))) := by
  rw [pm_ws_get hk]
  show some (ad k, Sum.inr (ci, _)) = _
  rw [pm_cl_get hc]
section PMF
variable {p : Program} {l : Launch} {e : Env} {R : Room} {s : State} {m : MethodId} {args : Array Value} {below : List Frame} {meth : Method} {c : Code} {H : Heap} {locs : List Loc} {cells slots : Nat} {Q : State → Prop}
variable {cc : ByteArray} {pc nL : Nat} {lsC : Array Slot} {ls st : List Value} {ad : Nat → Nat} {ca : Nat → ClassId} {ins : Instr} {len n : Nat} {D : va_G} {cl : List vw_C} {ft : Nat → Nat → FieldType} {A : Nat → Prop} {h : pm_H} {Tg : List Cond} {own : String}
theorem pm_get_W {i ci j : Nat} {st' : List Value} (hx : p.tables.exec = Jvm.exec) (hb : c.code = cc) (hown : s.vm.findClass own = some m.cls) (hts : ∀ w ∈ Tg, w.before args s = true) (hC : pm_okC Tg cl ft) (hdg : decode cc pc = .ok (.getfield i, 3))
    (hl : ∀ C T N, cl[ci]? = some (C, T, N) → j < N → Cond.fieldLink own i (T j).1 (T j).2.1 (T j).2.2.1 ∈ Tg) (hK : va_K D cl [] s) (hP : va_P D cl (pm_ws cl ft ad ca h) H) (q : pm_get cl ft h ci j st = some st')
    (k : W p l e R s m args below meth c H locs cells slots Q (F0 m (pc + 3) lsC (st'.map (pm_cv ad)))) : W p l e R s m args below meth c H locs cells slots Q (F0 m pc lsC (st.map (pm_cv ad))) := by
  obtain ⟨b, r, rfl, hk, hj, rfl⟩ := pm_get_inv q
  obtain ⟨C, T, N, hc⟩ := pm_cl_lt hj
  rw [pm_cl_get hc] at hj
  obtain ⟨w1, w2, w3, -⟩ := hC ci C T N hc
  refine va_get (D := D) (ci := ci) (C := C) (T := T) (N := N) (v := pm_fv ad h (ft ci j) b j) hx hb hts w1 hown hK hP b (pm_ob_get hk hc) hc j hj (hts _ (hl C T N hc hj)) (fun _ h9 => h9) (pm_fs_get hj) hdg ?_
  rw [← pm_fg_cv]
  exact k
/-- a write into an object, whatever is written -/
theorem pm_putV {i ci j b : Nat} {v : Value} {r : List Value} {h' : pm_H} {mi : MethodName} (hx : p.tables.exec = Jvm.exec) (hb : c.code = cc) (hown : s.vm.findClass mi.cls = some m.cls) (hnm : meth.name = mi.name) (hts : ∀ w ∈ Tg, w.before args s = true) (hC : pm_okC Tg cl ft) (hdg : decode cc pc = .ok (.putfield i, 3))
    (hl : ∀ C T N, cl[ci]? = some (C, T, N) → j < N → Cond.fieldLink mi.cls i (T j).1 (T j).2.1 (T j).2.2.1 ∈ Tg) (hK : va_K D cl [] s) (hP : va_P D cl (pm_ws cl ft ad ca h) H) (hD : va_D A (pm_ws cl ft ad ca h)) (hS : va_S A s.heap H locs)
    (hk : h.1[b]? = some (.inr ci)) (hj : j < (cl.getD ci pm_dc).2.2) (hf : pm_fin cl mi ci j = true) (hn : narrow (ft ci j) v = v) (hfit : fits (ft ci j) v = true) (hs : h'.1 = h.1) (hv : ∀ i, pm_fv ad h' (ft ci i) b i = if i = j then v else pm_fv ad h (ft ci i) b i)
    (h1 : ∀ d, d ≠ b → h'.2.1 d = h.2.1 d) (h2 : ∀ d, d ≠ b → h'.2.2.1 d = h.2.2.1 d) (h3 : ∀ d, d ≠ b → h'.2.2.2 d = h.2.2.2 d)
    (k : ∀ (H1 : Heap) (locs1 : List Loc), va_P D cl (pm_ws cl ft ad ca h') H1 → va_D A (pm_ws cl ft ad ca h') → va_S A s.heap H1 locs1 → W p l e R s m args below meth c H1 locs1 cells slots Q (F0 m (pc + 3) lsC r)) : W p l e R s m args below meth c H locs cells slots Q (F0 m pc lsC (v :: .ref (ad b) :: r)) := by
  obtain ⟨C, T, N, hc⟩ := pm_cl_lt hj
  rw [pm_cl_get hc] at hj
  obtain ⟨w1, w2, w3, -⟩ := hC ci C T N hc
  have he := pm_ob_set (ca := ca) hk hs hc hv h1 h2 h3
  unfold pm_fin at hf
  rw [show cl.getD ci ("", fun _ => ("", "", "", false), 0) = (C, T, N) from pm_cl_get hc] at hf
  simp only [Bool.or_eq_true, Bool.not_eq_true', Bool.and_eq_true, decide_eq_true_eq] at hf
  rcases hf with hf | ⟨hf1, hf2⟩
  · refine va_put (D := D) (ci := ci) (C := C) (T := T) (N := N) (ty := ft ci j) hx hb hts w1 (ft ci) w2 w3 hown hK hP hD hS b (pm_ob_get hk hc) hc j hj (hts _ (hl C T N hc hj)) (fun _ h9 => h9) hf (w2 j hj) hn hfit (by simpa using hj) hdg (fun H1 locs1 g1 g2 g3 => ?_)
    rw [he] at g1 g2
    exact k H1 locs1 g1 g2 g3
  · cases hfl : (T j).2.2.2 with
    | false =>
      refine va_put (D := D) (ci := ci) (C := C) (T := T) (N := N) (ty := ft ci j) hx hb hts w1 (ft ci) w2 w3 hown hK hP hD hS b (pm_ob_get hk hc) hc j hj (hts _ (hl C T N hc hj)) (fun _ h9 => h9) hfl (w2 j hj) hn hfit (by simpa using hj) hdg (fun H1 locs1 g1 g2 g3 => ?_)
      rw [he] at g1 g2
      exact k H1 locs1 g1 g2 g3
    | true =>
      refine va_putF (D := D) (ci := ci) (C := C) (T := T) (N := N) (ty := ft ci j) hx hb hts w1 (ft ci) w2 w3 hown hK hP hD hS b (pm_ob_get hk hc) hc j hj (hts _ (hl C T N hc hj)) (fun _ h9 => h9) hfl (hnm.trans hf1) hf2 (w2 j hj) hn hfit (by simpa using hj) hdg (fun H1 locs1 g1 g2 g3 => ?_)
      rw [he] at g1 g2
      exact k H1 locs1 g1 g2 g3
theorem pm_put_W {i ci j : Nat} {st' : List Value} {h' : pm_H} {mi : MethodName} (hx : p.tables.exec = Jvm.exec) (hb : c.code = cc) (hown : s.vm.findClass mi.cls = some m.cls) (hnm : meth.name = mi.name) (hts : ∀ w ∈ Tg, w.before args s = true) (hC : pm_okC Tg cl ft) (hdg : decode cc pc = .ok (.putfield i, 3))
    (hl : ∀ C T N, cl[ci]? = some (C, T, N) → j < N → Cond.fieldLink mi.cls i (T j).1 (T j).2.1 (T j).2.2.1 ∈ Tg) (hK : va_K D cl [] s) (hP : va_P D cl (pm_ws cl ft ad ca h) H) (hD : va_D A (pm_ws cl ft ad ca h)) (hS : va_S A s.heap H locs) (q : pm_put cl ft mi h ci j st = some (st', h'))
    (k : ∀ (H1 : Heap) (locs1 : List Loc), va_P D cl (pm_ws cl ft ad ca h') H1 → va_D A (pm_ws cl ft ad ca h') → va_S A s.heap H1 locs1 → W p l e R s m args below meth c H1 locs1 cells slots Q (F0 m (pc + 3) lsC (st'.map (pm_cv ad)))) : W p l e R s m args below meth c H locs cells slots Q (F0 m pc lsC (st.map (pm_cv ad))) := by
  unfold pm_put at q; split at q
  · split at q
    · rename_i x b r hq
      obtain ⟨⟨hk, hj⟩, hf, hn, hfit⟩ := hq
      cases q
      have t1 : ¬ ft ci j = .long := fun z => by rw [z] at hfit; cases hfit
      have t2 : ¬ pm_isR (ft ci j) = true := fun z => by cases hz : ft ci j <;> simp [hz, fits, pm_isR] at hfit z
      refine pm_putV (v := .int x) (h' := pm_setI h b j x) hx hb hown hnm hts hC hdg hl hK hP hD hS hk hj hf hn hfit rfl (fun i => ?_) (fun d hd => pm_up_ne hd) (fun d _ => rfl) (fun d _ => rfl) k
      by_cases e : i = j
      · subst e; simp [pm_fv, t1, t2, pm_setI, pm_up]
      · simp [pm_fv, pm_setI, pm_up, e]
    · cases q
  · split at q
    · rename_i x b r hq
      obtain ⟨⟨hk, hj⟩, hf, ht⟩ := hq
      cases q
      refine pm_putV (v := .long x) (h' := pm_setL h b j x) hx hb hown hnm hts hC hdg hl hK hP hD hS hk hj hf (by rw [ht]; rfl) (by rw [ht]; rfl) rfl (fun i => ?_) (fun d _ => rfl) (fun d hd => pm_up_ne hd) (fun d _ => rfl) k
      by_cases e : i = j
      · subst e; simp [pm_fv, ht, pm_setL, pm_up]
      · simp [pm_fv, pm_setL, pm_up, e]
    · cases q
  · split at q
    · rename_i x b r hq
      obtain ⟨⟨hk, hj⟩, hf, ht⟩ := hq
      cases q
      have t1 : ¬ ft ci j = .long := fun z => by rw [z] at ht; cases ht
      refine pm_putV (v := .ref (ad x)) (h' := pm_setR h b j (some x)) hx hb hown hnm hts hC hdg hl hK hP hD hS hk hj hf (by cases hz : ft ci j <;> simp [hz, pm_isR] at ht <;> rfl) (by cases hz : ft ci j <;> simp [hz, pm_isR] at ht <;> rfl) rfl (fun i => ?_) (fun d _ => rfl) (fun d _ => rfl) (fun d hd => pm_up_ne hd) k
      by_cases e : i = j
      · subst e; simp [pm_fv, t1, ht, pm_setR, pm_up, va_rf]
      · simp [pm_fv, pm_setR, pm_up, e]
    · cases q
  · split at q
    · rename_i b r hq
      obtain ⟨⟨hk, hj⟩, hf, ht⟩ := hq
      cases q
      have t1 : ¬ ft ci j = .long := fun z => by rw [z] at ht; cases ht
      refine pm_putV (v := .null) (h' := pm_setR h b j none) hx hb hown hnm hts hC hdg hl hK hP hD hS hk hj hf (by cases hz : ft ci j <;> simp [hz, pm_isR] at ht <;> rfl) (by cases hz : ft ci j <;> simp [hz, pm_isR] at ht <;> rfl) rfl (fun i => ?_) (fun d _ => rfl) (fun d _ => rfl) (fun d hd => pm_up_ne hd) k
      by_cases e : i = j
      · subst e; simp [pm_fv, t1, ht, pm_setR, pm_up, va_rf]
      · simp [pm_fv, pm_setR, pm_up, e]
    · cases q
  · cases q
end PMF
theorem pm_put_ok {cl : List vw_C} {ft : Nat → Nat → FieldType} {mi : MethodName} {h h' : pm_H} {ci j : Nat} {st st' : List Value} (q : pm_put cl ft mi h ci j st = some (st', h')) (hc : pm_Hc h) (ho : pm_oks h.1.length st) : pm_Hc h' ∧ h'.1 = h.1 ∧ pm_oks h.1.length st' := by
  unfold pm_put at q; split at q
  · split at q
    · cases q; exact ⟨hc.setI, rfl, (pm_oks_c.mp (pm_oks_c.mp ho).2).2⟩
    · cases q
  · split at q
    · cases q; exact ⟨hc.setL, rfl, (pm_oks_c.mp (pm_oks_c.mp ho).2).2⟩
    · cases q
  · split at q
    · cases q; exact ⟨hc.setR (fun r hr => by cases hr; exact (pm_oks_c.mp ho).1), rfl, (pm_oks_c.mp (pm_oks_c.mp ho).2).2⟩
    · cases q
  · split at q
    · cases q; exact ⟨hc.setR (fun r hr => by cases hr), rfl, (pm_oks_c.mp (pm_oks_c.mp ho).2).2⟩
    · cases q
  · cases q
