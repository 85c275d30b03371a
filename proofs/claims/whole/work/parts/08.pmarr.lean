/-! The pure machine, part 8: rows (arrays) in the real one. -/
theorem pm_ar_get {cl : List vw_C} {ft : Nat → Nat → FieldType} {ad : Nat → Nat} {ca : Nat → ClassId} {h : pm_H} {k len : Nat} {ty : FieldType} (hk : h.1[k]? = some (.inl (ty, len))) : (pm_ws cl ft ad ca h)[k]? = some (ad k, .inl (ca k, len, pm_cont ad h ty k)) := pm_ws_get hk
theorem pm_cont_i {ad : Nat → Nat} {h : pm_H} {ty : FieldType} {k : Nat} (h1 : ¬ ty = .long) (h2 : ¬ pm_isR ty = true) : pm_cont ad h ty k = .inl (h.2.1 k) := by simp [pm_cont, h1, h2]
theorem pm_ar_set {cl : List vw_C} {ft : Nat → Nat → FieldType} {ad : Nat → Nat} {ca : Nat → ClassId} {h h' : pm_H} {k len : Nat} {ty : FieldType} {ct : (Nat → Int32) ⊕ (Nat → Int64) ⊕ (Nat → UInt32) ⊕ (Nat → UInt64) ⊕ (Nat → Option Nat)} (hk : h.1[k]? = some (.inl (ty, len))) (hs : h'.1 = h.1) (hv : ct = pm_cont ad h' ty k)
    (h1 : ∀ b, b ≠ k → h'.2.1 b = h.2.1 b) (h2 : ∀ b, b ≠ k → h'.2.2.1 b = h.2.2.1 b) (h3 : ∀ b, b ≠ k → h'.2.2.2 b = h.2.2.2 b) :
    (pm_ws cl ft ad ca h).set k (ad k, .inl (ca k, len, ct)) = pm_ws cl ft ad ca h' := by
  refine pm_ws_set hk hs ?_ (fun b sb _ hb => pm_cell_congr (h1 b hb) (h2 b hb) (h3 b hb))
  rw [hv]; rfl
theorem pm_K1 {D : va_G} {cl : List vw_C} {s : State} {ca : Nat → ClassId} {h : pm_H} {k len : Nat} {ty : FieldType} (hK : va_K D cl [] s) (ha : pm_Ha s ca h) (hk : h.1[k]? = some (.inl (ty, len))) : va_K D cl [(ca k, ty)] s := by
  refine ⟨hK.1, fun j q hq => ?_⟩
  cases j with
  | zero => cases hq; exact ha k ty len hk
  | succ j => simp at hq
theorem pm_K2 {D : va_G} {cl : List vw_C} {s : State} {ca : Nat → ClassId} {h : pm_H} {k k2 len len2 : Nat} {ty ty2 : FieldType} (hK : va_K D cl [] s) (ha : pm_Ha s ca h) (hk : h.1[k]? = some (.inl (ty, len))) (hk2 : h.1[k2]? = some (.inl (ty2, len2))) : va_K D cl [(ca k, ty), (ca k2, ty2)] s := by
  refine ⟨hK.1, fun j q hq => ?_⟩
  match j, hq with
  | 0, hq => cases hq; exact ha k ty len hk
  | 1, hq => cases hq; exact ha k2 ty2 len2 hk2
  | j + 2, hq => simp at hq
/-- constants: rows -/
def pm_Kr (kt : pm_Kt) (ad : Nat → Nat) (A : Nat → Prop) (U : State) (H : Heap) : Prop := ∀ (i : Nat) (ty : FieldType) (len : Nat) (f : Nat → Int32), kt i = some (.inl (ty, len, f)) → va_T ty (ad (pm_B + i)) len (fun j => .int (f j)) A U H
theorem pm_aldI_inv {kt : pm_Kt} {h : pm_H} {ok : FieldType → Bool} {st st' : List Value} (q : pm_aldI kt h ok st = some st') : ∃ (i : Int32) (k : Nat) (r : List Value), st = .int i :: .ref k :: r ∧
    ((∃ ty len, h.1[k]? = some (.inl (ty, len)) ∧ ok ty = true ∧ vp_in i len ∧ st' = .int (h.2.1 k i.toNatClampNeg) :: r) ∨ ∃ ty len f b, k = pm_B + b ∧ kt b = some (.inl (ty, len, f)) ∧ ok ty = true ∧ vp_in i len ∧ st' = .int (f i.toNatClampNeg) :: r) := by
  unfold pm_aldI at q; split at q
  · rename_i i k r
    refine ⟨i, k, r, rfl, ?_⟩
    split at q
    · rename_i ty len hk
      split at q
      · rename_i hc; cases q; exact Or.inl ⟨ty, len, hk, hc.1, hc.2, rfl⟩
      · cases q
    · cases q
    · split at q
      · rename_i hB
        split at q
        · rename_i ty len f hk
          split at q
          · rename_i hc; cases q; exact Or.inr ⟨ty, len, f, k - pm_B, by omega, hk, hc.1, hc.2, rfl⟩
          · cases q
        · cases q
      · cases q
  · cases q
theorem pm_alen_inv {kt : pm_Kt} {h : pm_H} {st st' : List Value} (q : pm_alen kt h st = some st') : ∃ (k : Nat) (r : List Value), st = .ref k :: r ∧
    ((∃ ty len, h.1[k]? = some (.inl (ty, len)) ∧ st' = .int (Int32.ofNat len) :: r) ∨ ∃ ty len f b, k = pm_B + b ∧ kt b = some (.inl (ty, len, f)) ∧ st' = .int (Int32.ofNat len) :: r) := by
  unfold pm_alen at q; split at q
  · rename_i k r
    refine ⟨k, r, rfl, ?_⟩
    split at q
    · rename_i ty len hk; cases q; exact Or.inl ⟨ty, len, hk, rfl⟩
    · cases q
    · split at q
      · rename_i hB
        split at q
        · rename_i ty len f hk; cases q; exact Or.inr ⟨ty, len, f, k - pm_B, by omega, hk, rfl⟩
        · cases q
      · cases q
  · cases q
theorem pm_aldL_inv {h : pm_H} {st st' : List Value} (q : pm_aldL h st = some st') : ∃ (i : Int32) (k len : Nat) (r : List Value), st = .int i :: .ref k :: r ∧ h.1[k]? = some (.inl (.long, len)) ∧ vp_in i len ∧ st' = .long (h.2.2.1 k i.toNatClampNeg) :: r := by
  unfold pm_aldL at q; split at q
  · split at q
    · rename_i hk
      split at q
      · rename_i hc; cases q; exact ⟨_, _, _, _, rfl, hk, hc, rfl⟩
      · cases q
    · cases q
  · cases q
theorem pm_aldR_inv {h : pm_H} {st st' : List Value} (q : pm_aldR h st = some st') : ∃ (i : Int32) (k len : Nat) (C : String) (r : List Value), st = .int i :: .ref k :: r ∧ h.1[k]? = some (.inl (.object C, len)) ∧ vp_in i len ∧ st' = va_rf (h.2.2.2 k i.toNatClampNeg) :: r := by
  unfold pm_aldR at q; split at q
  · split at q
    · rename_i hk
      split at q
      · rename_i hc; cases q; exact ⟨_, _, _, _, _, rfl, hk, hc, rfl⟩
      · cases q
    · cases q
  · cases q
theorem pm_astI_inv {h h' : pm_H} {ok : FieldType → Bool} {st st' : List Value} (q : pm_astI h ok st = some (st', h')) : ∃ (x i : Int32) (k len : Nat) (ty : FieldType), st = .int x :: .int i :: .ref k :: st' ∧ h.1[k]? = some (.inl (ty, len)) ∧ ok ty = true ∧ vp_in i len ∧ h' = pm_setI h k i.toNatClampNeg (vp_nar ty x) := by
  unfold pm_astI at q; split at q
  · split at q
    · rename_i hk
      split at q
      · rename_i hc; cases q; exact ⟨_, _, _, _, _, rfl, hk, hc.1, hc.2, rfl⟩
      · cases q
    · cases q
  · cases q
theorem pm_astL_inv {h h' : pm_H} {st st' : List Value} (q : pm_astL h st = some (st', h')) : ∃ (x : Int64) (i : Int32) (k len : Nat), st = .long x :: .int i :: .ref k :: st' ∧ h.1[k]? = some (.inl (.long, len)) ∧ vp_in i len ∧ h' = pm_setL h k i.toNatClampNeg x := by
  unfold pm_astL at q; split at q
  · split at q
    · rename_i hk
      split at q
      · rename_i hc; cases q; exact ⟨_, _, _, _, rfl, hk, hc, rfl⟩
      · cases q
    · cases q
  · cases q
theorem pm_astR_inv {cl : List vw_C} {h h' : pm_H} {st st' : List Value} (q : pm_astR cl h st = some (st', h')) : ∃ (x k ci len : Nat) (i : Int32) (C : String), st = .ref x :: .int i :: .ref k :: st' ∧ h.1[k]? = some (.inl (.object C, len)) ∧ h.1[x]? = some (.inr ci) ∧ (cl[ci]?).map (fun q => q.1) = some C ∧ vp_in i len ∧ h' = pm_setR h k i.toNatClampNeg (some x) := by
  unfold pm_astR at q; split at q
  · split at q
    · rename_i hk hx
      split at q
      · rename_i hc; cases q; exact ⟨_, _, _, _, _, _, rfl, hk, hx, hc.1, hc.2, rfl⟩
      · cases q
    · cases q
  · cases q
theorem pm_copy_inv {h h' : pm_H} {st st' : List Value} (q : pm_copy h st = some (st', h')) : ∃ (n dp sp : Int32) (a b la lb : Nat), st = .int n :: .int dp :: .ref b :: .int sp :: .ref a :: st' ∧ h.1[a]? = some (.inl (.int, la)) ∧ h.1[b]? = some (.inl (.int, lb)) ∧ ¬ sp < 0 ∧ ¬ dp < 0 ∧ ¬ n < 0 ∧ sp.toNatClampNeg + n.toNatClampNeg ≤ la ∧ dp.toNatClampNeg + n.toNatClampNeg ≤ lb ∧ (st'.map fun v => v.category).sum ≤ 8 ∧ h' = pm_rowI h b (va_cpy (h.2.1 a) (h.2.1 b) sp.toNatClampNeg dp.toNatClampNeg n.toNatClampNeg) := by
  unfold pm_copy at q; split at q
  · split at q
    · rename_i ha hb
      split at q
      · rename_i hc
        obtain ⟨c1, c2, c3, c4, c5, c6⟩ := hc
        cases q; exact ⟨_, _, _, _, _, _, _, rfl, ha, hb, c1, c2, c3, c4, c5, c6, rfl⟩
      · cases q
    · cases q
  · cases q
section PMA
variable {p : Program} {l : Launch} {e : Env} {R : Room} {s : State} {m : MethodId} {args : Array Value} {below : List Frame} {meth : Method} {c : Code} {H : Heap} {locs : List Loc} {cells slots : Nat} {Q : State → Prop}
variable {cc : ByteArray} {pc nL : Nat} {lsC : Array Slot} {ls st st' : List Value} {ad : Nat → Nat} {ca : Nat → ClassId} {D : va_G} {cl : List vw_C} {ft : Nat → Nat → FieldType} {kt : pm_Kt} {A : Nat → Prop} {h h' : pm_H} {Tg : List Cond} {own : String}
theorem pm_iald_W (hx : p.tables.exec = Jvm.exec) (hb : c.code = cc) (hK : va_K D cl [] s) (ha : pm_Ha s ca h) (hP : va_P D cl (pm_ws cl ft ad ca h) H) (hS : va_S A s.heap H locs) (hr : pm_Kr kt ad A s s.heap) (hdg : decode cc pc = .ok (.iaload, 1)) (q : pm_aldI kt h (fun t => decide (t = .int)) st = some st')
    (k : W p l e R s m args below meth c H locs cells slots Q (F0 m (pc + 1) lsC (st'.map (pm_cv ad)))) : W p l e R s m args below meth c H locs cells slots Q (F0 m pc lsC (st.map (pm_cv ad))) := by
  obtain ⟨i, b, r, rfl, ⟨ty, len, hk, ht, hin, rfl⟩ | ⟨ty, len, f, b', rfl, hk, ht, hin, rfl⟩⟩ := pm_aldI_inv q
  · have ht : ty = .int := by simpa using ht
    subst ht
    exact va_iald hx hb (pm_K1 hK ha hk) hP b 0 (pm_ar_get hk) rfl hin hdg k
  · have ht : ty = .int := by simpa using ht
    subst ht
    exact va_ti hx hb (hr b' _ _ _ hk) hS hin rfl hdg k
theorem pm_bald_W (hx : p.tables.exec = Jvm.exec) (hb : c.code = cc) (hK : va_K D cl [] s) (ha : pm_Ha s ca h) (hP : va_P D cl (pm_ws cl ft ad ca h) H) (hS : va_S A s.heap H locs) (hr : pm_Kr kt ad A s s.heap) (hdg : decode cc pc = .ok (.baload, 1)) (q : pm_aldI kt h (fun t => decide (t = .byte) || decide (t = .boolean)) st = some st')
    (k : W p l e R s m args below meth c H locs cells slots Q (F0 m (pc + 1) lsC (st'.map (pm_cv ad)))) : W p l e R s m args below meth c H locs cells slots Q (F0 m pc lsC (st.map (pm_cv ad))) := by
  obtain ⟨i, b, r, rfl, ⟨ty, len, hk, ht, hin, rfl⟩ | ⟨ty, len, f, b', rfl, hk, ht, hin, rfl⟩⟩ := pm_aldI_inv q
  · have ht : ty = .byte ∨ ty = .boolean := by simpa using ht
    rcases ht with rfl | rfl
    · exact va_bald hx hb (pm_K1 hK ha hk) hP b 0 (pm_ar_get hk) rfl hin hdg k
    · exact va_zald hx hb (pm_K1 hK ha hk) hP b 0 (pm_ar_get hk) rfl hin hdg k
  · have ht : ty = .byte ∨ ty = .boolean := by simpa using ht
    rcases ht with rfl | rfl
    · exact va_tb hx hb (hr b' _ _ _ hk) hS hin rfl hdg k
    · exact va_tz hx hb (hr b' _ _ _ hk) hS hin rfl hdg k
theorem pm_lald_W (hx : p.tables.exec = Jvm.exec) (hb : c.code = cc) (hK : va_K D cl [] s) (ha : pm_Ha s ca h) (hP : va_P D cl (pm_ws cl ft ad ca h) H) (hdg : decode cc pc = .ok (.laload, 1)) (q : pm_aldL h st = some st')
    (k : W p l e R s m args below meth c H locs cells slots Q (F0 m (pc + 1) lsC (st'.map (pm_cv ad)))) : W p l e R s m args below meth c H locs cells slots Q (F0 m pc lsC (st.map (pm_cv ad))) := by
  obtain ⟨i, b, len, r, rfl, hk, hin, rfl⟩ := pm_aldL_inv q
  exact va_lald hx hb (pm_K1 hK ha hk) hP b 0 (pm_ar_get hk) rfl hin hdg k
theorem pm_aald_W (hx : p.tables.exec = Jvm.exec) (hb : c.code = cc) (hK : va_K D cl [] s) (ha : pm_Ha s ca h) (hP : va_P D cl (pm_ws cl ft ad ca h) H) (hdg : decode cc pc = .ok (.aaload, 1)) (q : pm_aldR h st = some st')
    (k : W p l e R s m args below meth c H locs cells slots Q (F0 m (pc + 1) lsC (st'.map (pm_cv ad)))) : W p l e R s m args below meth c H locs cells slots Q (F0 m pc lsC (st.map (pm_cv ad))) := by
  obtain ⟨i, b, len, C, r, rfl, hk, hin, rfl⟩ := pm_aldR_inv q
  refine va_aldq hx hb (pm_K1 hK ha hk) hP b 0 (pm_ar_get hk) rfl hin hdg ?_
  simp only [List.map_cons, pm_cv_rf] at k
  exact k
theorem pm_alen_W (hx : p.tables.exec = Jvm.exec) (hb : c.code = cc) (hK : va_K D cl [] s) (ha : pm_Ha s ca h) (hP : va_P D cl (pm_ws cl ft ad ca h) H) (hS : va_S A s.heap H locs) (hr : pm_Kr kt ad A s s.heap) (hdg : decode cc pc = .ok (.arraylength, 1)) (q : pm_alen kt h st = some st')
    (k : W p l e R s m args below meth c H locs cells slots Q (F0 m (pc + 1) lsC (st'.map (pm_cv ad)))) : W p l e R s m args below meth c H locs cells slots Q (F0 m pc lsC (st.map (pm_cv ad))) := by
  obtain ⟨b, r, rfl, ⟨ty, len, hk, rfl⟩ | ⟨ty, len, f, b', rfl, hk, rfl⟩⟩ := pm_alen_inv q
  · exact va_alen hx hb (pm_K1 hK ha hk) hP b 0 (pm_ar_get hk) rfl rfl hdg k
  · exact va_tlen hx hb (hr b' _ _ _ hk) hS rfl hdg k
theorem pm_iast_W (hx : p.tables.exec = Jvm.exec) (hb : c.code = cc) (hK : va_K D cl [] s) (ha : pm_Ha s ca h) (hP : va_P D cl (pm_ws cl ft ad ca h) H) (hD : va_D A (pm_ws cl ft ad ca h)) (hS : va_S A s.heap H locs) (hdg : decode cc pc = .ok (.iastore, 1)) (q : pm_astI h (fun t => decide (t = .int)) st = some (st', h'))
    (k : ∀ (H1 : Heap) (locs1 : List Loc), va_P D cl (pm_ws cl ft ad ca h') H1 → va_D A (pm_ws cl ft ad ca h') → va_S A s.heap H1 locs1 → W p l e R s m args below meth c H1 locs1 cells slots Q (F0 m (pc + 1) lsC (st'.map (pm_cv ad)))) : W p l e R s m args below meth c H locs cells slots Q (F0 m pc lsC (st.map (pm_cv ad))) := by
  obtain ⟨x, i, b, len, ty, rfl, hk, ht, hin, rfl⟩ := pm_astI_inv q
  have ht : ty = .int := by simpa using ht
  subst ht
  have he : (pm_ws cl ft ad ca h).set b (ad b, .inl (ca b, len, .inl (upd (h.2.1 b) i.toNatClampNeg x))) = pm_ws cl ft ad ca (pm_setI h b i.toNatClampNeg (vp_nar .int x)) := pm_ar_set hk rfl (by rw [pm_cont_i (by decide) (by decide)]; show _ = Sum.inl (pm_up _ _ _ _ _); rw [pm_up_self]; rfl) (fun d hd => pm_up_ne hd) (fun d _ => rfl) (fun d _ => rfl)
  refine va_iast hx hb (pm_K1 hK ha hk) hP hD hS b 0 (pm_ar_get hk) rfl hin hdg (fun H1 locs1 g1 g2 g3 => ?_)
  rw [he] at g1 g2
  exact k H1 locs1 g1 g2 g3
theorem pm_bast_W (hx : p.tables.exec = Jvm.exec) (hb : c.code = cc) (hK : va_K D cl [] s) (ha : pm_Ha s ca h) (hP : va_P D cl (pm_ws cl ft ad ca h) H) (hD : va_D A (pm_ws cl ft ad ca h)) (hS : va_S A s.heap H locs) (hdg : decode cc pc = .ok (.bastore, 1)) (q : pm_astI h (fun t => decide (t = .byte) || decide (t = .boolean)) st = some (st', h'))
    (k : ∀ (H1 : Heap) (locs1 : List Loc), va_P D cl (pm_ws cl ft ad ca h') H1 → va_D A (pm_ws cl ft ad ca h') → va_S A s.heap H1 locs1 → W p l e R s m args below meth c H1 locs1 cells slots Q (F0 m (pc + 1) lsC (st'.map (pm_cv ad)))) : W p l e R s m args below meth c H locs cells slots Q (F0 m pc lsC (st.map (pm_cv ad))) := by
  obtain ⟨x, i, b, len, ty, rfl, hk, ht, hin, rfl⟩ := pm_astI_inv q
  have ht : ty = .byte ∨ ty = .boolean := by simpa using ht
  have he : (pm_ws cl ft ad ca h).set b (ad b, .inl (ca b, len, .inl (upd (h.2.1 b) i.toNatClampNeg (vp_nar ty x)))) = pm_ws cl ft ad ca (pm_setI h b i.toNatClampNeg (vp_nar ty x)) := pm_ar_set hk rfl (by rw [pm_cont_i (by rcases ht with rfl | rfl <;> decide) (by rcases ht with rfl | rfl <;> decide)]; show _ = Sum.inl (pm_up _ _ _ _ _); rw [pm_up_self]; rfl) (fun d hd => pm_up_ne hd) (fun d _ => rfl) (fun d _ => rfl)
  rcases ht with rfl | rfl
  · refine va_bast hx hb (pm_K1 hK ha hk) hP hD hS b 0 (pm_ar_get hk) rfl hin hdg (fun H1 locs1 g1 g2 g3 => ?_)
    rw [he] at g1 g2
    exact k H1 locs1 g1 g2 g3
  · refine va_zast hx hb (pm_K1 hK ha hk) hP hD hS b 0 (pm_ar_get hk) rfl hin hdg (fun H1 locs1 g1 g2 g3 => ?_)
    rw [he] at g1 g2
    exact k H1 locs1 g1 g2 g3
theorem pm_last_W (hx : p.tables.exec = Jvm.exec) (hb : c.code = cc) (hK : va_K D cl [] s) (ha : pm_Ha s ca h) (hP : va_P D cl (pm_ws cl ft ad ca h) H) (hD : va_D A (pm_ws cl ft ad ca h)) (hS : va_S A s.heap H locs) (hdg : decode cc pc = .ok (.lastore, 1)) (q : pm_astL h st = some (st', h'))
    (k : ∀ (H1 : Heap) (locs1 : List Loc), va_P D cl (pm_ws cl ft ad ca h') H1 → va_D A (pm_ws cl ft ad ca h') → va_S A s.heap H1 locs1 → W p l e R s m args below meth c H1 locs1 cells slots Q (F0 m (pc + 1) lsC (st'.map (pm_cv ad)))) : W p l e R s m args below meth c H locs cells slots Q (F0 m pc lsC (st.map (pm_cv ad))) := by
  obtain ⟨x, i, b, len, rfl, hk, hin, rfl⟩ := pm_astL_inv q
  have he : (pm_ws cl ft ad ca h).set b (ad b, .inl (ca b, len, .inr (.inl (vp_updL (h.2.2.1 b) i.toNatClampNeg x)))) = pm_ws cl ft ad ca (pm_setL h b i.toNatClampNeg x) := pm_ar_set hk rfl (by show _ = Sum.inr (Sum.inl (pm_up _ _ _ _ _)); rw [pm_up_self]; rfl) (fun d _ => rfl) (fun d hd => pm_up_ne hd) (fun d _ => rfl)
  refine va_last hx hb (pm_K1 hK ha hk) hP hD hS b 0 (pm_ar_get hk) rfl hin hdg (fun H1 locs1 g1 g2 g3 => ?_)
  rw [he] at g1 g2
  exact k H1 locs1 g1 g2 g3
theorem pm_aast_W (hx : p.tables.exec = Jvm.exec) (hb : c.code = cc) (hK : va_K D cl [] s) (ha : pm_Ha s ca h) (hP : va_P D cl (pm_ws cl ft ad ca h) H) (hD : va_D A (pm_ws cl ft ad ca h)) (hS : va_S A s.heap H locs) (hdg : decode cc pc = .ok (.aastore, 1)) (q : pm_astR cl h st = some (st', h'))
    (k : ∀ (H1 : Heap) (locs1 : List Loc), va_P D cl (pm_ws cl ft ad ca h') H1 → va_D A (pm_ws cl ft ad ca h') → va_S A s.heap H1 locs1 → W p l e R s m args below meth c H1 locs1 cells slots Q (F0 m (pc + 1) lsC (st'.map (pm_cv ad)))) : W p l e R s m args below meth c H locs cells slots Q (F0 m pc lsC (st.map (pm_cv ad))) := by
  obtain ⟨x, b, ci, len, i, C, rfl, hk, hxk, hC, hin, rfl⟩ := pm_astR_inv q
  cases hc : cl[ci]? with
  | none => rw [hc] at hC; cases hC
  | some r =>
    rw [hc] at hC
    have hC : r.1 = C := by simpa using hC
    subst hC
    have he : (pm_ws cl ft ad ca h).set b (ad b, .inl (ca b, len, .inr (.inr (.inr (.inr (va_up (fun j => (h.2.2.2 b j).map ad) i.toNatClampNeg (some (ad x)))))))) = pm_ws cl ft ad ca (pm_setR h b i.toNatClampNeg (some x)) := by
      refine pm_ar_set hk rfl ?_ (fun d _ => rfl) (fun d _ => rfl) (fun d hd => pm_up_ne hd)
      have e1 : (va_up (fun j => (h.2.2.2 b j).map ad) i.toNatClampNeg (some (ad x))) = fun j => ((pm_setR h b i.toNatClampNeg (some x)).2.2.2 b j).map ad := by
        funext j
        by_cases ej : j = i.toNatClampNeg <;> simp [va_up, ej, pm_setR, pm_up]
      rw [e1]
      simp [pm_cont, pm_isR]
    refine va_astq hx hb (pm_K1 hK ha hk) hP hD hS b 0 x ci (r := r) (pm_ar_get hk) rfl (pm_ws_get hxk) hc hin hdg (fun H1 locs1 g1 g2 g3 => ?_)
    rw [he] at g1 g2
    exact k H1 locs1 g1 g2 g3
theorem pm_copy_W {i : Nat} (hx : p.tables.exec = Jvm.exec) (hb : c.code = cc) (hml : c.maxLocals = lsC.size) (hown : s.vm.findClass own = some m.cls) (hlink : (Cond.methodLink own i arraycopyName).before args s = true) (hnat : (Cond.native arraycopyName).before args s = true) (hstat : (Cond.static arraycopyName).before args s = true) (hini : (Cond.initialized "java/lang/System").before args s = true)
    (hK : va_K D cl [] s) (ha : pm_Ha s ca h) (hP : va_P D cl (pm_ws cl ft ad ca h) H) (hD : va_D A (pm_ws cl ft ad ca h)) (hS : va_S A s.heap H locs) (hf : 1 ≤ R.frames) (hlo : 60 ≤ R.locals) (hdg : decode cc pc = .ok (.invokestatic i, 3)) (q : pm_copy h st = some (st', h'))
    (k : ∀ (H1 : Heap) (locs1 : List Loc), va_P D cl (pm_ws cl ft ad ca h') H1 → va_D A (pm_ws cl ft ad ca h') → va_S A s.heap H1 locs1 → W p l e R s m args below meth c H1 locs1 cells slots Q (F0 m (pc + 3) lsC (st'.map (pm_cv ad)))) : W p l e R s m args below meth c H locs cells slots Q (F0 m pc lsC (st.map (pm_cv ad))) := by
  obtain ⟨n, dp, sp, a, b, la, lb, rfl, ka, kb, c1, c2, c3, c4, c5, c6, rfl⟩ := pm_copy_inv q
  have he : (pm_ws cl ft ad ca h).set b (ad b, .inl (ca b, lb, .inl (va_cpy (h.2.1 a) (h.2.1 b) sp.toNatClampNeg dp.toNatClampNeg n.toNatClampNeg))) = pm_ws cl ft ad ca (pm_rowI h b (va_cpy (h.2.1 a) (h.2.1 b) sp.toNatClampNeg dp.toNatClampNeg n.toNatClampNeg)) := pm_ar_set kb rfl (by rw [pm_cont_i (by decide) (by decide)]; show _ = Sum.inl (pm_row _ _ _ _); rw [pm_row_self]) (fun d hd => pm_row_ne hd) (fun d _ => rfl) (fun d _ => rfl)
  have hcat : ((st'.map (pm_cv ad)).map fun v => v.category).sum ≤ 8 := by
    rw [List.map_map]
    rw [show ((fun v => v.category) ∘ pm_cv ad) = (fun v : Value => v.category) from funext (fun v => pm_cv_cat ad v)]
    exact c6
  have hnf : nativeFrameWords "java/lang/System" "arraycopy" 5 + 11 ≤ 52 := by decide +kernel
  refine va_copyi hx hb hml hown hlink hnat hstat hini (pm_K2 hK ha ka kb) hP hD hS a b 0 1 (ty := .int) (pm_ar_get ka) (pm_ar_get kb) rfl rfl rfl c1 c2 c3 c4 c5 (fun _ _ => rfl) hf (by omega) hdg (fun H1 locs1 g1 g2 g3 => ?_)
  rw [he] at g1 g2
  exact k H1 locs1 g1 g2 g3
end PMA
