/-! The pure machine, part 12: what it runs to, the real machine runs to. -/
/-- n steps of the pure machine are steps of the real one -/
def pm_Snd (l : Launch) (D : va_G) (cl : List vw_C) (ft : Nat → Nat → FieldType) (kt : pm_Kt) (me : Nat → pm_Me) (lk : Nat → Nat → pm_Lk) (Tg : List Cond) (nw : List (String × Nat × MethodName × String)) (ao : List String) (zs : List (String × String × String × Value)) (tx : List (String × Nat × String × Nat)) (n : Nat) : Prop :=
  ∀ (d i kc ks pc : Nat) (ls st : List Value) (h : pm_H) (v : Option Value) (h' : pm_H), pm cl ft kt me lk n d i kc ks pc ls st h = some (v, h') →
  ∀ (p : Program) (e : Env) (R : Room) (s : State) (m : MethodId) (args : Array Value) (below : List Frame) (meth : Method) (c : Code) (Z : State → Prop) (A : Nat → Prop) (ad : Nat → Nat) (ca : Nat → ClassId) (H : Heap) (locs : List Loc) (cells slots : Nat) (lsC : Array Slot),
    p.tables.exec = Jvm.exec → c.code = (me i).1.2.1 → c.maxLocals = (me i).1.2.2.1 → s.vm.findClass (me i).1.1.cls = some m.cls → meth.name = (me i).1.1.name → (∀ w ∈ Tg, w.before args s = true) →
    pm_Ks D cl nw ao kt zs tx ad A s s.heap → pm_Ha s ca h → pm_Hc h → va_P D cl (pm_ws cl ft ad ca h) H → va_D A (pm_ws cl ft ad ca h) → va_S A s.heap H locs → (∀ q, s.heap.size ≤ q → A q) → pm_Lr ad ls lsC (me i).1.2.2.1 → pm_oks h.1.length st → pm_oks h.1.length ls →
    d ≤ R.frames → 60 * d ≤ R.locals → cells + kc ≤ R.cells → slots + ks ≤ R.slots →
    (∀ (pc' len : Nat) (ins : Instr) (ad' : Nat → Nat) (ca' : Nat → ClassId) (H' : Heap) (locs' : List Loc) (cells' slots' : Nat) (lsC' : Array Slot), decode (me i).1.2.1 pc' = .ok (ins, len) → pm_lok len ins = true → pm_ret (me i).1.2.2.2 v.toList ins = some v → pm_ex h.1.length ad ad' → h.1.length ≤ h'.1.length → pm_Ha s ca' h' → pm_Hc h' → va_P D cl (pm_ws cl ft ad' ca' h') H' → va_D A (pm_ws cl ft ad' ca' h') → va_S A s.heap H' locs' → (∀ x, v = some x → pm_ok h'.1.length x = true) → cells' ≤ cells + kc → slots' ≤ slots + ks →
      W p l e R s m args below meth c H' locs' cells' slots' Z (F0 m pc' lsC' (v.toList.map (pm_cv ad')))) →
    W p l e R s m args below meth c H locs cells slots Z (F0 m pc lsC (st.map (pm_cv ad)))
section PMM
variable {l : Launch} {D : va_G} {cl : List vw_C} {ft : Nat → Nat → FieldType} {kt : pm_Kt} {me : Nat → pm_Me} {lk : Nat → Nat → pm_Lk} {Tg : List Cond} {nw : List (String × Nat × MethodName × String)} {ao : List String} {zs : List (String × String × String × Value)} {tx : List (String × Nat × String × Nat)}
theorem pm_lok1 {len : Nat} {ins : Instr} (h : ins = .return_ ∨ ins = .ireturn ∨ ins = .lreturn ∨ ins = .areturn) (hl : pm_lok len ins = true) : len = 1 := by
  rcases h with rfl | rfl | rfl | rfl <;> exact pm_ln hl
/-- a method's contract out of its pure run -/
theorem pm_met {n d j sz : Nat} {as : List Value} {h h' : pm_H} {v : Option Value} {ad : Nat → Nat} {ca : Nat → ClassId} (ih : pm_Snd l D cl ft kt me lk Tg nw ao zs tx n) (hM : pm_okM Tg (me j)) (hr : pm cl ft kt me lk n d j (me j).2.1.1 (me j).2.1.2 0 (pm_ent as (me j).1.2.2.1) [] h = some (v, h')) (hs : (as.map fun v => v.category).sum ≤ (me j).1.2.2.1) (hc : pm_Hc h) (ho : pm_oks h.1.length as) :
    Met l (me j).1.1 (Cond.code (me j).1.1 (me j).1.2.1 (me j).1.2.2.1 (me j).1.2.2.2 :: Tg) (pm_rm d (me j).2.1.1 (me j).2.1.2) (pm_Pc D cl ft nw ao kt zs tx ad ca h sz as) (pm_Qc D cl ft ad ca h sz v h') (me j).2.1.1 (me j).2.1.2 (va_A (pm_ws cl ft ad ca h) sz) := by
  refine Met.ofW (cc := (me j).1.2.1) (maxL := (me j).1.2.2.1) (ret := (me j).1.2.2.2) hM.2.2.1 rfl ?_
  intro p e s m args below meth c s₁ B hml hv
  obtain ⟨rfl, hsz, hP, hD0, hHa, hKs⟩ := hv
  have hx := B.exec
  have hb := B.bytes
  have hrt := B.returns
  have hts0 := atoms_spec (ws := Cond.code (me j).1.1 (me j).1.2.1 (me j).1.2.2.1 (me j).1.2.2.2 :: Tg) B.pre
  have hts : ∀ w ∈ Tg, w.before (as.map (pm_cv ad)).toArray s = true := fun w hw => hts0 w (List.mem_cons_of_mem _ hw)
  have hown : s.vm.findClass (me j).1.1.cls = some m.cls := findClass_of_methodNamed B.named
  have hlocks := B.notSynchronized
  have hnm : meth.name = (me j).1.1.name := (name_of_methodNamed B.named B.method).1
  subst hsz
  have hD := hD0.self (sz := s.heap.size)
  have hL := pm_ent_Lr (ad := ad) hs
  rw [lg_entry_eq]
  have hfin := ih d j _ _ 0 _ [] h v h' hr p e (pm_rm d (me j).2.1.1 (me j).2.1.2) s m (as.map (pm_cv ad)).toArray below meth c (MQ below (pm_Qc D cl ft ad ca h s.heap.size v h') (as.map (pm_cv ad)).toArray s (me j).2.1.1 (me j).2.1.2 (va_A (pm_ws cl ft ad ca h) s.heap.size)) (va_A (pm_ws cl ft ad ca h) s.heap.size) ad ca s.heap [] 0 0 _
    hx hb hml hown hnm hts hKs hHa hc hP hD va_S.rf (fun q hq => Or.inr hq) hL pm_oks_nil (pm_ent_ok ho) (Nat.le_refl _) (Nat.le_refl _) (by show 0 + _ ≤ (me j).2.1.1; omega) (by show 0 + _ ≤ (me j).2.1.2; omega)
  refine hfin ?_
  intro pc' len ins ad' ca' H' locs' cells' slots' lsC' hdg hlk hre hex hle hHa' hc' hP' hD' hS' hov hce hsl
  refine W.widen (k := (me j).2.1.1) (n := (me j).2.1.2) (by omega) (by omega) ?_
  have key : ∀ t : State, t.heap = H' → s.WarmedH t.vm → pm_Qc D cl ft ad ca h s.heap.size v h' (as.map (pm_cv ad)).toArray s (.returned (v.map (pm_cv ad'))) t := fun t ht hW =>
    ⟨⟨ad', ca', rfl, hex, hle, hc', hov, hHa'.moved hW.alike, by rw [ht]; exact hP', hD'⟩, hS'.F ht⟩
  cases ins with
  | return_ =>
    cases pm_ln hlk
    simp only [pm_ret] at hre
    split at hre
    · rename_i hq
      cases hre
      exact W.vret hx hb (hrt.trans hq.1) key hS'.2.2 hdg
    · cases hre
  | ireturn =>
    cases pm_ln hlk
    simp only [pm_ret] at hre
    split at hre
    · rename_i ty x e1 e2
      split at hre
      · rename_i hn
        cases hre
        exact W.zret hx hb (hrt.trans e1) hn key hS'.2.2 hdg
      · cases hre
    · cases hre
  | lreturn =>
    cases pm_ln hlk
    simp only [pm_ret] at hre
    split at hre
    · rename_i x e1 e2
      cases hre
      exact W.lret hx hb (hrt.trans e1) key hS'.2.2 hdg
    · cases hre
  | areturn =>
    cases pm_ln hlk
    simp only [pm_ret] at hre
    split at hre
    · rename_i C x e1 e2
      cases hre
      exact W.aret hx hb (hrt.trans e1) (Or.inl ⟨_, rfl⟩) (Or.inr ⟨_, rfl⟩) key hS'.2.2 hdg
    · rename_i C e1 e2
      cases hre
      exact W.aret hx hb (hrt.trans e1) (Or.inl ⟨_, rfl⟩) (Or.inl rfl) key hS'.2.2 hdg
    · cases hre
  | _ => cases hre
end PMM
