/-! The pure machine, part 5: locals and jumps in the real one. -/
def pm_oks (n : Nat) (st : List Value) : Prop := ∀ v ∈ st, pm_ok n v = true
theorem pm_oks_nil {n : Nat} : pm_oks n [] := fun _ h => by cases h
theorem pm_oks_c {n : Nat} {v : Value} {r : List Value} : pm_oks n (v :: r) ↔ pm_ok n v = true ∧ pm_oks n r := by simp [pm_oks]
theorem pm_oks_app {n : Nat} {a b : List Value} (ha : pm_oks n a) (hb : pm_oks n b) : pm_oks n (a ++ b) := fun v h => (List.mem_append.mp h).elim (ha v) (hb v)
theorem pm_oks_set {n i : Nat} {v : Value} {r : List Value} (h : pm_oks n r) (hv : pm_ok n v = true) : pm_oks n (r.set i v) := fun w hw => (List.mem_or_eq_of_mem_set hw).elim (h w) (fun e => e ▸ hv)
theorem pm_stk_ok {ins : Instr} {len n : Nat} {st st' : List Value} (h : pm_stk st ins = some (n, st')) (ho : pm_oks len st) : pm_oks len st' := by
  cases ins with
  | iconst v => cases h; exact pm_oks_c.mpr ⟨rfl, ho⟩
  | bipush v => cases h; exact pm_oks_c.mpr ⟨rfl, ho⟩
  | sipush v => cases h; exact pm_oks_c.mpr ⟨rfl, ho⟩
  | lconst v => cases h; exact pm_oks_c.mpr ⟨rfl, ho⟩
  | aconst_null => cases h; exact pm_oks_c.mpr ⟨rfl, ho⟩
  | iadd | isub | imul | iand | ior | ixor | ishl | ishr | iushr => obtain ⟨x, y, r, rfl, rfl, rfl⟩ := pm_i2_inv h; exact pm_oks_c.mpr ⟨rfl, (pm_oks_c.mp (pm_oks_c.mp ho).2).2⟩
  | idiv | irem => obtain ⟨x, y, r, rfl, rfl, rfl, hy⟩ := pm_d2_inv h; exact pm_oks_c.mpr ⟨rfl, (pm_oks_c.mp (pm_oks_c.mp ho).2).2⟩
  | ineg | i2b | i2c => obtain ⟨x, r, rfl, rfl, rfl⟩ := pm_i1_inv h; exact pm_oks_c.mpr ⟨rfl, (pm_oks_c.mp ho).2⟩
  | ladd | lsub | lmul | land | lor => obtain ⟨x, y, r, rfl, rfl, rfl⟩ := pm_l2_inv h; exact pm_oks_c.mpr ⟨rfl, (pm_oks_c.mp (pm_oks_c.mp ho).2).2⟩
  | ldiv | lrem => obtain ⟨x, y, r, rfl, rfl, rfl, hy⟩ := pm_ld2_inv h; exact pm_oks_c.mpr ⟨rfl, (pm_oks_c.mp (pm_oks_c.mp ho).2).2⟩
  | i2l =>
    match st, h with
    | .int x :: r, h => cases h; exact pm_oks_c.mpr ⟨rfl, (pm_oks_c.mp ho).2⟩
  | l2i =>
    match st, h with
    | .long x :: r, h => cases h; exact pm_oks_c.mpr ⟨rfl, (pm_oks_c.mp ho).2⟩
  | lcmp =>
    match st, h with
    | .long y :: .long x :: r, h => cases h; exact pm_oks_c.mpr ⟨rfl, (pm_oks_c.mp (pm_oks_c.mp ho).2).2⟩
  | lshl =>
    match st, h with
    | .int y :: .long x :: r, h => cases h; exact pm_oks_c.mpr ⟨rfl, (pm_oks_c.mp (pm_oks_c.mp ho).2).2⟩
  | dup =>
    match st, h with
    | v :: r, h =>
      simp only [pm_stk, pm_dup] at h
      split at h
      · cases h; exact pm_oks_c.mpr ⟨(pm_oks_c.mp ho).1, ho⟩
      · cases h
  | pop =>
    match st, h with
    | v :: r, h =>
      simp only [pm_stk, pm_pop] at h
      split at h
      · cases h; exact (pm_oks_c.mp ho).2
      · cases h
  | dup2 =>
    match st, h with
    | v :: w :: r, h =>
      simp only [pm_stk, pm_dup2] at h
      split at h
      · cases h; exact pm_oks_c.mpr ⟨(pm_oks_c.mp ho).1, pm_oks_c.mpr ⟨(pm_oks_c.mp (pm_oks_c.mp ho).2).1, ho⟩⟩
      · cases h
  | _ => cases h
/-- the locals -/
def pm_Lr (ad : Nat → Nat) (ls : List Value) (lsC : Array Slot) (nL : Nat) : Prop := ls.length = nL ∧ lsC.size = nL ∧ lv_wf lsC ∧ ∀ (i : Nat) (v : Value), ls[i]? = some v → pm_jk v = false → lsC[i]? = some (.val (pm_cv ad v))
/-- as the kit lists them -/
def pm_lv (ad : Nat → Nat) (ls : List Value) : List (Nat × Value) := ls.zipIdx.filterMap (fun q => if pm_jk q.1 then none else some (q.2, pm_cv ad q.1))
theorem pm_lv_mem {ad : Nat → Nat} {ls : List Value} {i : Nat} {w : Value} : (i, w) ∈ pm_lv ad ls ↔ ∃ v, ls[i]? = some v ∧ pm_jk v = false ∧ w = pm_cv ad v := by
  constructor
  · intro h
    obtain ⟨⟨v, j⟩, hm, hq⟩ := List.mem_filterMap.mp h
    have hj := List.mem_zipIdx_iff_getElem?.mp hm
    simp only [Option.ite_none_left_eq_some, Option.some.injEq, Prod.mk.injEq] at hq
    obtain ⟨h1, rfl, rfl⟩ := hq
    exact ⟨v, hj, by simpa using h1, rfl⟩
  · rintro ⟨v, h1, h2, rfl⟩
    exact List.mem_filterMap.mpr ⟨(v, i), List.mem_zipIdx_iff_getElem?.mpr h1, by simp [h2]⟩
theorem pm_Lr.has {ad : Nat → Nat} {ls : List Value} {lsC : Array Slot} {nL : Nat} (h : pm_Lr ad ls lsC nL) : lv_has lsC nL (pm_lv ad ls) := by
  refine ⟨h.2.1, h.2.2.1, fun q hq => ?_⟩
  obtain ⟨v, h1, h2, h3⟩ := pm_lv_mem.mp (show (q.1, q.2) ∈ pm_lv ad ls from hq)
  rw [h3]
  exact h.2.2.2 q.1 v h1 h2
theorem pm_Lr.ext {ad ad' : Nat → Nat} {ls : List Value} {lsC : Array Slot} {nL n : Nat} (h : pm_Lr ad ls lsC nL) (ho : pm_oks n ls) (hx : ∀ k, pm_okr n k = true → ad' k = ad k) : pm_Lr ad' ls lsC nL := by
  refine ⟨h.1, h.2.1, h.2.2.1, fun i v hi hj => ?_⟩
  rw [h.2.2.2 i v hi hj]
  have hv := ho v (List.mem_of_getElem? hi)
  cases v with
  | ref k => show some (Slot.val (.ref (ad k))) = some (Slot.val (.ref (ad' k))); rw [hx k hv]
  | _ => rfl
theorem pm_cv_ext {ad ad' : Nat → Nat} {n : Nat} (hx : ∀ k, pm_okr n k = true → ad' k = ad k) {v : Value} (hv : pm_ok n v = true) : pm_cv ad' v = pm_cv ad v := by
  cases v with
  | ref k => show Value.ref (ad' k) = Value.ref (ad k); rw [hx k hv]
  | _ => rfl
theorem pm_map_ext {ad ad' : Nat → Nat} {n : Nat} (hx : ∀ k, pm_okr n k = true → ad' k = ad k) {st : List Value} (hv : pm_oks n st) : st.map (pm_cv ad') = st.map (pm_cv ad) := List.map_congr_left (fun v h => pm_cv_ext hx (hv v h))
theorem pm_pre_len (ls : List Value) (i : Nat) : (pm_pre ls i).length = ls.length := by
  cases i with
  | zero => rfl
  | succ i => simp only [pm_pre]; split <;> simp
theorem pm_pre_get {ls : List Value} {i j : Nat} {v : Value} (h : (pm_pre ls i)[j]? = some v) (hk : pm_jk v = false) : ls[j]? = some v ∧ ¬ (j + 1 = i ∧ v.category = 2) := by
  cases i with
  | zero => exact ⟨h, fun q => by omega⟩
  | succ i =>
    simp only [pm_pre] at h
    split at h
    · rename_i hc
      by_cases hj : j = i
      · subst hj
        by_cases hl : j < ls.length
        · rw [List.getElem?_set_self hl] at h
          cases h
          cases hk
        · rw [List.getElem?_eq_none (by simpa using hl)] at h
          cases h
      · rw [List.getElem?_set_ne (Ne.symm hj)] at h
        exact ⟨h, fun q => hj (by omega)⟩
    · rename_i hc
      refine ⟨h, fun q => hc ?_⟩
      have : j = i := by omega
      subst this
      simp [h, q.2]
theorem pm_Lr.st1 {ad : Nat → Nat} {ls : List Value} {lsC lsC' : Array Slot} {nL i : Nat} {v : Value} (h : pm_Lr ad ls lsC nL) (hi : i < nL) (hk : pm_jk v = false) (h' : lv_has lsC' nL ((i, pm_cv ad v) :: (pm_lv ad ls).filter (fun q => !(q.1 == i) && !(q.1 + 1 == i && q.2.category == 2)))) : pm_Lr ad (pm_st1 ls i v) lsC' nL := by
  refine ⟨by simp [pm_st1, pm_pre_len, h.1], h'.1, h'.2.1, fun j w hj hw => ?_⟩
  unfold pm_st1 at hj
  by_cases e : j = i
  · subst e
    rw [List.getElem?_set_self (by rw [pm_pre_len, h.1]; exact hi)] at hj
    cases hj
    exact h'.2.2 _ List.mem_cons_self
  · rw [List.getElem?_set_ne (Ne.symm e)] at hj
    obtain ⟨g1, g2⟩ := pm_pre_get hj hw
    refine h'.2.2 (j, pm_cv ad w) (List.mem_cons_of_mem _ (List.mem_filter.mpr ⟨pm_lv_mem.mpr ⟨w, g1, hw, rfl⟩, ?_⟩))
    have : ¬ (j + 1 = i ∧ (pm_cv ad w).category = 2) := by rw [pm_cv_cat]; exact g2
    simp only [Bool.and_eq_true, Bool.not_eq_true', beq_eq_false_iff_ne, ne_eq, Bool.and_eq_false_iff]
    refine ⟨e, ?_⟩
    by_cases q : j + 1 = i
    · exact Or.inr (fun z => this ⟨q, z⟩)
    · exact Or.inl q
theorem pm_Lr.st2 {ad : Nat → Nat} {ls : List Value} {lsC lsC' : Array Slot} {nL i : Nat} {v : Value} (h : pm_Lr ad ls lsC nL) (hi : i + 1 < nL) (hk : pm_jk v = false) (h' : lv_has lsC' nL ((i, pm_cv ad v) :: (pm_lv ad ls).filter (fun q => !(q.1 == i) && (!(q.1 == i + 1) && !(q.1 + 1 == i && q.2.category == 2))))) : pm_Lr ad (pm_st2 ls i v) lsC' nL := by
  refine ⟨by simp [pm_st2, pm_st1, pm_pre_len, h.1], h'.1, h'.2.1, fun j w hj hw => ?_⟩
  unfold pm_st2 pm_st1 at hj
  by_cases e2 : j = i + 1
  · subst e2
    rw [List.getElem?_set_self (by rw [List.length_set, pm_pre_len, h.1]; exact hi)] at hj
    cases hj
    cases hw
  · rw [List.getElem?_set_ne (Ne.symm e2)] at hj
    by_cases e : j = i
    · subst e
      rw [List.getElem?_set_self (by rw [pm_pre_len, h.1]; omega)] at hj
      cases hj
      exact h'.2.2 _ List.mem_cons_self
    · rw [List.getElem?_set_ne (Ne.symm e)] at hj
      obtain ⟨g1, g2⟩ := pm_pre_get hj hw
      refine h'.2.2 (j, pm_cv ad w) (List.mem_cons_of_mem _ (List.mem_filter.mpr ⟨pm_lv_mem.mpr ⟨w, g1, hw, rfl⟩, ?_⟩))
      have : ¬ (j + 1 = i ∧ (pm_cv ad w).category = 2) := by rw [pm_cv_cat]; exact g2
      simp only [Bool.and_eq_true, Bool.not_eq_true', beq_eq_false_iff_ne, ne_eq, Bool.and_eq_false_iff]
      refine ⟨e, e2, ?_⟩
      by_cases q : j + 1 = i
      · exact Or.inr (fun z => this ⟨q, z⟩)
      · exact Or.inl q
theorem pm_pre_ok {n i : Nat} {ls : List Value} (h : pm_oks n ls) : pm_oks n (pm_pre ls i) := by
  cases i with
  | zero => exact h
  | succ i =>
    simp only [pm_pre]
    split
    · exact pm_oks_set h rfl
    · exact h
theorem pm_st1_ok {n i : Nat} {ls : List Value} {v : Value} (h : pm_oks n ls) (hv : pm_ok n v = true) : pm_oks n (pm_st1 ls i v) := pm_oks_set (pm_pre_ok h) hv
theorem pm_st2_ok {n i : Nat} {ls : List Value} {v : Value} (h : pm_oks n ls) (hv : pm_ok n v = true) : pm_oks n (pm_st2 ls i v) := pm_oks_set (pm_st1_ok h hv) rfl
theorem pm_lI_inv {len n : Nat} {o : Option Value} {v : Value} (h : pm_lI len o = some (n, v)) : ∃ x, o = some (.int x) ∧ n = len ∧ v = .int x := by
  unfold pm_lI at h; split at h
  · cases h; exact ⟨_, rfl, rfl, rfl⟩
  · cases h
theorem pm_lL_inv {len n : Nat} {o : Option Value} {v : Value} (h : pm_lL len o = some (n, v)) : ∃ x, o = some (.long x) ∧ n = len ∧ v = .long x := by
  unfold pm_lL at h; split at h
  · cases h; exact ⟨_, rfl, rfl, rfl⟩
  · cases h
theorem pm_lA_inv {len n : Nat} {o : Option Value} {v : Value} (h : pm_lA len o = some (n, v)) : (∃ x, o = some (.ref x) ∧ n = len ∧ v = .ref x) ∨ (o = some .null ∧ n = len ∧ v = .null) := by
  unfold pm_lA at h; split at h
  · cases h; exact Or.inl ⟨_, rfl, rfl, rfl⟩
  · cases h; exact Or.inr ⟨rfl, rfl, rfl⟩
  · cases h
theorem pm_ld_ok {ins : Instr} {len n : Nat} {ls : List Value} {v : Value} (h : pm_ld ls ins = some (n, v)) (ho : pm_oks len ls) : pm_ok len v = true := by
  cases ins with
  | iload i => obtain ⟨x, h1, rfl, rfl⟩ := pm_lI_inv h; rfl
  | iload_n i => obtain ⟨x, h1, rfl, rfl⟩ := pm_lI_inv h; rfl
  | lload i => obtain ⟨x, h1, rfl, rfl⟩ := pm_lL_inv h; rfl
  | lload_n i => obtain ⟨x, h1, rfl, rfl⟩ := pm_lL_inv h; rfl
  | aload i => rcases pm_lA_inv h with ⟨x, h1, rfl, rfl⟩ | ⟨h1, rfl, rfl⟩ <;> first | exact ho _ (List.mem_of_getElem? h1) | rfl
  | aload_n i => rcases pm_lA_inv h with ⟨x, h1, rfl, rfl⟩ | ⟨h1, rfl, rfl⟩ <;> first | exact ho _ (List.mem_of_getElem? h1) | rfl
  | _ => cases h
section PML
variable {p : Program} {l : Launch} {e : Env} {R : Room} {s : State} {m : MethodId} {args : Array Value} {below : List Frame} {meth : Method} {c : Code} {H : Heap} {locs : List Loc} {cells slots : Nat} {Q : State → Prop}
variable {cc : ByteArray} {pc nL : Nat} {lsC : Array Slot} {ls st : List Value} {ad : Nat → Nat} {ins : Instr} {len n : Nat}
theorem pm_ld_W {v : Value} (hx : p.tables.exec = Jvm.exec) (hb : c.code = cc) (hdg : decode cc pc = .ok (ins, len)) (hl : pm_lok len ins = true) (h : pm_ld ls ins = some (n, v)) (hL : pm_Lr ad ls lsC nL)
    (k : W p l e R s m args below meth c H locs cells slots Q (F0 m (pc + n) lsC ((v :: st).map (pm_cv ad)))) : W p l e R s m args below meth c H locs cells slots Q (F0 m pc lsC (st.map (pm_cv ad))) := by
  cases ins with
  | iload i => cases pm_ln hl; obtain ⟨x, h1, rfl, rfl⟩ := pm_lI_inv h; exact lv_iload hx hb hdg (hL.2.2.2 i _ h1 rfl) k
  | iload_n i => cases pm_ln hl; obtain ⟨x, h1, rfl, rfl⟩ := pm_lI_inv h; exact lv_iload_n hx hb hdg rfl (hL.2.2.2 i _ h1 rfl) k
  | lload i => cases pm_ln hl; obtain ⟨x, h1, rfl, rfl⟩ := pm_lL_inv h; exact lv_lload hx hb hdg (hL.2.2.2 i _ h1 rfl) k
  | lload_n i => cases pm_ln hl; obtain ⟨x, h1, rfl, rfl⟩ := pm_lL_inv h; exact lv_lload_n hx hb hdg rfl (hL.2.2.2 i _ h1 rfl) k
  | aload i =>
    cases pm_ln hl
    rcases pm_lA_inv h with ⟨x, h1, rfl, rfl⟩ | ⟨h1, rfl, rfl⟩
    · exact lv_aload hx hb hdg (hL.2.2.2 i _ h1 rfl) k
    · exact lv_aloadN hx hb hdg (hL.2.2.2 i _ h1 rfl) k
  | aload_n i =>
    cases pm_ln hl
    rcases pm_lA_inv h with ⟨x, h1, rfl, rfl⟩ | ⟨h1, rfl, rfl⟩
    · exact lv_aload_n hx hb hdg rfl (hL.2.2.2 i _ h1 rfl) k
    · exact lv_aload_nN hx hb hdg rfl (hL.2.2.2 i _ h1 rfl) k
  | _ => cases h
theorem pm_sI_inv {i : Nat} {ls' st' : List Value} (h : pm_sI len ls i st = some (n, ls', st')) : ∃ x, st = .int x :: st' ∧ n = len ∧ ls' = pm_st1 ls i (.int x) ∧ i < ls.length := by
  unfold pm_sI at h; split at h
  · split at h
    · rename_i q; cases h; exact ⟨_, rfl, rfl, rfl, q⟩
    · cases h
  · cases h
theorem pm_sL_inv {i : Nat} {ls' st' : List Value} (h : pm_sL len ls i st = some (n, ls', st')) : ∃ x, st = .long x :: st' ∧ n = len ∧ ls' = pm_st2 ls i (.long x) ∧ i + 1 < ls.length := by
  unfold pm_sL at h; split at h
  · split at h
    · rename_i q; cases h; exact ⟨_, rfl, rfl, rfl, q⟩
    · cases h
  · cases h
theorem pm_sA_inv {i : Nat} {ls' st' : List Value} (h : pm_sA len ls i st = some (n, ls', st')) : (∃ x, st = .ref x :: st' ∧ n = len ∧ ls' = pm_st1 ls i (.ref x) ∧ i < ls.length) ∨ (st = .null :: st' ∧ n = len ∧ ls' = pm_st1 ls i .null ∧ i < ls.length) := by
  unfold pm_sA at h; split at h
  · split at h
    · rename_i q; cases h; exact Or.inl ⟨_, rfl, rfl, rfl, q⟩
    · cases h
  · split at h
    · rename_i q; cases h; exact Or.inr ⟨rfl, rfl, rfl, q⟩
    · cases h
  · cases h
theorem pm_inc_inv {i : Nat} {z : Int} {ls' st' : List Value} (h : pm_inc ls i z st ls[i]? = some (n, ls', st')) : ∃ x, ls[i]? = some (.int x) ∧ n = 3 ∧ ls' = pm_st1 ls i (.int (x + Int32.ofInt z)) ∧ st' = st := by
  unfold pm_inc at h; split at h
  · rename_i q; cases h; exact ⟨_, q, rfl, rfl, rfl⟩
  · cases h
theorem pm_sto_ok {N : Nat} {ls' st' : List Value} (h : pm_sto ls st ins = some (n, ls', st')) (ho : pm_oks N ls) (hs : pm_oks N st) : pm_oks N ls' ∧ pm_oks N st' := by
  cases ins with
  | istore i => obtain ⟨x, rfl, rfl, rfl, hi⟩ := pm_sI_inv h; exact ⟨pm_st1_ok ho rfl, (pm_oks_c.mp hs).2⟩
  | istore_n i => obtain ⟨x, rfl, rfl, rfl, hi⟩ := pm_sI_inv h; exact ⟨pm_st1_ok ho rfl, (pm_oks_c.mp hs).2⟩
  | lstore i => obtain ⟨x, rfl, rfl, rfl, hi⟩ := pm_sL_inv h; exact ⟨pm_st2_ok ho rfl, (pm_oks_c.mp hs).2⟩
  | lstore_n i => obtain ⟨x, rfl, rfl, rfl, hi⟩ := pm_sL_inv h; exact ⟨pm_st2_ok ho rfl, (pm_oks_c.mp hs).2⟩
  | astore i => rcases pm_sA_inv h with ⟨x, rfl, rfl, rfl, hi⟩ | ⟨rfl, rfl, rfl, hi⟩ <;> exact ⟨pm_st1_ok ho (pm_oks_c.mp hs).1, (pm_oks_c.mp hs).2⟩
  | astore_n i => rcases pm_sA_inv h with ⟨x, rfl, rfl, rfl, hi⟩ | ⟨rfl, rfl, rfl, hi⟩ <;> exact ⟨pm_st1_ok ho (pm_oks_c.mp hs).1, (pm_oks_c.mp hs).2⟩
  | iinc i z => obtain ⟨x, h1, rfl, rfl, rfl⟩ := pm_inc_inv h; exact ⟨pm_st1_ok ho rfl, hs⟩
  | _ => cases h
theorem pm_sto_W {ls' st' : List Value} (hx : p.tables.exec = Jvm.exec) (hb : c.code = cc) (hdg : decode cc pc = .ok (ins, len)) (hl : pm_lok len ins = true) (h : pm_sto ls st ins = some (n, ls', st')) (hL : pm_Lr ad ls lsC nL)
    (k : ∀ lsC' : Array Slot, pm_Lr ad ls' lsC' nL → W p l e R s m args below meth c H locs cells slots Q (F0 m (pc + n) lsC' (st'.map (pm_cv ad)))) : W p l e R s m args below meth c H locs cells slots Q (F0 m pc lsC (st.map (pm_cv ad))) := by
  have hn := hL.1
  cases ins with
  | istore i => cases pm_ln hl; obtain ⟨x, rfl, rfl, rfl, hi⟩ := pm_sI_inv h; exact lv_istore hx hb hdg hL.has (by omega) rfl (fun ls' h' => k ls' (hL.st1 (v := .int x) (by omega) rfl h'))
  | istore_n i => cases pm_ln hl; obtain ⟨x, rfl, rfl, rfl, hi⟩ := pm_sI_inv h; exact lv_istore_n hx hb hdg rfl hL.has (by omega) rfl (fun ls' h' => k ls' (hL.st1 (v := .int x) (by omega) rfl h'))
  | lstore i => cases pm_ln hl; obtain ⟨x, rfl, rfl, rfl, hi⟩ := pm_sL_inv h; exact lv_lstore hx hb hdg hL.has (by omega) rfl (fun ls' h' => k ls' (hL.st2 (v := .long x) (by omega) rfl h'))
  | lstore_n i => cases pm_ln hl; obtain ⟨x, rfl, rfl, rfl, hi⟩ := pm_sL_inv h; exact lv_lstore_n hx hb hdg rfl hL.has (by omega) rfl (fun ls' h' => k ls' (hL.st2 (v := .long x) (by omega) rfl h'))
  | astore i =>
    cases pm_ln hl
    rcases pm_sA_inv h with ⟨x, rfl, rfl, rfl, hi⟩ | ⟨rfl, rfl, rfl, hi⟩
    · exact lv_astore hx hb hdg hL.has (by omega) rfl (fun ls' h' => k ls' (hL.st1 (v := .ref x) (by omega) rfl h'))
    · exact lv_astoreN hx hb hdg hL.has (by omega) rfl (fun ls' h' => k ls' (hL.st1 (v := .null) (by omega) rfl h'))
  | astore_n i =>
    cases pm_ln hl
    rcases pm_sA_inv h with ⟨x, rfl, rfl, rfl, hi⟩ | ⟨rfl, rfl, rfl, hi⟩
    · exact lv_astore_n hx hb hdg rfl hL.has (by omega) rfl (fun ls' h' => k ls' (hL.st1 (v := .ref x) (by omega) rfl h'))
    · exact lv_astore_nN hx hb hdg rfl hL.has (by omega) rfl (fun ls' h' => k ls' (hL.st1 (v := .null) (by omega) rfl h'))
  | iinc i z =>
    cases pm_ln hl
    obtain ⟨x, h1, rfl, rfl, rfl⟩ := pm_inc_inv h
    have hi : i < ls.length := (List.getElem?_eq_some_iff.mp h1).1
    obtain ⟨k9, hk9⟩ := List.getElem?_of_mem (pm_lv_mem.mpr ⟨_, h1, rfl, rfl⟩ : (i, pm_cv ad (.int x)) ∈ pm_lv ad ls)
    exact lv_iinc hx hb hdg hL.has hk9 rfl (by omega) rfl (fun ls' h' => k ls' (hL.st1 (v := .int _) (by omega) rfl h'))
  | _ => cases h
end PML
