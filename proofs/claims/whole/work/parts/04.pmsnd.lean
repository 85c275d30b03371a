/-! The pure machine, part 4: what it says of the real one. Stack, locals, jumps. -/
theorem pm_ln {a b : Nat} (h : (a == b) = true) : a = b := by simpa using h
theorem pm_i1_inv {f : Int32 → Int32} {st st' : List Value} {n : Nat} (h : pm_i1 f st = some (n, st')) : ∃ x r, st = .int x :: r ∧ n = 1 ∧ st' = .int (f x) :: r := by
  unfold pm_i1 at h; split at h
  · cases h; exact ⟨_, _, rfl, rfl, rfl⟩
  · cases h
theorem pm_i2_inv {f : Int32 → Int32 → Int32} {st st' : List Value} {n : Nat} (h : pm_i2 f st = some (n, st')) : ∃ x y r, st = .int y :: .int x :: r ∧ n = 1 ∧ st' = .int (f x y) :: r := by
  unfold pm_i2 at h; split at h
  · cases h; exact ⟨_, _, _, rfl, rfl, rfl⟩
  · cases h
theorem pm_d2_inv {f : Int32 → Int32 → Int32} {st st' : List Value} {n : Nat} (h : pm_d2 f st = some (n, st')) : ∃ x y r, st = .int y :: .int x :: r ∧ n = 1 ∧ st' = .int (f x y) :: r ∧ ¬ y = 0 := by
  unfold pm_d2 at h; split at h
  · split at h
    · cases h
    · rename_i hy; cases h; exact ⟨_, _, _, rfl, rfl, rfl, hy⟩
  · cases h
theorem pm_l2_inv {f : Int64 → Int64 → Int64} {st st' : List Value} {n : Nat} (h : pm_l2 f st = some (n, st')) : ∃ x y r, st = .long y :: .long x :: r ∧ n = 1 ∧ st' = .long (f x y) :: r := by
  unfold pm_l2 at h; split at h
  · cases h; exact ⟨_, _, _, rfl, rfl, rfl⟩
  · cases h
theorem pm_ld2_inv {f : Int64 → Int64 → Int64} {st st' : List Value} {n : Nat} (h : pm_ld2 f st = some (n, st')) : ∃ x y r, st = .long y :: .long x :: r ∧ n = 1 ∧ st' = .long (f x y) :: r ∧ ¬ y = 0 := by
  unfold pm_ld2 at h; split at h
  · split at h
    · cases h
    · rename_i hy; cases h; exact ⟨_, _, _, rfl, rfl, rfl, hy⟩
  · cases h
section PMS
variable {p : Program} {l : Launch} {e : Env} {R : Room} {s : State} {m : MethodId} {args : Array Value} {below : List Frame} {meth : Method} {c : Code} {H : Heap} {locs : List Loc} {cells slots : Nat} {Q : State → Prop}
variable {cc : ByteArray} {pc : Nat} {ls : Array Slot}
theorem pm_stk_W {ad : Nat → Nat} {ins : Instr} {len n : Nat} {st st' : List Value} (hx : p.tables.exec = Jvm.exec) (hb : c.code = cc) (hdg : decode cc pc = .ok (ins, len)) (hl : pm_lok len ins = true) (h : pm_stk st ins = some (n, st'))
    (k : W p l e R s m args below meth c H locs cells slots Q (F0 m (pc + n) ls (st'.map (pm_cv ad)))) : W p l e R s m args below meth c H locs cells slots Q (F0 m pc ls (st.map (pm_cv ad))) := by
  cases ins with
  | iconst v => cases h; cases pm_ln hl; exact lv_iconst hx hb hdg rfl k
  | bipush v => cases h; cases pm_ln hl; exact lv_bipush hx hb hdg rfl k
  | sipush v => cases h; cases pm_ln hl; exact lv_sipush hx hb hdg rfl k
  | lconst v => cases h; cases pm_ln hl; exact lv_lconst hx hb hdg rfl k
  | aconst_null => cases h; cases pm_ln hl; exact lv_null hx hb hdg k
  | iadd => cases pm_ln hl; obtain ⟨x, y, r, rfl, rfl, rfl⟩ := pm_i2_inv h; exact lv_iadd hx hb hdg k
  | isub => cases pm_ln hl; obtain ⟨x, y, r, rfl, rfl, rfl⟩ := pm_i2_inv h; exact lv_isub hx hb hdg k
  | imul => cases pm_ln hl; obtain ⟨x, y, r, rfl, rfl, rfl⟩ := pm_i2_inv h; exact lv_imul hx hb hdg k
  | iand => cases pm_ln hl; obtain ⟨x, y, r, rfl, rfl, rfl⟩ := pm_i2_inv h; exact lv_iand hx hb hdg k
  | ior => cases pm_ln hl; obtain ⟨x, y, r, rfl, rfl, rfl⟩ := pm_i2_inv h; exact lv_ior hx hb hdg k
  | ixor => cases pm_ln hl; obtain ⟨x, y, r, rfl, rfl, rfl⟩ := pm_i2_inv h; exact lv_ixor hx hb hdg k
  | ishl => cases pm_ln hl; obtain ⟨x, y, r, rfl, rfl, rfl⟩ := pm_i2_inv h; exact lv_ishl hx hb hdg k
  | ishr => cases pm_ln hl; obtain ⟨x, y, r, rfl, rfl, rfl⟩ := pm_i2_inv h; exact lv_ishr hx hb hdg k
  | iushr => cases pm_ln hl; obtain ⟨x, y, r, rfl, rfl, rfl⟩ := pm_i2_inv h; exact lv_iushr hx hb hdg rfl k
  | idiv => cases pm_ln hl; obtain ⟨x, y, r, rfl, rfl, rfl, hy⟩ := pm_d2_inv h; exact lv_idiv hx hb hdg hy k
  | irem => cases pm_ln hl; obtain ⟨x, y, r, rfl, rfl, rfl, hy⟩ := pm_d2_inv h; exact lv_irem hx hb hdg hy k
  | ineg => cases pm_ln hl; obtain ⟨x, r, rfl, rfl, rfl⟩ := pm_i1_inv h; exact lv_ineg hx hb hdg k
  | i2b => cases pm_ln hl; obtain ⟨x, r, rfl, rfl, rfl⟩ := pm_i1_inv h; exact lv_i2b hx hb hdg rfl k
  | i2c => cases pm_ln hl; obtain ⟨x, r, rfl, rfl, rfl⟩ := pm_i1_inv h; exact lv_i2c hx hb hdg rfl k
  | ladd => cases pm_ln hl; obtain ⟨x, y, r, rfl, rfl, rfl⟩ := pm_l2_inv h; exact lv_ladd hx hb hdg k
  | lsub => cases pm_ln hl; obtain ⟨x, y, r, rfl, rfl, rfl⟩ := pm_l2_inv h; exact lv_lsub hx hb hdg k
  | lmul => cases pm_ln hl; obtain ⟨x, y, r, rfl, rfl, rfl⟩ := pm_l2_inv h; exact lv_lmul hx hb hdg k
  | land => cases pm_ln hl; obtain ⟨x, y, r, rfl, rfl, rfl⟩ := pm_l2_inv h; exact lv_land hx hb hdg k
  | lor => cases pm_ln hl; obtain ⟨x, y, r, rfl, rfl, rfl⟩ := pm_l2_inv h; exact lv_lor hx hb hdg k
  | ldiv => cases pm_ln hl; obtain ⟨x, y, r, rfl, rfl, rfl, hy⟩ := pm_ld2_inv h; exact lv_ldiv hx hb hdg hy k
  | lrem => cases pm_ln hl; obtain ⟨x, y, r, rfl, rfl, rfl, hy⟩ := pm_ld2_inv h; exact lv_lrem hx hb hdg hy k
  | i2l =>
    cases pm_ln hl
    match st, h with
    | .int x :: r, h => cases h; exact lv_i2l hx hb hdg rfl k
  | l2i =>
    cases pm_ln hl
    match st, h with
    | .long x :: r, h => cases h; exact lv_l2i hx hb hdg rfl k
  | lcmp =>
    cases pm_ln hl
    match st, h with
    | .long y :: .long x :: r, h => cases h; exact W.lcmp hx hb hdg k
  | lshl =>
    cases pm_ln hl
    match st, h with
    | .int y :: .long x :: r, h => cases h; exact lv_lshl hx hb hdg rfl k
  | dup =>
    cases pm_ln hl
    match st, h with
    | v :: r, h =>
      simp only [pm_stk, pm_dup] at h
      split at h
      · rename_i hv; cases h; exact lv_dup hx hb hdg ((pm_cv_cat ad v).trans hv) k
      · cases h
  | pop =>
    cases pm_ln hl
    match st, h with
    | v :: r, h =>
      simp only [pm_stk, pm_pop] at h
      split at h
      · rename_i hv; cases h; exact lv_pop hx hb hdg ((pm_cv_cat ad v).trans hv) k
      · cases h
  | dup2 =>
    cases pm_ln hl
    match st, h with
    | v :: w :: r, h =>
      simp only [pm_stk, pm_dup2] at h
      split at h
      · rename_i hv; cases h; exact lv_dup2_11 hx hb hdg ((pm_cv_cat ad v).trans hv.1) ((pm_cv_cat ad w).trans hv.2) k
      · cases h
  | _ => cases h
end PMS
