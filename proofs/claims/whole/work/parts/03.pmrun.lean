/-! The pure machine, part 3: heap instructions, calls, runs. -/
def pm_nf (cl : List vw_C) (ci : Nat) : Nat := (cl.getD ci ("", fun _ => ("", "", "", false), 0)).2.2
def pm_atype : ArrayType → FieldType := newarray.typeOf
/-- a text's coder, a text's bytes -/
def pm_gtx (kt : pm_Kt) (a : Nat) : List Value → Option (List Value)
  | .ref k :: r => if pm_B ≤ k then (match kt (k - pm_B) with
      | some (.inr vi) => some ((if a = 0 then .int 0 else .ref (pm_B + vi)) :: r)
      | _ => none) else none
  | _ => none
/-- the class number of texts -/
def pm_tc : Nat := 1000
/-- an object is made -/
def pm_new (cl : List vw_C) (h : pm_H) (ci kc ks pc : Nat) (st : List Value) : Option (Nat × Nat × Nat × List Value × pm_H) :=
  if 1 ≤ kc ∧ pm_nf cl ci ≤ ks ∧ h.1.length < pm_B ∧ ci < cl.length then some (kc - 1, ks - pm_nf cl ci, pc + 3, .ref h.1.length :: st, pm_mk h (.inr ci)) else none
def pm_arr (kc ks pc : Nat) : Option (Nat × List Value × pm_H) → Option (Nat × Nat × Nat × List Value × pm_H)
  | some (n, st, h) => if 1 ≤ kc ∧ n ≤ ks then some (kc - 1, ks - n, pc, st, h) else none
  | none => none
def pm_oI (d : Nat) : List Value → Option (List Value)
  | .ref _ :: r => if 1 ≤ d ∧ (r.map fun v => v.category).sum ≤ 8 then some r else none
  | _ => none
/-- Math.max (16), Math.min (17) -/
def pm_mm (t : Nat) : List Value → Option (List Value)
  | .int y :: .int x :: r => if (r.map fun v => v.category).sum ≤ 8 then some (.int (if t = 16 then (if x < y then y else x) else (if y < x then y else x)) :: r) else none
  | _ => none
def pm_sk {α : Type} (kc ks pc : Nat) (h : pm_H) (o : Option (List Value)) : Option (Nat × Nat × Nat × List Value × pm_H) := o.map (fun st => (kc, ks, pc, st, h))
def pm_sh (kc ks pc : Nat) (o : Option (List Value × pm_H)) : Option (Nat × Nat × Nat × List Value × pm_H) := o.map (fun q => (kc, ks, pc, q.1, q.2))
def pm_hp (cl : List vw_C) (ft : Nat → Nat → FieldType) (kt : pm_Kt) (mi : MethodName) (lk : Nat → pm_Lk) (d kc ks pc : Nat) (st : List Value) (h : pm_H) : Instr → Option (Nat × Nat × Nat × List Value × pm_H)
  | .getfield i => if (lk i).1 = 1 then (pm_get cl ft h (lk i).2.1 (lk i).2.2.1 st).map (fun st => (kc, ks, pc + 3, st, h)) else if (lk i).1 = 18 then (pm_gtx kt (lk i).2.1 st).map (fun st => (kc, ks, pc + 3, st, h)) else none
  | .putfield i => if (lk i).1 = 1 then pm_sh kc ks (pc + 3) (pm_put cl ft mi h (lk i).2.1 (lk i).2.2.1 st) else none
  | .getstatic i => if (lk i).1 = 15 then some (kc, ks, pc + 3, .ref (pm_B + (lk i).2.1) :: st, h) else if (lk i).1 = 19 then some (kc, ks, pc + 3, .int (lk i).2.2.2.1 :: st, h) else if (lk i).1 = 20 then some (kc, ks, pc + 3, .null :: st, h) else none
  | .ldc i => if (lk i).1 = 11 then some (kc, ks, pc + 2, .int (lk i).2.2.2.1 :: st, h) else if (lk i).1 = 13 then some (kc, ks, pc + 2, .ref (pm_B + (lk i).2.1) :: st, h) else none
  | .ldc_w i => if (lk i).1 = 11 then some (kc, ks, pc + 3, .int (lk i).2.2.2.1 :: st, h) else none
  | .ldc2_w i => if (lk i).1 = 12 then some (kc, ks, pc + 3, .long (lk i).2.2.2.2 :: st, h) else none
  | .iaload => (pm_aldI kt h (fun t => decide (t = .int)) st).map (fun st => (kc, ks, pc + 1, st, h))
  | .baload => (pm_aldI kt h (fun t => decide (t = .byte) || decide (t = .boolean)) st).map (fun st => (kc, ks, pc + 1, st, h))
  | .laload => (pm_aldL h st).map (fun st => (kc, ks, pc + 1, st, h))
  | .aaload => (pm_aldR h st).map (fun st => (kc, ks, pc + 1, st, h))
  | .arraylength => (pm_alen kt h st).map (fun st => (kc, ks, pc + 1, st, h))
  | .iastore => pm_sh kc ks (pc + 1) (pm_astI h (fun t => decide (t = .int)) st)
  | .bastore => pm_sh kc ks (pc + 1) (pm_astI h (fun t => decide (t = .byte) || decide (t = .boolean)) st)
  | .lastore => pm_sh kc ks (pc + 1) (pm_astL h st)
  | .aastore => pm_sh kc ks (pc + 1) (pm_astR cl h st)
  | .new i => if (lk i).1 = 9 ∨ (lk i).1 = 10 then pm_new cl h (lk i).2.1 kc ks pc st else none
  | .newarray t => if t = .int ∨ t = .byte ∨ t = .boolean ∨ t = .long then pm_arr kc ks (pc + 2) (pm_newa h (pm_atype t) st) else none
  | .anewarray i => if (lk i).1 = 10 then pm_arr kc ks (pc + 3) (pm_newa h (.object (cl.getD (lk i).2.1 ("", fun _ => ("", "", "", false), 0)).1) st) else none
  | .invokespecial i => if (lk i).1 = 8 then (pm_oI d st).map (fun st => (kc, ks, pc + 3, st, h)) else none
  | .invokestatic i => if (lk i).1 = 14 ∧ 1 ≤ d then pm_sh kc ks (pc + 3) (pm_copy h st) else if ((lk i).1 = 16 ∨ (lk i).1 = 17) ∧ 1 ≤ d then (pm_mm (lk i).1 st).map (fun st => (kc, ks, pc + 3, st, h)) else none
  | _ => none
/-- the receiver is an object of the class ci -/
def pm_istx : Option ((FieldType × Nat × (Nat → Int32)) ⊕ Nat) → Bool
  | some (.inr _) => true
  | _ => false
def pm_rcv (kt : pm_Kt) (h : pm_H) (ci : Nat) : Option Value → Bool
  | some (.ref k) => if ci = pm_tc then decide (pm_B ≤ k) && pm_istx (kt (k - pm_B)) else decide (h.1[k]? = some (.inr ci))
  | _ => false
def pm_isref : Option Value → Bool
  | some (.ref _) => true
  | _ => false
/-- a call: the method, its arguments, what is left on the stack -/
def pm_cal (kt : pm_Kt) (me : Nat → pm_Me) (lk : Nat → pm_Lk) (kc ks : Nat) (st : List Value) (h : pm_H) : Instr → Option (Nat × List Value × List Value)
  | .invokevirtual i => if ((lk i).1 = 2 ∨ (lk i).1 = 3) ∧ pm_rcv kt h (me (lk i).2.1).2.2.2 st[(me (lk i).2.1).2.2.1]? = true ∧ (me (lk i).2.1).2.1.1 ≤ kc ∧ (me (lk i).2.1).2.1.2 ≤ ks ∧ ((st.drop ((me (lk i).2.1).2.2.1 + 1)).map fun v => v.category).sum ≤ 8 ∧ ((st.take ((me (lk i).2.1).2.2.1 + 1)).map fun v => v.category).sum ≤ (me (lk i).2.1).1.2.2.1 then
      some ((lk i).2.1, (st.take ((me (lk i).2.1).2.2.1 + 1)).reverse, st.drop ((me (lk i).2.1).2.2.1 + 1)) else none
  | .invokespecial i => if ((lk i).1 = 6 ∨ (lk i).1 = 7) ∧ pm_isref st[(me (lk i).2.1).2.2.1]? = true ∧ (me (lk i).2.1).2.1.1 ≤ kc ∧ (me (lk i).2.1).2.1.2 ≤ ks ∧ ((st.drop ((me (lk i).2.1).2.2.1 + 1)).map fun v => v.category).sum ≤ 8 ∧ ((st.take ((me (lk i).2.1).2.2.1 + 1)).map fun v => v.category).sum ≤ (me (lk i).2.1).1.2.2.1 then
      some ((lk i).2.1, (st.take ((me (lk i).2.1).2.2.1 + 1)).reverse, st.drop ((me (lk i).2.1).2.2.1 + 1)) else none
  | .invokestatic i => if ((lk i).1 = 4 ∨ (lk i).1 = 5) ∧ (me (lk i).2.1).2.2.1 ≤ st.length ∧ (me (lk i).2.1).2.1.1 ≤ kc ∧ (me (lk i).2.1).2.1.2 ≤ ks ∧ ((st.drop (me (lk i).2.1).2.2.1).map fun v => v.category).sum ≤ 8 ∧ ((st.take (me (lk i).2.1).2.2.1).map fun v => v.category).sum ≤ (me (lk i).2.1).1.2.2.1 then
      some ((lk i).2.1, (st.take (me (lk i).2.1).2.2.1).reverse, st.drop (me (lk i).2.1).2.2.1) else none
  | _ => none
/-- the end of a method: its answer -/
def pm_ret (rt : Option FieldType) (st : List Value) : Instr → Option (Option Value)
  | .return_ => if rt = none ∧ st = [] then some none else none
  | .ireturn => match rt, st with
    | some ty, [.int x] => if narrow ty (.int x) = .int x then some (some (.int x)) else none
    | _, _ => none
  | .lreturn => match rt, st with
    | some .long, [.long x] => some (some (.long x))
    | _, _ => none
  | .areturn => match rt, st with
    | some (.object _), [.ref x] => some (some (.ref x))
    | some (.object _), [.null] => some (some .null)
    | _, _ => none
  | _ => none
/-- one instruction -/
def pm_one (cl : List vw_C) (ft : Nat → Nat → FieldType) (kt : pm_Kt) (me : Nat → pm_Me) (lk : Nat → Nat → pm_Lk) (d i kc ks pc : Nat) (ls st : List Value) (h : pm_H) (ins : Instr) : Option pm_R :=
  match pm_stk st ins with
  | some (n, st') => some (.inl (kc, ks, pc + n, ls, st', h))
  | none => match pm_ld ls ins with
    | some (n, v) => some (.inl (kc, ks, pc + n, ls, v :: st, h))
    | none => match pm_sto ls st ins with
      | some (n, ls', st') => some (.inl (kc, ks, pc + n, ls', st', h))
      | none => match pm_br h.1.length pc st ins with
        | some (t, st') => some (.inl (kc, ks, t, ls, st', h))
        | none => match pm_hp cl ft kt (me i).1.1 (lk i) d kc ks pc st h ins with
          | some (kc', ks', pc', st', h') => some (.inl (kc', ks', pc', ls, st', h'))
          | none => match pm_cal kt me (lk i) kc ks st h ins with
            | some q => some (.inr (.inr q))
            | none => match pm_ret (me i).1.2.2.2 st ins with
              | some v => some (.inr (.inl v))
              | none => none
/-- how long an instruction is -/
def pm_lok (len : Nat) : Instr → Bool
  | .bipush _ => len == 2
  | .ldc _ => len == 2
  | .iload _ => len == 2
  | .lload _ => len == 2
  | .aload _ => len == 2
  | .istore _ => len == 2
  | .lstore _ => len == 2
  | .astore _ => len == 2
  | .newarray _ => len == 2
  | .sipush _ => len == 3
  | .ldc_w _ => len == 3
  | .ldc2_w _ => len == 3
  | .iinc _ _ => len == 3
  | .ifCond _ _ => len == 3
  | .if_icmp _ _ => len == 3
  | .if_acmp _ _ => len == 3
  | .ifnull _ => len == 3
  | .ifnonnull _ => len == 3
  | .goto _ => len == 3
  | .getfield _ => len == 3
  | .putfield _ => len == 3
  | .getstatic _ => len == 3
  | .new _ => len == 3
  | .anewarray _ => len == 3
  | .invokevirtual _ => len == 3
  | .invokespecial _ => len == 3
  | .invokestatic _ => len == 3
  | .tableswitch _ _ _ _ => true
  | .lookupswitch _ _ => true
  | _ => len == 1
/-- a run of n steps at most, calls d deep at most: answer and heap -/
def pm (cl : List vw_C) (ft : Nat → Nat → FieldType) (kt : pm_Kt) (me : Nat → pm_Me) (lk : Nat → Nat → pm_Lk) : Nat → Nat → Nat → Nat → Nat → Nat → List Value → List Value → pm_H → Option (Option Value × pm_H)
  | 0, _, _, _, _, _, _, _, _ => none
  | n + 1, d, i, kc, ks, pc, ls, st, h =>
    match decode (me i).1.2.1 pc with
    | .error _ => none
    | .ok (ins, len) => if pm_lok len ins = false then none else match pm_one cl ft kt me lk d i kc ks pc ls st h ins with
      | none => none
      | some (.inl (kc', ks', pc', ls', st', h')) => pm cl ft kt me lk n d i kc' ks' pc' ls' st' h'
      | some (.inr (.inl v)) => some (v, h)
      | some (.inr (.inr (j, as, rest))) => match d with
        | 0 => none
        | d' + 1 => match pm cl ft kt me lk n d' j (me j).2.1.1 (me j).2.1.2 0 (pm_ent as (me j).1.2.2.1) [] h with
          | none => none
          | some (v, h') => pm cl ft kt me lk n (d' + 1) i (kc - (me j).2.1.1) (ks - (me j).2.1.2) (pc + 3) ls (v.toList ++ rest) h'
