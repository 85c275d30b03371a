/-! The pure machine, part 2: its instructions. -/
/-- a link of the constant pool: its kind, two numbers, an int, a long. Kinds: 1 field (class, place); 2 method; 3 method of a nest mate; 4 static; 5 static of a nest mate; 6 constructor; 7 constructor of a nest mate; 8 Object's constructor; 9 class to be made; 10 class of a row's elements; 11 int; 12 long; 13 text (constant); 14 arraycopy; 15 a static row (constant); 16 Math.max; 17 Math.min; 18 a text's coder (0) or bytes (1); 19 a static number; 20 a static that is null -/
abbrev pm_Lk : Type := Nat × Nat × Nat × Int32 × Int64
/-- a method: (name, code, locals, answer), (cells, slots that it makes), (parameters, class) -/
abbrev pm_Me : Type := (MethodName × ByteArray × Nat × Option FieldType) × (Nat × Nat) × (Nat × Nat)
/-- constants: rows of numbers, texts (by the number of the row of their bytes) -/
abbrev pm_Kt : Type := Nat → Option ((FieldType × Nat × (Nat → Int32)) ⊕ Nat)
abbrev pm_R : Type := (Nat × Nat × Nat × List Value × List Value × pm_H) ⊕ (Option Value) ⊕ (Nat × List Value × List Value)
def pm_jk : Value → Bool
  | .retAddr _ => true
  | _ => false
def pm_pre (ls : List Value) : Nat → List Value
  | 0 => ls
  | i + 1 => if (ls.getD i .null).category = 2 then ls.set i (.retAddr 0) else ls
def pm_st1 (ls : List Value) (i : Nat) (v : Value) : List Value := (pm_pre ls i).set i v
def pm_st2 (ls : List Value) (i : Nat) (v : Value) : List Value := (pm_st1 ls i v).set (i + 1) (.retAddr 0)
def pm_ent (args : List Value) (n : Nat) : List Value := (args.flatMap fun v => if v.category = 2 then [v, .retAddr 0] else [v]) ++ List.replicate (n - (args.map fun v => v.category).sum) (.retAddr 0)
def pm_to (pc : Nat) (off : Int) : Option Nat := if 0 ≤ (pc : Int) + off then some ((pc : Int) + off).toNat else none
def pm_i1 (f : Int32 → Int32) : List Value → Option (Nat × List Value)
  | .int x :: r => some (1, .int (f x) :: r)
  | _ => none
def pm_i2 (f : Int32 → Int32 → Int32) : List Value → Option (Nat × List Value)
  | .int y :: .int x :: r => some (1, .int (f x y) :: r)
  | _ => none
def pm_d2 (f : Int32 → Int32 → Int32) : List Value → Option (Nat × List Value)
  | .int y :: .int x :: r => if y = 0 then none else some (1, .int (f x y) :: r)
  | _ => none
def pm_l2 (f : Int64 → Int64 → Int64) : List Value → Option (Nat × List Value)
  | .long y :: .long x :: r => some (1, .long (f x y) :: r)
  | _ => none
def pm_ld2 (f : Int64 → Int64 → Int64) : List Value → Option (Nat × List Value)
  | .long y :: .long x :: r => if y = 0 then none else some (1, .long (f x y) :: r)
  | _ => none
def pm_i2l : List Value → Option (Nat × List Value)
  | .int x :: r => some (1, .long x.toInt64 :: r)
  | _ => none
def pm_l2i : List Value → Option (Nat × List Value)
  | .long x :: r => some (1, .int x.toInt32 :: r)
  | _ => none
def pm_lcmp : List Value → Option (Nat × List Value)
  | .long y :: .long x :: r => some (1, .int (lg_cmp x y) :: r)
  | _ => none
def pm_lshl : List Value → Option (Nat × List Value)
  | .int y :: .long x :: r => some (1, .long (x <<< (y.toInt64 &&& 63)) :: r)
  | _ => none
def pm_dup : List Value → Option (Nat × List Value)
  | v :: r => if v.category = 1 then some (1, v :: v :: r) else none
  | _ => none
def pm_pop : List Value → Option (Nat × List Value)
  | v :: r => if v.category = 1 then some (1, r) else none
  | _ => none
def pm_dup2 : List Value → Option (Nat × List Value)
  | v :: w :: r => if v.category = 1 ∧ w.category = 1 then some (1, v :: w :: v :: w :: r) else none
  | _ => none
/-- what only the stack takes part in -/
def pm_stk (st : List Value) : Instr → Option (Nat × List Value)
  | .iconst n => some (1, .int (Int32.ofInt n) :: st)
  | .bipush n => some (2, .int (Int8.ofInt n).toInt32 :: st)
  | .sipush n => some (3, .int (Int16.ofInt n).toInt32 :: st)
  | .lconst n => some (1, .long (Int64.ofNat (n : Nat)) :: st)
  | .aconst_null => some (1, .null :: st)
  | .iadd => pm_i2 (fun x y => x + y) st
  | .isub => pm_i2 (fun x y => x - y) st
  | .imul => pm_i2 (fun x y => x * y) st
  | .iand => pm_i2 (fun x y => x &&& y) st
  | .ior => pm_i2 (fun x y => x ||| y) st
  | .ixor => pm_i2 (fun x y => x ^^^ y) st
  | .ishl => pm_i2 (fun x y => x <<< (y &&& 31)) st
  | .ishr => pm_i2 (fun x y => x >>> (y &&& 31)) st
  | .iushr => pm_i2 (fun x y => (x.toUInt32 >>> (y.toUInt32 &&& Int32.toUInt32 31)).toInt32) st
  | .idiv => pm_d2 (fun x y => x / y) st
  | .irem => pm_d2 (fun x y => x - x / y * y) st
  | .ineg => pm_i1 (fun x => -x) st
  | .i2b => pm_i1 (fun x => x.toInt8.toInt32) st
  | .i2c => pm_i1 (fun x => (x.toUInt32 % 65536).toInt32) st
  | .ladd => pm_l2 (fun x y => x + y) st
  | .lsub => pm_l2 (fun x y => x - y) st
  | .lmul => pm_l2 (fun x y => x * y) st
  | .land => pm_l2 (fun x y => x &&& y) st
  | .lor => pm_l2 (fun x y => x ||| y) st
  | .ldiv => pm_ld2 (fun x y => x / y) st
  | .lrem => pm_ld2 (fun x y => x - x / y * y) st
  | .i2l => pm_i2l st
  | .l2i => pm_l2i st
  | .lcmp => pm_lcmp st
  | .lshl => pm_lshl st
  | .dup => pm_dup st
  | .pop => pm_pop st
  | .dup2 => pm_dup2 st
  | _ => none
def pm_lI (len : Nat) : Option Value → Option (Nat × Value)
  | some (.int x) => some (len, .int x)
  | _ => none
def pm_lL (len : Nat) : Option Value → Option (Nat × Value)
  | some (.long x) => some (len, .long x)
  | _ => none
def pm_lA (len : Nat) : Option Value → Option (Nat × Value)
  | some (.ref x) => some (len, .ref x)
  | some .null => some (len, .null)
  | _ => none
/-- loads -/
def pm_ld (ls : List Value) : Instr → Option (Nat × Value)
  | .iload i => pm_lI 2 ls[i]?
  | .iload_n k => pm_lI 1 ls[(k : Nat)]?
  | .lload i => pm_lL 2 ls[i]?
  | .lload_n k => pm_lL 1 ls[(k : Nat)]?
  | .aload i => pm_lA 2 ls[i]?
  | .aload_n k => pm_lA 1 ls[(k : Nat)]?
  | _ => none
def pm_sI (len : Nat) (ls : List Value) (i : Nat) : List Value → Option (Nat × List Value × List Value)
  | .int x :: r => if i < ls.length then some (len, pm_st1 ls i (.int x), r) else none
  | _ => none
def pm_sL (len : Nat) (ls : List Value) (i : Nat) : List Value → Option (Nat × List Value × List Value)
  | .long x :: r => if i + 1 < ls.length then some (len, pm_st2 ls i (.long x), r) else none
  | _ => none
def pm_sA (len : Nat) (ls : List Value) (i : Nat) : List Value → Option (Nat × List Value × List Value)
  | .ref x :: r => if i < ls.length then some (len, pm_st1 ls i (.ref x), r) else none
  | .null :: r => if i < ls.length then some (len, pm_st1 ls i .null, r) else none
  | _ => none
def pm_inc (ls : List Value) (i : Nat) (n : Int) (st : List Value) : Option Value → Option (Nat × List Value × List Value)
  | some (.int x) => some (3, pm_st1 ls i (.int (x + Int32.ofInt n)), st)
  | _ => none
/-- stores -/
def pm_sto (ls st : List Value) : Instr → Option (Nat × List Value × List Value)
  | .istore i => pm_sI 2 ls i st
  | .istore_n k => pm_sI 1 ls (k : Nat) st
  | .lstore i => pm_sL 2 ls i st
  | .lstore_n k => pm_sL 1 ls (k : Nat) st
  | .astore i => pm_sA 2 ls i st
  | .astore_n k => pm_sA 1 ls (k : Nat) st
  | .iinc i n => pm_inc ls i n st ls[i]?
  | _ => none
def pm_cI (pc : Nat) (off : Int) (c : Int32 → Bool) : List Value → Option (Nat × List Value)
  | .int x :: r => (pm_to pc off).map (fun t => (if c x = true then t else pc + 3, r))
  | _ => none
def pm_cII (pc : Nat) (off : Int) (c : Int32 → Int32 → Bool) : List Value → Option (Nat × List Value)
  | .int y :: .int x :: r => (pm_to pc off).map (fun t => (if c x y = true then t else pc + 3, r))
  | _ => none
/-- two references: of cells that are there -/
def pm_cA (N pc : Nat) (off : Int) (same : Bool) : List Value → Option (Nat × List Value)
  | .ref y :: .ref x :: r => if x < N ∧ y < N then (pm_to pc off).map (fun t => (if decide (x = y) = same then t else pc + 3, r)) else none
  | .null :: .ref _ :: r => (pm_to pc off).map (fun t => (if false = same then t else pc + 3, r))
  | .ref _ :: .null :: r => (pm_to pc off).map (fun t => (if false = same then t else pc + 3, r))
  | .null :: .null :: r => (pm_to pc off).map (fun t => (if true = same then t else pc + 3, r))
  | _ => none
def pm_cN (pc : Nat) (off : Int) (nul : Bool) : List Value → Option (Nat × List Value)
  | .ref _ :: r => (pm_to pc off).map (fun t => (if nul = true then pc + 3 else t, r))
  | .null :: r => (pm_to pc off).map (fun t => (if nul = true then t else pc + 3, r))
  | _ => none
def pm_tab (pc : Nat) (dflt lo hi : Int) (offs : Array Int) : List Value → Option (Nat × List Value)
  | .int x :: r => if x.toInt < lo ∨ hi < x.toInt then (pm_to pc dflt).map (fun t => (t, r)) else (offs[(x.toInt - lo).toNat]?).bind (fun o => (pm_to pc o).map (fun t => (t, r)))
  | _ => none
def pm_look (pc : Nat) (dflt : Int) (ps : Array (Int × Int)) : List Value → Option (Nat × List Value)
  | .int x :: r => if (ps.toList.zip (ps.toList.drop 1)).all (fun (a, next) => a.1 < next.1) then (pm_to pc (Op.lookupswitch.offset ps.toList dflt x.toInt)).map (fun t => (t, r)) else none
  | _ => none
/-- jumps -/
def pm_br (N pc : Nat) (st : List Value) : Instr → Option (Nat × List Value)
  | .goto off => (pm_to pc off).map (fun t => (t, st))
  | .ifCond .eq off => pm_cI pc off (fun x => decide (x = 0)) st
  | .ifCond .ne off => pm_cI pc off (fun x => decide (¬ x = 0)) st
  | .ifCond .lt off => pm_cI pc off (fun x => decide (x < 0)) st
  | .ifCond .ge off => pm_cI pc off (fun x => decide (0 ≤ x)) st
  | .ifCond .gt off => pm_cI pc off (fun x => decide (0 < x)) st
  | .ifCond .le off => pm_cI pc off (fun x => decide (x ≤ 0)) st
  | .if_icmp .eq off => pm_cII pc off (fun x y => decide (x = y)) st
  | .if_icmp .ne off => pm_cII pc off (fun x y => decide (¬ x = y)) st
  | .if_icmp .lt off => pm_cII pc off (fun x y => decide (x < y)) st
  | .if_icmp .ge off => pm_cII pc off (fun x y => decide (y ≤ x)) st
  | .if_icmp .gt off => pm_cII pc off (fun x y => decide (y < x)) st
  | .if_icmp .le off => pm_cII pc off (fun x y => decide (x ≤ y)) st
  | .if_acmp .eq off => pm_cA N pc off true st
  | .if_acmp .ne off => pm_cA N pc off false st
  | .ifnull off => pm_cN pc off true st
  | .ifnonnull off => pm_cN pc off false st
  | .tableswitch dflt lo hi offs => pm_tab pc dflt lo hi offs st
  | .lookupswitch dflt ps => pm_look pc dflt ps st
  | _ => none
/-- a field's value in the pure heap -/
def pm_fg (h : pm_H) (ty : FieldType) (k j : Nat) : Value :=
  if ty = .long then .long (h.2.2.1 k j) else if pm_isR ty then va_rf (h.2.2.2 k j) else .int (h.2.1 k j)
def pm_get (cl : List vw_C) (ft : Nat → Nat → FieldType) (h : pm_H) (ci j : Nat) : List Value → Option (List Value)
  | .ref k :: r => if h.1[k]? = some (.inr ci) ∧ j < (cl.getD ci ("", fun _ => ("", "", "", false), 0)).2.2 then some (pm_fg h (ft ci j) k j :: r) else none
  | _ => none
/-- may a field be written here? a final one in a constructor of its own class -/
def pm_fin (cl : List vw_C) (mi : MethodName) (ci j : Nat) : Bool := !((cl.getD ci ("", fun _ => ("", "", "", false), 0)).2.1 j).2.2.2 || (decide (mi.name = "<init>") && decide (((cl.getD ci ("", fun _ => ("", "", "", false), 0)).2.1 j).1 = mi.cls))
def pm_put (cl : List vw_C) (ft : Nat → Nat → FieldType) (mi : MethodName) (h : pm_H) (ci j : Nat) : List Value → Option (List Value × pm_H)
  | .int x :: .ref k :: r => if (h.1[k]? = some (.inr ci) ∧ j < (cl.getD ci ("", fun _ => ("", "", "", false), 0)).2.2) ∧ pm_fin cl mi ci j = true ∧ narrow (ft ci j) (.int x) = .int x ∧ fits (ft ci j) (.int x) = true then some (r, pm_setI h k j x) else none
  | .long x :: .ref k :: r => if (h.1[k]? = some (.inr ci) ∧ j < (cl.getD ci ("", fun _ => ("", "", "", false), 0)).2.2) ∧ pm_fin cl mi ci j = true ∧ ft ci j = .long then some (r, pm_setL h k j x) else none
  | .ref x :: .ref k :: r => if (h.1[k]? = some (.inr ci) ∧ j < (cl.getD ci ("", fun _ => ("", "", "", false), 0)).2.2) ∧ pm_fin cl mi ci j = true ∧ pm_isR (ft ci j) = true then some (r, pm_setR h k j (some x)) else none
  | .null :: .ref k :: r => if (h.1[k]? = some (.inr ci) ∧ j < (cl.getD ci ("", fun _ => ("", "", "", false), 0)).2.2) ∧ pm_fin cl mi ci j = true ∧ pm_isR (ft ci j) = true then some (r, pm_setR h k j none) else none
  | _ => none
/-- an int out of a row of ints, bytes or booleans, own or constant -/
def pm_aldI (kt : pm_Kt) (h : pm_H) (ok : FieldType → Bool) : List Value → Option (List Value)
  | .int i :: .ref k :: r => match h.1[k]? with
    | some (.inl (ty, len)) => if ok ty = true ∧ ¬ (i < 0 ∨ len ≤ i.toNatClampNeg) then some (.int (h.2.1 k i.toNatClampNeg) :: r) else none
    | some (.inr _) => none
    | none => if pm_B ≤ k then (match kt (k - pm_B) with
      | some (.inl (ty, len, f)) => if ok ty = true ∧ ¬ (i < 0 ∨ len ≤ i.toNatClampNeg) then some (.int (f i.toNatClampNeg) :: r) else none
      | _ => none) else none
  | _ => none
def pm_aldL (h : pm_H) : List Value → Option (List Value)
  | .int i :: .ref k :: r => match h.1[k]? with
    | some (.inl (.long, len)) => if ¬ (i < 0 ∨ len ≤ i.toNatClampNeg) then some (.long (h.2.2.1 k i.toNatClampNeg) :: r) else none
    | _ => none
  | _ => none
def pm_aldR (h : pm_H) : List Value → Option (List Value)
  | .int i :: .ref k :: r => match h.1[k]? with
    | some (.inl (.object _, len)) => if ¬ (i < 0 ∨ len ≤ i.toNatClampNeg) then some (va_rf (h.2.2.2 k i.toNatClampNeg) :: r) else none
    | _ => none
  | _ => none
def pm_alen (kt : pm_Kt) (h : pm_H) : List Value → Option (List Value)
  | .ref k :: r => match h.1[k]? with
    | some (.inl (_, len)) => some (.int (Int32.ofNat len) :: r)
    | some (.inr _) => none
    | none => if pm_B ≤ k then (match kt (k - pm_B) with
      | some (.inl (_, len, _)) => some (.int (Int32.ofNat len) :: r)
      | _ => none) else none
  | _ => none
def pm_astI (h : pm_H) (ok : FieldType → Bool) : List Value → Option (List Value × pm_H)
  | .int x :: .int i :: .ref k :: r => match h.1[k]? with
    | some (.inl (ty, len)) => if ok ty = true ∧ ¬ (i < 0 ∨ len ≤ i.toNatClampNeg) then some (r, pm_setI h k i.toNatClampNeg (vp_nar ty x)) else none
    | _ => none
  | _ => none
def pm_astL (h : pm_H) : List Value → Option (List Value × pm_H)
  | .long x :: .int i :: .ref k :: r => match h.1[k]? with
    | some (.inl (.long, len)) => if ¬ (i < 0 ∨ len ≤ i.toNatClampNeg) then some (r, pm_setL h k i.toNatClampNeg x) else none
    | _ => none
  | _ => none
def pm_astR (cl : List vw_C) (h : pm_H) : List Value → Option (List Value × pm_H)
  | .ref x :: .int i :: .ref k :: r => match h.1[k]?, h.1[x]? with
    | some (.inl (.object C, len)), some (.inr ci) => if (cl[ci]?).map (fun q => q.1) = some C ∧ ¬ (i < 0 ∨ len ≤ i.toNatClampNeg) then some (r, pm_setR h k i.toNatClampNeg (some x)) else none
    | _, _ => none
  | _ => none
def pm_newa (h : pm_H) (ty : FieldType) : List Value → Option (Nat × List Value × pm_H)
  | .int n :: r => if ¬ n < 0 ∧ n.toNatClampNeg ≤ 60000 ∧ h.1.length < pm_B then some (n.toNatClampNeg, .ref h.1.length :: r, pm_mk h (.inl (ty, n.toNatClampNeg))) else none
  | _ => none
/-- System.arraycopy over rows of ints of the world -/
def pm_copy (h : pm_H) : List Value → Option (List Value × pm_H)
  | .int n :: .int dp :: .ref b :: .int sp :: .ref a :: r => match h.1[a]?, h.1[b]? with
    | some (.inl (.int, la)), some (.inl (.int, lb)) => if ¬ sp < 0 ∧ ¬ dp < 0 ∧ ¬ n < 0 ∧ sp.toNatClampNeg + n.toNatClampNeg ≤ la ∧ dp.toNatClampNeg + n.toNatClampNeg ≤ lb ∧ (r.map fun v => v.category).sum ≤ 8 then some (r, pm_rowI h b (va_cpy (h.2.1 a) (h.2.1 b) sp.toNatClampNeg dp.toNatClampNeg n.toNatClampNeg)) else none
    | _, _ => none
  | _ => none
