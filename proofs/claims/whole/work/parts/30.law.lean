/-! THE CLAIM OUT OF ONE WALK OF THE LAW'S BODY. Your part is whole_start (and what it stands on); all else here is the same for every law, but numbers. -/
def R_law : String := "ChoirShipLaw"
def lw_P (b : Addr) (xs : List Int32) (args : Array Value) (s : State) : Prop := args = #[.ref b] ∧ s.IntsAt b xs ∧ xs.length ≤ 3072 ∧ (Jvm.Cond.and given_1 narrow_1).before args s = true
def lw_Q (_ : Array Value) (s : State) (o : Outcome) (t : State) : Prop := o = .returned (some (.int 1)) ∧ Framed s o t [] 600000 7302250
def lw_Z (below : List Frame) (a : Array Value) (s : State) : State → Prop := fun t => ∃ o, t.status = .running ∧ Ended t below o ∧ lw_Q a s o t
/-- the law's own end, with 1 on the stack, nothing written that was there before, its room as the claim has it -/
theorem lw_ret {p : Program} {l : Launch} {e : Env} {s : State} {m : MethodId} {below : List Frame} {meth : Method} {c : Code} {b : Nat} (hx : p.tables.exec = Jvm.exec) (hb : c.code = code) (hr : meth.sig.returnType = ret) (hlocks : meth.locks = false) {pc : Nat} {H : Heap} {ls : Array Slot} (hdg : decode code pc = .ok (.ireturn, 1)) : W p l e room_1 s m #[Value.ref b] below meth c H [] 600000 7302250 (lw_Z below #[Value.ref b] s) (F0 m pc ls [.int 1]) := by
  intro T hT X
  obtain ⟨fs, hret, hrun, hended, hW, hframe⟩ := X.leave (v := some (.int 1)) (hlocks := hlocks) (fun h => by rw [hr] at h; cases h)
  have hmeth' : T.vm.method? m = some meth := X.method'
  refine ⟨T.setFrames fs, ?_, .returned (some (.int 1)), hrun, hended, rfl, ⟨_, rfl⟩, hW, hframe⟩
  jvm_step X.here [X.here.top, hx, hb, hdg, hmeth', hr, ret, narrow_b1]
  (try refine ⟨rfl, ?_⟩); (try refine ⟨rfl, ?_⟩)
  first | (intro acts; rw [hret _ acts rfl rfl rfl]) | rw [hret _ _ rfl rfl rfl]
  exact Steps.refl _
/-- what holds at the law's entry: the machine, the code, the tables' words (any of lw_tbl by 'hts w (by decide +kernel)'), the script of L ints xs at the cell b, what the Statement gives of the start (any of its parts by flat_of_before) -/
def lw_At (p : Program) (s : State) (m : MethodId) (meth : Method) (c : Code) (b L : Nat) (xs : Nat → Int32) : Prop :=
  p.tables.exec = Jvm.exec ∧ c.code = code ∧ meth.sig.returnType = ret ∧ c.maxLocals = 4 ∧ s.vm.findClass R_law = some m.cls ∧ (∀ w ∈ lw_tbl, w.before #[Value.ref b] s = true) ∧ va_X b L xs s s.heap ∧ b < s.heap.size ∧ meth.locks = false ∧ (Jvm.Cond.and given_1 narrow_1).before #[Value.ref b] s = true ∧ meth.name = "law"
def tb_choose : List Int32 := [1, 1, 1, 1, 1, 2, 3, 4, 5, 6, 3, 6, 10, 15, 21, 4, 10, 20, 35, 56, 5, 15, 35, 70, 126, 6, 21, 56, 126, 252, 7, 28, 84, 210, 462, 8, 36, 120, 330, 792, 9, 45, 165, 495, 1287, 10, 55, 220, 715, 2002]
def tb_byt : List (List Int32) := [[115, 104, 105, 112, 32, 109, 97, 110, 32, 111, 114, 100, 101, 114, 32, 109, 101, 97, 110, 115, 32], [119, 97, 107, 101], [109, 97, 110, 32, 119, 111, 114, 100, 32, 98, 101, 114, 116, 104, 32, 104, 111, 117, 114, 32, 119, 105, 110, 100, 32, 97, 119, 97, 107, 101, 32, 115, 105, 99, 107, 32, 116, 105, 114, 101, 100, 32, 115, 97, 109, 101, 32, 110, 101, 101, 100, 32, 99, 114, 101, 119, 32], [105, 102], [110, 111, 116], [97, 110, 100], [111, 114]]
def tb_len : List Nat := [21, 4, 57, 2, 3, 3, 2]
def tb_tm (i : Nat) : Term := match i with
  | 0 => .string "ChoirShip$Ship" 114
  | 1 => .string "ChoirShip$Rule" 34
  | 2 => .string "ChoirShip$Rule" 92
  | 3 => .string "ChoirShip$Rule" 54
  | 4 => .string "ChoirShip$Rule" 78
  | 5 => .string "ChoirShip$Rule" 74
  | _ => .string "ChoirShip$Rule" 76
/-- the constants: the script, CHOOSE, the texts and their bytes -/
def tb_kt (L : Nat) (xs : Nat → Int32) : pm_Kt := fun i => match i with
  | 0 => some (.inl (.int, L, xs))
  | 1 => some (.inl (.int, 50, fun j => tb_choose.getD j 0))
  | 2 => some (.inl (.byte, 21, fun j => (tb_byt.getD 0 []).getD j 0))
  | 3 => some (.inr 2)
  | 4 => some (.inl (.byte, 4, fun j => (tb_byt.getD 1 []).getD j 0))
  | 5 => some (.inr 4)
  | 6 => some (.inl (.byte, 57, fun j => (tb_byt.getD 2 []).getD j 0))
  | 7 => some (.inr 6)
  | 8 => some (.inl (.byte, 2, fun j => (tb_byt.getD 3 []).getD j 0))
  | 9 => some (.inr 8)
  | 10 => some (.inl (.byte, 3, fun j => (tb_byt.getD 4 []).getD j 0))
  | 11 => some (.inr 10)
  | 12 => some (.inl (.byte, 3, fun j => (tb_byt.getD 5 []).getD j 0))
  | 13 => some (.inr 12)
  | 14 => some (.inl (.byte, 2, fun j => (tb_byt.getD 6 []).getD j 0))
  | 15 => some (.inr 14)
  | _ => none
def tb_ak (b tc sio : Nat) (adK adV : Nat → Nat) (i : Nat) : Nat := match i with
  | 0 => b
  | 1 => tc
  | 2 => adV 0
  | 3 => adK 0
  | 4 => adV 1
  | 5 => adK 1
  | 6 => adV 2
  | 7 => adK 2
  | 8 => adV 3
  | 9 => adK 3
  | 10 => adV 4
  | 11 => adK 4
  | 12 => adV 5
  | 13 => adK 5
  | 14 => adV 6
  | 15 => adK 6
  | _ => sio
def tb_ad (b tc sio : Nat) (adK adV : Nat → Nat) (k : Nat) : Nat := tb_ak b tc sio adK adV (k - pm_B)
theorem tb_ad_at (b tc sio : Nat) (adK adV : Nat → Nat) (i : Nat) : tb_ad b tc sio adK adV (pm_B + i) = tb_ak b tc sio adK adV i := by unfold tb_ad; rw [Nat.add_sub_cancel_left]
theorem tb_f1 : ∀ i, i < 7 → Cond.exactly (tb_tm i) "java/lang/String" ∈ flatC (Jvm.Cond.and given_1 narrow_1) := by decide +kernel
theorem tb_f2 : ∀ i, i < 7 → Cond.eq (.field (tb_tm i) "java/lang/String" "coder" "B") (.int 0) ∈ flatC (Jvm.Cond.and given_1 narrow_1) := by decide +kernel
theorem tb_f3 : ∀ i, i < 7 → Cond.arrayOf (.field (tb_tm i) "java/lang/String" "value" "[B") .byte ∈ flatC (Jvm.Cond.and given_1 narrow_1) := by decide +kernel
theorem tb_f4 : ∀ i, i < 7 → Cond.eq (.length (.field (tb_tm i) "java/lang/String" "value" "[B")) (.int (Int32.ofNat (tb_len.getD i 0))) ∈ flatC (Jvm.Cond.and given_1 narrow_1) := by decide +kernel
theorem tb_f5 : ∀ i, i < 7 → ∀ j, j < tb_len.getD i 0 → Cond.eq (.elem (.field (tb_tm i) "java/lang/String" "value" "[B") (.int (Int32.ofNat j))) (.int ((tb_byt.getD i []).getD j 0)) ∈ flatC (Jvm.Cond.and given_1 narrow_1) := by decide +kernel
theorem tb_f6 : ∀ i, i < 7 → ∀ j, j < 7 → i ≠ j → Cond.not (Cond.eq (tb_tm i) (tb_tm j)) ∈ flatC (Jvm.Cond.and given_1 narrow_1) ∨ Cond.not (Cond.eq (tb_tm j) (tb_tm i)) ∈ flatC (Jvm.Cond.and given_1 narrow_1) := by decide +kernel
theorem tb_f7 : ∀ j, j < 50 → Cond.eq (.elem (.static "ChoirShip$Choir" "CHOOSE" "[I") (.int (Int32.ofNat j))) (.int (tb_choose.getD j 0)) ∈ flatC (Jvm.Cond.and given_1 narrow_1) := by decide +kernel
theorem tb_f8 : Cond.arrayOf (.static "ChoirShip$Choir" "CHOOSE" "[I") .int ∈ flatC (Jvm.Cond.and given_1 narrow_1) ∧ Cond.eq (.length (.static "ChoirShip$Choir" "CHOOSE" "[I")) (.int (Int32.ofNat 50)) ∈ flatC (Jvm.Cond.and given_1 narrow_1) ∧ Cond.eq (.static "java/lang/String" "COMPACT_STRINGS" "Z") (.int 1) ∈ flatC (Jvm.Cond.and given_1 narrow_1) ∧ Cond.isRef (.static "jdk/internal/util/Preconditions" "SIOOBE_FORMATTER" "Ljava/util/function/BiFunction;") ∈ flatC (Jvm.Cond.and given_1 narrow_1) := by decide +kernel
theorem tb_g1 : ∀ w ∈ tb_nw, Cond.methodLinkNest w.1 w.2.1 w.2.2.1 w.2.2.2 ∈ lw_tbl := by decide +kernel
theorem tb_g2 : ∀ C ∈ tb_ao, Cond.arrayOver (.object C) ∈ lw_tbl := by decide +kernel
theorem tb_g3 : ∀ t ∈ tb_tx, Cond.stringRef t.1 t.2.1 t.2.2.1 ∈ lw_tbl := by decide +kernel
theorem tb_g4 : Cond.laysStatic "ChoirShip$Choir" "CHOOSE" "[I" ∈ lw_tbl ∧ Cond.laysStatic "java/lang/String" "COMPACT_STRINGS" "Z" ∈ lw_tbl ∧ Cond.laysStatic "jdk/internal/util/Preconditions" "SIOOBE_FORMATTER" "Ljava/util/function/BiFunction;" ∈ lw_tbl ∧ Cond.initialized "ChoirShip$Choir" ∈ lw_tbl ∧ Cond.initialized "java/lang/String" ∈ lw_tbl ∧ Cond.initialized "jdk/internal/util/Preconditions" ∈ lw_tbl := by decide +kernel
def tb_h0 : pm_H := ([], fun _ _ => 0, fun _ _ => 0, fun _ _ => none)
/-- what is left: the pure run of the law, for every script -/
def tb_Claim : Prop := ∀ (b : Bool) (L : Nat) (xs : Nat → Int32), L ≤ 3072 → pm_W tb_cl tb_ft (tb_kt L xs) tb_me (tb_lk b) 100 0 214 18015 0 (pm_ent [.ref pm_B] 4) [] tb_h0 (fun v _ => v = some (.int 1))
