/-! The tables of this program, for the pure machine: written by wip/gen2.py out of the claim. -/
def tb_Tg : List Cond := lw_tbl.filter goodWord
theorem tb_good : ∀ w ∈ tb_Tg, goodWord w = true := fun w h => (List.mem_filter.mp h).2
theorem tb_in {w : Cond} (k : Nat) (h : lw_tbl[k]? = some w) (g : goodWord w = true) : w ∈ tb_Tg := List.mem_filter.mpr ⟨List.mem_of_getElem? h, g⟩
def tb_T0 : u_T := fun k => match k with
  | 0 => ("ChoirShip", "tape", "LChoirShip$Tape;", true)
  | 1 => ("ChoirShip", "rules", "[LChoirShip$Rule;", true)
  | 2 => ("ChoirShip", "ruleCount", "I", false)
  | 3 => ("ChoirShip", "hulls", "[LChoirShip$Ship;", true)
  | 4 => ("ChoirShip", "now", "LChoirShip$World;", true)
  | 5 => ("ChoirShip", "images", "[LChoirShip$World;", true)
  | 6 => ("ChoirShip", "past", "LChoirShip$Past;", true)
  | 7 => ("ChoirShip", "asker", "LChoirShip$Asker;", true)
  | _ => ("ChoirShip", "row", "[I", true)
def tb_T1 : u_T := fun k => match k with
  | 0 => ("ChoirShip$Asker", "choir", "LChoirShip$Choir;", true)
  | 1 => ("ChoirShip$Asker", "rows", "LChoirShip$Rows;", true)
  | 2 => ("ChoirShip$Asker", "best", "[I", true)
  | 3 => ("ChoirShip$Asker", "bestLength", "I", false)
  | 4 => ("ChoirShip$Asker", "tried", "[I", true)
  | 5 => ("ChoirShip$Asker", "lackCount", "I", false)
  | 6 => ("ChoirShip$Asker", "lackFirst", "I", false)
  | 7 => ("ChoirShip$Asker", "lackSecond", "I", false)
  | 8 => ("ChoirShip$Asker", "spare", "[I", true)
  | 9 => ("ChoirShip$Asker", "nearOrder", "I", false)
  | 10 => ("ChoirShip$Asker", "nearChanges", "I", false)
  | 11 => ("ChoirShip$Asker", "changes", "[I", true)
  | 12 => ("ChoirShip$Asker", "sets", "I", false)
  | 13 => ("ChoirShip$Asker", "inAll", "I", false)
  | 14 => ("ChoirShip$Asker", "inNone", "I", false)
  | 15 => ("ChoirShip$Asker", "saidBy", "[I", true)
  | 16 => ("ChoirShip$Asker", "unsaid", "I", false)
  | 17 => ("ChoirShip$Asker", "unsaidNeed", "I", false)
  | 18 => ("ChoirShip$Asker", "x", "I", false)
  | _ => ("ChoirShip$Asker", "sailing", "LChoirShip$Hands;", true)
def tb_T2 : u_T := fun k => match k with
  | 0 => ("ChoirShip$Choir", "ship", "LChoirShip$Ship;", false)
  | 1 => ("ChoirShip$Choir", "rows", "LChoirShip$Rows;", true)
  | 2 => ("ChoirShip$Choir", "exact", "[I", true)
  | 3 => ("ChoirShip$Choir", "reach", "[I", true)
  | 4 => ("ChoirShip$Choir", "filled", "I", false)
  | _ => ("ChoirShip$Choir", "bag", "[I", true)
def tb_T3 : u_T := fun k => match k with
  | 0 => ("ChoirShip$Hands", "awake", "I", false)
  | 1 => ("ChoirShip$Hands", "dead", "I", false)
  | 2 => ("ChoirShip$Hands", "hour", "I", false)
  | 3 => ("ChoirShip$Hands", "wind", "I", false)
  | 4 => ("ChoirShip$Hands", "boy", "I", false)
  | 5 => ("ChoirShip$Hands", "sick", "[I", true)
  | _ => ("ChoirShip$Hands", "tired", "[I", true)
def tb_T4 : u_T := fun k => match k with
  | 0 => ("ChoirShip$Past", "ring", "[LChoirShip$Hands;", true)
  | 1 => ("ChoirShip$Past", "last", "I", false)
  | _ => ("ChoirShip$Past", "held", "I", false)
def tb_T5 : u_T := fun k => match k with
  | 0 => ("ChoirShip$Rows", "ship", "LChoirShip$Ship;", false)
  | 1 => ("ChoirShip$Rows", "words", "[I", true)
  | 2 => ("ChoirShip$Rows", "place", "[I", true)
  | 3 => ("ChoirShip$Rows", "next", "[I", true)
  | 4 => ("ChoirShip$Rows", "root", "I", false)
  | 5 => ("ChoirShip$Rows", "fresh", "Z", false)
  | _ => ("ChoirShip$Rows", "length", "I", false)
def tb_T6 : u_T := fun k => match k with
  | 0 => ("ChoirShip$Rule", "steps", "[I", true)
  | 1 => ("ChoirShip$Rule", "size", "I", false)
  | 2 => ("ChoirShip$Rule", "parts", "I", false)
  | 3 => ("ChoirShip$Rule", "values", "[J", true)
  | _ => ("ChoirShip$Rule", "top", "I", false)
def tb_T7 : u_T := fun k => match k with
  | 0 => ("ChoirShip$Ship", "words", "I", false)
  | 1 => ("ChoirShip$Ship", "men", "I", false)
  | 2 => ("ChoirShip$Ship", "orders", "I", false)
  | 3 => ("ChoirShip$Ship", "meanings", "I", false)
  | 4 => ("ChoirShip$Ship", "word", "[I", true)
  | 5 => ("ChoirShip$Ship", "berth", "[I", true)
  | 6 => ("ChoirShip$Ship", "need", "[I", true)
  | 7 => ("ChoirShip$Ship", "length", "[I", true)
  | 8 => ("ChoirShip$Ship", "rows", "[I", true)
  | 9 => ("ChoirShip$Ship", "one", "[I", true)
  | 10 => ("ChoirShip$Ship", "other", "[I", true)
  | 11 => ("ChoirShip$Ship", "third", "[I", true)
  | _ => ("ChoirShip$Ship", "together", "[I", true)
def tb_T8 : u_T := fun k => match k with
  | 0 => ("ChoirShip$Tape", "bytes", "[I", true)
  | 1 => ("ChoirShip$Tape", "length", "I", false)
  | 2 => ("ChoirShip$Tape", "kind", "I", false)
  | 3 => ("ChoirShip$Tape", "place", "I", false)
  | 4 => ("ChoirShip$Tape", "behind", "I", false)
  | 5 => ("ChoirShip$Tape", "size", "I", false)
  | 6 => ("ChoirShip$Tape", "number", "I", false)
  | _ => ("ChoirShip$Tape", "fault", "I", false)
def tb_T9 : u_T := fun k => match k with
  | 0 => ("ChoirShip$World", "ship", "LChoirShip$Ship;", false)
  | 1 => ("ChoirShip$World", "hands", "LChoirShip$Hands;", true)
  | 2 => ("ChoirShip$World", "doneCount", "I", false)
  | 3 => ("ChoirShip$World", "doneOrder", "[I", true)
  | 4 => ("ChoirShip$World", "doneSaid", "I", false)
  | 5 => ("ChoirShip$World", "x", "I", false)
  | _ => ("ChoirShip$World", "made", "Z", false)
def tb_T10 : u_T := fun k => match k with
  | 0 => ("ChoirShipModel", "tape", "[B", true)
  | 1 => ("ChoirShipModel", "taped", "I", false)
  | 2 => ("ChoirShipModel", "rules", "I", false)
  | 3 => ("ChoirShipModel", "sign", "[I", true)
  | 4 => ("ChoirShipModel", "length", "[I", true)
  | 5 => ("ChoirShipModel", "clause", "[I", true)
  | 6 => ("ChoirShipModel", "clauses", "[I", true)
  | 7 => ("ChoirShipModel", "read", "[I", true)
  | 8 => ("ChoirShipModel", "next", "I", false)
  | 9 => ("ChoirShipModel", "wrong", "I", false)
  | 10 => ("ChoirShipModel", "number", "I", false)
  | 11 => ("ChoirShipModel", "text", "I", false)
  | 12 => ("ChoirShipModel", "made", "I", false)
  | 13 => ("ChoirShipModel", "deep", "I", false)
  | 14 => ("ChoirShipModel", "lines", "I", false)
  | 15 => ("ChoirShipModel", "open", "[I", true)
  | 16 => ("ChoirShipModel", "opened", "I", false)
  | 17 => ("ChoirShipModel", "stack", "[J", true)
  | 18 => ("ChoirShipModel", "top", "I", false)
  | 19 => ("ChoirShipModel", "word", "[J", true)
  | 20 => ("ChoirShipModel", "said", "[I", true)
  | 21 => ("ChoirShipModel", "x", "I", false)
  | 22 => ("ChoirShipModel", "heard", "[I", true)
  | 23 => ("ChoirShipModel", "heardMany", "I", false)
  | 24 => ("ChoirShipModel", "row", "[I", true)
  | 25 => ("ChoirShipModel", "moreWord", "[I", true)
  | 26 => ("ChoirShipModel", "says", "[I", true)
  | 27 => ("ChoirShipModel", "wasSaid", "[I", true)
  | 28 => ("ChoirShipModel", "undone", "I", false)
  | 29 => ("ChoirShipModel", "changes", "[I", true)
  | 30 => ("ChoirShipModel", "kept", "[I", true)
  | 31 => ("ChoirShipModel", "drawX", "J", false)
  | 32 => ("ChoirShipModel", "images", "[I", true)
  | 33 => ("ChoirShipModel", "imageX", "[I", true)
  | _ => ("ChoirShipModel", "isMade", "[Z", true)
def tb_cl : List vw_C := [("ChoirShip", tb_T0, 9), ("ChoirShip$Asker", tb_T1, 20), ("ChoirShip$Choir", tb_T2, 6), ("ChoirShip$Hands", tb_T3, 7), ("ChoirShip$Past", tb_T4, 3), ("ChoirShip$Rows", tb_T5, 7), ("ChoirShip$Rule", tb_T6, 5), ("ChoirShip$Ship", tb_T7, 13), ("ChoirShip$Tape", tb_T8, 8), ("ChoirShip$World", tb_T9, 7), ("ChoirShipModel", tb_T10, 35)]
def tb_fts : List (List FieldType) := [[.object "ChoirShip$Tape", .array (.object "ChoirShip$Rule"), .int, .array (.object "ChoirShip$Ship"), .object "ChoirShip$World", .array (.object "ChoirShip$World"), .object "ChoirShip$Past", .object "ChoirShip$Asker", .array .int], [.object "ChoirShip$Choir", .object "ChoirShip$Rows", .array .int, .int, .array .int, .int, .int, .int, .array .int, .int, .int, .array .int, .int, .int, .int, .array .int, .int, .int, .int, .object "ChoirShip$Hands"], [.object "ChoirShip$Ship", .object "ChoirShip$Rows", .array .int, .array .int, .int, .array .int], [.int, .int, .int, .int, .int, .array .int, .array .int], [.array (.object "ChoirShip$Hands"), .int, .int], [.object "ChoirShip$Ship", .array .int, .array .int, .array .int, .int, .boolean, .int], [.array .int, .int, .int, .array .long, .int], [.int, .int, .int, .int, .array .int, .array .int, .array .int, .array .int, .array .int, .array .int, .array .int, .array .int, .array .int], [.array .int, .int, .int, .int, .int, .int, .int, .int], [.object "ChoirShip$Ship", .object "ChoirShip$Hands", .int, .array .int, .int, .int, .boolean], [.array .byte, .int, .int, .array .int, .array .int, .array .int, .array .int, .array .int, .int, .int, .int, .int, .int, .int, .int, .array .int, .int, .array .long, .int, .array .long, .array .int, .int, .array .int, .int, .array .int, .array .int, .array .int, .array .int, .int, .array .int, .array .int, .long, .array .int, .array .int, .array .boolean]]
def tb_ft (c k : Nat) : FieldType := (tb_fts.getD c []).getD k .int
theorem tb_w0 : ∀ w ∈ u_ws "ChoirShip" tb_T0 9, w ∈ tb_Tg := by
  intro w hw
  obtain ⟨j, hj, rfl⟩ := List.mem_map.mp hw
  have hj := List.mem_range.mp hj
  match j, hj with
  | 0, _ => exact tb_in 521 (by decide +kernel) (by decide +kernel)
  | 1, _ => exact tb_in 523 (by decide +kernel) (by decide +kernel)
  | 2, _ => exact tb_in 525 (by decide +kernel) (by decide +kernel)
  | 3, _ => exact tb_in 527 (by decide +kernel) (by decide +kernel)
  | 4, _ => exact tb_in 529 (by decide +kernel) (by decide +kernel)
  | 5, _ => exact tb_in 531 (by decide +kernel) (by decide +kernel)
  | 6, _ => exact tb_in 533 (by decide +kernel) (by decide +kernel)
  | 7, _ => exact tb_in 535 (by decide +kernel) (by decide +kernel)
  | 8, _ => exact tb_in 537 (by decide +kernel) (by decide +kernel)
  | j + 9, h => exact absurd h (by omega)
theorem tb_p0 : ∀ k, k < 9 → parseFieldDescriptor (tb_T0 k).2.2.1 = some (tb_ft 0 k) := by decide +kernel
theorem tb_n0 : ∀ a, a < 9 → ∀ b, b < 9 → a ≠ b → (tb_T0 a).2.1 ≠ (tb_T0 b).2.1 := by decide +kernel
theorem tb_d0 : ∀ k, k < 9 → defaultValue (tb_ft 0 k) = if tb_ft 0 k = .long then .long 0 else if pm_isR (tb_ft 0 k) = true then .null else .int 0 := by decide +kernel
theorem tb_w1 : ∀ w ∈ u_ws "ChoirShip$Asker" tb_T1 20, w ∈ tb_Tg := by
  intro w hw
  obtain ⟨j, hj, rfl⟩ := List.mem_map.mp hw
  have hj := List.mem_range.mp hj
  match j, hj with
  | 0, _ => exact tb_in 340 (by decide +kernel) (by decide +kernel)
  | 1, _ => exact tb_in 342 (by decide +kernel) (by decide +kernel)
  | 2, _ => exact tb_in 344 (by decide +kernel) (by decide +kernel)
  | 3, _ => exact tb_in 346 (by decide +kernel) (by decide +kernel)
  | 4, _ => exact tb_in 348 (by decide +kernel) (by decide +kernel)
  | 5, _ => exact tb_in 350 (by decide +kernel) (by decide +kernel)
  | 6, _ => exact tb_in 352 (by decide +kernel) (by decide +kernel)
  | 7, _ => exact tb_in 354 (by decide +kernel) (by decide +kernel)
  | 8, _ => exact tb_in 356 (by decide +kernel) (by decide +kernel)
  | 9, _ => exact tb_in 358 (by decide +kernel) (by decide +kernel)
  | 10, _ => exact tb_in 360 (by decide +kernel) (by decide +kernel)
  | 11, _ => exact tb_in 362 (by decide +kernel) (by decide +kernel)
  | 12, _ => exact tb_in 364 (by decide +kernel) (by decide +kernel)
  | 13, _ => exact tb_in 366 (by decide +kernel) (by decide +kernel)
  | 14, _ => exact tb_in 368 (by decide +kernel) (by decide +kernel)
  | 15, _ => exact tb_in 370 (by decide +kernel) (by decide +kernel)
  | 16, _ => exact tb_in 372 (by decide +kernel) (by decide +kernel)
  | 17, _ => exact tb_in 374 (by decide +kernel) (by decide +kernel)
  | 18, _ => exact tb_in 376 (by decide +kernel) (by decide +kernel)
  | 19, _ => exact tb_in 378 (by decide +kernel) (by decide +kernel)
  | j + 20, h => exact absurd h (by omega)
theorem tb_p1 : ∀ k, k < 20 → parseFieldDescriptor (tb_T1 k).2.2.1 = some (tb_ft 1 k) := by decide +kernel
theorem tb_n1 : ∀ a, a < 20 → ∀ b, b < 20 → a ≠ b → (tb_T1 a).2.1 ≠ (tb_T1 b).2.1 := by decide +kernel
theorem tb_d1 : ∀ k, k < 20 → defaultValue (tb_ft 1 k) = if tb_ft 1 k = .long then .long 0 else if pm_isR (tb_ft 1 k) = true then .null else .int 0 := by decide +kernel
theorem tb_w2 : ∀ w ∈ u_ws "ChoirShip$Choir" tb_T2 6, w ∈ tb_Tg := by
  intro w hw
  obtain ⟨j, hj, rfl⟩ := List.mem_map.mp hw
  have hj := List.mem_range.mp hj
  match j, hj with
  | 0, _ => exact tb_in 293 (by decide +kernel) (by decide +kernel)
  | 1, _ => exact tb_in 295 (by decide +kernel) (by decide +kernel)
  | 2, _ => exact tb_in 297 (by decide +kernel) (by decide +kernel)
  | 3, _ => exact tb_in 299 (by decide +kernel) (by decide +kernel)
  | 4, _ => exact tb_in 301 (by decide +kernel) (by decide +kernel)
  | 5, _ => exact tb_in 303 (by decide +kernel) (by decide +kernel)
  | j + 6, h => exact absurd h (by omega)
theorem tb_p2 : ∀ k, k < 6 → parseFieldDescriptor (tb_T2 k).2.2.1 = some (tb_ft 2 k) := by decide +kernel
theorem tb_n2 : ∀ a, a < 6 → ∀ b, b < 6 → a ≠ b → (tb_T2 a).2.1 ≠ (tb_T2 b).2.1 := by decide +kernel
theorem tb_d2 : ∀ k, k < 6 → defaultValue (tb_ft 2 k) = if tb_ft 2 k = .long then .long 0 else if pm_isR (tb_ft 2 k) = true then .null else .int 0 := by decide +kernel
theorem tb_w3 : ∀ w ∈ u_ws "ChoirShip$Hands" tb_T3 7, w ∈ tb_Tg := by
  intro w hw
  obtain ⟨j, hj, rfl⟩ := List.mem_map.mp hw
  have hj := List.mem_range.mp hj
  match j, hj with
  | 0, _ => exact tb_in 219 (by decide +kernel) (by decide +kernel)
  | 1, _ => exact tb_in 221 (by decide +kernel) (by decide +kernel)
  | 2, _ => exact tb_in 223 (by decide +kernel) (by decide +kernel)
  | 3, _ => exact tb_in 225 (by decide +kernel) (by decide +kernel)
  | 4, _ => exact tb_in 227 (by decide +kernel) (by decide +kernel)
  | 5, _ => exact tb_in 229 (by decide +kernel) (by decide +kernel)
  | 6, _ => exact tb_in 231 (by decide +kernel) (by decide +kernel)
  | j + 7, h => exact absurd h (by omega)
theorem tb_p3 : ∀ k, k < 7 → parseFieldDescriptor (tb_T3 k).2.2.1 = some (tb_ft 3 k) := by decide +kernel
theorem tb_n3 : ∀ a, a < 7 → ∀ b, b < 7 → a ≠ b → (tb_T3 a).2.1 ≠ (tb_T3 b).2.1 := by decide +kernel
theorem tb_d3 : ∀ k, k < 7 → defaultValue (tb_ft 3 k) = if tb_ft 3 k = .long then .long 0 else if pm_isR (tb_ft 3 k) = true then .null else .int 0 := by decide +kernel
theorem tb_w4 : ∀ w ∈ u_ws "ChoirShip$Past" tb_T4 3, w ∈ tb_Tg := by
  intro w hw
  obtain ⟨j, hj, rfl⟩ := List.mem_map.mp hw
  have hj := List.mem_range.mp hj
  match j, hj with
  | 0, _ => exact tb_in 238 (by decide +kernel) (by decide +kernel)
  | 1, _ => exact tb_in 240 (by decide +kernel) (by decide +kernel)
  | 2, _ => exact tb_in 242 (by decide +kernel) (by decide +kernel)
  | j + 3, h => exact absurd h (by omega)
theorem tb_p4 : ∀ k, k < 3 → parseFieldDescriptor (tb_T4 k).2.2.1 = some (tb_ft 4 k) := by decide +kernel
theorem tb_n4 : ∀ a, a < 3 → ∀ b, b < 3 → a ≠ b → (tb_T4 a).2.1 ≠ (tb_T4 b).2.1 := by decide +kernel
theorem tb_d4 : ∀ k, k < 3 → defaultValue (tb_ft 4 k) = if tb_ft 4 k = .long then .long 0 else if pm_isR (tb_ft 4 k) = true then .null else .int 0 := by decide +kernel
theorem tb_w5 : ∀ w ∈ u_ws "ChoirShip$Rows" tb_T5 7, w ∈ tb_Tg := by
  intro w hw
  obtain ⟨j, hj, rfl⟩ := List.mem_map.mp hw
  have hj := List.mem_range.mp hj
  match j, hj with
  | 0, _ => exact tb_in 272 (by decide +kernel) (by decide +kernel)
  | 1, _ => exact tb_in 274 (by decide +kernel) (by decide +kernel)
  | 2, _ => exact tb_in 276 (by decide +kernel) (by decide +kernel)
  | 3, _ => exact tb_in 278 (by decide +kernel) (by decide +kernel)
  | 4, _ => exact tb_in 280 (by decide +kernel) (by decide +kernel)
  | 5, _ => exact tb_in 282 (by decide +kernel) (by decide +kernel)
  | 6, _ => exact tb_in 284 (by decide +kernel) (by decide +kernel)
  | j + 7, h => exact absurd h (by omega)
theorem tb_p5 : ∀ k, k < 7 → parseFieldDescriptor (tb_T5 k).2.2.1 = some (tb_ft 5 k) := by decide +kernel
theorem tb_n5 : ∀ a, a < 7 → ∀ b, b < 7 → a ≠ b → (tb_T5 a).2.1 ≠ (tb_T5 b).2.1 := by decide +kernel
theorem tb_d5 : ∀ k, k < 7 → defaultValue (tb_ft 5 k) = if tb_ft 5 k = .long then .long 0 else if pm_isR (tb_ft 5 k) = true then .null else .int 0 := by decide +kernel
theorem tb_w6 : ∀ w ∈ u_ws "ChoirShip$Rule" tb_T6 5, w ∈ tb_Tg := by
  intro w hw
  obtain ⟨j, hj, rfl⟩ := List.mem_map.mp hw
  have hj := List.mem_range.mp hj
  match j, hj with
  | 0, _ => exact tb_in 391 (by decide +kernel) (by decide +kernel)
  | 1, _ => exact tb_in 393 (by decide +kernel) (by decide +kernel)
  | 2, _ => exact tb_in 395 (by decide +kernel) (by decide +kernel)
  | 3, _ => exact tb_in 397 (by decide +kernel) (by decide +kernel)
  | 4, _ => exact tb_in 399 (by decide +kernel) (by decide +kernel)
  | j + 5, h => exact absurd h (by omega)
theorem tb_p6 : ∀ k, k < 5 → parseFieldDescriptor (tb_T6 k).2.2.1 = some (tb_ft 6 k) := by decide +kernel
theorem tb_n6 : ∀ a, a < 5 → ∀ b, b < 5 → a ≠ b → (tb_T6 a).2.1 ≠ (tb_T6 b).2.1 := by decide +kernel
theorem tb_d6 : ∀ k, k < 5 → defaultValue (tb_ft 6 k) = if tb_ft 6 k = .long then .long 0 else if pm_isR (tb_ft 6 k) = true then .null else .int 0 := by decide +kernel
theorem tb_w7 : ∀ w ∈ u_ws "ChoirShip$Ship" tb_T7 13, w ∈ tb_Tg := by
  intro w hw
  obtain ⟨j, hj, rfl⟩ := List.mem_map.mp hw
  have hj := List.mem_range.mp hj
  match j, hj with
  | 0, _ => exact tb_in 448 (by decide +kernel) (by decide +kernel)
  | 1, _ => exact tb_in 450 (by decide +kernel) (by decide +kernel)
  | 2, _ => exact tb_in 452 (by decide +kernel) (by decide +kernel)
  | 3, _ => exact tb_in 454 (by decide +kernel) (by decide +kernel)
  | 4, _ => exact tb_in 456 (by decide +kernel) (by decide +kernel)
  | 5, _ => exact tb_in 458 (by decide +kernel) (by decide +kernel)
  | 6, _ => exact tb_in 460 (by decide +kernel) (by decide +kernel)
  | 7, _ => exact tb_in 462 (by decide +kernel) (by decide +kernel)
  | 8, _ => exact tb_in 464 (by decide +kernel) (by decide +kernel)
  | 9, _ => exact tb_in 466 (by decide +kernel) (by decide +kernel)
  | 10, _ => exact tb_in 468 (by decide +kernel) (by decide +kernel)
  | 11, _ => exact tb_in 470 (by decide +kernel) (by decide +kernel)
  | 12, _ => exact tb_in 472 (by decide +kernel) (by decide +kernel)
  | j + 13, h => exact absurd h (by omega)
theorem tb_p7 : ∀ k, k < 13 → parseFieldDescriptor (tb_T7 k).2.2.1 = some (tb_ft 7 k) := by decide +kernel
theorem tb_n7 : ∀ a, a < 13 → ∀ b, b < 13 → a ≠ b → (tb_T7 a).2.1 ≠ (tb_T7 b).2.1 := by decide +kernel
theorem tb_d7 : ∀ k, k < 13 → defaultValue (tb_ft 7 k) = if tb_ft 7 k = .long then .long 0 else if pm_isR (tb_ft 7 k) = true then .null else .int 0 := by decide +kernel
theorem tb_w8 : ∀ w ∈ u_ws "ChoirShip$Tape" tb_T8 8, w ∈ tb_Tg := by
  intro w hw
  obtain ⟨j, hj, rfl⟩ := List.mem_map.mp hw
  have hj := List.mem_range.mp hj
  match j, hj with
  | 0, _ => exact tb_in 159 (by decide +kernel) (by decide +kernel)
  | 1, _ => exact tb_in 161 (by decide +kernel) (by decide +kernel)
  | 2, _ => exact tb_in 163 (by decide +kernel) (by decide +kernel)
  | 3, _ => exact tb_in 165 (by decide +kernel) (by decide +kernel)
  | 4, _ => exact tb_in 167 (by decide +kernel) (by decide +kernel)
  | 5, _ => exact tb_in 169 (by decide +kernel) (by decide +kernel)
  | 6, _ => exact tb_in 171 (by decide +kernel) (by decide +kernel)
  | 7, _ => exact tb_in 173 (by decide +kernel) (by decide +kernel)
  | j + 8, h => exact absurd h (by omega)
theorem tb_p8 : ∀ k, k < 8 → parseFieldDescriptor (tb_T8 k).2.2.1 = some (tb_ft 8 k) := by decide +kernel
theorem tb_n8 : ∀ a, a < 8 → ∀ b, b < 8 → a ≠ b → (tb_T8 a).2.1 ≠ (tb_T8 b).2.1 := by decide +kernel
theorem tb_d8 : ∀ k, k < 8 → defaultValue (tb_ft 8 k) = if tb_ft 8 k = .long then .long 0 else if pm_isR (tb_ft 8 k) = true then .null else .int 0 := by decide +kernel
theorem tb_w9 : ∀ w ∈ u_ws "ChoirShip$World" tb_T9 7, w ∈ tb_Tg := by
  intro w hw
  obtain ⟨j, hj, rfl⟩ := List.mem_map.mp hw
  have hj := List.mem_range.mp hj
  match j, hj with
  | 0, _ => exact tb_in 497 (by decide +kernel) (by decide +kernel)
  | 1, _ => exact tb_in 499 (by decide +kernel) (by decide +kernel)
  | 2, _ => exact tb_in 501 (by decide +kernel) (by decide +kernel)
  | 3, _ => exact tb_in 503 (by decide +kernel) (by decide +kernel)
  | 4, _ => exact tb_in 505 (by decide +kernel) (by decide +kernel)
  | 5, _ => exact tb_in 507 (by decide +kernel) (by decide +kernel)
  | 6, _ => exact tb_in 509 (by decide +kernel) (by decide +kernel)
  | j + 7, h => exact absurd h (by omega)
theorem tb_p9 : ∀ k, k < 7 → parseFieldDescriptor (tb_T9 k).2.2.1 = some (tb_ft 9 k) := by decide +kernel
theorem tb_n9 : ∀ a, a < 7 → ∀ b, b < 7 → a ≠ b → (tb_T9 a).2.1 ≠ (tb_T9 b).2.1 := by decide +kernel
theorem tb_d9 : ∀ k, k < 7 → defaultValue (tb_ft 9 k) = if tb_ft 9 k = .long then .long 0 else if pm_isR (tb_ft 9 k) = true then .null else .int 0 := by decide +kernel
theorem tb_w10 : ∀ w ∈ u_ws "ChoirShipModel" tb_T10 35, w ∈ tb_Tg := by
  intro w hw
  obtain ⟨j, hj, rfl⟩ := List.mem_map.mp hw
  have hj := List.mem_range.mp hj
  match j, hj with
  | 0, _ => exact tb_in 1252 (by decide +kernel) (by decide +kernel)
  | 1, _ => exact tb_in 1254 (by decide +kernel) (by decide +kernel)
  | 2, _ => exact tb_in 1256 (by decide +kernel) (by decide +kernel)
  | 3, _ => exact tb_in 1258 (by decide +kernel) (by decide +kernel)
  | 4, _ => exact tb_in 1260 (by decide +kernel) (by decide +kernel)
  | 5, _ => exact tb_in 1262 (by decide +kernel) (by decide +kernel)
  | 6, _ => exact tb_in 1264 (by decide +kernel) (by decide +kernel)
  | 7, _ => exact tb_in 1266 (by decide +kernel) (by decide +kernel)
  | 8, _ => exact tb_in 1268 (by decide +kernel) (by decide +kernel)
  | 9, _ => exact tb_in 1270 (by decide +kernel) (by decide +kernel)
  | 10, _ => exact tb_in 1272 (by decide +kernel) (by decide +kernel)
  | 11, _ => exact tb_in 1274 (by decide +kernel) (by decide +kernel)
  | 12, _ => exact tb_in 1276 (by decide +kernel) (by decide +kernel)
  | 13, _ => exact tb_in 1278 (by decide +kernel) (by decide +kernel)
  | 14, _ => exact tb_in 1280 (by decide +kernel) (by decide +kernel)
  | 15, _ => exact tb_in 1282 (by decide +kernel) (by decide +kernel)
  | 16, _ => exact tb_in 1284 (by decide +kernel) (by decide +kernel)
  | 17, _ => exact tb_in 1286 (by decide +kernel) (by decide +kernel)
  | 18, _ => exact tb_in 1288 (by decide +kernel) (by decide +kernel)
  | 19, _ => exact tb_in 1290 (by decide +kernel) (by decide +kernel)
  | 20, _ => exact tb_in 1292 (by decide +kernel) (by decide +kernel)
  | 21, _ => exact tb_in 1294 (by decide +kernel) (by decide +kernel)
  | 22, _ => exact tb_in 1296 (by decide +kernel) (by decide +kernel)
  | 23, _ => exact tb_in 1298 (by decide +kernel) (by decide +kernel)
  | 24, _ => exact tb_in 1300 (by decide +kernel) (by decide +kernel)
  | 25, _ => exact tb_in 1302 (by decide +kernel) (by decide +kernel)
  | 26, _ => exact tb_in 1304 (by decide +kernel) (by decide +kernel)
  | 27, _ => exact tb_in 1306 (by decide +kernel) (by decide +kernel)
  | 28, _ => exact tb_in 1308 (by decide +kernel) (by decide +kernel)
  | 29, _ => exact tb_in 1310 (by decide +kernel) (by decide +kernel)
  | 30, _ => exact tb_in 1312 (by decide +kernel) (by decide +kernel)
  | 31, _ => exact tb_in 1314 (by decide +kernel) (by decide +kernel)
  | 32, _ => exact tb_in 1316 (by decide +kernel) (by decide +kernel)
  | 33, _ => exact tb_in 1318 (by decide +kernel) (by decide +kernel)
  | 34, _ => exact tb_in 1320 (by decide +kernel) (by decide +kernel)
  | j + 35, h => exact absurd h (by omega)
theorem tb_p10 : ∀ k, k < 35 → parseFieldDescriptor (tb_T10 k).2.2.1 = some (tb_ft 10 k) := by decide +kernel
theorem tb_n10 : ∀ a, a < 35 → ∀ b, b < 35 → a ≠ b → (tb_T10 a).2.1 ≠ (tb_T10 b).2.1 := by decide +kernel
theorem tb_d10 : ∀ k, k < 35 → defaultValue (tb_ft 10 k) = if tb_ft 10 k = .long then .long 0 else if pm_isR (tb_ft 10 k) = true then .null else .int 0 := by decide +kernel
theorem tb_okC : pm_okC tb_Tg tb_cl tb_ft := by
  intro ci C T N h
  match ci, h with
  | 0, h => cases h; exact ⟨tb_w0, tb_p0, tb_n0, tb_in 128 (by decide +kernel) (by decide +kernel), tb_in 108 (by decide +kernel) (by decide +kernel), tb_d0⟩
  | 1, h => cases h; exact ⟨tb_w1, tb_p1, tb_n1, tb_in 246 (by decide +kernel) (by decide +kernel), tb_in 112 (by decide +kernel) (by decide +kernel), tb_d1⟩
  | 2, h => cases h; exact ⟨tb_w2, tb_p2, tb_n2, tb_in 252 (by decide +kernel) (by decide +kernel), tb_in 113 (by decide +kernel) (by decide +kernel), tb_d2⟩
  | 3, h => cases h; exact ⟨tb_w3, tb_p3, tb_n3, tb_in 191 (by decide +kernel) (by decide +kernel), tb_in 111 (by decide +kernel) (by decide +kernel), tb_d3⟩
  | 4, h => cases h; exact ⟨tb_w4, tb_p4, tb_n4, tb_in 184 (by decide +kernel) (by decide +kernel), tb_in 110 (by decide +kernel) (by decide +kernel), tb_d4⟩
  | 5, h => cases h; exact ⟨tb_w5, tb_p5, tb_n5, tb_in 258 (by decide +kernel) (by decide +kernel), tb_in 114 (by decide +kernel) (by decide +kernel), tb_d5⟩
  | 6, h => cases h; exact ⟨tb_w6, tb_p6, tb_n6, tb_in 381 (by decide +kernel) (by decide +kernel), tb_in 115 (by decide +kernel) (by decide +kernel), tb_d6⟩
  | 7, h => cases h; exact ⟨tb_w7, tb_p7, tb_n7, tb_in 403 (by decide +kernel) (by decide +kernel), tb_in 116 (by decide +kernel) (by decide +kernel), tb_d7⟩
  | 8, h => cases h; exact ⟨tb_w8, tb_p8, tb_n8, tb_in 136 (by decide +kernel) (by decide +kernel), tb_in 109 (by decide +kernel) (by decide +kernel), tb_d8⟩
  | 9, h => cases h; exact ⟨tb_w9, tb_p9, tb_n9, tb_in 475 (by decide +kernel) (by decide +kernel), tb_in 117 (by decide +kernel) (by decide +kernel), tb_d9⟩
  | 10, h => cases h; exact ⟨tb_w10, tb_p10, tb_n10, tb_in 1212 (by decide +kernel) (by decide +kernel), tb_in 118 (by decide +kernel) (by decide +kernel), tb_d10⟩
  | k + 11, h => simp [tb_cl] at h
theorem tb_okA : pm_okA tb_Tg := ⟨tb_in 176 (by decide +kernel) (by decide +kernel), tb_in 763 (by decide +kernel) (by decide +kernel), tb_in 1323 (by decide +kernel) (by decide +kernel), tb_in 402 (by decide +kernel) (by decide +kernel)⟩
