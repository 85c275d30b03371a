/-! THE PURE MACHINE (pm_): a deterministic interpreter over a pure heap; cells are numbered in the order in which they are made, a number from pm_B on is an old constant. Part 1: heap, values, the picture of them in a real heap. -/
/-- a cell's shape: a row of a type and a length, or an object of the class of that number -/
abbrev pm_Sh : Type := (FieldType × Nat) ⊕ Nat
/-- shapes; ints, longs and references by cell and place -/
abbrev pm_H : Type := List pm_Sh × (Nat → Nat → Int32) × (Nat → Nat → Int64) × (Nat → Nat → Option Nat)
def pm_B : Nat := 1000000
def pm_up {α : Type} (f : Nat → Nat → α) (a k : Nat) (v : α) : Nat → Nat → α := fun b j => if b = a then (if j = k then v else f b j) else f b j
def pm_row {α : Type} (f : Nat → Nat → α) (a : Nat) (g : Nat → α) : Nat → Nat → α := fun b j => if b = a then g j else f b j
def pm_setI (h : pm_H) (a k : Nat) (v : Int32) : pm_H := (h.1, pm_up h.2.1 a k v, h.2.2.1, h.2.2.2)
def pm_setL (h : pm_H) (a k : Nat) (v : Int64) : pm_H := (h.1, h.2.1, pm_up h.2.2.1 a k v, h.2.2.2)
def pm_setR (h : pm_H) (a k : Nat) (v : Option Nat) : pm_H := (h.1, h.2.1, h.2.2.1, pm_up h.2.2.2 a k v)
def pm_rowI (h : pm_H) (a : Nat) (g : Nat → Int32) : pm_H := (h.1, pm_row h.2.1 a g, h.2.2.1, h.2.2.2)
/-- a new cell, all of it 0 -/
def pm_mk (h : pm_H) (sh : pm_Sh) : pm_H := (h.1 ++ [sh], pm_row h.2.1 h.1.length (fun _ => 0), pm_row h.2.2.1 h.1.length (fun _ => 0), pm_row h.2.2.2 h.1.length (fun _ => none))
/-- a value in the real heap -/
def pm_cv (ad : Nat → Nat) : Value → Value
  | .ref k => .ref (ad k)
  | v => v
theorem pm_cv_cat (ad : Nat → Nat) (v : Value) : (pm_cv ad v).category = v.category := by cases v <;> rfl
/-- closed: a reference is to a cell that is there, or to a constant -/
def pm_okr (n k : Nat) : Bool := decide (k < n) || decide (pm_B ≤ k)
def pm_ok (n : Nat) : Value → Bool
  | .ref k => pm_okr n k
  | _ => true
def pm_isR : FieldType → Bool
  | .object _ => true
  | .array _ => true
  | _ => false
def pm_cont (ad : Nat → Nat) (h : pm_H) (ty : FieldType) (k : Nat) : (Nat → Int32) ⊕ (Nat → Int64) ⊕ (Nat → UInt32) ⊕ (Nat → UInt64) ⊕ (Nat → Option Nat) :=
  if ty = .long then .inr (.inl (h.2.2.1 k)) else if pm_isR ty then .inr (.inr (.inr (.inr (fun j => (h.2.2.2 k j).map ad)))) else .inl (h.2.1 k)
def pm_fv (ad : Nat → Nat) (h : pm_H) (ty : FieldType) (k j : Nat) : Value :=
  if ty = .long then .long (h.2.2.1 k j) else if pm_isR ty then va_rf ((h.2.2.2 k j).map ad) else .int (h.2.1 k j)
def pm_cell (cl : List vw_C) (ft : Nat → Nat → FieldType) (ad : Nat → Nat) (ca : Nat → ClassId) (h : pm_H) (k : Nat) (sh : pm_Sh) : va_E := match sh with
  | .inl (ty, len) => .inl (ca k, len, pm_cont ad h ty k)
  | .inr ci => .inr (ci, (List.range ((cl.getD ci ("", fun _ => ("", "", "", false), 0)).2.2)).map (fun j => pm_fv ad h (ft ci j) k j))
/-- the world: all cells -/
def pm_ws (cl : List vw_C) (ft : Nat → Nat → FieldType) (ad : Nat → Nat) (ca : Nat → ClassId) (h : pm_H) : va_W := h.1.zipIdx.map (fun q => (ad q.2, pm_cell cl ft ad ca h q.2 q.1))
theorem pm_ws_len (cl : List vw_C) (ft : Nat → Nat → FieldType) (ad : Nat → Nat) (ca : Nat → ClassId) (h : pm_H) : (pm_ws cl ft ad ca h).length = h.1.length := by simp [pm_ws]
theorem pm_ws_get {cl : List vw_C} {ft : Nat → Nat → FieldType} {ad : Nat → Nat} {ca : Nat → ClassId} {h : pm_H} {k : Nat} {sh : pm_Sh} (hk : h.1[k]? = some sh) : (pm_ws cl ft ad ca h)[k]? = some (ad k, pm_cell cl ft ad ca h k sh) := by
  simp [pm_ws, List.getElem?_map, List.getElem?_zipIdx, hk]
theorem pm_ws_getn {cl : List vw_C} {ft : Nat → Nat → FieldType} {ad : Nat → Nat} {ca : Nat → ClassId} {h : pm_H} {k : Nat} (hk : h.1[k]? = none) : (pm_ws cl ft ad ca h)[k]? = none := by
  simp [pm_ws, List.getElem?_map, List.getElem?_zipIdx, hk]
/-- the world of a heap of the same shapes that differs in one cell -/
theorem pm_ws_set {cl : List vw_C} {ft : Nat → Nat → FieldType} {ad : Nat → Nat} {ca : Nat → ClassId} {h h' : pm_H} {k : Nat} {sh : pm_Sh} {e : va_E} (hk : h.1[k]? = some sh) (hs : h'.1 = h.1) (he : e = pm_cell cl ft ad ca h' k sh) (ho : ∀ (j : Nat) (sj : pm_Sh), h.1[j]? = some sj → j ≠ k → pm_cell cl ft ad ca h' j sj = pm_cell cl ft ad ca h j sj) : (pm_ws cl ft ad ca h).set k (ad k, e) = pm_ws cl ft ad ca h' := by
  subst he
  have hl : k < h.1.length := (List.getElem?_eq_some_iff.mp hk).1
  apply List.ext_getElem?
  intro j
  by_cases hj : j = k
  · subst hj
    rw [List.getElem?_set_self (by rw [pm_ws_len]; exact hl), pm_ws_get (by rw [hs]; exact hk)]
  · rw [List.getElem?_set_ne (Ne.symm hj)]
    cases hsj : h.1[j]? with
    | none => rw [pm_ws_getn hsj, pm_ws_getn (by rw [hs]; exact hsj)]
    | some sj => rw [pm_ws_get hsj, pm_ws_get (by rw [hs]; exact hsj), ho j sj hsj hj]
theorem pm_up_ne {α : Type} {f : Nat → Nat → α} {a k b : Nat} {v : α} (h : b ≠ a) : pm_up f a k v b = f b := by
  funext j; simp [pm_up, h]
theorem pm_up_self {α : Type} {f : Nat → Nat → α} {a k : Nat} {v : α} : pm_up f a k v a = fun j => if j = k then v else f a j := by
  funext j; simp [pm_up]
theorem pm_row_ne {α : Type} {f : Nat → Nat → α} {a b : Nat} {g : Nat → α} (h : b ≠ a) : pm_row f a g b = f b := by
  funext j; simp [pm_row, h]
theorem pm_row_self {α : Type} {f : Nat → Nat → α} {a : Nat} {g : Nat → α} : pm_row f a g a = g := by
  funext j; simp [pm_row]
/-- only the cell's own rows are read, and only closed references -/
theorem pm_cell_congr {cl : List vw_C} {ft : Nat → Nat → FieldType} {ad : Nat → Nat} {ca : Nat → ClassId} {h h' : pm_H} {k : Nat} {sh : pm_Sh} (h1 : h'.2.1 k = h.2.1 k) (h2 : h'.2.2.1 k = h.2.2.1 k) (h3 : h'.2.2.2 k = h.2.2.2 k) : pm_cell cl ft ad ca h' k sh = pm_cell cl ft ad ca h k sh := by
  unfold pm_cell pm_cont pm_fv
  rw [h1, h2, h3]
theorem pm_cell_ext {cl : List vw_C} {ft : Nat → Nat → FieldType} {ad ad' : Nat → Nat} {ca ca' : Nat → ClassId} {h : pm_H} {k : Nat} {sh : pm_Sh} (hc : ca' k = ca k) (hr : ∀ j r, h.2.2.2 k j = some r → ad' r = ad r) : pm_cell cl ft ad' ca' h k sh = pm_cell cl ft ad ca h k sh := by
  have e : ∀ j, (h.2.2.2 k j).map ad' = (h.2.2.2 k j).map ad := fun j => by
    cases hj : h.2.2.2 k j with
    | none => rfl
    | some r => simp [hr j r hj]
  unfold pm_cell pm_cont pm_fv
  simp only [e, hc]
