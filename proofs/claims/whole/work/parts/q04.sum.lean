/-! A rule's text: a sum, read by the program. -/
def isBi (c : Nat) : Bool := decide (c = 42 ∨ c = 47 ∨ c = 37)
def isAd (c : Nat) : Bool := decide (c = 43 ∨ c = 45)
theorem isBi_t {c : Nat} : isBi c = true ↔ (c = 42 ∨ c = 47 ∨ c = 37) := decide_eq_true_iff
theorem isAd_t {c : Nat} : isAd c = true ↔ (c = 43 ∨ c = 45) := decide_eq_true_iff
def sop (c : Nat) : Nat := if c = 42 then 4 else if c = 47 then 5 else if c = 37 then 14 else if c = 43 then 2 else 3
def fin (w : Option Nat) (l : List Nat) : List Nat := match w with
  | none => l
  | some c => l ++ [sop c]
def sumL (B : Nat → Nat) (L : Nat) : Nat → Option Nat → Nat → List Nat → Nat → RDO
  | 0, w, k, l, p => .inr (k, fin w l, p)
  | f + 1, w, k, l, p => if isBi (ca B L p) = true then (match valP B L k l (skp B L (bh B L p)) with
      | .inl e => .inl e
      | .inr y => sumL B L f w y.1 (y.2.1 ++ [sop (ca B L p)]) y.2.2)
    else if isAd (ca B L p) = true then (match valP B L k (fin w l) (skp B L (bh B L p)) with
      | .inl e => .inl e
      | .inr y => sumL B L f (some (ca B L p)) y.1 y.2.1 y.2.2)
    else .inr (k, fin w l, p)
def sumP (B : Nat → Nat) (L k : Nat) (l : List Nat) (p : Nat) : RDO := match valP B L k l p with
  | .inl e => .inl e
  | .inr y => sumL B L 400 none y.1 y.2.1 y.2.2
def wv (w : Option Nat) : Int32 := match w with
  | none => ng 1
  | some c => nI c
def wn (w : Option Nat) : Nat := match w with
  | none => 0
  | some _ => 1
section USM
variable {h h0 : pm_H} {u k L p : Nat} {B : Nat → Nat} {c : List Int32} {l : List Nat}
theorem valP_ok {y : Nat × List Nat × Nat} (e : valP B L k l p = .inr y) (hp : p ≤ L) : y.1 = k + 1 ∧ k < 60 ∧ y.2.1.length = l.length + 1 ∧ p < y.2.2 ∧ y.2.2 ≤ L ∧ ca B L y.2.2 ≠ 32 := by
  have key : ∀ t, ca B L p ≠ 256 → (if k < 60 then Sum.inr (k + 1, l ++ [t], skp B L (bh B L p)) else Sum.inl (1 + 8 * p + 3) : RDO) = .inr y → y.1 = k + 1 ∧ k < 60 ∧ y.2.1.length = l.length + 1 ∧ p < y.2.2 ∧ y.2.2 ≤ L ∧ ca B L y.2.2 ≠ 32 := by
    intro t z e
    have gt := bh_gt hp z
    have bg := bh_ge (B := B) hp
    have sg := skp_ge (B := B) bg.2
    split at e
    · rename_i q
      cases e
      exact ⟨rfl, q, by rw [List.length_append]; rfl, Nat.lt_of_lt_of_le gt sg.1, sg.2, skp_ca bg.2⟩
    · cases e
  unfold valP at e
  split at e
  · rename_i k1
    split at e
    · cases e
    · exact key _ (kd_256 k1 (by omega)) e
  · split at e
    · cases e
    · rename_i w ew
      exact key _ (kd_256 (widx_k2 ew) (by omega)) e
theorem UO.of {h1 : pm_H} {o : RDO} {z : Int32 × pm_H} (f : FV u h0 h1) (q : UO h1 u B L c o z) : UO h0 u B L c o z := ⟨f.trans q.1, q.2⟩
theorem tk_sop {x : Nat} (hx : isBi x = true ∨ isAd x = true) : tkc (sop x) = (Int8.ofInt (-100)).toInt32 - nI x := by
  rw [isBi_t, isAd_t] at hx
  rcases hx with (rfl | rfl | rfl) | (rfl | rfl) <;> decide +kernel
/-- the end of a sum -/
theorem u_sum_end (R : RF h) (C : CT h L B) (hu : mi_o u 6 = true) (U : UNT h B L p) {w : Option Nat} (hw : ∀ x, w = some x → isAd x = true) (S : US h u k (c ++ l.map tkc)) (hb : c.length + l.length + wn w ≤ p + 12) : SP (u_readSum_150 u (wv w) (nI 1) h) (UO h u B L c (.inr (k, fin w l, p))) := by
  have hL := C.2.1
  have u1 := U.1
  have len : (c ++ l.map tkc).length = c.length + l.length := by rw [List.length_append, List.length_map]
  unfold u_readSum_150
  cases w with
  | none =>
    refine sp_pos (by decide) (sp_pos mi_bo1 (sp_some.mpr ⟨FV.refl u h, rfl, S, U⟩))
  | some x =>
    have hx := hw x rfl
    have hb' : c.length + l.length + 1 ≤ p + 12 := hb
    have hx' : x < 256 := by rw [isAd_t] at hx; omega
    refine sp_neg (by show ¬ nI x < 0; rw [kc_0, nx_lt (by omega) (by omega)]; omega) ?_
    show SP ((u_step u ((Int8.ofInt (-100)).toInt32 - nI x) h).bind _) _
    rw [← tk_sop (.inr hx)]
    refine sp_call (u_step_n R hu S (by rw [len]; omega)) ?_
    rintro h1 ⟨f1, S1, e1⟩
    refine sp_pos mi_bo1 (sp_some.mpr ⟨f1, rfl, ?_, U.of e1⟩)
    show US h1 u k (c ++ (l ++ [sop x]).map tkc)
    rw [List.map_append, ← List.append_assoc]
    exact S1
theorem u_sum_fail (R : RF h) (hu : mi_o u 6 = true) (f : FV u h0 h) {e : Nat} (e7 : h.2.1 1 7 = nI e) (hn : ∃ n, n ≤ 412 ∧ h.2.1 u 1 = nI n) (v x : Int32) : SP (wh (fun s : (Int32 × Int32 × Int32 × pm_H) => u_readSum_11 u 1 s.1 s.2.1 s.2.2.1 s.2.2.2) (v, nI 0, x, h)) (fun q => SP (match q with | (.inl y) => u_readSum_150 u y.1 y.2.1 y.2.2 | (.inr y) => u_readSum_150 u y.1 y.2.1 y.2.2) (UO h0 u B L c (.inl e))) := by
  have : wh (fun s : (Int32 × Int32 × Int32 × pm_H) => u_readSum_11 u 1 s.1 s.2.1 s.2.2.1 s.2.2.2) (v, nI 0, x, h) = some (.inr (v, nI 0, h)) := by
    refine wh_inr ?_
    unfold u_readSum_11
    exact if_pos rfl
  rw [this]
  refine sp_some.mpr ?_
  dsimp only
  unfold u_readSum_150
  by_cases q : v < 0
  · exact sp_pos q (sp_pos mi_bo0 (sp_some.mpr ⟨f, rfl, e7, hn⟩))
  · refine sp_neg q ?_
    obtain ⟨n, n1, n2⟩ := hn
    refine sp_call (u_step_any R hu n1 n2) ?_
    rintro h1 ⟨f1, hn1, e1⟩
    exact sp_pos mi_bo0 (sp_some.mpr ⟨f.trans f1, rfl, by rw [e1]; exact e7, hn1⟩)
end USM
