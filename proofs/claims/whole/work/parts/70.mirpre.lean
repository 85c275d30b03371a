/-! MIRRORS: each method as a Lean function over the pure heap; this part: loops, typed reads, rows. -/
section WH
variable {S R : Type}
def wh_it (f : S → Option (S ⊕ R)) : Nat → S → Option R
  | 0, _ => none
  | n + 1, s => match f s with
    | none => none
    | some (.inl s') => wh_it f n s'
    | some (.inr r) => some r
theorem wh_more1 {f : S → Option (S ⊕ R)} : ∀ (n : Nat) (s : S) (r : R), wh_it f n s = some r → wh_it f (n + 1) s = some r := by
  intro n
  induction n with
  | zero => intro s r h; cases h
  | succ n ih =>
    intro s r h
    rw [wh_it.eq_def] at h ⊢
    simp only at h ⊢
    cases hf : f s with
    | none => rw [hf] at h; cases h
    | some q => cases q with
      | inl s' => rw [hf] at h; exact ih _ _ h
      | inr r' => rw [hf] at h; exact h
theorem wh_more {f : S → Option (S ⊕ R)} {n n' : Nat} {s : S} {r : R} (hn : n ≤ n') (h : wh_it f n s = some r) : wh_it f n' s = some r := by
  induction hn with
  | refl => exact h
  | step _ ih => exact wh_more1 _ _ _ ih
/-- a loop, to its end; none if it has none -/
noncomputable def wh (f : S → Option (S ⊕ R)) (s : S) : Option R := @dite (Option R) (∃ r, ∃ n, wh_it f n s = some r) (Classical.propDecidable _) (fun h => some (Classical.choose h)) (fun _ => none)
theorem wh_iff {f : S → Option (S ⊕ R)} {s : S} {r : R} : wh f s = some r ↔ ∃ n, wh_it f n s = some r := by
  unfold wh
  constructor
  · intro h
    split at h
    · rename_i hx
      have := Classical.choose_spec hx
      rw [Option.some.inj h] at this
      exact this
    · cases h
  · intro h
    have hx : ∃ r, ∃ n, wh_it f n s = some r := ⟨r, h⟩
    rw [dif_pos hx]
    obtain ⟨n, hn⟩ := h
    obtain ⟨m, hm⟩ := Classical.choose_spec hx
    have a := wh_more (Nat.le_max_left n m) hn
    have b := wh_more (Nat.le_max_right n m) hm
    rw [a] at b
    rw [← Option.some.inj b]
theorem wh_inl {f : S → Option (S ⊕ R)} {s s' : S} (h : f s = some (.inl s')) : wh f s = wh f s' := by
  apply Option.ext
  intro r
  simp only [wh_iff]
  constructor
  · rintro ⟨n, hn⟩
    cases n with
    | zero => cases hn
    | succ n =>
      rw [wh_it, h] at hn
      exact ⟨n, hn⟩
  · rintro ⟨n, hn⟩
    refine ⟨n + 1, ?_⟩
    rw [wh_it, h]
    exact hn
theorem wh_inr {f : S → Option (S ⊕ R)} {s : S} {r : R} (h : f s = some (.inr r)) : wh f s = some r := wh_iff.mpr ⟨1, by rw [wh_it, h]⟩
theorem wh_ind {f : S → Option (S ⊕ R)} {s : S} {r : R} (hw : wh f s = some r) (P : S → Prop) (h1 : ∀ s s', f s = some (.inl s') → P s' → P s) (h2 : ∀ s, f s = some (.inr r) → P s) : P s := by
  obtain ⟨n, hn⟩ := wh_iff.mp hw
  clear hw
  induction n generalizing s with
  | zero => cases hn
  | succ n ih =>
    rw [wh_it] at hn
    split at hn
    · cases hn
    · rename_i s' hs
      exact h1 _ _ hs (ih hn)
    · rename_i r' hs
      rw [Option.some.inj hn] at hs
      exact h2 _ hs
/-- a loop with an invariant and a measure comes to its end -/
theorem wh_inv {f : S → Option (S ⊕ R)} (I : S → Prop) (μ : S → Nat) (P : R → Prop) (hI : ∀ s, I s → (∃ s', f s = some (.inl s') ∧ I s' ∧ μ s' < μ s) ∨ ∃ r, f s = some (.inr r) ∧ P r) {s : S} (hs : I s) : ∃ r, wh f s = some r ∧ P r := by
  induction hn : μ s using Nat.strongRecOn generalizing s with
  | ind n ih =>
    rcases hI s hs with ⟨s', h1, h2, h3⟩ | ⟨r, h1, h2⟩
    · rw [wh_inl h1]
      exact ih (μ s') (by omega) h2 rfl
    · exact ⟨r, wh_inr h1, h2⟩
end WH
def bd {α β : Type} (a : α) (f : α → Option β) : Option β := f a
theorem bd_x {α β : Type} {a : α} {f : α → Option β} {x : β} (h : bd a f = some x) : ∃ y, a = y ∧ f y = some x := ⟨a, rfl, h⟩
theorem ob_x {α β : Type} {a : Option α} {f : α → Option β} {x : β} (h : a.bind f = some x) : ∃ y, a = some y ∧ f y = some x := Option.bind_eq_some_iff.mp h
theorem gd_x {β : Type} {c : Bool} {a : Option β} {x : β} (h : (if c = true then a else none) = some x) : c = true ∧ a = some x := by
  split at h
  · rename_i hc; exact ⟨hc, h⟩
  · cases h
/-- shapes of the fixed world -/
def mi_o (y ci : Nat) : Bool := decide (tb_SH[y]? = some (.inr ci))
def mi_a (y : Nat) (ty : FieldType) : Bool := match tb_SH[y]? with
  | some (.inl (t, _)) => decide (t = ty)
  | _ => false
def mi_n (y : Nat) : Nat := match tb_SH[y]? with
  | some (.inl (_, n)) => n
  | _ => 0
def mi_in (v : Int32) (n : Nat) : Bool := decide (¬ (v < 0 ∨ n ≤ v.toNatClampNeg))
def mi_nz (v : Int32) : Bool := decide (¬ v = 0)
def mi_nzl (v : Int64) : Bool := decide (¬ v = 0)
def mi_bo (v : Int32) : Bool := decide (v = 0 ∨ v = 1)
def mi_w (v : Value) : Value := if v.category = 2 then .retAddr 0 else v
theorem mi_in_x {v : Int32} {n : Nat} (h : mi_in v n = true) : vp_in v n := by
  unfold vp_in
  exact of_decide_eq_true h
theorem mi_nz_x {v : Int32} (h : mi_nz v = true) : ¬ v = 0 := of_decide_eq_true h
theorem mi_nzl_x {v : Int64} (h : mi_nzl v = true) : ¬ v = 0 := of_decide_eq_true h
theorem mi_bo_x {v : Int32} (h : mi_bo v = true) : v = 0 ∨ v = 1 := of_decide_eq_true h
/-- typed reads of references -/
def gO (h : pm_H) (k j ci : Nat) : Option Nat := match h.2.2.2 k j with
  | some y => if mi_o y ci = true then some y else none
  | none => none
def gA (h : pm_H) (k j : Nat) (ty : FieldType) : Option Nat := match h.2.2.2 k j with
  | some y => if mi_a y ty = true then some y else none
  | none => none
theorem gO_x {h : pm_H} {k j ci y : Nat} (e : gO h k j ci = some y) : h.2.2.2 k j = some y ∧ mi_o y ci = true := by
  unfold gO at e
  split at e
  · rename_i z hz
    split at e
    · rename_i hc
      cases e
      exact ⟨hz, hc⟩
    · cases e
  · cases e
theorem gA_x {h : pm_H} {k j y : Nat} {ty : FieldType} (e : gA h k j ty = some y) : h.2.2.2 k j = some y ∧ mi_a y ty = true := by
  unfold gA at e
  split at e
  · rename_i z hz
    split at e
    · rename_i hc
      cases e
      exact ⟨hz, hc⟩
    · cases e
  · cases e
theorem sho {h : pm_H} {y ci : Nat} (hs : h.1 = tb_SH) (f : mi_o y ci = true) : h.1[y]? = some (.inr ci) := by rw [hs]; exact of_decide_eq_true f
theorem sha {h : pm_H} {y : Nat} {ty : FieldType} (hs : h.1 = tb_SH) (f : mi_a y ty = true) : h.1[y]? = some (.inl (ty, mi_n y)) := by
  rw [hs]
  unfold mi_a at f
  unfold mi_n
  split at f
  · rename_i t n hz
    rw [hz, of_decide_eq_true f]
  · cases f
theorem shl {h : pm_H} {y ci : Nat} (hs : h.1 = tb_SH) (f : mi_o y ci = true) : y < h.1.length := by
  have := sho hs f
  exact (List.getElem?_eq_some_iff.mp this).1
section ROWM
variable {b : Bool} {L : Nat} {xs : Nat → Int32} {d i kc ks pc t : Nat} {ls st r : List Value} {h : pm_H} {Q : Option Value → pm_H → Prop} {off : Int} {u v : Int32} {x k j ci y n : Nat}
/-- a field that may be null, and its test -/
theorem pw_gnn (hdg : decode (tb_me i).1.2.1 pc = .ok (.getfield x, 3)) (hk : tb_lk b i x = (1, ci, j, 0, 0)) (hs : h.1[k]? = some (.inr ci)) (hj : (j < pm_nf tb_cl ci) ∧ tb_ft ci j ≠ .long ∧ pm_isR (tb_ft ci j) = true) (hdg2 : decode (tb_me i).1.2.1 (pc + 3) = .ok (.ifnonnull off, 3)) (ht : pm_to (pc + 3) off = some t) (k1 : ¬ h.2.2.2 k j = none → PW b L xs d i kc ks t ls r h Q) (k2 : h.2.2.2 k j = none → PW b L xs d i kc ks (pc + 3 + 3) ls r h Q) : PW b L xs d i kc ks pc ls (.ref k :: r) h Q := by
  refine pw_h hdg rfl rfl rfl rfl rfl (?_ : _ = some (kc, ks, pc + 3, va_rf (h.2.2.2 k j) :: r, h)) ?_
  · simp only [pm_hp, hk, if_true, pm_get]
    rw [if_pos ⟨hs, hj.1⟩]
    simp [pm_fg, hj.2.1, hj.2.2]
  · cases hy : h.2.2.2 k j with
    | none => exact pw_j hdg2 rfl rfl rfl rfl (by simp only [pm_br, pm_cN, va_rf, ht, Option.map_some]; rfl) (k2 hy)
    | some z => exact pw_j hdg2 rfl rfl rfl rfl (by simp only [pm_br, pm_cN, va_rf, ht, Option.map_some]; rfl) (k1 (by rw [hy]; simp))
theorem pw_gnu (hdg : decode (tb_me i).1.2.1 pc = .ok (.getfield x, 3)) (hk : tb_lk b i x = (1, ci, j, 0, 0)) (hs : h.1[k]? = some (.inr ci)) (hj : (j < pm_nf tb_cl ci) ∧ tb_ft ci j ≠ .long ∧ pm_isR (tb_ft ci j) = true) (hdg2 : decode (tb_me i).1.2.1 (pc + 3) = .ok (.ifnull off, 3)) (ht : pm_to (pc + 3) off = some t) (k1 : h.2.2.2 k j = none → PW b L xs d i kc ks t ls r h Q) (k2 : ¬ h.2.2.2 k j = none → PW b L xs d i kc ks (pc + 3 + 3) ls r h Q) : PW b L xs d i kc ks pc ls (.ref k :: r) h Q := by
  refine pw_h hdg rfl rfl rfl rfl rfl (?_ : _ = some (kc, ks, pc + 3, va_rf (h.2.2.2 k j) :: r, h)) ?_
  · simp only [pm_hp, hk, if_true, pm_get]
    rw [if_pos ⟨hs, hj.1⟩]
    simp [pm_fg, hj.2.1, hj.2.2]
  · cases hy : h.2.2.2 k j with
    | none => exact pw_j hdg2 rfl rfl rfl rfl (by simp only [pm_br, pm_cN, va_rf, ht, Option.map_some]; rfl) (k1 hy)
    | some z => exact pw_j hdg2 rfl rfl rfl rfl (by simp only [pm_br, pm_cN, va_rf, ht, Option.map_some]; rfl) (k2 (by rw [hy]; simp))
theorem pw_ane (hdg : decode (tb_me i).1.2.1 pc = .ok (.if_acmp .ne off, 3)) (ht : pm_to pc off = some t) (hx : x < h.1.length) (hy : y < h.1.length) (k1 : ¬ x = y → PW b L xs d i kc ks t ls r h Q) (k2 : ¬ (¬ x = y) → PW b L xs d i kc ks (pc + 3) ls r h Q) : PW b L xs d i kc ks pc ls (.ref y :: .ref x :: r) h Q := by
  refine pw_b (f := decide (¬ x = y)) (t := t) hdg rfl rfl rfl rfl ?_ (fun q => k1 (of_decide_eq_true q)) (fun q => k2 (of_decide_eq_false q))
  simp only [pm_br, pm_cA]
  rw [if_pos ⟨hx, hy⟩, ht]
  by_cases hxy : x = y <;> simp [hxy]
theorem pw_mx (hd : 1 ≤ d) (hdg : decode (tb_me i).1.2.1 pc = .ok (.invokestatic x, 3)) (hk : tb_lk b i x = (16, 0, 0, 0, 0)) (h8 : (r.map fun v => v.category).sum ≤ 8) (kk : PW b L xs d i kc ks (pc + 3) ls (.int (if u < v then v else u) :: r) h Q) : PW b L xs d i kc ks pc ls (.int v :: .int u :: r) h Q := by
  refine pw_h hdg rfl rfl rfl rfl rfl (?_ : _ = some (kc, ks, pc + 3, .int (if u < v then v else u) :: r, h)) kk
  simp only [pm_hp, hk, pm_mm]
  simp [hd, h8]
theorem pw_mn (hd : 1 ≤ d) (hdg : decode (tb_me i).1.2.1 pc = .ok (.invokestatic x, 3)) (hk : tb_lk b i x = (17, 0, 0, 0, 0)) (h8 : (r.map fun v => v.category).sum ≤ 8) (kk : PW b L xs d i kc ks (pc + 3) ls (.int (if v < u then v else u) :: r) h Q) : PW b L xs d i kc ks pc ls (.int v :: .int u :: r) h Q := by
  refine pw_h hdg rfl rfl rfl rfl rfl (?_ : _ = some (kc, ks, pc + 3, .int (if v < u then v else u) :: r, h)) kk
  simp only [pm_hp, hk, pm_mm]
  simp [hd, h8]
def mi_cp (la lb : Nat) (sp dp n : Int32) : Bool := decide (¬ sp < 0 ∧ ¬ dp < 0 ∧ ¬ n < 0 ∧ sp.toNatClampNeg + n.toNatClampNeg ≤ la ∧ dp.toNatClampNeg + n.toNatClampNeg ≤ lb)
theorem pw_cpy {a e la lb : Nat} {sp dp nn : Int32} (hd : 1 ≤ d) (hdg : decode (tb_me i).1.2.1 pc = .ok (.invokestatic x, 3)) (hk : tb_lk b i x = (14, 0, 0, 0, 0)) (ha : h.1[a]? = some (.inl (.int, la))) (hb : h.1[e]? = some (.inl (.int, lb))) (hc : mi_cp la lb sp dp nn = true) (h8 : (r.map fun v => v.category).sum ≤ 8) (kk : PW b L xs d i kc ks (pc + 3) ls r (pm_rowI h e (va_cpy (h.2.1 a) (h.2.1 e) sp.toNatClampNeg dp.toNatClampNeg nn.toNatClampNeg)) Q) : PW b L xs d i kc ks pc ls (.int nn :: .int dp :: .ref e :: .int sp :: .ref a :: r) h Q := by
  refine pw_h hdg rfl rfl rfl rfl rfl (?_ : _ = some (kc, ks, pc + 3, r, _)) kk
  have hc := of_decide_eq_true hc
  simp only [pm_hp, hk, pm_copy, ha, hb]
  simp [hd, h8, hc, pm_sh]
/-- a row of constants: CHOOSE -/
theorem pw_gs (hdg : decode (tb_me i).1.2.1 pc = .ok (.getstatic x, 3)) (hk : tb_lk b i x = (15, n, 0, 0, 0)) (kk : PW b L xs d i kc ks (pc + 3) ls (.ref (pm_B + n) :: st) h Q) : PW b L xs d i kc ks pc ls st h Q := by
  refine pw_h hdg rfl rfl rfl rfl rfl (?_ : _ = some (kc, ks, pc + 3, .ref (pm_B + n) :: st, h)) kk
  simp [pm_hp, hk]
theorem mi_noB (hs : h.1 = tb_SH) : h.1[pm_B + n]? = none := by
  rw [hs]
  apply List.getElem?_eq_none
  have : tb_SH.length = 214 := by decide +kernel
  rw [this]
  unfold pm_B
  omega
theorem pw_ac (hdg : decode (tb_me i).1.2.1 pc = .ok (.iaload, 1)) (hs : h.1 = tb_SH) (hi : mi_in v 50 = true) (kk : PW b L xs d i kc ks (pc + 1) ls (.int (tb_choose.getD v.toNatClampNeg 0) :: r) h Q) : PW b L xs d i kc ks pc ls (.int v :: .ref (pm_B + 1) :: r) h Q := by
  refine pw_h hdg rfl rfl rfl rfl rfl (?_ : _ = some (kc, ks, pc + 1, .int (tb_choose.getD v.toNatClampNeg 0) :: r, h)) kk
  have hi := mi_in_x hi
  simp only [pm_hp, pm_aldI, mi_noB hs]
  rw [if_pos (Nat.le_add_right _ _)]
  simp only [Nat.add_sub_cancel_left, tb_kt]
  rw [if_pos ⟨rfl, hi⟩]
  rfl
/-- texts -/
theorem pw_tx (hdg : decode (tb_me i).1.2.1 pc = .ok (.ldc x, 2)) (hk : tb_lk b i x = (13, n, 0, 0, 0)) (kk : PW b L xs d i kc ks (pc + 2) ls (.ref (pm_B + n) :: st) h Q) : PW b L xs d i kc ks pc ls st h Q := by
  refine pw_h hdg rfl rfl rfl rfl rfl (?_ : _ = some (kc, ks, pc + 2, .ref (pm_B + n) :: st, h)) kk
  simp [pm_hp, hk]
theorem pw_rr {C : String} (hdg : decode (tb_me i).1.2.1 pc = .ok (.areturn, 1)) (hr : (tb_me i).1.2.2.2 = some (.object C)) (kk : Q (some (.ref y)) h) : PW b L xs d i kc ks pc ls [.ref y] h Q := by
  refine pw_r hdg rfl rfl rfl rfl rfl rfl rfl (?_ : _ = some (some (.ref y))) kk
  simp only [pm_ret, hr]
/-- a switch by pairs -/
theorem pw_lk {dflt : Int} {ps : Array (Int × Int)} {len : Nat} (hdg : decode (tb_me i).1.2.1 pc = .ok (.lookupswitch dflt ps, len)) (hp : ((ps.toList.zip (ps.toList.drop 1)).all (fun (a, next) => a.1 < next.1)) = true) (ht : pm_to pc (Op.lookupswitch.offset ps.toList dflt u.toInt) = some t) (k : PW b L xs d i kc ks t ls r h Q) : PW b L xs d i kc ks pc ls (.int u :: r) h Q :=
  pw_j hdg rfl rfl rfl rfl (by simp only [pm_br, pm_look, if_pos hp, ht, Option.map_some]) k
end ROWM
