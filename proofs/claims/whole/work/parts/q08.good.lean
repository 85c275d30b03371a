/-! A rule's text: signs read are well formed. -/
/-- signs read so far: the kinds on their stack, their sizes, no more values than parts -/
def GT (n0 : Nat) (ts : List Bool) (k : Nat) (l : List Nat) : Prop := tys l [] = some ts ∧ (∀ t ∈ l, t < 2147483648) ∧ npu l + n0 ≤ k
section GO
variable {n0 k L p : Nat} {B : Nat → Nat} {l : List Nat} {ts : List Bool}
theorem tys_app (m : List Nat) : ∀ (l : List Nat) (ts : List Bool), tys (l ++ m) ts = (tys l ts).bind (tys m)
  | [], ts => rfl
  | t :: l, ts => by
    show (ty1 t ts).bind (tys (l ++ m)) = ((ty1 t ts).bind (tys l)).bind (tys m)
    cases ty1 t ts with
    | none => rfl
    | some x => exact tys_app m l x
theorem npu_app (l m : List Nat) : npu (l ++ m) = npu l + npu m := by
  unfold npu
  rw [List.filter_append, List.length_append]
theorem GT.add (G : GT n0 ts k l) {t k' : Nat} {ts' : List Bool} (e : ty1 t ts = some ts') (ht : t < 2147483648) (hk : k + (if t % 16 < 2 then 1 else 0) ≤ k') : GT n0 ts' k' (l ++ [t]) := by
  obtain ⟨g1, g2, g3⟩ := G
  refine ⟨?_, fun x hx => ?_, ?_⟩
  · rw [tys_app, g1]
    show (ty1 t ts).bind (tys []) = _
    rw [e]
    rfl
  · rw [List.mem_append] at hx
    rcases hx with hx | hx
    · exact g2 x hx
    · rw [List.mem_singleton] at hx
      omega
  · rw [npu_app, npu_cons]
    have : npu [] = 0 := rfl
    omega
theorem valP_gt {y : Nat × List Nat × Nat} (e : valP B L k l p = .inr y) (hp : p ≤ L) (G : GT n0 ts k l) : GT n0 (false :: ts) y.1 y.2.1 := by
  unfold valP at e
  split at e
  · rename_i k1
    have vl := nrV_lt hp k1
    split at e
    · cases e
    · split at e
      · cases e
        refine G.add ?_ (by omega) (by split <;> omega)
        unfold ty1
        rw [if_pos (by omega), if_pos (by omega)]
      · cases e
  · split at e
    · cases e
    · rename_i w ew
      have wl := widx_lt lws 0 w ew
      have w11 : w < 11 := by
        have : lws.length = 11 := rfl
        omega
      split at e
      · cases e
        refine G.add ?_ (by omega) (by split <;> omega)
        unfold ty1
        rw [if_neg (by omega), if_pos (by omega), if_pos (by omega)]
      · cases e
theorem GT.sop (G : GT n0 (false :: false :: ts) k l) {x : Nat} (hx : isBi x = true ∨ isAd x = true) : GT n0 (false :: ts) k (l ++ [sop x]) := by
  rw [isBi_t, isAd_t] at hx
  rcases hx with (rfl | rfl | rfl) | (rfl | rfl) <;> exact G.add rfl (by decide) (Nat.le_refl k)
def wts (w : Option Nat) (ts : List Bool) : List Bool := match w with
  | none => false :: ts
  | some _ => false :: false :: ts
theorem GT.fin {w : Option Nat} (G : GT n0 (wts w ts) k l) (hw : ∀ x, w = some x → isAd x = true) : GT n0 (false :: ts) k (fin w l) := by
  cases w with
  | none => exact G
  | some x => exact GT.sop G (.inr (hw x rfl))
theorem fin_len (w : Option Nat) (l : List Nat) : (fin w l).length = l.length + wn w := by
  cases w with
  | none => rfl
  | some x => exact List.length_append
theorem sumL_ok : ∀ (f : Nat) (w : Option Nat) (k : Nat) (l : List Nat) (p : Nat) (y : Nat × List Nat × Nat), sumL B L f w k l p = .inr y → p ≤ L → ca B L p ≠ 32 → k ≤ 60 → (∀ x, w = some x → isAd x = true) → GT n0 (wts w ts) k l → y.2.1.length + p ≤ l.length + wn w + y.2.2 ∧ p ≤ y.2.2 ∧ y.2.2 ≤ L ∧ ca B L y.2.2 ≠ 32 ∧ y.1 ≤ 60 ∧ k ≤ y.1 ∧ GT n0 (false :: ts) y.1 y.2.1
  | 0, w, k, l, p, y, e, hp, cp, hk, hw, G => by
    rw [sumL] at e
    cases e
    have := fin_len w l
    exact ⟨by dsimp only; omega, Nat.le_refl p, hp, cp, hk, Nat.le_refl k, G.fin hw⟩
  | f + 1, w, k, l, p, y, e, hp, cp, hk, hw, G => by
    rw [sumL] at e
    split at e
    · rename_i hx
      obtain ⟨b1, pL⟩ := bi_bh (.inl hx) (rfl : ca B L p = _)
      have sg := skp_ge (B := B) (show p + 1 ≤ L by omega)
      rw [b1] at e
      split at e
      · cases e
      · rename_i z ez
        obtain ⟨o1, o2, o3, o4, o5, o6⟩ := valP_ok ez sg.2
        have G1 := valP_gt ez sg.2 G
        have G2 : GT n0 (wts w ts) z.1 (z.2.1 ++ [sop (ca B L p)]) := by
          cases w with
          | none => exact GT.sop G1 (.inl hx)
          | some v => exact GT.sop G1 (.inl hx)
        have ih := sumL_ok f w z.1 (z.2.1 ++ [sop (ca B L p)]) z.2.2 y e o5 o6 (by omega) hw G2
        rw [List.length_append] at ih
        obtain ⟨i1, i2, i3, i4, i5, i6, i7⟩ := ih
        have i1' : y.2.1.length + z.2.2 ≤ z.2.1.length + 1 + wn w + y.2.2 := i1
        exact ⟨by omega, by omega, i3, i4, i5, by omega, i7⟩
    · split at e
      · rename_i hx
        obtain ⟨b1, pL⟩ := bi_bh (.inr hx) (rfl : ca B L p = _)
        have sg := skp_ge (B := B) (show p + 1 ≤ L by omega)
        rw [b1] at e
        split at e
        · cases e
        · rename_i z ez
          obtain ⟨o1, o2, o3, o4, o5, o6⟩ := valP_ok ez sg.2
          have G1 := valP_gt ez sg.2 (G.fin hw)
          have fl := fin_len w l
          have ih := sumL_ok f (some (ca B L p)) z.1 z.2.1 z.2.2 y e o5 o6 (by omega) (fun x q => by cases q; exact hx) G1
          obtain ⟨i1, i2, i3, i4, i5, i6, i7⟩ := ih
          have i1' : y.2.1.length + z.2.2 ≤ z.2.1.length + 1 + y.2.2 := i1
          exact ⟨by omega, by omega, i3, i4, i5, by omega, i7⟩
      · cases e
        have := fin_len w l
        exact ⟨by dsimp only; omega, Nat.le_refl p, hp, cp, hk, Nat.le_refl k, G.fin hw⟩
theorem sumP_ok {y : Nat × List Nat × Nat} (e : sumP B L k l p = .inr y) (hp : p ≤ L) (G : GT n0 ts k l) : y.2.1.length + p ≤ l.length + y.2.2 ∧ p < y.2.2 ∧ y.2.2 ≤ L ∧ ca B L y.2.2 ≠ 32 ∧ y.1 ≤ 60 ∧ k < y.1 ∧ GT n0 (false :: ts) y.1 y.2.1 := by
  unfold sumP at e
  split at e
  · cases e
  · rename_i z ez
    obtain ⟨o1, o2, o3, o4, o5, o6⟩ := valP_ok ez hp
    obtain ⟨i1, i2, i3, i4, i5, i6, i7⟩ := sumL_ok (n0 := n0) (ts := ts) 400 none z.1 z.2.1 z.2.2 y e o5 o6 (by omega) (fun x q => by cases q) (valP_gt ez hp G)
    have i1' : y.2.1.length + z.2.2 ≤ z.2.1.length + 0 + y.2.2 := i1
    exact ⟨by omega, by omega, i3, i4, i5, by omega, i7⟩
end GO
