/-! rule, of the program. -/
section XRU
variable {h : pm_H} {u L s n : Nat} {B : Nat → Nat} {A : Nat → Int32}
theorem u_read_n (R : RF h) (C : CT h L B) (hu : mi_o u 6 = true) : SP (u_read u 1 h) (fun z => FV u h z.2 ∧ (match rulP B L 13 0 0 [] (skp B L 0) with
    | .inl e => z.1 = nI 0 ∧ z.2.2.1 1 7 = nI e
    | .inr cls => z.1 = nI 1 ∧ RC z.2 u cls)) := by
  have hv := rule_ge hu
  unfold u_read t_start
  rw [sp_bd, sp_bd, kc_i0]
  have f2 : FV u h (pm_setI (pm_setI h u 1 (nI 0)) u 2 (nI 0)) := ⟨((Fr.refl _ h).setI (by omega)).setI (by omega), by rw [ri_c _ (by omega), ri_c _ (by omega)]⟩
  have S2 : US (pm_setI (pm_setI h u 1 (nI 0)) u 2 (nI 0)) u 0 (cods []) := ⟨ri_s _, by rw [ri_j _ (by omega), ri_s]; rfl, Nat.zero_le _, fun j hj => absurd hj (Nat.not_lt_zero j)⟩
  generalize pm_setI (pm_setI h u 1 (nI 0)) u 2 (nI 0) = h2 at f2 S2 ⊢
  have t4 : FT h2 (pm_setI (pm_setI h2 1 7 (nI 0)) 1 4 (nI 0)) := ((FT.refl h2).set (by omega)).set (by omega)
  have e4 : (pm_setI (pm_setI h2 1 7 (nI 0)) 1 4 (nI 0)).2.1 1 4 = nI 0 := ri_s _
  show SP (((t_advance 1 (pm_setI (pm_setI h2 1 7 (nI 0)) 1 4 (nI 0))).bind fun q3 => some q3).bind fun q3 => (wh (fun s : (Int32 × pm_H) => u_read_16 u 1 s.1 s.2) (nI 0, q3)).bind fun q4 => uTail q4) _
  generalize pm_setI (pm_setI h2 1 7 (nI 0)) 1 4 (nI 0) = h4 at t4 e4 ⊢
  have f4 := f2.trans (t4.fv u)
  refine sp_call (P := fun h' => FT h4 h' ∧ UNT h' B L (skp B L 0)) ?_ ?_
  · refine sp_call (t_advance_sp (f4.rf R) (f4.ct hu C) e4 (Nat.zero_le L)) ?_
    rintro h5 ⟨f5, U5, _⟩
    exact sp_some.mpr ⟨f5, U5⟩
  · rintro h5 ⟨f5, U5⟩
    have f05 := f4.trans (f5.fv u)
    refine sp_call (u_readW (h0 := h) hu 13 0 0 [] (skp B L 0) h5 rfl (by omega) (f05.rf R) (f05.ct hu C) f05 U5 (f5.us hu (t4.us hu S2)) (by omega) (Nat.zero_le _)) ?_
    intro q hq
    exact hq
end XRU
