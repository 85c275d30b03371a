/-! The invariant of the new objects. -/
section STA
variable {h : pm_H}
theorem A0_0 {j : Nat} (h6 : j ≠ 6) (h1 : ¬ (106 ≤ j ∧ j < 206)) : A0 j = nI 0 := by unfold A0; rw [if_neg h6, if_neg h1]
theorem A0_n {j : Nat} (h6 : j ≠ 6) (h1 : ¬ (106 ≤ j ∧ j < 206)) : an A0 j = 0 := by unfold an; rw [A0_0 h6 h1]; decide
theorem A0_6 : A0 6 = ng 1 := by unfold A0; rw [if_pos rfl]
theorem A0_m {j : Nat} (h1 : 106 ≤ j ∧ j < 206) : A0 j = ng 1 := by unfold A0; rw [if_neg (by omega), if_pos h1]
theorem A0_z {j n : Nat} (h6 : j ≠ 6) (h1 : ¬ (106 ≤ j ∧ j < 206)) (hn : 0 < n) : isN (A0 j) n := ⟨0, hn, A0_0 h6 h1⟩
theorem A0_wf : WFA A0 := by
  have n1 : an A0 1 = 0 := A0_n (by omega) (by omega)
  have n2 : an A0 2 = 0 := A0_n (by omega) (by omega)
  have n26 : an A0 226 = 0 := A0_n (by omega) (by omega)
  refine ⟨A0_z (by omega) (by omega) (by omega), A0_z (by omega) (by omega) (by omega), A0_z (by omega) (by omega) (by omega), A0_z (by omega) (by omega) (by omega), A0_z (by omega) (by omega) (by omega), A0_z (by omega) (by omega) (by omega), .inl A0_6, fun m hm => by omega, fun o ho => by omega, fun a b ha hb => .inl (A0_m (by omega)), A0_z (by omega) (by omega) (by omega), fun k hk => by omega⟩
theorem rf_lt : ∀ q ∈ tb_rf, q.1.1 < 214 := by decide +kernel
theorem inv_start (W : NW 214 (fun _ => False) h) (x : h.2.1 169 4 = ng 1) (y : h.2.2.2 168 0 = some 108) (z : ∀ j, h.2.1 203 j = A0 j) : INV h := by
  have Z : ∀ c j, ¬ EX c j → h.2.1 c j = nI 0 := W.2.2.1
  have R : RF h := fun q hq => W.2.2.2 q hq (rf_lt q hq) id
  have n0 : an A0 0 = 0 := A0_n (by omega) (by omega)
  have n1 : an A0 1 = 0 := A0_n (by omega) (by omega)
  have n2 : an A0 2 = 0 := A0_n (by omega) (by omega)
  have n3 : an A0 3 = 0 := A0_n (by omega) (by omega)
  have n4 : an A0 4 = 0 := A0_n (by omega) (by omega)
  have n26 : an A0 226 = 0 := A0_n (by omega) (by omega)
  have ne : ∀ c j, j ≠ 4 → c ≠ 68 → c ≠ 203 → ¬ EX c j := fun c j h4 h68 h203 e => by
    rcases e with e | e | e
    · exact h4 e.2
    · exact h68 e
    · exact h203 e
  have nh : ∀ c, mi_o c 3 = false → c ≠ 68 → c ≠ 203 → ∀ j, ¬ EX c j := fun c hc h68 h203 j e => by
    rcases e with e | e | e
    · rw [hc] at e; exact absurd e.1 (by decide)
    · exact h68 e
    · exact h203 e
  have S : CSh h 108 A0 := by
    refine ⟨by decide +kernel, ?_, ?_, ?_, ?_, fun m hm => by omega, fun o ho => by omega, fun a b _ _ q => by omega, fun k hk => by omega, ?_⟩
    · rw [Z _ _ (ne 108 0 (by omega) (by omega) (by omega)), A0_0 (by omega) (by omega)]
    · rw [Z _ _ (ne 108 1 (by omega) (by omega) (by omega)), A0_0 (by omega) (by omega)]
    · rw [Z _ _ (ne 108 2 (by omega) (by omega) (by omega)), A0_0 (by omega) (by omega)]
    · rw [Z _ _ (ne 108 3 (by omega) (by omega) (by omega)), A0_0 (by omega) (by omega)]
    · intro a b c
      constructor
      · intro q
        have := (A0_wf.mn_lt q).1
        omega
      · rintro ⟨k, hk, _⟩
        omega
  have b0 : ∀ p : Nat → Bool, bs p (an A0 1) = 0 := fun p => by rw [n1]; rfl
  have H : CHd h 169 A0 := by
    refine ⟨by decide +kernel, ?_, ?_, ?_, ?_, ?_, fun m hm => by omega⟩
    · rw [b0]; exact Z _ _ (ne 169 0 (by omega) (by omega) (by omega))
    · rw [b0]; exact Z _ _ (ne 169 1 (by omega) (by omega) (by omega))
    · rw [Z _ _ (ne 169 2 (by omega) (by omega) (by omega)), A0_0 (by omega) (by omega)]
    · rw [Z _ _ (ne 169 3 (by omega) (by omega) (by omega)), A0_0 (by omega) (by omega)]
    · rw [x, A0_6]
  have D : CDn h 168 A0 := ⟨by decide +kernel, by rw [Z _ _ (ne 168 2 (by omega) (by omega) (by omega)), A0_0 (by omega) (by omega)], fun k hk => by omega, 0, by omega, Z _ _ (nh 168 (by decide +kernel) (by omega) (by omega) 4), fun k hk => by omega⟩
  have Q : QI h 108 A0 := ⟨R, y, S, H, D, A0_wf, fun q => by omega⟩
  refine ⟨108, A0, 0, fun _ => A0, 0, fun _ => 0, 0, 0, fun _ => [], fun _ => false, fun _ => 0, fun _ => A0, fun _ => 0, ⟨Q, ⟨by omega, Z _ _ (ne 6 2 (by omega) (by omega) (by omega)), 0, by omega, Z _ _ (ne 6 1 (by omega) (by omega) (by omega)), fun i hi => absurd hi (Nat.not_lt_zero i)⟩, CT.nil (Z _ _ (ne 1 1 (by omega) (by omega) (by omega))), Z _ _ (ne 168 5 (by omega) (by omega) (by omega))⟩, ⟨Z _ _ (ne 0 2 (by omega) (by omega) (by omega)), fun r hr => absurd hr (Nat.not_lt_zero r), fun k hk => Z _ _ (ne _ 6 (by omega) (by omega) (by omega)), fun k hk q => Bool.noConfusion q⟩, ⟨⟨R, funext z, A0_wf⟩, MP0 (Z _ _ (ne 193 28 (by omega) (by omega) (by omega))), MT.nil (Z _ _ (ne 193 1 (by omega) (by omega) (by omega))), Z _ _ (ne 193 21 (by omega) (by omega) (by omega))⟩, ⟨Z _ _ (ne 193 2 (by omega) (by omega) (by omega)), fun r hr => absurd hr (Nat.not_lt_zero r), fun k hk => Z _ _ (nh 213 (by decide +kernel) (by omega) (by omega) k), fun k hk q => Bool.noConfusion q⟩, by omega, by omega, fun r hr => absurd hr (Nat.not_lt_zero r), by omega, PW0⟩
end STA
