/-! ship, of the program. -/
section XSH
variable {h : pm_H} {s q n L X : Nat} {b : Nat → Bool} {S : Nat → Nat} {B : Nat → Nat} {A D : Nat → Int32} {P : Nat → Nat → Int32}
theorem begA_e (A D : Nat → Int32) {j : Nat} (h1 : j ≠ 6) (h2 : j < 206) : begA D A j = D j := by unfold begA; rw [if_neg h1, if_pos h2]
theorem begA_n (A D : Nat → Int32) {j : Nat} (h1 : j ≠ 6) (h2 : j < 206) : an (begA D A) j = an D j := by unfold an; rw [begA_e A D h1 h2]
theorem CSh.beg (Z : CSh h s D) (W : WR D) (A : Nat → Int32) : CSh h s (begA D A) := by
  have c1 := W.c1
  have c2 := W.c2
  obtain ⟨a0, a1, a2, a3, a4, a5, a6, a7, a8, a9⟩ := Z
  have em : mnA (begA D A) = mnA D := by
    funext x y
    unfold mnA
    by_cases q : x < 10 ∧ y < 10
    · rw [begA_e A D (by omega) (by omega), begA_n A D (by omega) (by omega)]
    · rw [if_neg (fun z => q ⟨z.1, z.2.1⟩), if_neg (fun z => q ⟨z.1, z.2.1⟩)]
  refine ⟨a0, by rw [begA_e A D (by omega) (by omega)]; exact a1, by rw [begA_e A D (by omega) (by omega)]; exact a2, by rw [begA_e A D (by omega) (by omega)]; exact a3, by rw [begA_e A D (by omega) (by omega)]; exact a4, fun m hm => ?_, fun o ho => ?_, fun x y hx hy hz => ?_, fun k hk => ?_, ?_⟩
  · rw [begA_n A D (by omega) (by omega)] at hm
    rw [begA_e A D (by omega) (by omega), begA_e A D (by omega) (by omega)]
    exact a5 m hm
  · rw [begA_n A D (by omega) (by omega)] at ho
    have wo := (((W.2.2.2.2.2.2.2.1 o ho).2.1).get (A := D) (i := 58 + 6 * o + 1) (by omega)).2
    rw [begA_e A D (j := 58 + 6 * o) (by omega) (by omega), begA_e A D (j := 58 + 6 * o + 1) (by omega) (by omega), begA_n A D (j := 58 + 6 * o + 1) (by omega) (by omega)]
    refine ⟨(a6 o ho).1, (a6 o ho).2.1, fun i hi => ?_⟩
    rw [begA_e A D (by omega) (by omega)]
    exact (a6 o ho).2.2 i hi
  · rw [begA_e A D (by omega) (by omega)]
    exact a7 x y hx hy (by rw [begA_n A D (by omega) (by omega)] at hz; exact hz)
  · rw [begA_n A D (by omega) (by omega)] at hk
    rw [begA_n A D (by omega) (by omega)]
    exact a8 k hk
  · rw [em, begA_n A D (by omega) (by omega)]
    exact a9
theorem bs_all {p : Nat → Bool} : ∀ n, (∀ i, i < n → p i = true) → bs p n = 2 ^ n - 1
  | 0, _ => rfl
  | n + 1, h => by
    unfold bs
    rw [bs_all n (fun i hi => h i (by omega)), if_pos (h n (by omega))]
    apply Nat.eq_of_testBit_eq
    intro i
    rw [Nat.testBit_or, Nat.testBit_two_pow_sub_one, Nat.testBit_two_pow_sub_one, Nat.testBit_two_pow]
    by_cases z : i < n
    · rw [decide_eq_true z, decide_eq_true (show i < n + 1 by omega), Bool.true_or]
    · rw [decide_eq_false z, Bool.false_or]
      exact decide_eq_decide.mpr ⟨fun _ => by omega, fun _ => by omega⟩
theorem bs_none {p : Nat → Bool} : ∀ n, (∀ i, i < n → p i = false) → bs p n = 0
  | 0, _ => rfl
  | n + 1, h => by
    unfold bs
    rw [bs_none n (fun i hi => h i (by omega)), if_neg (by rw [h n (by omega)]; decide)]
    rfl
theorem n_begin_n (R : RF h) (W : WR D) (A : Nat → Int32) : SP (n_begin 169 (D 1) h) (fun h' => Fr (fun c => 169 ≤ c ∧ c ≤ 171) h h' ∧ CHd h' 169 (begA D A)) := by
  have c1 := W.c1
  unfold n_begin
  rw [sp_bd, sp_bd, sp_bd, sp_bd, sp_bd, c1.1, kc_i1, nx_shl1 (by omega), nx_sub (Nat.one_le_two_pow), kc_i0, kc_im1]
  have f0 : Fr (fun c => 169 ≤ c ∧ c ≤ 171) h (pm_setI (pm_setI (pm_setI (pm_setI (pm_setI h 169 0 (nI (2 ^ an D 1 - 1))) 169 1 (nI 0)) 169 2 (nI 0)) 169 3 (nI 0)) 169 4 (ng 1)) := (((((Fr.refl _ h).setI (by omega)).setI (by omega)).setI (by omega)).setI (by omega)).setI (by omega)
  have v0 : (pm_setI (pm_setI (pm_setI (pm_setI (pm_setI h 169 0 (nI (2 ^ an D 1 - 1))) 169 1 (nI 0)) 169 2 (nI 0)) 169 3 (nI 0)) 169 4 (ng 1)).2.1 169 0 = nI (2 ^ an D 1 - 1) := by rw [ri_j _ (by omega), ri_j _ (by omega), ri_j _ (by omega), ri_j _ (by omega), ri_s]
  have v1 : (pm_setI (pm_setI (pm_setI (pm_setI (pm_setI h 169 0 (nI (2 ^ an D 1 - 1))) 169 1 (nI 0)) 169 2 (nI 0)) 169 3 (nI 0)) 169 4 (ng 1)).2.1 169 1 = nI 0 := by rw [ri_j _ (by omega), ri_j _ (by omega), ri_j _ (by omega), ri_s]
  have v2 : (pm_setI (pm_setI (pm_setI (pm_setI (pm_setI h 169 0 (nI (2 ^ an D 1 - 1))) 169 1 (nI 0)) 169 2 (nI 0)) 169 3 (nI 0)) 169 4 (ng 1)).2.1 169 2 = nI 0 := by rw [ri_j _ (by omega), ri_j _ (by omega), ri_s]
  have v3 : (pm_setI (pm_setI (pm_setI (pm_setI (pm_setI h 169 0 (nI (2 ^ an D 1 - 1))) 169 1 (nI 0)) 169 2 (nI 0)) 169 3 (nI 0)) 169 4 (ng 1)).2.1 169 3 = nI 0 := by rw [ri_j _ (by omega), ri_s]
  have v4 : (pm_setI (pm_setI (pm_setI (pm_setI (pm_setI h 169 0 (nI (2 ^ an D 1 - 1))) 169 1 (nI 0)) 169 2 (nI 0)) 169 3 (nI 0)) 169 4 (ng 1)).2.1 169 4 = ng 1 := ri_s _
  generalize pm_setI (pm_setI (pm_setI (pm_setI (pm_setI h 169 0 (nI (2 ^ an D 1 - 1))) 169 1 (nI 0)) 169 2 (nI 0)) 169 3 (nI 0)) 169 4 (ng 1) = h5 at f0 v0 v1 v2 v3 v4 ⊢
  have o3 : mi_o 169 3 = true := world_hands o169
  rw [rf_n5 (R.fr f0) o3, Option.bind_some]
  refine sp_call (y_fill_sp (by rw [ln_n5 o3]; omega)) ?_
  rintro h6 ⟨f6, e6⟩
  rw [ln_n5 o3] at e6
  have f6' := f0.trans (f6.mono (fun c hc => show 169 ≤ c ∧ c ≤ 171 by omega))
  rw [rf_n6 (R.fr f6') o3, Option.bind_some]
  refine sp_call (y_fill_sp (by rw [ln_n6 o3]; omega)) ?_
  rintro h7 ⟨f7, e7⟩
  rw [ln_n6 o3] at e7
  have f7' := f6'.trans (f7.mono (fun c hc => show 169 ≤ c ∧ c ≤ 171 by omega))
  have b1 : an (begA D A) 1 = an D 1 := begA_n A D (by omega) (by omega)
  have g : ∀ j, h7.2.1 169 j = h5.2.1 169 j := fun j => by rw [f7.i _ (by omega), f6.i _ (by omega)]
  obtain ⟨w0, w1, w2, w3, w4, w5, wm, wo, wt⟩ := W
  refine sp_some.mpr ⟨f7', o3, ?_, ?_, ?_, ?_, ?_, fun m hm => ?_⟩
  · rw [g, v0, b1, bs_all]
    intro i hi
    unfold isAw
    rw [begA_e A D (by omega) (by omega), (wm i hi).2.2.1]
    exact decide_eq_true rfl
  · rw [g, v1, b1, bs_none]
    intro i hi
    unfold isDd
    rw [begA_e A D (by omega) (by omega), (wm i hi).2.2.2.2.1]
    decide
  · rw [g, v2, begA_e A D (by omega) (by omega), w4]
  · rw [g, v3, begA_e A D (by omega) (by omega), w5]
  · rw [g, v4]
    unfold begA
    rw [if_pos rfl]
  · rw [b1] at hm
    rw [begA_e A D (by omega) (by omega), begA_e A D (by omega) (by omega), (wm m hm).2.2.2.1, (wm m hm).2.2.2.2.2]
    exact ⟨by rw [f7.i _ (by omega)]; exact e6 m (by omega), e7 m (by omega)⟩
theorem hulls_far : ∀ c ∈ [108, 118, 128, 138, 148, 158], ∀ d ∈ [108, 118, 128, 138, 148, 158], c ≠ d → c + 10 ≤ d ∨ d + 10 ≤ c := by decide +kernel
end XSH
