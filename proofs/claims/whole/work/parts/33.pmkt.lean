/-! The pure machine, part 16: a run that reads no constant is a run for any constants. -/
section PMK
variable {cl : List vw_C} {ft : Nat → Nat → FieldType} {kt : pm_Kt} {me : Nat → pm_Me} {lk : Nat → Nat → pm_Lk}
abbrev pm_k0 : pm_Kt := fun _ => none
theorem pm_aldI_k {h : pm_H} {ok : FieldType → Bool} {st st' : List Value} (q : pm_aldI pm_k0 h ok st = some st') : pm_aldI kt h ok st = some st' := by
  unfold pm_aldI at q ⊢
  split at q
  · split at q
    · exact q
    · cases q
    · split at q
      · cases q
      · cases q
  · cases q
theorem pm_alen_k {h : pm_H} {st st' : List Value} (q : pm_alen pm_k0 h st = some st') : pm_alen kt h st = some st' := by
  unfold pm_alen at q ⊢
  split at q
  · split at q
    · exact q
    · cases q
    · split at q
      · cases q
      · cases q
  · cases q
theorem pm_gtx_k {a : Nat} {st st' : List Value} (q : pm_gtx pm_k0 a st = some st') : pm_gtx kt a st = some st' := by
  unfold pm_gtx at q
  split at q
  · split at q
    · cases q
    · cases q
  · cases q
theorem pm_hp_k {mi : MethodName} {lk : Nat → pm_Lk} {d kc ks pc : Nat} {st : List Value} {h : pm_H} {ins : Instr} {r : Nat × Nat × Nat × List Value × pm_H} (q : pm_hp cl ft pm_k0 mi lk d kc ks pc st h ins = some r) : pm_hp cl ft kt mi lk d kc ks pc st h ins = some r := by
  cases ins with
  | getfield i =>
    simp only [pm_hp] at q ⊢
    split at q
    · rename_i h1; rw [if_pos h1]; exact q
    · rename_i h1
      rw [if_neg h1]
      split at q
      · rename_i h2
        rw [if_pos h2]
        obtain ⟨st1, g1, g2⟩ := Option.map_eq_some_iff.mp q
        rw [pm_gtx_k g1]; exact congrArg some g2
      · cases q
  | iaload =>
    simp only [pm_hp] at q ⊢
    obtain ⟨st1, g1, g2⟩ := Option.map_eq_some_iff.mp q
    rw [pm_aldI_k g1]; exact congrArg some g2
  | baload =>
    simp only [pm_hp] at q ⊢
    obtain ⟨st1, g1, g2⟩ := Option.map_eq_some_iff.mp q
    rw [pm_aldI_k g1]; exact congrArg some g2
  | arraylength =>
    simp only [pm_hp] at q ⊢
    obtain ⟨st1, g1, g2⟩ := Option.map_eq_some_iff.mp q
    rw [pm_alen_k g1]; exact congrArg some g2
  | _ => exact q
theorem pm_cal_k {lk : Nat → pm_Lk} {kc ks : Nat} {st : List Value} {h : pm_H} {ins : Instr} {r : Nat × List Value × List Value} (q : pm_cal pm_k0 me lk kc ks st h ins = some r) : pm_cal kt me lk kc ks st h ins = some r := by
  have hr : ∀ {ci : Nat} {o : Option Value}, pm_rcv pm_k0 h ci o = true → pm_rcv kt h ci o = true := by
    intro ci o q
    unfold pm_rcv at q ⊢
    split at q
    · split at q
      · simp [pm_istx] at q
      · rename_i hc; simp only [if_neg hc]; exact q
    · cases q
  cases ins with
  | invokevirtual i =>
    simp only [pm_cal] at q ⊢
    split at q
    · rename_i hc
      rw [if_pos ⟨hc.1, hr hc.2.1, hc.2.2⟩]; exact q
    · cases q
  | _ => exact q
theorem pm_one_k {d i kc ks pc : Nat} {ls st : List Value} {h : pm_H} {ins : Instr} {r : pm_R} (q : pm_one cl ft pm_k0 me lk d i kc ks pc ls st h ins = some r) : pm_one cl ft kt me lk d i kc ks pc ls st h ins = some r := by
  unfold pm_one at q ⊢
  split at q
  · exact q
  · split at q
    · exact q
    · split at q
      · exact q
      · split at q
        · exact q
        · split at q
          · rename_i hq
            rw [pm_hp_k hq]; exact q
          · rename_i hq
            split at q
            · rename_i hq2
              have e1 : pm_hp cl ft kt (me i).1.1 (lk i) d kc ks pc st h ins = none := by
                cases ins <;> first | exact hq | cases hq2
              rw [e1, pm_cal_k hq2]; exact q
            · rename_i hq2
              split at q
              · rename_i hq3
                have e1 : pm_hp cl ft kt (me i).1.1 (lk i) d kc ks pc st h ins = none := by
                  cases ins <;> first | exact hq | cases hq3
                have e2 : pm_cal kt me (lk i) kc ks st h ins = none := by
                  cases ins <;> first | rfl | cases hq3
                rw [e1, e2]; exact q
              · cases q
theorem pm_kt : ∀ (n d i kc ks pc : Nat) (ls st : List Value) (h : pm_H) (r : Option Value × pm_H), pm cl ft pm_k0 me lk n d i kc ks pc ls st h = some r → pm cl ft kt me lk n d i kc ks pc ls st h = some r := by
  intro n
  induction n with
  | zero => intro d i kc ks pc ls st h r hr; cases hr
  | succ n ih =>
    intro d i kc ks pc ls st h r hr
    rw [pm] at hr
    rw [pm.eq_def]
    split at hr
    · cases hr
    · rename_i ins len hdg
      simp only [hdg]
      split at hr
      · cases hr
      · rename_i hl
        simp only [hl, Bool.true_eq_false, if_false]
        split at hr
        · cases hr
        · rename_i kc' ks' pc' ls' st' h1 ho
          simp only [pm_one_k ho]
          exact ih _ _ _ _ _ _ _ _ _ hr
        · rename_i v1 ho
          simp only [pm_one_k ho]
          exact hr
        · rename_i j as rest ho
          simp only [pm_one_k ho]
          split at hr
          · cases hr
          · rename_i d'
            split at hr
            · cases hr
            · rename_i v1 h1 hcal
              simp only [ih _ _ _ _ _ _ _ _ _ hcal]
              exact ih _ _ _ _ _ _ _ _ _ hr
end PMK
