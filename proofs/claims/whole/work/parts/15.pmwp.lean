/-! The pure machine, part 15: reasoning about its runs. -/
section PMY
variable {cl : List vw_C} {ft : Nat → Nat → FieldType} {kt : pm_Kt} {me : Nat → pm_Me} {lk : Nat → Nat → pm_Lk}
theorem pm_more1 : ∀ (n d i kc ks pc : Nat) (ls st : List Value) (h : pm_H) (r : Option Value × pm_H), pm cl ft kt me lk n d i kc ks pc ls st h = some r → pm cl ft kt me lk (n + 1) d i kc ks pc ls st h = some r := by
  intro n
  induction n with
  | zero => intro d i kc ks pc ls st h r hr; cases hr
  | succ n ih =>
    intro d i kc ks pc ls st h r hr
    rw [pm] at hr
    rw [pm.eq_def]
    split at hr
    · cases hr
    · rename_i ins len hdg
      simp only [hdg]
      split at hr
      · cases hr
      · rename_i hl
        simp only [hl, Bool.true_eq_false, if_false]
        split at hr
        · cases hr
        · rename_i kc' ks' pc' ls' st' h1 ho
          exact ih _ _ _ _ _ _ _ _ _ hr
        · rename_i v1 ho
          exact hr
        · rename_i j as rest ho
          split at hr
          · cases hr
          · rename_i d'
            split at hr
            · cases hr
            · rename_i v1 h1 hcal
              rw [ih _ _ _ _ _ _ _ _ _ hcal]
              exact ih _ _ _ _ _ _ _ _ _ hr
theorem pm_more {n n' d i kc ks pc : Nat} {ls st : List Value} {h : pm_H} {r : Option Value × pm_H} (hn : n ≤ n') (hr : pm cl ft kt me lk n d i kc ks pc ls st h = some r) : pm cl ft kt me lk n' d i kc ks pc ls st h = some r := by
  induction hn with
  | refl => exact hr
  | step _ ih => exact pm_more1 _ _ _ _ _ _ _ _ _ _ ih
/-- from here the method i comes to its end, with Q of its answer and of the heap -/
def pm_W (cl : List vw_C) (ft : Nat → Nat → FieldType) (kt : pm_Kt) (me : Nat → pm_Me) (lk : Nat → Nat → pm_Lk) (d i kc ks pc : Nat) (ls st : List Value) (h : pm_H) (Q : Option Value → pm_H → Prop) : Prop := ∃ (n : Nat) (v : Option Value) (h' : pm_H), pm cl ft kt me lk n d i kc ks pc ls st h = some (v, h') ∧ Q v h'
/-- the method j, called -/
def pm_C (cl : List vw_C) (ft : Nat → Nat → FieldType) (kt : pm_Kt) (me : Nat → pm_Me) (lk : Nat → Nat → pm_Lk) (d j : Nat) (as : List Value) (h : pm_H) (Q : Option Value → pm_H → Prop) : Prop := pm_W cl ft kt me lk d j (me j).2.1.1 (me j).2.1.2 0 (pm_ent as (me j).1.2.2.1) [] h Q
variable {d i kc ks pc : Nat} {ls st : List Value} {h : pm_H} {Q Q' : Option Value → pm_H → Prop} {ins : Instr} {len : Nat}
theorem pm_W.mono (hw : pm_W cl ft kt me lk d i kc ks pc ls st h Q) (hq : ∀ v h', Q v h' → Q' v h') : pm_W cl ft kt me lk d i kc ks pc ls st h Q' := by
  obtain ⟨n, v, h', h1, h2⟩ := hw
  exact ⟨n, v, h', h1, hq v h' h2⟩
theorem pm_C.mono {j : Nat} {as : List Value} (hw : pm_C cl ft kt me lk d j as h Q) (hq : ∀ v h', Q v h' → Q' v h') : pm_C cl ft kt me lk d j as h Q' := pm_W.mono hw hq
theorem pw_one {kc' ks' pc' : Nat} {ls' st' : List Value} {h1 : pm_H} (hdg : decode (me i).1.2.1 pc = .ok (ins, len)) (hl : pm_lok len ins = true) (ho : pm_one cl ft kt me lk d i kc ks pc ls st h ins = some (.inl (kc', ks', pc', ls', st', h1))) (k : pm_W cl ft kt me lk d i kc' ks' pc' ls' st' h1 Q) : pm_W cl ft kt me lk d i kc ks pc ls st h Q := by
  obtain ⟨n, v, h', h2, h3⟩ := k
  refine ⟨n + 1, v, h', ?_, h3⟩
  rw [pm]
  simp only [hdg, hl, ho]
  exact h2
theorem pw_ret {v : Option Value} (hdg : decode (me i).1.2.1 pc = .ok (ins, len)) (hl : pm_lok len ins = true) (ho : pm_one cl ft kt me lk d i kc ks pc ls st h ins = some (.inr (.inl v))) (k : Q v h) : pm_W cl ft kt me lk d i kc ks pc ls st h Q := by
  refine ⟨1, v, h, ?_, k⟩
  rw [pm]
  simp only [hdg, hl, ho]
  rfl
theorem pw_call {j : Nat} {as rest : List Value} {Qj : Option Value → pm_H → Prop} (hd : 1 ≤ d) (hdg : decode (me i).1.2.1 pc = .ok (ins, len)) (hl : pm_lok len ins = true) (ho : pm_one cl ft kt me lk d i kc ks pc ls st h ins = some (.inr (.inr (j, as, rest)))) (hc : pm_C cl ft kt me lk (d - 1) j as h Qj)
    (k : ∀ v h', Qj v h' → pm_W cl ft kt me lk d i (kc - (me j).2.1.1) (ks - (me j).2.1.2) (pc + 3) ls (v.toList ++ rest) h' Q) : pm_W cl ft kt me lk d i kc ks pc ls st h Q := by
  obtain ⟨n1, v1, h1, g1, g2⟩ := hc
  obtain ⟨n2, v2, h2, g3, g4⟩ := k v1 h1 g2
  obtain ⟨d', rfl⟩ : ∃ d', d = d' + 1 := ⟨d - 1, by omega⟩
  refine ⟨max n1 n2 + 1, v2, h2, ?_, g4⟩
  rw [pm]
  simp only [hdg, hl, ho]
  rw [show d' + 1 - 1 = d' from rfl] at g1
  rw [pm_more (Nat.le_max_left n1 n2) g1]
  exact pm_more (Nat.le_max_right n1 n2) g3
/-- families: the stack -/
theorem pw_s {n : Nat} {st' : List Value} (hdg : decode (me i).1.2.1 pc = .ok (ins, len)) (hl : pm_lok len ins = true) (hs : pm_stk st ins = some (n, st')) (k : pm_W cl ft kt me lk d i kc ks (pc + n) ls st' h Q) : pm_W cl ft kt me lk d i kc ks pc ls st h Q :=
  pw_one hdg hl (by simp only [pm_one, hs]) k
/-- loads -/
theorem pw_l {n : Nat} {v : Value} (hdg : decode (me i).1.2.1 pc = .ok (ins, len)) (hl : pm_lok len ins = true) (h0 : pm_stk st ins = none) (hs : pm_ld ls ins = some (n, v)) (k : pm_W cl ft kt me lk d i kc ks (pc + n) ls (v :: st) h Q) : pm_W cl ft kt me lk d i kc ks pc ls st h Q :=
  pw_one hdg hl (by simp only [pm_one, h0, hs]) k
/-- stores -/
theorem pw_t {n : Nat} {ls' st' : List Value} (hdg : decode (me i).1.2.1 pc = .ok (ins, len)) (hl : pm_lok len ins = true) (h0 : pm_stk st ins = none) (h1 : pm_ld ls ins = none) (hs : pm_sto ls st ins = some (n, ls', st')) (k : pm_W cl ft kt me lk d i kc ks (pc + n) ls' st' h Q) : pm_W cl ft kt me lk d i kc ks pc ls st h Q :=
  pw_one hdg hl (by simp only [pm_one, h0, h1, hs]) k
/-- jumps: the target is known -/
theorem pw_j {t : Nat} {st' : List Value} (hdg : decode (me i).1.2.1 pc = .ok (ins, len)) (hl : pm_lok len ins = true) (h0 : pm_stk st ins = none) (h1 : pm_ld ls ins = none) (h2 : pm_sto ls st ins = none) (hs : pm_br h.1.length pc st ins = some (t, st')) (k : pm_W cl ft kt me lk d i kc ks t ls st' h Q) : pm_W cl ft kt me lk d i kc ks pc ls st h Q :=
  pw_one hdg hl (by simp only [pm_one, h0, h1, h2, hs]) k
/-- jumps by a condition -/
theorem pw_b {t : Nat} {f : Bool} {st' : List Value} (hdg : decode (me i).1.2.1 pc = .ok (ins, len)) (hl : pm_lok len ins = true) (h0 : pm_stk st ins = none) (h1 : pm_ld ls ins = none) (h2 : pm_sto ls st ins = none) (hs : pm_br h.1.length pc st ins = some (if f = true then t else pc + 3, st')) (kt1 : f = true → pm_W cl ft kt me lk d i kc ks t ls st' h Q) (kf : f = false → pm_W cl ft kt me lk d i kc ks (pc + 3) ls st' h Q) : pm_W cl ft kt me lk d i kc ks pc ls st h Q := by
  refine pw_j hdg hl h0 h1 h2 hs ?_
  cases f with
  | true => exact kt1 rfl
  | false => exact kf rfl
/-- heap -/
theorem pw_h {kc' ks' pc' : Nat} {st' : List Value} {h' : pm_H} (hdg : decode (me i).1.2.1 pc = .ok (ins, len)) (hl : pm_lok len ins = true) (h0 : pm_stk st ins = none) (h1 : pm_ld ls ins = none) (h2 : pm_sto ls st ins = none) (h3 : pm_br h.1.length pc st ins = none) (hs : pm_hp cl ft kt (me i).1.1 (lk i) d kc ks pc st h ins = some (kc', ks', pc', st', h')) (k : pm_W cl ft kt me lk d i kc' ks' pc' ls st' h' Q) : pm_W cl ft kt me lk d i kc ks pc ls st h Q :=
  pw_one hdg hl (by simp only [pm_one, h0, h1, h2, h3, hs]) k
theorem pw_c {j : Nat} {as rest : List Value} {Qj : Option Value → pm_H → Prop} (hd : 1 ≤ d) (hdg : decode (me i).1.2.1 pc = .ok (ins, len)) (hl : pm_lok len ins = true) (h0 : pm_stk st ins = none) (h1 : pm_ld ls ins = none) (h2 : pm_sto ls st ins = none) (h3 : pm_br h.1.length pc st ins = none) (h4 : pm_hp cl ft kt (me i).1.1 (lk i) d kc ks pc st h ins = none) (hs : pm_cal kt me (lk i) kc ks st h ins = some (j, as, rest)) (hc : pm_C cl ft kt me lk (d - 1) j as h Qj)
    (k : ∀ v h', Qj v h' → pm_W cl ft kt me lk d i (kc - (me j).2.1.1) (ks - (me j).2.1.2) (pc + 3) ls (v.toList ++ rest) h' Q) : pm_W cl ft kt me lk d i kc ks pc ls st h Q :=
  pw_call hd hdg hl (by simp only [pm_one, h0, h1, h2, h3, h4, hs]) hc k
theorem pw_r {v : Option Value} (hdg : decode (me i).1.2.1 pc = .ok (ins, len)) (hl : pm_lok len ins = true) (h0 : pm_stk st ins = none) (h1 : pm_ld ls ins = none) (h2 : pm_sto ls st ins = none) (h3 : pm_br h.1.length pc st ins = none) (h4 : pm_hp cl ft kt (me i).1.1 (lk i) d kc ks pc st h ins = none) (h5 : pm_cal kt me (lk i) kc ks st h ins = none) (hs : pm_ret (me i).1.2.2.2 st ins = some v) (k : Q v h) : pm_W cl ft kt me lk d i kc ks pc ls st h Q :=
  pw_ret hdg hl (by simp only [pm_one, h0, h1, h2, h3, h4, h5, hs]) k
end PMY
