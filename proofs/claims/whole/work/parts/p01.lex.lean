/-! Texts: places, units; the program's tape. -/
/-- the sign at a place; 256 at the end -/
def ca (B : Nat → Nat) (L p : Nat) : Nat := if p < L then B p else 256
def kd (c : Nat) : Nat := if c = 256 then 0 else if 48 ≤ c ∧ c ≤ 57 then 1 else if 97 ≤ c ∧ c ≤ 122 then 2 else 3
/-- from p on past all of which c holds -/
def nxt (c : Nat → Bool) : Nat → Nat → Nat
  | 0, p => p
  | f + 1, p => if c p = true then nxt c f (p + 1) else p
def nx (c : Nat → Bool) (L p : Nat) : Nat := nxt c (L - p) p
section NX
variable {c : Nat → Bool} {L p : Nat}
theorem nx_t (hp : p < L) (h : c p = true) : nx c L p = nx c L (p + 1) := by
  unfold nx
  obtain ⟨f, e⟩ : ∃ f, L - p = f + 1 := ⟨L - p - 1, by omega⟩
  rw [e, nxt, if_pos h, show L - (p + 1) = f from by omega]
theorem nx_f (h : p < L → c p = false) : nx c L p = p := by
  unfold nx
  by_cases hp : p < L
  · obtain ⟨f, e⟩ : ∃ f, L - p = f + 1 := ⟨L - p - 1, by omega⟩
    rw [e, nxt, if_neg (by rw [h hp]; simp)]
  · rw [show L - p = 0 from by omega]
    rfl
theorem nx_all : ∀ (d : Nat) {p : Nat}, L - p = d → p ≤ L → p ≤ nx c L p ∧ nx c L p ≤ L ∧ (∀ q, p ≤ q → q < nx c L p → c q = true) ∧ (nx c L p < L → c (nx c L p) = false)
  | 0, p, hd, hp => by
    have e : nx c L p = p := nx_f (fun z => by omega)
    rw [e]
    exact ⟨Nat.le_refl _, hp, fun q h1 h2 => by omega, fun z => by omega⟩
  | d + 1, p, hd, hp => by
    by_cases h : c p = true
    · rw [nx_t (by omega) h]
      obtain ⟨h1, h2, h3, h4⟩ := nx_all d (p := p + 1) (by omega) (by omega)
      refine ⟨by omega, h2, fun q a b => ?_, h4⟩
      by_cases e : q = p
      · rw [e]; exact h
      · exact h3 q (by omega) b
    · have e : nx c L p = p := nx_f (fun _ => by simpa using h)
      rw [e]
      exact ⟨Nat.le_refl _, hp, fun q h1 h2 => by omega, fun _ => by simpa using h⟩
theorem nx_ge (hp : p ≤ L) : p ≤ nx c L p ∧ nx c L p ≤ L := ⟨(nx_all _ rfl hp).1, (nx_all _ rfl hp).2.1⟩
theorem nx_in (hp : p ≤ L) {q : Nat} (h1 : p ≤ q) (h2 : q < nx c L p) : c q = true := (nx_all _ rfl hp).2.2.1 q h1 h2
theorem nx_at (hp : p ≤ L) (h : nx c L p < L) : c (nx c L p) = false := (nx_all _ rfl hp).2.2.2 h
/-- a loop that goes on while c holds -/
theorem wh_nx {S R : Type} {f : S → Option (S ⊕ R)} (st : Nat → S) (r : Nat → R) (hp : p ≤ L) (ht : ∀ q, p ≤ q → q < L → c q = true → f (st q) = some (.inl (st (q + 1)))) (he : ∀ q, p ≤ q → q ≤ L → (q < L → c q = false) → f (st q) = some (.inr (r q))) : wh f (st p) = some (r (nx c L p)) := by
  have a := nx_ge (c := c) hp
  refine wh_for st (nx c L p) p a.1 (fun i h1 h2 => ht i h1 (by omega) (nx_in hp h1 h2)) (he _ a.1 a.2 (fun z => nx_at hp z))
end NX
def isSp (B : Nat → Nat) (q : Nat) : Bool := decide (B q = 32)
def isKd (B : Nat → Nat) (k q : Nat) : Bool := decide (kd (B q) = k)
/-- past the blanks -/
def skp (B : Nat → Nat) (L p : Nat) : Nat := nx (isSp B) L p
theorem skp_ge {B : Nat → Nat} {L p : Nat} (hp : p ≤ L) : p ≤ skp B L p ∧ skp B L p ≤ L := nx_ge hp
theorem skp_ca {B : Nat → Nat} {L p : Nat} (hp : p ≤ L) : ca B L (skp B L p) ≠ 32 := by
  unfold ca
  by_cases h : skp B L p < L
  · rw [if_pos h]
    have := nx_at hp h
    unfold isSp at this
    exact of_decide_eq_false this
  · rw [if_neg h]
    omega
theorem skp_id {B : Nat → Nat} {L p : Nat} (h : ca B L p ≠ 32) : skp B L p = p := by
  refine nx_f (fun z => ?_)
  unfold isSp
  unfold ca at h
  rw [if_pos z] at h
  exact decide_eq_false h
/-- the end of the unit at p -/
def bh (B : Nat → Nat) (L p : Nat) : Nat := if kd (ca B L p) = 3 then (if (ca B L p = 60 ∨ ca B L p = 62) ∧ ca B L (p + 1) = 61 then p + 2 else p + 1) else nx (isKd B (kd (ca B L p))) L p
/-- the number that the digits from p on make, the first five of them -/
def dgv (B : Nat → Nat) (p : Nat) : Nat → Nat
  | 0 => 0
  | i + 1 => if i < 5 then dgv B p i * 10 + (B (p + i) - 48) else dgv B p i
def nbr (B : Nat → Nat) (L p : Nat) : Nat := if kd (ca B L p) = 3 then (if (ca B L p = 60 ∨ ca B L p = 62) ∧ ca B L (p + 1) = 61 then ca B L p + 256 else ca B L p) else if kd (ca B L p) = 1 then dgv B p (bh B L p - p) else 0
/-- the program's tape stands at the unit at p -/
def UNT (h : pm_H) (B : Nat → Nat) (L p : Nat) : Prop := p ≤ L ∧ ca B L p ≠ 32 ∧ h.2.1 1 2 = nI (kd (ca B L p)) ∧ h.2.1 1 3 = nI p ∧ h.2.1 1 4 = nI (bh B L p) ∧ h.2.1 1 5 = nI (bh B L p - p) ∧ h.2.1 1 6 = nI (nbr B L p)
theorem kd_le (c : Nat) : kd c ≤ 3 := by
  unfold kd
  split
  · omega
  · split
    · omega
    · split <;> omega
theorem ca_le {B : Nat → Nat} {L p : Nat} (hB : ∀ k, k < L → B k < 256) : ca B L p ≤ 256 := by
  unfold ca
  split
  · have := hB p (by assumption); omega
  · omega
theorem bh_ge {B : Nat → Nat} {L p : Nat} (hp : p ≤ L) : p ≤ bh B L p ∧ bh B L p ≤ L := by
  unfold bh
  by_cases h3 : kd (ca B L p) = 3
  · rw [if_pos h3]
    have hl : p < L := by
      apply Classical.byContradiction
      intro q
      have e : ca B L p = 256 := by unfold ca; rw [if_neg q]
      rw [e] at h3
      exact absurd h3 (by decide)
    split
    · rename_i h
      have : p + 1 < L := by
        apply Classical.byContradiction
        intro q
        have e : ca B L (p + 1) = 256 := by unfold ca; rw [if_neg q]
        have := h.2
        omega
      omega
    · omega
  · rw [if_neg h3]
    exact nx_ge hp
section TL
variable {h : pm_H} {L : Nat} {B : Nat → Nat}
/-- a byte as the program reads it -/
def cv (c : Nat) : Int32 := if c = 256 then ng 1 else nI c
theorem t_byte_n (R : RF h) (C : CT h L B) {p : Nat} (hp : p < 2147483648) : t_byteAt 1 (nI p) h = some (cv (ca B L p)) := by
  obtain ⟨c1, c2, c3⟩ := C
  unfold t_byteAt
  rw [c1]
  refine (if_neg (by rw [kc_0, nx_lt (by omega) (by omega)]; omega)).trans ?_
  unfold ca
  by_cases q : p < L
  · refine (if_neg (by rw [nx_le (by omega) (by omega)]; omega)).trans ?_
    have b := (c3 p q).2
    rw [ra_1_0 R, Option.bind_some, mn_2]
    refine (if_neg (by rw [kc_on, nx_le (by omega) (by omega)]; omega)).trans ?_
    rw [Option.bind_some, mn_2, gi_n (by omega), nx_cl (by omega), (c3 p q).1, if_pos q]
    refine (if_pos (dec_t (by omega))).trans ?_
    unfold cv
    rw [if_neg (by omega)]
  · refine (if_pos (by rw [nx_le (by omega) (by omega)]; omega)).trans ?_
    rw [if_neg q, kc_im1]
    rfl
theorem t_kind_n (h : pm_H) {c : Nat} (hc : c ≤ 256) : t_kindOf (cv c) h = some (nI (kd c)) := by
  unfold t_kindOf t_kindOf_20 cv kd
  by_cases q : c = 256
  · rw [if_pos q, if_pos q]
    exact (if_neg (by decide)).trans (by rw [kc_i0])
  rw [if_neg q, if_neg q]
  refine (if_pos (by rw [kc_0, nx_le (by omega) (by omega)]; omega)).trans ?_
  rw [kc_b_48, kc_b_57, kc_b_97, kc_b_122, kc_i1, kc_i2, kc_i3]
  by_cases q1 : 48 ≤ c ∧ c ≤ 57
  · rw [if_pos q1]
    exact (if_neg (by rw [nx_lt (by omega) (by omega)]; omega)).trans (if_neg (by rw [nx_lt (by omega) (by omega)]; omega))
  · rw [if_neg q1]
    have rest : (if nI c < nI 97 then some (nI 3) else if nI 122 < nI c then some (nI 3) else some (nI 2)) = some (nI (if 97 ≤ c ∧ c ≤ 122 then 2 else 3)) := by
      by_cases q2 : 97 ≤ c ∧ c ≤ 122
      · rw [if_pos q2, if_neg (by rw [nx_lt (by omega) (by omega)]; omega), if_neg (by rw [nx_lt (by omega) (by omega)]; omega)]
      · rw [if_neg q2]
        by_cases q3 : c < 97
        · rw [if_pos (by rw [nx_lt (by omega) (by omega)]; exact q3)]
        · rw [if_neg (by rw [nx_lt (by omega) (by omega)]; exact q3), if_pos (by rw [nx_lt (by omega) (by omega)]; omega)]
    by_cases q4 : c < 48
    · exact (if_pos (by rw [nx_lt (by omega) (by omega)]; exact q4)).trans rest
    · exact (if_neg (by rw [nx_lt (by omega) (by omega)]; exact q4)).trans ((if_pos (by rw [nx_lt (by omega) (by omega)]; omega)).trans rest)
theorem cv_eq {c d : Nat} (hc : c ≤ 256) (hd : d < 256) : (cv c = nI d) = (c = d) := by
  unfold cv
  by_cases q : c = 256
  · rw [if_pos q, ng_eq_n (by omega) (by omega) (by omega)]
    apply propext
    constructor
    · intro z; exact z.elim
    · intro z; omega
  · rw [if_neg q, nx_eq (by omega) (by omega)]
end TL
