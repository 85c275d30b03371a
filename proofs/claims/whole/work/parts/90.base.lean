/-! PURE REASONING over the mirrors. Base: numbers, bits, reads and writes, specs, loops. -/
/-- numbers below 0 -/
def ng (n : Nat) : Int32 := Int32.ofInt (-(n : Int))
theorem ng_toInt {n : Nat} (h : n < 2147483648) : (ng n).toInt = -(n : Int) := Int32.toInt_ofInt_of_le (by omega) (by omega)
theorem nx_toInt {n : Nat} (h : n < 2147483648) : (nI n).toInt = (n : Int) := nI_toInt (by omega)
theorem nx_lt {a b : Nat} (ha : a < 2147483648) (hb : b < 2147483648) : (nI a < nI b) = (a < b) := propext (nI_ltI (by omega) (by omega))
theorem nx_le {a b : Nat} (ha : a < 2147483648) (hb : b < 2147483648) : (nI a ≤ nI b) = (a ≤ b) := propext (nI_leI (by omega) (by omega))
theorem nx_eq {a b : Nat} (ha : a < 2147483648) (hb : b < 2147483648) : (nI a = nI b) = (a = b) := propext (nI_eq (by omega) (by omega))
theorem nx_add (a b : Nat) : nI a + nI b = nI (a + b) := nI_add a b
theorem nx_sub {a b : Nat} (h : b ≤ a) : nI a - nI b = nI (a - b) := pk_sub h
theorem nx_mul (a b : Nat) : nI a * nI b = nI (a * b) := pk_mul a b
theorem nx_div {a d : Nat} (ha : a < 2147483648) (h0 : 0 < d) (hd : d < 2147483648) : nI a / nI d = nI (a / d) := pk_div (by omega) h0 (by omega)
theorem nx_rem {a d : Nat} (ha : a < 2147483648) (h0 : 0 < d) (hd : d < 2147483648) : nI a - nI a / nI d * nI d = nI (a % d) := pk_rem (by omega) h0 (by omega)
theorem nx_cl {n : Nat} (h : n < 2147483648) : (nI n).toNatClampNeg = n := nI_clamp (by omega)
theorem nx_bm {x : Int} (h1 : -2147483648 ≤ x) (h2 : x < 2147483648) : Int.bmod x (2 ^ 32) = x := by
  rw [Int.bmod_def]
  split <;> omega
theorem nx_dec {a b : Nat} (ha : a < 2147483648) (hb : b ≤ a) : nI a + ng b = nI (a - b) := by
  apply Int32.toInt_inj.1
  rw [Int32.toInt_add, nx_toInt ha, ng_toInt (by omega), nx_toInt (by omega), nx_bm (by omega) (by omega)]
  omega
theorem nx_dec_ng {a b : Nat} (ha : a < 1073741824) (hb : b < 1073741824) (h : a ≤ b) : nI a + ng b = ng (b - a) := by
  apply Int32.toInt_inj.1
  rw [Int32.toInt_add, nx_toInt (by omega), ng_toInt (by omega), ng_toInt (by omega), nx_bm (by omega) (by omega)]
  omega
theorem nx_sub_ng {a b : Nat} (ha : a < 1073741824) (hb : b < 1073741824) (h : a ≤ b) : nI a - nI b = ng (b - a) := by
  apply Int32.toInt_inj.1
  rw [Int32.toInt_sub, nx_toInt (by omega), nx_toInt (by omega), ng_toInt (by omega), nx_bm (by omega) (by omega)]
  omega
theorem ng_sub {a b : Nat} (ha : a < 1073741824) (hb : b < 1073741824) : ng a - nI b = ng (a + b) := by
  apply Int32.toInt_inj.1
  rw [Int32.toInt_sub, ng_toInt (by omega), nx_toInt (by omega), ng_toInt (by omega), nx_bm (by omega) (by omega)]
  omega
theorem ng_lt_n {a b : Nat} (h0 : 0 < b) (hb : b < 2147483648) (ha : a < 2147483648) : (ng b < nI a) = True := by
  rw [Int32.lt_iff_toInt_lt, nx_toInt ha, ng_toInt hb]; simp; omega
theorem n_lt_ng {a b : Nat} (hb : b < 2147483648) (ha : a < 2147483648) : (nI a < ng b) = False := by
  rw [Int32.lt_iff_toInt_lt, nx_toInt ha, ng_toInt hb]; apply propext; constructor <;> intro h
  · omega
  · exact h.elim
theorem ng_le_n {a b : Nat} (hb : b < 2147483648) (ha : a < 2147483648) : (ng b ≤ nI a) = True := by
  rw [Int32.le_iff_toInt_le, nx_toInt ha, ng_toInt hb]; apply propext; constructor <;> intro h
  · exact trivial
  · omega
theorem n_le_ng {a b : Nat} (h0 : 0 < b) (hb : b < 2147483648) (ha : a < 2147483648) : (nI a ≤ ng b) = False := by
  rw [Int32.le_iff_toInt_le, nx_toInt ha, ng_toInt hb]; simp; omega
theorem n_eq_ng {a b : Nat} (h0 : 0 < b) (hb : b < 2147483648) (ha : a < 2147483648) : (nI a = ng b) = False := by
  rw [← Int32.toInt_inj, nx_toInt ha, ng_toInt hb]; simp; omega
theorem ng_eq_n {a b : Nat} (h0 : 0 < b) (hb : b < 2147483648) (ha : a < 2147483648) : (ng b = nI a) = False := by
  rw [← Int32.toInt_inj, nx_toInt ha, ng_toInt hb]; simp; omega
theorem ng_eq {a b : Nat} (hb : b < 2147483648) (ha : a < 2147483648) : (ng a = ng b) = (a = b) := by
  rw [← Int32.toInt_inj, ng_toInt ha, ng_toInt hb]; apply propext; constructor <;> intro h <;> omega
theorem ng_lt {a b : Nat} (hb : b < 2147483648) (ha : a < 2147483648) : (ng a < ng b) = (b < a) := by
  rw [Int32.lt_iff_toInt_lt, ng_toInt ha, ng_toInt hb]; apply propext; constructor <;> intro h <;> omega
theorem ng_le {a b : Nat} (hb : b < 2147483648) (ha : a < 2147483648) : (ng a ≤ ng b) = (b ≤ a) := by
  rw [Int32.le_iff_toInt_le, ng_toInt ha, ng_toInt hb]; apply propext; constructor <;> intro h <;> omega
/-- every number is one of the two -/
theorem nx_or (x : Int32) : (∃ n, n < 2147483648 ∧ x = nI n) ∨ (∃ n, 0 < n ∧ n ≤ 2147483648 ∧ x = ng n) := by
  have h1 := x.toInt_lt
  have h2 := x.le_toInt
  by_cases h : 0 ≤ x.toInt
  · exact .inl ⟨x.toInt.toNat, by omega, by apply Int32.toInt_inj.1; rw [nx_toInt (by omega)]; omega⟩
  · refine .inr ⟨(-x.toInt).toNat, by omega, by omega, ?_⟩
    apply Int32.toInt_inj.1
    rw [show ng (-x.toInt).toNat = Int32.ofInt (-(((-x.toInt).toNat : Nat) : Int)) from rfl, Int32.toInt_ofInt_of_le (by omega) (by omega)]
    omega
theorem nx_neg (x : Int32) : (x < nI 0) = (x.toInt < 0) := by
  rw [Int32.lt_iff_toInt_lt, nx_toInt (by omega)]; rfl
/-- bits -/
def sd (a b : Nat) : Nat := a ^^^ (a &&& b)
theorem sd_bit (a b i : Nat) : (sd a b).testBit i = (a.testBit i && !b.testBit i) := by
  unfold sd
  rw [Nat.testBit_xor, Nat.testBit_and]
  cases a.testBit i <;> cases b.testBit i <;> rfl
theorem nx_and2 (a b : Nat) : nI a &&& nI b = nI (a &&& b) := by
  apply Int32.toBitVec_inj.1
  show BitVec.ofNat 32 a &&& BitVec.ofNat 32 b = BitVec.ofNat 32 (a &&& b)
  apply BitVec.eq_of_getLsbD_eq
  intro i hi
  simp [hi]
theorem nx_or2 (a b : Nat) : nI a ||| nI b = nI (a ||| b) := by
  apply Int32.toBitVec_inj.1
  show BitVec.ofNat 32 a ||| BitVec.ofNat 32 b = BitVec.ofNat 32 (a ||| b)
  apply BitVec.eq_of_getLsbD_eq
  intro i hi
  simp [hi]
theorem nx_andn (a b : Nat) : nI a &&& (nI b ^^^ ng 1) = nI (sd a b) := by
  apply Int32.toBitVec_inj.1
  show BitVec.ofNat 32 a &&& (BitVec.ofNat 32 b ^^^ (ng 1).toBitVec) = BitVec.ofNat 32 (sd a b)
  have h1 : ∀ i, i < 32 → (ng 1).toBitVec.getLsbD i = true := by decide
  apply BitVec.eq_of_getLsbD_eq
  intro i hi
  rw [BitVec.getLsbD_and, BitVec.getLsbD_xor, h1 i hi, BitVec.getLsbD_ofNat, BitVec.getLsbD_ofNat, BitVec.getLsbD_ofNat, sd_bit]
  simp [hi]
theorem nx_sl : ∀ n, n < 32 → ((nI n &&& 31).toBitVec.smod 32).toNat = n := by decide +kernel
theorem nx_shl {n k : Nat} (hk : k < 31) (h : n * 2 ^ k < 4294967296) : nI n <<< (nI k &&& 31) = nI (n * 2 ^ k) := pk_shlN _ k (nx_sl k (by omega)) (by omega)
theorem nx_shl1 {k : Nat} (hk : k < 31) : nI 1 <<< (nI k &&& 31) = nI (2 ^ k) := by
  rw [nx_shl hk]
  · rw [Nat.one_mul]
  · have : 2 ^ k < 2 ^ 31 := Nat.pow_lt_pow_right (by decide) hk
    omega
theorem nx_shr {n k : Nat} (hn : n < 2147483648) (hk : k < 32) : nI n >>> (nI k &&& 31) = nI (n / 2 ^ k) := pk_shrN (by omega) _ k (nx_sl k hk)
theorem nx_bit {n k : Nat} (hn : n < 2147483648) (hk : k < 32) : (nI n >>> (nI k &&& 31)) &&& nI 1 = nI (n.testBit k).toNat := by
  rw [nx_shr hn hk, nx_and2, Nat.and_one_is_mod, Nat.testBit_eq_decide_div_mod_eq]
  rcases Nat.mod_two_eq_zero_or_one (n / 2 ^ k) with h | h <;> simp [h]
theorem nx_bt1 {n k : Nat} : (nI (n.testBit k).toNat = nI 1) = (n.testBit k = true) := by
  cases n.testBit k <;> simp [nx_eq]
theorem nx_bt0 {n k : Nat} : (nI (n.testBit k).toNat = nI 0) = (n.testBit k = false) := by
  cases n.testBit k <;> simp [nx_eq]
/-- guards -/
theorem gi_n {a n : Nat} (ha : a < 2147483648) : mi_in (nI a) n = decide (a < n) := by
  unfold mi_in
  have h0 : ¬ nI a < 0 := nI_pos (by omega)
  simp [nx_cl ha, h0]
theorem gi_t {a n : Nat} (h : a < n) (hn : n < 2147483648) : mi_in (nI a) n = true := by
  rw [gi_n (by omega)]
  simpa using h
theorem gi_bo {c : Prop} [Decidable c] {a b : Int32} (ha : mi_bo a = true) (hb : mi_bo b = true) : mi_bo (if c then a else b) = true := by split <;> assumption
/-! reads after writes -/
section RD
variable {h : pm_H} {a k b j : Nat}
theorem ri (v : Int32) : (pm_setI h a k v).2.1 b j = if b = a then (if j = k then v else h.2.1 b j) else h.2.1 b j := rfl
theorem ri_s (v : Int32) : (pm_setI h a k v).2.1 a k = v := by simp [ri]
theorem ri_j (v : Int32) (hj : j ≠ k) : (pm_setI h a k v).2.1 b j = h.2.1 b j := by simp [ri, hj]
theorem ri_c (v : Int32) (hb : b ≠ a) : (pm_setI h a k v).2.1 b j = h.2.1 b j := by simp [ri, hb]
theorem ri_r (g : Nat → Int32) : (pm_rowI h a g).2.1 a j = g j := by show pm_row h.2.1 a g a j = _; simp [pm_row]
theorem ri_rc (g : Nat → Int32) (hb : b ≠ a) : (pm_rowI h a g).2.1 b j = h.2.1 b j := by show pm_row h.2.1 a g b j = _; simp [pm_row, hb]
theorem ri_l (v : Int64) : (pm_setL h a k v).2.1 b j = h.2.1 b j := rfl
theorem ri_R (v : Option Nat) : (pm_setR h a k v).2.1 b j = h.2.1 b j := rfl
theorem rl_i (v : Int32) : (pm_setI h a k v).2.2.1 b j = h.2.2.1 b j := rfl
theorem rl_r (g : Nat → Int32) : (pm_rowI h a g).2.2.1 b j = h.2.2.1 b j := rfl
theorem rl (v : Int64) : (pm_setL h a k v).2.2.1 b j = if b = a then (if j = k then v else h.2.2.1 b j) else h.2.2.1 b j := rfl
theorem rl_s (v : Int64) : (pm_setL h a k v).2.2.1 a k = v := by simp [rl]
theorem rl_j (v : Int64) (hj : j ≠ k) : (pm_setL h a k v).2.2.1 b j = h.2.2.1 b j := by simp [rl, hj]
theorem rl_c (v : Int64) (hb : b ≠ a) : (pm_setL h a k v).2.2.1 b j = h.2.2.1 b j := by simp [rl, hb]
theorem rr_i (v : Int32) : (pm_setI h a k v).2.2.2 = h.2.2.2 := rfl
theorem rr_r (g : Nat → Int32) : (pm_rowI h a g).2.2.2 = h.2.2.2 := rfl
theorem rr_l (v : Int64) : (pm_setL h a k v).2.2.2 = h.2.2.2 := rfl
theorem rs_i (v : Int32) : (pm_setI h a k v).1 = h.1 := rfl
theorem rs_r (g : Nat → Int32) : (pm_rowI h a g).1 = h.1 := rfl
theorem rs_l (v : Int64) : (pm_setL h a k v).1 = h.1 := rfl
theorem rs_R (v : Option Nat) : (pm_setR h a k v).1 = h.1 := rfl
end RD
/-- only the cells of P have changed, and no reference -/
def Fr (P : Nat → Prop) (h h' : pm_H) : Prop := h'.1 = h.1 ∧ h'.2.2.2 = h.2.2.2 ∧ ∀ c, ¬ P c → h'.2.1 c = h.2.1 c ∧ h'.2.2.1 c = h.2.2.1 c
theorem Fr.refl (P : Nat → Prop) (h : pm_H) : Fr P h h := ⟨rfl, rfl, fun _ _ => ⟨rfl, rfl⟩⟩
theorem Fr.trans {P : Nat → Prop} {h h1 h2 : pm_H} (a : Fr P h h1) (b : Fr P h1 h2) : Fr P h h2 :=
  ⟨b.1.trans a.1, b.2.1.trans a.2.1, fun c hc => ⟨(b.2.2 c hc).1.trans (a.2.2 c hc).1, (b.2.2 c hc).2.trans (a.2.2 c hc).2⟩⟩
theorem Fr.mono {P Q : Nat → Prop} {h h1 : pm_H} (a : Fr P h h1) (hPQ : ∀ c, P c → Q c) : Fr Q h h1 := ⟨a.1, a.2.1, fun c hc => a.2.2 c (fun q => hc (hPQ c q))⟩
theorem Fr.setI {P : Nat → Prop} {h h1 : pm_H} {a k : Nat} {v : Int32} (f : Fr P h h1) (ha : P a) : Fr P h (pm_setI h1 a k v) :=
  ⟨f.1, f.2.1, fun c hc => ⟨by rw [← (f.2.2 c hc).1]; funext j; exact ri_c v (fun q => hc (q ▸ ha)), (f.2.2 c hc).2⟩⟩
theorem Fr.setL {P : Nat → Prop} {h h1 : pm_H} {a k : Nat} {v : Int64} (f : Fr P h h1) (ha : P a) : Fr P h (pm_setL h1 a k v) :=
  ⟨f.1, f.2.1, fun c hc => ⟨(f.2.2 c hc).1, by rw [← (f.2.2 c hc).2]; funext j; exact rl_c v (fun q => hc (q ▸ ha))⟩⟩
theorem Fr.rowI {P : Nat → Prop} {h h1 : pm_H} {a : Nat} {g : Nat → Int32} (f : Fr P h h1) (ha : P a) : Fr P h (pm_rowI h1 a g) :=
  ⟨f.1, f.2.1, fun c hc => ⟨by rw [← (f.2.2 c hc).1]; funext j; exact ri_rc g (fun q => hc (q ▸ ha)), (f.2.2 c hc).2⟩⟩
theorem Fr.i {P : Nat → Prop} {h h1 : pm_H} (f : Fr P h h1) {c : Nat} (j : Nat) (hc : ¬ P c) : h1.2.1 c j = h.2.1 c j := by rw [(f.2.2 c hc).1]
theorem Fr.l {P : Nat → Prop} {h h1 : pm_H} (f : Fr P h h1) {c : Nat} (j : Nat) (hc : ¬ P c) : h1.2.2.1 c j = h.2.2.1 c j := by rw [(f.2.2 c hc).2]
theorem Fr.r {P : Nat → Prop} {h h1 : pm_H} (f : Fr P h h1) (c j : Nat) : h1.2.2.2 c j = h.2.2.2 c j := by rw [f.2.1]
/-- specs -/
def SP {α : Type} (m : Option α) (Q : α → Prop) : Prop := ∃ r, m = some r ∧ Q r
section SPs
variable {α β : Type} {Q : α → Prop}
theorem SP.mono {m : Option α} {Q' : α → Prop} (h : SP m Q) (f : ∀ r, Q r → Q' r) : SP m Q' := by
  obtain ⟨r, h1, h2⟩ := h
  exact ⟨r, h1, f r h2⟩
theorem sp_some {r : α} : SP (some r) Q ↔ Q r := ⟨fun ⟨_, h1, h2⟩ => by cases h1; exact h2, fun h => ⟨r, rfl, h⟩⟩
theorem sp_bd {γ : Type} {a : γ} {f : γ → Option α} : SP (bd a f) Q ↔ SP (f a) Q := Iff.rfl
theorem sp_bind {γ : Type} {m : Option γ} {f : γ → Option α} : SP (m.bind f) Q ↔ SP m (fun r => SP (f r) Q) := by
  constructor
  · rintro ⟨r, h1, h2⟩
    obtain ⟨y, h3, h4⟩ := Option.bind_eq_some_iff.mp h1
    exact ⟨y, h3, r, h4, h2⟩
  · rintro ⟨y, h1, r, h2, h3⟩
    exact ⟨r, by rw [h1]; exact h2, h3⟩
theorem sp_ite {c : Prop} [Decidable c] {a b : Option α} : SP (if c then a else b) Q ↔ (c → SP a Q) ∧ (¬ c → SP b Q) := by
  by_cases h : c <;> simp [h]
theorem sp_g {c : Bool} {a : Option α} : SP (if c = true then a else none) Q ↔ c = true ∧ SP a Q := by
  cases c <;> simp [SP]
theorem sp_of {m : Option α} {r : α} (h : m = some r) : SP m Q ↔ Q r := by rw [h]; exact sp_some
theorem sp_call {γ : Type} {m : Option γ} {f : γ → Option α} {P : γ → Prop} (h : SP m P) (k : ∀ r, P r → SP (f r) Q) : SP (m.bind f) Q := sp_bind.mpr (h.mono k)
theorem sp_pos {c : Prop} [Decidable c] {a b : Option α} (h : c) (k : SP a Q) : SP (if c then a else b) Q := by rw [if_pos h]; exact k
theorem sp_neg {c : Prop} [Decidable c] {a b : Option α} (h : ¬ c) (k : SP b Q) : SP (if c then a else b) Q := by rw [if_neg h]; exact k
end SPs
/-! loops by a count -/
section LOOPS
variable {S R : Type}
theorem wh_for {f : S → Option (S ⊕ R)} {r : R} (st : Nat → S) (n : Nat) : ∀ (k : Nat), k ≤ n → (∀ i, k ≤ i → i < n → f (st i) = some (.inl (st (i + 1)))) → f (st n) = some (.inr r) → wh f (st k) = some r := by
  intro k hk hs he
  induction hd : n - k generalizing k with
  | zero =>
    have : k = n := by omega
    subst this
    exact wh_inr he
  | succ d ih =>
    rw [wh_inl (hs k (Nat.le_refl _) (by omega))]
    exact ih (k + 1) (by omega) (fun i h1 h2 => hs i (by omega) h2) (by omega)
/-- with an invariant over a count: the state is any one of which I holds -/
theorem wh_cnt {f : S → Option (S ⊕ R)} (I : Nat → S → Prop) (P : R → Prop) (n : Nat) (hs : ∀ i s, i < n → I i s → SP (f s) (fun q => match q with | .inl s' => I (i + 1) s' | .inr r => P r)) (he : ∀ s, I n s → SP (f s) (fun q => match q with | .inl _ => False | .inr r => P r)) : ∀ (k : Nat) (s : S), k ≤ n → I k s → SP (wh f s) P := by
  intro k s hk hI
  induction hd : n - k generalizing k s with
  | zero =>
    have : k = n := by omega
    subst this
    obtain ⟨q, h1, h2⟩ := he s hI
    cases q with
    | inl s' => exact h2.elim
    | inr r => exact ⟨r, wh_inr h1, h2⟩
  | succ d ih =>
    obtain ⟨q, h1, h2⟩ := hs k s (by omega) hI
    cases q with
    | inl s' =>
      rw [wh_inl h1]
      exact ih (k + 1) s' (by omega) h2 (by omega)
    | inr r => exact ⟨r, wh_inr h1, h2⟩
/-- with an invariant and a measure -/
theorem wh_sp {f : S → Option (S ⊕ R)} (I : S → Prop) (μ : S → Nat) (P : R → Prop) (hI : ∀ s, I s → SP (f s) (fun q => match q with | .inl s' => I s' ∧ μ s' < μ s | .inr r => P r)) {s : S} (hs : I s) : SP (wh f s) P := by
  obtain ⟨r, h1, h2⟩ := wh_inv I μ P (fun s hs => by
    obtain ⟨q, h1, h2⟩ := hI s hs
    cases q with
    | inl s' => exact .inl ⟨s', h1, h2.1, h2.2⟩
    | inr r => exact .inr ⟨r, h1, h2⟩) hs
  exact ⟨r, h1, h2⟩
end LOOPS
