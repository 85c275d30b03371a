/-! A ship's text: what was read so far (the reference's row read), and how the program's hull stands for it. -/
def rdMan (D : Nat → Int32) (w b : Nat) : Nat → Int32 := fun j => if j = 10 + 6 * an D 1 then nI w else if j = 10 + 6 * an D 1 + 1 then nI b else if j = 10 + 6 * an D 1 + 2 then nI 1 else if 10 + 6 * an D 1 + 3 ≤ j ∧ j < 10 + 6 * an D 1 + 6 then nI 0 else if j = 1 then nI (an D 1 + 1) else D j
def rdOrd (D : Nat → Int32) (n : Nat) (g : Nat → Nat) (k : Nat) : Nat → Int32 := fun j => if j = 58 + 6 * an D 2 then nI n else if j = 58 + 6 * an D 2 + 1 then nI k else if 58 + 6 * an D 2 + 2 ≤ j ∧ j < 58 + 6 * an D 2 + 2 + k then nI (g (j - (58 + 6 * an D 2 + 2))) else if j = 2 then nI (an D 2 + 1) else D j
def rdMea (D : Nat → Int32) (a b c : Nat) : Nat → Int32 := fun j => if j = 106 + 10 * a + b then nI c else if j = 3 then nI (an D 3 + 1) else D j
/-- well read so far -/
def WR (D : Nat → Int32) : Prop :=
  isN (D 0) 11 ∧ isN (D 1) 9 ∧ isN (D 2) 9 ∧ isN (D 3) 11 ∧ D 4 = nI 0 ∧ D 5 = nI 0 ∧
  (∀ m, m < an D 1 → isN (D (10 + 6 * m)) (an D 0) ∧ isN (D (10 + 6 * m + 1)) 3 ∧ D (10 + 6 * m + 2) = nI 1 ∧ D (10 + 6 * m + 3) = nI 0 ∧ D (10 + 6 * m + 4) = nI 0 ∧ D (10 + 6 * m + 5) = nI 0) ∧
  (∀ o, o < an D 2 → isN (D (58 + 6 * o)) 100 ∧ isN (D (58 + 6 * o + 1)) 5 ∧ 0 < an D (58 + 6 * o + 1) ∧ ∀ i, i < an D (58 + 6 * o + 1) → isN (D (58 + 6 * o + 2 + i)) (an D 0)) ∧
  (∀ a b, a < 10 → b < 10 → D (106 + 10 * a + b) = ng 1 ∨ (isN (D (106 + 10 * a + b)) (an D 0) ∧ a < an D 0 ∧ b < an D 0))
theorem isN_n {n b : Nat} (h : n < b) : isN (nI n) b := ⟨n, h, rfl⟩
theorem an_n {D : Nat → Int32} {j n : Nat} (e : D j = nI n) (hn : n < 2147483648) : an D j = n := by unfold an; rw [e, nx_cl hn]
section RDD
variable {D : Nat → Int32}
theorem WR.c0 (w : WR D) : D 0 = nI (an D 0) ∧ an D 0 < 11 := w.1.get (by omega)
theorem WR.c1 (w : WR D) : D 1 = nI (an D 1) ∧ an D 1 < 9 := w.2.1.get (by omega)
theorem WR.c2 (w : WR D) : D 2 = nI (an D 2) ∧ an D 2 < 9 := w.2.2.1.get (by omega)
theorem WR.c3 (w : WR D) : D 3 = nI (an D 3) ∧ an D 3 < 11 := w.2.2.2.1.get (by omega)
/-- men are read only with words -/
theorem rdMan_e {w b : Nat} (q : an D 1 < 8) : an (rdMan D w b) 0 = an D 0 ∧ an (rdMan D w b) 1 = an D 1 + 1 ∧ an (rdMan D w b) 2 = an D 2 ∧ an (rdMan D w b) 3 = an D 3 := by
  unfold an rdMan
  refine ⟨?_, ?_, ?_, ?_⟩
  · rw [if_neg (by omega), if_neg (by omega), if_neg (by omega), if_neg (by omega), if_neg (by omega)]
  · rw [if_neg (by omega), if_neg (by omega), if_neg (by omega), if_neg (by omega), if_pos rfl]
    have : an D 1 + 1 < 2147483648 := by omega
    exact nx_cl this
  · rw [if_neg (by omega), if_neg (by omega), if_neg (by omega), if_neg (by omega), if_neg (by omega)]
  · rw [if_neg (by omega), if_neg (by omega), if_neg (by omega), if_neg (by omega), if_neg (by omega)]
theorem rdMan_o {w b j : Nat} (h1 : j ≠ 1) (h2 : j < 10 + 6 * an D 1 ∨ 10 + 6 * an D 1 + 6 ≤ j) : rdMan D w b j = D j := by
  unfold rdMan
  rw [if_neg (by omega), if_neg (by omega), if_neg (by omega), if_neg (by omega), if_neg h1]
theorem rdMan_wr (W : WR D) {w b : Nat} (q : an D 1 < 8) (hw : w < an D 0) (hb : b < 3) : WR (rdMan D w b) := by
  have e := rdMan_e (D := D) (w := w) (b := b) q
  obtain ⟨w0, w1, w2, w3, w4, w5, wm, wo, wt⟩ := W
  have c2 := w2.get (i := 2) (A := D) (by omega)
  refine ⟨?_, ?_, ?_, ?_, ?_, ?_, ?_, ?_, ?_⟩
  · rw [rdMan_o (by omega) (by omega)]; exact w0
  · have : rdMan D w b 1 = nI (an D 1 + 1) := by
      unfold rdMan
      rw [if_neg (by omega), if_neg (by omega), if_neg (by omega), if_neg (by omega), if_pos rfl]
    rw [this]
    exact isN_n (by omega)
  · rw [rdMan_o (by omega) (by omega)]; exact w2
  · rw [rdMan_o (by omega) (by omega)]; exact w3
  · rw [rdMan_o (by omega) (by omega)]; exact w4
  · rw [rdMan_o (by omega) (by omega)]; exact w5
  · intro m hm
    rw [e.2.1] at hm
    rw [e.1]
    by_cases z : m = an D 1
    · subst z
      refine ⟨?_, ?_, ?_, ?_, ?_, ?_⟩
      · unfold rdMan; rw [if_pos rfl]; exact isN_n hw
      · unfold rdMan; rw [if_neg (by omega), if_pos rfl]; exact isN_n hb
      · unfold rdMan; rw [if_neg (by omega), if_neg (by omega), if_pos rfl]
      · unfold rdMan; rw [if_neg (by omega), if_neg (by omega), if_neg (by omega), if_pos (by omega)]
      · unfold rdMan; rw [if_neg (by omega), if_neg (by omega), if_neg (by omega), if_pos (by omega)]
      · unfold rdMan; rw [if_neg (by omega), if_neg (by omega), if_neg (by omega), if_pos (by omega)]
    · rw [rdMan_o (by omega) (by omega), rdMan_o (by omega) (by omega), rdMan_o (by omega) (by omega), rdMan_o (by omega) (by omega), rdMan_o (by omega) (by omega), rdMan_o (by omega) (by omega)]
      exact wm m (by omega)
  · intro o ho
    rw [e.2.2.1] at ho
    rw [e.1]
    have ea : an (rdMan D w b) (58 + 6 * o + 1) = an D (58 + 6 * o + 1) := by unfold an; rw [rdMan_o (by omega) (by omega)]
    rw [ea, rdMan_o (by omega) (by omega), rdMan_o (by omega) (by omega)]
    refine ⟨(wo o ho).1, (wo o ho).2.1, (wo o ho).2.2.1, fun i hi => ?_⟩
    rw [rdMan_o (by omega) (by omega)]
    exact (wo o ho).2.2.2 i hi
  · intro a b' ha hb'
    rw [e.1, rdMan_o (by omega) (by omega)]
    exact wt a b' ha hb'
theorem rdOrd_o {n k j : Nat} {g : Nat → Nat} (h1 : j ≠ 2) (h2 : j < 58 + 6 * an D 2 ∨ 58 + 6 * an D 2 + 2 + k ≤ j) : rdOrd D n g k j = D j := by
  unfold rdOrd
  rw [if_neg (by omega), if_neg (by omega), if_neg (by omega), if_neg h1]
theorem rdOrd_e {n k : Nat} {g : Nat → Nat} (q : an D 2 < 8) : an (rdOrd D n g k) 0 = an D 0 ∧ an (rdOrd D n g k) 1 = an D 1 ∧ an (rdOrd D n g k) 2 = an D 2 + 1 ∧ an (rdOrd D n g k) 3 = an D 3 := by
  refine ⟨?_, ?_, ?_, ?_⟩
  · unfold an; rw [rdOrd_o (by omega) (by omega)]
  · unfold an; rw [rdOrd_o (by omega) (by omega)]
  · have : rdOrd D n g k 2 = nI (an D 2 + 1) := by
      unfold rdOrd
      rw [if_neg (by omega), if_neg (by omega), if_neg (by omega), if_pos rfl]
    exact an_n this (by omega)
  · unfold an; rw [rdOrd_o (by omega) (by omega)]
theorem rdOrd_wr (W : WR D) {n k : Nat} {g : Nat → Nat} (q : an D 2 < 8) (hn : n < 100) (hk : 0 < k) (hk4 : k ≤ 4) (hg : ∀ i, i < k → g i < an D 0) : WR (rdOrd D n g k) := by
  have e := rdOrd_e (D := D) (n := n) (g := g) (k := k) q
  obtain ⟨w0, w1, w2, w3, w4, w5, wm, wo, wt⟩ := W
  have c1 := w1.get (i := 1) (A := D) (by omega)
  refine ⟨?_, ?_, ?_, ?_, ?_, ?_, ?_, ?_, ?_⟩
  · rw [rdOrd_o (by omega) (by omega)]; exact w0
  · rw [rdOrd_o (by omega) (by omega)]; exact w1
  · have : rdOrd D n g k 2 = nI (an D 2 + 1) := by
      unfold rdOrd
      rw [if_neg (by omega), if_neg (by omega), if_neg (by omega), if_pos rfl]
    rw [this]
    exact isN_n (by omega)
  · rw [rdOrd_o (by omega) (by omega)]; exact w3
  · rw [rdOrd_o (by omega) (by omega)]; exact w4
  · rw [rdOrd_o (by omega) (by omega)]; exact w5
  · intro m hm
    rw [e.2.1] at hm
    rw [e.1, rdOrd_o (by omega) (by omega), rdOrd_o (by omega) (by omega), rdOrd_o (by omega) (by omega), rdOrd_o (by omega) (by omega), rdOrd_o (by omega) (by omega), rdOrd_o (by omega) (by omega)]
    exact wm m hm
  · intro o ho
    rw [e.2.2.1] at ho
    rw [e.1]
    by_cases z : o = an D 2
    · subst z
      have e1 : rdOrd D n g k (58 + 6 * an D 2 + 1) = nI k := by unfold rdOrd; rw [if_neg (by omega), if_pos rfl]
      have ea : an (rdOrd D n g k) (58 + 6 * an D 2 + 1) = k := an_n e1 (by omega)
      rw [ea]
      refine ⟨?_, ?_, hk, fun i hi => ?_⟩
      · unfold rdOrd; rw [if_pos rfl]; exact isN_n hn
      · rw [e1]; exact isN_n (by omega)
      · unfold rdOrd
        rw [if_neg (by omega), if_neg (by omega), if_pos (by omega), Nat.add_sub_cancel_left]
        exact isN_n (hg i hi)
    · have ea : an (rdOrd D n g k) (58 + 6 * o + 1) = an D (58 + 6 * o + 1) := by unfold an; rw [rdOrd_o (by omega) (by omega)]
      have o5 := ((wo o (by omega)).2.1.get (by omega)).2
      rw [ea, rdOrd_o (by omega) (by omega), rdOrd_o (by omega) (by omega)]
      refine ⟨(wo o (by omega)).1, (wo o (by omega)).2.1, (wo o (by omega)).2.2.1, fun i hi => ?_⟩
      rw [rdOrd_o (by omega) (by omega)]
      exact (wo o (by omega)).2.2.2 i hi
  · intro a b' ha hb'
    rw [e.1, rdOrd_o (by omega) (by omega)]
    exact wt a b' ha hb'
theorem rdMea_o {a b c j : Nat} (h1 : j ≠ 3) (h2 : j ≠ 106 + 10 * a + b) : rdMea D a b c j = D j := by
  unfold rdMea
  rw [if_neg h2, if_neg h1]
theorem rdMea_e {a b c : Nat} (q : an D 3 < 10) : an (rdMea D a b c) 0 = an D 0 ∧ an (rdMea D a b c) 1 = an D 1 ∧ an (rdMea D a b c) 2 = an D 2 ∧ an (rdMea D a b c) 3 = an D 3 + 1 := by
  refine ⟨?_, ?_, ?_, ?_⟩
  · unfold an; rw [rdMea_o (by omega) (by omega)]
  · unfold an; rw [rdMea_o (by omega) (by omega)]
  · unfold an; rw [rdMea_o (by omega) (by omega)]
  · have : rdMea D a b c 3 = nI (an D 3 + 1) := by
      unfold rdMea
      rw [if_neg (by omega), if_pos rfl]
    exact an_n this (by omega)
theorem rdMea_wr (W : WR D) {a b c : Nat} (q : an D 3 < 10) (ha : a < an D 0) (hb : b < an D 0) (hc : c < an D 0) : WR (rdMea D a b c) := by
  have e := rdMea_e (D := D) (a := a) (b := b) (c := c) q
  obtain ⟨w0, w1, w2, w3, w4, w5, wm, wo, wt⟩ := W
  have c0 := w0.get (i := 0) (A := D) (by omega)
  have c1 := w1.get (i := 1) (A := D) (by omega)
  have c2 := w2.get (i := 2) (A := D) (by omega)
  refine ⟨?_, ?_, ?_, ?_, ?_, ?_, ?_, ?_, ?_⟩
  · rw [rdMea_o (by omega) (by omega)]; exact w0
  · rw [rdMea_o (by omega) (by omega)]; exact w1
  · rw [rdMea_o (by omega) (by omega)]; exact w2
  · have : rdMea D a b c 3 = nI (an D 3 + 1) := by
      unfold rdMea
      rw [if_neg (by omega), if_pos rfl]
    rw [this]
    exact isN_n (by omega)
  · rw [rdMea_o (by omega) (by omega)]; exact w4
  · rw [rdMea_o (by omega) (by omega)]; exact w5
  · intro m hm
    rw [e.2.1] at hm
    rw [e.1, rdMea_o (by omega) (by omega), rdMea_o (by omega) (by omega), rdMea_o (by omega) (by omega), rdMea_o (by omega) (by omega), rdMea_o (by omega) (by omega), rdMea_o (by omega) (by omega)]
    exact wm m hm
  · intro o ho
    rw [e.2.2.1] at ho
    have o5 := ((wo o ho).2.1.get (by omega)).2
    have ea : an (rdMea D a b c) (58 + 6 * o + 1) = an D (58 + 6 * o + 1) := by unfold an; rw [rdMea_o (by omega) (by omega)]
    rw [e.1, ea, rdMea_o (by omega) (by omega), rdMea_o (by omega) (by omega)]
    refine ⟨(wo o ho).1, (wo o ho).2.1, (wo o ho).2.2.1, fun i hi => ?_⟩
    rw [rdMea_o (by omega) (by omega)]
    exact (wo o ho).2.2.2 i hi
  · intro x y hx hy
    rw [e.1]
    by_cases z : 106 + 10 * x + y = 106 + 10 * a + b
    · have : rdMea D a b c (106 + 10 * x + y) = nI c := by unfold rdMea; rw [if_pos z]
      rw [this]
      exact .inr ⟨isN_n hc, by omega, by omega⟩
    · rw [rdMea_o (by omega) z]
      exact wt x y hx hy
theorem rdShip_wr (W : WR D) (h0 : an D 0 = 0) {n : Nat} (hn : n < 11) : WR (upA D 0 (nI n)) := by
  obtain ⟨w0, w1, w2, w3, w4, w5, wm, wo, wt⟩ := W
  have e0 : an (upA D 0 (nI n)) 0 = n := an_n (upA_s D 0 (nI n)) (by omega)
  have z1 : an D 1 = 0 := by
    apply Classical.byContradiction
    intro z
    obtain ⟨x, hx, _⟩ := (wm 0 (by omega)).1
    omega
  have z2 : an D 2 = 0 := by
    apply Classical.byContradiction
    intro z
    obtain ⟨x, hx, _⟩ := (wo 0 (by omega)).2.2.2 0 (wo 0 (by omega)).2.2.1
    omega
  refine ⟨by rw [upA_s]; exact isN_n hn, by rw [upA_ne (by omega)]; exact w1, by rw [upA_ne (by omega)]; exact w2, by rw [upA_ne (by omega)]; exact w3, by rw [upA_ne (by omega)]; exact w4, by rw [upA_ne (by omega)]; exact w5, fun m hm => ?_, fun o ho => ?_, fun a b ha hb => ?_⟩
  · rw [upA_an (by omega), z1] at hm; omega
  · rw [upA_an (by omega), z2] at ho; omega
  · rw [upA_ne (by omega)]
    rcases wt a b ha hb with z | z
    · exact .inl z
    · omega
/-- the world that begins with what was read -/
def begA (D A : Nat → Int32) : Nat → Int32 := fun j => if j = 6 then ng 1 else if j < 206 then D j else if j < 227 then nI 0 else A j
theorem begA_wf (W : WR D) (A : Nat → Int32) : WFA (begA D A) ∧ an (begA D A) 4 = 0 := by
  have c0 := W.c0
  have c1 := W.c1
  have c2 := W.c2
  obtain ⟨w0, w1, w2, w3, w4, w5, wm, wo, wt⟩ := W
  have b : ∀ j, j ≠ 6 → j < 206 → begA D A j = D j := fun j h1 h2 => by unfold begA; rw [if_neg h1, if_pos h2]
  have ba : ∀ j, j ≠ 6 → j < 206 → an (begA D A) j = an D j := fun j h1 h2 => by unfold an; rw [b j h1 h2]
  have b226 : begA D A 226 = nI 0 := by unfold begA; rw [if_neg (by omega), if_neg (by omega), if_pos (by omega)]
  have a226 : an (begA D A) 226 = 0 := an_n b226 (by omega)
  have e4 : begA D A 4 = nI 0 := by rw [b 4 (by omega) (by omega)]; exact w4
  refine ⟨⟨by rw [b 0 (by omega) (by omega)]; exact w0, by rw [b 1 (by omega) (by omega)]; exact w1, by rw [b 2 (by omega) (by omega)]; exact w2, by rw [b 3 (by omega) (by omega)]; exact w3, by rw [e4]; exact isN_n (by omega), by rw [b 5 (by omega) (by omega), w5]; exact isN_n (by omega), .inl (by unfold begA; rw [if_pos rfl]), fun m hm => ?_, fun o ho => ?_, fun x y hx hy => ?_, by rw [b226]; exact isN_n (by omega), fun k hk => by omega⟩, an_n e4 (by omega)⟩
  · rw [ba 1 (by omega) (by omega)] at hm
    rw [ba 0 (by omega) (by omega), b _ (by omega) (by omega), b _ (by omega) (by omega), b _ (by omega) (by omega), b _ (by omega) (by omega), b _ (by omega) (by omega)]
    obtain ⟨a1, a2, a3, a4, a5, a6⟩ := wm m hm
    exact ⟨a1, a2, by rw [a3]; exact isN_n (by omega), by rw [a4]; exact isN_n (by omega), by rw [a5]; exact isN_n (by omega)⟩
  · rw [ba 2 (by omega) (by omega)] at ho
    have o5 := ((wo o ho).2.1.get (by omega)).2
    rw [ba 0 (by omega) (by omega), ba (58 + 6 * o + 1) (by omega) (by omega), b _ (by omega) (by omega), b _ (by omega) (by omega)]
    refine ⟨(wo o ho).1, (wo o ho).2.1, (wo o ho).2.2.1, fun i hi => ?_⟩
    rw [b _ (by omega) (by omega)]
    exact (wo o ho).2.2.2 i hi
  · rw [ba 0 (by omega) (by omega), b _ (by omega) (by omega)]
    exact wt x y hx hy
end RDD
