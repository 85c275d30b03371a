/-! Texts: words, of the program. -/
/-- the unit at p is the word w -/
def isW (B : Nat → Nat) (L p : Nat) (w : List Nat) : Bool := decide (kd (ca B L p) = 2 ∧ bh B L p - p = w.length ∧ ∀ i, i < w.length → B (p + i) = w.getD i 0)
theorem isW_t {B : Nat → Nat} {L p : Nat} {w : List Nat} : isW B L p w = true ↔ kd (ca B L p) = 2 ∧ bh B L p - p = w.length ∧ ∀ i, i < w.length → B (p + i) = w.getD i 0 := by
  unfold isW
  exact decide_eq_true_iff
def flw : List (List Nat) → List Nat
  | [] => []
  | w :: r => w ++ 32 :: flw r
/-- which word of a row of words the unit is, from k on -/
def widx (B : Nat → Nat) (L p : Nat) : List (List Nat) → Nat → Option Nat
  | [], _ => none
  | w :: r, k => if isW B L p w = true then some k else widx B L p r (k + 1)
section WD
variable {h : pm_H} {L p t : Nat} {B : Nat → Nat} {w : List Nat}
theorem gdn {l : List Nat} {j : Nat} (h : j < l.length) : (l.map nI).getD j 0 = nI (l.getD j 0) := by
  rw [List.getD_eq_getElem?_getD, List.getElem?_map, List.getD_eq_getElem?_getD, List.getElem?_eq_getElem h]
  rfl
theorem tx_n_n (ok : tx_ok t = true) (e : tx_l t = w.map nI) : tx_n t = some (nI w.length) := by
  unfold tx_n
  rw [if_pos ok, e, List.length_map, kc_on]
theorem tx_c_n (ok : tx_ok t = true) (e : tx_l t = w.map nI) (hl : w.length < 1000) {i : Nat} (hi : i < w.length) : tx_c t (nI i) = some (nI (w.getD i 0)) := by
  unfold tx_c
  rw [if_pos ok, e, List.length_map, gi_n (by omega), if_pos (dec_t hi), nx_cl (by omega), gdn hi]
theorem let_p (hp : p ≤ L) (k2 : kd (ca B L p) = 2) {i : Nat} (hi : p + i < bh B L p) : p + i < L := by
  have := bh_ge (B := B) hp
  omega
theorem t_isWord_n (R : RF h) (C : CT h L B) (U : UNT h B L p) (ok : tx_ok t = true) (e : tx_l t = w.map nI) (hw : ∀ x ∈ w, x < 256) (hl : w.length < 1000) : t_isWord 1 t h = some (nI (isW B L p w).toNat) := by
  obtain ⟨u1, u2, u3, u4, u5, u6, u7⟩ := U
  have hL := C.2.1
  have hB := fun k hk => (C.2.2 k hk).2
  have kl := kd_le (ca B L p)
  have bg := bh_ge (B := B) u1
  unfold t_isWord
  rw [u3]
  by_cases k2 : kd (ca B L p) = 2
  · refine (if_neg (by rw [kc_i2, nx_eq (by omega) (by omega)]; exact fun z => z k2)).trans ?_
    rw [tx_n_n ok e, Option.bind_some, u6]
    by_cases ln : bh B L p - p = w.length
    · refine (if_pos (by rw [ln])).trans ?_
      have key : wh (fun z : Int32 => t_isWord_23 1 t z h) (Int32.ofInt 0) = some (match (List.range w.length).find? (fun i => !decide (B (p + i) = w.getD i 0)) with | some _ => .inl () | none => .inr ()) := by
        rw [kc_i0]
        refine wh_find (fun i => nI i) (fun _ => Sum.inl ()) (Sum.inr ()) (fun i => !decide (B (p + i) = w.getD i 0)) w.length (fun i hi => ?_) ?_
        · unfold t_isWord_23
          have pi : p + i < L := let_p u1 k2 (by omega)
          have b := hB (p + i) pi
          have wl := hw _ (getD_lt_mem hi)
          rw [u6, u4]
          refine (if_neg (by rw [nx_le (by omega) (by omega)]; omega)).trans ?_
          rw [nx_add, t_byte_n R C (by omega), Option.bind_some, tx_c_n ok e hl hi, Option.bind_some, ca_lt pi]
          by_cases q : B (p + i) = w.getD i 0
          · rw [dec_t q]
            refine (if_pos (by rw [cv_eq (by omega) wl]; exact q)).trans ?_
            rw [kc_i1, nx_add]
            rfl
          · rw [dec_f q]
            exact if_neg (by rw [cv_eq (by omega) wl]; exact q)
        · unfold t_isWord_23
          rw [u6]
          exact if_pos (by rw [nx_le (by omega) (by omega)]; omega)
      rw [key, Option.bind_some]
      cases ef : (List.range w.length).find? (fun i => !decide (B (p + i) = w.getD i 0)) with
      | none =>
        have a := find_all.mp ef
        have : isW B L p w = true := isW_t.mpr ⟨k2, ln, fun i hi => by
          have := a i hi
          apply Classical.byContradiction
          intro q
          rw [dec_f q] at this
          cases this⟩
        rw [this]
        show some (Int32.ofInt 1) = _
        rw [kc_i1]
        rfl
      | some i =>
        have a1 := List.find?_some ef
        have a2 := List.mem_range.mp (List.mem_of_find?_eq_some ef)
        have : isW B L p w = false := by
          cases z : isW B L p w with
          | false => rfl
          | true =>
            have := (isW_t.mp z).2.2 i a2
            rw [dec_t this] at a1
            cases a1
        rw [this]
        show some (Int32.ofInt 0) = _
        rw [kc_i0]
        rfl
    · have : isW B L p w = false := by
        cases z : isW B L p w with
        | false => rfl
        | true => exact (ln (isW_t.mp z).2.1).elim
      rw [this]
      refine (if_neg (by rw [nx_eq (by omega) (by omega)]; exact ln)).trans ?_
      rw [kc_i0]
      rfl
  · have : isW B L p w = false := by
      cases z : isW B L p w with
      | false => rfl
      | true => exact (k2 (isW_t.mp z).1).elim
    rw [this]
    refine (if_pos (by rw [kc_i2, nx_eq (by omega) (by omega)]; exact k2)).trans ?_
    rw [kc_i0]
    rfl
/-- how many signs of w agree so far, or none -/
def smc (B : Nat → Nat) (p sz : Nat) (w : List Nat) (j : Nat) : Int32 := if (∀ i, i < j → i < sz ∧ B (p + i) = w.getD i 0) then nI j else ng 1
theorem flw_at {w : List Nat} {r : List (List Nat)} {j : Nat} (hj : j < w.length) : (flw (w :: r)).getD j 0 = w.getD j 0 := by
  show (w ++ 32 :: flw r).getD j 0 = _
  rw [List.getD_eq_getElem?_getD, List.getElem?_append_left hj, ← List.getD_eq_getElem?_getD]
theorem flw_bl {w : List Nat} {r : List (List Nat)} : (flw (w :: r)).getD w.length 0 = 32 := by
  show (w ++ 32 :: flw r).getD w.length 0 = _
  rw [List.getD_eq_getElem?_getD, List.getElem?_append_right (by omega), Nat.sub_self]
  rfl
theorem flw_nx {w : List Nat} {r : List (List Nat)} {j : Nat} : (flw (w :: r)).getD (w.length + 1 + j) 0 = (flw r).getD j 0 := by
  show (w ++ 32 :: flw r).getD (w.length + 1 + j) 0 = _
  rw [List.getD_eq_getElem?_getD, List.getElem?_append_right (by omega), show w.length + 1 + j - w.length = j + 1 from by omega]
  rfl
theorem t_wordW (R : RF h) (C : CT h L B) (U : UNT h B L p) (k2 : kd (ca B L p) = 2) (ok : tx_ok t = true) {T : List Nat} (e : tx_l t = T.map nI) (hT : T.length < 1000) : ∀ (ws : List (List Nat)) (k off : Nat), (∀ w ∈ ws, ∀ x ∈ w, x ≠ 32 ∧ x < 256) → off + (flw ws).length = T.length → (∀ j, j < (flw ws).length → T.getD (off + j) 0 = (flw ws).getD j 0) → k + ws.length < 1000 → wh (fun z : (Int32 × Int32 × Int32) => t_wordOf_7 1 t z.1 z.2.1 z.2.2 h) (nI k, nI 0, nI off) = some (match widx B L p ws k with | some k => .inl (nI k) | none => .inr ())
  | [], k, off, hw, ho, hc, hk => by
    obtain ⟨u1, u2, u3, u4, u5, u6, u7⟩ := U
    have : off = T.length := ho
    refine wh_inr ?_
    dsimp only
    unfold t_wordOf_7
    rw [u3, k2]
    refine (if_neg (fun z => z (by rw [kc_i2]))).trans ?_
    rw [tx_n_n ok e, Option.bind_some]
    exact if_pos (by rw [nx_le (by omega) (by omega)]; omega)
  | w :: r, k, off, hw, ho, hc, hk => by
    have U' := U
    obtain ⟨u1, u2, u3, u4, u5, u6, u7⟩ := U
    have hL := C.2.1
    have hB := fun k hk => (C.2.2 k hk).2
    have bg := bh_ge (B := B) u1
    have lf : (flw (w :: r)).length = w.length + 1 + (flw r).length := by
      show (w ++ 32 :: flw r).length = _
      rw [List.length_append, List.length_cons]
      omega
    rw [lf] at ho hc
    have hwx := hw w (by simp)
    -- through the signs of w
    have key : ∀ j, j ≤ w.length → wh (fun z : (Int32 × Int32 × Int32) => t_wordOf_7 1 t z.1 z.2.1 z.2.2 h) (nI k, nI 0, nI off) = wh (fun z : (Int32 × Int32 × Int32) => t_wordOf_7 1 t z.1 z.2.1 z.2.2 h) (nI k, smc B p (bh B L p - p) w j, nI (off + j)) := by
      intro j
      induction j with
      | zero =>
        intro _
        have : smc B p (bh B L p - p) w 0 = nI 0 := by
          unfold smc
          rw [if_pos (fun i hi => by omega)]
        rw [this]
        rfl
      | succ j ih =>
        intro hj
        rw [ih (by omega)]
        refine wh_inl ?_
        dsimp only
        have wx := hwx _ (getD_lt_mem (show j < w.length by omega))
        unfold t_wordOf_7 t_wordOf_71 t_wordOf_85
        rw [u3, k2, u6, u4]
        refine (if_neg (fun z => z (by rw [kc_i2]))).trans ?_
        rw [tx_n_n ok e, Option.bind_some]
        refine (if_neg (by rw [nx_le (by omega) (by omega)]; omega)).trans ?_
        rw [tx_c_n ok e hT (by omega), Option.bind_some, hc j (by omega), flw_at (by omega), kc_b_32]
        refine (if_neg (by rw [nx_eq (by omega) (by omega)]; exact wx.1)).trans ?_
        rw [kc_im1, kc_i1, nx_add]
        by_cases q : ∀ i, i < j → i < bh B L p - p ∧ B (p + i) = w.getD i 0
        · have ej : smc B p (bh B L p - p) w j = nI j := by unfold smc; rw [if_pos q]
          rw [ej]
          refine (if_neg (by rw [kc_0, nx_lt (by omega) (by omega)]; omega)).trans ?_
          by_cases q2 : j < bh B L p - p
          · refine (if_neg (by rw [nx_le (by omega) (by omega)]; omega)).trans ?_
            have pj : p + j < L := let_p u1 k2 (by omega)
            have b := hB _ pj
            rw [nx_add, t_byte_n R C (by omega), Option.bind_some, ca_lt pj]
            by_cases q3 : B (p + j) = w.getD j 0
            · have es : smc B p (bh B L p - p) w (j + 1) = nI (j + 1) := by
                unfold smc
                rw [if_pos]
                intro i hi
                by_cases z : i = j
                · rw [z]; exact ⟨q2, q3⟩
                · exact q i (by omega)
              rw [es]
              refine (if_neg (by rw [cv_eq (by omega) wx.2]; exact fun z => z q3)).trans ((if_neg n10).trans ?_)
              rw [nx_add, Nat.add_assoc]
            · have es : smc B p (bh B L p - p) w (j + 1) = ng 1 := by
                unfold smc
                rw [if_neg (fun z => q3 (z j (by omega)).2)]
              rw [es]
              refine (if_pos (by rw [cv_eq (by omega) wx.2]; exact q3)).trans ((if_pos kc_i0).trans ?_)
              rw [Nat.add_assoc]
          · have es : smc B p (bh B L p - p) w (j + 1) = ng 1 := by
              unfold smc
              rw [if_neg (fun z => q2 (z j (by omega)).1)]
            rw [es]
            refine (if_pos (by rw [nx_le (by omega) (by omega)]; omega)).trans ((if_pos kc_i0).trans ?_)
            rw [Nat.add_assoc]
        · have ej : smc B p (bh B L p - p) w j = ng 1 := by unfold smc; rw [if_neg q]
          have es : smc B p (bh B L p - p) w (j + 1) = ng 1 := by
            unfold smc
            rw [if_neg (fun z => q (fun i hi => z i (by omega)))]
          rw [ej, es]
          refine (if_pos (by decide)).trans ((if_pos kc_i0).trans ?_)
          rw [Nat.add_assoc]
    rw [key w.length (Nat.le_refl _)]
    have hbl := hc w.length (by omega)
    rw [flw_bl] at hbl
    have stp : t_wordOf_7 1 t (nI k) (smc B p (bh B L p - p) w w.length) (nI (off + w.length)) h = if isW B L p w = true then some (.inr (.inl (nI k))) else some (.inl (nI (k + 1), nI 0, nI (off + w.length + 1))) := by
      unfold t_wordOf_7
      rw [u3, k2, u6]
      refine (if_neg (fun z => z (by rw [kc_i2]))).trans ?_
      rw [tx_n_n ok e, Option.bind_some]
      refine (if_neg (by rw [nx_le (by omega) (by omega)]; omega)).trans ?_
      rw [tx_c_n ok e hT (by omega), Option.bind_some, hbl, kc_b_32]
      refine (if_pos rfl).trans ?_
      by_cases q : isW B L p w = true
      · rw [if_pos q]
        obtain ⟨_, q1, q2⟩ := isW_t.mp q
        have es : smc B p (bh B L p - p) w w.length = nI w.length := by
          unfold smc
          rw [if_pos (fun i hi => ⟨by omega, q2 i hi⟩)]
        rw [es, q1]
        exact if_neg (fun z => z rfl)
      · rw [if_neg q]
        have ne : ¬ smc B p (bh B L p - p) w w.length = nI (bh B L p - p) := by
          unfold smc
          by_cases q3 : ∀ i, i < w.length → i < bh B L p - p ∧ B (p + i) = w.getD i 0
          · rw [if_pos q3, nx_eq (by omega) (by omega)]
            intro z
            exact q (isW_t.mpr ⟨k2, z.symm, fun i hi => (q3 i hi).2⟩)
          · rw [if_neg q3, ng_eq_n (by omega) (by omega) (by omega)]
            exact id
        refine (if_pos ne).trans ?_
        rw [kc_i1, nx_add, nx_add, kc_i0]
    rw [widx]
    by_cases q : isW B L p w = true
    · rw [if_pos q] at stp ⊢
      exact wh_inr stp
    · rw [if_neg q] at stp ⊢
      rw [wh_inl stp]
      refine t_wordW R C U' k2 ok e hT r (k + 1) (off + w.length + 1) (fun w hw2 => hw w (by simp [hw2])) (by omega) (fun j hj => ?_) (by rw [List.length_cons] at hk; omega)
      have := hc (w.length + 1 + j) (by omega)
      rw [flw_nx] at this
      rw [← this]
      congr 1
      omega
theorem t_wordOf_n (R : RF h) (C : CT h L B) (U : UNT h B L p) (ok : tx_ok t = true) {ws : List (List Nat)} (e : tx_l t = (flw ws).map nI) (hT : (flw ws).length < 1000) (hw : ∀ w ∈ ws, ∀ x ∈ w, x ≠ 32 ∧ x < 256) (hk : ws.length < 1000) : t_wordOf 1 t h = some (match widx B L p ws 0 with | some k => nI k | none => ng 1) := by
  have kl := kd_le (ca B L p)
  unfold t_wordOf
  rw [kc_i0]
  by_cases k2 : kd (ca B L p) = 2
  · rw [t_wordW R C U k2 ok e hT ws 0 0 hw (by omega) (fun j _ => by rw [Nat.zero_add]) (by omega), Option.bind_some]
    cases widx B L p ws 0 with
    | none => show some (Int32.ofInt (-1)) = _; rw [kc_im1]
    | some k => rfl
  · have e1 : wh (fun z : (Int32 × Int32 × Int32) => t_wordOf_7 1 t z.1 z.2.1 z.2.2 h) (nI 0, nI 0, nI 0) = some (.inr ()) := by
      refine wh_inr ?_
      dsimp only
      unfold t_wordOf_7
      rw [U.2.2.1]
      exact if_pos (by rw [kc_i2, nx_eq (by omega) (by omega)]; exact k2)
    rw [e1, Option.bind_some]
    have nw : ∀ (l : List (List Nat)) (k : Nat), widx B L p l k = none := by
      intro l
      induction l with
      | nil => intro k; rfl
      | cons w r ih =>
        intro k
        rw [widx, if_neg (fun z => k2 (isW_t.mp z).1)]
        exact ih (k + 1)
    rw [nw]
    show some (Int32.ofInt (-1)) = _
    rw [kc_im1]
end WD
