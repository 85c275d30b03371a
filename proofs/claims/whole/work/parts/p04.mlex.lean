/-! Texts: places, letters and words, of the reference. -/
theorem qN_or (a b : Nat) : qN a ||| qN b = qN (a ||| b) := by
  apply Int64.toBitVec_inj.1
  show BitVec.ofNat 64 a ||| BitVec.ofNat 64 b = BitVec.ofNat 64 (a ||| b)
  apply BitVec.eq_of_getLsbD_eq
  intro i hi
  simp [hi]
theorem qN_shl8 (V : Nat) : qN V <<< (((Int8.ofInt 8).toInt32).toInt64 &&& 63) = qN (V * 256) := by
  apply Int64.toBitVec_inj.1
  have e : ((((Int8.ofInt 8).toInt32).toInt64 &&& 63).toBitVec.smod 64) = 8#64 := by decide
  show BitVec.ofNat 64 V <<< ((((Int8.ofInt 8).toInt32).toInt64 &&& 63).toBitVec.smod 64) = BitVec.ofNat 64 (V * 256)
  rw [e]
  apply BitVec.eq_of_toNat_eq
  simp [Nat.shiftLeft_eq]
theorem qN_cat {V c : Nat} (hc : c < 256) : (qN V <<< (((Int8.ofInt 8).toInt32).toInt64 &&& 63)) ||| qN c = qN (V * 256 + c) := by
  rw [qN_shl8, qN_or, Nat.mul_comm V 256, show (256 : Nat) = 2 ^ 8 from rfl, ← Nat.two_pow_add_eq_or_of_lt hc]
def pkw (w : List Nat) : Nat := w.foldl (fun v x => v * 256 + x) 0
theorem pkw_snoc (w : List Nat) (x : Nat) : pkw (w ++ [x]) = pkw w * 256 + x := by
  unfold pkw; rw [List.foldl_append]; rfl
theorem pkw_lt : ∀ (w : List Nat), (∀ x ∈ w, x < 256) → pkw w < 256 ^ w.length := by
  intro w
  induction hl : w.length generalizing w with
  | zero => intro _; rw [List.eq_nil_of_length_eq_zero hl]; decide
  | succ n ih =>
    intro h
    obtain ⟨v, x, rfl⟩ : ∃ v x, w = v ++ [x] := ⟨w.dropLast, w.getLast (by intro e; rw [e] at hl; cases hl), (List.dropLast_concat_getLast _).symm⟩
    rw [List.length_append, List.length_singleton] at hl
    have h1 := ih v (by omega) (fun y hy => h y (by simp [hy]))
    have h2 := h x (by simp)
    rw [pkw_snoc, Nat.pow_succ]
    omega
theorem pkw_inj : ∀ (n : Nat) (a b : List Nat), a.length + b.length ≤ n → (∀ x ∈ a, 0 < x ∧ x < 256) → (∀ x ∈ b, 0 < x ∧ x < 256) → pkw a = pkw b → a = b := by
  intro n
  induction n with
  | zero =>
    intro a b hn _ _ _
    rw [List.eq_nil_of_length_eq_zero (l := a) (by omega), List.eq_nil_of_length_eq_zero (l := b) (by omega)]
  | succ n ih =>
    intro a b hn ha hb e
    by_cases a0 : a = []
    · by_cases b0 : b = []
      · rw [a0, b0]
      · exfalso
        rw [← List.dropLast_concat_getLast b0, pkw_snoc] at e
        have := (hb _ (List.getLast_mem b0)).1
        rw [a0] at e
        have e0 : pkw [] = 0 := rfl
        omega
    · by_cases b0 : b = []
      · exfalso
        rw [← List.dropLast_concat_getLast a0, pkw_snoc] at e
        have := (ha _ (List.getLast_mem a0)).1
        rw [b0] at e
        have e0 : pkw [] = 0 := rfl
        omega
      · have ea := (List.dropLast_concat_getLast a0)
        have eb := (List.dropLast_concat_getLast b0)
        have xa := ha _ (List.getLast_mem a0)
        have xb := hb _ (List.getLast_mem b0)
        rw [← ea, ← eb, pkw_snoc, pkw_snoc] at e
        have e1 : a.getLast a0 = b.getLast b0 := by omega
        have e2 : pkw a.dropLast = pkw b.dropLast := by omega
        have la := congrArg List.length ea
        rw [List.length_append, List.length_singleton] at la
        have lb := congrArg List.length eb
        rw [List.length_append, List.length_singleton] at lb
        have := ih a.dropLast b.dropLast (by omega) (fun x hx => ha x (List.dropLast_subset a hx)) (fun x hx => hb x (List.dropLast_subset b hx)) e2
        rw [← ea, ← eb, this, e1]

theorem lg_eq {a b : Nat} (ha : a < 9223372036854775808) (hb : b < 9223372036854775808) : (lg_cmp (qN a) (qN b) = 0) = (a = b) := by
  have h1 := lg_cmp_lt (qN a) (qN b)
  have h2 := lg_cmp_gt (qN a) (qN b)
  rw [Int64.lt_iff_toInt_lt, qN_toInt ha, qN_toInt hb] at h1 h2
  apply propext
  constructor
  · intro q
    apply Classical.byContradiction
    intro ne
    rcases Nat.lt_or_gt_of_ne ne with z | z
    · have := h1.mpr (by omega)
      rw [q] at this
      exact absurd this (by decide)
    · have := h2.mpr (by omega)
      rw [q] at this
      exact absurd this (by decide)
  · intro q
    subst q
    have n1 : ¬ lg_cmp (qN a) (qN a) < 0 := fun z => by have := h1.mp z; omega
    have n2 : ¬ 0 < lg_cmp (qN a) (qN a) := fun z => by have := h2.mp z; omega
    rw [Int32.lt_iff_toInt_lt] at n1 n2
    apply Int32.toInt_inj.1
    have e0 : (0 : Int32).toInt = 0 := by decide
    omega
theorem sb_eq {c d : Nat} (hc : c < 256) (hd : d < 128) : (sb c = nI d) = (c = d) := by
  unfold sb
  by_cases q : c < 128
  · rw [if_pos q, nx_eq (by omega) (by omega)]
  · rw [if_neg q, ng_eq_n (by omega) (by omega) (by omega)]
    apply propext
    constructor
    · intro z; exact z.elim
    · intro z; omega
theorem sb_lt {c d : Nat} (hc : c < 256) (hd : d < 128) : (sb c < nI d) = (c < d ∨ 128 ≤ c) := by
  unfold sb
  by_cases q : c < 128
  · rw [if_pos q, nx_lt (by omega) (by omega)]
    apply propext
    constructor
    · intro z; exact .inl z
    · intro z; omega
  · rw [if_neg q, ng_lt_n (by omega) (by omega) (by omega)]
    apply propext
    constructor
    · intro _; exact .inr (by omega)
    · intro _; trivial
theorem lt_sb {c d : Nat} (hc : c < 256) (hd : d < 128) : (nI d < sb c) = (d < c ∧ c < 128) := by
  unfold sb
  by_cases q : c < 128
  · rw [if_pos q, nx_lt (by omega) (by omega)]
    apply propext
    constructor
    · intro z; exact ⟨z, q⟩
    · intro z; exact z.1
  · rw [if_neg q, n_lt_ng (by omega) (by omega)]
    apply propext
    constructor
    · intro z; exact z.elim
    · intro z; omega
theorem sb_and : ∀ c, c < 256 → sb c &&& nI 255 = nI c := by decide +kernel
section ML_
variable {h : pm_H} {L : Nat} {B : Nat → Nat}
theorem m_isLetter_n (R : RF h) (C : MT h L B) {k : Nat} (hk : k < 2147483648) : m_isLetter 193 (nI k) h = some (nI (decide (kd (ca B L k) = 2)).toNat) := by
  obtain ⟨c1, c2, c3⟩ := C
  unfold m_isLetter
  rw [c1, kc_i0, kc_i1, kc_b_97, kc_b_122]
  by_cases q : k < L
  · refine (if_neg (by rw [nx_le (by omega) (by omega)]; omega)).trans ?_
    have b := (c3 k q).2
    rw [ra_193_0 R, Option.bind_some, mn_194, gi_n (by omega), nx_cl (by omega), (c3 k q).1, ca_lt q]
    refine (if_pos (dec_t (by omega))).trans ?_
    rw [Option.bind_some, mn_194, gi_n (by omega), (c3 k q).1]
    by_cases q2 : 97 ≤ B k ∧ B k ≤ 122
    · have e : kd (B k) = 2 := by unfold kd; rw [if_neg (by omega), if_neg (by omega), if_pos q2]
      rw [dec_t e]
      exact (if_neg (by rw [sb_lt b (by omega)]; omega)).trans ((if_pos (dec_t (by omega))).trans (if_neg (by rw [lt_sb b (by omega)]; omega)))
    · have e : ¬ kd (B k) = 2 := by
        unfold kd
        rw [if_neg (by omega)]
        split
        · omega
        · first | omega | (rw [if_neg q2]; omega)
      rw [dec_f e]
      by_cases q3 : B k < 97 ∨ 128 ≤ B k
      · exact if_pos (by rw [sb_lt b (by omega)]; exact q3)
      · exact (if_neg (by rw [sb_lt b (by omega)]; exact q3)).trans ((if_pos (dec_t (by omega))).trans (if_pos (by rw [lt_sb b (by omega)]; omega)))
  · have e : ¬ kd (ca B L k) = 2 := by unfold ca; rw [if_neg q]; decide
    rw [dec_f e]
    exact if_pos (by rw [nx_le (by omega) (by omega)]; omega)
theorem m_isDigit_n (R : RF h) (C : MT h L B) {k : Nat} (hk : k < 2147483648) : m_isDigit 193 (nI k) h = some (nI (decide (kd (ca B L k) = 1)).toNat) := by
  obtain ⟨c1, c2, c3⟩ := C
  unfold m_isDigit
  rw [c1, kc_i0, kc_i1, kc_b_48, kc_b_57]
  by_cases q : k < L
  · refine (if_neg (by rw [nx_le (by omega) (by omega)]; omega)).trans ?_
    have b := (c3 k q).2
    rw [ra_193_0 R, Option.bind_some, mn_194, gi_n (by omega), nx_cl (by omega), (c3 k q).1, ca_lt q]
    refine (if_pos (dec_t (by omega))).trans ?_
    rw [Option.bind_some, mn_194, gi_n (by omega), (c3 k q).1]
    by_cases q2 : 48 ≤ B k ∧ B k ≤ 57
    · have e : kd (B k) = 1 := by unfold kd; rw [if_neg (by omega), if_pos q2]
      rw [dec_t e]
      exact (if_neg (by rw [sb_lt b (by omega)]; omega)).trans ((if_pos (dec_t (by omega))).trans (if_neg (by rw [lt_sb b (by omega)]; omega)))
    · have e : ¬ kd (B k) = 1 := by
        unfold kd
        rw [if_neg (by omega), if_neg q2]
        split <;> omega
      rw [dec_f e]
      by_cases q3 : B k < 48 ∨ 128 ≤ B k
      · exact if_pos (by rw [sb_lt b (by omega)]; exact q3)
      · exact (if_neg (by rw [sb_lt b (by omega)]; exact q3)).trans ((if_pos (dec_t (by omega))).trans (if_pos (by rw [lt_sb b (by omega)]; omega)))
  · have e : ¬ kd (ca B L k) = 1 := by unfold ca; rw [if_neg q]; decide
    rw [dec_f e]
    exact if_pos (by rw [nx_le (by omega) (by omega)]; omega)
/-- of the reference its own fields alone -/
def FX (h h' : pm_H) : Prop := FrM (fun _ => False) (fun j => j = 8 ∨ j = 9 ∨ j = 10) h h'
theorem FX.mt {h' : pm_H} (f : FX h h') (C : MT h L B) : MT h' L B := ⟨by rw [f.f (by omega)]; exact C.1, C.2.1, fun k hk => by rw [f.i (by omega) id]; exact C.2.2 k hk⟩
theorem fx8 (h : pm_H) (v : Int32) : FX h (pm_setI h 193 8 v) := (FrM.refl _ _ h).setF (.inl rfl)
theorem m_see_n (R : RF h) (C : MT h L B) {q : Nat} (e8 : h.2.1 193 8 = nI q) (hq : q ≤ L) : m_see 193 h = some (cv (ca B L (skp B L q)), pm_setI h 193 8 (nI (skp B L q))) := by
  have hL := C.2.1
  have hB := fun k hk => (C.2.2 k hk).2
  have sg := skp_ge (B := B) hq
  unfold m_see
  have key : wh (fun z : pm_H => m_see_0 193 z) h = some (pm_setI h 193 8 (nI (skp B L q))) := by
    have e0 : pm_setI h 193 8 (nI q) = h := by rw [← e8, setI_self]
    have := wh_nx (f := fun z : pm_H => m_see_0 193 z) (c := isSp B) (L := L) (p := q) (fun q => pm_setI h 193 8 (nI q)) (fun q => pm_setI h 193 8 (nI q)) hq (fun k h1 h2 h3 => ?_) (fun k h1 h2 h3 => ?_)
    · rw [e0] at this
      exact this
    · have f := fx8 h (nI k)
      have b := hB k h2
      unfold m_see_0
      rw [ri_s, ri_j _ (by omega), C.1]
      refine (if_neg (by rw [nx_le (by omega) (by omega)]; omega)).trans ?_
      rw [ra_193_0 (R.fm f), Option.bind_some, mn_194, gi_n (by omega), nx_cl (by omega), ri_c _ (by omega), (C.2.2 k h2).1, kc_b_32]
      refine (if_pos (dec_t (by omega))).trans ((if_neg (by rw [sb_eq b (by omega)]; exact fun z => z (of_decide_eq_true h3))).trans ?_)
      rw [kc_i1, nx_add]
      show some (Sum.inl (pm_setI (pm_setI h 193 8 _) 193 8 _)) = _
      rw [setI_over]
    · have f := fx8 h (nI k)
      unfold m_see_0
      rw [ri_s, ri_j _ (by omega), C.1]
      by_cases q2 : k < L
      · have b := hB k q2
        refine (if_neg (by rw [nx_le (by omega) (by omega)]; omega)).trans ?_
        rw [ra_193_0 (R.fm f), Option.bind_some, mn_194, gi_n (by omega), nx_cl (by omega), ri_c _ (by omega), (C.2.2 k q2).1, kc_b_32]
        exact (if_pos (dec_t (by omega))).trans (if_pos (by rw [sb_eq b (by omega)]; exact of_decide_eq_false (h3 q2)))
      · exact if_pos (by rw [nx_le (by omega) (by omega)]; omega)
  rw [key, Option.bind_some]
  have f := fx8 h (nI (skp B L q))
  unfold m_see_38
  rw [ri_s, ri_j _ (by omega), C.1]
  by_cases q2 : skp B L q < L
  · have b := hB _ q2
    refine (if_neg (by rw [nx_le (by omega) (by omega)]; omega)).trans ?_
    rw [ra_193_0 (R.fm f), Option.bind_some, mn_194, gi_n (by omega), nx_cl (by omega), ri_c _ (by omega), (C.2.2 _ q2).1, kc_s_255, sb_and _ b, ca_lt q2]
    refine (if_pos (dec_t (by omega))).trans ?_
    unfold cv
    rw [if_neg (by omega)]
  · refine (if_pos (by rw [nx_le (by omega) (by omega)]; omega)).trans ?_
    have e : ca B L (skp B L q) = 256 := by unfold ca; rw [if_neg q2]
    rw [e, kc_im1]
    rfl
theorem m_pass_n (R : RF h) (C : MT h L B) {q : Nat} (e8 : h.2.1 193 8 = nI q) (hq : q ≤ L) : m_passWord 193 h = some (pm_setI h 193 8 (nI (nx (isKd B 2) L q))) := by
  have hL := C.2.1
  have hB := fun k hk => (C.2.2 k hk).2
  unfold m_passWord
  have key : wh (fun z : pm_H => m_passWord_0 193 z) h = some (pm_setI h 193 8 (nI (nx (isKd B 2) L q))) := by
    have e0 : pm_setI h 193 8 (nI q) = h := by rw [← e8, setI_self]
    have := wh_nx (f := fun z : pm_H => m_passWord_0 193 z) (c := isKd B 2) (L := L) (p := q) (fun q => pm_setI h 193 8 (nI q)) (fun q => pm_setI h 193 8 (nI q)) hq (fun k h1 h2 h3 => ?_) (fun k h1 h2 h3 => ?_)
    · rw [e0] at this
      exact this
    · have f := fx8 h (nI k)
      unfold m_passWord_0
      rw [ri_s, m_isLetter_n (R.fm f) (f.mt C) (by omega), Option.bind_some, ca_lt h2, dec_t (show kd (B k) = 2 from of_decide_eq_true h3)]
      refine (if_neg n10).trans ?_
      rw [kc_i1, nx_add]
      show some (Sum.inl (pm_setI (pm_setI h 193 8 _) 193 8 _)) = _
      rw [setI_over]
    · have f := fx8 h (nI k)
      unfold m_passWord_0
      rw [ri_s, m_isLetter_n (R.fm f) (f.mt C) (by omega), Option.bind_some]
      have : ¬ kd (ca B L k) = 2 := by
        unfold ca
        by_cases q2 : k < L
        · rw [if_pos q2]
          exact of_decide_eq_false (h3 q2)
        · rw [if_neg q2]
          decide
      rw [dec_f this]
      exact if_pos rfl
  rw [key, Option.bind_some]
theorem bh_let {p : Nat} (k2 : kd (ca B L p) = 2) : bh B L p = nx (isKd B 2) L p := by
  unfold bh
  rw [k2, if_neg (by omega)]
theorem nx_nolet {p k : Nat} (k2 : ¬ kd (ca B L p) = k) : nx (isKd B k) L p = p := by
  refine nx_f (fun z => ?_)
  rw [ca_lt z] at k2
  exact decide_eq_false k2
theorem m_isWord_n (R : RF h) (C : MT h L B) {q : Nat} (e8 : h.2.1 193 8 = nI q) (hq : q ≤ L) {w : List Nat} (hw : ∀ x ∈ w, 0 < x ∧ x < 256) (hl : w.length < 8) {W : Int64} (eW : W = qN (pkw w)) : m_isWord 193 W h = some (nI (isW B L (skp B L q) w).toNat, pm_setI h 193 8 (nI (skp B L q))) := by
  have hL := C.2.1
  have hB := fun k hk => (C.2.2 k hk).2
  have sg := skp_ge (B := B) hq
  unfold m_isWord
  rw [m_see_n R C e8 hq, Option.bind_some]
  generalize skp B L q = p at sg
  dsimp only
  have f := fx8 h (nI p)
  have R1 := R.fm f
  have C1 := f.mt C
  have e1 : (pm_setI h 193 8 (nI p)).2.1 193 8 = nI p := ri_s _
  generalize pm_setI h 193 8 (nI p) = h1 at R1 C1 e1 f ⊢
  have ng_ := nx_ge (c := isKd B 2) sg.2
  have lk : ∀ k, p ≤ k → k < nx (isKd B 2) L p → 97 ≤ B k ∧ B k ≤ 122 := by
    intro k h1 h2
    have z : kd (B k) = 2 := of_decide_eq_true (nx_in sg.2 h1 h2)
    unfold kd at z
    split at z
    · omega
    · split at z
      · omega
      · split at z
        · assumption
        · omega
  have key : wh (fun z : (Int64 × Int32 × pm_H) => m_isWord_10 193 W z.1 z.2.1 z.2.2) (Int64.ofNat 0, nI 0, h1) = some (qN (pkw (tl (fun i => B (p + i)) (min (nx (isKd B 2) L p - p) 8))), nI (nx (isKd B 2) L p - p), h1) := by
    have e0 : (Int64.ofNat 0, nI 0, h1) = (fun k => (qN (pkw (tl (fun i => B (p + i)) (min (k - p) 8))), nI (k - p), h1)) p := by
      dsimp only
      rw [Nat.sub_self]
      rfl
    rw [e0]
    refine wh_nx (c := isKd B 2) (L := L) (p := p) (fun k => (qN (pkw (tl (fun i => B (p + i)) (min (k - p) 8))), nI (k - p), h1)) (fun k => (qN (pkw (tl (fun i => B (p + i)) (min (k - p) 8))), nI (k - p), h1)) sg.2 (fun k a1 a2 a3 => ?_) (fun k a1 a2 a3 => ?_)
    · dsimp only
      have b := hB k a2
      have z : kd (B k) = 2 := of_decide_eq_true a3
      have zl : 97 ≤ B k ∧ B k ≤ 122 := by
        unfold kd at z
        split at z
        · omega
        · split at z
          · omega
          · split at z
            · assumption
            · omega
      unfold m_isWord_10
      rw [e1, nx_add, show p + (k - p) = k from by omega, m_isLetter_n R1 C1 (by omega), Option.bind_some, ca_lt a2, dec_t z]
      refine (if_neg n10).trans ?_
      rw [kc_i1, nx_add, show k - p + 1 = k + 1 - p from by omega]
      by_cases k8 : k - p < 8
      · refine (if_neg (by rw [kc_b_8, nx_le (by omega) (by omega)]; omega)).trans ?_
        have es : sb (B k) = nI (B k) := by unfold sb; rw [if_pos (by omega)]
        rw [ra_193_0 R1, Option.bind_some, mn_194, gi_n (by omega), nx_cl (by omega), (C1.2.2 k a2).1, es, nI_64 (by omega), qN_cat b]
        refine (if_pos (dec_t (by omega))).trans ?_
        rw [show min (k + 1 - p) 8 = (k - p) + 1 from by omega, show min (k - p) 8 = k - p from by omega, tl_snoc, pkw_snoc, show p + (k - p) = k from by omega]
      · refine (if_pos (by rw [kc_b_8, nx_le (by omega) (by omega)]; omega)).trans ?_
        rw [show min (k + 1 - p) 8 = 8 from by omega, show min (k - p) 8 = 8 from by omega]
    · dsimp only
      have : ¬ kd (ca B L k) = 2 := by
        unfold ca
        by_cases q2 : k < L
        · rw [if_pos q2]
          exact of_decide_eq_false (a3 q2)
        · rw [if_neg q2]
          decide
      unfold m_isWord_10
      rw [e1, nx_add, show p + (k - p) = k from by omega, m_isLetter_n R1 C1 (by omega), Option.bind_some, dec_f this]
      exact if_pos rfl
  rw [kc_i0, key, Option.bind_some]
  dsimp only
  by_cases k2 : kd (ca B L p) = 2
  · have eb := bh_let k2
    have pL : p < L := by
      apply Classical.byContradiction
      intro q2
      unfold ca at k2
      rw [if_neg q2] at k2
      exact absurd k2 (by decide)
    have n1 : p < nx (isKd B 2) L p := by
      have z : isKd B 2 p = true := by
        rw [ca_lt pL] at k2
        exact decide_eq_true k2
      rw [nx_t pL z]
      exact (nx_ge (c := isKd B 2) (by omega)).1
    refine (if_neg (by rw [kc_0, nx_le (by omega) (by omega)]; omega)).trans ?_
    by_cases n8 : nx (isKd B 2) L p - p < 8
    · refine (if_neg (by rw [kc_b_8, nx_le (by omega) (by omega)]; omega)).trans ?_
      rw [show min (nx (isKd B 2) L p - p) 8 = nx (isKd B 2) L p - p from by omega, eW]
      have hx : ∀ x ∈ tl (fun i => B (p + i)) (nx (isKd B 2) L p - p), 0 < x ∧ x < 256 := by
        intro x hx
        obtain ⟨i, hi, rfl⟩ := tl_mem.mp hx
        have := lk (p + i) (by omega) (by omega)
        omega
      have b1 : pkw (tl (fun i => B (p + i)) (nx (isKd B 2) L p - p)) < 256 ^ 7 := by
        have h1 := pkw_lt _ (fun x hx2 => (hx x hx2).2)
        rw [tl_len] at h1
        exact Nat.lt_of_lt_of_le h1 (Nat.pow_le_pow_right (by decide) (by omega))
      have b2 : pkw w < 256 ^ 7 := Nat.lt_of_lt_of_le (pkw_lt w (fun x hx2 => (hw x hx2).2)) (Nat.pow_le_pow_right (by decide) (by omega))
      have e7 : (256 : Nat) ^ 7 < 9223372036854775808 := by decide
      have le := lg_eq (a := pkw (tl (fun i => B (p + i)) (nx (isKd B 2) L p - p))) (b := pkw w) (by omega) (by omega)
      by_cases q2 : pkw (tl (fun i => B (p + i)) (nx (isKd B 2) L p - p)) = pkw w
      · have ew := pkw_inj _ _ _ (Nat.le_refl _) hx hw q2
        have t := tl_row ew
        have : isW B L p w = true := isW_t.mpr ⟨k2, by rw [eb]; exact t.1, fun i hi => t.2 i (by omega)⟩
        rw [this]
        refine (if_neg (by rw [le]; exact fun z => z q2)).trans ?_
        rw [kc_i1]
        rfl
      · have : isW B L p w = false := by
          cases z : isW B L p w with
          | false => rfl
          | true =>
            exfalso
            apply q2
            obtain ⟨_, z1, z2⟩ := isW_t.mp z
            rw [eb] at z1
            rw [z1]
            have : tl (fun i => B (p + i)) w.length = w := by
              rw [← tl_of w]
              rw [tl_of w]
              exact (tl_congr z2).trans (tl_of w)
            rw [this]
        rw [this]
        exact if_pos (by rw [le]; exact q2)
    · have : isW B L p w = false := by
        cases z : isW B L p w with
        | false => rfl
        | true =>
          exfalso
          obtain ⟨_, z1, z2⟩ := isW_t.mp z
          rw [eb] at z1
          omega
      rw [this]
      exact if_pos (by rw [kc_b_8, nx_le (by omega) (by omega)]; omega)
  · have : isW B L p w = false := by
      cases z : isW B L p w with
      | false => rfl
      | true => exact (k2 (isW_t.mp z).1).elim
    rw [this, nx_nolet k2, Nat.sub_self]
    exact if_pos (by decide)
end ML_
