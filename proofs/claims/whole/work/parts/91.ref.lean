/-! Constants of the mirrors; references that never change. Written by wip/gen5.py. -/
theorem kc_im8 : Int32.ofInt (-8) = ng 8 := by first | rfl | decide
theorem kc_im1 : Int32.ofInt (-1) = ng 1 := by first | rfl | decide
theorem kc_i0 : Int32.ofInt 0 = nI 0 := by first | rfl | decide
theorem kc_i1 : Int32.ofInt 1 = nI 1 := by first | rfl | decide
theorem kc_i2 : Int32.ofInt 2 = nI 2 := by first | rfl | decide
theorem kc_i3 : Int32.ofInt 3 = nI 3 := by first | rfl | decide
theorem kc_i4 : Int32.ofInt 4 = nI 4 := by first | rfl | decide
theorem kc_i5 : Int32.ofInt 5 = nI 5 := by first | rfl | decide
theorem kc_b_m100 : (Int8.ofInt (-100)).toInt32 = ng 100 := by first | rfl | decide
theorem kc_b_m16 : (Int8.ofInt (-16)).toInt32 = ng 16 := by first | rfl | decide
theorem kc_b_m15 : (Int8.ofInt (-15)).toInt32 = ng 15 := by first | rfl | decide
theorem kc_b_m14 : (Int8.ofInt (-14)).toInt32 = ng 14 := by first | rfl | decide
theorem kc_b_m13 : (Int8.ofInt (-13)).toInt32 = ng 13 := by first | rfl | decide
theorem kc_b_m12 : (Int8.ofInt (-12)).toInt32 = ng 12 := by first | rfl | decide
theorem kc_b_m11 : (Int8.ofInt (-11)).toInt32 = ng 11 := by first | rfl | decide
theorem kc_b_m2 : (Int8.ofInt (-2)).toInt32 = ng 2 := by first | rfl | decide
theorem kc_b_6 : (Int8.ofInt 6).toInt32 = nI 6 := by first | rfl | decide
theorem kc_b_7 : (Int8.ofInt 7).toInt32 = nI 7 := by first | rfl | decide
theorem kc_b_8 : (Int8.ofInt 8).toInt32 = nI 8 := by first | rfl | decide
theorem kc_b_9 : (Int8.ofInt 9).toInt32 = nI 9 := by first | rfl | decide
theorem kc_b_10 : (Int8.ofInt 10).toInt32 = nI 10 := by first | rfl | decide
theorem kc_b_11 : (Int8.ofInt 11).toInt32 = nI 11 := by first | rfl | decide
theorem kc_b_12 : (Int8.ofInt 12).toInt32 = nI 12 := by first | rfl | decide
theorem kc_b_13 : (Int8.ofInt 13).toInt32 = nI 13 := by first | rfl | decide
theorem kc_b_14 : (Int8.ofInt 14).toInt32 = nI 14 := by first | rfl | decide
theorem kc_b_15 : (Int8.ofInt 15).toInt32 = nI 15 := by first | rfl | decide
theorem kc_b_16 : (Int8.ofInt 16).toInt32 = nI 16 := by first | rfl | decide
theorem kc_b_20 : (Int8.ofInt 20).toInt32 = nI 20 := by first | rfl | decide
theorem kc_b_24 : (Int8.ofInt 24).toInt32 = nI 24 := by first | rfl | decide
theorem kc_b_32 : (Int8.ofInt 32).toInt32 = nI 32 := by first | rfl | decide
theorem kc_b_37 : (Int8.ofInt 37).toInt32 = nI 37 := by first | rfl | decide
theorem kc_b_40 : (Int8.ofInt 40).toInt32 = nI 40 := by first | rfl | decide
theorem kc_b_42 : (Int8.ofInt 42).toInt32 = nI 42 := by first | rfl | decide
theorem kc_b_43 : (Int8.ofInt 43).toInt32 = nI 43 := by first | rfl | decide
theorem kc_b_45 : (Int8.ofInt 45).toInt32 = nI 45 := by first | rfl | decide
theorem kc_b_47 : (Int8.ofInt 47).toInt32 = nI 47 := by first | rfl | decide
theorem kc_b_48 : (Int8.ofInt 48).toInt32 = nI 48 := by first | rfl | decide
theorem kc_b_57 : (Int8.ofInt 57).toInt32 = nI 57 := by first | rfl | decide
theorem kc_b_58 : (Int8.ofInt 58).toInt32 = nI 58 := by first | rfl | decide
theorem kc_b_59 : (Int8.ofInt 59).toInt32 = nI 59 := by first | rfl | decide
theorem kc_b_60 : (Int8.ofInt 60).toInt32 = nI 60 := by first | rfl | decide
theorem kc_b_61 : (Int8.ofInt 61).toInt32 = nI 61 := by first | rfl | decide
theorem kc_b_62 : (Int8.ofInt 62).toInt32 = nI 62 := by first | rfl | decide
theorem kc_b_63 : (Int8.ofInt 63).toInt32 = nI 63 := by first | rfl | decide
theorem kc_b_91 : (Int8.ofInt 91).toInt32 = nI 91 := by first | rfl | decide
theorem kc_b_93 : (Int8.ofInt 93).toInt32 = nI 93 := by first | rfl | decide
theorem kc_b_97 : (Int8.ofInt 97).toInt32 = nI 97 := by first | rfl | decide
theorem kc_b_99 : (Int8.ofInt 99).toInt32 = nI 99 := by first | rfl | decide
theorem kc_b_100 : (Int8.ofInt 100).toInt32 = nI 100 := by first | rfl | decide
theorem kc_b_106 : (Int8.ofInt 106).toInt32 = nI 106 := by first | rfl | decide
theorem kc_b_122 : (Int8.ofInt 122).toInt32 = nI 122 := by first | rfl | decide
theorem kc_s_206 : (Int16.ofInt 206).toInt32 = nI 206 := by first | rfl | decide
theorem kc_s_226 : (Int16.ofInt 226).toInt32 = nI 226 := by first | rfl | decide
theorem kc_s_227 : (Int16.ofInt 227).toInt32 = nI 227 := by first | rfl | decide
theorem kc_s_255 : (Int16.ofInt 255).toInt32 = nI 255 := by first | rfl | decide
theorem kc_s_256 : (Int16.ofInt 256).toInt32 = nI 256 := by first | rfl | decide
theorem kc_s_316 : (Int16.ofInt 316).toInt32 = nI 316 := by first | rfl | decide
theorem kc_s_318 : (Int16.ofInt 318).toInt32 = nI 318 := by first | rfl | decide
theorem kc_s_400 : (Int16.ofInt 400).toInt32 = nI 400 := by first | rfl | decide
theorem kc_s_512 : (Int16.ofInt 512).toInt32 = nI 512 := by first | rfl | decide
theorem kc_s_999 : (Int16.ofInt 999).toInt32 = nI 999 := by first | rfl | decide
theorem kc_s_1160 : (Int16.ofInt 1160).toInt32 = nI 1160 := by first | rfl | decide
theorem kc_s_1536 : (Int16.ofInt 1536).toInt32 = nI 1536 := by first | rfl | decide
theorem kc_s_3003 : (Int16.ofInt 3003).toInt32 = nI 3003 := by first | rfl | decide
theorem kc_lm11 : (-11 : Int32) = ng 11 := by first | rfl | decide
theorem kc_lm10 : (-10 : Int32) = ng 10 := by first | rfl | decide
theorem kc_lm9 : (-9 : Int32) = ng 9 := by first | rfl | decide
theorem kc_lm8 : (-8 : Int32) = ng 8 := by first | rfl | decide
theorem kc_lm7 : (-7 : Int32) = ng 7 := by first | rfl | decide
theorem kc_lm6 : (-6 : Int32) = ng 6 := by first | rfl | decide
theorem kc_lm5 : (-5 : Int32) = ng 5 := by first | rfl | decide
theorem kc_lm4 : (-4 : Int32) = ng 4 := by first | rfl | decide
theorem kc_lm3 : (-3 : Int32) = ng 3 := by first | rfl | decide
theorem kc_lm2 : (-2 : Int32) = ng 2 := by first | rfl | decide
theorem kc_lm1 : (-1 : Int32) = ng 1 := by first | rfl | decide
theorem kc_l1 : (1 : Int32) = nI 1 := by first | rfl | decide
theorem kc_l2 : (2 : Int32) = nI 2 := by first | rfl | decide
theorem kc_l3 : (3 : Int32) = nI 3 := by first | rfl | decide
theorem kc_l4 : (4 : Int32) = nI 4 := by first | rfl | decide
theorem kc_l5 : (5 : Int32) = nI 5 := by first | rfl | decide
theorem kc_l6 : (6 : Int32) = nI 6 := by first | rfl | decide
theorem kc_l7 : (7 : Int32) = nI 7 := by first | rfl | decide
theorem kc_l8 : (8 : Int32) = nI 8 := by first | rfl | decide
theorem kc_l9 : (9 : Int32) = nI 9 := by first | rfl | decide
theorem kc_l10 : (10 : Int32) = nI 10 := by first | rfl | decide
theorem kc_l11 : (11 : Int32) = nI 11 := by first | rfl | decide
theorem kc_l12 : (12 : Int32) = nI 12 := by first | rfl | decide
theorem kc_l13 : (13 : Int32) = nI 13 := by first | rfl | decide
theorem kc_l14 : (14 : Int32) = nI 14 := by first | rfl | decide
theorem kc_l37 : (37 : Int32) = nI 37 := by first | rfl | decide
theorem kc_l42 : (42 : Int32) = nI 42 := by first | rfl | decide
theorem kc_l43 : (43 : Int32) = nI 43 := by first | rfl | decide
theorem kc_l45 : (45 : Int32) = nI 45 := by first | rfl | decide
theorem kc_l47 : (47 : Int32) = nI 47 := by first | rfl | decide
theorem kc_l60 : (60 : Int32) = nI 60 := by first | rfl | decide
theorem kc_l61 : (61 : Int32) = nI 61 := by first | rfl | decide
theorem kc_l62 : (62 : Int32) = nI 62 := by first | rfl | decide
theorem kc_l316 : (316 : Int32) = nI 316 := by first | rfl | decide
theorem kc_l318 : (318 : Int32) = nI 318 := by first | rfl | decide
theorem kc_l65536 : (65536 : Int32) = nI 65536 := by first | rfl | decide
theorem kc_l99999 : (99999 : Int32) = nI 99999 := by first | rfl | decide
theorem kc_l1000000 : (1000000 : Int32) = nI 1000000 := by first | rfl | decide
theorem kc_l252645135 : (252645135 : Int32) = nI 252645135 := by first | rfl | decide
theorem kc_l858993459 : (858993459 : Int32) = nI 858993459 := by first | rfl | decide
theorem kc_l1431655765 : (1431655765 : Int32) = nI 1431655765 := by first | rfl | decide
theorem kc_0 : (0 : Int32) = nI 0 := rfl
theorem kc_on (n : Nat) : Int32.ofNat n = nI n := rfl
def tb_rf : List ((Nat × Nat) × Nat) := [((8, 5), 9), ((8, 6), 10), ((11, 5), 12), ((11, 6), 13), ((14, 5), 15), ((14, 6), 16), ((17, 5), 18), ((17, 6), 19), ((20, 5), 21), ((20, 6), 22), ((23, 5), 24), ((23, 6), 25), ((26, 5), 27), ((26, 6), 28), ((29, 5), 30), ((29, 6), 31), ((32, 5), 33), ((32, 6), 34), ((35, 5), 36), ((35, 6), 37), ((38, 5), 39), ((38, 6), 40), ((41, 5), 42), ((41, 6), 43), ((44, 5), 45), ((44, 6), 46), ((47, 5), 48), ((47, 6), 49), ((50, 5), 51), ((50, 6), 52), ((53, 5), 54), ((53, 6), 55), ((56, 5), 57), ((56, 6), 58), ((59, 5), 60), ((59, 6), 61), ((62, 5), 63), ((62, 6), 64), ((65, 5), 66), ((65, 6), 67), ((70, 1), 71), ((70, 2), 72), ((70, 3), 73), ((77, 1), 78), ((77, 2), 79), ((77, 3), 80), ((86, 5), 87), ((86, 6), 88), ((90, 0), 91), ((90, 3), 92), ((93, 0), 94), ((93, 3), 95), ((96, 0), 97), ((96, 3), 98), ((99, 0), 100), ((99, 3), 101), ((102, 0), 103), ((102, 3), 104), ((105, 0), 106), ((105, 3), 107), ((108, 4), 109), ((108, 5), 110), ((108, 6), 111), ((108, 7), 112), ((108, 8), 113), ((108, 9), 114), ((108, 10), 115), ((108, 11), 116), ((108, 12), 117), ((118, 4), 119), ((118, 5), 120), ((118, 6), 121), ((118, 7), 122), ((118, 8), 123), ((118, 9), 124), ((118, 10), 125), ((118, 11), 126), ((118, 12), 127), ((128, 4), 129), ((128, 5), 130), ((128, 6), 131), ((128, 7), 132), ((128, 8), 133), ((128, 9), 134), ((128, 10), 135), ((128, 11), 136), ((128, 12), 137), ((138, 4), 139), ((138, 5), 140), ((138, 6), 141), ((138, 7), 142), ((138, 8), 143), ((138, 9), 144), ((138, 10), 145), ((138, 11), 146), ((138, 12), 147), ((148, 4), 149), ((148, 5), 150), ((148, 6), 151), ((148, 7), 152), ((148, 8), 153), ((148, 9), 154), ((148, 10), 155), ((148, 11), 156), ((148, 12), 157), ((158, 4), 159), ((158, 5), 160), ((158, 6), 161), ((158, 7), 162), ((158, 8), 163), ((158, 9), 164), ((158, 10), 165), ((158, 11), 166), ((158, 12), 167), ((168, 1), 169), ((168, 3), 172), ((169, 5), 170), ((169, 6), 171), ((173, 1), 174), ((173, 3), 177), ((174, 5), 175), ((174, 6), 176), ((178, 1), 179), ((178, 3), 182), ((179, 5), 180), ((179, 6), 181), ((183, 1), 184), ((183, 3), 187), ((184, 5), 185), ((184, 6), 186), ((188, 1), 189), ((188, 3), 192), ((189, 5), 190), ((189, 6), 191), ((0, 0), 1), ((0, 1), 3), ((0, 3), 4), ((0, 4), 168), ((0, 5), 5), ((0, 6), 6), ((0, 7), 68), ((0, 8), 89), ((1, 0), 2), ((6, 0), 7), ((68, 0), 69), ((68, 1), 77), ((68, 2), 81), ((68, 4), 82), ((68, 8), 83), ((68, 11), 84), ((68, 15), 85), ((68, 19), 86), ((69, 1), 70), ((69, 2), 74), ((69, 3), 75), ((69, 5), 76), ((193, 0), 194), ((193, 3), 195), ((193, 4), 196), ((193, 5), 197), ((193, 6), 198), ((193, 7), 199), ((193, 15), 200), ((193, 17), 201), ((193, 19), 202), ((193, 20), 203), ((193, 22), 204), ((193, 24), 205), ((193, 25), 206), ((193, 26), 207), ((193, 27), 208), ((193, 29), 209), ((193, 30), 210), ((193, 32), 211), ((193, 33), 212), ((193, 34), 213), ((3, 0), 90), ((4, 0), 108), ((3, 1), 93), ((4, 1), 118), ((3, 2), 96), ((4, 2), 128), ((3, 3), 99), ((4, 3), 138), ((3, 4), 102), ((4, 4), 148), ((3, 5), 105), ((4, 5), 158), ((5, 0), 173), ((5, 1), 178), ((5, 2), 183), ((5, 3), 188), ((7, 0), 8), ((7, 1), 11), ((7, 2), 14), ((7, 3), 17), ((7, 4), 20), ((7, 5), 23), ((7, 6), 26), ((7, 7), 29), ((7, 8), 32), ((7, 9), 35), ((7, 10), 38), ((7, 11), 41), ((7, 12), 44), ((7, 13), 47), ((7, 14), 50), ((7, 15), 53), ((7, 16), 56), ((7, 17), 59), ((7, 18), 62), ((7, 19), 65)]
/-- the references that never change stand -/
def RF (h : pm_H) : Prop := ∀ q ∈ tb_rf, h.2.2.2 q.1.1 q.1.2 = some q.2
theorem RF.setI {h : pm_H} {a k : Nat} {v : Int32} (R : RF h) : RF (pm_setI h a k v) := R
theorem RF.setL {h : pm_H} {a k : Nat} {v : Int64} (R : RF h) : RF (pm_setL h a k v) := R
theorem RF.rowI {h : pm_H} {a : Nat} {g : Nat → Int32} (R : RF h) : RF (pm_rowI h a g) := R
theorem RF.fr {P : Nat → Prop} {h h' : pm_H} (R : RF h) (f : Fr P h h') : RF h' := fun q hq => by rw [f.2.1]; exact R q hq
theorem gA_of {h : pm_H} {k j y : Nat} {ty : FieldType} (e : h.2.2.2 k j = some y) (f : mi_a y ty = true) : gA h k j ty = some y := by unfold gA; rw [e]; simp [f]
theorem gO_of {h : pm_H} {k j y ci : Nat} (e : h.2.2.2 k j = some y) (f : mi_o y ci = true) : gO h k j ci = some y := by unfold gO; rw [e]; simp [f]
theorem ob_n : ∀ k, mi_o k 3 = true → k ∈ [8, 11, 14, 17, 20, 23, 26, 29, 32, 35, 38, 41, 44, 47, 50, 53, 56, 59, 62, 65, 86, 169, 174, 179, 184, 189] := by
  intro k hk
  have h1 := of_decide_eq_true hk
  have h2 : k < 214 := by
    have := (List.getElem?_eq_some_iff.mp h1).1
    rwa [show tb_SH.length = 214 from by decide +kernel] at this
  have h3 : ∀ k, k < 214 → tb_SH[k]? = some (.inr 3) → k ∈ [8, 11, 14, 17, 20, 23, 26, 29, 32, 35, 38, 41, 44, 47, 50, 53, 56, 59, 62, 65, 86, 169, 174, 179, 184, 189] := by decide +kernel
  exact h3 k h2 h1
theorem rf_n5 {h : pm_H} {k : Nat} (R : RF h) (hk : mi_o k 3 = true) : gA h k 5 .int = some (k + 1) := by
  have h3 : ∀ k ∈ [8, 11, 14, 17, 20, 23, 26, 29, 32, 35, 38, 41, 44, 47, 50, 53, 56, 59, 62, 65, 86, 169, 174, 179, 184, 189], ((k, 5), k + 1) ∈ tb_rf ∧ mi_a (k + 1) .int = true := by decide +kernel
  have h4 := h3 k (ob_n k hk)
  exact gA_of (R _ h4.1) h4.2
theorem ln_n5 {k : Nat} (hk : mi_o k 3 = true) : mi_n (k + 1) = 8 := by
  have h3 : ∀ k ∈ [8, 11, 14, 17, 20, 23, 26, 29, 32, 35, 38, 41, 44, 47, 50, 53, 56, 59, 62, 65, 86, 169, 174, 179, 184, 189], mi_n (k + 1) = 8 := by decide +kernel
  exact h3 k (ob_n k hk)
theorem rf_n6 {h : pm_H} {k : Nat} (R : RF h) (hk : mi_o k 3 = true) : gA h k 6 .int = some (k + 2) := by
  have h3 : ∀ k ∈ [8, 11, 14, 17, 20, 23, 26, 29, 32, 35, 38, 41, 44, 47, 50, 53, 56, 59, 62, 65, 86, 169, 174, 179, 184, 189], ((k, 6), k + 2) ∈ tb_rf ∧ mi_a (k + 2) .int = true := by decide +kernel
  have h4 := h3 k (ob_n k hk)
  exact gA_of (R _ h4.1) h4.2
theorem ln_n6 {k : Nat} (hk : mi_o k 3 = true) : mi_n (k + 2) = 8 := by
  have h3 : ∀ k ∈ [8, 11, 14, 17, 20, 23, 26, 29, 32, 35, 38, 41, 44, 47, 50, 53, 56, 59, 62, 65, 86, 169, 174, 179, 184, 189], mi_n (k + 2) = 8 := by decide +kernel
  exact h3 k (ob_n k hk)
theorem ob_s : ∀ k, mi_o k 7 = true → k ∈ [108, 118, 128, 138, 148, 158] := by
  intro k hk
  have h1 := of_decide_eq_true hk
  have h2 : k < 214 := by
    have := (List.getElem?_eq_some_iff.mp h1).1
    rwa [show tb_SH.length = 214 from by decide +kernel] at this
  have h3 : ∀ k, k < 214 → tb_SH[k]? = some (.inr 7) → k ∈ [108, 118, 128, 138, 148, 158] := by decide +kernel
  exact h3 k h2 h1
theorem rf_s4 {h : pm_H} {k : Nat} (R : RF h) (hk : mi_o k 7 = true) : gA h k 4 .int = some (k + 1) := by
  have h3 : ∀ k ∈ [108, 118, 128, 138, 148, 158], ((k, 4), k + 1) ∈ tb_rf ∧ mi_a (k + 1) .int = true := by decide +kernel
  have h4 := h3 k (ob_s k hk)
  exact gA_of (R _ h4.1) h4.2
theorem ln_s4 {k : Nat} (hk : mi_o k 7 = true) : mi_n (k + 1) = 8 := by
  have h3 : ∀ k ∈ [108, 118, 128, 138, 148, 158], mi_n (k + 1) = 8 := by decide +kernel
  exact h3 k (ob_s k hk)
theorem rf_s5 {h : pm_H} {k : Nat} (R : RF h) (hk : mi_o k 7 = true) : gA h k 5 .int = some (k + 2) := by
  have h3 : ∀ k ∈ [108, 118, 128, 138, 148, 158], ((k, 5), k + 2) ∈ tb_rf ∧ mi_a (k + 2) .int = true := by decide +kernel
  have h4 := h3 k (ob_s k hk)
  exact gA_of (R _ h4.1) h4.2
theorem ln_s5 {k : Nat} (hk : mi_o k 7 = true) : mi_n (k + 2) = 8 := by
  have h3 : ∀ k ∈ [108, 118, 128, 138, 148, 158], mi_n (k + 2) = 8 := by decide +kernel
  exact h3 k (ob_s k hk)
theorem rf_s6 {h : pm_H} {k : Nat} (R : RF h) (hk : mi_o k 7 = true) : gA h k 6 .int = some (k + 3) := by
  have h3 : ∀ k ∈ [108, 118, 128, 138, 148, 158], ((k, 6), k + 3) ∈ tb_rf ∧ mi_a (k + 3) .int = true := by decide +kernel
  have h4 := h3 k (ob_s k hk)
  exact gA_of (R _ h4.1) h4.2
theorem ln_s6 {k : Nat} (hk : mi_o k 7 = true) : mi_n (k + 3) = 8 := by
  have h3 : ∀ k ∈ [108, 118, 128, 138, 148, 158], mi_n (k + 3) = 8 := by decide +kernel
  exact h3 k (ob_s k hk)
theorem rf_s7 {h : pm_H} {k : Nat} (R : RF h) (hk : mi_o k 7 = true) : gA h k 7 .int = some (k + 4) := by
  have h3 : ∀ k ∈ [108, 118, 128, 138, 148, 158], ((k, 7), k + 4) ∈ tb_rf ∧ mi_a (k + 4) .int = true := by decide +kernel
  have h4 := h3 k (ob_s k hk)
  exact gA_of (R _ h4.1) h4.2
theorem ln_s7 {k : Nat} (hk : mi_o k 7 = true) : mi_n (k + 4) = 8 := by
  have h3 : ∀ k ∈ [108, 118, 128, 138, 148, 158], mi_n (k + 4) = 8 := by decide +kernel
  exact h3 k (ob_s k hk)
theorem rf_s8 {h : pm_H} {k : Nat} (R : RF h) (hk : mi_o k 7 = true) : gA h k 8 .int = some (k + 5) := by
  have h3 : ∀ k ∈ [108, 118, 128, 138, 148, 158], ((k, 8), k + 5) ∈ tb_rf ∧ mi_a (k + 5) .int = true := by decide +kernel
  have h4 := h3 k (ob_s k hk)
  exact gA_of (R _ h4.1) h4.2
theorem ln_s8 {k : Nat} (hk : mi_o k 7 = true) : mi_n (k + 5) = 32 := by
  have h3 : ∀ k ∈ [108, 118, 128, 138, 148, 158], mi_n (k + 5) = 32 := by decide +kernel
  exact h3 k (ob_s k hk)
theorem rf_s9 {h : pm_H} {k : Nat} (R : RF h) (hk : mi_o k 7 = true) : gA h k 9 .int = some (k + 6) := by
  have h3 : ∀ k ∈ [108, 118, 128, 138, 148, 158], ((k, 9), k + 6) ∈ tb_rf ∧ mi_a (k + 6) .int = true := by decide +kernel
  have h4 := h3 k (ob_s k hk)
  exact gA_of (R _ h4.1) h4.2
theorem ln_s9 {k : Nat} (hk : mi_o k 7 = true) : mi_n (k + 6) = 10 := by
  have h3 : ∀ k ∈ [108, 118, 128, 138, 148, 158], mi_n (k + 6) = 10 := by decide +kernel
  exact h3 k (ob_s k hk)
theorem rf_s10 {h : pm_H} {k : Nat} (R : RF h) (hk : mi_o k 7 = true) : gA h k 10 .int = some (k + 7) := by
  have h3 : ∀ k ∈ [108, 118, 128, 138, 148, 158], ((k, 10), k + 7) ∈ tb_rf ∧ mi_a (k + 7) .int = true := by decide +kernel
  have h4 := h3 k (ob_s k hk)
  exact gA_of (R _ h4.1) h4.2
theorem ln_s10 {k : Nat} (hk : mi_o k 7 = true) : mi_n (k + 7) = 10 := by
  have h3 : ∀ k ∈ [108, 118, 128, 138, 148, 158], mi_n (k + 7) = 10 := by decide +kernel
  exact h3 k (ob_s k hk)
theorem rf_s11 {h : pm_H} {k : Nat} (R : RF h) (hk : mi_o k 7 = true) : gA h k 11 .int = some (k + 8) := by
  have h3 : ∀ k ∈ [108, 118, 128, 138, 148, 158], ((k, 11), k + 8) ∈ tb_rf ∧ mi_a (k + 8) .int = true := by decide +kernel
  have h4 := h3 k (ob_s k hk)
  exact gA_of (R _ h4.1) h4.2
theorem ln_s11 {k : Nat} (hk : mi_o k 7 = true) : mi_n (k + 8) = 10 := by
  have h3 : ∀ k ∈ [108, 118, 128, 138, 148, 158], mi_n (k + 8) = 10 := by decide +kernel
  exact h3 k (ob_s k hk)
theorem rf_s12 {h : pm_H} {k : Nat} (R : RF h) (hk : mi_o k 7 = true) : gA h k 12 .int = some (k + 9) := by
  have h3 : ∀ k ∈ [108, 118, 128, 138, 148, 158], ((k, 12), k + 9) ∈ tb_rf ∧ mi_a (k + 9) .int = true := by decide +kernel
  have h4 := h3 k (ob_s k hk)
  exact gA_of (R _ h4.1) h4.2
theorem ln_s12 {k : Nat} (hk : mi_o k 7 = true) : mi_n (k + 9) = 100 := by
  have h3 : ∀ k ∈ [108, 118, 128, 138, 148, 158], mi_n (k + 9) = 100 := by decide +kernel
  exact h3 k (ob_s k hk)
theorem ob_w : ∀ k, mi_o k 9 = true → k ∈ [168, 173, 178, 183, 188] := by
  intro k hk
  have h1 := of_decide_eq_true hk
  have h2 : k < 214 := by
    have := (List.getElem?_eq_some_iff.mp h1).1
    rwa [show tb_SH.length = 214 from by decide +kernel] at this
  have h3 : ∀ k, k < 214 → tb_SH[k]? = some (.inr 9) → k ∈ [168, 173, 178, 183, 188] := by decide +kernel
  exact h3 k h2 h1
theorem rf_w1 {h : pm_H} {k : Nat} (R : RF h) (hk : mi_o k 9 = true) : gO h k 1 3 = some (k + 1) := by
  have h3 : ∀ k ∈ [168, 173, 178, 183, 188], ((k, 1), k + 1) ∈ tb_rf ∧ mi_o (k + 1) 3 = true := by decide +kernel
  have h4 := h3 k (ob_w k hk)
  exact gO_of (R _ h4.1) h4.2
theorem rf_w3 {h : pm_H} {k : Nat} (R : RF h) (hk : mi_o k 9 = true) : gA h k 3 .int = some (k + 4) := by
  have h3 : ∀ k ∈ [168, 173, 178, 183, 188], ((k, 3), k + 4) ∈ tb_rf ∧ mi_a (k + 4) .int = true := by decide +kernel
  have h4 := h3 k (ob_w k hk)
  exact gA_of (R _ h4.1) h4.2
theorem ln_w3 {k : Nat} (hk : mi_o k 9 = true) : mi_n (k + 4) = 10 := by
  have h3 : ∀ k ∈ [168, 173, 178, 183, 188], mi_n (k + 4) = 10 := by decide +kernel
  exact h3 k (ob_w k hk)
theorem ob_u : ∀ k, mi_o k 6 = true → k ∈ [90, 93, 96, 99, 102, 105] := by
  intro k hk
  have h1 := of_decide_eq_true hk
  have h2 : k < 214 := by
    have := (List.getElem?_eq_some_iff.mp h1).1
    rwa [show tb_SH.length = 214 from by decide +kernel] at this
  have h3 : ∀ k, k < 214 → tb_SH[k]? = some (.inr 6) → k ∈ [90, 93, 96, 99, 102, 105] := by decide +kernel
  exact h3 k h2 h1
theorem rf_u0 {h : pm_H} {k : Nat} (R : RF h) (hk : mi_o k 6 = true) : gA h k 0 .int = some (k + 1) := by
  have h3 : ∀ k ∈ [90, 93, 96, 99, 102, 105], ((k, 0), k + 1) ∈ tb_rf ∧ mi_a (k + 1) .int = true := by decide +kernel
  have h4 := h3 k (ob_u k hk)
  exact gA_of (R _ h4.1) h4.2
theorem ln_u0 {k : Nat} (hk : mi_o k 6 = true) : mi_n (k + 1) = 412 := by
  have h3 : ∀ k ∈ [90, 93, 96, 99, 102, 105], mi_n (k + 1) = 412 := by decide +kernel
  exact h3 k (ob_u k hk)
theorem rf_u3 {h : pm_H} {k : Nat} (R : RF h) (hk : mi_o k 6 = true) : gA h k 3 .long = some (k + 2) := by
  have h3 : ∀ k ∈ [90, 93, 96, 99, 102, 105], ((k, 3), k + 2) ∈ tb_rf ∧ mi_a (k + 2) .long = true := by decide +kernel
  have h4 := h3 k (ob_u k hk)
  exact gA_of (R _ h4.1) h4.2
theorem ln_u3 {k : Nat} (hk : mi_o k 6 = true) : mi_n (k + 2) = 64 := by
  have h3 : ∀ k ∈ [90, 93, 96, 99, 102, 105], mi_n (k + 2) = 64 := by decide +kernel
  exact h3 k (ob_u k hk)
theorem ob_r : ∀ k, mi_o k 5 = true → k ∈ [70, 77] := by
  intro k hk
  have h1 := of_decide_eq_true hk
  have h2 : k < 214 := by
    have := (List.getElem?_eq_some_iff.mp h1).1
    rwa [show tb_SH.length = 214 from by decide +kernel] at this
  have h3 : ∀ k, k < 214 → tb_SH[k]? = some (.inr 5) → k ∈ [70, 77] := by decide +kernel
  exact h3 k h2 h1
theorem rf_r1 {h : pm_H} {k : Nat} (R : RF h) (hk : mi_o k 5 = true) : gA h k 1 .int = some (k + 1) := by
  have h3 : ∀ k ∈ [70, 77], ((k, 1), k + 1) ∈ tb_rf ∧ mi_a (k + 1) .int = true := by decide +kernel
  have h4 := h3 k (ob_r k hk)
  exact gA_of (R _ h4.1) h4.2
theorem ln_r1 {k : Nat} (hk : mi_o k 5 = true) : mi_n (k + 1) = 30 := by
  have h3 : ∀ k ∈ [70, 77], mi_n (k + 1) = 30 := by decide +kernel
  exact h3 k (ob_r k hk)
theorem rf_r2 {h : pm_H} {k : Nat} (R : RF h) (hk : mi_o k 5 = true) : gA h k 2 .int = some (k + 2) := by
  have h3 : ∀ k ∈ [70, 77], ((k, 2), k + 2) ∈ tb_rf ∧ mi_a (k + 2) .int = true := by decide +kernel
  have h4 := h3 k (ob_r k hk)
  exact gA_of (R _ h4.1) h4.2
theorem ln_r2 {k : Nat} (hk : mi_o k 5 = true) : mi_n (k + 2) = 6 := by
  have h3 : ∀ k ∈ [70, 77], mi_n (k + 2) = 6 := by decide +kernel
  exact h3 k (ob_r k hk)
theorem rf_r3 {h : pm_H} {k : Nat} (R : RF h) (hk : mi_o k 5 = true) : gA h k 3 .int = some (k + 3) := by
  have h3 : ∀ k ∈ [70, 77], ((k, 3), k + 3) ∈ tb_rf ∧ mi_a (k + 3) .int = true := by decide +kernel
  have h4 := h3 k (ob_r k hk)
  exact gA_of (R _ h4.1) h4.2
theorem ln_r3 {k : Nat} (hk : mi_o k 5 = true) : mi_n (k + 3) = 6 := by
  have h3 : ∀ k ∈ [70, 77], mi_n (k + 3) = 6 := by decide +kernel
  exact h3 k (ob_r k hk)
theorem ra_0_0 {h : pm_H} (R : RF h) : gO h 0 0 8 = some 1 := gO_of (R ((0, 0), 1) (by decide +kernel)) (by decide +kernel)
theorem ra_0_1 {h : pm_H} (R : RF h) : gA h 0 1 (.object "ChoirShip$Rule") = some 3 := gA_of (R ((0, 1), 3) (by decide +kernel)) (by decide +kernel)
theorem mn_3 : mi_n 3 = 6 := by decide +kernel
theorem ra_0_3 {h : pm_H} (R : RF h) : gA h 0 3 (.object "ChoirShip$Ship") = some 4 := gA_of (R ((0, 3), 4) (by decide +kernel)) (by decide +kernel)
theorem mn_4 : mi_n 4 = 6 := by decide +kernel
theorem ra_0_4 {h : pm_H} (R : RF h) : gO h 0 4 9 = some 168 := gO_of (R ((0, 4), 168) (by decide +kernel)) (by decide +kernel)
theorem ra_0_5 {h : pm_H} (R : RF h) : gA h 0 5 (.object "ChoirShip$World") = some 5 := gA_of (R ((0, 5), 5) (by decide +kernel)) (by decide +kernel)
theorem mn_5 : mi_n 5 = 4 := by decide +kernel
theorem ra_0_6 {h : pm_H} (R : RF h) : gO h 0 6 4 = some 6 := gO_of (R ((0, 6), 6) (by decide +kernel)) (by decide +kernel)
theorem ra_0_7 {h : pm_H} (R : RF h) : gO h 0 7 1 = some 68 := gO_of (R ((0, 7), 68) (by decide +kernel)) (by decide +kernel)
theorem ra_0_8 {h : pm_H} (R : RF h) : gA h 0 8 .int = some 89 := gA_of (R ((0, 8), 89) (by decide +kernel)) (by decide +kernel)
theorem mn_89 : mi_n 89 = 5 := by decide +kernel
theorem ra_1_0 {h : pm_H} (R : RF h) : gA h 1 0 .int = some 2 := gA_of (R ((1, 0), 2) (by decide +kernel)) (by decide +kernel)
theorem mn_2 : mi_n 2 = 400 := by decide +kernel
theorem ra_6_0 {h : pm_H} (R : RF h) : gA h 6 0 (.object "ChoirShip$Hands") = some 7 := gA_of (R ((6, 0), 7) (by decide +kernel)) (by decide +kernel)
theorem mn_7 : mi_n 7 = 20 := by decide +kernel
theorem ra_68_0 {h : pm_H} (R : RF h) : gO h 68 0 2 = some 69 := gO_of (R ((68, 0), 69) (by decide +kernel)) (by decide +kernel)
theorem ra_68_1 {h : pm_H} (R : RF h) : gO h 68 1 5 = some 77 := gO_of (R ((68, 1), 77) (by decide +kernel)) (by decide +kernel)
theorem ra_68_2 {h : pm_H} (R : RF h) : gA h 68 2 .int = some 81 := gA_of (R ((68, 2), 81) (by decide +kernel)) (by decide +kernel)
theorem mn_81 : mi_n 81 = 5 := by decide +kernel
theorem ra_68_4 {h : pm_H} (R : RF h) : gA h 68 4 .int = some 82 := gA_of (R ((68, 4), 82) (by decide +kernel)) (by decide +kernel)
theorem mn_82 : mi_n 82 = 5 := by decide +kernel
theorem ra_68_8 {h : pm_H} (R : RF h) : gA h 68 8 .int = some 83 := gA_of (R ((68, 8), 83) (by decide +kernel)) (by decide +kernel)
theorem mn_83 : mi_n 83 = 10 := by decide +kernel
theorem ra_68_11 {h : pm_H} (R : RF h) : gA h 68 11 .int = some 84 := gA_of (R ((68, 11), 84) (by decide +kernel)) (by decide +kernel)
theorem mn_84 : mi_n 84 = 30 := by decide +kernel
theorem ra_68_15 {h : pm_H} (R : RF h) : gA h 68 15 .int = some 85 := gA_of (R ((68, 15), 85) (by decide +kernel)) (by decide +kernel)
theorem mn_85 : mi_n 85 = 8 := by decide +kernel
theorem ra_68_19 {h : pm_H} (R : RF h) : gO h 68 19 3 = some 86 := gO_of (R ((68, 19), 86) (by decide +kernel)) (by decide +kernel)
theorem ra_69_1 {h : pm_H} (R : RF h) : gO h 69 1 5 = some 70 := gO_of (R ((69, 1), 70) (by decide +kernel)) (by decide +kernel)
theorem ra_69_2 {h : pm_H} (R : RF h) : gA h 69 2 .int = some 74 := gA_of (R ((69, 2), 74) (by decide +kernel)) (by decide +kernel)
theorem mn_74 : mi_n 74 = 3003 := by decide +kernel
theorem ra_69_3 {h : pm_H} (R : RF h) : gA h 69 3 .int = some 75 := gA_of (R ((69, 3), 75) (by decide +kernel)) (by decide +kernel)
theorem mn_75 : mi_n 75 = 2816 := by decide +kernel
theorem ra_69_5 {h : pm_H} (R : RF h) : gA h 69 5 .int = some 76 := gA_of (R ((69, 5), 76) (by decide +kernel)) (by decide +kernel)
theorem mn_76 : mi_n 76 = 10 := by decide +kernel
theorem ra_193_0 {h : pm_H} (R : RF h) : gA h 193 0 .byte = some 194 := gA_of (R ((193, 0), 194) (by decide +kernel)) (by decide +kernel)
theorem mn_194 : mi_n 194 = 400 := by decide +kernel
theorem ra_193_3 {h : pm_H} (R : RF h) : gA h 193 3 .int = some 195 := gA_of (R ((193, 3), 195) (by decide +kernel)) (by decide +kernel)
theorem mn_195 : mi_n 195 = 2400 := by decide +kernel
theorem ra_193_4 {h : pm_H} (R : RF h) : gA h 193 4 .int = some 196 := gA_of (R ((193, 4), 196) (by decide +kernel)) (by decide +kernel)
theorem mn_196 : mi_n 196 = 7 := by decide +kernel
theorem ra_193_5 {h : pm_H} (R : RF h) : gA h 193 5 .int = some 197 := gA_of (R ((193, 5), 197) (by decide +kernel)) (by decide +kernel)
theorem mn_197 : mi_n 197 = 288 := by decide +kernel
theorem ra_193_6 {h : pm_H} (R : RF h) : gA h 193 6 .int = some 198 := gA_of (R ((193, 6), 198) (by decide +kernel)) (by decide +kernel)
theorem mn_198 : mi_n 198 = 6 := by decide +kernel
theorem ra_193_7 {h : pm_H} (R : RF h) : gA h 193 7 .int = some 199 := gA_of (R ((193, 7), 199) (by decide +kernel)) (by decide +kernel)
theorem mn_199 : mi_n 199 = 206 := by decide +kernel
theorem ra_193_15 {h : pm_H} (R : RF h) : gA h 193 15 .int = some 200 := gA_of (R ((193, 15), 200) (by decide +kernel)) (by decide +kernel)
theorem mn_200 : mi_n 200 = 400 := by decide +kernel
theorem ra_193_17 {h : pm_H} (R : RF h) : gA h 193 17 .long = some 201 := gA_of (R ((193, 17), 201) (by decide +kernel)) (by decide +kernel)
theorem mn_201 : mi_n 201 = 64 := by decide +kernel
theorem ra_193_19 {h : pm_H} (R : RF h) : gA h 193 19 .long = some 202 := gA_of (R ((193, 19), 202) (by decide +kernel)) (by decide +kernel)
theorem mn_202 : mi_n 202 = 11 := by decide +kernel
theorem ra_193_20 {h : pm_H} (R : RF h) : gA h 193 20 .int = some 203 := gA_of (R ((193, 20), 203) (by decide +kernel)) (by decide +kernel)
theorem mn_203 : mi_n 203 = 227 := by decide +kernel
theorem ra_193_22 {h : pm_H} (R : RF h) : gA h 193 22 .int = some 204 := gA_of (R ((193, 22), 204) (by decide +kernel)) (by decide +kernel)
theorem mn_204 : mi_n 204 = 5 := by decide +kernel
theorem ra_193_24 {h : pm_H} (R : RF h) : gA h 193 24 .int = some 205 := gA_of (R ((193, 24), 205) (by decide +kernel)) (by decide +kernel)
theorem mn_205 : mi_n 205 = 5 := by decide +kernel
theorem ra_193_25 {h : pm_H} (R : RF h) : gA h 193 25 .int = some 206 := gA_of (R ((193, 25), 206) (by decide +kernel)) (by decide +kernel)
theorem mn_206 : mi_n 206 = 2 := by decide +kernel
theorem ra_193_26 {h : pm_H} (R : RF h) : gA h 193 26 .int = some 207 := gA_of (R ((193, 26), 207) (by decide +kernel)) (by decide +kernel)
theorem mn_207 : mi_n 207 = 512 := by decide +kernel
theorem ra_193_27 {h : pm_H} (R : RF h) : gA h 193 27 .int = some 208 := gA_of (R ((193, 27), 208) (by decide +kernel)) (by decide +kernel)
theorem mn_208 : mi_n 208 = 1160 := by decide +kernel
theorem ra_193_29 {h : pm_H} (R : RF h) : gA h 193 29 .int = some 209 := gA_of (R ((193, 29), 209) (by decide +kernel)) (by decide +kernel)
theorem mn_209 : mi_n 209 = 30 := by decide +kernel
theorem ra_193_30 {h : pm_H} (R : RF h) : gA h 193 30 .int = some 210 := gA_of (R ((193, 30), 210) (by decide +kernel)) (by decide +kernel)
theorem mn_210 : mi_n 210 = 58 := by decide +kernel
theorem ra_193_32 {h : pm_H} (R : RF h) : gA h 193 32 .int = some 211 := gA_of (R ((193, 32), 211) (by decide +kernel)) (by decide +kernel)
theorem mn_211 : mi_n 211 = 908 := by decide +kernel
theorem ra_193_33 {h : pm_H} (R : RF h) : gA h 193 33 .int = some 212 := gA_of (R ((193, 33), 212) (by decide +kernel)) (by decide +kernel)
theorem mn_212 : mi_n 212 = 4 := by decide +kernel
theorem ra_193_34 {h : pm_H} (R : RF h) : gA h 193 34 .boolean = some 213 := gA_of (R ((193, 34), 213) (by decide +kernel)) (by decide +kernel)
theorem mn_213 : mi_n 213 = 4 := by decide +kernel
theorem rg_rules {h : pm_H} (R : RF h) {i : Nat} (hi : i < 6) : gO h 3 i 6 = some (90 + 3 * i) := by
  have h3 : ∀ i, i < 6 → ((3, i), 90 + 3 * i) ∈ tb_rf ∧ mi_o (90 + 3 * i) 6 = true := by decide +kernel
  exact gO_of (R _ (h3 i hi).1) (h3 i hi).2
theorem ro_rules {i : Nat} (hi : i < 6) : mi_o (90 + 3 * i) 6 = true := by
  have h3 : ∀ i, i < 6 → mi_o (90 + 3 * i) 6 = true := by decide +kernel
  exact h3 i hi
theorem rg_hulls {h : pm_H} (R : RF h) {i : Nat} (hi : i < 6) : gO h 4 i 7 = some (108 + 10 * i) := by
  have h3 : ∀ i, i < 6 → ((4, i), 108 + 10 * i) ∈ tb_rf ∧ mi_o (108 + 10 * i) 7 = true := by decide +kernel
  exact gO_of (R _ (h3 i hi).1) (h3 i hi).2
theorem ro_hulls {i : Nat} (hi : i < 6) : mi_o (108 + 10 * i) 7 = true := by
  have h3 : ∀ i, i < 6 → mi_o (108 + 10 * i) 7 = true := by decide +kernel
  exact h3 i hi
theorem rg_images {h : pm_H} (R : RF h) {i : Nat} (hi : i < 4) : gO h 5 i 9 = some (173 + 5 * i) := by
  have h3 : ∀ i, i < 4 → ((5, i), 173 + 5 * i) ∈ tb_rf ∧ mi_o (173 + 5 * i) 9 = true := by decide +kernel
  exact gO_of (R _ (h3 i hi).1) (h3 i hi).2
theorem ro_images {i : Nat} (hi : i < 4) : mi_o (173 + 5 * i) 9 = true := by
  have h3 : ∀ i, i < 4 → mi_o (173 + 5 * i) 9 = true := by decide +kernel
  exact h3 i hi
theorem rg_ring {h : pm_H} (R : RF h) {i : Nat} (hi : i < 20) : gO h 7 i 3 = some (8 + 3 * i) := by
  have h3 : ∀ i, i < 20 → ((7, i), 8 + 3 * i) ∈ tb_rf ∧ mi_o (8 + 3 * i) 3 = true := by decide +kernel
  exact gO_of (R _ (h3 i hi).1) (h3 i hi).2
theorem ro_ring {i : Nat} (hi : i < 20) : mi_o (8 + 3 * i) 3 = true := by
  have h3 : ∀ i, i < 20 → mi_o (8 + 3 * i) 3 = true := by decide +kernel
  exact h3 i hi
