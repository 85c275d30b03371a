/-! The law: its cases (written by wip/gen8.py). -/
theorem lc_0 (b : Bool) (L : Nat) (xs : Nat → Int32) {h : pm_H} {i : Nat} {Q : Option Value → pm_H → Prop} (I : INV h) (sh : h.1 = tb_SH) (hi : i + 6 ≤ L) (hL : L ≤ 3072) (kk : ∀ h2, INV h2 → h2.1 = tb_SH → PW b L xs 100 0 0 0 1114 [.ref pm_B, .ref 0, .ref 193, .int (nI i)] [] h2 Q) : PW b L xs 100 0 0 0 176 [.ref pm_B, .ref 0, .ref 193, .int (nI i)] [] h Q := by
  have cl := cl_feed I (xs (i + 1)) (xs (i + 2)) (xs (i + 3)) (xs (i + 4)) (xs (i + 5))
  obtain ⟨v, h1, h2, e1, e2, I2, q1, q2⟩ := cl
  refine pw_l (pc := 176) d0_176 rfl rfl rfl ?_
  refine pw_ag (pc := 177) (n := 1) d0_177 d0_178 d0_179 d0_180 d0_181 (by decide) sh (by omega) hi hL ?_
  refine pw_ag (pc := 182) (n := 2) d0_182 d0_183 d0_184 d0_185 d0_186 (by decide) sh (by omega) hi hL ?_
  refine pw_ag (pc := 187) (n := 3) d0_187 d0_188 d0_189 d0_190 d0_191 (by decide) sh (by omega) hi hL ?_
  refine pw_ag (pc := 192) (n := 4) d0_192 d0_193 d0_194 d0_195 d0_196 (by decide) sh (by omega) hi hL ?_
  refine pw_ag (pc := 197) (n := 5) d0_197 d0_198 d0_199 d0_200 d0_201 (by decide) sh (by omega) hi hL ?_
  refine pw_v (pc := 202) (k := 0) (as := [.ref 0, .int (xs (i + 1)), .int (xs (i + 2)), .int (xs (i + 3)), .int (xs (i + 4)), .int (xs (i + 5))]) (rest := []) (by omega) d0_202 (k0_13 b) (by decide) ml2 (by decide) rfl (sho sh (by decide +kernel)) (Nat.le_of_ble_eq_true rfl) (Nat.le_of_ble_eq_true rfl) rfl rfl (T_x_feed b L xs (100 - 1) (by omega) h sh 0 (xs (i + 1)) (xs (i + 2)) (xs (i + 3)) (xs (i + 4)) (xs (i + 5)) (by decide +kernel) e1) (fun v0 g hq => ?_)
  obtain ⟨rfl, eg, s1⟩ := hq
  have eg : h1 = g := eg.symm
  subst eg
  show PW b L xs 100 0 0 0 (202 + 3) [.ref pm_B, .ref 0, .ref 193, .int (nI i)] [.int v] h1 Q
  refine pw_l (pc := 205) d0_205 rfl rfl rfl ?_
  refine pw_ag (pc := 206) (n := 1) d0_206 d0_207 d0_208 d0_209 d0_210 (by decide) s1 (by omega) hi hL ?_
  refine pw_ag (pc := 211) (n := 2) d0_211 d0_212 d0_213 d0_214 d0_215 (by decide) s1 (by omega) hi hL ?_
  refine pw_ag (pc := 216) (n := 3) d0_216 d0_217 d0_218 d0_219 d0_220 (by decide) s1 (by omega) hi hL ?_
  refine pw_ag (pc := 221) (n := 4) d0_221 d0_222 d0_223 d0_224 d0_225 (by decide) s1 (by omega) hi hL ?_
  refine pw_ag (pc := 226) (n := 5) d0_226 d0_227 d0_228 d0_229 d0_230 (by decide) s1 (by omega) hi hL ?_
  refine pw_v (pc := 231) (k := 193) (as := [.ref 193, .int (xs (i + 1)), .int (xs (i + 2)), .int (xs (i + 3)), .int (xs (i + 4)), .int (xs (i + 5))]) (rest := [.int v]) (by omega) d0_231 (k0_17 b) (by decide) ml152 (by decide) rfl (sho s1 (by decide +kernel)) (Nat.le_of_ble_eq_true rfl) (Nat.le_of_ble_eq_true rfl) rfl rfl (T_m_feed b L xs (100 - 1) (by omega) h1 s1 193 (xs (i + 1)) (xs (i + 2)) (xs (i + 3)) (xs (i + 4)) (xs (i + 5)) (by decide +kernel) e2) (fun v0 g hq => ?_)
  obtain ⟨rfl, eg, s2⟩ := hq
  have eg : h2 = g := eg.symm
  subst eg
  show PW b L xs 100 0 0 0 (231 + 3) [.ref pm_B, .ref 0, .ref 193, .int (nI i)] [.int v, .int v] h2 Q
  exact pw_ieq (pc := 234) (t := 1114) d0_234 (by decide) (fun _ => kk h2 I2 s2) (fun z => absurd rfl z)
theorem lc_1 (b : Bool) (L : Nat) (xs : Nat → Int32) {h : pm_H} {i : Nat} {Q : Option Value → pm_H → Prop} (I : INV h) (sh : h.1 = tb_SH) (hi : i + 6 ≤ L) (hL : L ≤ 3072) (kk : ∀ h2, INV h2 → h2.1 = tb_SH → PW b L xs 100 0 0 0 1114 [.ref pm_B, .ref 0, .ref 193, .int (nI i)] [] h2 Q) : PW b L xs 100 0 0 0 239 [.ref pm_B, .ref 0, .ref 193, .int (nI i)] [] h Q := by
  have cl := cl_end I (xs (i + 1))
  obtain ⟨v, h1, h2, e1, e2, I2, q1, q2⟩ := cl
  refine pw_l (pc := 239) d0_239 rfl rfl rfl ?_
  refine pw_ag (pc := 240) (n := 1) d0_240 d0_241 d0_242 d0_243 d0_244 (by decide) sh (by omega) hi hL ?_
  refine pw_v (pc := 245) (k := 0) (as := [.ref 0, .int (xs (i + 1))]) (rest := []) (by omega) d0_245 (k0_18 b) (by decide) ml3 (by decide) rfl (sho sh (by decide +kernel)) (Nat.le_of_ble_eq_true rfl) (Nat.le_of_ble_eq_true rfl) rfl rfl (T_x_end b L xs (100 - 1) (by omega) h sh 0 (xs (i + 1)) (by decide +kernel) e1) (fun v0 g hq => ?_)
  obtain ⟨rfl, eg, s1⟩ := hq
  have eg : h1 = g := eg.symm
  subst eg
  show PW b L xs 100 0 0 0 (245 + 3) [.ref pm_B, .ref 0, .ref 193, .int (nI i)] [.int v] h1 Q
  refine pw_l (pc := 248) d0_248 rfl rfl rfl ?_
  refine pw_ag (pc := 249) (n := 1) d0_249 d0_250 d0_251 d0_252 d0_253 (by decide) s1 (by omega) hi hL ?_
  refine pw_v (pc := 254) (k := 193) (as := [.ref 193, .int (xs (i + 1))]) (rest := [.int v]) (by omega) d0_254 (k0_22 b) (by decide) ml153 (by decide) rfl (sho s1 (by decide +kernel)) (Nat.le_of_ble_eq_true rfl) (Nat.le_of_ble_eq_true rfl) rfl rfl (T_m_end b L xs (100 - 1) (by omega) h1 s1 193 (xs (i + 1)) (by decide +kernel) e2) (fun v0 g hq => ?_)
  obtain ⟨rfl, eg, s2⟩ := hq
  have eg : h2 = g := eg.symm
  subst eg
  show PW b L xs 100 0 0 0 (254 + 3) [.ref pm_B, .ref 0, .ref 193, .int (nI i)] [.int v, .int v] h2 Q
  exact pw_ieq (pc := 257) (t := 1114) d0_257 (by decide) (fun _ => kk h2 I2 s2) (fun z => absurd rfl z)
theorem lc_2 (b : Bool) (L : Nat) (xs : Nat → Int32) {h : pm_H} {i : Nat} {Q : Option Value → pm_H → Prop} (I : INV h) (sh : h.1 = tb_SH) (hi : i + 6 ≤ L) (hL : L ≤ 3072) (kk : ∀ h2, INV h2 → h2.1 = tb_SH → PW b L xs 100 0 0 0 1114 [.ref pm_B, .ref 0, .ref 193, .int (nI i)] [] h2 Q) : PW b L xs 100 0 0 0 262 [.ref pm_B, .ref 0, .ref 193, .int (nI i)] [] h Q := by
  have cl := cl_ship I
  obtain ⟨v, h1, h2, e1, e2, I2, q1, q2⟩ := cl
  refine pw_l (pc := 262) d0_262 rfl rfl rfl ?_
  refine pw_v (pc := 263) (k := 0) (as := [.ref 0]) (rest := []) (by omega) d0_263 (k0_23 b) (by decide) ml4 (by decide) rfl (sho sh (by decide +kernel)) (Nat.le_of_ble_eq_true rfl) (Nat.le_of_ble_eq_true rfl) rfl rfl (T_x_ship b L xs (100 - 1) (by omega) h sh 0 (by decide +kernel) e1) (fun v0 g hq => ?_)
  obtain ⟨rfl, eg, s1⟩ := hq
  have eg : h1 = g := eg.symm
  subst eg
  show PW b L xs 100 0 0 0 (263 + 3) [.ref pm_B, .ref 0, .ref 193, .int (nI i)] [.int v] h1 Q
  refine pw_l (pc := 266) d0_266 rfl rfl rfl ?_
  refine pw_v (pc := 267) (k := 193) (as := [.ref 193]) (rest := [.int v]) (by omega) d0_267 (k0_27 b) (by decide) ml186 (by decide) rfl (sho s1 (by decide +kernel)) (Nat.le_of_ble_eq_true rfl) (Nat.le_of_ble_eq_true rfl) rfl rfl (T_m_ship b L xs (100 - 1) (by omega) h1 s1 193 (by decide +kernel) e2) (fun v0 g hq => ?_)
  obtain ⟨rfl, eg, s2⟩ := hq
  have eg : h2 = g := eg.symm
  subst eg
  show PW b L xs 100 0 0 0 (267 + 3) [.ref pm_B, .ref 0, .ref 193, .int (nI i)] [.int v, .int v] h2 Q
  exact pw_ieq (pc := 270) (t := 1114) d0_270 (by decide) (fun _ => kk h2 I2 s2) (fun z => absurd rfl z)
theorem lc_3 (b : Bool) (L : Nat) (xs : Nat → Int32) {h : pm_H} {i : Nat} {Q : Option Value → pm_H → Prop} (I : INV h) (sh : h.1 = tb_SH) (hi : i + 6 ≤ L) (hL : L ≤ 3072) (kk : ∀ h2, INV h2 → h2.1 = tb_SH → PW b L xs 100 0 0 0 1114 [.ref pm_B, .ref 0, .ref 193, .int (nI i)] [] h2 Q) : PW b L xs 100 0 0 0 275 [.ref pm_B, .ref 0, .ref 193, .int (nI i)] [] h Q := by
  have cl := cl_rule I
  obtain ⟨v, h1, h2, e1, e2, I2, q1, q2⟩ := cl
  refine pw_l (pc := 275) d0_275 rfl rfl rfl ?_
  refine pw_v (pc := 276) (k := 0) (as := [.ref 0]) (rest := []) (by omega) d0_276 (k0_28 b) (by decide) ml5 (by decide) rfl (sho sh (by decide +kernel)) (Nat.le_of_ble_eq_true rfl) (Nat.le_of_ble_eq_true rfl) rfl rfl (T_x_rule b L xs (100 - 1) (by omega) h sh 0 (by decide +kernel) e1) (fun v0 g hq => ?_)
  obtain ⟨rfl, eg, s1⟩ := hq
  have eg : h1 = g := eg.symm
  subst eg
  show PW b L xs 100 0 0 0 (276 + 3) [.ref pm_B, .ref 0, .ref 193, .int (nI i)] [.int v] h1 Q
  refine pw_l (pc := 279) d0_279 rfl rfl rfl ?_
  refine pw_v (pc := 280) (k := 193) (as := [.ref 193]) (rest := [.int v]) (by omega) d0_280 (k0_31 b) (by decide) ml185 (by decide) rfl (sho s1 (by decide +kernel)) (Nat.le_of_ble_eq_true rfl) (Nat.le_of_ble_eq_true rfl) rfl rfl (T_m_rule b L xs (100 - 1) (by omega) h1 s1 193 (by decide +kernel) e2) (fun v0 g hq => ?_)
  obtain ⟨rfl, eg, s2⟩ := hq
  have eg : h2 = g := eg.symm
  subst eg
  show PW b L xs 100 0 0 0 (280 + 3) [.ref pm_B, .ref 0, .ref 193, .int (nI i)] [.int v, .int v] h2 Q
  exact pw_ieq (pc := 283) (t := 1114) d0_283 (by decide) (fun _ => kk h2 I2 s2) (fun z => absurd rfl z)
theorem lc_4 (b : Bool) (L : Nat) (xs : Nat → Int32) {h : pm_H} {i : Nat} {Q : Option Value → pm_H → Prop} (I : INV h) (sh : h.1 = tb_SH) (hi : i + 6 ≤ L) (hL : L ≤ 3072) (kk : ∀ h2, INV h2 → h2.1 = tb_SH → PW b L xs 100 0 0 0 1114 [.ref pm_B, .ref 0, .ref 193, .int (nI i)] [] h2 Q) : PW b L xs 100 0 0 0 288 [.ref pm_B, .ref 0, .ref 193, .int (nI i)] [] h Q := by
  have cl := cl_man I (xs (i + 1)) (xs (i + 2))
  obtain ⟨v, e1, e2⟩ := cl
  refine pw_l (pc := 288) d0_288 rfl rfl rfl ?_
  refine pw_ag (pc := 289) (n := 1) d0_289 d0_290 d0_291 d0_292 d0_293 (by decide) sh (by omega) hi hL ?_
  refine pw_ag (pc := 294) (n := 2) d0_294 d0_295 d0_296 d0_297 d0_298 (by decide) sh (by omega) hi hL ?_
  refine pw_v (pc := 299) (k := 0) (as := [.ref 0, .int (xs (i + 1)), .int (xs (i + 2))]) (rest := []) (by omega) d0_299 (k0_32 b) (by decide) ml6 (by decide) rfl (sho sh (by decide +kernel)) (Nat.le_of_ble_eq_true rfl) (Nat.le_of_ble_eq_true rfl) rfl rfl (T_x_man b L xs (100 - 1) (by omega) h sh 0 (xs (i + 1)) (xs (i + 2)) (by decide +kernel) e1) (fun v0 g hq => ?_)
  obtain ⟨rfl, rfl, _⟩ := hq
  show PW b L xs 100 0 0 0 (299 + 3) [.ref pm_B, .ref 0, .ref 193, .int (nI i)] [.int v] g Q
  refine pw_l (pc := 302) d0_302 rfl rfl rfl ?_
  refine pw_ag (pc := 303) (n := 1) d0_303 d0_304 d0_305 d0_306 d0_307 (by decide) sh (by omega) hi hL ?_
  refine pw_ag (pc := 308) (n := 2) d0_308 d0_309 d0_310 d0_311 d0_312 (by decide) sh (by omega) hi hL ?_
  refine pw_v (pc := 313) (k := 193) (as := [.ref 193, .int (xs (i + 1)), .int (xs (i + 2))]) (rest := [.int v]) (by omega) d0_313 (k0_36 b) (by decide) ml204 (by decide) rfl (sho sh (by decide +kernel)) (Nat.le_of_ble_eq_true rfl) (Nat.le_of_ble_eq_true rfl) rfl rfl (T_m_man b L xs (100 - 1) (by omega) g sh 193 (xs (i + 1)) (xs (i + 2)) (by decide +kernel) e2) (fun v0 g hq => ?_)
  obtain ⟨rfl, rfl, s2⟩ := hq
  show PW b L xs 100 0 0 0 (313 + 3) [.ref pm_B, .ref 0, .ref 193, .int (nI i)] [.int v, .int v] _ Q
  exact pw_ieq (pc := 316) (t := 1114) d0_316 (by decide) (fun _ => kk _ I s2) (fun z => absurd rfl z)
theorem lc_5 (b : Bool) (L : Nat) (xs : Nat → Int32) {h : pm_H} {i : Nat} {Q : Option Value → pm_H → Prop} (I : INV h) (sh : h.1 = tb_SH) (hi : i + 6 ≤ L) (hL : L ≤ 3072) (kk : ∀ h2, INV h2 → h2.1 = tb_SH → PW b L xs 100 0 0 0 1114 [.ref pm_B, .ref 0, .ref 193, .int (nI i)] [] h2 Q) : PW b L xs 100 0 0 0 321 [.ref pm_B, .ref 0, .ref 193, .int (nI i)] [] h Q := by
  have cl := cl_order I (xs (i + 1)) (xs (i + 2))
  obtain ⟨v, e1, e2⟩ := cl
  refine pw_l (pc := 321) d0_321 rfl rfl rfl ?_
  refine pw_ag (pc := 322) (n := 1) d0_322 d0_323 d0_324 d0_325 d0_326 (by decide) sh (by omega) hi hL ?_
  refine pw_ag (pc := 327) (n := 2) d0_327 d0_328 d0_329 d0_330 d0_331 (by decide) sh (by omega) hi hL ?_
  refine pw_v (pc := 332) (k := 0) (as := [.ref 0, .int (xs (i + 1)), .int (xs (i + 2))]) (rest := []) (by omega) d0_332 (k0_37 b) (by decide) ml7 (by decide) rfl (sho sh (by decide +kernel)) (Nat.le_of_ble_eq_true rfl) (Nat.le_of_ble_eq_true rfl) rfl rfl (T_x_order b L xs (100 - 1) (by omega) h sh 0 (xs (i + 1)) (xs (i + 2)) (by decide +kernel) e1) (fun v0 g hq => ?_)
  obtain ⟨rfl, rfl, _⟩ := hq
  show PW b L xs 100 0 0 0 (332 + 3) [.ref pm_B, .ref 0, .ref 193, .int (nI i)] [.int v] g Q
  refine pw_l (pc := 335) d0_335 rfl rfl rfl ?_
  refine pw_ag (pc := 336) (n := 1) d0_336 d0_337 d0_338 d0_339 d0_340 (by decide) sh (by omega) hi hL ?_
  refine pw_ag (pc := 341) (n := 2) d0_341 d0_342 d0_343 d0_344 d0_345 (by decide) sh (by omega) hi hL ?_
  refine pw_v (pc := 346) (k := 193) (as := [.ref 193, .int (xs (i + 1)), .int (xs (i + 2))]) (rest := [.int v]) (by omega) d0_346 (k0_40 b) (by decide) ml205 (by decide) rfl (sho sh (by decide +kernel)) (Nat.le_of_ble_eq_true rfl) (Nat.le_of_ble_eq_true rfl) rfl rfl (T_m_order b L xs (100 - 1) (by omega) g sh 193 (xs (i + 1)) (xs (i + 2)) (by decide +kernel) e2) (fun v0 g hq => ?_)
  obtain ⟨rfl, rfl, s2⟩ := hq
  show PW b L xs 100 0 0 0 (346 + 3) [.ref pm_B, .ref 0, .ref 193, .int (nI i)] [.int v, .int v] _ Q
  exact pw_ieq (pc := 349) (t := 1114) d0_349 (by decide) (fun _ => kk _ I s2) (fun z => absurd rfl z)
theorem lc_6 (b : Bool) (L : Nat) (xs : Nat → Int32) {h : pm_H} {i : Nat} {Q : Option Value → pm_H → Prop} (I : INV h) (sh : h.1 = tb_SH) (hi : i + 6 ≤ L) (hL : L ≤ 3072) (kk : ∀ h2, INV h2 → h2.1 = tb_SH → PW b L xs 100 0 0 0 1114 [.ref pm_B, .ref 0, .ref 193, .int (nI i)] [] h2 Q) : PW b L xs 100 0 0 0 354 [.ref pm_B, .ref 0, .ref 193, .int (nI i)] [] h Q := by
  have cl := cl_means I (xs (i + 1)) (xs (i + 2))
  obtain ⟨v, e1, e2⟩ := cl
  refine pw_l (pc := 354) d0_354 rfl rfl rfl ?_
  refine pw_ag (pc := 355) (n := 1) d0_355 d0_356 d0_357 d0_358 d0_359 (by decide) sh (by omega) hi hL ?_
  refine pw_ag (pc := 360) (n := 2) d0_360 d0_361 d0_362 d0_363 d0_364 (by decide) sh (by omega) hi hL ?_
  refine pw_v (pc := 365) (k := 0) (as := [.ref 0, .int (xs (i + 1)), .int (xs (i + 2))]) (rest := []) (by omega) d0_365 (k0_41 b) (by decide) ml8 (by decide) rfl (sho sh (by decide +kernel)) (Nat.le_of_ble_eq_true rfl) (Nat.le_of_ble_eq_true rfl) rfl rfl (T_x_means b L xs (100 - 1) (by omega) h sh 0 (xs (i + 1)) (xs (i + 2)) (by decide +kernel) e1) (fun v0 g hq => ?_)
  obtain ⟨rfl, rfl, _⟩ := hq
  show PW b L xs 100 0 0 0 (365 + 3) [.ref pm_B, .ref 0, .ref 193, .int (nI i)] [.int v] g Q
  refine pw_l (pc := 368) d0_368 rfl rfl rfl ?_
  refine pw_ag (pc := 369) (n := 1) d0_369 d0_370 d0_371 d0_372 d0_373 (by decide) sh (by omega) hi hL ?_
  refine pw_ag (pc := 374) (n := 2) d0_374 d0_375 d0_376 d0_377 d0_378 (by decide) sh (by omega) hi hL ?_
  refine pw_v (pc := 379) (k := 193) (as := [.ref 193, .int (xs (i + 1)), .int (xs (i + 2))]) (rest := [.int v]) (by omega) d0_379 (k0_44 b) (by decide) ml206 (by decide) rfl (sho sh (by decide +kernel)) (Nat.le_of_ble_eq_true rfl) (Nat.le_of_ble_eq_true rfl) rfl rfl (T_m_means b L xs (100 - 1) (by omega) g sh 193 (xs (i + 1)) (xs (i + 2)) (by decide +kernel) e2) (fun v0 g hq => ?_)
  obtain ⟨rfl, rfl, s2⟩ := hq
  show PW b L xs 100 0 0 0 (379 + 3) [.ref pm_B, .ref 0, .ref 193, .int (nI i)] [.int v, .int v] _ Q
  exact pw_ieq (pc := 382) (t := 1114) d0_382 (by decide) (fun _ => kk _ I s2) (fun z => absurd rfl z)
theorem lc_7 (b : Bool) (L : Nat) (xs : Nat → Int32) {h : pm_H} {i : Nat} {Q : Option Value → pm_H → Prop} (I : INV h) (sh : h.1 = tb_SH) (hi : i + 6 ≤ L) (hL : L ≤ 3072) (kk : ∀ h2, INV h2 → h2.1 = tb_SH → PW b L xs 100 0 0 0 1114 [.ref pm_B, .ref 0, .ref 193, .int (nI i)] [] h2 Q) : PW b L xs 100 0 0 0 387 [.ref pm_B, .ref 0, .ref 193, .int (nI i)] [] h Q := by
  have cl := cl_meaning I (xs (i + 1)) (xs (i + 2))
  obtain ⟨v, h1, h2, e1, e2, I2, q1, q2⟩ := cl
  refine pw_l (pc := 387) d0_387 rfl rfl rfl ?_
  refine pw_ag (pc := 388) (n := 1) d0_388 d0_389 d0_390 d0_391 d0_392 (by decide) sh (by omega) hi hL ?_
  refine pw_ag (pc := 393) (n := 2) d0_393 d0_394 d0_395 d0_396 d0_397 (by decide) sh (by omega) hi hL ?_
  refine pw_v (pc := 398) (k := 0) (as := [.ref 0, .int (xs (i + 1)), .int (xs (i + 2))]) (rest := []) (by omega) d0_398 (k0_45 b) (by decide) ml9 (by decide) rfl (sho sh (by decide +kernel)) (Nat.le_of_ble_eq_true rfl) (Nat.le_of_ble_eq_true rfl) rfl rfl (T_x_meaning b L xs (100 - 1) (by omega) h sh 0 (xs (i + 1)) (xs (i + 2)) (by decide +kernel) e1) (fun v0 g hq => ?_)
  obtain ⟨rfl, eg, s1⟩ := hq
  have eg : h1 = g := eg.symm
  subst eg
  show PW b L xs 100 0 0 0 (398 + 3) [.ref pm_B, .ref 0, .ref 193, .int (nI i)] [.int v] h1 Q
  refine pw_l (pc := 401) d0_401 rfl rfl rfl ?_
  refine pw_ag (pc := 402) (n := 1) d0_402 d0_403 d0_404 d0_405 d0_406 (by decide) s1 (by omega) hi hL ?_
  refine pw_ag (pc := 407) (n := 2) d0_407 d0_408 d0_409 d0_410 d0_411 (by decide) s1 (by omega) hi hL ?_
  refine pw_v (pc := 412) (k := 193) (as := [.ref 193, .int (xs (i + 1)), .int (xs (i + 2))]) (rest := [.int v]) (by omega) d0_412 (k0_48 b) (by decide) ml212 (by decide) rfl (sho s1 (by decide +kernel)) (Nat.le_of_ble_eq_true rfl) (Nat.le_of_ble_eq_true rfl) rfl rfl (T_m_meaning b L xs (100 - 1) (by omega) h1 s1 193 (xs (i + 1)) (xs (i + 2)) (by decide +kernel) e2) (fun v0 g hq => ?_)
  obtain ⟨rfl, eg, s2⟩ := hq
  have eg : h2 = g := eg.symm
  subst eg
  show PW b L xs 100 0 0 0 (412 + 3) [.ref pm_B, .ref 0, .ref 193, .int (nI i)] [.int v, .int v] h2 Q
  exact pw_ieq (pc := 415) (t := 1114) d0_415 (by decide) (fun _ => kk h2 I2 s2) (fun z => absurd rfl z)
theorem lc_8 (b : Bool) (L : Nat) (xs : Nat → Int32) {h : pm_H} {i : Nat} {Q : Option Value → pm_H → Prop} (I : INV h) (sh : h.1 = tb_SH) (hi : i + 6 ≤ L) (hL : L ≤ 3072) (kk : ∀ h2, INV h2 → h2.1 = tb_SH → PW b L xs 100 0 0 0 1114 [.ref pm_B, .ref 0, .ref 193, .int (nI i)] [] h2 Q) : PW b L xs 100 0 0 0 420 [.ref pm_B, .ref 0, .ref 193, .int (nI i)] [] h Q := by
  have cl := cl_say I (xs (i + 1)) (xs (i + 2))
  obtain ⟨v, h1, h2, e1, e2, I2, q1, q2⟩ := cl
  refine pw_l (pc := 420) d0_420 rfl rfl rfl ?_
  refine pw_ag (pc := 421) (n := 1) d0_421 d0_422 d0_423 d0_424 d0_425 (by decide) sh (by omega) hi hL ?_
  refine pw_ag (pc := 426) (n := 2) d0_426 d0_427 d0_428 d0_429 d0_430 (by decide) sh (by omega) hi hL ?_
  refine pw_v (pc := 431) (k := 0) (as := [.ref 0, .int (xs (i + 1)), .int (xs (i + 2))]) (rest := []) (by omega) d0_431 (k0_49 b) (by decide) ml10 (by decide) rfl (sho sh (by decide +kernel)) (Nat.le_of_ble_eq_true rfl) (Nat.le_of_ble_eq_true rfl) rfl rfl (T_x_say b L xs (100 - 1) (by omega) h sh 0 (xs (i + 1)) (xs (i + 2)) (by decide +kernel) e1) (fun v0 g hq => ?_)
  obtain ⟨rfl, eg, s1⟩ := hq
  have eg : h1 = g := eg.symm
  subst eg
  show PW b L xs 100 0 0 0 (431 + 3) [.ref pm_B, .ref 0, .ref 193, .int (nI i)] [.int v] h1 Q
  refine pw_l (pc := 434) d0_434 rfl rfl rfl ?_
  refine pw_ag (pc := 435) (n := 1) d0_435 d0_436 d0_437 d0_438 d0_439 (by decide) s1 (by omega) hi hL ?_
  refine pw_ag (pc := 440) (n := 2) d0_440 d0_441 d0_442 d0_443 d0_444 (by decide) s1 (by omega) hi hL ?_
  refine pw_v (pc := 445) (k := 193) (as := [.ref 193, .int (xs (i + 1)), .int (xs (i + 2))]) (rest := [.int v]) (by omega) d0_445 (k0_52 b) (by decide) ml226 (by decide) rfl (sho s1 (by decide +kernel)) (Nat.le_of_ble_eq_true rfl) (Nat.le_of_ble_eq_true rfl) rfl rfl (T_m_say b L xs (100 - 1) (by omega) h1 s1 193 (xs (i + 1)) (xs (i + 2)) (by decide +kernel) e2) (fun v0 g hq => ?_)
  obtain ⟨rfl, eg, s2⟩ := hq
  have eg : h2 = g := eg.symm
  subst eg
  show PW b L xs 100 0 0 0 (445 + 3) [.ref pm_B, .ref 0, .ref 193, .int (nI i)] [.int v, .int v] h2 Q
  exact pw_ieq (pc := 448) (t := 1114) d0_448 (by decide) (fun _ => kk h2 I2 s2) (fun z => absurd rfl z)
theorem lc_9 (b : Bool) (L : Nat) (xs : Nat → Int32) {h : pm_H} {i : Nat} {Q : Option Value → pm_H → Prop} (I : INV h) (sh : h.1 = tb_SH) (hi : i + 6 ≤ L) (hL : L ≤ 3072) (kk : ∀ h2, INV h2 → h2.1 = tb_SH → PW b L xs 100 0 0 0 1114 [.ref pm_B, .ref 0, .ref 193, .int (nI i)] [] h2 Q) : PW b L xs 100 0 0 0 453 [.ref pm_B, .ref 0, .ref 193, .int (nI i)] [] h Q := by
  have cl := cl_hour I
  obtain ⟨v, h1, h2, e1, e2, I2, q1, q2⟩ := cl
  refine pw_l (pc := 453) d0_453 rfl rfl rfl ?_
  refine pw_v (pc := 454) (k := 0) (as := [.ref 0]) (rest := []) (by omega) d0_454 (k0_53 b) (by decide) ml11 (by decide) rfl (sho sh (by decide +kernel)) (Nat.le_of_ble_eq_true rfl) (Nat.le_of_ble_eq_true rfl) rfl rfl (T_x_hour b L xs (100 - 1) (by omega) h sh 0 (by decide +kernel) e1) (fun v0 g hq => ?_)
  obtain ⟨rfl, eg, s1⟩ := hq
  have eg : h1 = g := eg.symm
  subst eg
  show PW b L xs 100 0 0 0 (454 + 3) [.ref pm_B, .ref 0, .ref 193, .int (nI i)] [.int v] h1 Q
  refine pw_l (pc := 457) d0_457 rfl rfl rfl ?_
  refine pw_v (pc := 458) (k := 193) (as := [.ref 193]) (rest := [.int v]) (by omega) d0_458 (k0_56 b) (by decide) ml228 (by decide) rfl (sho s1 (by decide +kernel)) (Nat.le_of_ble_eq_true rfl) (Nat.le_of_ble_eq_true rfl) rfl rfl (T_m_hour b L xs (100 - 1) (by omega) h1 s1 193 (by decide +kernel) e2) (fun v0 g hq => ?_)
  obtain ⟨rfl, eg, s2⟩ := hq
  have eg : h2 = g := eg.symm
  subst eg
  show PW b L xs 100 0 0 0 (458 + 3) [.ref pm_B, .ref 0, .ref 193, .int (nI i)] [.int v, .int v] h2 Q
  exact pw_ieq (pc := 461) (t := 1114) d0_461 (by decide) (fun _ => kk h2 I2 s2) (fun z => absurd rfl z)
theorem lc_10 (b : Bool) (L : Nat) (xs : Nat → Int32) {h : pm_H} {i : Nat} {Q : Option Value → pm_H → Prop} (I : INV h) (sh : h.1 = tb_SH) (hi : i + 6 ≤ L) (hL : L ≤ 3072) (kk : ∀ h2, INV h2 → h2.1 = tb_SH → PW b L xs 100 0 0 0 1114 [.ref pm_B, .ref 0, .ref 193, .int (nI i)] [] h2 Q) : PW b L xs 100 0 0 0 466 [.ref pm_B, .ref 0, .ref 193, .int (nI i)] [] h Q := by
  obtain ⟨z, hz⟩ : ∃ z : Bool, (xs (i + 2) = 0 ↔ z = false) := ⟨decide (¬ xs (i + 2) = 0), by simp⟩
  have cl := cl_wake I (xs (i + 1)) z
  obtain ⟨v, h1, h2, e1, e2, I2, q1, q2⟩ := cl
  refine pw_l (pc := 466) d0_466 rfl rfl rfl ?_
  refine pw_ag (pc := 467) (n := 1) d0_467 d0_468 d0_469 d0_470 d0_471 (by decide) sh (by omega) hi hL ?_
  refine pw_ag (pc := 472) (n := 2) d0_472 d0_473 d0_474 d0_475 d0_476 (by decide) sh (by omega) hi hL ?_
  refine pw_bz (z := z) (pc := 477) d0_477 (by decide) d0_480 d0_481 (by decide) d0_484 hz ?_
  refine pw_v (pc := 485) (k := 0) (as := [.ref 0, .int (xs (i + 1)), .int (nI z.toNat)]) (rest := []) (by omega) d0_485 (k0_57 b) (by decide) ml12 (by decide) rfl (sho sh (by decide +kernel)) (Nat.le_of_ble_eq_true rfl) (Nat.le_of_ble_eq_true rfl) rfl rfl (T_x_wake b L xs (100 - 1) (by omega) h sh 0 (xs (i + 1)) (nI z.toNat) (by decide +kernel) e1) (fun v0 g hq => ?_)
  obtain ⟨rfl, eg, s1⟩ := hq
  have eg : h1 = g := eg.symm
  subst eg
  show PW b L xs 100 0 0 0 (485 + 3) [.ref pm_B, .ref 0, .ref 193, .int (nI i)] [.int v] h1 Q
  refine pw_l (pc := 488) d0_488 rfl rfl rfl ?_
  refine pw_ag (pc := 489) (n := 1) d0_489 d0_490 d0_491 d0_492 d0_493 (by decide) s1 (by omega) hi hL ?_
  refine pw_ag (pc := 494) (n := 2) d0_494 d0_495 d0_496 d0_497 d0_498 (by decide) s1 (by omega) hi hL ?_
  refine pw_bz (z := z) (pc := 499) d0_499 (by decide) d0_502 d0_503 (by decide) d0_506 hz ?_
  refine pw_v (pc := 507) (k := 193) (as := [.ref 193, .int (xs (i + 1)), .int (nI z.toNat)]) (rest := [.int v]) (by omega) d0_507 (k0_61 b) (by decide) ml229 (by decide) rfl (sho s1 (by decide +kernel)) (Nat.le_of_ble_eq_true rfl) (Nat.le_of_ble_eq_true rfl) rfl rfl (T_m_wake b L xs (100 - 1) (by omega) h1 s1 193 (xs (i + 1)) (nI z.toNat) (by decide +kernel) e2) (fun v0 g hq => ?_)
  obtain ⟨rfl, eg, s2⟩ := hq
  have eg : h2 = g := eg.symm
  subst eg
  show PW b L xs 100 0 0 0 (507 + 3) [.ref pm_B, .ref 0, .ref 193, .int (nI i)] [.int v, .int v] h2 Q
  exact pw_ieq (pc := 510) (t := 1114) d0_510 (by decide) (fun _ => kk h2 I2 s2) (fun z => absurd rfl z)
theorem lc_11 (b : Bool) (L : Nat) (xs : Nat → Int32) {h : pm_H} {i : Nat} {Q : Option Value → pm_H → Prop} (I : INV h) (sh : h.1 = tb_SH) (hi : i + 6 ≤ L) (hL : L ≤ 3072) (kk : ∀ h2, INV h2 → h2.1 = tb_SH → PW b L xs 100 0 0 0 1114 [.ref pm_B, .ref 0, .ref 193, .int (nI i)] [] h2 Q) : PW b L xs 100 0 0 0 515 [.ref pm_B, .ref 0, .ref 193, .int (nI i)] [] h Q := by
  have cl := cl_sicken I (xs (i + 1)) (xs (i + 2))
  obtain ⟨v, h1, h2, e1, e2, I2, q1, q2⟩ := cl
  refine pw_l (pc := 515) d0_515 rfl rfl rfl ?_
  refine pw_ag (pc := 516) (n := 1) d0_516 d0_517 d0_518 d0_519 d0_520 (by decide) sh (by omega) hi hL ?_
  refine pw_ag (pc := 521) (n := 2) d0_521 d0_522 d0_523 d0_524 d0_525 (by decide) sh (by omega) hi hL ?_
  refine pw_v (pc := 526) (k := 0) (as := [.ref 0, .int (xs (i + 1)), .int (xs (i + 2))]) (rest := []) (by omega) d0_526 (k0_62 b) (by decide) ml13 (by decide) rfl (sho sh (by decide +kernel)) (Nat.le_of_ble_eq_true rfl) (Nat.le_of_ble_eq_true rfl) rfl rfl (T_x_sicken b L xs (100 - 1) (by omega) h sh 0 (xs (i + 1)) (xs (i + 2)) (by decide +kernel) e1) (fun v0 g hq => ?_)
  obtain ⟨rfl, eg, s1⟩ := hq
  have eg : h1 = g := eg.symm
  subst eg
  show PW b L xs 100 0 0 0 (526 + 3) [.ref pm_B, .ref 0, .ref 193, .int (nI i)] [.int v] h1 Q
  refine pw_l (pc := 529) d0_529 rfl rfl rfl ?_
  refine pw_ag (pc := 530) (n := 1) d0_530 d0_531 d0_532 d0_533 d0_534 (by decide) s1 (by omega) hi hL ?_
  refine pw_ag (pc := 535) (n := 2) d0_535 d0_536 d0_537 d0_538 d0_539 (by decide) s1 (by omega) hi hL ?_
  refine pw_v (pc := 540) (k := 193) (as := [.ref 193, .int (xs (i + 1)), .int (xs (i + 2))]) (rest := [.int v]) (by omega) d0_540 (k0_65 b) (by decide) ml230 (by decide) rfl (sho s1 (by decide +kernel)) (Nat.le_of_ble_eq_true rfl) (Nat.le_of_ble_eq_true rfl) rfl rfl (T_m_sicken b L xs (100 - 1) (by omega) h1 s1 193 (xs (i + 1)) (xs (i + 2)) (by decide +kernel) e2) (fun v0 g hq => ?_)
  obtain ⟨rfl, eg, s2⟩ := hq
  have eg : h2 = g := eg.symm
  subst eg
  show PW b L xs 100 0 0 0 (540 + 3) [.ref pm_B, .ref 0, .ref 193, .int (nI i)] [.int v, .int v] h2 Q
  exact pw_ieq (pc := 543) (t := 1114) d0_543 (by decide) (fun _ => kk h2 I2 s2) (fun z => absurd rfl z)
theorem lc_12 (b : Bool) (L : Nat) (xs : Nat → Int32) {h : pm_H} {i : Nat} {Q : Option Value → pm_H → Prop} (I : INV h) (sh : h.1 = tb_SH) (hi : i + 6 ≤ L) (hL : L ≤ 3072) (kk : ∀ h2, INV h2 → h2.1 = tb_SH → PW b L xs 100 0 0 0 1114 [.ref pm_B, .ref 0, .ref 193, .int (nI i)] [] h2 Q) : PW b L xs 100 0 0 0 548 [.ref pm_B, .ref 0, .ref 193, .int (nI i)] [] h Q := by
  have cl := cl_die I (xs (i + 1))
  obtain ⟨v, h1, h2, e1, e2, I2, q1, q2⟩ := cl
  refine pw_l (pc := 548) d0_548 rfl rfl rfl ?_
  refine pw_ag (pc := 549) (n := 1) d0_549 d0_550 d0_551 d0_552 d0_553 (by decide) sh (by omega) hi hL ?_
  refine pw_v (pc := 554) (k := 0) (as := [.ref 0, .int (xs (i + 1))]) (rest := []) (by omega) d0_554 (k0_66 b) (by decide) ml14 (by decide) rfl (sho sh (by decide +kernel)) (Nat.le_of_ble_eq_true rfl) (Nat.le_of_ble_eq_true rfl) rfl rfl (T_x_die b L xs (100 - 1) (by omega) h sh 0 (xs (i + 1)) (by decide +kernel) e1) (fun v0 g hq => ?_)
  obtain ⟨rfl, eg, s1⟩ := hq
  have eg : h1 = g := eg.symm
  subst eg
  show PW b L xs 100 0 0 0 (554 + 3) [.ref pm_B, .ref 0, .ref 193, .int (nI i)] [.int v] h1 Q
  refine pw_l (pc := 557) d0_557 rfl rfl rfl ?_
  refine pw_ag (pc := 558) (n := 1) d0_558 d0_559 d0_560 d0_561 d0_562 (by decide) s1 (by omega) hi hL ?_
  refine pw_v (pc := 563) (k := 193) (as := [.ref 193, .int (xs (i + 1))]) (rest := [.int v]) (by omega) d0_563 (k0_69 b) (by decide) ml231 (by decide) rfl (sho s1 (by decide +kernel)) (Nat.le_of_ble_eq_true rfl) (Nat.le_of_ble_eq_true rfl) rfl rfl (T_m_die b L xs (100 - 1) (by omega) h1 s1 193 (xs (i + 1)) (by decide +kernel) e2) (fun v0 g hq => ?_)
  obtain ⟨rfl, eg, s2⟩ := hq
  have eg : h2 = g := eg.symm
  subst eg
  show PW b L xs 100 0 0 0 (563 + 3) [.ref pm_B, .ref 0, .ref 193, .int (nI i)] [.int v, .int v] h2 Q
  exact pw_ieq (pc := 566) (t := 1114) d0_566 (by decide) (fun _ => kk h2 I2 s2) (fun z => absurd rfl z)
theorem lc_13 (b : Bool) (L : Nat) (xs : Nat → Int32) {h : pm_H} {i : Nat} {Q : Option Value → pm_H → Prop} (I : INV h) (sh : h.1 = tb_SH) (hi : i + 6 ≤ L) (hL : L ≤ 3072) (kk : ∀ h2, INV h2 → h2.1 = tb_SH → PW b L xs 100 0 0 0 1114 [.ref pm_B, .ref 0, .ref 193, .int (nI i)] [] h2 Q) : PW b L xs 100 0 0 0 571 [.ref pm_B, .ref 0, .ref 193, .int (nI i)] [] h Q := by
  have cl := cl_teach I (xs (i + 1))
  obtain ⟨v, h1, h2, e1, e2, I2, q1, q2⟩ := cl
  refine pw_l (pc := 571) d0_571 rfl rfl rfl ?_
  refine pw_ag (pc := 572) (n := 1) d0_572 d0_573 d0_574 d0_575 d0_576 (by decide) sh (by omega) hi hL ?_
  refine pw_v (pc := 577) (k := 0) (as := [.ref 0, .int (xs (i + 1))]) (rest := []) (by omega) d0_577 (k0_70 b) (by decide) ml15 (by decide) rfl (sho sh (by decide +kernel)) (Nat.le_of_ble_eq_true rfl) (Nat.le_of_ble_eq_true rfl) rfl rfl (T_x_teach b L xs (100 - 1) (by omega) h sh 0 (xs (i + 1)) (by decide +kernel) e1) (fun v0 g hq => ?_)
  obtain ⟨rfl, eg, s1⟩ := hq
  have eg : h1 = g := eg.symm
  subst eg
  show PW b L xs 100 0 0 0 (577 + 3) [.ref pm_B, .ref 0, .ref 193, .int (nI i)] [.int v] h1 Q
  refine pw_l (pc := 580) d0_580 rfl rfl rfl ?_
  refine pw_ag (pc := 581) (n := 1) d0_581 d0_582 d0_583 d0_584 d0_585 (by decide) s1 (by omega) hi hL ?_
  refine pw_v (pc := 586) (k := 193) (as := [.ref 193, .int (xs (i + 1))]) (rest := [.int v]) (by omega) d0_586 (k0_73 b) (by decide) ml232 (by decide) rfl (sho s1 (by decide +kernel)) (Nat.le_of_ble_eq_true rfl) (Nat.le_of_ble_eq_true rfl) rfl rfl (T_m_teach b L xs (100 - 1) (by omega) h1 s1 193 (xs (i + 1)) (by decide +kernel) e2) (fun v0 g hq => ?_)
  obtain ⟨rfl, eg, s2⟩ := hq
  have eg : h2 = g := eg.symm
  subst eg
  show PW b L xs 100 0 0 0 (586 + 3) [.ref pm_B, .ref 0, .ref 193, .int (nI i)] [.int v, .int v] h2 Q
  exact pw_ieq (pc := 589) (t := 1114) d0_589 (by decide) (fun _ => kk h2 I2 s2) (fun z => absurd rfl z)
theorem lc_14 (b : Bool) (L : Nat) (xs : Nat → Int32) {h : pm_H} {i : Nat} {Q : Option Value → pm_H → Prop} (I : INV h) (sh : h.1 = tb_SH) (hi : i + 6 ≤ L) (hL : L ≤ 3072) (kk : ∀ h2, INV h2 → h2.1 = tb_SH → PW b L xs 100 0 0 0 1114 [.ref pm_B, .ref 0, .ref 193, .int (nI i)] [] h2 Q) : PW b L xs 100 0 0 0 594 [.ref pm_B, .ref 0, .ref 193, .int (nI i)] [] h Q := by
  have cl := cl_turn I (xs (i + 1))
  obtain ⟨v, h1, h2, e1, e2, I2, q1, q2⟩ := cl
  refine pw_l (pc := 594) d0_594 rfl rfl rfl ?_
  refine pw_ag (pc := 595) (n := 1) d0_595 d0_596 d0_597 d0_598 d0_599 (by decide) sh (by omega) hi hL ?_
  refine pw_v (pc := 600) (k := 0) (as := [.ref 0, .int (xs (i + 1))]) (rest := []) (by omega) d0_600 (k0_74 b) (by decide) ml16 (by decide) rfl (sho sh (by decide +kernel)) (Nat.le_of_ble_eq_true rfl) (Nat.le_of_ble_eq_true rfl) rfl rfl (T_x_turn b L xs (100 - 1) (by omega) h sh 0 (xs (i + 1)) (by decide +kernel) e1) (fun v0 g hq => ?_)
  obtain ⟨rfl, eg, s1⟩ := hq
  have eg : h1 = g := eg.symm
  subst eg
  show PW b L xs 100 0 0 0 (600 + 3) [.ref pm_B, .ref 0, .ref 193, .int (nI i)] [.int v] h1 Q
  refine pw_l (pc := 603) d0_603 rfl rfl rfl ?_
  refine pw_ag (pc := 604) (n := 1) d0_604 d0_605 d0_606 d0_607 d0_608 (by decide) s1 (by omega) hi hL ?_
  refine pw_v (pc := 609) (k := 193) (as := [.ref 193, .int (xs (i + 1))]) (rest := [.int v]) (by omega) d0_609 (k0_77 b) (by decide) ml233 (by decide) rfl (sho s1 (by decide +kernel)) (Nat.le_of_ble_eq_true rfl) (Nat.le_of_ble_eq_true rfl) rfl rfl (T_m_turn b L xs (100 - 1) (by omega) h1 s1 193 (xs (i + 1)) (by decide +kernel) e2) (fun v0 g hq => ?_)
  obtain ⟨rfl, eg, s2⟩ := hq
  have eg : h2 = g := eg.symm
  subst eg
  show PW b L xs 100 0 0 0 (609 + 3) [.ref pm_B, .ref 0, .ref 193, .int (nI i)] [.int v, .int v] h2 Q
  exact pw_ieq (pc := 612) (t := 1114) d0_612 (by decide) (fun _ => kk h2 I2 s2) (fun z => absurd rfl z)
theorem lc_15 (b : Bool) (L : Nat) (xs : Nat → Int32) {h : pm_H} {i : Nat} {Q : Option Value → pm_H → Prop} (I : INV h) (sh : h.1 = tb_SH) (hi : i + 6 ≤ L) (hL : L ≤ 3072) (kk : ∀ h2, INV h2 → h2.1 = tb_SH → PW b L xs 100 0 0 0 1114 [.ref pm_B, .ref 0, .ref 193, .int (nI i)] [] h2 Q) : PW b L xs 100 0 0 0 617 [.ref pm_B, .ref 0, .ref 193, .int (nI i)] [] h Q := by
  have cl := cl_undo I
  obtain ⟨v, h1, h2, e1, e2, I2, q1, q2⟩ := cl
  refine pw_l (pc := 617) d0_617 rfl rfl rfl ?_
  refine pw_v (pc := 618) (k := 0) (as := [.ref 0]) (rest := []) (by omega) d0_618 (k0_78 b) (by decide) ml17 (by decide) rfl (sho sh (by decide +kernel)) (Nat.le_of_ble_eq_true rfl) (Nat.le_of_ble_eq_true rfl) rfl rfl (T_x_undo b L xs (100 - 1) (by omega) h sh 0 (by decide +kernel) e1) (fun v0 g hq => ?_)
  obtain ⟨rfl, eg, s1⟩ := hq
  have eg : h1 = g := eg.symm
  subst eg
  show PW b L xs 100 0 0 0 (618 + 3) [.ref pm_B, .ref 0, .ref 193, .int (nI i)] [.int v] h1 Q
  refine pw_l (pc := 621) d0_621 rfl rfl rfl ?_
  refine pw_v (pc := 622) (k := 193) (as := [.ref 193]) (rest := [.int v]) (by omega) d0_622 (k0_81 b) (by decide) ml225 (by decide) rfl (sho s1 (by decide +kernel)) (Nat.le_of_ble_eq_true rfl) (Nat.le_of_ble_eq_true rfl) rfl rfl (T_m_undo b L xs (100 - 1) (by omega) h1 s1 193 (by decide +kernel) e2) (fun v0 g hq => ?_)
  obtain ⟨rfl, eg, s2⟩ := hq
  have eg : h2 = g := eg.symm
  subst eg
  show PW b L xs 100 0 0 0 (622 + 3) [.ref pm_B, .ref 0, .ref 193, .int (nI i)] [.int v, .int v] h2 Q
  exact pw_ieq (pc := 625) (t := 1114) d0_625 (by decide) (fun _ => kk h2 I2 s2) (fun z => absurd rfl z)
theorem lc_16 (b : Bool) (L : Nat) (xs : Nat → Int32) {h : pm_H} {i : Nat} {Q : Option Value → pm_H → Prop} (I : INV h) (sh : h.1 = tb_SH) (hi : i + 6 ≤ L) (hL : L ≤ 3072) (kk : ∀ h2, INV h2 → h2.1 = tb_SH → PW b L xs 100 0 0 0 1114 [.ref pm_B, .ref 0, .ref 193, .int (nI i)] [] h2 Q) : PW b L xs 100 0 0 0 630 [.ref pm_B, .ref 0, .ref 193, .int (nI i)] [] h Q := by
  have cl := cl_run I (xs (i + 1)) (xs (i + 2))
  obtain ⟨v, h1, h2, e1, e2, I2, q1, q2⟩ := cl
  refine pw_l (pc := 630) d0_630 rfl rfl rfl ?_
  refine pw_ag (pc := 631) (n := 1) d0_631 d0_632 d0_633 d0_634 d0_635 (by decide) sh (by omega) hi hL ?_
  refine pw_ag (pc := 636) (n := 2) d0_636 d0_637 d0_638 d0_639 d0_640 (by decide) sh (by omega) hi hL ?_
  refine pw_v (pc := 641) (k := 0) (as := [.ref 0, .int (xs (i + 1)), .int (xs (i + 2))]) (rest := []) (by omega) d0_641 (k0_82 b) (by decide) ml18 (by decide) rfl (sho sh (by decide +kernel)) (Nat.le_of_ble_eq_true rfl) (Nat.le_of_ble_eq_true rfl) rfl rfl (T_x_run b L xs (100 - 1) (by omega) h sh 0 (xs (i + 1)) (xs (i + 2)) (by decide +kernel) e1) (fun v0 g hq => ?_)
  obtain ⟨rfl, eg, s1⟩ := hq
  have eg : h1 = g := eg.symm
  subst eg
  show PW b L xs 100 0 0 0 (641 + 3) [.ref pm_B, .ref 0, .ref 193, .int (nI i)] [.int v] h1 Q
  refine pw_l (pc := 644) d0_644 rfl rfl rfl ?_
  refine pw_ag (pc := 645) (n := 1) d0_645 d0_646 d0_647 d0_648 d0_649 (by decide) s1 (by omega) hi hL ?_
  refine pw_ag (pc := 650) (n := 2) d0_650 d0_651 d0_652 d0_653 d0_654 (by decide) s1 (by omega) hi hL ?_
  refine pw_v (pc := 655) (k := 193) (as := [.ref 193, .int (xs (i + 1)), .int (xs (i + 2))]) (rest := [.int v]) (by omega) d0_655 (k0_85 b) (by decide) ml237 (by decide) rfl (sho s1 (by decide +kernel)) (Nat.le_of_ble_eq_true rfl) (Nat.le_of_ble_eq_true rfl) rfl rfl (T_m_run b L xs (100 - 1) (by omega) h1 s1 193 (xs (i + 1)) (xs (i + 2)) (by decide +kernel) e2) (fun v0 g hq => ?_)
  obtain ⟨rfl, eg, s2⟩ := hq
  have eg : h2 = g := eg.symm
  subst eg
  show PW b L xs 100 0 0 0 (655 + 3) [.ref pm_B, .ref 0, .ref 193, .int (nI i)] [.int v, .int v] h2 Q
  exact pw_ieq (pc := 658) (t := 1114) d0_658 (by decide) (fun _ => kk h2 I2 s2) (fun z => absurd rfl z)
theorem lc_17 (b : Bool) (L : Nat) (xs : Nat → Int32) {h : pm_H} {i : Nat} {Q : Option Value → pm_H → Prop} (I : INV h) (sh : h.1 = tb_SH) (hi : i + 6 ≤ L) (hL : L ≤ 3072) (kk : ∀ h2, INV h2 → h2.1 = tb_SH → PW b L xs 100 0 0 0 1114 [.ref pm_B, .ref 0, .ref 193, .int (nI i)] [] h2 Q) : PW b L xs 100 0 0 0 663 [.ref pm_B, .ref 0, .ref 193, .int (nI i)] [] h Q := by
  have cl := cl_sayable I
  obtain ⟨v, h1, h2, e1, e2, I2, q1, q2⟩ := cl
  refine pw_l (pc := 663) d0_663 rfl rfl rfl ?_
  refine pw_v (pc := 664) (k := 0) (as := [.ref 0]) (rest := []) (by omega) d0_664 (k0_86 b) (by decide) ml19 (by decide) rfl (sho sh (by decide +kernel)) (Nat.le_of_ble_eq_true rfl) (Nat.le_of_ble_eq_true rfl) rfl rfl (T_x_sayable b L xs (100 - 1) (by omega) h sh 0 (by decide +kernel) e1) (fun v0 g hq => ?_)
  obtain ⟨rfl, eg, s1⟩ := hq
  have eg : h1 = g := eg.symm
  subst eg
  show PW b L xs 100 0 0 0 (664 + 3) [.ref pm_B, .ref 0, .ref 193, .int (nI i)] [.int v] h1 Q
  refine pw_l (pc := 667) d0_667 rfl rfl rfl ?_
  refine pw_v (pc := 668) (k := 193) (as := [.ref 193]) (rest := [.int v]) (by omega) d0_668 (k0_89 b) (by decide) ml238 (by decide) rfl (sho s1 (by decide +kernel)) (Nat.le_of_ble_eq_true rfl) (Nat.le_of_ble_eq_true rfl) rfl rfl (T_m_sayable b L xs (100 - 1) (by omega) h1 s1 193 (by decide +kernel) e2) (fun v0 g hq => ?_)
  obtain ⟨rfl, eg, s2⟩ := hq
  have eg : h2 = g := eg.symm
  subst eg
  show PW b L xs 100 0 0 0 (668 + 3) [.ref pm_B, .ref 0, .ref 193, .int (nI i)] [.int v, .int v] h2 Q
  exact pw_ieq (pc := 671) (t := 1114) d0_671 (by decide) (fun _ => kk h2 I2 s2) (fun z => absurd rfl z)
theorem lc_18 (b : Bool) (L : Nat) (xs : Nat → Int32) {h : pm_H} {i : Nat} {Q : Option Value → pm_H → Prop} (I : INV h) (sh : h.1 = tb_SH) (hi : i + 6 ≤ L) (hL : L ≤ 3072) (kk : ∀ h2, INV h2 → h2.1 = tb_SH → PW b L xs 100 0 0 0 1114 [.ref pm_B, .ref 0, .ref 193, .int (nI i)] [] h2 Q) : PW b L xs 100 0 0 0 676 [.ref pm_B, .ref 0, .ref 193, .int (nI i)] [] h Q := by
  have cl := cl_shortest I (xs (i + 1)) (xs (i + 2))
  obtain ⟨v, h1, h2, e1, e2, I2, q1, q2⟩ := cl
  refine pw_l (pc := 676) d0_676 rfl rfl rfl ?_
  refine pw_ag (pc := 677) (n := 1) d0_677 d0_678 d0_679 d0_680 d0_681 (by decide) sh (by omega) hi hL ?_
  refine pw_ag (pc := 682) (n := 2) d0_682 d0_683 d0_684 d0_685 d0_686 (by decide) sh (by omega) hi hL ?_
  refine pw_v (pc := 687) (k := 0) (as := [.ref 0, .int (xs (i + 1)), .int (xs (i + 2))]) (rest := []) (by omega) d0_687 (k0_90 b) (by decide) ml20 (by decide) rfl (sho sh (by decide +kernel)) (Nat.le_of_ble_eq_true rfl) (Nat.le_of_ble_eq_true rfl) rfl rfl (T_x_shortest b L xs (100 - 1) (by omega) h sh 0 (xs (i + 1)) (xs (i + 2)) (by decide +kernel) e1) (fun v0 g hq => ?_)
  obtain ⟨rfl, eg, s1⟩ := hq
  have eg : h1 = g := eg.symm
  subst eg
  show PW b L xs 100 0 0 0 (687 + 3) [.ref pm_B, .ref 0, .ref 193, .int (nI i)] [.int v] h1 Q
  refine pw_l (pc := 690) d0_690 rfl rfl rfl ?_
  refine pw_ag (pc := 691) (n := 1) d0_691 d0_692 d0_693 d0_694 d0_695 (by decide) s1 (by omega) hi hL ?_
  refine pw_ag (pc := 696) (n := 2) d0_696 d0_697 d0_698 d0_699 d0_700 (by decide) s1 (by omega) hi hL ?_
  refine pw_v (pc := 701) (k := 193) (as := [.ref 193, .int (xs (i + 1)), .int (xs (i + 2))]) (rest := [.int v]) (by omega) d0_701 (k0_93 b) (by decide) ml239 (by decide) rfl (sho s1 (by decide +kernel)) (Nat.le_of_ble_eq_true rfl) (Nat.le_of_ble_eq_true rfl) rfl rfl (T_m_shortest b L xs (100 - 1) (by omega) h1 s1 193 (xs (i + 1)) (xs (i + 2)) (by decide +kernel) e2) (fun v0 g hq => ?_)
  obtain ⟨rfl, eg, s2⟩ := hq
  have eg : h2 = g := eg.symm
  subst eg
  show PW b L xs 100 0 0 0 (701 + 3) [.ref pm_B, .ref 0, .ref 193, .int (nI i)] [.int v, .int v] h2 Q
  exact pw_ieq (pc := 704) (t := 1114) d0_704 (by decide) (fun _ => kk h2 I2 s2) (fun z => absurd rfl z)
theorem lc_19 (b : Bool) (L : Nat) (xs : Nat → Int32) {h : pm_H} {i : Nat} {Q : Option Value → pm_H → Prop} (I : INV h) (sh : h.1 = tb_SH) (hi : i + 6 ≤ L) (hL : L ≤ 3072) (kk : ∀ h2, INV h2 → h2.1 = tb_SH → PW b L xs 100 0 0 0 1114 [.ref pm_B, .ref 0, .ref 193, .int (nI i)] [] h2 Q) : PW b L xs 100 0 0 0 709 [.ref pm_B, .ref 0, .ref 193, .int (nI i)] [] h Q := by
  have cl := cl_fewest I (xs (i + 1)) (xs (i + 2))
  obtain ⟨v, h1, h2, e1, e2, I2, q1, q2⟩ := cl
  refine pw_l (pc := 709) d0_709 rfl rfl rfl ?_
  refine pw_ag (pc := 710) (n := 1) d0_710 d0_711 d0_712 d0_713 d0_714 (by decide) sh (by omega) hi hL ?_
  refine pw_ag (pc := 715) (n := 2) d0_715 d0_716 d0_717 d0_718 d0_719 (by decide) sh (by omega) hi hL ?_
  refine pw_v (pc := 720) (k := 0) (as := [.ref 0, .int (xs (i + 1)), .int (xs (i + 2))]) (rest := []) (by omega) d0_720 (k0_94 b) (by decide) ml21 (by decide) rfl (sho sh (by decide +kernel)) (Nat.le_of_ble_eq_true rfl) (Nat.le_of_ble_eq_true rfl) rfl rfl (T_x_fewest b L xs (100 - 1) (by omega) h sh 0 (xs (i + 1)) (xs (i + 2)) (by decide +kernel) e1) (fun v0 g hq => ?_)
  obtain ⟨rfl, eg, s1⟩ := hq
  have eg : h1 = g := eg.symm
  subst eg
  show PW b L xs 100 0 0 0 (720 + 3) [.ref pm_B, .ref 0, .ref 193, .int (nI i)] [.int v] h1 Q
  refine pw_l (pc := 723) d0_723 rfl rfl rfl ?_
  refine pw_ag (pc := 724) (n := 1) d0_724 d0_725 d0_726 d0_727 d0_728 (by decide) s1 (by omega) hi hL ?_
  refine pw_ag (pc := 729) (n := 2) d0_729 d0_730 d0_731 d0_732 d0_733 (by decide) s1 (by omega) hi hL ?_
  refine pw_v (pc := 734) (k := 193) (as := [.ref 193, .int (xs (i + 1)), .int (xs (i + 2))]) (rest := [.int v]) (by omega) d0_734 (k0_97 b) (by decide) ml240 (by decide) rfl (sho s1 (by decide +kernel)) (Nat.le_of_ble_eq_true rfl) (Nat.le_of_ble_eq_true rfl) rfl rfl (T_m_fewest b L xs (100 - 1) (by omega) h1 s1 193 (xs (i + 1)) (xs (i + 2)) (by decide +kernel) e2) (fun v0 g hq => ?_)
  obtain ⟨rfl, eg, s2⟩ := hq
  have eg : h2 = g := eg.symm
  subst eg
  show PW b L xs 100 0 0 0 (734 + 3) [.ref pm_B, .ref 0, .ref 193, .int (nI i)] [.int v, .int v] h2 Q
  exact pw_ieq (pc := 737) (t := 1114) d0_737 (by decide) (fun _ => kk h2 I2 s2) (fun z => absurd rfl z)
theorem lc_20 (b : Bool) (L : Nat) (xs : Nat → Int32) {h : pm_H} {i : Nat} {Q : Option Value → pm_H → Prop} (I : INV h) (sh : h.1 = tb_SH) (hi : i + 6 ≤ L) (hL : L ≤ 3072) (kk : ∀ h2, INV h2 → h2.1 = tb_SH → PW b L xs 100 0 0 0 1114 [.ref pm_B, .ref 0, .ref 193, .int (nI i)] [] h2 Q) : PW b L xs 100 0 0 0 742 [.ref pm_B, .ref 0, .ref 193, .int (nI i)] [] h Q := by
  have cl := cl_watches I (xs (i + 1)) (xs (i + 2))
  obtain ⟨v, h1, h2, e1, e2, I2, q1, q2⟩ := cl
  refine pw_l (pc := 742) d0_742 rfl rfl rfl ?_
  refine pw_ag (pc := 743) (n := 1) d0_743 d0_744 d0_745 d0_746 d0_747 (by decide) sh (by omega) hi hL ?_
  refine pw_ag (pc := 748) (n := 2) d0_748 d0_749 d0_750 d0_751 d0_752 (by decide) sh (by omega) hi hL ?_
  refine pw_v (pc := 753) (k := 0) (as := [.ref 0, .int (xs (i + 1)), .int (xs (i + 2))]) (rest := []) (by omega) d0_753 (k0_98 b) (by decide) ml22 (by decide) rfl (sho sh (by decide +kernel)) (Nat.le_of_ble_eq_true rfl) (Nat.le_of_ble_eq_true rfl) rfl rfl (T_x_watches b L xs (100 - 1) (by omega) h sh 0 (xs (i + 1)) (xs (i + 2)) (by decide +kernel) e1) (fun v0 g hq => ?_)
  obtain ⟨rfl, eg, s1⟩ := hq
  have eg : h1 = g := eg.symm
  subst eg
  show PW b L xs 100 0 0 0 (753 + 3) [.ref pm_B, .ref 0, .ref 193, .int (nI i)] [.int v] h1 Q
  refine pw_l (pc := 756) d0_756 rfl rfl rfl ?_
  refine pw_ag (pc := 757) (n := 1) d0_757 d0_758 d0_759 d0_760 d0_761 (by decide) s1 (by omega) hi hL ?_
  refine pw_ag (pc := 762) (n := 2) d0_762 d0_763 d0_764 d0_765 d0_766 (by decide) s1 (by omega) hi hL ?_
  refine pw_v (pc := 767) (k := 193) (as := [.ref 193, .int (xs (i + 1)), .int (xs (i + 2))]) (rest := [.int v]) (by omega) d0_767 (k0_101 b) (by decide) ml241 (by decide) rfl (sho s1 (by decide +kernel)) (Nat.le_of_ble_eq_true rfl) (Nat.le_of_ble_eq_true rfl) rfl rfl (T_m_watches b L xs (100 - 1) (by omega) h1 s1 193 (xs (i + 1)) (xs (i + 2)) (by decide +kernel) e2) (fun v0 g hq => ?_)
  obtain ⟨rfl, eg, s2⟩ := hq
  have eg : h2 = g := eg.symm
  subst eg
  show PW b L xs 100 0 0 0 (767 + 3) [.ref pm_B, .ref 0, .ref 193, .int (nI i)] [.int v, .int v] h2 Q
  exact pw_ieq (pc := 770) (t := 1114) d0_770 (by decide) (fun _ => kk h2 I2 s2) (fun z => absurd rfl z)
theorem lc_21 (b : Bool) (L : Nat) (xs : Nat → Int32) {h : pm_H} {i : Nat} {Q : Option Value → pm_H → Prop} (I : INV h) (sh : h.1 = tb_SH) (hi : i + 6 ≤ L) (hL : L ≤ 3072) (kk : ∀ h2, INV h2 → h2.1 = tb_SH → PW b L xs 100 0 0 0 1114 [.ref pm_B, .ref 0, .ref 193, .int (nI i)] [] h2 Q) : PW b L xs 100 0 0 0 775 [.ref pm_B, .ref 0, .ref 193, .int (nI i)] [] h Q := by
  have cl := cl_boy I (xs (i + 1))
  obtain ⟨v, h1, h2, e1, e2, I2, q1, q2⟩ := cl
  refine pw_l (pc := 775) d0_775 rfl rfl rfl ?_
  refine pw_ag (pc := 776) (n := 1) d0_776 d0_777 d0_778 d0_779 d0_780 (by decide) sh (by omega) hi hL ?_
  refine pw_v (pc := 781) (k := 0) (as := [.ref 0, .int (xs (i + 1))]) (rest := []) (by omega) d0_781 (k0_102 b) (by decide) ml23 (by decide) rfl (sho sh (by decide +kernel)) (Nat.le_of_ble_eq_true rfl) (Nat.le_of_ble_eq_true rfl) rfl rfl (T_x_boy b L xs (100 - 1) (by omega) h sh 0 (xs (i + 1)) (by decide +kernel) e1) (fun v0 g hq => ?_)
  obtain ⟨rfl, eg, s1⟩ := hq
  have eg : h1 = g := eg.symm
  subst eg
  show PW b L xs 100 0 0 0 (781 + 3) [.ref pm_B, .ref 0, .ref 193, .int (nI i)] [.int v] h1 Q
  refine pw_l (pc := 784) d0_784 rfl rfl rfl ?_
  refine pw_ag (pc := 785) (n := 1) d0_785 d0_786 d0_787 d0_788 d0_789 (by decide) s1 (by omega) hi hL ?_
  refine pw_v (pc := 790) (k := 193) (as := [.ref 193, .int (xs (i + 1))]) (rest := [.int v]) (by omega) d0_790 (k0_105 b) (by decide) ml242 (by decide) rfl (sho s1 (by decide +kernel)) (Nat.le_of_ble_eq_true rfl) (Nat.le_of_ble_eq_true rfl) rfl rfl (T_m_boy b L xs (100 - 1) (by omega) h1 s1 193 (xs (i + 1)) (by decide +kernel) e2) (fun v0 g hq => ?_)
  obtain ⟨rfl, eg, s2⟩ := hq
  have eg : h2 = g := eg.symm
  subst eg
  show PW b L xs 100 0 0 0 (790 + 3) [.ref pm_B, .ref 0, .ref 193, .int (nI i)] [.int v, .int v] h2 Q
  exact pw_ieq (pc := 793) (t := 1114) d0_793 (by decide) (fun _ => kk h2 I2 s2) (fun z => absurd rfl z)
theorem lc_22 (b : Bool) (L : Nat) (xs : Nat → Int32) {h : pm_H} {i : Nat} {Q : Option Value → pm_H → Prop} (I : INV h) (sh : h.1 = tb_SH) (hi : i + 6 ≤ L) (hL : L ≤ 3072) (kk : ∀ h2, INV h2 → h2.1 = tb_SH → PW b L xs 100 0 0 0 1114 [.ref pm_B, .ref 0, .ref 193, .int (nI i)] [] h2 Q) : PW b L xs 100 0 0 0 798 [.ref pm_B, .ref 0, .ref 193, .int (nI i)] [] h Q := by
  have cl := cl_lacks I (xs (i + 1)) (xs (i + 2))
  obtain ⟨v, h1, h2, e1, e2, I2, q1, q2⟩ := cl
  refine pw_l (pc := 798) d0_798 rfl rfl rfl ?_
  refine pw_ag (pc := 799) (n := 1) d0_799 d0_800 d0_801 d0_802 d0_803 (by decide) sh (by omega) hi hL ?_
  refine pw_ag (pc := 804) (n := 2) d0_804 d0_805 d0_806 d0_807 d0_808 (by decide) sh (by omega) hi hL ?_
  refine pw_v (pc := 809) (k := 0) (as := [.ref 0, .int (xs (i + 1)), .int (xs (i + 2))]) (rest := []) (by omega) d0_809 (k0_106 b) (by decide) ml24 (by decide) rfl (sho sh (by decide +kernel)) (Nat.le_of_ble_eq_true rfl) (Nat.le_of_ble_eq_true rfl) rfl rfl (T_x_lacks b L xs (100 - 1) (by omega) h sh 0 (xs (i + 1)) (xs (i + 2)) (by decide +kernel) e1) (fun v0 g hq => ?_)
  obtain ⟨rfl, eg, s1⟩ := hq
  have eg : h1 = g := eg.symm
  subst eg
  show PW b L xs 100 0 0 0 (809 + 3) [.ref pm_B, .ref 0, .ref 193, .int (nI i)] [.int v] h1 Q
  refine pw_l (pc := 812) d0_812 rfl rfl rfl ?_
  refine pw_ag (pc := 813) (n := 1) d0_813 d0_814 d0_815 d0_816 d0_817 (by decide) s1 (by omega) hi hL ?_
  refine pw_ag (pc := 818) (n := 2) d0_818 d0_819 d0_820 d0_821 d0_822 (by decide) s1 (by omega) hi hL ?_
  refine pw_v (pc := 823) (k := 193) (as := [.ref 193, .int (xs (i + 1)), .int (xs (i + 2))]) (rest := [.int v]) (by omega) d0_823 (k0_109 b) (by decide) ml245 (by decide) rfl (sho s1 (by decide +kernel)) (Nat.le_of_ble_eq_true rfl) (Nat.le_of_ble_eq_true rfl) rfl rfl (T_m_lacks b L xs (100 - 1) (by omega) h1 s1 193 (xs (i + 1)) (xs (i + 2)) (by decide +kernel) e2) (fun v0 g hq => ?_)
  obtain ⟨rfl, eg, s2⟩ := hq
  have eg : h2 = g := eg.symm
  subst eg
  show PW b L xs 100 0 0 0 (823 + 3) [.ref pm_B, .ref 0, .ref 193, .int (nI i)] [.int v, .int v] h2 Q
  exact pw_ieq (pc := 826) (t := 1114) d0_826 (by decide) (fun _ => kk h2 I2 s2) (fun z => absurd rfl z)
theorem lc_23 (b : Bool) (L : Nat) (xs : Nat → Int32) {h : pm_H} {i : Nat} {Q : Option Value → pm_H → Prop} (I : INV h) (sh : h.1 = tb_SH) (hi : i + 6 ≤ L) (hL : L ≤ 3072) (kk : ∀ h2, INV h2 → h2.1 = tb_SH → PW b L xs 100 0 0 0 1114 [.ref pm_B, .ref 0, .ref 193, .int (nI i)] [] h2 Q) : PW b L xs 100 0 0 0 831 [.ref pm_B, .ref 0, .ref 193, .int (nI i)] [] h Q := by
  have cl := cl_nearest I (xs (i + 1)) (xs (i + 2)) (xs (i + 3))
  obtain ⟨v, h1, h2, e1, e2, I2, q1, q2⟩ := cl
  refine pw_l (pc := 831) d0_831 rfl rfl rfl ?_
  refine pw_ag (pc := 832) (n := 1) d0_832 d0_833 d0_834 d0_835 d0_836 (by decide) sh (by omega) hi hL ?_
  refine pw_ag (pc := 837) (n := 2) d0_837 d0_838 d0_839 d0_840 d0_841 (by decide) sh (by omega) hi hL ?_
  refine pw_ag (pc := 842) (n := 3) d0_842 d0_843 d0_844 d0_845 d0_846 (by decide) sh (by omega) hi hL ?_
  refine pw_v (pc := 847) (k := 0) (as := [.ref 0, .int (xs (i + 1)), .int (xs (i + 2)), .int (xs (i + 3))]) (rest := []) (by omega) d0_847 (k0_110 b) (by decide) ml25 (by decide) rfl (sho sh (by decide +kernel)) (Nat.le_of_ble_eq_true rfl) (Nat.le_of_ble_eq_true rfl) rfl rfl (T_x_nearest b L xs (100 - 1) (by omega) h sh 0 (xs (i + 1)) (xs (i + 2)) (xs (i + 3)) (by decide +kernel) e1) (fun v0 g hq => ?_)
  obtain ⟨rfl, eg, s1⟩ := hq
  have eg : h1 = g := eg.symm
  subst eg
  show PW b L xs 100 0 0 0 (847 + 3) [.ref pm_B, .ref 0, .ref 193, .int (nI i)] [.int v] h1 Q
  refine pw_l (pc := 850) d0_850 rfl rfl rfl ?_
  refine pw_ag (pc := 851) (n := 1) d0_851 d0_852 d0_853 d0_854 d0_855 (by decide) s1 (by omega) hi hL ?_
  refine pw_ag (pc := 856) (n := 2) d0_856 d0_857 d0_858 d0_859 d0_860 (by decide) s1 (by omega) hi hL ?_
  refine pw_ag (pc := 861) (n := 3) d0_861 d0_862 d0_863 d0_864 d0_865 (by decide) s1 (by omega) hi hL ?_
  refine pw_v (pc := 866) (k := 193) (as := [.ref 193, .int (xs (i + 1)), .int (xs (i + 2)), .int (xs (i + 3))]) (rest := [.int v]) (by omega) d0_866 (k0_114 b) (by decide) ml248 (by decide) rfl (sho s1 (by decide +kernel)) (Nat.le_of_ble_eq_true rfl) (Nat.le_of_ble_eq_true rfl) rfl rfl (T_m_nearest b L xs (100 - 1) (by omega) h1 s1 193 (xs (i + 1)) (xs (i + 2)) (xs (i + 3)) (by decide +kernel) e2) (fun v0 g hq => ?_)
  obtain ⟨rfl, eg, s2⟩ := hq
  have eg : h2 = g := eg.symm
  subst eg
  show PW b L xs 100 0 0 0 (866 + 3) [.ref pm_B, .ref 0, .ref 193, .int (nI i)] [.int v, .int v] h2 Q
  exact pw_ieq (pc := 869) (t := 1114) d0_869 (by decide) (fun _ => kk h2 I2 s2) (fun z => absurd rfl z)
theorem lc_24 (b : Bool) (L : Nat) (xs : Nat → Int32) {h : pm_H} {i : Nat} {Q : Option Value → pm_H → Prop} (I : INV h) (sh : h.1 = tb_SH) (hi : i + 6 ≤ L) (hL : L ≤ 3072) (kk : ∀ h2, INV h2 → h2.1 = tb_SH → PW b L xs 100 0 0 0 1114 [.ref pm_B, .ref 0, .ref 193, .int (nI i)] [] h2 Q) : PW b L xs 100 0 0 0 874 [.ref pm_B, .ref 0, .ref 193, .int (nI i)] [] h Q := by
  obtain ⟨z, hz⟩ : ∃ z : Bool, (xs (i + 2) = 0 ↔ z = false) := ⟨decide (¬ xs (i + 2) = 0), by simp⟩
  have cl := cl_done I (xs (i + 1)) z
  obtain ⟨v, h1, h2, e1, e2, I2, q1, q2⟩ := cl
  refine pw_l (pc := 874) d0_874 rfl rfl rfl ?_
  refine pw_ag (pc := 875) (n := 1) d0_875 d0_876 d0_877 d0_878 d0_879 (by decide) sh (by omega) hi hL ?_
  refine pw_ag (pc := 880) (n := 2) d0_880 d0_881 d0_882 d0_883 d0_884 (by decide) sh (by omega) hi hL ?_
  refine pw_bz (z := z) (pc := 885) d0_885 (by decide) d0_888 d0_889 (by decide) d0_892 hz ?_
  refine pw_v (pc := 893) (k := 0) (as := [.ref 0, .int (xs (i + 1)), .int (nI z.toNat)]) (rest := []) (by omega) d0_893 (k0_115 b) (by decide) ml26 (by decide) rfl (sho sh (by decide +kernel)) (Nat.le_of_ble_eq_true rfl) (Nat.le_of_ble_eq_true rfl) rfl rfl (T_x_done b L xs (100 - 1) (by omega) h sh 0 (xs (i + 1)) (nI z.toNat) (by decide +kernel) e1) (fun v0 g hq => ?_)
  obtain ⟨rfl, eg, s1⟩ := hq
  have eg : h1 = g := eg.symm
  subst eg
  show PW b L xs 100 0 0 0 (893 + 3) [.ref pm_B, .ref 0, .ref 193, .int (nI i)] [.int v] h1 Q
  refine pw_l (pc := 896) d0_896 rfl rfl rfl ?_
  refine pw_ag (pc := 897) (n := 1) d0_897 d0_898 d0_899 d0_900 d0_901 (by decide) s1 (by omega) hi hL ?_
  refine pw_ag (pc := 902) (n := 2) d0_902 d0_903 d0_904 d0_905 d0_906 (by decide) s1 (by omega) hi hL ?_
  refine pw_bz (z := z) (pc := 907) d0_907 (by decide) d0_910 d0_911 (by decide) d0_914 hz ?_
  refine pw_v (pc := 915) (k := 193) (as := [.ref 193, .int (xs (i + 1)), .int (nI z.toNat)]) (rest := [.int v]) (by omega) d0_915 (k0_119 b) (by decide) ml249 (by decide) rfl (sho s1 (by decide +kernel)) (Nat.le_of_ble_eq_true rfl) (Nat.le_of_ble_eq_true rfl) rfl rfl (T_m_done b L xs (100 - 1) (by omega) h1 s1 193 (xs (i + 1)) (nI z.toNat) (by decide +kernel) e2) (fun v0 g hq => ?_)
  obtain ⟨rfl, eg, s2⟩ := hq
  have eg : h2 = g := eg.symm
  subst eg
  show PW b L xs 100 0 0 0 (915 + 3) [.ref pm_B, .ref 0, .ref 193, .int (nI i)] [.int v, .int v] h2 Q
  exact pw_ieq (pc := 918) (t := 1114) d0_918 (by decide) (fun _ => kk h2 I2 s2) (fun z => absurd rfl z)
theorem lc_25 (b : Bool) (L : Nat) (xs : Nat → Int32) {h : pm_H} {i : Nat} {Q : Option Value → pm_H → Prop} (I : INV h) (sh : h.1 = tb_SH) (hi : i + 6 ≤ L) (hL : L ≤ 3072) (kk : ∀ h2, INV h2 → h2.1 = tb_SH → PW b L xs 100 0 0 0 1114 [.ref pm_B, .ref 0, .ref 193, .int (nI i)] [] h2 Q) : PW b L xs 100 0 0 0 923 [.ref pm_B, .ref 0, .ref 193, .int (nI i)] [] h Q := by
  have cl := cl_awake I (xs (i + 1))
  obtain ⟨v, h1, h2, e1, e2, I2, q1, q2⟩ := cl
  refine pw_l (pc := 923) d0_923 rfl rfl rfl ?_
  refine pw_ag (pc := 924) (n := 1) d0_924 d0_925 d0_926 d0_927 d0_928 (by decide) sh (by omega) hi hL ?_
  refine pw_v (pc := 929) (k := 0) (as := [.ref 0, .int (xs (i + 1))]) (rest := []) (by omega) d0_929 (k0_120 b) (by decide) ml27 (by decide) rfl (sho sh (by decide +kernel)) (Nat.le_of_ble_eq_true rfl) (Nat.le_of_ble_eq_true rfl) rfl rfl (T_x_awake b L xs (100 - 1) (by omega) h sh 0 (xs (i + 1)) (by decide +kernel) e1) (fun v0 g hq => ?_)
  obtain ⟨rfl, eg, s1⟩ := hq
  have eg : h1 = g := eg.symm
  subst eg
  show PW b L xs 100 0 0 0 (929 + 3) [.ref pm_B, .ref 0, .ref 193, .int (nI i)] [.int v] h1 Q
  refine pw_l (pc := 932) d0_932 rfl rfl rfl ?_
  refine pw_ag (pc := 933) (n := 1) d0_933 d0_934 d0_935 d0_936 d0_937 (by decide) s1 (by omega) hi hL ?_
  refine pw_v (pc := 938) (k := 193) (as := [.ref 193, .int (xs (i + 1))]) (rest := [.int v]) (by omega) d0_938 (k0_123 b) (by decide) ml251 (by decide) rfl (sho s1 (by decide +kernel)) (Nat.le_of_ble_eq_true rfl) (Nat.le_of_ble_eq_true rfl) rfl rfl (T_m_awake b L xs (100 - 1) (by omega) h1 s1 193 (xs (i + 1)) (by decide +kernel) e2) (fun v0 g hq => ?_)
  obtain ⟨rfl, eg, s2⟩ := hq
  have eg : h2 = g := eg.symm
  subst eg
  show PW b L xs 100 0 0 0 (938 + 3) [.ref pm_B, .ref 0, .ref 193, .int (nI i)] [.int v, .int v] h2 Q
  exact pw_ieq (pc := 941) (t := 1114) d0_941 (by decide) (fun _ => kk h2 I2 s2) (fun z => absurd rfl z)
theorem lc_26 (b : Bool) (L : Nat) (xs : Nat → Int32) {h : pm_H} {i : Nat} {Q : Option Value → pm_H → Prop} (I : INV h) (sh : h.1 = tb_SH) (hi : i + 6 ≤ L) (hL : L ≤ 3072) (kk : ∀ h2, INV h2 → h2.1 = tb_SH → PW b L xs 100 0 0 0 1114 [.ref pm_B, .ref 0, .ref 193, .int (nI i)] [] h2 Q) : PW b L xs 100 0 0 0 946 [.ref pm_B, .ref 0, .ref 193, .int (nI i)] [] h Q := by
  have cl := cl_ask I (xs (i + 1))
  obtain ⟨v, h1, h2, e1, e2, I2, q1, q2⟩ := cl
  refine pw_l (pc := 946) d0_946 rfl rfl rfl ?_
  refine pw_ag (pc := 947) (n := 1) d0_947 d0_948 d0_949 d0_950 d0_951 (by decide) sh (by omega) hi hL ?_
  refine pw_v (pc := 952) (k := 0) (as := [.ref 0, .int (xs (i + 1))]) (rest := []) (by omega) d0_952 (k0_124 b) (by decide) ml28 (by decide) rfl (sho sh (by decide +kernel)) (Nat.le_of_ble_eq_true rfl) (Nat.le_of_ble_eq_true rfl) rfl rfl (T_x_ask b L xs (100 - 1) (by omega) h sh 0 (xs (i + 1)) (by decide +kernel) e1) (fun v0 g hq => ?_)
  obtain ⟨rfl, eg, s1⟩ := hq
  have eg : h1 = g := eg.symm
  subst eg
  show PW b L xs 100 0 0 0 (952 + 3) [.ref pm_B, .ref 0, .ref 193, .int (nI i)] [.int v] h1 Q
  refine pw_l (pc := 955) d0_955 rfl rfl rfl ?_
  refine pw_ag (pc := 956) (n := 1) d0_956 d0_957 d0_958 d0_959 d0_960 (by decide) s1 (by omega) hi hL ?_
  refine pw_v (pc := 961) (k := 193) (as := [.ref 193, .int (xs (i + 1))]) (rest := [.int v]) (by omega) d0_961 (k0_127 b) (by decide) ml252 (by decide) rfl (sho s1 (by decide +kernel)) (Nat.le_of_ble_eq_true rfl) (Nat.le_of_ble_eq_true rfl) rfl rfl (T_m_ask b L xs (100 - 1) (by omega) h1 s1 193 (xs (i + 1)) (by decide +kernel) e2) (fun v0 g hq => ?_)
  obtain ⟨rfl, eg, s2⟩ := hq
  have eg : h2 = g := eg.symm
  subst eg
  show PW b L xs 100 0 0 0 (961 + 3) [.ref pm_B, .ref 0, .ref 193, .int (nI i)] [.int v, .int v] h2 Q
  exact pw_ieq (pc := 964) (t := 1114) d0_964 (by decide) (fun _ => kk h2 I2 s2) (fun z => absurd rfl z)
theorem lc_27 (b : Bool) (L : Nat) (xs : Nat → Int32) {h : pm_H} {i : Nat} {Q : Option Value → pm_H → Prop} (I : INV h) (sh : h.1 = tb_SH) (hi : i + 6 ≤ L) (hL : L ≤ 3072) (kk : ∀ h2, INV h2 → h2.1 = tb_SH → PW b L xs 100 0 0 0 1114 [.ref pm_B, .ref 0, .ref 193, .int (nI i)] [] h2 Q) : PW b L xs 100 0 0 0 969 [.ref pm_B, .ref 0, .ref 193, .int (nI i)] [] h Q := by
  have cl := cl_seed I (xs (i + 1))
  obtain ⟨v, h1, h2, e1, e2, I2, q1, q2⟩ := cl
  refine pw_l (pc := 969) d0_969 rfl rfl rfl ?_
  refine pw_ag (pc := 970) (n := 1) d0_970 d0_971 d0_972 d0_973 d0_974 (by decide) sh (by omega) hi hL ?_
  refine pw_v (pc := 975) (k := 0) (as := [.ref 0, .int (xs (i + 1))]) (rest := []) (by omega) d0_975 (k0_128 b) (by decide) ml29 (by decide) rfl (sho sh (by decide +kernel)) (Nat.le_of_ble_eq_true rfl) (Nat.le_of_ble_eq_true rfl) rfl rfl (T_x_seed b L xs (100 - 1) (by omega) h sh 0 (xs (i + 1)) (by decide +kernel) e1) (fun v0 g hq => ?_)
  obtain ⟨rfl, eg, s1⟩ := hq
  have eg : h1 = g := eg.symm
  subst eg
  show PW b L xs 100 0 0 0 (975 + 3) [.ref pm_B, .ref 0, .ref 193, .int (nI i)] [.int v] h1 Q
  refine pw_l (pc := 978) d0_978 rfl rfl rfl ?_
  refine pw_ag (pc := 979) (n := 1) d0_979 d0_980 d0_981 d0_982 d0_983 (by decide) s1 (by omega) hi hL ?_
  refine pw_v (pc := 984) (k := 193) (as := [.ref 193, .int (xs (i + 1))]) (rest := [.int v]) (by omega) d0_984 (k0_131 b) (by decide) ml253 (by decide) rfl (sho s1 (by decide +kernel)) (Nat.le_of_ble_eq_true rfl) (Nat.le_of_ble_eq_true rfl) rfl rfl (T_m_seed b L xs (100 - 1) (by omega) h1 s1 193 (xs (i + 1)) (by decide +kernel) e2) (fun v0 g hq => ?_)
  obtain ⟨rfl, eg, s2⟩ := hq
  have eg : h2 = g := eg.symm
  subst eg
  show PW b L xs 100 0 0 0 (984 + 3) [.ref pm_B, .ref 0, .ref 193, .int (nI i)] [.int v, .int v] h2 Q
  exact pw_ieq (pc := 987) (t := 1114) d0_987 (by decide) (fun _ => kk h2 I2 s2) (fun z => absurd rfl z)
theorem lc_28 (b : Bool) (L : Nat) (xs : Nat → Int32) {h : pm_H} {i : Nat} {Q : Option Value → pm_H → Prop} (I : INV h) (sh : h.1 = tb_SH) (hi : i + 6 ≤ L) (hL : L ≤ 3072) (kk : ∀ h2, INV h2 → h2.1 = tb_SH → PW b L xs 100 0 0 0 1114 [.ref pm_B, .ref 0, .ref 193, .int (nI i)] [] h2 Q) : PW b L xs 100 0 0 0 992 [.ref pm_B, .ref 0, .ref 193, .int (nI i)] [] h Q := by
  have cl := cl_voyages I (xs (i + 1)) (xs (i + 2)) (xs (i + 3)) (xs (i + 4))
  obtain ⟨v, h1, h2, e1, e2, I2, q1, q2⟩ := cl
  refine pw_l (pc := 992) d0_992 rfl rfl rfl ?_
  refine pw_ag (pc := 993) (n := 1) d0_993 d0_994 d0_995 d0_996 d0_997 (by decide) sh (by omega) hi hL ?_
  refine pw_ag (pc := 998) (n := 2) d0_998 d0_999 d0_1000 d0_1001 d0_1002 (by decide) sh (by omega) hi hL ?_
  refine pw_ag (pc := 1003) (n := 3) d0_1003 d0_1004 d0_1005 d0_1006 d0_1007 (by decide) sh (by omega) hi hL ?_
  refine pw_ag (pc := 1008) (n := 4) d0_1008 d0_1009 d0_1010 d0_1011 d0_1012 (by decide) sh (by omega) hi hL ?_
  refine pw_v (pc := 1013) (k := 0) (as := [.ref 0, .int (xs (i + 1)), .int (xs (i + 2)), .int (xs (i + 3)), .int (xs (i + 4))]) (rest := []) (by omega) d0_1013 (k0_132 b) (by decide) ml30 (by decide) rfl (sho sh (by decide +kernel)) (Nat.le_of_ble_eq_true rfl) (Nat.le_of_ble_eq_true rfl) rfl rfl (T_x_voyages b L xs (100 - 1) (by omega) h sh 0 (xs (i + 1)) (xs (i + 2)) (xs (i + 3)) (xs (i + 4)) (by decide +kernel) e1) (fun v0 g hq => ?_)
  obtain ⟨rfl, eg, s1⟩ := hq
  have eg : h1 = g := eg.symm
  subst eg
  show PW b L xs 100 0 0 0 (1013 + 3) [.ref pm_B, .ref 0, .ref 193, .int (nI i)] [.int v] h1 Q
  refine pw_l (pc := 1016) d0_1016 rfl rfl rfl ?_
  refine pw_ag (pc := 1017) (n := 1) d0_1017 d0_1018 d0_1019 d0_1020 d0_1021 (by decide) s1 (by omega) hi hL ?_
  refine pw_ag (pc := 1022) (n := 2) d0_1022 d0_1023 d0_1024 d0_1025 d0_1026 (by decide) s1 (by omega) hi hL ?_
  refine pw_ag (pc := 1027) (n := 3) d0_1027 d0_1028 d0_1029 d0_1030 d0_1031 (by decide) s1 (by omega) hi hL ?_
  refine pw_ag (pc := 1032) (n := 4) d0_1032 d0_1033 d0_1034 d0_1035 d0_1036 (by decide) s1 (by omega) hi hL ?_
  refine pw_v (pc := 1037) (k := 193) (as := [.ref 193, .int (xs (i + 1)), .int (xs (i + 2)), .int (xs (i + 3)), .int (xs (i + 4))]) (rest := [.int v]) (by omega) d0_1037 (k0_136 b) (by decide) ml255 (by decide) rfl (sho s1 (by decide +kernel)) (Nat.le_of_ble_eq_true rfl) (Nat.le_of_ble_eq_true rfl) rfl rfl (T_m_voyages b L xs (100 - 1) (by omega) h1 s1 193 (xs (i + 1)) (xs (i + 2)) (xs (i + 3)) (xs (i + 4)) (by decide +kernel) e2) (fun v0 g hq => ?_)
  obtain ⟨rfl, eg, s2⟩ := hq
  have eg : h2 = g := eg.symm
  subst eg
  show PW b L xs 100 0 0 0 (1037 + 3) [.ref pm_B, .ref 0, .ref 193, .int (nI i)] [.int v, .int v] h2 Q
  exact pw_ieq (pc := 1040) (t := 1114) d0_1040 (by decide) (fun _ => kk h2 I2 s2) (fun z => absurd rfl z)
theorem lc_29 (b : Bool) (L : Nat) (xs : Nat → Int32) {h : pm_H} {i : Nat} {Q : Option Value → pm_H → Prop} (I : INV h) (sh : h.1 = tb_SH) (hi : i + 6 ≤ L) (hL : L ≤ 3072) (kk : ∀ h2, INV h2 → h2.1 = tb_SH → PW b L xs 100 0 0 0 1114 [.ref pm_B, .ref 0, .ref 193, .int (nI i)] [] h2 Q) : PW b L xs 100 0 0 0 1045 [.ref pm_B, .ref 0, .ref 193, .int (nI i)] [] h Q := by
  have cl := cl_count I (xs (i + 1))
  obtain ⟨v, e1, e2⟩ := cl
  refine pw_l (pc := 1045) d0_1045 rfl rfl rfl ?_
  refine pw_ag (pc := 1046) (n := 1) d0_1046 d0_1047 d0_1048 d0_1049 d0_1050 (by decide) sh (by omega) hi hL ?_
  refine pw_v (pc := 1051) (k := 0) (as := [.ref 0, .int (xs (i + 1))]) (rest := []) (by omega) d0_1051 (k0_137 b) (by decide) ml31 (by decide) rfl (sho sh (by decide +kernel)) (Nat.le_of_ble_eq_true rfl) (Nat.le_of_ble_eq_true rfl) rfl rfl (T_x_count b L xs (100 - 1) (by omega) h sh 0 (xs (i + 1)) (by decide +kernel) e1) (fun v0 g hq => ?_)
  obtain ⟨rfl, rfl, _⟩ := hq
  show PW b L xs 100 0 0 0 (1051 + 3) [.ref pm_B, .ref 0, .ref 193, .int (nI i)] [.int v] g Q
  refine pw_l (pc := 1054) d0_1054 rfl rfl rfl ?_
  refine pw_ag (pc := 1055) (n := 1) d0_1055 d0_1056 d0_1057 d0_1058 d0_1059 (by decide) sh (by omega) hi hL ?_
  refine pw_v (pc := 1060) (k := 193) (as := [.ref 193, .int (xs (i + 1))]) (rest := [.int v]) (by omega) d0_1060 (k0_140 b) (by decide) ml256 (by decide) rfl (sho sh (by decide +kernel)) (Nat.le_of_ble_eq_true rfl) (Nat.le_of_ble_eq_true rfl) rfl rfl (T_m_count b L xs (100 - 1) (by omega) g sh 193 (xs (i + 1)) (by decide +kernel) e2) (fun v0 g hq => ?_)
  obtain ⟨rfl, rfl, s2⟩ := hq
  show PW b L xs 100 0 0 0 (1060 + 3) [.ref pm_B, .ref 0, .ref 193, .int (nI i)] [.int v, .int v] _ Q
  exact pw_ieq (pc := 1063) (t := 1114) d0_1063 (by decide) (fun _ => kk _ I s2) (fun z => absurd rfl z)
theorem lc_30 (b : Bool) (L : Nat) (xs : Nat → Int32) {h : pm_H} {i : Nat} {Q : Option Value → pm_H → Prop} (I : INV h) (sh : h.1 = tb_SH) (hi : i + 6 ≤ L) (hL : L ≤ 3072) (kk : ∀ h2, INV h2 → h2.1 = tb_SH → PW b L xs 100 0 0 0 1114 [.ref pm_B, .ref 0, .ref 193, .int (nI i)] [] h2 Q) : PW b L xs 100 0 0 0 1068 [.ref pm_B, .ref 0, .ref 193, .int (nI i)] [] h Q := by
  have cl := cl_image I (xs (i + 1))
  obtain ⟨v, h1, h2, e1, e2, I2, q1, q2⟩ := cl
  refine pw_l (pc := 1068) d0_1068 rfl rfl rfl ?_
  refine pw_ag (pc := 1069) (n := 1) d0_1069 d0_1070 d0_1071 d0_1072 d0_1073 (by decide) sh (by omega) hi hL ?_
  refine pw_v (pc := 1074) (k := 0) (as := [.ref 0, .int (xs (i + 1))]) (rest := []) (by omega) d0_1074 (k0_141 b) (by decide) ml32 (by decide) rfl (sho sh (by decide +kernel)) (Nat.le_of_ble_eq_true rfl) (Nat.le_of_ble_eq_true rfl) rfl rfl (T_x_image b L xs (100 - 1) (by omega) h sh 0 (xs (i + 1)) (by decide +kernel) e1) (fun v0 g hq => ?_)
  obtain ⟨rfl, eg, s1⟩ := hq
  have eg : h1 = g := eg.symm
  subst eg
  show PW b L xs 100 0 0 0 (1074 + 3) [.ref pm_B, .ref 0, .ref 193, .int (nI i)] [.int v] h1 Q
  refine pw_l (pc := 1077) d0_1077 rfl rfl rfl ?_
  refine pw_ag (pc := 1078) (n := 1) d0_1078 d0_1079 d0_1080 d0_1081 d0_1082 (by decide) s1 (by omega) hi hL ?_
  refine pw_v (pc := 1083) (k := 193) (as := [.ref 193, .int (xs (i + 1))]) (rest := [.int v]) (by omega) d0_1083 (k0_144 b) (by decide) ml257 (by decide) rfl (sho s1 (by decide +kernel)) (Nat.le_of_ble_eq_true rfl) (Nat.le_of_ble_eq_true rfl) rfl rfl (T_m_image b L xs (100 - 1) (by omega) h1 s1 193 (xs (i + 1)) (by decide +kernel) e2) (fun v0 g hq => ?_)
  obtain ⟨rfl, eg, s2⟩ := hq
  have eg : h2 = g := eg.symm
  subst eg
  show PW b L xs 100 0 0 0 (1083 + 3) [.ref pm_B, .ref 0, .ref 193, .int (nI i)] [.int v, .int v] h2 Q
  exact pw_ieq (pc := 1086) (t := 1114) d0_1086 (by decide) (fun _ => kk h2 I2 s2) (fun z => absurd rfl z)
theorem lc_31 (b : Bool) (L : Nat) (xs : Nat → Int32) {h : pm_H} {i : Nat} {Q : Option Value → pm_H → Prop} (I : INV h) (sh : h.1 = tb_SH) (hi : i + 6 ≤ L) (hL : L ≤ 3072) (kk : ∀ h2, INV h2 → h2.1 = tb_SH → PW b L xs 100 0 0 0 1114 [.ref pm_B, .ref 0, .ref 193, .int (nI i)] [] h2 Q) : PW b L xs 100 0 0 0 1091 [.ref pm_B, .ref 0, .ref 193, .int (nI i)] [] h Q := by
  have cl := cl_back I (xs (i + 1))
  obtain ⟨v, h1, h2, e1, e2, I2, q1, q2⟩ := cl
  refine pw_l (pc := 1091) d0_1091 rfl rfl rfl ?_
  refine pw_ag (pc := 1092) (n := 1) d0_1092 d0_1093 d0_1094 d0_1095 d0_1096 (by decide) sh (by omega) hi hL ?_
  refine pw_v (pc := 1097) (k := 0) (as := [.ref 0, .int (xs (i + 1))]) (rest := []) (by omega) d0_1097 (k0_145 b) (by decide) ml33 (by decide) rfl (sho sh (by decide +kernel)) (Nat.le_of_ble_eq_true rfl) (Nat.le_of_ble_eq_true rfl) rfl rfl (T_x_back b L xs (100 - 1) (by omega) h sh 0 (xs (i + 1)) (by decide +kernel) e1) (fun v0 g hq => ?_)
  obtain ⟨rfl, eg, s1⟩ := hq
  have eg : h1 = g := eg.symm
  subst eg
  show PW b L xs 100 0 0 0 (1097 + 3) [.ref pm_B, .ref 0, .ref 193, .int (nI i)] [.int v] h1 Q
  refine pw_l (pc := 1100) d0_1100 rfl rfl rfl ?_
  refine pw_ag (pc := 1101) (n := 1) d0_1101 d0_1102 d0_1103 d0_1104 d0_1105 (by decide) s1 (by omega) hi hL ?_
  refine pw_v (pc := 1106) (k := 193) (as := [.ref 193, .int (xs (i + 1))]) (rest := [.int v]) (by omega) d0_1106 (k0_148 b) (by decide) ml258 (by decide) rfl (sho s1 (by decide +kernel)) (Nat.le_of_ble_eq_true rfl) (Nat.le_of_ble_eq_true rfl) rfl rfl (T_m_back b L xs (100 - 1) (by omega) h1 s1 193 (xs (i + 1)) (by decide +kernel) e2) (fun v0 g hq => ?_)
  obtain ⟨rfl, eg, s2⟩ := hq
  have eg : h2 = g := eg.symm
  subst eg
  show PW b L xs 100 0 0 0 (1106 + 3) [.ref pm_B, .ref 0, .ref 193, .int (nI i)] [.int v, .int v] h2 Q
  exact pw_ieq (pc := 1109) (t := 1114) d0_1109 (by decide) (fun _ => kk h2 I2 s2) (fun z => absurd rfl z)
