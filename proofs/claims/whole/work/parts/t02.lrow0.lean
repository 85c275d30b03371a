/-! The law: rows (written by wip/gen8.py). -/
theorem lw_rt : (tb_me 0).1.2.2.2 = some .boolean := by decide +kernel
def sw_o : Array Int := #[143, 206, 229, 242, 255, 288, 321, 354, 387, 420, 433, 482, 515, 538, 561, 584, 597, 630, 643, 676, 709, 742, 765, 798, 841, 890, 913, 936, 959, 1012, 1035, 1058]
theorem and31 (y : Int32) : ∃ c, c < 32 ∧ y &&& (Int8.ofInt 31).toInt32 = nI c := by
  refine ⟨y.toBitVec.toNat % 32, Nat.mod_lt _ (by omega), ?_⟩
  have e31 : (Int8.ofInt 31).toInt32 = nI 31 := by decide
  rw [e31]
  apply Int32.toBitVec_inj.mp
  apply BitVec.eq_of_toNat_eq
  have e1 : (y &&& nI 31).toBitVec.toNat = y.toBitVec.toNat &&& 31 := rfl
  have e2 : (nI (y.toBitVec.toNat % 32)).toBitVec.toNat = (y.toBitVec.toNat % 32) % 2 ^ 32 := rfl
  have q := Nat.mod_lt y.toBitVec.toNat (show 32 > 0 by omega)
  rw [e1, e2, Nat.mod_eq_of_lt (by omega)]
  exact Nat.and_two_pow_sub_one_eq_mod _ 5
theorem nI_small {c : Nat} (hc : c < 2147483648) : (nI c).toInt = (c : Int) := by
  exact nx_toInt hc
theorem lw_end {L i : Nat} (hL : L ≤ 3072) (hi : i ≤ 4000) (h : L < i + 6) : (fun x y : Int32 => x - y) (Int32.ofNat L) (Int8.ofInt 6).toInt32 < nI i := by
  show Int32.ofNat L - (Int8.ofInt 6).toInt32 < nI i
  rw [kc_on, kc_b_6]
  by_cases q : L < 6
  · rw [nx_sub_ng (by omega) (by omega) (by omega), ng_lt_n (by omega) (by omega) (by omega)]
    trivial
  · rw [nx_sub (by omega), nx_lt (by omega) (by omega)]
    omega
section AGS
variable {b : Bool} {L : Nat} {xs : Nat → Int32} {d kc ks pc : Nat} {st : List Value} {h : pm_H} {Q : Option Value → pm_H → Prop}
theorem pw_ag {n i : Nat} {m : Int} (d0 : decode (tb_me 0).1.2.1 pc = .ok (.aload_n 0, 1)) (d1 : decode (tb_me 0).1.2.1 (pc + 1) = .ok (.iload_n 3, 1)) (d2 : decode (tb_me 0).1.2.1 (pc + 2) = .ok (.iconst m, 1)) (d3 : decode (tb_me 0).1.2.1 (pc + 3) = .ok (.iadd, 1)) (d4 : decode (tb_me 0).1.2.1 (pc + 4) = .ok (.iaload, 1)) (hm : Int32.ofInt m = nI n) (sh : h.1 = tb_SH) (hn : n ≤ 5) (hi : i + 6 ≤ L) (hL : L ≤ 3072) (kk : PW b L xs d 0 kc ks (pc + 5) [.ref pm_B, .ref 0, .ref 193, .int (nI i)] (.int (xs (i + n)) :: st) h Q) : PW b L xs d 0 kc ks pc [.ref pm_B, .ref 0, .ref 193, .int (nI i)] st h Q := by
  refine pw_l (pc := pc) d0 rfl rfl rfl ?_
  refine pw_l (pc := pc + 1) d1 rfl rfl rfl ?_
  refine pw_s (pc := pc + 2) d2 rfl rfl ?_
  refine pw_s (pc := pc + 3) d3 rfl rfl ?_
  have e : (fun x y : Int32 => x + y) (nI i) (Int32.ofInt m) = nI (i + n) := by
    show nI i + Int32.ofInt m = _
    rw [hm, nx_add]
  rw [e]
  refine pw_sc (pc := pc + 4) d4 (by rw [sh, tb_SHl]; omega) (by show ¬ (nI (i + n) < nI 0 ∨ L ≤ (nI (i + n)).toNatClampNeg); rw [nx_lt (by omega) (by omega), nx_cl (by omega)]; omega) ?_
  rw [nx_cl (by omega)]
  exact kk
theorem pw_bz {v : Int32} {z : Bool} {off off2 : Int} {ls : List Value} (d0 : decode (tb_me 0).1.2.1 pc = .ok (.ifCond .eq off, 3)) (t0 : pm_to pc off = some (pc + 7)) (d1 : decode (tb_me 0).1.2.1 (pc + 3) = .ok (.iconst 1, 1)) (d2 : decode (tb_me 0).1.2.1 (pc + 4) = .ok (.goto off2, 3)) (t1 : pm_to (pc + 4) off2 = some (pc + 8)) (d3 : decode (tb_me 0).1.2.1 (pc + 7) = .ok (.iconst 0, 1)) (hz : v = 0 ↔ z = false) (kk : PW b L xs d 0 kc ks (pc + 8) ls (.int (nI z.toNat) :: st) h Q) : PW b L xs d 0 kc ks pc ls (.int v :: st) h Q := by
  refine pw_zeq (pc := pc) (t := pc + 7) d0 t0 (fun q => ?_) (fun q => ?_)
  · have e := hz.mp q
    subst e
    refine pw_s (pc := pc + 7) d3 rfl rfl ?_
    exact kk
  · have e : z = true := by
      cases z with
      | true => rfl
      | false => exact absurd (hz.mpr rfl) q
    subst e
    refine pw_s (pc := pc + 3) d1 rfl rfl ?_
    refine pw_go (pc := pc + 4) (t := pc + 8) d2 t1 ?_
    exact kk
end AGS
theorem k0_13 (b : Bool) : tb_lk b 0 13 = (2, 2, 0, 0, 0) := by cases b <;> decide +kernel
theorem k0_17 (b : Bool) : tb_lk b 0 17 = (2, 152, 0, 0, 0) := by cases b <;> decide +kernel
theorem ml2 : (tb_me 2).2 = ((0, 0), (5, 0)) ∧ (tb_me 2).1.2.2.1 = 6 := by decide +kernel
theorem ml152 : (tb_me 152).2 = ((0, 0), (5, 10)) ∧ (tb_me 152).1.2.2.1 = 6 := by decide +kernel
theorem d0_176 : decode (tb_me 0).1.2.1 176 = .ok (.aload_n 1, 1) := by decide +kernel
theorem d0_177 : decode (tb_me 0).1.2.1 177 = .ok (.aload_n 0, 1) := by decide +kernel
theorem d0_178 : decode (tb_me 0).1.2.1 178 = .ok (.iload_n 3, 1) := by decide +kernel
theorem d0_179 : decode (tb_me 0).1.2.1 179 = .ok (.iconst 1, 1) := by decide +kernel
theorem d0_180 : decode (tb_me 0).1.2.1 180 = .ok (.iadd, 1) := by decide +kernel
theorem d0_181 : decode (tb_me 0).1.2.1 181 = .ok (.iaload, 1) := by decide +kernel
theorem d0_182 : decode (tb_me 0).1.2.1 182 = .ok (.aload_n 0, 1) := by decide +kernel
theorem d0_183 : decode (tb_me 0).1.2.1 183 = .ok (.iload_n 3, 1) := by decide +kernel
theorem d0_184 : decode (tb_me 0).1.2.1 184 = .ok (.iconst 2, 1) := by decide +kernel
theorem d0_185 : decode (tb_me 0).1.2.1 185 = .ok (.iadd, 1) := by decide +kernel
theorem d0_186 : decode (tb_me 0).1.2.1 186 = .ok (.iaload, 1) := by decide +kernel
theorem d0_187 : decode (tb_me 0).1.2.1 187 = .ok (.aload_n 0, 1) := by decide +kernel
theorem d0_188 : decode (tb_me 0).1.2.1 188 = .ok (.iload_n 3, 1) := by decide +kernel
theorem d0_189 : decode (tb_me 0).1.2.1 189 = .ok (.iconst 3, 1) := by decide +kernel
theorem d0_190 : decode (tb_me 0).1.2.1 190 = .ok (.iadd, 1) := by decide +kernel
theorem d0_191 : decode (tb_me 0).1.2.1 191 = .ok (.iaload, 1) := by decide +kernel
theorem d0_192 : decode (tb_me 0).1.2.1 192 = .ok (.aload_n 0, 1) := by decide +kernel
theorem d0_193 : decode (tb_me 0).1.2.1 193 = .ok (.iload_n 3, 1) := by decide +kernel
theorem d0_194 : decode (tb_me 0).1.2.1 194 = .ok (.iconst 4, 1) := by decide +kernel
theorem d0_195 : decode (tb_me 0).1.2.1 195 = .ok (.iadd, 1) := by decide +kernel
theorem d0_196 : decode (tb_me 0).1.2.1 196 = .ok (.iaload, 1) := by decide +kernel
theorem d0_197 : decode (tb_me 0).1.2.1 197 = .ok (.aload_n 0, 1) := by decide +kernel
theorem d0_198 : decode (tb_me 0).1.2.1 198 = .ok (.iload_n 3, 1) := by decide +kernel
theorem d0_199 : decode (tb_me 0).1.2.1 199 = .ok (.iconst 5, 1) := by decide +kernel
theorem d0_200 : decode (tb_me 0).1.2.1 200 = .ok (.iadd, 1) := by decide +kernel
theorem d0_201 : decode (tb_me 0).1.2.1 201 = .ok (.iaload, 1) := by decide +kernel
theorem d0_202 : decode (tb_me 0).1.2.1 202 = .ok (.invokevirtual 13, 3) := by decide +kernel
theorem d0_205 : decode (tb_me 0).1.2.1 205 = .ok (.aload_n 2, 1) := by decide +kernel
theorem d0_206 : decode (tb_me 0).1.2.1 206 = .ok (.aload_n 0, 1) := by decide +kernel
theorem d0_207 : decode (tb_me 0).1.2.1 207 = .ok (.iload_n 3, 1) := by decide +kernel
theorem d0_208 : decode (tb_me 0).1.2.1 208 = .ok (.iconst 1, 1) := by decide +kernel
theorem d0_209 : decode (tb_me 0).1.2.1 209 = .ok (.iadd, 1) := by decide +kernel
theorem d0_210 : decode (tb_me 0).1.2.1 210 = .ok (.iaload, 1) := by decide +kernel
theorem d0_211 : decode (tb_me 0).1.2.1 211 = .ok (.aload_n 0, 1) := by decide +kernel
theorem d0_212 : decode (tb_me 0).1.2.1 212 = .ok (.iload_n 3, 1) := by decide +kernel
theorem d0_213 : decode (tb_me 0).1.2.1 213 = .ok (.iconst 2, 1) := by decide +kernel
theorem d0_214 : decode (tb_me 0).1.2.1 214 = .ok (.iadd, 1) := by decide +kernel
theorem d0_215 : decode (tb_me 0).1.2.1 215 = .ok (.iaload, 1) := by decide +kernel
theorem d0_216 : decode (tb_me 0).1.2.1 216 = .ok (.aload_n 0, 1) := by decide +kernel
theorem d0_217 : decode (tb_me 0).1.2.1 217 = .ok (.iload_n 3, 1) := by decide +kernel
theorem d0_218 : decode (tb_me 0).1.2.1 218 = .ok (.iconst 3, 1) := by decide +kernel
theorem d0_219 : decode (tb_me 0).1.2.1 219 = .ok (.iadd, 1) := by decide +kernel
theorem d0_220 : decode (tb_me 0).1.2.1 220 = .ok (.iaload, 1) := by decide +kernel
theorem d0_221 : decode (tb_me 0).1.2.1 221 = .ok (.aload_n 0, 1) := by decide +kernel
theorem d0_222 : decode (tb_me 0).1.2.1 222 = .ok (.iload_n 3, 1) := by decide +kernel
theorem d0_223 : decode (tb_me 0).1.2.1 223 = .ok (.iconst 4, 1) := by decide +kernel
theorem d0_224 : decode (tb_me 0).1.2.1 224 = .ok (.iadd, 1) := by decide +kernel
theorem d0_225 : decode (tb_me 0).1.2.1 225 = .ok (.iaload, 1) := by decide +kernel
theorem d0_226 : decode (tb_me 0).1.2.1 226 = .ok (.aload_n 0, 1) := by decide +kernel
theorem d0_227 : decode (tb_me 0).1.2.1 227 = .ok (.iload_n 3, 1) := by decide +kernel
theorem d0_228 : decode (tb_me 0).1.2.1 228 = .ok (.iconst 5, 1) := by decide +kernel
theorem d0_229 : decode (tb_me 0).1.2.1 229 = .ok (.iadd, 1) := by decide +kernel
theorem d0_230 : decode (tb_me 0).1.2.1 230 = .ok (.iaload, 1) := by decide +kernel
theorem d0_231 : decode (tb_me 0).1.2.1 231 = .ok (.invokevirtual 17, 3) := by decide +kernel
theorem d0_234 : decode (tb_me 0).1.2.1 234 = .ok (.if_icmp .eq 880, 3) := by decide +kernel
theorem k0_18 (b : Bool) : tb_lk b 0 18 = (2, 3, 0, 0, 0) := by cases b <;> decide +kernel
theorem k0_22 (b : Bool) : tb_lk b 0 22 = (2, 153, 0, 0, 0) := by cases b <;> decide +kernel
theorem ml3 : (tb_me 3).2 = ((0, 0), (1, 0)) ∧ (tb_me 3).1.2.2.1 = 2 := by decide +kernel
theorem ml153 : (tb_me 153).2 = ((0, 0), (1, 10)) ∧ (tb_me 153).1.2.2.1 = 2 := by decide +kernel
theorem d0_239 : decode (tb_me 0).1.2.1 239 = .ok (.aload_n 1, 1) := by decide +kernel
theorem d0_240 : decode (tb_me 0).1.2.1 240 = .ok (.aload_n 0, 1) := by decide +kernel
theorem d0_241 : decode (tb_me 0).1.2.1 241 = .ok (.iload_n 3, 1) := by decide +kernel
theorem d0_242 : decode (tb_me 0).1.2.1 242 = .ok (.iconst 1, 1) := by decide +kernel
theorem d0_243 : decode (tb_me 0).1.2.1 243 = .ok (.iadd, 1) := by decide +kernel
theorem d0_244 : decode (tb_me 0).1.2.1 244 = .ok (.iaload, 1) := by decide +kernel
theorem d0_245 : decode (tb_me 0).1.2.1 245 = .ok (.invokevirtual 18, 3) := by decide +kernel
theorem d0_248 : decode (tb_me 0).1.2.1 248 = .ok (.aload_n 2, 1) := by decide +kernel
theorem d0_249 : decode (tb_me 0).1.2.1 249 = .ok (.aload_n 0, 1) := by decide +kernel
theorem d0_250 : decode (tb_me 0).1.2.1 250 = .ok (.iload_n 3, 1) := by decide +kernel
theorem d0_251 : decode (tb_me 0).1.2.1 251 = .ok (.iconst 1, 1) := by decide +kernel
theorem d0_252 : decode (tb_me 0).1.2.1 252 = .ok (.iadd, 1) := by decide +kernel
theorem d0_253 : decode (tb_me 0).1.2.1 253 = .ok (.iaload, 1) := by decide +kernel
theorem d0_254 : decode (tb_me 0).1.2.1 254 = .ok (.invokevirtual 22, 3) := by decide +kernel
theorem d0_257 : decode (tb_me 0).1.2.1 257 = .ok (.if_icmp .eq 857, 3) := by decide +kernel
theorem k0_23 (b : Bool) : tb_lk b 0 23 = (2, 4, 0, 0, 0) := by cases b <;> decide +kernel
theorem k0_27 (b : Bool) : tb_lk b 0 27 = (2, 186, 0, 0, 0) := by cases b <;> decide +kernel
theorem ml4 : (tb_me 4).2 = ((0, 0), (0, 0)) ∧ (tb_me 4).1.2.2.1 = 3 := by decide +kernel
theorem ml186 : (tb_me 186).2 = ((0, 0), (0, 10)) ∧ (tb_me 186).1.2.2.1 = 2 := by decide +kernel
theorem d0_262 : decode (tb_me 0).1.2.1 262 = .ok (.aload_n 1, 1) := by decide +kernel
theorem d0_263 : decode (tb_me 0).1.2.1 263 = .ok (.invokevirtual 23, 3) := by decide +kernel
theorem d0_266 : decode (tb_me 0).1.2.1 266 = .ok (.aload_n 2, 1) := by decide +kernel
theorem d0_267 : decode (tb_me 0).1.2.1 267 = .ok (.invokevirtual 27, 3) := by decide +kernel
theorem d0_270 : decode (tb_me 0).1.2.1 270 = .ok (.if_icmp .eq 844, 3) := by decide +kernel
theorem k0_28 (b : Bool) : tb_lk b 0 28 = (2, 5, 0, 0, 0) := by cases b <;> decide +kernel
theorem k0_31 (b : Bool) : tb_lk b 0 31 = (2, 185, 0, 0, 0) := by cases b <;> decide +kernel
theorem ml5 : (tb_me 5).2 = ((0, 0), (0, 0)) ∧ (tb_me 5).1.2.2.1 = 2 := by decide +kernel
theorem ml185 : (tb_me 185).2 = ((0, 0), (0, 10)) ∧ (tb_me 185).1.2.2.1 = 1 := by decide +kernel
theorem d0_275 : decode (tb_me 0).1.2.1 275 = .ok (.aload_n 1, 1) := by decide +kernel
theorem d0_276 : decode (tb_me 0).1.2.1 276 = .ok (.invokevirtual 28, 3) := by decide +kernel
theorem d0_279 : decode (tb_me 0).1.2.1 279 = .ok (.aload_n 2, 1) := by decide +kernel
theorem d0_280 : decode (tb_me 0).1.2.1 280 = .ok (.invokevirtual 31, 3) := by decide +kernel
theorem d0_283 : decode (tb_me 0).1.2.1 283 = .ok (.if_icmp .eq 831, 3) := by decide +kernel
theorem k0_32 (b : Bool) : tb_lk b 0 32 = (2, 6, 0, 0, 0) := by cases b <;> decide +kernel
theorem k0_36 (b : Bool) : tb_lk b 0 36 = (2, 204, 0, 0, 0) := by cases b <;> decide +kernel
theorem ml6 : (tb_me 6).2 = ((0, 0), (2, 0)) ∧ (tb_me 6).1.2.2.1 = 4 := by decide +kernel
theorem ml204 : (tb_me 204).2 = ((0, 0), (2, 10)) ∧ (tb_me 204).1.2.2.1 = 3 := by decide +kernel
theorem d0_288 : decode (tb_me 0).1.2.1 288 = .ok (.aload_n 1, 1) := by decide +kernel
theorem d0_289 : decode (tb_me 0).1.2.1 289 = .ok (.aload_n 0, 1) := by decide +kernel
theorem d0_290 : decode (tb_me 0).1.2.1 290 = .ok (.iload_n 3, 1) := by decide +kernel
theorem d0_291 : decode (tb_me 0).1.2.1 291 = .ok (.iconst 1, 1) := by decide +kernel
theorem d0_292 : decode (tb_me 0).1.2.1 292 = .ok (.iadd, 1) := by decide +kernel
theorem d0_293 : decode (tb_me 0).1.2.1 293 = .ok (.iaload, 1) := by decide +kernel
theorem d0_294 : decode (tb_me 0).1.2.1 294 = .ok (.aload_n 0, 1) := by decide +kernel
theorem d0_295 : decode (tb_me 0).1.2.1 295 = .ok (.iload_n 3, 1) := by decide +kernel
theorem d0_296 : decode (tb_me 0).1.2.1 296 = .ok (.iconst 2, 1) := by decide +kernel
theorem d0_297 : decode (tb_me 0).1.2.1 297 = .ok (.iadd, 1) := by decide +kernel
theorem d0_298 : decode (tb_me 0).1.2.1 298 = .ok (.iaload, 1) := by decide +kernel
theorem d0_299 : decode (tb_me 0).1.2.1 299 = .ok (.invokevirtual 32, 3) := by decide +kernel
theorem d0_302 : decode (tb_me 0).1.2.1 302 = .ok (.aload_n 2, 1) := by decide +kernel
theorem d0_303 : decode (tb_me 0).1.2.1 303 = .ok (.aload_n 0, 1) := by decide +kernel
theorem d0_304 : decode (tb_me 0).1.2.1 304 = .ok (.iload_n 3, 1) := by decide +kernel
theorem d0_305 : decode (tb_me 0).1.2.1 305 = .ok (.iconst 1, 1) := by decide +kernel
theorem d0_306 : decode (tb_me 0).1.2.1 306 = .ok (.iadd, 1) := by decide +kernel
theorem d0_307 : decode (tb_me 0).1.2.1 307 = .ok (.iaload, 1) := by decide +kernel
theorem d0_308 : decode (tb_me 0).1.2.1 308 = .ok (.aload_n 0, 1) := by decide +kernel
theorem d0_309 : decode (tb_me 0).1.2.1 309 = .ok (.iload_n 3, 1) := by decide +kernel
theorem d0_310 : decode (tb_me 0).1.2.1 310 = .ok (.iconst 2, 1) := by decide +kernel
theorem d0_311 : decode (tb_me 0).1.2.1 311 = .ok (.iadd, 1) := by decide +kernel
theorem d0_312 : decode (tb_me 0).1.2.1 312 = .ok (.iaload, 1) := by decide +kernel
theorem d0_313 : decode (tb_me 0).1.2.1 313 = .ok (.invokevirtual 36, 3) := by decide +kernel
theorem d0_316 : decode (tb_me 0).1.2.1 316 = .ok (.if_icmp .eq 798, 3) := by decide +kernel
theorem k0_37 (b : Bool) : tb_lk b 0 37 = (2, 7, 0, 0, 0) := by cases b <;> decide +kernel
theorem k0_40 (b : Bool) : tb_lk b 0 40 = (2, 205, 0, 0, 0) := by cases b <;> decide +kernel
theorem ml7 : (tb_me 7).2 = ((0, 0), (2, 0)) ∧ (tb_me 7).1.2.2.1 = 4 := by decide +kernel
theorem ml205 : (tb_me 205).2 = ((0, 0), (2, 10)) ∧ (tb_me 205).1.2.2.1 = 3 := by decide +kernel
theorem d0_321 : decode (tb_me 0).1.2.1 321 = .ok (.aload_n 1, 1) := by decide +kernel
theorem d0_322 : decode (tb_me 0).1.2.1 322 = .ok (.aload_n 0, 1) := by decide +kernel
theorem d0_323 : decode (tb_me 0).1.2.1 323 = .ok (.iload_n 3, 1) := by decide +kernel
theorem d0_324 : decode (tb_me 0).1.2.1 324 = .ok (.iconst 1, 1) := by decide +kernel
theorem d0_325 : decode (tb_me 0).1.2.1 325 = .ok (.iadd, 1) := by decide +kernel
theorem d0_326 : decode (tb_me 0).1.2.1 326 = .ok (.iaload, 1) := by decide +kernel
theorem d0_327 : decode (tb_me 0).1.2.1 327 = .ok (.aload_n 0, 1) := by decide +kernel
theorem d0_328 : decode (tb_me 0).1.2.1 328 = .ok (.iload_n 3, 1) := by decide +kernel
theorem d0_329 : decode (tb_me 0).1.2.1 329 = .ok (.iconst 2, 1) := by decide +kernel
theorem d0_330 : decode (tb_me 0).1.2.1 330 = .ok (.iadd, 1) := by decide +kernel
theorem d0_331 : decode (tb_me 0).1.2.1 331 = .ok (.iaload, 1) := by decide +kernel
theorem d0_332 : decode (tb_me 0).1.2.1 332 = .ok (.invokevirtual 37, 3) := by decide +kernel
theorem d0_335 : decode (tb_me 0).1.2.1 335 = .ok (.aload_n 2, 1) := by decide +kernel
theorem d0_336 : decode (tb_me 0).1.2.1 336 = .ok (.aload_n 0, 1) := by decide +kernel
theorem d0_337 : decode (tb_me 0).1.2.1 337 = .ok (.iload_n 3, 1) := by decide +kernel
theorem d0_338 : decode (tb_me 0).1.2.1 338 = .ok (.iconst 1, 1) := by decide +kernel
theorem d0_339 : decode (tb_me 0).1.2.1 339 = .ok (.iadd, 1) := by decide +kernel
theorem d0_340 : decode (tb_me 0).1.2.1 340 = .ok (.iaload, 1) := by decide +kernel
theorem d0_341 : decode (tb_me 0).1.2.1 341 = .ok (.aload_n 0, 1) := by decide +kernel
theorem d0_342 : decode (tb_me 0).1.2.1 342 = .ok (.iload_n 3, 1) := by decide +kernel
theorem d0_343 : decode (tb_me 0).1.2.1 343 = .ok (.iconst 2, 1) := by decide +kernel
theorem d0_344 : decode (tb_me 0).1.2.1 344 = .ok (.iadd, 1) := by decide +kernel
theorem d0_345 : decode (tb_me 0).1.2.1 345 = .ok (.iaload, 1) := by decide +kernel
theorem d0_346 : decode (tb_me 0).1.2.1 346 = .ok (.invokevirtual 40, 3) := by decide +kernel
theorem d0_349 : decode (tb_me 0).1.2.1 349 = .ok (.if_icmp .eq 765, 3) := by decide +kernel
theorem k0_41 (b : Bool) : tb_lk b 0 41 = (2, 8, 0, 0, 0) := by cases b <;> decide +kernel
theorem k0_44 (b : Bool) : tb_lk b 0 44 = (2, 206, 0, 0, 0) := by cases b <;> decide +kernel
theorem ml8 : (tb_me 8).2 = ((0, 0), (2, 0)) ∧ (tb_me 8).1.2.2.1 = 3 := by decide +kernel
theorem ml206 : (tb_me 206).2 = ((0, 0), (2, 10)) ∧ (tb_me 206).1.2.2.1 = 4 := by decide +kernel
theorem d0_354 : decode (tb_me 0).1.2.1 354 = .ok (.aload_n 1, 1) := by decide +kernel
theorem d0_355 : decode (tb_me 0).1.2.1 355 = .ok (.aload_n 0, 1) := by decide +kernel
theorem d0_356 : decode (tb_me 0).1.2.1 356 = .ok (.iload_n 3, 1) := by decide +kernel
theorem d0_357 : decode (tb_me 0).1.2.1 357 = .ok (.iconst 1, 1) := by decide +kernel
theorem d0_358 : decode (tb_me 0).1.2.1 358 = .ok (.iadd, 1) := by decide +kernel
theorem d0_359 : decode (tb_me 0).1.2.1 359 = .ok (.iaload, 1) := by decide +kernel
theorem d0_360 : decode (tb_me 0).1.2.1 360 = .ok (.aload_n 0, 1) := by decide +kernel
theorem d0_361 : decode (tb_me 0).1.2.1 361 = .ok (.iload_n 3, 1) := by decide +kernel
theorem d0_362 : decode (tb_me 0).1.2.1 362 = .ok (.iconst 2, 1) := by decide +kernel
theorem d0_363 : decode (tb_me 0).1.2.1 363 = .ok (.iadd, 1) := by decide +kernel
theorem d0_364 : decode (tb_me 0).1.2.1 364 = .ok (.iaload, 1) := by decide +kernel
theorem d0_365 : decode (tb_me 0).1.2.1 365 = .ok (.invokevirtual 41, 3) := by decide +kernel
theorem d0_368 : decode (tb_me 0).1.2.1 368 = .ok (.aload_n 2, 1) := by decide +kernel
theorem d0_369 : decode (tb_me 0).1.2.1 369 = .ok (.aload_n 0, 1) := by decide +kernel
theorem d0_370 : decode (tb_me 0).1.2.1 370 = .ok (.iload_n 3, 1) := by decide +kernel
theorem d0_371 : decode (tb_me 0).1.2.1 371 = .ok (.iconst 1, 1) := by decide +kernel
theorem d0_372 : decode (tb_me 0).1.2.1 372 = .ok (.iadd, 1) := by decide +kernel
theorem d0_373 : decode (tb_me 0).1.2.1 373 = .ok (.iaload, 1) := by decide +kernel
theorem d0_374 : decode (tb_me 0).1.2.1 374 = .ok (.aload_n 0, 1) := by decide +kernel
theorem d0_375 : decode (tb_me 0).1.2.1 375 = .ok (.iload_n 3, 1) := by decide +kernel
theorem d0_376 : decode (tb_me 0).1.2.1 376 = .ok (.iconst 2, 1) := by decide +kernel
theorem d0_377 : decode (tb_me 0).1.2.1 377 = .ok (.iadd, 1) := by decide +kernel
theorem d0_378 : decode (tb_me 0).1.2.1 378 = .ok (.iaload, 1) := by decide +kernel
theorem d0_379 : decode (tb_me 0).1.2.1 379 = .ok (.invokevirtual 44, 3) := by decide +kernel
theorem d0_382 : decode (tb_me 0).1.2.1 382 = .ok (.if_icmp .eq 732, 3) := by decide +kernel
theorem k0_45 (b : Bool) : tb_lk b 0 45 = (2, 9, 0, 0, 0) := by cases b <;> decide +kernel
theorem k0_48 (b : Bool) : tb_lk b 0 48 = (2, 212, 0, 0, 0) := by cases b <;> decide +kernel
theorem ml9 : (tb_me 9).2 = ((0, 0), (2, 0)) ∧ (tb_me 9).1.2.2.1 = 6 := by decide +kernel
theorem ml212 : (tb_me 212).2 = ((0, 0), (2, 10)) ∧ (tb_me 212).1.2.2.1 = 5 := by decide +kernel
theorem d0_387 : decode (tb_me 0).1.2.1 387 = .ok (.aload_n 1, 1) := by decide +kernel
theorem d0_388 : decode (tb_me 0).1.2.1 388 = .ok (.aload_n 0, 1) := by decide +kernel
theorem d0_389 : decode (tb_me 0).1.2.1 389 = .ok (.iload_n 3, 1) := by decide +kernel
theorem d0_390 : decode (tb_me 0).1.2.1 390 = .ok (.iconst 1, 1) := by decide +kernel
theorem d0_391 : decode (tb_me 0).1.2.1 391 = .ok (.iadd, 1) := by decide +kernel
theorem d0_392 : decode (tb_me 0).1.2.1 392 = .ok (.iaload, 1) := by decide +kernel
theorem d0_393 : decode (tb_me 0).1.2.1 393 = .ok (.aload_n 0, 1) := by decide +kernel
theorem d0_394 : decode (tb_me 0).1.2.1 394 = .ok (.iload_n 3, 1) := by decide +kernel
theorem d0_395 : decode (tb_me 0).1.2.1 395 = .ok (.iconst 2, 1) := by decide +kernel
theorem d0_396 : decode (tb_me 0).1.2.1 396 = .ok (.iadd, 1) := by decide +kernel
theorem d0_397 : decode (tb_me 0).1.2.1 397 = .ok (.iaload, 1) := by decide +kernel
theorem d0_398 : decode (tb_me 0).1.2.1 398 = .ok (.invokevirtual 45, 3) := by decide +kernel
theorem d0_401 : decode (tb_me 0).1.2.1 401 = .ok (.aload_n 2, 1) := by decide +kernel
theorem d0_402 : decode (tb_me 0).1.2.1 402 = .ok (.aload_n 0, 1) := by decide +kernel
theorem d0_403 : decode (tb_me 0).1.2.1 403 = .ok (.iload_n 3, 1) := by decide +kernel
theorem d0_404 : decode (tb_me 0).1.2.1 404 = .ok (.iconst 1, 1) := by decide +kernel
theorem d0_405 : decode (tb_me 0).1.2.1 405 = .ok (.iadd, 1) := by decide +kernel
theorem d0_406 : decode (tb_me 0).1.2.1 406 = .ok (.iaload, 1) := by decide +kernel
theorem d0_407 : decode (tb_me 0).1.2.1 407 = .ok (.aload_n 0, 1) := by decide +kernel
theorem d0_408 : decode (tb_me 0).1.2.1 408 = .ok (.iload_n 3, 1) := by decide +kernel
theorem d0_409 : decode (tb_me 0).1.2.1 409 = .ok (.iconst 2, 1) := by decide +kernel
theorem d0_410 : decode (tb_me 0).1.2.1 410 = .ok (.iadd, 1) := by decide +kernel
theorem d0_411 : decode (tb_me 0).1.2.1 411 = .ok (.iaload, 1) := by decide +kernel
theorem d0_412 : decode (tb_me 0).1.2.1 412 = .ok (.invokevirtual 48, 3) := by decide +kernel
theorem d0_415 : decode (tb_me 0).1.2.1 415 = .ok (.if_icmp .eq 699, 3) := by decide +kernel
theorem k0_49 (b : Bool) : tb_lk b 0 49 = (2, 10, 0, 0, 0) := by cases b <;> decide +kernel
theorem k0_52 (b : Bool) : tb_lk b 0 52 = (2, 226, 0, 0, 0) := by cases b <;> decide +kernel
theorem ml10 : (tb_me 10).2 = ((0, 0), (2, 0)) ∧ (tb_me 10).1.2.2.1 = 4 := by decide +kernel
theorem ml226 : (tb_me 226).2 = ((0, 0), (2, 10)) ∧ (tb_me 226).1.2.2.1 = 4 := by decide +kernel
theorem d0_420 : decode (tb_me 0).1.2.1 420 = .ok (.aload_n 1, 1) := by decide +kernel
theorem d0_421 : decode (tb_me 0).1.2.1 421 = .ok (.aload_n 0, 1) := by decide +kernel
theorem d0_422 : decode (tb_me 0).1.2.1 422 = .ok (.iload_n 3, 1) := by decide +kernel
theorem d0_423 : decode (tb_me 0).1.2.1 423 = .ok (.iconst 1, 1) := by decide +kernel
theorem d0_424 : decode (tb_me 0).1.2.1 424 = .ok (.iadd, 1) := by decide +kernel
theorem d0_425 : decode (tb_me 0).1.2.1 425 = .ok (.iaload, 1) := by decide +kernel
theorem d0_426 : decode (tb_me 0).1.2.1 426 = .ok (.aload_n 0, 1) := by decide +kernel
theorem d0_427 : decode (tb_me 0).1.2.1 427 = .ok (.iload_n 3, 1) := by decide +kernel
theorem d0_428 : decode (tb_me 0).1.2.1 428 = .ok (.iconst 2, 1) := by decide +kernel
theorem d0_429 : decode (tb_me 0).1.2.1 429 = .ok (.iadd, 1) := by decide +kernel
theorem d0_430 : decode (tb_me 0).1.2.1 430 = .ok (.iaload, 1) := by decide +kernel
theorem d0_431 : decode (tb_me 0).1.2.1 431 = .ok (.invokevirtual 49, 3) := by decide +kernel
theorem d0_434 : decode (tb_me 0).1.2.1 434 = .ok (.aload_n 2, 1) := by decide +kernel
theorem d0_435 : decode (tb_me 0).1.2.1 435 = .ok (.aload_n 0, 1) := by decide +kernel
theorem d0_436 : decode (tb_me 0).1.2.1 436 = .ok (.iload_n 3, 1) := by decide +kernel
theorem d0_437 : decode (tb_me 0).1.2.1 437 = .ok (.iconst 1, 1) := by decide +kernel
theorem d0_438 : decode (tb_me 0).1.2.1 438 = .ok (.iadd, 1) := by decide +kernel
theorem d0_439 : decode (tb_me 0).1.2.1 439 = .ok (.iaload, 1) := by decide +kernel
theorem d0_440 : decode (tb_me 0).1.2.1 440 = .ok (.aload_n 0, 1) := by decide +kernel
theorem d0_441 : decode (tb_me 0).1.2.1 441 = .ok (.iload_n 3, 1) := by decide +kernel
theorem d0_442 : decode (tb_me 0).1.2.1 442 = .ok (.iconst 2, 1) := by decide +kernel
theorem d0_443 : decode (tb_me 0).1.2.1 443 = .ok (.iadd, 1) := by decide +kernel
theorem d0_444 : decode (tb_me 0).1.2.1 444 = .ok (.iaload, 1) := by decide +kernel
theorem d0_445 : decode (tb_me 0).1.2.1 445 = .ok (.invokevirtual 52, 3) := by decide +kernel
theorem d0_448 : decode (tb_me 0).1.2.1 448 = .ok (.if_icmp .eq 666, 3) := by decide +kernel
theorem k0_53 (b : Bool) : tb_lk b 0 53 = (2, 11, 0, 0, 0) := by cases b <;> decide +kernel
theorem k0_56 (b : Bool) : tb_lk b 0 56 = (2, 228, 0, 0, 0) := by cases b <;> decide +kernel
theorem ml11 : (tb_me 11).2 = ((0, 0), (0, 0)) ∧ (tb_me 11).1.2.2.1 = 1 := by decide +kernel
theorem ml228 : (tb_me 228).2 = ((0, 0), (0, 10)) ∧ (tb_me 228).1.2.2.1 = 1 := by decide +kernel
theorem d0_453 : decode (tb_me 0).1.2.1 453 = .ok (.aload_n 1, 1) := by decide +kernel
theorem d0_454 : decode (tb_me 0).1.2.1 454 = .ok (.invokevirtual 53, 3) := by decide +kernel
theorem d0_457 : decode (tb_me 0).1.2.1 457 = .ok (.aload_n 2, 1) := by decide +kernel
theorem d0_458 : decode (tb_me 0).1.2.1 458 = .ok (.invokevirtual 56, 3) := by decide +kernel
theorem d0_461 : decode (tb_me 0).1.2.1 461 = .ok (.if_icmp .eq 653, 3) := by decide +kernel
theorem k0_57 (b : Bool) : tb_lk b 0 57 = (2, 12, 0, 0, 0) := by cases b <;> decide +kernel
theorem k0_61 (b : Bool) : tb_lk b 0 61 = (2, 229, 0, 0, 0) := by cases b <;> decide +kernel
theorem ml12 : (tb_me 12).2 = ((0, 0), (2, 0)) ∧ (tb_me 12).1.2.2.1 = 3 := by decide +kernel
theorem ml229 : (tb_me 229).2 = ((0, 0), (2, 10)) ∧ (tb_me 229).1.2.2.1 = 3 := by decide +kernel
theorem d0_466 : decode (tb_me 0).1.2.1 466 = .ok (.aload_n 1, 1) := by decide +kernel
theorem d0_467 : decode (tb_me 0).1.2.1 467 = .ok (.aload_n 0, 1) := by decide +kernel
theorem d0_468 : decode (tb_me 0).1.2.1 468 = .ok (.iload_n 3, 1) := by decide +kernel
theorem d0_469 : decode (tb_me 0).1.2.1 469 = .ok (.iconst 1, 1) := by decide +kernel
theorem d0_470 : decode (tb_me 0).1.2.1 470 = .ok (.iadd, 1) := by decide +kernel
theorem d0_471 : decode (tb_me 0).1.2.1 471 = .ok (.iaload, 1) := by decide +kernel
