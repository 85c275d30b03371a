/-! The pure machine, part 14: the whole run. -/
section PMX
variable {l : Launch} {D : va_G} {cl : List vw_C} {ft : Nat → Nat → FieldType} {kt : pm_Kt} {me : Nat → pm_Me} {lk : Nat → Nat → pm_Lk} {Tg : List Cond} {nw : List (String × Nat × MethodName × String)} {ao : List String} {zs : List (String × String × String × Value)} {tx : List (String × Nat × String × Nat)}
theorem pm_inj {ad : Nat → Nat} {ca : Nat → ClassId} {h : pm_H} {A : Nat → Prop} (hD : va_D A (pm_ws cl ft ad ca h)) : ∀ x y, x < h.1.length → y < h.1.length → ad x = ad y → x = y := by
  intro x y hx hy e
  exact hD.1 x y _ _ (pm_ws_get (List.getElem?_eq_getElem hx)) (pm_ws_get (List.getElem?_eq_getElem hy)) e
set_option maxHeartbeats 1000000 in
theorem pm_snd (hT1 : ∀ w ∈ Tg, goodWord w = true) (hC : pm_okC Tg cl ft) (hAr : pm_okA Tg) (hL : ∀ i x, pm_okL Tg cl me nw ao zs tx (me i).1.1.cls x (lk i x)) : ∀ n, pm_Snd l D cl ft kt me lk Tg nw ao zs tx n := by
  intro n
  induction n with
  | zero => intro d i kc ks pc ls st h v h' hr; cases hr
  | succ n ih =>
    intro d i kc ks pc ls st h v h' hr p e R s m args below meth c Z A ad ca H locs cells slots lsC hx hb hml hown hnm hts hKs hHa hc hP hD hS hA hLr hst hls hd hlo hkc hks fin
    rw [pm] at hr
    split at hr
    · cases hr
    · rename_i ins len hdg
      split at hr
      · cases hr
      · rename_i hl
        have hl : pm_lok len ins = true := by simpa using hl
        have hml' : c.maxLocals = lsC.size := hml.trans hLr.2.1.symm
        split at hr
        · cases hr
        · rename_i kc' ks' pc' ls' st' h1 ho
          unfold pm_one at ho
          split at ho
          · rename_i n1 st1 hq
            cases ho
            exact pm_stk_W hx hb hdg hl hq (ih _ _ _ _ _ _ _ _ _ _ hr p e R s m args below meth c Z A ad ca H locs cells slots lsC hx hb hml hown hnm hts hKs hHa hc hP hD hS hA hLr (pm_stk_ok hq hst) hls hd hlo hkc hks fin)
          · split at ho
            · rename_i n1 v1 hq
              cases ho
              exact pm_ld_W hx hb hdg hl hq hLr (ih _ _ _ _ _ _ _ _ _ _ hr p e R s m args below meth c Z A ad ca H locs cells slots lsC hx hb hml hown hnm hts hKs hHa hc hP hD hS hA hLr (pm_oks_c.mpr ⟨pm_ld_ok hq hls, hst⟩) hls hd hlo hkc hks fin)
            · split at ho
              · rename_i n1 ls1 st1 hq
                cases ho
                obtain ⟨g1, g2⟩ := pm_sto_ok hq hls hst
                exact pm_sto_W hx hb hdg hl hq hLr (fun lsC' hLr' => ih _ _ _ _ _ _ _ _ _ _ hr p e R s m args below meth c Z A ad ca H locs cells slots lsC' hx hb hml hown hnm hts hKs hHa hc hP hD hS hA hLr' g2 g1 hd hlo hkc hks fin)
              · split at ho
                · rename_i t1 st1 hq
                  cases ho
                  exact pm_br_W hx hb hdg hl hq (pm_inj hD) (ih _ _ _ _ _ _ _ _ _ _ hr p e R s m args below meth c Z A ad ca H locs cells slots lsC hx hb hml hown hnm hts hKs hHa hc hP hD hS hA hLr (pm_br_ok hq hst) hls hd hlo hkc hks fin)
                · split at ho
                  · rename_i kc1 ks1 pc1 st1 h2 hq
                    cases ho
                    refine pm_hp_W hx hb hml' hown hnm hts hC hAr (hL i) hdg hl hq hKs hHa hc hP hD hS hA hst hd hlo hkc hks (fun ad' ca' H1 locs1 cells1 slots1 g1 g2 g3 g4 g5 g6 g7 g8 g9 g10 => ?_)
                    refine ih _ _ _ _ _ _ _ _ _ _ hr p e R s m args below meth c Z A ad' ca' H1 locs1 cells1 slots1 lsC hx hb hml hown hnm hts (hKs.ext g1) g2 g3 g5 g6 g7 hA (hLr.ext hls g1) g8 (pm_oks_mono g4 hls) hd hlo (Nat.le_trans g9 hkc) (Nat.le_trans g10 hks) ?_
                    intro pc2 len2 ins2 ad2 ca2 H2 locs2 cells2 slots2 lsC2 f1 f2 f3 f4 f5 f6 f7 f8 f9 f10 f11 f12 f13
                    exact fin pc2 len2 ins2 ad2 ca2 H2 locs2 cells2 slots2 lsC2 f1 f2 f3 (g1.trans g4 f4) (Nat.le_trans g4 f5) f6 f7 f8 f9 f10 f11 (Nat.le_trans f12 g9) (Nat.le_trans f13 g10)
                  · split at ho
                    · cases ho
                    · split at ho
                      · cases ho
                      · cases ho
        · rename_i v1 ho
          cases hr
          unfold pm_one at ho
          split at ho
          · cases ho
          · split at ho
            · cases ho
            · split at ho
              · cases ho
              · split at ho
                · cases ho
                · split at ho
                  · cases ho
                  · split at ho
                    · cases ho
                    · split at ho
                      · rename_i v2 hq
                        cases ho
                        have e1 := pm_ret_inv hq
                        subst e1
                        refine fin pc len ins ad ca H locs cells slots lsC hdg hl hq pm_ex.rf (Nat.le_refl _) hHa hc hP hD hS ?_ (by omega) (by omega)
                        intro x hx2
                        subst hx2
                        exact hst x (by simp)
                      · cases ho
        · rename_i j as rest ho
          unfold pm_one at ho
          split at ho
          · cases ho
          · split at ho
            · cases ho
            · split at ho
              · cases ho
              · split at ho
                · cases ho
                · split at ho
                  · cases ho
                  · split at ho
                    · rename_i q1 hq
                      cases ho
                      split at hr
                      · cases hr
                      · rename_i d'
                        split at hr
                        · cases hr
                        · rename_i v1 h1 hcal
                          obtain ⟨oas, orest⟩ := pm_cal_ok hq hst
                          obtain ⟨hrun, c1, c2⟩ := pm_cal_run (D := D) (ft := ft) (l := l) (e := e) (below := below) (meth := meth) (Qc := pm_Qc D cl ft ad ca h H.size v1 h1) (free := va_A (pm_ws cl ft ad ca h) H.size) hx hb hml' hown hts hT1 (hL i) hdg hl hq hKs hHa hP hD hS hA hd hlo hkc hks (fun hM hsum => pm_met ih hM hcal hsum hc oas)
                          have hfree : ∀ q, va_A (pm_ws cl ft ad ca h) H.size q → A q := by
                            rintro q (⟨k, e, hk⟩ | hq)
                            · exact hD.2 k _ hk
                            · exact hA q (Nat.le_trans hS.1 hq)
                          refine pm_call hrun hS hfree hfree (fun st₀ o t hQ => hQ.2) (fun v0 st₀ t locs1 h0 hal hQ hS1 => ?_)
                          obtain ⟨⟨ad1, ca1, hv, hex, hle, hc1, hov, hHa1, hP1, hD1⟩, -⟩ := hQ
                          have hv : v0 = v1.map (pm_cv ad1) := by injection hv
                          subst hv
                          have hstk : (v1.map (pm_cv ad1)).toList ++ rest.map (pm_cv ad) = (v1.toList ++ rest).map (pm_cv ad1) := by
                            rw [List.map_append, pm_map_ext hex orest]
                            congr 1
                            cases v1 <;> rfl
                          rw [hstk]
                          refine ih _ _ _ _ _ _ _ _ _ _ hr p e R s m args below meth c Z A ad1 ca1 t.heap locs1 _ _ lsC hx hb hml hown hnm hts (hKs.ext hex) (hHa1.moved hal.symm) hc1 hP1 (hD1.weaken (fun k q _ hq => hfree q.1 hq)) hS1 hA (hLr.ext hls hex) ?_ (pm_oks_mono hle hls) hd hlo (by omega) (by omega) ?_
                          · refine pm_oks_app (fun x hx2 => ?_) (pm_oks_mono hle orest)
                            cases v1 with
                            | none => simp at hx2
                            | some y => simp at hx2; subst hx2; exact hov _ rfl
                          · intro pc2 len2 ins2 ad2 ca2 H2 locs2 cells2 slots2 lsC2 f1 f2 f3 f4 f5 f6 f7 f8 f9 f10 f11 f12 f13
                            exact fin pc2 len2 ins2 ad2 ca2 H2 locs2 cells2 slots2 lsC2 f1 f2 f3 (hex.trans hle f4) (Nat.le_trans hle f5) f6 f7 f8 f9 f10 f11 (by omega) (by omega)
                    · split at ho
                      · cases ho
                      · cases ho
end PMX
