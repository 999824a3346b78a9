/-! THE REFERENCE: a line -/

theorem okMov : okW 52 wMov := ⟨by decide, ⟨_, rfl, rfl⟩, by decide, by decide⟩
theorem okEbb : okW 53 wEbb := ⟨by decide, ⟨_, rfl, rfl⟩, by decide, by decide⟩
theorem okWai : okW 54 wWai := ⟨by decide, ⟨_, rfl, rfl⟩, by decide, by decide⟩
theorem okFog : okW 55 wFog := ⟨by decide, ⟨_, rfl, rfl⟩, by decide, by decide⟩
theorem okWat : okW 56 wWat := ⟨by decide, ⟨_, rfl, rfl⟩, by decide, by decide⟩
theorem okHei : okW 60 wHei := ⟨by decide, ⟨_, rfl, rfl⟩, by decide, by decide⟩
theorem okQua : okW 61 wQua := ⟨by decide, ⟨_, rfl, rfl⟩, by decide, by decide⟩
theorem okRoc : okW 62 wRoc := ⟨by decide, ⟨_, rfl, rfl⟩, by decide, by decide⟩
theorem okLad : okW 63 wLad := ⟨by decide, ⟨_, rfl, rfl⟩, by decide, by decide⟩
theorem okQui : okW 64 wQui := ⟨by decide, ⟨_, rfl, rfl⟩, by decide, by decide⟩
theorem okSan : okW 51 wSan := ⟨by decide, ⟨_, rfl, rfl⟩, by decide, by decide⟩
theorem okWin : okW 50 (wVal 3) := ⟨by decide, ⟨_, rfl, rfl⟩, by decide, by decide⟩
section RH1
variable {w : jWD} {l : Launch} {n : Nat} {I J : Nat → Nat → Int32} {L : Nat → Nat → Int64} {R : Nat → Nat → Option Nat}

set_option maxHeartbeats 1000000 in
set_option maxRecDepth 20000 in
theorem tX11_readExpression_b (hW : jWok w l) (hR : RS R) {sz b bd : Nat} {tp : Nat → Nat} (hP : PSt I sz tp b bd) (hb : bd ≠ 0) (a : Int32) : jCD w l mX11_readExpression 1 [.ref 1069, .int a] (n, shE, I, L, R) none (n, shE, I, L, R) := by
  refine jCD_of hW (by decide) rfl (Nat.le_of_ble_eq_true rfl) ?_
  have hb5 := hP.2.2.2.2
  refine jx_aload_n dX11_readExpression_0 rfl ?_
  refine jx_getIE dX11_readExpression_1 flX11_240 rfl rfl (hP.2.2.2.1) ?_
  refine jx_ifN_eq (a := bd) 8 dX11_readExpression_4 (by decide) (by omega) (fun h4 => ?_) (fun h4 => ?_)
  · exact absurd h4 hb
  · refine jx_vret dX11_readExpression_7 rfl ?_
    exact ⟨rfl, rfl⟩
set_option maxHeartbeats 1000000 in
set_option maxRecDepth 20000 in
theorem tX11_readLine (hW : jWok w l) (hR : RS R) {sz b bp W H np len seen : Nat} {tp : Nat → Nat} {T : Nat → Nat → Int32} (hP : P3 I sz tp (b, 0, bp)) (hT : TLS I T) (hB : BT T W H np len) (hs : seen < 64) (hs0 : seen &&& 32 = 0 → T 1072 16 = nI 0) : jRi w l mX11_readLine 46 [.ref 1069, .int (nI seen)] (n, shE, I, L, R) (fun v t => v = nI (seen ||| kLn tp sz (b, 0, bp)) ∧ ∃ J, t = (n, shE, J, L, R) ∧ eqM I J ∧ P3 J sz tp (pMk tp sz 59 (liBody tp sz seen (b, 0, bp) T).1) ∧ ((pMk tp sz 59 (liBody tp sz seen (b, 0, bp) T).1).2.1 = 0 → TLS J (liBody tp sz seen (b, 0, bp) T).2)) := by
  refine jRi_of hW (by decide) rfl (Nat.le_of_ble_eq_true rfl) ?_
  have hbz : b ≤ sz := hP.1.2.2.1
  have kl64 : kLn tp sz (b, 0, bp) < 64 := by
    unfold kLn
    split <;> (try split) <;> (try split) <;> (try split) <;> (try split) <;> (try split) <;> decide
  have key : ∀ (J0 : Nat → Nat → Int32) (r : (Nat × Nat × Nat) × (Nat → Nat → Int32)) (k : Nat), kLn tp sz (b, 0, bp) = k → eqM I J0 → P3 J0 sz tp r.1 → (r.1.2.1 = 0 → TLS J0 r.2) → liBody tp sz seen (b, 0, bp) T = r → jWP w l mX11_readLine 46 0 0 (fun v t => ∃ r, v = some (.int r) ∧ (r = nI (seen ||| kLn tp sz (b, 0, bp)) ∧ ∃ J, t = (n, shE, J, L, R) ∧ eqM I J ∧ P3 J sz tp (pMk tp sz 59 (liBody tp sz seen (b, 0, bp) T).1) ∧ ((pMk tp sz 59 (liBody tp sz seen (b, 0, bp) T).1).2.1 = 0 → TLS J (liBody tp sz seen (b, 0, bp) T).2))) (fun _ _ => False) 355 [(0, .ref 1069), (1, .int (nI seen)), (2, .int (nI k))] [] (n, shE, J0, L, R) := by
    intro J0 r k hk he0 hP0 hT0 hr
    rw [hr]
    subst hk
    refine jx_aload_n dX11_readLine_355 rfl ?_
    refine jx_bipush (v := 59) dX11_readLine_356 (by decide) ?_
    refine jx_VRv (as := [.int _]) dX11_readLine_358 mlX11_281 okX11_mark viX11_mark rfl rfl rfl rfl rfl (by decide) (Nat.le_of_ble_eq_true rfl) (tX11_mark (c := 59) (b := r.1.1) (bd := r.1.2.1) (bp := r.1.2.2) hW hR hP0 (by omega)) (fun t358 hq358 => ?_)
    obtain ⟨J1, rfl, he1, hP1⟩ := hq358
    refine jx_iload_n dX11_readLine_361 rfl ?_
    refine jx_iload_n dX11_readLine_362 rfl ?_
    refine jx_iorE (z := nI (seen ||| (kLn tp sz (b, 0, bp)))) dX11_readLine_363 (or64 _ hs _ kl64) ?_
    refine jx_iret dX11_readLine_364 rfl ?_
    refine ⟨_, rfl, rfl, _, rfl, eqM_t he0 (eqL_M (eqN_L he1)), hP1, fun q => ?_⟩
    have hr0 : r.1.2.1 = 0 := by
      by_cases z : r.1.2.1 = 0
      · exact z
      · have e : pMk tp sz 59 r.1 = r.1 := by unfold pMk; rw [if_neg z]
        rw [e] at q
        exact q
    exact TLS_s (hT0 hr0) (eqN_L he1) (sameR_r _) (TL_n (hT0 hr0).1 he1)
  have hw5 : P3 (wrg I 0 5) sz tp (b, 5, b) := P3_wr hP (k := 5) (by omega) (by omega)
  have h5n : ((b, 5, b) : Nat × Nat × Nat).2.1 ≠ 0 := by show 5 ≠ 0; decide
  have hT5 := TL_n hT.1 (wrg_n (I := I) 0 5)
  have hL5 := eqN_L (wrg_n (I := I) 0 5)
  refine jx_aload_n dX11_readLine_0 rfl ?_
  refine jx_ldcSW 52 dX11_readLine_1 rfl rfl rfl (by decide) ?_
  refine jx_Vi (as := [.ref _]) dX11_readLine_4 mlX11_254 okX11_is viX11_is rfl rfl rfl rfl rfl (by decide) (Nat.le_of_ble_eq_true rfl) (tX11_is hW hR hP.1 okMov) ?_
  refine jx_ifB_eq 14 dX11_readLine_7 (by decide) (fun h7 => ?_) (fun h7 => ?_)
  · refine jx_aload_n dX11_readLine_14 rfl ?_
    refine jx_ldcS 50 dX11_readLine_15 rfl rfl rfl (by decide) ?_
    refine jx_Vi (as := [.ref _]) dX11_readLine_17 mlX11_254 okX11_is viX11_is rfl rfl rfl rfl rfl (by decide) (Nat.le_of_ble_eq_true rfl) (tX11_is hW hR hP.1 okWin) ?_
    refine jx_ifB_eq 27 dX11_readLine_20 (by decide) (fun h20 => ?_) (fun h20 => ?_)
    · refine jx_aload_n dX11_readLine_27 rfl ?_
      refine jx_ldcSW 53 dX11_readLine_28 rfl rfl rfl (by decide) ?_
      refine jx_Vi (as := [.ref _]) dX11_readLine_31 mlX11_254 okX11_is viX11_is rfl rfl rfl rfl rfl (by decide) (Nat.le_of_ble_eq_true rfl) (tX11_is hW hR hP.1 okEbb) ?_
      refine jx_ifB_eq 41 dX11_readLine_34 (by decide) (fun h34 => ?_) (fun h34 => ?_)
      · refine jx_aload_n dX11_readLine_41 rfl ?_
        refine jx_ldcSW 54 dX11_readLine_42 rfl rfl rfl (by decide) ?_
        refine jx_Vi (as := [.ref _]) dX11_readLine_45 mlX11_254 okX11_is viX11_is rfl rfl rfl rfl rfl (by decide) (Nat.le_of_ble_eq_true rfl) (tX11_is hW hR hP.1 okWai) ?_
        refine jx_ifB_eq 56 dX11_readLine_48 (by decide) (fun h48 => ?_) (fun h48 => ?_)
        · refine jx_aload_n dX11_readLine_56 rfl ?_
          refine jx_ldcSW 55 dX11_readLine_57 rfl rfl rfl (by decide) ?_
          refine jx_Vi (as := [.ref _]) dX11_readLine_60 mlX11_254 okX11_is viX11_is rfl rfl rfl rfl rfl (by decide) (Nat.le_of_ble_eq_true rfl) (tX11_is hW hR hP.1 okFog) ?_
          refine jx_ifB_eq 71 dX11_readLine_63 (by decide) (fun h63 => ?_) (fun h63 => ?_)
          · refine jx_aload_n dX11_readLine_71 rfl ?_
            refine jx_ldcSW 56 dX11_readLine_72 rfl rfl rfl (by decide) ?_
            refine jx_Vi (as := [.ref _]) dX11_readLine_75 mlX11_254 okX11_is viX11_is rfl rfl rfl rfl rfl (by decide) (Nat.le_of_ble_eq_true rfl) (tX11_is hW hR hP.1 okWat) ?_
            refine jx_ifB_eq 86 dX11_readLine_78 (by decide) (fun h78 => ?_) (fun h78 => ?_)
            · refine jx_iconst (v := 0) dX11_readLine_86 (by decide) ?_
              have hkl : kLn tp sz (b, 0, bp) = 0 := by unfold kLn isX; rw [if_neg (by rw [h7]; decide), if_neg (by rw [h20]; decide), if_neg (by rw [h34]; decide), if_neg (by rw [h48]; decide), if_neg (by rw [h63]; decide), if_neg (by rw [h78]; decide)]
              have hle := Nat.and_le_left (n := seen) (m := 0)
              refine jx_istore_n dX11_readLine_87 rfl (by decide) ?_
              refine jx_aload_n dX11_readLine_88 rfl ?_
              refine jx_aload_n dX11_readLine_89 rfl ?_
              refine jx_getR dX11_readLine_90 flX11_17 rfl rfl (hR _ _ _ rfl) ?_
              refine jx_Vi (as := [.ref _]) dX11_readLine_93 mlX11_277 okX11_which viX11_which rfl rfl rfl rfl rfl (by decide) (Nat.le_of_ble_eq_true rfl) (tX11_which hW hR hP.1 (a := 1070) (i0 := 43) (ws := wKnd) rfl (by decide) okKnd) ?_
              refine jx_istore_n dX11_readLine_96 rfl (by decide) ?_
              refine jx_iload_n dX11_readLine_97 rfl ?_
              refine jx_iload_n dX11_readLine_98 rfl ?_
              refine jx_iandE (z := nI (seen &&& 0)) dX11_readLine_99 (and64 _ hs 0 (by omega)) ?_
              refine jx_ifN_eq (a := (seen &&& 0)) 108 dX11_readLine_100 (by decide) (by omega) (fun h100 => ?_) (fun h100 => ?_)
              · refine jx_iload_n dX11_readLine_108 rfl ?_
                refine jx_ifN_le (a := 0) 243 dX11_readLine_109 (by decide) (by decide) (fun h109 => ?_) (fun h109 => absurd h109 (by decide))
                cases hv : fnd (fun k => isW tp sz b 0 (wKnd k)) 4 with
                | none =>
                  refine jx_iload_n dX11_readLine_243 rfl ?_
                  refine jx_iconst (v := -1) dX11_readLine_244 (by decide) ?_
                  refine jx_icmp_eq 256 dX11_readLine_245 (by decide) (fun h245 => ?_) (fun h245 => ?_)
                  · refine jx_aload_n dX11_readLine_256 rfl ?_
                    refine jx_ldcSW 60 dX11_readLine_257 rfl rfl rfl (by decide) ?_
                    refine jx_Vi (as := [.ref _]) dX11_readLine_260 mlX11_254 okX11_is viX11_is rfl rfl rfl rfl rfl (by decide) (Nat.le_of_ble_eq_true rfl) (tX11_is hW hR hP.1 okHei) ?_
                    refine jx_ifB_eq 273 dX11_readLine_263 (by decide) (fun h263 => ?_) (fun h263 => ?_)
                    · refine jx_aload_n dX11_readLine_273 rfl ?_
                      refine jx_ldcSW 61 dX11_readLine_274 rfl rfl rfl (by decide) ?_
                      refine jx_Vi (as := [.ref _]) dX11_readLine_277 mlX11_254 okX11_is viX11_is rfl rfl rfl rfl rfl (by decide) (Nat.le_of_ble_eq_true rfl) (tX11_is hW hR hP.1 okQua) ?_
                      refine jx_ifB_eq 290 dX11_readLine_280 (by decide) (fun h280 => ?_) (fun h280 => ?_)
                      · refine jx_aload_n dX11_readLine_290 rfl ?_
                        refine jx_ldcSW 62 dX11_readLine_291 rfl rfl rfl (by decide) ?_
                        refine jx_Vi (as := [.ref _]) dX11_readLine_294 mlX11_254 okX11_is viX11_is rfl rfl rfl rfl rfl (by decide) (Nat.le_of_ble_eq_true rfl) (tX11_is hW hR hP.1 okRoc) ?_
                        refine jx_ifB_eq 304 dX11_readLine_297 (by decide) (fun h297 => ?_) (fun h297 => ?_)
                        · refine jx_aload_n dX11_readLine_304 rfl ?_
                          refine jx_ldcSW 63 dX11_readLine_305 rfl rfl rfl (by decide) ?_
                          refine jx_Vi (as := [.ref _]) dX11_readLine_308 mlX11_254 okX11_is viX11_is rfl rfl rfl rfl rfl (by decide) (Nat.le_of_ble_eq_true rfl) (tX11_is hW hR hP.1 okLad) ?_
                          refine jx_ifB_eq 318 dX11_readLine_311 (by decide) (fun h311 => ?_) (fun h311 => ?_)
                          · refine jx_iconst (v := 4) dX11_readLine_318 (by decide) ?_
                            refine jx_istore dX11_readLine_319 (by decide) ?_
                            refine jx_iload dX11_readLine_321 rfl ?_
                            refine jx_iconst (v := 4) dX11_readLine_323 (by decide) ?_
                            refine jx_icmpN_ne (a := 4) (b := 4) 342 dX11_readLine_324 (by decide) (by decide) (by decide) (fun h324 => absurd h324 (by decide)) (fun h324 => ?_)
                            refine jx_aload_n dX11_readLine_327 rfl ?_
                            refine jx_ldcSW 64 dX11_readLine_328 rfl rfl rfl (by decide) ?_
                            refine jx_Vi (as := [.ref _]) dX11_readLine_331 mlX11_254 okX11_is viX11_is rfl rfl rfl rfl rfl (by decide) (Nat.le_of_ble_eq_true rfl) (tX11_is hW hR hP.1 okQui) ?_
                            refine jx_ifB_ne 342 dX11_readLine_334 (by decide) (fun h334 => ?_) (fun h334 => ?_)
                            · refine jx_aload_n dX11_readLine_342 rfl ?_
                              refine jx_getIE dX11_readLine_343 flX11_240 rfl rfl (hP.1.2.2.2.1) ?_
                              refine jx_ifN_ne (a := 0) 355 dX11_readLine_346 (by decide) (by decide) (fun h346 => absurd h346 (by decide)) (fun h346 => ?_)
                              refine jx_aload_n dX11_readLine_349 rfl ?_
                              refine jx_iload dX11_readLine_350 rfl ?_
                              refine jx_VRv (as := [.int _]) dX11_readLine_352 mlX11_348 okX11_readThing viX11_readThing rfl rfl rfl rfl rfl (by decide) (Nat.le_of_ble_eq_true rfl) (tX11_readThing (k := 4) hW hR hP hT.1 hB (by decide)) (fun t352 hq352 => ?_)
                              obtain ⟨J3, rfl, hM3, hP3, hA3⟩ := hq352
                              have hsm : sameR T (liThg tp sz 4 (b, 0, bp) T).2 := by
                                unfold liThg
                                split
                                · exact sameR_r T
                                · split
                                  · exact sameR_r T
                                  · split
                                    · exact sameR_r T
                                    · refine sameR_u ?_ (by decide) (by omega)
                                      exact sameR_u (sameR_r T) (by decide) (by omega)
                              exact jx_ls (by exact ⟨rfl, rfl, rfl, trivial⟩) (key _ (liThg tp sz 4 (b, 0, bp) T) 0 hkl (eqL_M hM3) hP3 (fun q => TLS_s hT hM3 hsm (hA3 q)) (by unfold liBody; rw [hkl, if_neg (by decide)]; unfold liOth; rw [show fnd (fun k => isW tp sz (b, 0, bp).1 (b, 0, bp).2.1 (wKnd k)) 4 = _ from hv]; show (if _ then _ else _) = _; unfold isX; rw [if_neg (by rw [h263]; decide), if_neg (by rw [h280]; decide), if_neg (by rw [h297]; decide), if_neg (by rw [h311]; decide), if_pos h334]))
                            · refine jx_aload_n dX11_readLine_337 rfl ?_
                              refine jx_iconst (v := 1) dX11_readLine_338 (by decide) ?_
                              refine jx_Vv (as := [.int _]) dX11_readLine_339 mlX11_261 okX11_wrong viX11_wrong rfl rfl rfl rfl rfl (by decide) (Nat.le_of_ble_eq_true rfl) (tX11_wrongP (k := 1) hW hP.1) ?_
                              have hw1 : P3 (wrg I 0 1) sz tp (b, 1, b) := P3_wr hP (k := 1) (by omega) (by omega)
                              refine jx_aload_n dX11_readLine_342 rfl ?_
                              refine jx_getIE dX11_readLine_343 flX11_240 rfl rfl (hw1.1.2.2.2.1) ?_
                              refine jx_ifN_ne (a := 1) 355 dX11_readLine_346 (by decide) (by decide) (fun h346 => ?_) (fun h346 => absurd h346 (by decide))
                              exact jx_ls (by exact ⟨rfl, rfl, rfl, trivial⟩) (key _ ((b, 1, b), T) 0 hkl (eqL_M (eqN_L (wrg_n 0 1))) hw1 (fun q => absurd q (by show ¬ (1 = 0); decide)) (by unfold liBody; rw [hkl, if_neg (by decide)]; unfold liOth; rw [show fnd (fun k => isW tp sz (b, 0, bp).1 (b, 0, bp).2.1 (wKnd k)) 4 = _ from hv]; show (if _ then _ else _) = _; unfold isX; rw [if_neg (by rw [h263]; decide), if_neg (by rw [h280]; decide), if_neg (by rw [h297]; decide), if_neg (by rw [h311]; decide), if_neg (by rw [h334]; decide)]; try rfl))
                          · refine jx_iconst (v := 3) dX11_readLine_314 (by decide) ?_
                            refine jx_goto 319 dX11_readLine_315 (by decide) ?_
                            refine jx_istore dX11_readLine_319 (by decide) ?_
                            refine jx_iload dX11_readLine_321 rfl ?_
                            refine jx_iconst (v := 4) dX11_readLine_323 (by decide) ?_
                            refine jx_icmpN_ne (a := 3) (b := 4) 342 dX11_readLine_324 (by decide) (by decide) (by decide) (fun h324 => ?_) (fun h324 => absurd h324 (by decide))
                            refine jx_aload_n dX11_readLine_342 rfl ?_
                            refine jx_getIE dX11_readLine_343 flX11_240 rfl rfl (hP.1.2.2.2.1) ?_
                            refine jx_ifN_ne (a := 0) 355 dX11_readLine_346 (by decide) (by decide) (fun h346 => absurd h346 (by decide)) (fun h346 => ?_)
                            refine jx_aload_n dX11_readLine_349 rfl ?_
                            refine jx_iload dX11_readLine_350 rfl ?_
                            refine jx_VRv (as := [.int _]) dX11_readLine_352 mlX11_348 okX11_readThing viX11_readThing rfl rfl rfl rfl rfl (by decide) (Nat.le_of_ble_eq_true rfl) (tX11_readThing (k := 3) hW hR hP hT.1 hB (by decide)) (fun t352 hq352 => ?_)
                            obtain ⟨J3, rfl, hM3, hP3, hA3⟩ := hq352
                            have hsm : sameR T (liThg tp sz 3 (b, 0, bp) T).2 := by
                              unfold liThg
                              split
                              · exact sameR_r T
                              · split
                                · exact sameR_r T
                                · split
                                  · exact sameR_r T
                                  · refine sameR_u ?_ (by decide) (by omega)
                                    exact sameR_u (sameR_r T) (by decide) (by omega)
                            exact jx_ls (by exact ⟨rfl, rfl, rfl, trivial⟩) (key _ (liThg tp sz 3 (b, 0, bp) T) 0 hkl (eqL_M hM3) hP3 (fun q => TLS_s hT hM3 hsm (hA3 q)) (by unfold liBody; rw [hkl, if_neg (by decide)]; unfold liOth; rw [show fnd (fun k => isW tp sz (b, 0, bp).1 (b, 0, bp).2.1 (wKnd k)) 4 = _ from hv]; show (if _ then _ else _) = _; unfold isX; rw [if_neg (by rw [h263]; decide), if_neg (by rw [h280]; decide), if_neg (by rw [h297]; decide), if_pos h311]))
                        · refine jx_iconst (v := 2) dX11_readLine_300 (by decide) ?_
                          refine jx_goto 319 dX11_readLine_301 (by decide) ?_
                          refine jx_istore dX11_readLine_319 (by decide) ?_
                          refine jx_iload dX11_readLine_321 rfl ?_
                          refine jx_iconst (v := 4) dX11_readLine_323 (by decide) ?_
                          refine jx_icmpN_ne (a := 2) (b := 4) 342 dX11_readLine_324 (by decide) (by decide) (by decide) (fun h324 => ?_) (fun h324 => absurd h324 (by decide))
                          refine jx_aload_n dX11_readLine_342 rfl ?_
                          refine jx_getIE dX11_readLine_343 flX11_240 rfl rfl (hP.1.2.2.2.1) ?_
                          refine jx_ifN_ne (a := 0) 355 dX11_readLine_346 (by decide) (by decide) (fun h346 => absurd h346 (by decide)) (fun h346 => ?_)
                          refine jx_aload_n dX11_readLine_349 rfl ?_
                          refine jx_iload dX11_readLine_350 rfl ?_
                          refine jx_VRv (as := [.int _]) dX11_readLine_352 mlX11_348 okX11_readThing viX11_readThing rfl rfl rfl rfl rfl (by decide) (Nat.le_of_ble_eq_true rfl) (tX11_readThing (k := 2) hW hR hP hT.1 hB (by decide)) (fun t352 hq352 => ?_)
                          obtain ⟨J3, rfl, hM3, hP3, hA3⟩ := hq352
                          have hsm : sameR T (liThg tp sz 2 (b, 0, bp) T).2 := by
                            unfold liThg
                            split
                            · exact sameR_r T
                            · split
                              · exact sameR_r T
                              · split
                                · exact sameR_r T
                                · refine sameR_u ?_ (by decide) (by omega)
                                  exact sameR_u (sameR_r T) (by decide) (by omega)
                          exact jx_ls (by exact ⟨rfl, rfl, rfl, trivial⟩) (key _ (liThg tp sz 2 (b, 0, bp) T) 0 hkl (eqL_M hM3) hP3 (fun q => TLS_s hT hM3 hsm (hA3 q)) (by unfold liBody; rw [hkl, if_neg (by decide)]; unfold liOth; rw [show fnd (fun k => isW tp sz (b, 0, bp).1 (b, 0, bp).2.1 (wKnd k)) 4 = _ from hv]; show (if _ then _ else _) = _; unfold isX; rw [if_neg (by rw [h263]; decide), if_neg (by rw [h280]; decide), if_pos h297]))
                      · refine jx_aload_n dX11_readLine_283 rfl ?_
                        refine jx_VRv (as := []) dX11_readLine_284 mlX11_339 okX11_readQuarrel viX11_readQuarrel rfl rfl rfl rfl rfl (by decide) (Nat.le_of_ble_eq_true rfl) (tX11_readQuarrel hW hR hP hT.1 hB) (fun t284 hq284 => ?_)
                        obtain ⟨J3, rfl, hM3, hP3, hA3⟩ := hq284
                        refine jx_goto 355 dX11_readLine_287 (by decide) ?_
                        have hsm : sameR T (liQrl tp sz (b, 0, bp) T).2 := by
                          unfold liQrl qrH
                          split
                          · exact sameR_r T
                          · split
                            · exact sameR_r T
                            · split
                              · exact sameR_r T
                              · exact sameR_u (sameR_u (sameR_u (sameR_r T) (by decide) (by omega)) (by decide) (by omega)) (by decide) (by omega)
                        exact jx_ls (by exact ⟨rfl, rfl, rfl, trivial⟩) (key _ (liQrl tp sz (b, 0, bp) T) 0 hkl (eqL_M hM3) hP3 (fun q => TLS_s hT hM3 hsm (hA3 q)) (by unfold liBody; rw [hkl, if_neg (by decide)]; unfold liOth; rw [show fnd (fun k => isW tp sz (b, 0, bp).1 (b, 0, bp).2.1 (wKnd k)) 4 = _ from hv]; show (if _ then _ else _) = _; unfold isX; rw [if_neg (by rw [h263]; decide), if_pos h280]))
                    · refine jx_aload_n dX11_readLine_266 rfl ?_
                      refine jx_VRv (as := []) dX11_readLine_267 mlX11_334 okX11_readHeight viX11_readHeight rfl rfl rfl rfl rfl (by decide) (Nat.le_of_ble_eq_true rfl) (tX11_readHeight hW hR hP hT.1 hB) (fun t267 hq267 => ?_)
                      obtain ⟨J3, rfl, hM3, hP3, hA3⟩ := hq267
                      refine jx_goto 355 dX11_readLine_270 (by decide) ?_
                      have hsm : sameR T (liHt tp sz (b, 0, bp) T).2 := by
                        unfold liHt
                        split
                        · exact sameR_r T
                        · split
                          · exact sameR_r T
                          · exact sameR_u (sameR_u (sameR_r T) (by decide) (by omega)) (by decide) (by omega)
                      exact jx_ls (by exact ⟨rfl, rfl, rfl, trivial⟩) (key _ (liHt tp sz (b, 0, bp) T) 0 hkl (eqL_M hM3) hP3 (fun q => TLS_s hT hM3 hsm (hA3 q)) (by unfold liBody; rw [hkl, if_neg (by decide)]; unfold liOth; rw [show fnd (fun k => isW tp sz (b, 0, bp).1 (b, 0, bp).2.1 (wKnd k)) 4 = _ from hv]; show (if _ then _ else _) = _; unfold isX; rw [if_pos h263]))
                  · exact absurd rfl h245
                | some k =>
                  have hk4 := fnd_lt hv
                  refine jx_iload_n dX11_readLine_243 rfl ?_
                  refine jx_iconst (v := -1) dX11_readLine_244 (by decide) ?_
                  refine jx_icmp_eq 256 dX11_readLine_245 (by decide) (fun h245 => ?_) (fun h245 => ?_)
                  · exact absurd h245 (fun q => by
                      have q2 := congrArg Int32.toInt (show nI k = -1 from q)
                      rw [nI_toInt (by omega)] at q2
                      have : (-1 : Int32).toInt = -1 := by decide
                      omega)
                  · refine jx_aload_n dX11_readLine_248 rfl ?_
                    refine jx_iload_n dX11_readLine_249 rfl ?_
                    refine jx_VRv (as := [.int _]) dX11_readLine_250 mlX11_330 okX11_readParty viX11_readParty rfl rfl rfl rfl rfl (by decide) (Nat.le_of_ble_eq_true rfl) (tX11_readParty hW hR hP hT.1 hB hk4) (fun t250 hq250 => ?_)
                    obtain ⟨J3, rfl, hM3, hP3, hA3⟩ := hq250
                    refine jx_goto 355 dX11_readLine_253 (by decide) ?_
                    have hsm : sameR T (liPty tp sz k (b, 0, bp) T).2 := by
                      unfold liPty
                      split
                      · exact sameR_r T
                      · exact sameR_u (sameR_u (sameR_u (sameR_u (sameR_u (sameR_u (sameR_u (sameR_r T) (by decide) (by omega)) (by decide) (by omega)) (by decide) (by omega)) (by decide) (by omega)) (by decide) (by omega)) (by decide) (by omega)) (by decide) (by omega)
                    exact jx_ls (by exact ⟨rfl, rfl, rfl, trivial⟩) (key _ (liPty tp sz k (b, 0, bp) T) 0 hkl (eqL_M hM3) hP3 (fun q => TLS_s hT hM3 hsm (hA3 q)) (by unfold liBody; rw [hkl, if_neg (by decide)]; unfold liOth; rw [show fnd (fun k => isW tp sz (b, 0, bp).1 (b, 0, bp).2.1 (wKnd k)) 4 = _ from hv]; try rfl))
              · exact absurd (Nat.and_zero seen) h100
            · refine jx_bipush (v := 32) dX11_readLine_81 (by decide) ?_
              refine jx_goto 87 dX11_readLine_83 (by decide) ?_
              have hkl : kLn tp sz (b, 0, bp) = 32 := by unfold kLn isX; rw [if_neg (by rw [h7]; decide), if_neg (by rw [h20]; decide), if_neg (by rw [h34]; decide), if_neg (by rw [h48]; decide), if_neg (by rw [h63]; decide), if_pos h78]
              have hle := Nat.and_le_left (n := seen) (m := 32)
              refine jx_istore_n dX11_readLine_87 rfl (by decide) ?_
              refine jx_aload_n dX11_readLine_88 rfl ?_
              refine jx_aload_n dX11_readLine_89 rfl ?_
              refine jx_getR dX11_readLine_90 flX11_17 rfl rfl (hR _ _ _ rfl) ?_
              refine jx_Vi (as := [.ref _]) dX11_readLine_93 mlX11_277 okX11_which viX11_which rfl rfl rfl rfl rfl (by decide) (Nat.le_of_ble_eq_true rfl) (tX11_which hW hR hP.1 (a := 1070) (i0 := 43) (ws := wKnd) rfl (by decide) okKnd) ?_
              refine jx_istore_n dX11_readLine_96 rfl (by decide) ?_
              refine jx_iload_n dX11_readLine_97 rfl ?_
              refine jx_iload_n dX11_readLine_98 rfl ?_
              refine jx_iandE (z := nI (seen &&& 32)) dX11_readLine_99 (and64 _ hs 32 (by omega)) ?_
              refine jx_ifN_eq (a := (seen &&& 32)) 108 dX11_readLine_100 (by decide) (by omega) (fun h100 => ?_) (fun h100 => ?_)
              · refine jx_iload_n dX11_readLine_108 rfl ?_
                refine jx_ifN_le (a := 32) 243 dX11_readLine_109 (by decide) (by decide) (fun h109 => absurd h109 (by decide)) (fun h109 => ?_)
                refine jx_aload_n dX11_readLine_112 rfl ?_
                refine jx_getIE dX11_readLine_113 flX11_240 rfl rfl (hP.1.2.2.2.1) ?_
                refine jx_ifN_ne (a := 0) 123 dX11_readLine_116 (by decide) (by decide) (fun h116 => absurd h116 (by decide)) (fun h116 => ?_)
                refine jx_aload_n dX11_readLine_119 rfl ?_
                refine jx_VRv (as := []) dX11_readLine_120 mlX11_265 okX11_stepOn viX11_stepOn rfl rfl rfl rfl rfl (by decide) (Nat.le_of_ble_eq_true rfl) (tX11_stepOn hW hR hP.1.1 hP.1.2.1.1 (tEnd_le hP.1.2.2.1).2) (fun t120 hq120 => ?_)
                obtain ⟨J1, rfl, he1, hts⟩ := hq120
                have hP1 : P3 J1 sz tp (stX tp sz (b, 0, bp)) := P3_step hP he1 hts
                have hT1 := TL_n hT.1 (eqT_n he1)
                have hL1 := eqN_L (eqT_n he1)
                refine jx_iload_n dX11_readLine_123 rfl ?_
                refine jx_iconst (v := 1) dX11_readLine_124 (by decide) ?_
                refine jx_icmpN_ne (a := 32) (b := 1) 155 dX11_readLine_125 (by decide) (by decide) (by decide) (fun h125 => ?_) (fun h125 => absurd h125 (by decide))
                refine jx_iload_n dX11_readLine_155 rfl ?_
                refine jx_iconst (v := 2) dX11_readLine_156 (by decide) ?_
                refine jx_icmpN_ne (a := 32) (b := 2) 177 dX11_readLine_157 (by decide) (by decide) (by decide) (fun h157 => ?_) (fun h157 => absurd h157 (by decide))
                refine jx_iload_n dX11_readLine_177 rfl ?_
                refine jx_iconst (v := 4) dX11_readLine_178 (by decide) ?_
                refine jx_icmpN_ne (a := 32) (b := 4) 199 dX11_readLine_179 (by decide) (by decide) (by decide) (fun h179 => ?_) (fun h179 => absurd h179 (by decide))
                refine jx_iload_n dX11_readLine_199 rfl ?_
                refine jx_bipush (v := 8) dX11_readLine_200 (by decide) ?_
                refine jx_icmpN_ne (a := 32) (b := 8) 222 dX11_readLine_202 (by decide) (by decide) (by decide) (fun h202 => ?_) (fun h202 => absurd h202 (by decide))
                refine jx_iload_n dX11_readLine_222 rfl ?_
                refine jx_bipush (v := 16) dX11_readLine_223 (by decide) ?_
                refine jx_icmpN_ne (a := 32) (b := 16) 235 dX11_readLine_225 (by decide) (by decide) (by decide) (fun h225 => ?_) (fun h225 => absurd h225 (by decide))
                have hgt : b < nxt tp sz b := nxt_lt hbz (by rw [(isX_t (x := (b, 0, bp)) h78).2]; decide)
                have hRE : RE J1 sz tp (stX tp sz (b, 0, bp), []) := ⟨hP1, (hT1.g 1072 16 rfl rfl).trans (hs0 h100), fun k hk => absurd hk (Nat.not_lt_zero k), by show 0 < nxt tp sz b; omega⟩
                refine jx_aload_n dX11_readLine_235 rfl ?_
                refine jx_iconst (v := 0) dX11_readLine_236 (by decide) ?_
                refine jx_VRv (as := [.int _]) dX11_readLine_237 mlX11_284 okX11_readExpression viX11_readExpression rfl rfl rfl rfl rfl (by decide) (Nat.le_of_ble_eq_true rfl) (tX11_rule hW hR 6 (by omega) J1 (stX tp sz (b, 0, bp), []) hRE) (fun t237 hq237 => ?_)
                obtain ⟨J3, rfl, he3, hR3⟩ := hq237
                refine jx_goto 355 dX11_readLine_240 (by decide) ?_
                have hlT : TLS J3 (rlT T (exprE tp sz 6 (stX tp sz (b, 0, bp), [])).2) := by
                  refine ⟨fun a j haj => ?_, fun j hj => ?_⟩
                  · unfold rlT
                    have h82 : a ≠ 1082 := by
                      have := of_decide_eq_true haj
                      omega
                    rw [if_neg (fun q => h82 q.1)]
                    by_cases z : a = 1072 ∧ j = 16
                    · rw [if_pos z, z.1, z.2]
                      exact hR3.2.1
                    · rw [if_neg z, he3 a (offU a + j) (prsF_9 (tlR_9 haj).1) (fun q => z ⟨q.1, by rw [q.1] at q; have q2 : 17 + j = 33 := q.2; omega⟩) (fun q => h82 q.1)]
                      exact hT1 a j haj
                  · have hl : cN (rlT T (exprE tp sz 6 (stX tp sz (b, 0, bp), [])).2 1072 16) = (exprE tp sz 6 (stX tp sz (b, 0, bp), [])).2.length := by
                      have e : rlT T (exprE tp sz 6 (stX tp sz (b, 0, bp), [])).2 1072 16 = nI (exprE tp sz 6 (stX tp sz (b, 0, bp), [])).2.length := by unfold rlT; rw [if_neg (fun q => absurd q.1 (by decide)), if_pos ⟨rfl, rfl⟩]
                      rw [e]
                      have h1 := hR3.sz
                      have h2 := hR3.2.2.2
                      exact cN_nI (by omega)
                    rw [hl] at hj
                    rw [hR3.2.2.1 j hj]
                    unfold rlT
                    rw [if_pos ⟨rfl, hj⟩]
                exact jx_ls (by exact ⟨rfl, rfl, rfl, trivial⟩) (key _ (liOne tp sz 32 (b, 0, bp) T) 32 hkl (eqM_t (eqL_M hL1) (eqE_M he3)) hR3.1 (fun _ => hlT) (by unfold liBody; rw [hkl, if_pos (by decide), if_pos h100]; try rfl))
              · refine jx_aload_n dX11_readLine_103 rfl ?_
                refine jx_iconst (v := 5) dX11_readLine_104 (by decide) ?_
                refine jx_Vv (as := [.int _]) dX11_readLine_105 mlX11_261 okX11_wrong viX11_wrong rfl rfl rfl rfl rfl (by decide) (Nat.le_of_ble_eq_true rfl) (tX11_wrongP (k := 5) hW hP.1) ?_
                refine jx_iload_n dX11_readLine_108 rfl ?_
                refine jx_ifN_le (a := 32) 243 dX11_readLine_109 (by decide) (by decide) (fun h109 => absurd h109 (by decide)) (fun h109 => ?_)
                refine jx_aload_n dX11_readLine_112 rfl ?_
                refine jx_getIE dX11_readLine_113 flX11_240 rfl rfl (hw5.1.2.2.2.1) ?_
                refine jx_ifN_ne (a := 5) 123 dX11_readLine_116 (by decide) (by decide) (fun h116 => ?_) (fun h116 => absurd h116 (by decide))
                refine jx_iload_n dX11_readLine_123 rfl ?_
                refine jx_iconst (v := 1) dX11_readLine_124 (by decide) ?_
                refine jx_icmpN_ne (a := 32) (b := 1) 155 dX11_readLine_125 (by decide) (by decide) (by decide) (fun h125 => ?_) (fun h125 => absurd h125 (by decide))
                refine jx_iload_n dX11_readLine_155 rfl ?_
                refine jx_iconst (v := 2) dX11_readLine_156 (by decide) ?_
                refine jx_icmpN_ne (a := 32) (b := 2) 177 dX11_readLine_157 (by decide) (by decide) (by decide) (fun h157 => ?_) (fun h157 => absurd h157 (by decide))
                refine jx_iload_n dX11_readLine_177 rfl ?_
                refine jx_iconst (v := 4) dX11_readLine_178 (by decide) ?_
                refine jx_icmpN_ne (a := 32) (b := 4) 199 dX11_readLine_179 (by decide) (by decide) (by decide) (fun h179 => ?_) (fun h179 => absurd h179 (by decide))
                refine jx_iload_n dX11_readLine_199 rfl ?_
                refine jx_bipush (v := 8) dX11_readLine_200 (by decide) ?_
                refine jx_icmpN_ne (a := 32) (b := 8) 222 dX11_readLine_202 (by decide) (by decide) (by decide) (fun h202 => ?_) (fun h202 => absurd h202 (by decide))
                refine jx_iload_n dX11_readLine_222 rfl ?_
                refine jx_bipush (v := 16) dX11_readLine_223 (by decide) ?_
                refine jx_icmpN_ne (a := 32) (b := 16) 235 dX11_readLine_225 (by decide) (by decide) (by decide) (fun h225 => ?_) (fun h225 => absurd h225 (by decide))
                skip
                refine jx_aload_n dX11_readLine_235 rfl ?_
                refine jx_iconst (v := 0) dX11_readLine_236 (by decide) ?_
                refine jx_Vv (as := [.int _]) dX11_readLine_237 mlX11_284 okX11_readExpression viX11_readExpression rfl rfl rfl rfl rfl (by decide) (Nat.le_of_ble_eq_true rfl) (tX11_readExpression_b hW hR hw5.1 (by omega) _) ?_
                refine jx_goto 355 dX11_readLine_240 (by decide) ?_
                exact jx_ls (by exact ⟨rfl, rfl, rfl, trivial⟩) (key _ ((b, 5, b), T) 32 hkl (eqL_M hL5) hw5 (fun q => absurd q h5n) (by unfold liBody; rw [hkl, if_pos (by decide), if_neg h100]; try rfl))
          · refine jx_bipush (v := 16) dX11_readLine_66 (by decide) ?_
            refine jx_goto 87 dX11_readLine_68 (by decide) ?_
            have hkl : kLn tp sz (b, 0, bp) = 16 := by unfold kLn isX; rw [if_neg (by rw [h7]; decide), if_neg (by rw [h20]; decide), if_neg (by rw [h34]; decide), if_neg (by rw [h48]; decide), if_pos h63]
            have hle := Nat.and_le_left (n := seen) (m := 16)
            refine jx_istore_n dX11_readLine_87 rfl (by decide) ?_
            refine jx_aload_n dX11_readLine_88 rfl ?_
            refine jx_aload_n dX11_readLine_89 rfl ?_
            refine jx_getR dX11_readLine_90 flX11_17 rfl rfl (hR _ _ _ rfl) ?_
            refine jx_Vi (as := [.ref _]) dX11_readLine_93 mlX11_277 okX11_which viX11_which rfl rfl rfl rfl rfl (by decide) (Nat.le_of_ble_eq_true rfl) (tX11_which hW hR hP.1 (a := 1070) (i0 := 43) (ws := wKnd) rfl (by decide) okKnd) ?_
            refine jx_istore_n dX11_readLine_96 rfl (by decide) ?_
            refine jx_iload_n dX11_readLine_97 rfl ?_
            refine jx_iload_n dX11_readLine_98 rfl ?_
            refine jx_iandE (z := nI (seen &&& 16)) dX11_readLine_99 (and64 _ hs 16 (by omega)) ?_
            refine jx_ifN_eq (a := (seen &&& 16)) 108 dX11_readLine_100 (by decide) (by omega) (fun h100 => ?_) (fun h100 => ?_)
            · refine jx_iload_n dX11_readLine_108 rfl ?_
              refine jx_ifN_le (a := 16) 243 dX11_readLine_109 (by decide) (by decide) (fun h109 => absurd h109 (by decide)) (fun h109 => ?_)
              refine jx_aload_n dX11_readLine_112 rfl ?_
              refine jx_getIE dX11_readLine_113 flX11_240 rfl rfl (hP.1.2.2.2.1) ?_
              refine jx_ifN_ne (a := 0) 123 dX11_readLine_116 (by decide) (by decide) (fun h116 => absurd h116 (by decide)) (fun h116 => ?_)
              refine jx_aload_n dX11_readLine_119 rfl ?_
              refine jx_VRv (as := []) dX11_readLine_120 mlX11_265 okX11_stepOn viX11_stepOn rfl rfl rfl rfl rfl (by decide) (Nat.le_of_ble_eq_true rfl) (tX11_stepOn hW hR hP.1.1 hP.1.2.1.1 (tEnd_le hP.1.2.2.1).2) (fun t120 hq120 => ?_)
              obtain ⟨J1, rfl, he1, hts⟩ := hq120
              have hP1 : P3 J1 sz tp (stX tp sz (b, 0, bp)) := P3_step hP he1 hts
              have hT1 := TL_n hT.1 (eqT_n he1)
              have hL1 := eqN_L (eqT_n he1)
              refine jx_iload_n dX11_readLine_123 rfl ?_
              refine jx_iconst (v := 1) dX11_readLine_124 (by decide) ?_
              refine jx_icmpN_ne (a := 16) (b := 1) 155 dX11_readLine_125 (by decide) (by decide) (by decide) (fun h125 => ?_) (fun h125 => absurd h125 (by decide))
              refine jx_iload_n dX11_readLine_155 rfl ?_
              refine jx_iconst (v := 2) dX11_readLine_156 (by decide) ?_
              refine jx_icmpN_ne (a := 16) (b := 2) 177 dX11_readLine_157 (by decide) (by decide) (by decide) (fun h157 => ?_) (fun h157 => absurd h157 (by decide))
              refine jx_iload_n dX11_readLine_177 rfl ?_
              refine jx_iconst (v := 4) dX11_readLine_178 (by decide) ?_
              refine jx_icmpN_ne (a := 16) (b := 4) 199 dX11_readLine_179 (by decide) (by decide) (by decide) (fun h179 => ?_) (fun h179 => absurd h179 (by decide))
              refine jx_iload_n dX11_readLine_199 rfl ?_
              refine jx_bipush (v := 8) dX11_readLine_200 (by decide) ?_
              refine jx_icmpN_ne (a := 16) (b := 8) 222 dX11_readLine_202 (by decide) (by decide) (by decide) (fun h202 => ?_) (fun h202 => absurd h202 (by decide))
              refine jx_iload_n dX11_readLine_222 rfl ?_
              refine jx_bipush (v := 16) dX11_readLine_223 (by decide) ?_
              refine jx_icmpN_ne (a := 16) (b := 16) 235 dX11_readLine_225 (by decide) (by decide) (by decide) (fun h225 => absurd h225 (by decide)) (fun h225 => ?_)
              refine jx_aload_n dX11_readLine_228 rfl ?_
              refine jx_VRv (as := []) dX11_readLine_229 mlX11_327 okX11_readFog viX11_readFog rfl rfl rfl rfl rfl (by decide) (Nat.le_of_ble_eq_true rfl) (tX11_readFog (x0 := stX tp sz (b, 0, bp)) (T := T) hW hR hP1 hT1) (fun t229 hq229 => ?_)
              obtain ⟨J3, rfl, hM3, hP3, hA3⟩ := hq229
              have hM3 := eqL_t hL1 hM3
              refine jx_goto 355 dX11_readLine_232 (by decide) ?_
              have hsm : ∀ r all x T0, sameR T T0 → sameR T (fgL tp sz r all x T0).2 := by
                intro r
                induction r with
                | zero => intro all x T0 h; exact h
                | succ r ih =>
                  intro all x T0 h
                  rw [fgL]
                  split
                  · exact h
                  · split
                    · exact h
                    · exact ih _ _ _ (sameR_u h (by decide) (by omega))
              exact jx_ls (by exact ⟨rfl, rfl, rfl, trivial⟩) (key _ (liOne tp sz 16 (b, 0, bp) T) 16 hkl (eqL_M hM3) hP3 (fun q => TLS_s hT hM3 (hsm _ _ _ _ (sameR_r T)) (hA3 q)) (by unfold liBody; rw [hkl, if_pos (by decide), if_pos h100]; try rfl))
            · refine jx_aload_n dX11_readLine_103 rfl ?_
              refine jx_iconst (v := 5) dX11_readLine_104 (by decide) ?_
              refine jx_Vv (as := [.int _]) dX11_readLine_105 mlX11_261 okX11_wrong viX11_wrong rfl rfl rfl rfl rfl (by decide) (Nat.le_of_ble_eq_true rfl) (tX11_wrongP (k := 5) hW hP.1) ?_
              refine jx_iload_n dX11_readLine_108 rfl ?_
              refine jx_ifN_le (a := 16) 243 dX11_readLine_109 (by decide) (by decide) (fun h109 => absurd h109 (by decide)) (fun h109 => ?_)
              refine jx_aload_n dX11_readLine_112 rfl ?_
              refine jx_getIE dX11_readLine_113 flX11_240 rfl rfl (hw5.1.2.2.2.1) ?_
              refine jx_ifN_ne (a := 5) 123 dX11_readLine_116 (by decide) (by decide) (fun h116 => ?_) (fun h116 => absurd h116 (by decide))
              refine jx_iload_n dX11_readLine_123 rfl ?_
              refine jx_iconst (v := 1) dX11_readLine_124 (by decide) ?_
              refine jx_icmpN_ne (a := 16) (b := 1) 155 dX11_readLine_125 (by decide) (by decide) (by decide) (fun h125 => ?_) (fun h125 => absurd h125 (by decide))
              refine jx_iload_n dX11_readLine_155 rfl ?_
              refine jx_iconst (v := 2) dX11_readLine_156 (by decide) ?_
              refine jx_icmpN_ne (a := 16) (b := 2) 177 dX11_readLine_157 (by decide) (by decide) (by decide) (fun h157 => ?_) (fun h157 => absurd h157 (by decide))
              refine jx_iload_n dX11_readLine_177 rfl ?_
              refine jx_iconst (v := 4) dX11_readLine_178 (by decide) ?_
              refine jx_icmpN_ne (a := 16) (b := 4) 199 dX11_readLine_179 (by decide) (by decide) (by decide) (fun h179 => ?_) (fun h179 => absurd h179 (by decide))
              refine jx_iload_n dX11_readLine_199 rfl ?_
              refine jx_bipush (v := 8) dX11_readLine_200 (by decide) ?_
              refine jx_icmpN_ne (a := 16) (b := 8) 222 dX11_readLine_202 (by decide) (by decide) (by decide) (fun h202 => ?_) (fun h202 => absurd h202 (by decide))
              refine jx_iload_n dX11_readLine_222 rfl ?_
              refine jx_bipush (v := 16) dX11_readLine_223 (by decide) ?_
              refine jx_icmpN_ne (a := 16) (b := 16) 235 dX11_readLine_225 (by decide) (by decide) (by decide) (fun h225 => absurd h225 (by decide)) (fun h225 => ?_)
              refine jx_aload_n dX11_readLine_228 rfl ?_
              refine jx_VRv (as := []) dX11_readLine_229 mlX11_327 okX11_readFog viX11_readFog rfl rfl rfl rfl rfl (by decide) (Nat.le_of_ble_eq_true rfl) (tX11_readFog (x0 := (b, 5, b)) (T := T) hW hR hw5 hT5) (fun t229 hq229 => ?_)
              obtain ⟨J3, rfl, hM3, hP3, hA3⟩ := hq229
              have hM3 := eqL_t hL5 hM3
              refine jx_goto 355 dX11_readLine_232 (by decide) ?_
              rw [fgL_b h5n] at hP3
              exact jx_ls (by exact ⟨rfl, rfl, rfl, trivial⟩) (key _ ((b, 5, b), T) 16 hkl (eqL_M hM3) hP3 (fun q => absurd q h5n) (by unfold liBody; rw [hkl, if_pos (by decide), if_neg h100]; try rfl))
        · refine jx_bipush (v := 8) dX11_readLine_51 (by decide) ?_
          refine jx_goto 87 dX11_readLine_53 (by decide) ?_
          have hkl : kLn tp sz (b, 0, bp) = 8 := by unfold kLn isX; rw [if_neg (by rw [h7]; decide), if_neg (by rw [h20]; decide), if_neg (by rw [h34]; decide), if_pos h48]
          have hle := Nat.and_le_left (n := seen) (m := 8)
          refine jx_istore_n dX11_readLine_87 rfl (by decide) ?_
          refine jx_aload_n dX11_readLine_88 rfl ?_
          refine jx_aload_n dX11_readLine_89 rfl ?_
          refine jx_getR dX11_readLine_90 flX11_17 rfl rfl (hR _ _ _ rfl) ?_
          refine jx_Vi (as := [.ref _]) dX11_readLine_93 mlX11_277 okX11_which viX11_which rfl rfl rfl rfl rfl (by decide) (Nat.le_of_ble_eq_true rfl) (tX11_which hW hR hP.1 (a := 1070) (i0 := 43) (ws := wKnd) rfl (by decide) okKnd) ?_
          refine jx_istore_n dX11_readLine_96 rfl (by decide) ?_
          refine jx_iload_n dX11_readLine_97 rfl ?_
          refine jx_iload_n dX11_readLine_98 rfl ?_
          refine jx_iandE (z := nI (seen &&& 8)) dX11_readLine_99 (and64 _ hs 8 (by omega)) ?_
          refine jx_ifN_eq (a := (seen &&& 8)) 108 dX11_readLine_100 (by decide) (by omega) (fun h100 => ?_) (fun h100 => ?_)
          · refine jx_iload_n dX11_readLine_108 rfl ?_
            refine jx_ifN_le (a := 8) 243 dX11_readLine_109 (by decide) (by decide) (fun h109 => absurd h109 (by decide)) (fun h109 => ?_)
            refine jx_aload_n dX11_readLine_112 rfl ?_
            refine jx_getIE dX11_readLine_113 flX11_240 rfl rfl (hP.1.2.2.2.1) ?_
            refine jx_ifN_ne (a := 0) 123 dX11_readLine_116 (by decide) (by decide) (fun h116 => absurd h116 (by decide)) (fun h116 => ?_)
            refine jx_aload_n dX11_readLine_119 rfl ?_
            refine jx_VRv (as := []) dX11_readLine_120 mlX11_265 okX11_stepOn viX11_stepOn rfl rfl rfl rfl rfl (by decide) (Nat.le_of_ble_eq_true rfl) (tX11_stepOn hW hR hP.1.1 hP.1.2.1.1 (tEnd_le hP.1.2.2.1).2) (fun t120 hq120 => ?_)
            obtain ⟨J1, rfl, he1, hts⟩ := hq120
            have hP1 : P3 J1 sz tp (stX tp sz (b, 0, bp)) := P3_step hP he1 hts
            have hT1 := TL_n hT.1 (eqT_n he1)
            have hL1 := eqN_L (eqT_n he1)
            refine jx_iload_n dX11_readLine_123 rfl ?_
            refine jx_iconst (v := 1) dX11_readLine_124 (by decide) ?_
            refine jx_icmpN_ne (a := 8) (b := 1) 155 dX11_readLine_125 (by decide) (by decide) (by decide) (fun h125 => ?_) (fun h125 => absurd h125 (by decide))
            refine jx_iload_n dX11_readLine_155 rfl ?_
            refine jx_iconst (v := 2) dX11_readLine_156 (by decide) ?_
            refine jx_icmpN_ne (a := 8) (b := 2) 177 dX11_readLine_157 (by decide) (by decide) (by decide) (fun h157 => ?_) (fun h157 => absurd h157 (by decide))
            refine jx_iload_n dX11_readLine_177 rfl ?_
            refine jx_iconst (v := 4) dX11_readLine_178 (by decide) ?_
            refine jx_icmpN_ne (a := 8) (b := 4) 199 dX11_readLine_179 (by decide) (by decide) (by decide) (fun h179 => ?_) (fun h179 => absurd h179 (by decide))
            refine jx_iload_n dX11_readLine_199 rfl ?_
            refine jx_bipush (v := 8) dX11_readLine_200 (by decide) ?_
            refine jx_icmpN_ne (a := 8) (b := 8) 222 dX11_readLine_202 (by decide) (by decide) (by decide) (fun h202 => absurd h202 (by decide)) (fun h202 => ?_)
            refine jx_aload_n dX11_readLine_205 rfl ?_
            refine jx_getR dX11_readLine_206 flX11_34 rfl rfl (hR _ _ _ rfl) ?_
            refine jx_bipush (v := 26) dX11_readLine_209 (by decide) ?_
            refine jx_aload_n dX11_readLine_211 rfl ?_
            refine jx_iconst (v := 0) dX11_readLine_212 (by decide) ?_
            refine jx_bipush (v := 20) dX11_readLine_213 (by decide) ?_
            refine jx_VRi (as := [.int _, .int _]) dX11_readLine_215 mlX11_271 okX11_readNumber viX11_readNumber rfl rfl rfl rfl rfl (by decide) (Nat.le_of_ble_eq_true rfl) (tX11_readNumber (lo := 0) (hi := 20) (b := (stX tp sz (b, 0, bp)).1) (bd := (stX tp sz (b, 0, bp)).2.1) (bp := (stX tp sz (b, 0, bp)).2.2) hW hR hP1 (by omega) (by omega)) (fun x215 t215 hq215 => ?_)
            obtain ⟨rfl, J3, rfl, he3, hP3⟩ := hq215
            have hQ3 := P3_u (a := 1072) (k := 26) (v := nI (vNu tp sz 0 20 (stX tp sz (b, 0, bp)))) hP3 (by decide) (by decide)
            have hA3 := TL_uk (k := 26) (TL_n hT1 he3) 1072 9 (nI (vNu tp sz 0 20 (stX tp sz (b, 0, bp)))) rfl
            have hM3 := eqL_u (a := 1072) (k := 26) (v := nI (vNu tp sz 0 20 (stX tp sz (b, 0, bp)))) (eqL_t hL1 (eqN_L he3)) rfl
            refine jx_iastN (26) dX11_readLine_218 rfl (rfl) (by omega) (by omega) ?_
            refine jx_goto 355 dX11_readLine_219 (by decide) ?_
            exact jx_ls (by exact ⟨rfl, rfl, rfl, trivial⟩) (key _ (liOne tp sz 8 (b, 0, bp) T) 8 hkl (eqL_M hM3) hQ3 (fun _ => TLS_s hT hM3 (sameR_u (sameR_r T) (by decide) (by decide)) hA3) (by unfold liBody; rw [hkl, if_pos (by decide), if_pos h100]; try rfl))
          · refine jx_aload_n dX11_readLine_103 rfl ?_
            refine jx_iconst (v := 5) dX11_readLine_104 (by decide) ?_
            refine jx_Vv (as := [.int _]) dX11_readLine_105 mlX11_261 okX11_wrong viX11_wrong rfl rfl rfl rfl rfl (by decide) (Nat.le_of_ble_eq_true rfl) (tX11_wrongP (k := 5) hW hP.1) ?_
            refine jx_iload_n dX11_readLine_108 rfl ?_
            refine jx_ifN_le (a := 8) 243 dX11_readLine_109 (by decide) (by decide) (fun h109 => absurd h109 (by decide)) (fun h109 => ?_)
            refine jx_aload_n dX11_readLine_112 rfl ?_
            refine jx_getIE dX11_readLine_113 flX11_240 rfl rfl (hw5.1.2.2.2.1) ?_
            refine jx_ifN_ne (a := 5) 123 dX11_readLine_116 (by decide) (by decide) (fun h116 => ?_) (fun h116 => absurd h116 (by decide))
            refine jx_iload_n dX11_readLine_123 rfl ?_
            refine jx_iconst (v := 1) dX11_readLine_124 (by decide) ?_
            refine jx_icmpN_ne (a := 8) (b := 1) 155 dX11_readLine_125 (by decide) (by decide) (by decide) (fun h125 => ?_) (fun h125 => absurd h125 (by decide))
            refine jx_iload_n dX11_readLine_155 rfl ?_
            refine jx_iconst (v := 2) dX11_readLine_156 (by decide) ?_
            refine jx_icmpN_ne (a := 8) (b := 2) 177 dX11_readLine_157 (by decide) (by decide) (by decide) (fun h157 => ?_) (fun h157 => absurd h157 (by decide))
            refine jx_iload_n dX11_readLine_177 rfl ?_
            refine jx_iconst (v := 4) dX11_readLine_178 (by decide) ?_
            refine jx_icmpN_ne (a := 8) (b := 4) 199 dX11_readLine_179 (by decide) (by decide) (by decide) (fun h179 => ?_) (fun h179 => absurd h179 (by decide))
            refine jx_iload_n dX11_readLine_199 rfl ?_
            refine jx_bipush (v := 8) dX11_readLine_200 (by decide) ?_
            refine jx_icmpN_ne (a := 8) (b := 8) 222 dX11_readLine_202 (by decide) (by decide) (by decide) (fun h202 => absurd h202 (by decide)) (fun h202 => ?_)
            refine jx_aload_n dX11_readLine_205 rfl ?_
            refine jx_getR dX11_readLine_206 flX11_34 rfl rfl (hR _ _ _ rfl) ?_
            refine jx_bipush (v := 26) dX11_readLine_209 (by decide) ?_
            refine jx_aload_n dX11_readLine_211 rfl ?_
            refine jx_iconst (v := 0) dX11_readLine_212 (by decide) ?_
            refine jx_bipush (v := 20) dX11_readLine_213 (by decide) ?_
            refine jx_VRi (as := [.int _, .int _]) dX11_readLine_215 mlX11_271 okX11_readNumber viX11_readNumber rfl rfl rfl rfl rfl (by decide) (Nat.le_of_ble_eq_true rfl) (tX11_readNumber (lo := 0) (hi := 20) (b := ((b, 5, b)).1) (bd := ((b, 5, b)).2.1) (bp := ((b, 5, b)).2.2) hW hR hw5 (by omega) (by omega)) (fun x215 t215 hq215 => ?_)
            obtain ⟨rfl, J3, rfl, he3, hP3⟩ := hq215
            have hQ3 := P3_u (a := 1072) (k := 26) (v := nI (vNu tp sz 0 20 ((b, 5, b)))) hP3 (by decide) (by decide)
            have hA3 := TL_uk (k := 26) (TL_n hT5 he3) 1072 9 (nI (vNu tp sz 0 20 ((b, 5, b)))) rfl
            have hM3 := eqL_u (a := 1072) (k := 26) (v := nI (vNu tp sz 0 20 ((b, 5, b)))) (eqL_t hL5 (eqN_L he3)) rfl
            refine jx_iastN (26) dX11_readLine_218 rfl (rfl) (by omega) (by omega) ?_
            refine jx_goto 355 dX11_readLine_219 (by decide) ?_
            rw [pNu_b h5n] at hQ3
            exact jx_ls (by exact ⟨rfl, rfl, rfl, trivial⟩) (key _ ((b, 5, b), T) 8 hkl (eqL_M hM3) hQ3 (fun q => absurd q h5n) (by unfold liBody; rw [hkl, if_pos (by decide), if_neg h100]; try rfl))
      · refine jx_iconst (v := 4) dX11_readLine_37 (by decide) ?_
        refine jx_goto 87 dX11_readLine_38 (by decide) ?_
        have hkl : kLn tp sz (b, 0, bp) = 4 := by unfold kLn isX; rw [if_neg (by rw [h7]; decide), if_neg (by rw [h20]; decide), if_pos h34]
        have hle := Nat.and_le_left (n := seen) (m := 4)
        refine jx_istore_n dX11_readLine_87 rfl (by decide) ?_
        refine jx_aload_n dX11_readLine_88 rfl ?_
        refine jx_aload_n dX11_readLine_89 rfl ?_
        refine jx_getR dX11_readLine_90 flX11_17 rfl rfl (hR _ _ _ rfl) ?_
        refine jx_Vi (as := [.ref _]) dX11_readLine_93 mlX11_277 okX11_which viX11_which rfl rfl rfl rfl rfl (by decide) (Nat.le_of_ble_eq_true rfl) (tX11_which hW hR hP.1 (a := 1070) (i0 := 43) (ws := wKnd) rfl (by decide) okKnd) ?_
        refine jx_istore_n dX11_readLine_96 rfl (by decide) ?_
        refine jx_iload_n dX11_readLine_97 rfl ?_
        refine jx_iload_n dX11_readLine_98 rfl ?_
        refine jx_iandE (z := nI (seen &&& 4)) dX11_readLine_99 (and64 _ hs 4 (by omega)) ?_
        refine jx_ifN_eq (a := (seen &&& 4)) 108 dX11_readLine_100 (by decide) (by omega) (fun h100 => ?_) (fun h100 => ?_)
        · refine jx_iload_n dX11_readLine_108 rfl ?_
          refine jx_ifN_le (a := 4) 243 dX11_readLine_109 (by decide) (by decide) (fun h109 => absurd h109 (by decide)) (fun h109 => ?_)
          refine jx_aload_n dX11_readLine_112 rfl ?_
          refine jx_getIE dX11_readLine_113 flX11_240 rfl rfl (hP.1.2.2.2.1) ?_
          refine jx_ifN_ne (a := 0) 123 dX11_readLine_116 (by decide) (by decide) (fun h116 => absurd h116 (by decide)) (fun h116 => ?_)
          refine jx_aload_n dX11_readLine_119 rfl ?_
          refine jx_VRv (as := []) dX11_readLine_120 mlX11_265 okX11_stepOn viX11_stepOn rfl rfl rfl rfl rfl (by decide) (Nat.le_of_ble_eq_true rfl) (tX11_stepOn hW hR hP.1.1 hP.1.2.1.1 (tEnd_le hP.1.2.2.1).2) (fun t120 hq120 => ?_)
          obtain ⟨J1, rfl, he1, hts⟩ := hq120
          have hP1 : P3 J1 sz tp (stX tp sz (b, 0, bp)) := P3_step hP he1 hts
          have hT1 := TL_n hT.1 (eqT_n he1)
          have hL1 := eqN_L (eqT_n he1)
          refine jx_iload_n dX11_readLine_123 rfl ?_
          refine jx_iconst (v := 1) dX11_readLine_124 (by decide) ?_
          refine jx_icmpN_ne (a := 4) (b := 1) 155 dX11_readLine_125 (by decide) (by decide) (by decide) (fun h125 => ?_) (fun h125 => absurd h125 (by decide))
          refine jx_iload_n dX11_readLine_155 rfl ?_
          refine jx_iconst (v := 2) dX11_readLine_156 (by decide) ?_
          refine jx_icmpN_ne (a := 4) (b := 2) 177 dX11_readLine_157 (by decide) (by decide) (by decide) (fun h157 => ?_) (fun h157 => absurd h157 (by decide))
          refine jx_iload_n dX11_readLine_177 rfl ?_
          refine jx_iconst (v := 4) dX11_readLine_178 (by decide) ?_
          refine jx_icmpN_ne (a := 4) (b := 4) 199 dX11_readLine_179 (by decide) (by decide) (by decide) (fun h179 => absurd h179 (by decide)) (fun h179 => ?_)
          refine jx_aload_n dX11_readLine_182 rfl ?_
          refine jx_getR dX11_readLine_183 flX11_34 rfl rfl (hR _ _ _ rfl) ?_
          refine jx_bipush (v := 25) dX11_readLine_186 (by decide) ?_
          refine jx_aload_n dX11_readLine_188 rfl ?_
          refine jx_iconst (v := 1) dX11_readLine_189 (by decide) ?_
          refine jx_bipush (v := 6) dX11_readLine_190 (by decide) ?_
          refine jx_VRi (as := [.int _, .int _]) dX11_readLine_192 mlX11_271 okX11_readNumber viX11_readNumber rfl rfl rfl rfl rfl (by decide) (Nat.le_of_ble_eq_true rfl) (tX11_readNumber (lo := 1) (hi := 6) (b := (stX tp sz (b, 0, bp)).1) (bd := (stX tp sz (b, 0, bp)).2.1) (bp := (stX tp sz (b, 0, bp)).2.2) hW hR hP1 (by omega) (by omega)) (fun x192 t192 hq192 => ?_)
          obtain ⟨rfl, J3, rfl, he3, hP3⟩ := hq192
          have hQ3 := P3_u (a := 1072) (k := 25) (v := nI (vNu tp sz 1 6 (stX tp sz (b, 0, bp)))) hP3 (by decide) (by decide)
          have hA3 := TL_uk (k := 25) (TL_n hT1 he3) 1072 8 (nI (vNu tp sz 1 6 (stX tp sz (b, 0, bp)))) rfl
          have hM3 := eqL_u (a := 1072) (k := 25) (v := nI (vNu tp sz 1 6 (stX tp sz (b, 0, bp)))) (eqL_t hL1 (eqN_L he3)) rfl
          refine jx_iastN (25) dX11_readLine_195 rfl (rfl) (by omega) (by omega) ?_
          refine jx_goto 355 dX11_readLine_196 (by decide) ?_
          exact jx_ls (by exact ⟨rfl, rfl, rfl, trivial⟩) (key _ (liOne tp sz 4 (b, 0, bp) T) 4 hkl (eqL_M hM3) hQ3 (fun _ => TLS_s hT hM3 (sameR_u (sameR_r T) (by decide) (by decide)) hA3) (by unfold liBody; rw [hkl, if_pos (by decide), if_pos h100]; try rfl))
        · refine jx_aload_n dX11_readLine_103 rfl ?_
          refine jx_iconst (v := 5) dX11_readLine_104 (by decide) ?_
          refine jx_Vv (as := [.int _]) dX11_readLine_105 mlX11_261 okX11_wrong viX11_wrong rfl rfl rfl rfl rfl (by decide) (Nat.le_of_ble_eq_true rfl) (tX11_wrongP (k := 5) hW hP.1) ?_
          refine jx_iload_n dX11_readLine_108 rfl ?_
          refine jx_ifN_le (a := 4) 243 dX11_readLine_109 (by decide) (by decide) (fun h109 => absurd h109 (by decide)) (fun h109 => ?_)
          refine jx_aload_n dX11_readLine_112 rfl ?_
          refine jx_getIE dX11_readLine_113 flX11_240 rfl rfl (hw5.1.2.2.2.1) ?_
          refine jx_ifN_ne (a := 5) 123 dX11_readLine_116 (by decide) (by decide) (fun h116 => ?_) (fun h116 => absurd h116 (by decide))
          refine jx_iload_n dX11_readLine_123 rfl ?_
          refine jx_iconst (v := 1) dX11_readLine_124 (by decide) ?_
          refine jx_icmpN_ne (a := 4) (b := 1) 155 dX11_readLine_125 (by decide) (by decide) (by decide) (fun h125 => ?_) (fun h125 => absurd h125 (by decide))
          refine jx_iload_n dX11_readLine_155 rfl ?_
          refine jx_iconst (v := 2) dX11_readLine_156 (by decide) ?_
          refine jx_icmpN_ne (a := 4) (b := 2) 177 dX11_readLine_157 (by decide) (by decide) (by decide) (fun h157 => ?_) (fun h157 => absurd h157 (by decide))
          refine jx_iload_n dX11_readLine_177 rfl ?_
          refine jx_iconst (v := 4) dX11_readLine_178 (by decide) ?_
          refine jx_icmpN_ne (a := 4) (b := 4) 199 dX11_readLine_179 (by decide) (by decide) (by decide) (fun h179 => absurd h179 (by decide)) (fun h179 => ?_)
          refine jx_aload_n dX11_readLine_182 rfl ?_
          refine jx_getR dX11_readLine_183 flX11_34 rfl rfl (hR _ _ _ rfl) ?_
          refine jx_bipush (v := 25) dX11_readLine_186 (by decide) ?_
          refine jx_aload_n dX11_readLine_188 rfl ?_
          refine jx_iconst (v := 1) dX11_readLine_189 (by decide) ?_
          refine jx_bipush (v := 6) dX11_readLine_190 (by decide) ?_
          refine jx_VRi (as := [.int _, .int _]) dX11_readLine_192 mlX11_271 okX11_readNumber viX11_readNumber rfl rfl rfl rfl rfl (by decide) (Nat.le_of_ble_eq_true rfl) (tX11_readNumber (lo := 1) (hi := 6) (b := ((b, 5, b)).1) (bd := ((b, 5, b)).2.1) (bp := ((b, 5, b)).2.2) hW hR hw5 (by omega) (by omega)) (fun x192 t192 hq192 => ?_)
          obtain ⟨rfl, J3, rfl, he3, hP3⟩ := hq192
          have hQ3 := P3_u (a := 1072) (k := 25) (v := nI (vNu tp sz 1 6 ((b, 5, b)))) hP3 (by decide) (by decide)
          have hA3 := TL_uk (k := 25) (TL_n hT5 he3) 1072 8 (nI (vNu tp sz 1 6 ((b, 5, b)))) rfl
          have hM3 := eqL_u (a := 1072) (k := 25) (v := nI (vNu tp sz 1 6 ((b, 5, b)))) (eqL_t hL5 (eqN_L he3)) rfl
          refine jx_iastN (25) dX11_readLine_195 rfl (rfl) (by omega) (by omega) ?_
          refine jx_goto 355 dX11_readLine_196 (by decide) ?_
          rw [pNu_b h5n] at hQ3
          exact jx_ls (by exact ⟨rfl, rfl, rfl, trivial⟩) (key _ ((b, 5, b), T) 4 hkl (eqL_M hM3) hQ3 (fun q => absurd q h5n) (by unfold liBody; rw [hkl, if_pos (by decide), if_neg h100]; try rfl))
    · refine jx_iconst (v := 2) dX11_readLine_23 (by decide) ?_
      refine jx_goto 87 dX11_readLine_24 (by decide) ?_
      have hkl : kLn tp sz (b, 0, bp) = 2 := by unfold kLn isX; rw [if_neg (by rw [h7]; decide), if_pos h20]
      have hle := Nat.and_le_left (n := seen) (m := 2)
      refine jx_istore_n dX11_readLine_87 rfl (by decide) ?_
      refine jx_aload_n dX11_readLine_88 rfl ?_
      refine jx_aload_n dX11_readLine_89 rfl ?_
      refine jx_getR dX11_readLine_90 flX11_17 rfl rfl (hR _ _ _ rfl) ?_
      refine jx_Vi (as := [.ref _]) dX11_readLine_93 mlX11_277 okX11_which viX11_which rfl rfl rfl rfl rfl (by decide) (Nat.le_of_ble_eq_true rfl) (tX11_which hW hR hP.1 (a := 1070) (i0 := 43) (ws := wKnd) rfl (by decide) okKnd) ?_
      refine jx_istore_n dX11_readLine_96 rfl (by decide) ?_
      refine jx_iload_n dX11_readLine_97 rfl ?_
      refine jx_iload_n dX11_readLine_98 rfl ?_
      refine jx_iandE (z := nI (seen &&& 2)) dX11_readLine_99 (and64 _ hs 2 (by omega)) ?_
      refine jx_ifN_eq (a := (seen &&& 2)) 108 dX11_readLine_100 (by decide) (by omega) (fun h100 => ?_) (fun h100 => ?_)
      · refine jx_iload_n dX11_readLine_108 rfl ?_
        refine jx_ifN_le (a := 2) 243 dX11_readLine_109 (by decide) (by decide) (fun h109 => absurd h109 (by decide)) (fun h109 => ?_)
        refine jx_aload_n dX11_readLine_112 rfl ?_
        refine jx_getIE dX11_readLine_113 flX11_240 rfl rfl (hP.1.2.2.2.1) ?_
        refine jx_ifN_ne (a := 0) 123 dX11_readLine_116 (by decide) (by decide) (fun h116 => absurd h116 (by decide)) (fun h116 => ?_)
        refine jx_aload_n dX11_readLine_119 rfl ?_
        refine jx_VRv (as := []) dX11_readLine_120 mlX11_265 okX11_stepOn viX11_stepOn rfl rfl rfl rfl rfl (by decide) (Nat.le_of_ble_eq_true rfl) (tX11_stepOn hW hR hP.1.1 hP.1.2.1.1 (tEnd_le hP.1.2.2.1).2) (fun t120 hq120 => ?_)
        obtain ⟨J1, rfl, he1, hts⟩ := hq120
        have hP1 : P3 J1 sz tp (stX tp sz (b, 0, bp)) := P3_step hP he1 hts
        have hT1 := TL_n hT.1 (eqT_n he1)
        have hL1 := eqN_L (eqT_n he1)
        refine jx_iload_n dX11_readLine_123 rfl ?_
        refine jx_iconst (v := 1) dX11_readLine_124 (by decide) ?_
        refine jx_icmpN_ne (a := 2) (b := 1) 155 dX11_readLine_125 (by decide) (by decide) (by decide) (fun h125 => ?_) (fun h125 => absurd h125 (by decide))
        refine jx_iload_n dX11_readLine_155 rfl ?_
        refine jx_iconst (v := 2) dX11_readLine_156 (by decide) ?_
        refine jx_icmpN_ne (a := 2) (b := 2) 177 dX11_readLine_157 (by decide) (by decide) (by decide) (fun h157 => absurd h157 (by decide)) (fun h157 => ?_)
        refine jx_aload_n dX11_readLine_160 rfl ?_
        refine jx_getR dX11_readLine_161 flX11_34 rfl rfl (hR _ _ _ rfl) ?_
        refine jx_bipush (v := 24) dX11_readLine_164 (by decide) ?_
        refine jx_aload_n dX11_readLine_166 rfl ?_
        refine jx_iconst (v := 0) dX11_readLine_167 (by decide) ?_
        refine jx_bipush (v := 9) dX11_readLine_168 (by decide) ?_
        refine jx_VRi (as := [.int _, .int _]) dX11_readLine_170 mlX11_271 okX11_readNumber viX11_readNumber rfl rfl rfl rfl rfl (by decide) (Nat.le_of_ble_eq_true rfl) (tX11_readNumber (lo := 0) (hi := 9) (b := (stX tp sz (b, 0, bp)).1) (bd := (stX tp sz (b, 0, bp)).2.1) (bp := (stX tp sz (b, 0, bp)).2.2) hW hR hP1 (by omega) (by omega)) (fun x170 t170 hq170 => ?_)
        obtain ⟨rfl, J3, rfl, he3, hP3⟩ := hq170
        have hQ3 := P3_u (a := 1072) (k := 24) (v := nI (vNu tp sz 0 9 (stX tp sz (b, 0, bp)))) hP3 (by decide) (by decide)
        have hA3 := TL_uk (k := 24) (TL_n hT1 he3) 1072 7 (nI (vNu tp sz 0 9 (stX tp sz (b, 0, bp)))) rfl
        have hM3 := eqL_u (a := 1072) (k := 24) (v := nI (vNu tp sz 0 9 (stX tp sz (b, 0, bp)))) (eqL_t hL1 (eqN_L he3)) rfl
        refine jx_iastN (24) dX11_readLine_173 rfl (rfl) (by omega) (by omega) ?_
        refine jx_goto 355 dX11_readLine_174 (by decide) ?_
        exact jx_ls (by exact ⟨rfl, rfl, rfl, trivial⟩) (key _ (liOne tp sz 2 (b, 0, bp) T) 2 hkl (eqL_M hM3) hQ3 (fun _ => TLS_s hT hM3 (sameR_u (sameR_r T) (by decide) (by decide)) hA3) (by unfold liBody; rw [hkl, if_pos (by decide), if_pos h100]; try rfl))
      · refine jx_aload_n dX11_readLine_103 rfl ?_
        refine jx_iconst (v := 5) dX11_readLine_104 (by decide) ?_
        refine jx_Vv (as := [.int _]) dX11_readLine_105 mlX11_261 okX11_wrong viX11_wrong rfl rfl rfl rfl rfl (by decide) (Nat.le_of_ble_eq_true rfl) (tX11_wrongP (k := 5) hW hP.1) ?_
        refine jx_iload_n dX11_readLine_108 rfl ?_
        refine jx_ifN_le (a := 2) 243 dX11_readLine_109 (by decide) (by decide) (fun h109 => absurd h109 (by decide)) (fun h109 => ?_)
        refine jx_aload_n dX11_readLine_112 rfl ?_
        refine jx_getIE dX11_readLine_113 flX11_240 rfl rfl (hw5.1.2.2.2.1) ?_
        refine jx_ifN_ne (a := 5) 123 dX11_readLine_116 (by decide) (by decide) (fun h116 => ?_) (fun h116 => absurd h116 (by decide))
        refine jx_iload_n dX11_readLine_123 rfl ?_
        refine jx_iconst (v := 1) dX11_readLine_124 (by decide) ?_
        refine jx_icmpN_ne (a := 2) (b := 1) 155 dX11_readLine_125 (by decide) (by decide) (by decide) (fun h125 => ?_) (fun h125 => absurd h125 (by decide))
        refine jx_iload_n dX11_readLine_155 rfl ?_
        refine jx_iconst (v := 2) dX11_readLine_156 (by decide) ?_
        refine jx_icmpN_ne (a := 2) (b := 2) 177 dX11_readLine_157 (by decide) (by decide) (by decide) (fun h157 => absurd h157 (by decide)) (fun h157 => ?_)
        refine jx_aload_n dX11_readLine_160 rfl ?_
        refine jx_getR dX11_readLine_161 flX11_34 rfl rfl (hR _ _ _ rfl) ?_
        refine jx_bipush (v := 24) dX11_readLine_164 (by decide) ?_
        refine jx_aload_n dX11_readLine_166 rfl ?_
        refine jx_iconst (v := 0) dX11_readLine_167 (by decide) ?_
        refine jx_bipush (v := 9) dX11_readLine_168 (by decide) ?_
        refine jx_VRi (as := [.int _, .int _]) dX11_readLine_170 mlX11_271 okX11_readNumber viX11_readNumber rfl rfl rfl rfl rfl (by decide) (Nat.le_of_ble_eq_true rfl) (tX11_readNumber (lo := 0) (hi := 9) (b := ((b, 5, b)).1) (bd := ((b, 5, b)).2.1) (bp := ((b, 5, b)).2.2) hW hR hw5 (by omega) (by omega)) (fun x170 t170 hq170 => ?_)
        obtain ⟨rfl, J3, rfl, he3, hP3⟩ := hq170
        have hQ3 := P3_u (a := 1072) (k := 24) (v := nI (vNu tp sz 0 9 ((b, 5, b)))) hP3 (by decide) (by decide)
        have hA3 := TL_uk (k := 24) (TL_n hT5 he3) 1072 7 (nI (vNu tp sz 0 9 ((b, 5, b)))) rfl
        have hM3 := eqL_u (a := 1072) (k := 24) (v := nI (vNu tp sz 0 9 ((b, 5, b)))) (eqL_t hL5 (eqN_L he3)) rfl
        refine jx_iastN (24) dX11_readLine_173 rfl (rfl) (by omega) (by omega) ?_
        refine jx_goto 355 dX11_readLine_174 (by decide) ?_
        rw [pNu_b h5n] at hQ3
        exact jx_ls (by exact ⟨rfl, rfl, rfl, trivial⟩) (key _ ((b, 5, b), T) 2 hkl (eqL_M hM3) hQ3 (fun q => absurd q h5n) (by unfold liBody; rw [hkl, if_pos (by decide), if_neg h100]; try rfl))
  · refine jx_iconst (v := 1) dX11_readLine_10 (by decide) ?_
    refine jx_goto 87 dX11_readLine_11 (by decide) ?_
    have hkl : kLn tp sz (b, 0, bp) = 1 := by unfold kLn isX; rw [if_pos h7]
    have hle := Nat.and_le_left (n := seen) (m := 1)
    refine jx_istore_n dX11_readLine_87 rfl (by decide) ?_
    refine jx_aload_n dX11_readLine_88 rfl ?_
    refine jx_aload_n dX11_readLine_89 rfl ?_
    refine jx_getR dX11_readLine_90 flX11_17 rfl rfl (hR _ _ _ rfl) ?_
    refine jx_Vi (as := [.ref _]) dX11_readLine_93 mlX11_277 okX11_which viX11_which rfl rfl rfl rfl rfl (by decide) (Nat.le_of_ble_eq_true rfl) (tX11_which hW hR hP.1 (a := 1070) (i0 := 43) (ws := wKnd) rfl (by decide) okKnd) ?_
    refine jx_istore_n dX11_readLine_96 rfl (by decide) ?_
    refine jx_iload_n dX11_readLine_97 rfl ?_
    refine jx_iload_n dX11_readLine_98 rfl ?_
    refine jx_iandE (z := nI (seen &&& 1)) dX11_readLine_99 (and64 _ hs 1 (by omega)) ?_
    refine jx_ifN_eq (a := (seen &&& 1)) 108 dX11_readLine_100 (by decide) (by omega) (fun h100 => ?_) (fun h100 => ?_)
    · refine jx_iload_n dX11_readLine_108 rfl ?_
      refine jx_ifN_le (a := 1) 243 dX11_readLine_109 (by decide) (by decide) (fun h109 => absurd h109 (by decide)) (fun h109 => ?_)
      refine jx_aload_n dX11_readLine_112 rfl ?_
      refine jx_getIE dX11_readLine_113 flX11_240 rfl rfl (hP.1.2.2.2.1) ?_
      refine jx_ifN_ne (a := 0) 123 dX11_readLine_116 (by decide) (by decide) (fun h116 => absurd h116 (by decide)) (fun h116 => ?_)
      refine jx_aload_n dX11_readLine_119 rfl ?_
      refine jx_VRv (as := []) dX11_readLine_120 mlX11_265 okX11_stepOn viX11_stepOn rfl rfl rfl rfl rfl (by decide) (Nat.le_of_ble_eq_true rfl) (tX11_stepOn hW hR hP.1.1 hP.1.2.1.1 (tEnd_le hP.1.2.2.1).2) (fun t120 hq120 => ?_)
      obtain ⟨J1, rfl, he1, hts⟩ := hq120
      have hP1 : P3 J1 sz tp (stX tp sz (b, 0, bp)) := P3_step hP he1 hts
      have hT1 := TL_n hT.1 (eqT_n he1)
      have hL1 := eqN_L (eqT_n he1)
      refine jx_iload_n dX11_readLine_123 rfl ?_
      refine jx_iconst (v := 1) dX11_readLine_124 (by decide) ?_
      refine jx_icmpN_ne (a := 1) (b := 1) 155 dX11_readLine_125 (by decide) (by decide) (by decide) (fun h125 => absurd h125 (by decide)) (fun h125 => ?_)
      refine jx_aload_n dX11_readLine_128 rfl ?_
      refine jx_getR dX11_readLine_129 flX11_34 rfl rfl (hR _ _ _ rfl) ?_
      refine jx_bipush (v := 22) dX11_readLine_132 (by decide) ?_
      refine jx_aload_n dX11_readLine_134 rfl ?_
      refine jx_iconst (v := 2) dX11_readLine_135 (by decide) ?_
      refine jx_VRi (as := [.int _]) dX11_readLine_136 mlX11_324 okX11_readSigned viX11_readSigned rfl rfl rfl rfl rfl (by decide) (Nat.le_of_ble_eq_true rfl) (tX11_readSigned (top := 2) (b := (stX tp sz (b, 0, bp)).1) (bd := (stX tp sz (b, 0, bp)).2.1) (bp := (stX tp sz (b, 0, bp)).2.2) hW hR hP1 (by omega)) (fun x136 t136 hq136 => ?_)
      obtain ⟨rfl, J2, rfl, he2, hP2⟩ := hq136
      have hQ2 := P3_u (a := 1072) (k := 22) (v := vSg tp sz 2 (stX tp sz (b, 0, bp))) hP2 (by decide) (by decide)
      have hA2 := TL_uk (k := 22) (TL_n hT1 he2) 1072 5 (vSg tp sz 2 (stX tp sz (b, 0, bp))) rfl
      have hM2 := eqL_u (a := 1072) (k := 22) (v := vSg tp sz 2 (stX tp sz (b, 0, bp))) (eqL_t hL1 (eqN_L he2)) rfl
      refine jx_iastN (22) dX11_readLine_139 rfl (rfl) (by omega) (by omega) ?_
      refine jx_aload_n dX11_readLine_140 rfl ?_
      refine jx_getR dX11_readLine_141 flX11_34 rfl rfl (hR _ _ _ rfl) ?_
      refine jx_bipush (v := 23) dX11_readLine_144 (by decide) ?_
      refine jx_aload_n dX11_readLine_146 rfl ?_
      refine jx_iconst (v := 2) dX11_readLine_147 (by decide) ?_
      refine jx_VRi (as := [.int _]) dX11_readLine_148 mlX11_324 okX11_readSigned viX11_readSigned rfl rfl rfl rfl rfl (by decide) (Nat.le_of_ble_eq_true rfl) (tX11_readSigned (top := 2) (b := (pNu tp sz 0 2 (pSg1 tp sz (stX tp sz (b, 0, bp)))).1) (bd := (pNu tp sz 0 2 (pSg1 tp sz (stX tp sz (b, 0, bp)))).2.1) (bp := (pNu tp sz 0 2 (pSg1 tp sz (stX tp sz (b, 0, bp)))).2.2) hW hR hQ2 (by omega)) (fun x148 t148 hq148 => ?_)
      obtain ⟨rfl, J3, rfl, he3, hP3⟩ := hq148
      have hQ3 := P3_u (a := 1072) (k := 23) (v := vSg tp sz 2 (pNu tp sz 0 2 (pSg1 tp sz (stX tp sz (b, 0, bp))))) hP3 (by decide) (by decide)
      have hA3 := TL_uk (k := 23) (TL_n hA2 he3) 1072 6 (vSg tp sz 2 (pNu tp sz 0 2 (pSg1 tp sz (stX tp sz (b, 0, bp))))) rfl
      have hM3 := eqL_u (a := 1072) (k := 23) (v := vSg tp sz 2 (pNu tp sz 0 2 (pSg1 tp sz (stX tp sz (b, 0, bp))))) (eqL_t hM2 (eqN_L he3)) rfl
      refine jx_iastN (23) dX11_readLine_151 rfl (rfl) (by omega) (by omega) ?_
      refine jx_goto 355 dX11_readLine_152 (by decide) ?_
      exact jx_ls (by exact ⟨rfl, rfl, rfl, trivial⟩) (key _ (liOne tp sz 1 (b, 0, bp) T) 1 hkl (eqL_M hM3) hQ3 (fun _ => TLS_s hT hM3 (sameR_u (sameR_u (sameR_r T) (by decide) (by decide)) (by decide) (by decide)) hA3) (by unfold liBody; rw [hkl, if_pos (by decide), if_pos h100]; try rfl))
    · refine jx_aload_n dX11_readLine_103 rfl ?_
      refine jx_iconst (v := 5) dX11_readLine_104 (by decide) ?_
      refine jx_Vv (as := [.int _]) dX11_readLine_105 mlX11_261 okX11_wrong viX11_wrong rfl rfl rfl rfl rfl (by decide) (Nat.le_of_ble_eq_true rfl) (tX11_wrongP (k := 5) hW hP.1) ?_
      refine jx_iload_n dX11_readLine_108 rfl ?_
      refine jx_ifN_le (a := 1) 243 dX11_readLine_109 (by decide) (by decide) (fun h109 => absurd h109 (by decide)) (fun h109 => ?_)
      refine jx_aload_n dX11_readLine_112 rfl ?_
      refine jx_getIE dX11_readLine_113 flX11_240 rfl rfl (hw5.1.2.2.2.1) ?_
      refine jx_ifN_ne (a := 5) 123 dX11_readLine_116 (by decide) (by decide) (fun h116 => ?_) (fun h116 => absurd h116 (by decide))
      refine jx_iload_n dX11_readLine_123 rfl ?_
      refine jx_iconst (v := 1) dX11_readLine_124 (by decide) ?_
      refine jx_icmpN_ne (a := 1) (b := 1) 155 dX11_readLine_125 (by decide) (by decide) (by decide) (fun h125 => absurd h125 (by decide)) (fun h125 => ?_)
      refine jx_aload_n dX11_readLine_128 rfl ?_
      refine jx_getR dX11_readLine_129 flX11_34 rfl rfl (hR _ _ _ rfl) ?_
      refine jx_bipush (v := 22) dX11_readLine_132 (by decide) ?_
      refine jx_aload_n dX11_readLine_134 rfl ?_
      refine jx_iconst (v := 2) dX11_readLine_135 (by decide) ?_
      refine jx_VRi (as := [.int _]) dX11_readLine_136 mlX11_324 okX11_readSigned viX11_readSigned rfl rfl rfl rfl rfl (by decide) (Nat.le_of_ble_eq_true rfl) (tX11_readSigned (top := 2) (b := ((b, 5, b)).1) (bd := ((b, 5, b)).2.1) (bp := ((b, 5, b)).2.2) hW hR hw5 (by omega)) (fun x136 t136 hq136 => ?_)
      obtain ⟨rfl, J2, rfl, he2, hP2⟩ := hq136
      have hQ2 := P3_u (a := 1072) (k := 22) (v := vSg tp sz 2 ((b, 5, b))) hP2 (by decide) (by decide)
      have hA2 := TL_uk (k := 22) (TL_n hT5 he2) 1072 5 (vSg tp sz 2 ((b, 5, b))) rfl
      have hM2 := eqL_u (a := 1072) (k := 22) (v := vSg tp sz 2 ((b, 5, b))) (eqL_t hL5 (eqN_L he2)) rfl
      refine jx_iastN (22) dX11_readLine_139 rfl (rfl) (by omega) (by omega) ?_
      refine jx_aload_n dX11_readLine_140 rfl ?_
      refine jx_getR dX11_readLine_141 flX11_34 rfl rfl (hR _ _ _ rfl) ?_
      refine jx_bipush (v := 23) dX11_readLine_144 (by decide) ?_
      refine jx_aload_n dX11_readLine_146 rfl ?_
      refine jx_iconst (v := 2) dX11_readLine_147 (by decide) ?_
      refine jx_VRi (as := [.int _]) dX11_readLine_148 mlX11_324 okX11_readSigned viX11_readSigned rfl rfl rfl rfl rfl (by decide) (Nat.le_of_ble_eq_true rfl) (tX11_readSigned (top := 2) (b := (pNu tp sz 0 2 (pSg1 tp sz ((b, 5, b)))).1) (bd := (pNu tp sz 0 2 (pSg1 tp sz ((b, 5, b)))).2.1) (bp := (pNu tp sz 0 2 (pSg1 tp sz ((b, 5, b)))).2.2) hW hR hQ2 (by omega)) (fun x148 t148 hq148 => ?_)
      obtain ⟨rfl, J3, rfl, he3, hP3⟩ := hq148
      have hQ3 := P3_u (a := 1072) (k := 23) (v := vSg tp sz 2 (pNu tp sz 0 2 (pSg1 tp sz ((b, 5, b))))) hP3 (by decide) (by decide)
      have hA3 := TL_uk (k := 23) (TL_n hA2 he3) 1072 6 (vSg tp sz 2 (pNu tp sz 0 2 (pSg1 tp sz ((b, 5, b))))) rfl
      have hM3 := eqL_u (a := 1072) (k := 23) (v := vSg tp sz 2 (pNu tp sz 0 2 (pSg1 tp sz ((b, 5, b))))) (eqL_t hM2 (eqN_L he3)) rfl
      refine jx_iastN (23) dX11_readLine_151 rfl (rfl) (by omega) (by omega) ?_
      refine jx_goto 355 dX11_readLine_152 (by decide) ?_
      rw [pSg1_b h5n, pNu_b h5n, pSg1_b h5n, pNu_b h5n] at hQ3
      exact jx_ls (by exact ⟨rfl, rfl, rfl, trivial⟩) (key _ ((b, 5, b), T) 1 hkl (eqL_M hM3) hQ3 (fun q => absurd q h5n) (by unfold liBody; rw [hkl, if_pos (by decide), if_neg h100]; try rfl))
end RH1
