/-! THE LAW'S BODY: each case walked -/
abbrev mL_law : jMI := (yL_law, code, 8, some FieldType.boolean, [])
section LC
variable {w : jWD} {l : Launch} {n : Nat} {I : Nat → Nat → Int32} {L : Nat → Nat → Int64} {R : Nat → Nat → Option Nat} {Lq i kc ks : Nat} {xs : Nat → Int32}
abbrev lL (i : Nat) : List (Nat × Value) := [(4, .int (nI i)), (3, .ref 1118), (2, .ref 1069), (1, .ref 1000), (0, .ref 997)]
def lQ : Option Value → jHS → Prop := fun v _ => v = some (.int 1)
def lX : String → jHS → Prop := fun _ _ => False
/-- where the cases meet again -/
def lK (w : jWD) (l : Launch) (kc ks i : Nat) : Prop := ∀ (n : Nat) (I : Nat → Nat → Int32) (L : Nat → Nat → Int64) (R : Nat → Nat → Option Nat), INV I L R → jWP w l mL_law 60 kc ks lQ lX 2366 (lL i) [] (n, shE, I, L, R)
theorem nI_p (i k : Nat) : nI i + nI k = nI (i + k) := by rw [nI_zI, nI_zI, nI_zI, zI_add]; rfl
theorem jx_boolZ {M : jMI} {d kc ks : Nat} {Qn : Option Value → jHS → Prop} {Qx : String → jHS → Prop} {pc : Nat} {ls : List (Nat × Value)} {st : List Value} {σ : jHS} {x : Int32} {z : Bool} {o1 o2 : Int} (pz s : Nat) (d1 : decode M.2.1 pc = .ok (.ifCond .eq o1, 3)) (d2 : decode M.2.1 (pc + 3) = .ok (.iconst 1, 1)) (d3 : decode M.2.1 (pc + 3 + 1) = .ok (.goto o2, 3)) (d4 : decode M.2.1 pz = .ok (.iconst 0, 1)) (t1 : (pc : Int) + o1 = (pz : Int)) (t2 : ((pc + 3 + 1 : Nat) : Int) + o2 = (s : Int) ∧ pz + 1 = s) (hz : z = true ↔ ¬ x = 0)
    (k : jWP w l M d kc ks Qn Qx s ls (.int (jb z) :: st) σ) : jWP w l M d kc ks Qn Qx pc ls (.int x :: st) σ := by
  refine jx_if_eq pz d1 t1 (fun e => ?_) (fun e => ?_)
  · have hf : z = false := Bool.eq_false_iff.mpr (fun q => hz.mp q e)
    subst hf
    refine jx_iconst (v := 0) d4 rfl ?_
    rw [t2.2]; exact k
  · have hf : z = true := hz.mpr e
    subst hf
    refine jx_iconst (v := 1) d2 rfl ?_
    exact jx_goto s d3 t2.1 k
theorem cmp_s (x : Int64) : lg_cmp x x = 0 := by simp [lg_cmp]
set_option maxHeartbeats 1000000 in
theorem cL_case0 (hW : jWok w l) (hNc : va_Nc eI eN w.1) (hX : jScr w Lq xs) (hL : Lq ≤ 3072) (hi : i + 6 ≤ Lq) (hV : INV I L R) (hk : lK w l kc ks i) : jWP w l mL_law 60 (kc + 1) (ks + 6) lQ lX 196 (lL i) [] (n, shE, I, L, R) := by
  obtain ⟨dN, dX, h1, h2, hC⟩ := kD_feed (n := n) hW hV (xs (i + 1)) (xs (i + 2)) (xs (i + 3)) (xs (i + 4)) (xs (i + 5))
  refine jx_aload_n dL_law_196 rfl ?_
  refine jx_aload_n dL_law_197 rfl ?_
  refine jx_iload dL_law_198 rfl ?_
  refine jx_iconst (v := nI 1) dL_law_200 rfl ?_
  refine jx_iaddE dL_law_201 (nI_p i 1) ?_
  refine jx_sld (i + 1) hX dL_law_202 rfl (by omega) (by omega) ?_
  refine jx_aload_n dL_law_203 rfl ?_
  refine jx_iload dL_law_204 rfl ?_
  refine jx_iconst (v := nI 2) dL_law_206 rfl ?_
  refine jx_iaddE dL_law_207 (nI_p i 2) ?_
  refine jx_sld (i + 2) hX dL_law_208 rfl (by omega) (by omega) ?_
  refine jx_aload_n dL_law_209 rfl ?_
  refine jx_iload dL_law_210 rfl ?_
  refine jx_iconst (v := nI 3) dL_law_212 rfl ?_
  refine jx_iaddE dL_law_213 (nI_p i 3) ?_
  refine jx_sld (i + 3) hX dL_law_214 rfl (by omega) (by omega) ?_
  refine jx_aload_n dL_law_215 rfl ?_
  refine jx_iload dL_law_216 rfl ?_
  refine jx_iconst (v := nI 4) dL_law_218 rfl ?_
  refine jx_iaddE dL_law_219 (nI_p i 4) ?_
  refine jx_sld (i + 4) hX dL_law_220 rfl (by omega) (by omega) ?_
  refine jx_aload_n dL_law_221 rfl ?_
  refine jx_iload dL_law_222 rfl ?_
  refine jx_iconst (v := nI 5) dL_law_224 rfl ?_
  refine jx_iaddE dL_law_225 (nI_p i 5) ?_
  refine jx_sld (i + 5) hX dL_law_226 rfl (by omega) (by omega) ?_
  refine jx_invV (as := [.int (xs (i + 1)), .int (xs (i + 2)), .int (xs (i + 3)), .int (xs (i + 4)), .int (xs (i + 5))]) dL_law_227 mlL_109 okX10_feed viX10_feed rfl rfl rfl rfl rfl (by omega) (Nat.zero_le _) (Nat.zero_le _) (Nat.le_of_ble_eq_true rfl) hC ?_ (fun _ _ h => h.elim)
  rintro v t ⟨r, rfl, J, M, rfl, hX2⟩
  refine jx_aload_n dL_law_230 rfl ?_
  refine jx_aload_n dL_law_231 rfl ?_
  refine jx_iload dL_law_232 rfl ?_
  refine jx_iconst (v := nI 1) dL_law_234 rfl ?_
  refine jx_iaddE dL_law_235 (nI_p i 1) ?_
  refine jx_sld (i + 1) hX dL_law_236 rfl (by omega) (by omega) ?_
  refine jx_aload_n dL_law_237 rfl ?_
  refine jx_iload dL_law_238 rfl ?_
  refine jx_iconst (v := nI 2) dL_law_240 rfl ?_
  refine jx_iaddE dL_law_241 (nI_p i 2) ?_
  refine jx_sld (i + 2) hX dL_law_242 rfl (by omega) (by omega) ?_
  refine jx_aload_n dL_law_243 rfl ?_
  refine jx_iload dL_law_244 rfl ?_
  refine jx_iconst (v := nI 3) dL_law_246 rfl ?_
  refine jx_iaddE dL_law_247 (nI_p i 3) ?_
  refine jx_sld (i + 3) hX dL_law_248 rfl (by omega) (by omega) ?_
  refine jx_aload_n dL_law_249 rfl ?_
  refine jx_iload dL_law_250 rfl ?_
  refine jx_iconst (v := nI 4) dL_law_252 rfl ?_
  refine jx_iaddE dL_law_253 (nI_p i 4) ?_
  refine jx_sld (i + 4) hX dL_law_254 rfl (by omega) (by omega) ?_
  refine jx_aload_n dL_law_255 rfl ?_
  refine jx_iload dL_law_256 rfl ?_
  refine jx_iconst (v := nI 5) dL_law_258 rfl ?_
  refine jx_iaddE dL_law_259 (nI_p i 5) ?_
  refine jx_sld (i + 5) hX dL_law_260 rfl (by omega) (by omega) ?_
  refine jx_invV (as := [.int (xs (i + 1)), .int (xs (i + 2)), .int (xs (i + 3)), .int (xs (i + 4)), .int (xs (i + 5))]) dL_law_261 mlL_113 okX11_feed viX11_feed rfl rfl rfl rfl rfl (by omega) (Nat.zero_le _) (Nat.zero_le _) (Nat.le_of_ble_eq_true rfl) hX2 ?_ (fun _ _ h => h.elim)
  rintro v t ⟨r', rfl, rfl, K, rfl, iv⟩
  exact jx_icmp_eq 2366 dL_law_264 (by decide) (fun _ => jWP_mono (by omega) (by omega) (hk _ _ _ _ iv)) (fun ne => absurd rfl ne)
set_option maxHeartbeats 1000000 in
theorem cL_case1 (hW : jWok w l) (hNc : va_Nc eI eN w.1) (hX : jScr w Lq xs) (hL : Lq ≤ 3072) (hi : i + 6 ≤ Lq) (hV : INV I L R) (hk : lK w l kc ks i) : jWP w l mL_law 60 (kc + 1) (ks + 6) lQ lX 269 (lL i) [] (n, shE, I, L, R) := by
  obtain ⟨dL, dX, c, h1, h2, hC⟩ := kL_island (n := n) hW hV (xs (i + 1))
  refine jx_aload_n dL_law_269 rfl ?_
  refine jx_aload_n dL_law_270 rfl ?_
  refine jx_iload dL_law_271 rfl ?_
  refine jx_iconst (v := nI 1) dL_law_273 rfl ?_
  refine jx_iaddE dL_law_274 (nI_p i 1) ?_
  refine jx_sld (i + 1) hX dL_law_275 rfl (by omega) (by omega) ?_
  refine jx_aload_n dL_law_276 rfl ?_
  refine jx_invSW (as := [.ref 1000, .int (xs (i + 1)), .ref 1118]) dL_law_277 mlL_114 owL_island stL_island rfl rfl (by omega) (by omega) (by omega) (Nat.le_of_ble_eq_true rfl) hC ?_ (fun _ _ h => h.elim)
  rintro v t ⟨rfl, n', J, M, R', hn, rfl, hX2⟩
  refine jx_istore dL_law_280 (by decide) ?_
  refine jx_aload_n dL_law_282 rfl ?_
  refine jx_aload_n dL_law_283 rfl ?_
  refine jx_iload dL_law_284 rfl ?_
  refine jx_iconst (v := nI 1) dL_law_286 rfl ?_
  refine jx_iaddE dL_law_287 (nI_p i 1) ?_
  refine jx_sld (i + 1) hX dL_law_288 rfl (by omega) (by omega) ?_
  refine jx_invV (as := [.int (xs (i + 1))]) dL_law_289 mlL_119 okX11_island viX11_island rfl rfl rfl rfl rfl (by omega) (Nat.zero_le _) (Nat.zero_le _) (Nat.le_of_ble_eq_true rfl) hX2 ?_ (fun _ _ h => h.elim)
  rintro v t ⟨r, rfl, K, rfl, e2, e0, iv⟩
  refine jx_istore dL_law_292 (by decide) ?_
  refine jx_aload_n dL_law_294 rfl ?_
  refine jx_Vi (as := []) dL_law_295 mlL_120 okX11_thrown viX11_thrown rfl rfl rfl rfl rfl (by decide) (Nat.le_of_ble_eq_true rfl) (tX11_thrown hW) ?_
  refine jx_iload dL_law_298 rfl ?_
  refine jx_icmp_eq 305 dL_law_300 (by decide) (fun _ => ?_) (fun ne => absurd e2 ne)
  refine jx_iload dL_law_305 rfl ?_
  have fin : ∀ {kc' ks' : Nat} {ls : List (Nat × Value)}, kc ≤ kc' → ks ≤ ks' → jls ls (lL i) → jWP w l mL_law 60 kc' ks' lQ lX 322 ls [] (n', shE, K, M, R') := fun h5 h6 h7 => jx_goto 2366 dL_law_322 (by decide) (jWP_mono h5 h6 (jx_ls h7 (hk _ _ _ _ iv)))
  refine jx_if_ne 322 dL_law_307 (by decide) (fun _ => fin (by omega) (by omega) (by exact ⟨rfl, rfl, rfl, rfl, rfl, trivial⟩)) (fun ec => ?_)
  refine jx_aload_n dL_law_310 rfl ?_
  refine jx_iconst (v := nI 0) dL_law_311 rfl ?_
  refine jx_laldE 0 dL_law_312 rfl rfl (by decide) (by decide) (e0 ec) ?_
  refine jx_iload dL_law_313 rfl ?_
  refine jx_i2l dL_law_315 ?_
  refine jx_lcmp dL_law_316 ?_
  exact jx_if_eq 322 dL_law_317 (by decide) (fun _ => fin (by omega) (by omega) (by exact ⟨rfl, rfl, rfl, rfl, rfl, trivial⟩)) (fun ne => absurd (cmp_s _) ne)
set_option maxHeartbeats 1000000 in
theorem cL_case2 (hW : jWok w l) (hNc : va_Nc eI eN w.1) (hX : jScr w Lq xs) (hL : Lq ≤ 3072) (hi : i + 6 ≤ Lq) (hV : INV I L R) (hk : lK w l kc ks i) : jWP w l mL_law 60 (kc + 1) (ks + 6) lQ lX 325 (lL i) [] (n, shE, I, L, R) := by
  obtain ⟨dN, dX, h1, h2, hC⟩ := kD_fault (n := n) hW hV 
  refine jx_aload_n dL_law_325 rfl ?_
  refine jx_invV (as := []) dL_law_326 mlL_124 okX10_fault viX10_fault rfl rfl rfl rfl rfl (by omega) (Nat.zero_le _) (Nat.zero_le _) (Nat.le_of_ble_eq_true rfl) hC ?_ (fun _ _ h => h.elim)
  rintro v t ⟨r, rfl, J, M, rfl, hX2⟩
  refine jx_aload_n dL_law_329 rfl ?_
  refine jx_invV (as := []) dL_law_330 mlL_127 okX11_fault viX11_fault rfl rfl rfl rfl rfl (by omega) (Nat.zero_le _) (Nat.zero_le _) (Nat.le_of_ble_eq_true rfl) hX2 ?_ (fun _ _ h => h.elim)
  rintro v t ⟨r', rfl, rfl, K, rfl, iv⟩
  exact jx_icmp_eq 2366 dL_law_333 (by decide) (fun _ => jWP_mono (by omega) (by omega) (hk _ _ _ _ iv)) (fun ne => absurd rfl ne)
set_option maxHeartbeats 1000000 in
theorem cL_case3 (hW : jWok w l) (hNc : va_Nc eI eN w.1) (hX : jScr w Lq xs) (hL : Lq ≤ 3072) (hi : i + 6 ≤ Lq) (hV : INV I L R) (hk : lK w l kc ks i) : jWP w l mL_law 60 (kc + 1) (ks + 6) lQ lX 338 (lL i) [] (n, shE, I, L, R) := by
  obtain ⟨dL, dX, c, h1, h2, hC⟩ := kL_count (n := n) hW hV (xs (i + 1))
  refine jx_aload_n dL_law_338 rfl ?_
  refine jx_aload_n dL_law_339 rfl ?_
  refine jx_iload dL_law_340 rfl ?_
  refine jx_iconst (v := nI 1) dL_law_342 rfl ?_
  refine jx_iaddE dL_law_343 (nI_p i 1) ?_
  refine jx_sld (i + 1) hX dL_law_344 rfl (by omega) (by omega) ?_
  refine jx_aload_n dL_law_345 rfl ?_
  refine jx_invSW (as := [.ref 1000, .int (xs (i + 1)), .ref 1118]) dL_law_346 mlL_128 owL_count stL_count rfl rfl (by omega) (by omega) (by omega) (Nat.le_of_ble_eq_true rfl) hC ?_ (fun _ _ h => h.elim)
  rintro v t ⟨rfl, n', J, M, R', hn, rfl, hX2⟩
  refine jx_istore dL_law_349 (by decide) ?_
  refine jx_aload_n dL_law_351 rfl ?_
  refine jx_aload_n dL_law_352 rfl ?_
  refine jx_iload dL_law_353 rfl ?_
  refine jx_iconst (v := nI 1) dL_law_355 rfl ?_
  refine jx_iaddE dL_law_356 (nI_p i 1) ?_
  refine jx_sld (i + 1) hX dL_law_357 rfl (by omega) (by omega) ?_
  refine jx_invV (as := [.int (xs (i + 1))]) dL_law_358 mlL_130 okX11_count viX11_count rfl rfl rfl rfl rfl (by omega) (Nat.zero_le _) (Nat.zero_le _) (Nat.le_of_ble_eq_true rfl) hX2 ?_ (fun _ _ h => h.elim)
  rintro v t ⟨r, rfl, K, rfl, e2, e0, iv⟩
  refine jx_istore dL_law_361 (by decide) ?_
  refine jx_aload_n dL_law_363 rfl ?_
  refine jx_Vi (as := []) dL_law_364 mlL_120 okX11_thrown viX11_thrown rfl rfl rfl rfl rfl (by decide) (Nat.le_of_ble_eq_true rfl) (tX11_thrown hW) ?_
  refine jx_iload dL_law_367 rfl ?_
  refine jx_icmp_eq 374 dL_law_369 (by decide) (fun _ => ?_) (fun ne => absurd e2 ne)
  refine jx_iload dL_law_374 rfl ?_
  have fin : ∀ {kc' ks' : Nat} {ls : List (Nat × Value)}, kc ≤ kc' → ks ≤ ks' → jls ls (lL i) → jWP w l mL_law 60 kc' ks' lQ lX 391 ls [] (n', shE, K, M, R') := fun h5 h6 h7 => jx_goto 2366 dL_law_391 (by decide) (jWP_mono h5 h6 (jx_ls h7 (hk _ _ _ _ iv)))
  refine jx_if_ne 391 dL_law_376 (by decide) (fun _ => fin (by omega) (by omega) (by exact ⟨rfl, rfl, rfl, rfl, rfl, trivial⟩)) (fun ec => ?_)
  refine jx_aload_n dL_law_379 rfl ?_
  refine jx_iconst (v := nI 0) dL_law_380 rfl ?_
  refine jx_laldE 0 dL_law_381 rfl rfl (by decide) (by decide) (e0 ec) ?_
  refine jx_iload dL_law_382 rfl ?_
  refine jx_i2l dL_law_384 ?_
  refine jx_lcmp dL_law_385 ?_
  exact jx_if_eq 391 dL_law_386 (by decide) (fun _ => fin (by omega) (by omega) (by exact ⟨rfl, rfl, rfl, rfl, rfl, trivial⟩)) (fun ne => absurd (cmp_s _) ne)
set_option maxHeartbeats 1000000 in
theorem cL_case4 (hW : jWok w l) (hNc : va_Nc eI eN w.1) (hX : jScr w Lq xs) (hL : Lq ≤ 3072) (hi : i + 6 ≤ Lq) (hV : INV I L R) (hk : lK w l kc ks i) : jWP w l mL_law 60 (kc + 1) (ks + 6) lQ lX 394 (lL i) [] (n, shE, I, L, R) := by
  obtain ⟨dL, dX, c, h1, h2, hC⟩ := kL_cell (n := n) hW hV (xs (i + 1)) (xs (i + 2))
  refine jx_aload_n dL_law_394 rfl ?_
  refine jx_aload_n dL_law_395 rfl ?_
  refine jx_iload dL_law_396 rfl ?_
  refine jx_iconst (v := nI 1) dL_law_398 rfl ?_
  refine jx_iaddE dL_law_399 (nI_p i 1) ?_
  refine jx_sld (i + 1) hX dL_law_400 rfl (by omega) (by omega) ?_
  refine jx_aload_n dL_law_401 rfl ?_
  refine jx_iload dL_law_402 rfl ?_
  refine jx_iconst (v := nI 2) dL_law_404 rfl ?_
  refine jx_iaddE dL_law_405 (nI_p i 2) ?_
  refine jx_sld (i + 2) hX dL_law_406 rfl (by omega) (by omega) ?_
  refine jx_aload_n dL_law_407 rfl ?_
  refine jx_invSW (as := [.ref 1000, .int (xs (i + 1)), .int (xs (i + 2)), .ref 1118]) dL_law_408 mlL_131 owL_cell stL_cell rfl rfl (by omega) (by omega) (by omega) (Nat.le_of_ble_eq_true rfl) hC ?_ (fun _ _ h => h.elim)
  rintro v t ⟨rfl, n', J, M, R', hn, rfl, hX2⟩
  refine jx_istore dL_law_411 (by decide) ?_
  refine jx_aload_n dL_law_413 rfl ?_
  refine jx_aload_n dL_law_414 rfl ?_
  refine jx_iload dL_law_415 rfl ?_
  refine jx_iconst (v := nI 1) dL_law_417 rfl ?_
  refine jx_iaddE dL_law_418 (nI_p i 1) ?_
  refine jx_sld (i + 1) hX dL_law_419 rfl (by omega) (by omega) ?_
  refine jx_aload_n dL_law_420 rfl ?_
  refine jx_iload dL_law_421 rfl ?_
  refine jx_iconst (v := nI 2) dL_law_423 rfl ?_
  refine jx_iaddE dL_law_424 (nI_p i 2) ?_
  refine jx_sld (i + 2) hX dL_law_425 rfl (by omega) (by omega) ?_
  refine jx_invV (as := [.int (xs (i + 1)), .int (xs (i + 2))]) dL_law_426 mlL_134 okX11_cell viX11_cell rfl rfl rfl rfl rfl (by omega) (Nat.zero_le _) (Nat.zero_le _) (Nat.le_of_ble_eq_true rfl) hX2 ?_ (fun _ _ h => h.elim)
  rintro v t ⟨r, rfl, K, rfl, e2, e0, iv⟩
  refine jx_istore dL_law_429 (by decide) ?_
  refine jx_aload_n dL_law_431 rfl ?_
  refine jx_Vi (as := []) dL_law_432 mlL_120 okX11_thrown viX11_thrown rfl rfl rfl rfl rfl (by decide) (Nat.le_of_ble_eq_true rfl) (tX11_thrown hW) ?_
  refine jx_iload dL_law_435 rfl ?_
  refine jx_icmp_eq 442 dL_law_437 (by decide) (fun _ => ?_) (fun ne => absurd e2 ne)
  refine jx_iload dL_law_442 rfl ?_
  have fin : ∀ {kc' ks' : Nat} {ls : List (Nat × Value)}, kc ≤ kc' → ks ≤ ks' → jls ls (lL i) → jWP w l mL_law 60 kc' ks' lQ lX 459 ls [] (n', shE, K, M, R') := fun h5 h6 h7 => jx_goto 2366 dL_law_459 (by decide) (jWP_mono h5 h6 (jx_ls h7 (hk _ _ _ _ iv)))
  refine jx_if_ne 459 dL_law_444 (by decide) (fun _ => fin (by omega) (by omega) (by exact ⟨rfl, rfl, rfl, rfl, rfl, trivial⟩)) (fun ec => ?_)
  refine jx_aload_n dL_law_447 rfl ?_
  refine jx_iconst (v := nI 0) dL_law_448 rfl ?_
  refine jx_laldE 0 dL_law_449 rfl rfl (by decide) (by decide) (e0 ec) ?_
  refine jx_iload dL_law_450 rfl ?_
  refine jx_i2l dL_law_452 ?_
  refine jx_lcmp dL_law_453 ?_
  exact jx_if_eq 459 dL_law_454 (by decide) (fun _ => fin (by omega) (by omega) (by exact ⟨rfl, rfl, rfl, rfl, rfl, trivial⟩)) (fun ne => absurd (cmp_s _) ne)
set_option maxHeartbeats 1000000 in
theorem cL_case5 (hW : jWok w l) (hNc : va_Nc eI eN w.1) (hX : jScr w Lq xs) (hL : Lq ≤ 3072) (hi : i + 6 ≤ Lq) (hV : INV I L R) (hk : lK w l kc ks i) : jWP w l mL_law 60 (kc + 1) (ks + 6) lQ lX 462 (lL i) [] (n, shE, I, L, R) := by
  obtain ⟨dL, dX, c, h1, h2, hC⟩ := kL_quick (n := n) hW hV (xs (i + 1)) (xs (i + 2))
  refine jx_aload_n dL_law_462 rfl ?_
  refine jx_aload_n dL_law_463 rfl ?_
  refine jx_iload dL_law_464 rfl ?_
  refine jx_iconst (v := nI 1) dL_law_466 rfl ?_
  refine jx_iaddE dL_law_467 (nI_p i 1) ?_
  refine jx_sld (i + 1) hX dL_law_468 rfl (by omega) (by omega) ?_
  refine jx_aload_n dL_law_469 rfl ?_
  refine jx_iload dL_law_470 rfl ?_
  refine jx_iconst (v := nI 2) dL_law_472 rfl ?_
  refine jx_iaddE dL_law_473 (nI_p i 2) ?_
  refine jx_sld (i + 2) hX dL_law_474 rfl (by omega) (by omega) ?_
  refine jx_aload_n dL_law_475 rfl ?_
  refine jx_invSW (as := [.ref 1000, .int (xs (i + 1)), .int (xs (i + 2)), .ref 1118]) dL_law_476 mlL_135 owL_quick stL_quick rfl rfl (by omega) (by omega) (by omega) (Nat.le_of_ble_eq_true rfl) hC ?_ (fun _ _ h => h.elim)
  rintro v t ⟨rfl, n', J, M, R', hn, rfl, hX2⟩
  refine jx_istore dL_law_479 (by decide) ?_
  refine jx_aload_n dL_law_481 rfl ?_
  refine jx_aload_n dL_law_482 rfl ?_
  refine jx_iload dL_law_483 rfl ?_
  refine jx_iconst (v := nI 1) dL_law_485 rfl ?_
  refine jx_iaddE dL_law_486 (nI_p i 1) ?_
  refine jx_sld (i + 1) hX dL_law_487 rfl (by omega) (by omega) ?_
  refine jx_aload_n dL_law_488 rfl ?_
  refine jx_iload dL_law_489 rfl ?_
  refine jx_iconst (v := nI 2) dL_law_491 rfl ?_
  refine jx_iaddE dL_law_492 (nI_p i 2) ?_
  refine jx_sld (i + 2) hX dL_law_493 rfl (by omega) (by omega) ?_
  refine jx_invV (as := [.int (xs (i + 1)), .int (xs (i + 2))]) dL_law_494 mlL_137 okX11_quick viX11_quick rfl rfl rfl rfl rfl (by omega) (Nat.zero_le _) (Nat.zero_le _) (Nat.le_of_ble_eq_true rfl) hX2 ?_ (fun _ _ h => h.elim)
  rintro v t ⟨r, rfl, K, rfl, e2, e0, iv⟩
  refine jx_istore dL_law_497 (by decide) ?_
  refine jx_aload_n dL_law_499 rfl ?_
  refine jx_Vi (as := []) dL_law_500 mlL_120 okX11_thrown viX11_thrown rfl rfl rfl rfl rfl (by decide) (Nat.le_of_ble_eq_true rfl) (tX11_thrown hW) ?_
  refine jx_iload dL_law_503 rfl ?_
  refine jx_icmp_eq 510 dL_law_505 (by decide) (fun _ => ?_) (fun ne => absurd e2 ne)
  refine jx_iload dL_law_510 rfl ?_
  have fin : ∀ {kc' ks' : Nat} {ls : List (Nat × Value)}, kc ≤ kc' → ks ≤ ks' → jls ls (lL i) → jWP w l mL_law 60 kc' ks' lQ lX 534 ls [] (n', shE, K, M, R') := fun h5 h6 h7 => jx_goto 2366 dL_law_534 (by decide) (jWP_mono h5 h6 (jx_ls h7 (hk _ _ _ _ iv)))
  refine jx_if_ne 534 dL_law_512 (by decide) (fun _ => fin (by omega) (by omega) (by exact ⟨rfl, rfl, rfl, rfl, rfl, trivial⟩)) (fun ec => ?_)
  refine jx_aload_n dL_law_515 rfl ?_
  refine jx_iconst (v := nI 0) dL_law_516 rfl ?_
  refine jx_laldE 0 dL_law_517 rfl rfl (by decide) (by decide) (e0 ec) ?_
  refine jx_iload dL_law_518 rfl ?_
  refine jx_if_eq 527 dL_law_520 (by decide) (fun ez => ?_) (fun ez => ?_)
  · refine jx_lconst dL_law_527 rfl ?_
    refine jx_lcmp dL_law_528 ?_
    exact jx_if_eq 534 dL_law_529 (by decide) (fun _ => fin (by omega) (by omega) (by exact ⟨rfl, rfl, rfl, rfl, rfl, trivial⟩)) (fun ne => absurd (by dsimp only; rw [if_pos ez]; exact cmp_s _) ne)
  · refine jx_lconst dL_law_523 rfl ?_
    refine jx_goto 528 dL_law_524 (by decide) ?_
    refine jx_lcmp dL_law_528 ?_
    exact jx_if_eq 534 dL_law_529 (by decide) (fun _ => fin (by omega) (by omega) (by exact ⟨rfl, rfl, rfl, rfl, rfl, trivial⟩)) (fun ne => absurd (by dsimp only; rw [if_neg ez]; exact cmp_s _) ne)
set_option maxHeartbeats 1000000 in
theorem cL_case6 (hW : jWok w l) (hNc : va_Nc eI eN w.1) (hX : jScr w Lq xs) (hL : Lq ≤ 3072) (hi : i + 6 ≤ Lq) (hV : INV I L R) (hk : lK w l kc ks i) : jWP w l mL_law 60 (kc + 1) (ks + 6) lQ lX 537 (lL i) [] (n, shE, I, L, R) := by
  obtain ⟨dL, dX, c, h1, h2, hC⟩ := kL_water (n := n) hW hV (xs (i + 1)) (xs (i + 2))
  refine jx_aload_n dL_law_537 rfl ?_
  refine jx_aload_n dL_law_538 rfl ?_
  refine jx_iload dL_law_539 rfl ?_
  refine jx_iconst (v := nI 1) dL_law_541 rfl ?_
  refine jx_iaddE dL_law_542 (nI_p i 1) ?_
  refine jx_sld (i + 1) hX dL_law_543 rfl (by omega) (by omega) ?_
  refine jx_aload_n dL_law_544 rfl ?_
  refine jx_iload dL_law_545 rfl ?_
  refine jx_iconst (v := nI 2) dL_law_547 rfl ?_
  refine jx_iaddE dL_law_548 (nI_p i 2) ?_
  refine jx_sld (i + 2) hX dL_law_549 rfl (by omega) (by omega) ?_
  refine jx_aload_n dL_law_550 rfl ?_
  refine jx_invSW (as := [.ref 1000, .int (xs (i + 1)), .int (xs (i + 2)), .ref 1118]) dL_law_551 mlL_138 owL_water stL_water rfl rfl (by omega) (by omega) (by omega) (Nat.le_of_ble_eq_true rfl) hC ?_ (fun _ _ h => h.elim)
  rintro v t ⟨rfl, n', J, M, R', hn, rfl, hX2⟩
  refine jx_istore dL_law_554 (by decide) ?_
  refine jx_aload_n dL_law_556 rfl ?_
  refine jx_aload_n dL_law_557 rfl ?_
  refine jx_iload dL_law_558 rfl ?_
  refine jx_iconst (v := nI 1) dL_law_560 rfl ?_
  refine jx_iaddE dL_law_561 (nI_p i 1) ?_
  refine jx_sld (i + 1) hX dL_law_562 rfl (by omega) (by omega) ?_
  refine jx_aload_n dL_law_563 rfl ?_
  refine jx_iload dL_law_564 rfl ?_
  refine jx_iconst (v := nI 2) dL_law_566 rfl ?_
  refine jx_iaddE dL_law_567 (nI_p i 2) ?_
  refine jx_sld (i + 2) hX dL_law_568 rfl (by omega) (by omega) ?_
  refine jx_invV (as := [.int (xs (i + 1)), .int (xs (i + 2))]) dL_law_569 mlL_140 okX11_water viX11_water rfl rfl rfl rfl rfl (by omega) (Nat.zero_le _) (Nat.zero_le _) (Nat.le_of_ble_eq_true rfl) hX2 ?_ (fun _ _ h => h.elim)
  rintro v t ⟨r, rfl, K, rfl, e2, e0, iv⟩
  refine jx_istore dL_law_572 (by decide) ?_
  refine jx_aload_n dL_law_574 rfl ?_
  refine jx_Vi (as := []) dL_law_575 mlL_120 okX11_thrown viX11_thrown rfl rfl rfl rfl rfl (by decide) (Nat.le_of_ble_eq_true rfl) (tX11_thrown hW) ?_
  refine jx_iload dL_law_578 rfl ?_
  refine jx_icmp_eq 585 dL_law_580 (by decide) (fun _ => ?_) (fun ne => absurd e2 ne)
  refine jx_iload dL_law_585 rfl ?_
  have fin : ∀ {kc' ks' : Nat} {ls : List (Nat × Value)}, kc ≤ kc' → ks ≤ ks' → jls ls (lL i) → jWP w l mL_law 60 kc' ks' lQ lX 602 ls [] (n', shE, K, M, R') := fun h5 h6 h7 => jx_goto 2366 dL_law_602 (by decide) (jWP_mono h5 h6 (jx_ls h7 (hk _ _ _ _ iv)))
  refine jx_if_ne 602 dL_law_587 (by decide) (fun _ => fin (by omega) (by omega) (by exact ⟨rfl, rfl, rfl, rfl, rfl, trivial⟩)) (fun ec => ?_)
  refine jx_aload_n dL_law_590 rfl ?_
  refine jx_iconst (v := nI 0) dL_law_591 rfl ?_
  refine jx_laldE 0 dL_law_592 rfl rfl (by decide) (by decide) (e0 ec) ?_
  refine jx_iload dL_law_593 rfl ?_
  refine jx_i2l dL_law_595 ?_
  refine jx_lcmp dL_law_596 ?_
  exact jx_if_eq 602 dL_law_597 (by decide) (fun _ => fin (by omega) (by omega) (by exact ⟨rfl, rfl, rfl, rfl, rfl, trivial⟩)) (fun ne => absurd (cmp_s _) ne)
set_option maxHeartbeats 1000000 in
theorem cL_case7 (hW : jWok w l) (hNc : va_Nc eI eN w.1) (hX : jScr w Lq xs) (hL : Lq ≤ 3072) (hi : i + 6 ≤ Lq) (hV : INV I L R) (hk : lK w l kc ks i) : jWP w l mL_law 60 (kc + 1) (ks + 6) lQ lX 605 (lL i) [] (n, shE, I, L, R) := by
  obtain ⟨dL, dX, c, h1, h2, hC⟩ := kL_party (n := n) hW hV (xs (i + 1)) (xs (i + 2))
  refine jx_aload_n dL_law_605 rfl ?_
  refine jx_aload_n dL_law_606 rfl ?_
  refine jx_iload dL_law_607 rfl ?_
  refine jx_iconst (v := nI 1) dL_law_609 rfl ?_
  refine jx_iaddE dL_law_610 (nI_p i 1) ?_
  refine jx_sld (i + 1) hX dL_law_611 rfl (by omega) (by omega) ?_
  refine jx_aload_n dL_law_612 rfl ?_
  refine jx_iload dL_law_613 rfl ?_
  refine jx_iconst (v := nI 2) dL_law_615 rfl ?_
  refine jx_iaddE dL_law_616 (nI_p i 2) ?_
  refine jx_sld (i + 2) hX dL_law_617 rfl (by omega) (by omega) ?_
  refine jx_aload_n dL_law_618 rfl ?_
  refine jx_invSW (as := [.ref 1000, .int (xs (i + 1)), .int (xs (i + 2)), .ref 1118]) dL_law_619 mlL_141 owL_party stL_party rfl rfl (by omega) (by omega) (by omega) (Nat.le_of_ble_eq_true rfl) hC ?_ (fun _ _ h => h.elim)
  rintro v t ⟨rfl, n', J, M, R', hn, rfl, hX2⟩
  refine jx_istore dL_law_622 (by decide) ?_
  refine jx_aload_n dL_law_624 rfl ?_
  refine jx_aload_n dL_law_625 rfl ?_
  refine jx_iload dL_law_626 rfl ?_
  refine jx_iconst (v := nI 1) dL_law_628 rfl ?_
  refine jx_iaddE dL_law_629 (nI_p i 1) ?_
  refine jx_sld (i + 1) hX dL_law_630 rfl (by omega) (by omega) ?_
  refine jx_aload_n dL_law_631 rfl ?_
  refine jx_iload dL_law_632 rfl ?_
  refine jx_iconst (v := nI 2) dL_law_634 rfl ?_
  refine jx_iaddE dL_law_635 (nI_p i 2) ?_
  refine jx_sld (i + 2) hX dL_law_636 rfl (by omega) (by omega) ?_
  refine jx_invV (as := [.int (xs (i + 1)), .int (xs (i + 2))]) dL_law_637 mlL_143 okX11_party viX11_party rfl rfl rfl rfl rfl (by omega) (Nat.zero_le _) (Nat.zero_le _) (Nat.le_of_ble_eq_true rfl) hX2 ?_ (fun _ _ h => h.elim)
  rintro v t ⟨r, rfl, K, rfl, e2, e0, iv⟩
  refine jx_istore dL_law_640 (by decide) ?_
  refine jx_aload_n dL_law_642 rfl ?_
  refine jx_Vi (as := []) dL_law_643 mlL_120 okX11_thrown viX11_thrown rfl rfl rfl rfl rfl (by decide) (Nat.le_of_ble_eq_true rfl) (tX11_thrown hW) ?_
  refine jx_iload dL_law_646 rfl ?_
  refine jx_icmp_eq 653 dL_law_648 (by decide) (fun _ => ?_) (fun ne => absurd e2 ne)
  refine jx_iload dL_law_653 rfl ?_
  have fin : ∀ {kc' ks' : Nat} {ls : List (Nat × Value)}, kc ≤ kc' → ks ≤ ks' → jls ls (lL i) → jWP w l mL_law 60 kc' ks' lQ lX 670 ls [] (n', shE, K, M, R') := fun h5 h6 h7 => jx_goto 2366 dL_law_670 (by decide) (jWP_mono h5 h6 (jx_ls h7 (hk _ _ _ _ iv)))
  refine jx_if_ne 670 dL_law_655 (by decide) (fun _ => fin (by omega) (by omega) (by exact ⟨rfl, rfl, rfl, rfl, rfl, trivial⟩)) (fun ec => ?_)
  refine jx_aload_n dL_law_658 rfl ?_
  refine jx_iconst (v := nI 0) dL_law_659 rfl ?_
  refine jx_laldE 0 dL_law_660 rfl rfl (by decide) (by decide) (e0 ec) ?_
  refine jx_iload dL_law_661 rfl ?_
  refine jx_i2l dL_law_663 ?_
  refine jx_lcmp dL_law_664 ?_
  exact jx_if_eq 670 dL_law_665 (by decide) (fun _ => fin (by omega) (by omega) (by exact ⟨rfl, rfl, rfl, rfl, rfl, trivial⟩)) (fun ne => absurd (cmp_s _) ne)
set_option maxHeartbeats 1000000 in
theorem cL_case8 (hW : jWok w l) (hNc : va_Nc eI eN w.1) (hX : jScr w Lq xs) (hL : Lq ≤ 3072) (hi : i + 6 ≤ Lq) (hV : INV I L R) (hk : lK w l kc ks i) : jWP w l mL_law 60 (kc + 1) (ks + 6) lQ lX 673 (lL i) [] (n, shE, I, L, R) := by
  obtain ⟨dL, dX, c, h1, h2, hC⟩ := kL_may (n := n) hW hV (xs (i + 1)) (xs (i + 2)) (xs (i + 3)) (xs (i + 4))
  refine jx_aload_n dL_law_673 rfl ?_
  refine jx_aload_n dL_law_674 rfl ?_
  refine jx_iload dL_law_675 rfl ?_
  refine jx_iconst (v := nI 1) dL_law_677 rfl ?_
  refine jx_iaddE dL_law_678 (nI_p i 1) ?_
  refine jx_sld (i + 1) hX dL_law_679 rfl (by omega) (by omega) ?_
  refine jx_aload_n dL_law_680 rfl ?_
  refine jx_iload dL_law_681 rfl ?_
  refine jx_iconst (v := nI 2) dL_law_683 rfl ?_
  refine jx_iaddE dL_law_684 (nI_p i 2) ?_
  refine jx_sld (i + 2) hX dL_law_685 rfl (by omega) (by omega) ?_
  refine jx_aload_n dL_law_686 rfl ?_
  refine jx_iload dL_law_687 rfl ?_
  refine jx_iconst (v := nI 3) dL_law_689 rfl ?_
  refine jx_iaddE dL_law_690 (nI_p i 3) ?_
  refine jx_sld (i + 3) hX dL_law_691 rfl (by omega) (by omega) ?_
  refine jx_aload_n dL_law_692 rfl ?_
  refine jx_iload dL_law_693 rfl ?_
  refine jx_iconst (v := nI 4) dL_law_695 rfl ?_
  refine jx_iaddE dL_law_696 (nI_p i 4) ?_
  refine jx_sld (i + 4) hX dL_law_697 rfl (by omega) (by omega) ?_
  refine jx_aload_n dL_law_698 rfl ?_
  refine jx_invSW (as := [.ref 1000, .int (xs (i + 1)), .int (xs (i + 2)), .int (xs (i + 3)), .int (xs (i + 4)), .ref 1118]) dL_law_699 mlL_144 owL_may stL_may rfl rfl (by omega) (by omega) (by omega) (Nat.le_of_ble_eq_true rfl) hC ?_ (fun _ _ h => h.elim)
  rintro v t ⟨rfl, n', J, M, R', hn, rfl, hX2⟩
  refine jx_istore dL_law_702 (by decide) ?_
  refine jx_aload_n dL_law_704 rfl ?_
  refine jx_aload_n dL_law_705 rfl ?_
  refine jx_iload dL_law_706 rfl ?_
  refine jx_iconst (v := nI 1) dL_law_708 rfl ?_
  refine jx_iaddE dL_law_709 (nI_p i 1) ?_
  refine jx_sld (i + 1) hX dL_law_710 rfl (by omega) (by omega) ?_
  refine jx_aload_n dL_law_711 rfl ?_
  refine jx_iload dL_law_712 rfl ?_
  refine jx_iconst (v := nI 2) dL_law_714 rfl ?_
  refine jx_iaddE dL_law_715 (nI_p i 2) ?_
  refine jx_sld (i + 2) hX dL_law_716 rfl (by omega) (by omega) ?_
  refine jx_aload_n dL_law_717 rfl ?_
  refine jx_iload dL_law_718 rfl ?_
  refine jx_iconst (v := nI 3) dL_law_720 rfl ?_
  refine jx_iaddE dL_law_721 (nI_p i 3) ?_
  refine jx_sld (i + 3) hX dL_law_722 rfl (by omega) (by omega) ?_
  refine jx_aload_n dL_law_723 rfl ?_
  refine jx_iload dL_law_724 rfl ?_
  refine jx_iconst (v := nI 4) dL_law_726 rfl ?_
  refine jx_iaddE dL_law_727 (nI_p i 4) ?_
  refine jx_sld (i + 4) hX dL_law_728 rfl (by omega) (by omega) ?_
  refine jx_invV (as := [.int (xs (i + 1)), .int (xs (i + 2)), .int (xs (i + 3)), .int (xs (i + 4))]) dL_law_729 mlL_147 okX11_may viX11_may rfl rfl rfl rfl rfl (by omega) (Nat.zero_le _) (Nat.zero_le _) (Nat.le_of_ble_eq_true rfl) hX2 ?_ (fun _ _ h => h.elim)
  rintro v t ⟨r, rfl, K, rfl, e2, e0, iv⟩
  refine jx_istore dL_law_732 (by decide) ?_
  refine jx_aload_n dL_law_734 rfl ?_
  refine jx_Vi (as := []) dL_law_735 mlL_120 okX11_thrown viX11_thrown rfl rfl rfl rfl rfl (by decide) (Nat.le_of_ble_eq_true rfl) (tX11_thrown hW) ?_
  refine jx_iload dL_law_738 rfl ?_
  refine jx_icmp_eq 745 dL_law_740 (by decide) (fun _ => ?_) (fun ne => absurd e2 ne)
  refine jx_iload dL_law_745 rfl ?_
  have fin : ∀ {kc' ks' : Nat} {ls : List (Nat × Value)}, kc ≤ kc' → ks ≤ ks' → jls ls (lL i) → jWP w l mL_law 60 kc' ks' lQ lX 769 ls [] (n', shE, K, M, R') := fun h5 h6 h7 => jx_goto 2366 dL_law_769 (by decide) (jWP_mono h5 h6 (jx_ls h7 (hk _ _ _ _ iv)))
  refine jx_if_ne 769 dL_law_747 (by decide) (fun _ => fin (by omega) (by omega) (by exact ⟨rfl, rfl, rfl, rfl, rfl, trivial⟩)) (fun ec => ?_)
  refine jx_aload_n dL_law_750 rfl ?_
  refine jx_iconst (v := nI 0) dL_law_751 rfl ?_
  refine jx_laldE 0 dL_law_752 rfl rfl (by decide) (by decide) (e0 ec) ?_
  refine jx_iload dL_law_753 rfl ?_
  refine jx_if_eq 762 dL_law_755 (by decide) (fun ez => ?_) (fun ez => ?_)
  · refine jx_lconst dL_law_762 rfl ?_
    refine jx_lcmp dL_law_763 ?_
    exact jx_if_eq 769 dL_law_764 (by decide) (fun _ => fin (by omega) (by omega) (by exact ⟨rfl, rfl, rfl, rfl, rfl, trivial⟩)) (fun ne => absurd (by dsimp only; rw [if_pos ez]; exact cmp_s _) ne)
  · refine jx_lconst dL_law_758 rfl ?_
    refine jx_goto 763 dL_law_759 (by decide) ?_
    refine jx_lcmp dL_law_763 ?_
    exact jx_if_eq 769 dL_law_764 (by decide) (fun _ => fin (by omega) (by omega) (by exact ⟨rfl, rfl, rfl, rfl, rfl, trivial⟩)) (fun ne => absurd (by dsimp only; rw [if_neg ez]; exact cmp_s _) ne)
set_option maxHeartbeats 1000000 in
theorem cL_case9 (hW : jWok w l) (hNc : va_Nc eI eN w.1) (hX : jScr w Lq xs) (hL : Lq ≤ 3072) (hi : i + 6 ≤ Lq) (hV : INV I L R) (hk : lK w l kc ks i) : jWP w l mL_law 60 (kc + 1) (ks + 6) lQ lX 772 (lL i) [] (n, shE, I, L, R) := by
  obtain ⟨dL, dX, c, h1, h2, hC⟩ := kL_cross (n := n) hW hV (xs (i + 1)) (xs (i + 2)) (xs (i + 3))
  refine jx_aload_n dL_law_772 rfl ?_
  refine jx_aload_n dL_law_773 rfl ?_
  refine jx_iload dL_law_774 rfl ?_
  refine jx_iconst (v := nI 1) dL_law_776 rfl ?_
  refine jx_iaddE dL_law_777 (nI_p i 1) ?_
  refine jx_sld (i + 1) hX dL_law_778 rfl (by omega) (by omega) ?_
  refine jx_aload_n dL_law_779 rfl ?_
  refine jx_iload dL_law_780 rfl ?_
  refine jx_iconst (v := nI 2) dL_law_782 rfl ?_
  refine jx_iaddE dL_law_783 (nI_p i 2) ?_
  refine jx_sld (i + 2) hX dL_law_784 rfl (by omega) (by omega) ?_
  refine jx_aload_n dL_law_785 rfl ?_
  refine jx_iload dL_law_786 rfl ?_
  refine jx_iconst (v := nI 3) dL_law_788 rfl ?_
  refine jx_iaddE dL_law_789 (nI_p i 3) ?_
  refine jx_sld (i + 3) hX dL_law_790 rfl (by omega) (by omega) ?_
  refine jx_aload_n dL_law_791 rfl ?_
  refine jx_invSW (as := [.ref 1000, .int (xs (i + 1)), .int (xs (i + 2)), .int (xs (i + 3)), .ref 1118]) dL_law_792 mlL_148 owL_cross stL_cross rfl rfl (by omega) (by omega) (by omega) (Nat.le_of_ble_eq_true rfl) hC ?_ (fun _ _ h => h.elim)
  rintro v t ⟨rfl, n', J, M, R', hn, rfl, hX2⟩
  refine jx_istore dL_law_795 (by decide) ?_
  refine jx_aload_n dL_law_797 rfl ?_
  refine jx_aload_n dL_law_798 rfl ?_
  refine jx_iload dL_law_799 rfl ?_
  refine jx_iconst (v := nI 1) dL_law_801 rfl ?_
  refine jx_iaddE dL_law_802 (nI_p i 1) ?_
  refine jx_sld (i + 1) hX dL_law_803 rfl (by omega) (by omega) ?_
  refine jx_aload_n dL_law_804 rfl ?_
  refine jx_iload dL_law_805 rfl ?_
  refine jx_iconst (v := nI 2) dL_law_807 rfl ?_
  refine jx_iaddE dL_law_808 (nI_p i 2) ?_
  refine jx_sld (i + 2) hX dL_law_809 rfl (by omega) (by omega) ?_
  refine jx_aload_n dL_law_810 rfl ?_
  refine jx_iload dL_law_811 rfl ?_
  refine jx_iconst (v := nI 3) dL_law_813 rfl ?_
  refine jx_iaddE dL_law_814 (nI_p i 3) ?_
  refine jx_sld (i + 3) hX dL_law_815 rfl (by omega) (by omega) ?_
  refine jx_invV (as := [.int (xs (i + 1)), .int (xs (i + 2)), .int (xs (i + 3))]) dL_law_816 mlL_151 okX11_cross viX11_cross rfl rfl rfl rfl rfl (by omega) (Nat.zero_le _) (Nat.zero_le _) (Nat.le_of_ble_eq_true rfl) hX2 ?_ (fun _ _ h => h.elim)
  rintro v t ⟨r, rfl, K, rfl, e2, e0, iv⟩
  refine jx_istore dL_law_819 (by decide) ?_
  refine jx_aload_n dL_law_821 rfl ?_
  refine jx_Vi (as := []) dL_law_822 mlL_120 okX11_thrown viX11_thrown rfl rfl rfl rfl rfl (by decide) (Nat.le_of_ble_eq_true rfl) (tX11_thrown hW) ?_
  refine jx_iload dL_law_825 rfl ?_
  refine jx_icmp_eq 832 dL_law_827 (by decide) (fun _ => ?_) (fun ne => absurd e2 ne)
  refine jx_iload dL_law_832 rfl ?_
  have fin : ∀ {kc' ks' : Nat} {ls : List (Nat × Value)}, kc ≤ kc' → ks ≤ ks' → jls ls (lL i) → jWP w l mL_law 60 kc' ks' lQ lX 849 ls [] (n', shE, K, M, R') := fun h5 h6 h7 => jx_goto 2366 dL_law_849 (by decide) (jWP_mono h5 h6 (jx_ls h7 (hk _ _ _ _ iv)))
  refine jx_if_ne 849 dL_law_834 (by decide) (fun _ => fin (by omega) (by omega) (by exact ⟨rfl, rfl, rfl, rfl, rfl, trivial⟩)) (fun ec => ?_)
  refine jx_aload_n dL_law_837 rfl ?_
  refine jx_iconst (v := nI 0) dL_law_838 rfl ?_
  refine jx_laldE 0 dL_law_839 rfl rfl (by decide) (by decide) (e0 ec) ?_
  refine jx_iload dL_law_840 rfl ?_
  refine jx_i2l dL_law_842 ?_
  refine jx_lcmp dL_law_843 ?_
  exact jx_if_eq 849 dL_law_844 (by decide) (fun _ => fin (by omega) (by omega) (by exact ⟨rfl, rfl, rfl, rfl, rfl, trivial⟩)) (fun ne => absurd (cmp_s _) ne)
set_option maxHeartbeats 1000000 in
theorem cL_case10 (hW : jWok w l) (hNc : va_Nc eI eN w.1) (hX : jScr w Lq xs) (hL : Lq ≤ 3072) (hi : i + 6 ≤ Lq) (hV : INV I L R) (hk : lK w l kc ks i) : jWP w l mL_law 60 (kc + 1) (ks + 6) lQ lX 852 (lL i) [] (n, shE, I, L, R) := by
  obtain ⟨dL, dX, c, h1, h2, hC⟩ := kL_way (n := n) hW hV (xs (i + 1))
  refine jx_aload_n dL_law_852 rfl ?_
  refine jx_aload_n dL_law_853 rfl ?_
  refine jx_iload dL_law_854 rfl ?_
  refine jx_iconst (v := nI 1) dL_law_856 rfl ?_
  refine jx_iaddE dL_law_857 (nI_p i 1) ?_
  refine jx_sld (i + 1) hX dL_law_858 rfl (by omega) (by omega) ?_
  refine jx_aload_n dL_law_859 rfl ?_
  refine jx_invSW (as := [.ref 1000, .int (xs (i + 1)), .ref 1118]) dL_law_860 mlL_152 owL_way stL_way rfl rfl (by omega) (by omega) (by omega) (Nat.le_of_ble_eq_true rfl) hC ?_ (fun _ _ h => h.elim)
  rintro v t ⟨rfl, n', J, M, R', hn, rfl, hX2⟩
  refine jx_istore dL_law_863 (by decide) ?_
  refine jx_aload_n dL_law_865 rfl ?_
  refine jx_aload_n dL_law_866 rfl ?_
  refine jx_iload dL_law_867 rfl ?_
  refine jx_iconst (v := nI 1) dL_law_869 rfl ?_
  refine jx_iaddE dL_law_870 (nI_p i 1) ?_
  refine jx_sld (i + 1) hX dL_law_871 rfl (by omega) (by omega) ?_
  refine jx_invV (as := [.int (xs (i + 1))]) dL_law_872 mlL_154 okX11_way viX11_way rfl rfl rfl rfl rfl (by omega) (Nat.zero_le _) (Nat.zero_le _) (Nat.le_of_ble_eq_true rfl) hX2 ?_ (fun _ _ h => h.elim)
  rintro v t ⟨r, rfl, K, rfl, e2, e0, iv⟩
  refine jx_istore dL_law_875 (by decide) ?_
  refine jx_aload_n dL_law_877 rfl ?_
  refine jx_Vi (as := []) dL_law_878 mlL_120 okX11_thrown viX11_thrown rfl rfl rfl rfl rfl (by decide) (Nat.le_of_ble_eq_true rfl) (tX11_thrown hW) ?_
  refine jx_iload dL_law_881 rfl ?_
  refine jx_icmp_eq 888 dL_law_883 (by decide) (fun _ => ?_) (fun ne => absurd e2 ne)
  refine jx_iload dL_law_888 rfl ?_
  have fin : ∀ {kc' ks' : Nat} {ls : List (Nat × Value)}, kc ≤ kc' → ks ≤ ks' → jls ls (lL i) → jWP w l mL_law 60 kc' ks' lQ lX 905 ls [] (n', shE, K, M, R') := fun h5 h6 h7 => jx_goto 2366 dL_law_905 (by decide) (jWP_mono h5 h6 (jx_ls h7 (hk _ _ _ _ iv)))
  refine jx_if_ne 905 dL_law_890 (by decide) (fun _ => fin (by omega) (by omega) (by exact ⟨rfl, rfl, rfl, rfl, rfl, trivial⟩)) (fun ec => ?_)
  refine jx_aload_n dL_law_893 rfl ?_
  refine jx_iconst (v := nI 0) dL_law_894 rfl ?_
  refine jx_laldE 0 dL_law_895 rfl rfl (by decide) (by decide) (e0 ec) ?_
  refine jx_iload dL_law_896 rfl ?_
  refine jx_i2l dL_law_898 ?_
  refine jx_lcmp dL_law_899 ?_
  exact jx_if_eq 905 dL_law_900 (by decide) (fun _ => fin (by omega) (by omega) (by exact ⟨rfl, rfl, rfl, rfl, rfl, trivial⟩)) (fun ne => absurd (cmp_s _) ne)
set_option maxHeartbeats 1000000 in
theorem cL_case11 (hW : jWok w l) (hNc : va_Nc eI eN w.1) (hX : jScr w Lq xs) (hL : Lq ≤ 3072) (hi : i + 6 ≤ Lq) (hV : INV I L R) (hk : lK w l kc ks i) : jWP w l mL_law 60 (kc + 1) (ks + 6) lQ lX 908 (lL i) [] (n, shE, I, L, R) := by
  obtain ⟨dL, dX, c, h1, h2, hC⟩ := kL_starts (n := n) hW hV (xs (i + 1)) (xs (i + 2)) (xs (i + 3))
  refine jx_aload_n dL_law_908 rfl ?_
  refine jx_aload_n dL_law_909 rfl ?_
  refine jx_iload dL_law_910 rfl ?_
  refine jx_iconst (v := nI 1) dL_law_912 rfl ?_
  refine jx_iaddE dL_law_913 (nI_p i 1) ?_
  refine jx_sld (i + 1) hX dL_law_914 rfl (by omega) (by omega) ?_
  refine jx_aload_n dL_law_915 rfl ?_
  refine jx_iload dL_law_916 rfl ?_
  refine jx_iconst (v := nI 2) dL_law_918 rfl ?_
  refine jx_iaddE dL_law_919 (nI_p i 2) ?_
  refine jx_sld (i + 2) hX dL_law_920 rfl (by omega) (by omega) ?_
  refine jx_aload_n dL_law_921 rfl ?_
  refine jx_iload dL_law_922 rfl ?_
  refine jx_iconst (v := nI 3) dL_law_924 rfl ?_
  refine jx_iaddE dL_law_925 (nI_p i 3) ?_
  refine jx_sld (i + 3) hX dL_law_926 rfl (by omega) (by omega) ?_
  refine jx_aload_n dL_law_927 rfl ?_
  refine jx_invSW (as := [.ref 1000, .int (xs (i + 1)), .int (xs (i + 2)), .int (xs (i + 3)), .ref 1118]) dL_law_928 mlL_155 owL_starts stL_starts rfl rfl (by omega) (by omega) (by omega) (Nat.le_of_ble_eq_true rfl) hC ?_ (fun _ _ h => h.elim)
  rintro v t ⟨rfl, n', J, M, R', hn, rfl, hX2⟩
  refine jx_istore dL_law_931 (by decide) ?_
  refine jx_aload_n dL_law_933 rfl ?_
  refine jx_aload_n dL_law_934 rfl ?_
  refine jx_iload dL_law_935 rfl ?_
  refine jx_iconst (v := nI 1) dL_law_937 rfl ?_
  refine jx_iaddE dL_law_938 (nI_p i 1) ?_
  refine jx_sld (i + 1) hX dL_law_939 rfl (by omega) (by omega) ?_
  refine jx_aload_n dL_law_940 rfl ?_
  refine jx_iload dL_law_941 rfl ?_
  refine jx_iconst (v := nI 2) dL_law_943 rfl ?_
  refine jx_iaddE dL_law_944 (nI_p i 2) ?_
  refine jx_sld (i + 2) hX dL_law_945 rfl (by omega) (by omega) ?_
  refine jx_aload_n dL_law_946 rfl ?_
  refine jx_iload dL_law_947 rfl ?_
  refine jx_iconst (v := nI 3) dL_law_949 rfl ?_
  refine jx_iaddE dL_law_950 (nI_p i 3) ?_
  refine jx_sld (i + 3) hX dL_law_951 rfl (by omega) (by omega) ?_
  refine jx_invV (as := [.int (xs (i + 1)), .int (xs (i + 2)), .int (xs (i + 3))]) dL_law_952 mlL_157 okX11_starts viX11_starts rfl rfl rfl rfl rfl (by omega) (Nat.zero_le _) (Nat.zero_le _) (Nat.le_of_ble_eq_true rfl) hX2 ?_ (fun _ _ h => h.elim)
  rintro v t ⟨r, rfl, K, rfl, e2, e0, iv⟩
  refine jx_istore dL_law_955 (by decide) ?_
  refine jx_aload_n dL_law_957 rfl ?_
  refine jx_Vi (as := []) dL_law_958 mlL_120 okX11_thrown viX11_thrown rfl rfl rfl rfl rfl (by decide) (Nat.le_of_ble_eq_true rfl) (tX11_thrown hW) ?_
  refine jx_iload dL_law_961 rfl ?_
  refine jx_icmp_eq 968 dL_law_963 (by decide) (fun _ => ?_) (fun ne => absurd e2 ne)
  refine jx_iload dL_law_968 rfl ?_
  have fin : ∀ {kc' ks' : Nat} {ls : List (Nat × Value)}, kc ≤ kc' → ks ≤ ks' → jls ls (lL i) → jWP w l mL_law 60 kc' ks' lQ lX 985 ls [] (n', shE, K, M, R') := fun h5 h6 h7 => jx_goto 2366 dL_law_985 (by decide) (jWP_mono h5 h6 (jx_ls h7 (hk _ _ _ _ iv)))
  refine jx_if_ne 985 dL_law_970 (by decide) (fun _ => fin (by omega) (by omega) (by exact ⟨rfl, rfl, rfl, rfl, rfl, trivial⟩)) (fun ec => ?_)
  refine jx_aload_n dL_law_973 rfl ?_
  refine jx_iconst (v := nI 0) dL_law_974 rfl ?_
  refine jx_laldE 0 dL_law_975 rfl rfl (by decide) (by decide) (e0 ec) ?_
  refine jx_iload dL_law_976 rfl ?_
  refine jx_i2l dL_law_978 ?_
  refine jx_lcmp dL_law_979 ?_
  exact jx_if_eq 985 dL_law_980 (by decide) (fun _ => fin (by omega) (by omega) (by exact ⟨rfl, rfl, rfl, rfl, rfl, trivial⟩)) (fun ne => absurd (cmp_s _) ne)
set_option maxHeartbeats 1000000 in
theorem cL_case12 (hW : jWok w l) (hNc : va_Nc eI eN w.1) (hX : jScr w Lq xs) (hL : Lq ≤ 3072) (hi : i + 6 ≤ Lq) (hV : INV I L R) (hk : lK w l kc ks i) : jWP w l mL_law 60 (kc + 1) (ks + 6) lQ lX 988 (lL i) [] (n, shE, I, L, R) := by
  obtain ⟨dL, dX, c, h1, h2, hC⟩ := kL_book (n := n) hW hV (xs (i + 1)) (xs (i + 2)) (xs (i + 3))
  refine jx_aload_n dL_law_988 rfl ?_
  refine jx_aload_n dL_law_989 rfl ?_
  refine jx_iload dL_law_990 rfl ?_
  refine jx_iconst (v := nI 1) dL_law_992 rfl ?_
  refine jx_iaddE dL_law_993 (nI_p i 1) ?_
  refine jx_sld (i + 1) hX dL_law_994 rfl (by omega) (by omega) ?_
  refine jx_aload_n dL_law_995 rfl ?_
  refine jx_iload dL_law_996 rfl ?_
  refine jx_iconst (v := nI 2) dL_law_998 rfl ?_
  refine jx_iaddE dL_law_999 (nI_p i 2) ?_
  refine jx_sld (i + 2) hX dL_law_1000 rfl (by omega) (by omega) ?_
  refine jx_aload_n dL_law_1001 rfl ?_
  refine jx_iload dL_law_1002 rfl ?_
  refine jx_iconst (v := nI 3) dL_law_1004 rfl ?_
  refine jx_iaddE dL_law_1005 (nI_p i 3) ?_
  refine jx_sld (i + 3) hX dL_law_1006 rfl (by omega) (by omega) ?_
  refine jx_aload_n dL_law_1007 rfl ?_
  refine jx_invSW (as := [.ref 1000, .int (xs (i + 1)), .int (xs (i + 2)), .int (xs (i + 3)), .ref 1118]) dL_law_1008 mlL_158 owL_book stL_book rfl rfl (by omega) (by omega) (by omega) (Nat.le_of_ble_eq_true rfl) hC ?_ (fun _ _ h => h.elim)
  rintro v t ⟨rfl, n', J, M, R', hn, rfl, hX2⟩
  refine jx_istore dL_law_1011 (by decide) ?_
  refine jx_aload_n dL_law_1013 rfl ?_
  refine jx_aload_n dL_law_1014 rfl ?_
  refine jx_iload dL_law_1015 rfl ?_
  refine jx_iconst (v := nI 1) dL_law_1017 rfl ?_
  refine jx_iaddE dL_law_1018 (nI_p i 1) ?_
  refine jx_sld (i + 1) hX dL_law_1019 rfl (by omega) (by omega) ?_
  refine jx_aload_n dL_law_1020 rfl ?_
  refine jx_iload dL_law_1021 rfl ?_
  refine jx_iconst (v := nI 2) dL_law_1023 rfl ?_
  refine jx_iaddE dL_law_1024 (nI_p i 2) ?_
  refine jx_sld (i + 2) hX dL_law_1025 rfl (by omega) (by omega) ?_
  refine jx_aload_n dL_law_1026 rfl ?_
  refine jx_iload dL_law_1027 rfl ?_
  refine jx_iconst (v := nI 3) dL_law_1029 rfl ?_
  refine jx_iaddE dL_law_1030 (nI_p i 3) ?_
  refine jx_sld (i + 3) hX dL_law_1031 rfl (by omega) (by omega) ?_
  refine jx_invV (as := [.int (xs (i + 1)), .int (xs (i + 2)), .int (xs (i + 3))]) dL_law_1032 mlL_160 okX11_book viX11_book rfl rfl rfl rfl rfl (by omega) (Nat.zero_le _) (Nat.zero_le _) (Nat.le_of_ble_eq_true rfl) hX2 ?_ (fun _ _ h => h.elim)
  rintro v t ⟨r, rfl, K, rfl, e2, e0, iv⟩
  refine jx_istore dL_law_1035 (by decide) ?_
  refine jx_aload_n dL_law_1037 rfl ?_
  refine jx_Vi (as := []) dL_law_1038 mlL_120 okX11_thrown viX11_thrown rfl rfl rfl rfl rfl (by decide) (Nat.le_of_ble_eq_true rfl) (tX11_thrown hW) ?_
  refine jx_iload dL_law_1041 rfl ?_
  refine jx_icmp_eq 1048 dL_law_1043 (by decide) (fun _ => ?_) (fun ne => absurd e2 ne)
  refine jx_iload dL_law_1048 rfl ?_
  have fin : ∀ {kc' ks' : Nat} {ls : List (Nat × Value)}, kc ≤ kc' → ks ≤ ks' → jls ls (lL i) → jWP w l mL_law 60 kc' ks' lQ lX 1065 ls [] (n', shE, K, M, R') := fun h5 h6 h7 => jx_goto 2366 dL_law_1065 (by decide) (jWP_mono h5 h6 (jx_ls h7 (hk _ _ _ _ iv)))
  refine jx_if_ne 1065 dL_law_1050 (by decide) (fun _ => fin (by omega) (by omega) (by exact ⟨rfl, rfl, rfl, rfl, rfl, trivial⟩)) (fun ec => ?_)
  refine jx_aload_n dL_law_1053 rfl ?_
  refine jx_iconst (v := nI 0) dL_law_1054 rfl ?_
  refine jx_laldE 0 dL_law_1055 rfl rfl (by decide) (by decide) (e0 ec) ?_
  refine jx_iload dL_law_1056 rfl ?_
  refine jx_i2l dL_law_1058 ?_
  refine jx_lcmp dL_law_1059 ?_
  exact jx_if_eq 1065 dL_law_1060 (by decide) (fun _ => fin (by omega) (by omega) (by exact ⟨rfl, rfl, rfl, rfl, rfl, trivial⟩)) (fun ne => absurd (cmp_s _) ne)
set_option maxHeartbeats 1000000 in
theorem cL_case13 (hW : jWok w l) (hNc : va_Nc eI eN w.1) (hX : jScr w Lq xs) (hL : Lq ≤ 3072) (hi : i + 6 ≤ Lq) (hV : INV I L R) (hk : lK w l kc ks i) : jWP w l mL_law 60 (kc + 1) (ks + 6) lQ lX 1068 (lL i) [] (n, shE, I, L, R) := by
  obtain ⟨dN, dX, h1, h2, hC⟩ := kD_undo (n := n) hW hV 
  refine jx_aload_n dL_law_1068 rfl ?_
  refine jx_invV (as := []) dL_law_1069 mlL_161 okX10_undo viX10_undo rfl rfl rfl rfl rfl (by omega) (Nat.zero_le _) (Nat.zero_le _) (Nat.le_of_ble_eq_true rfl) hC ?_ (fun _ _ h => h.elim)
  rintro v t ⟨r, rfl, J, M, rfl, hX2⟩
  refine jx_aload_n dL_law_1072 rfl ?_
  refine jx_invV (as := []) dL_law_1073 mlL_164 okX11_undo viX11_undo rfl rfl rfl rfl rfl (by omega) (Nat.zero_le _) (Nat.zero_le _) (Nat.le_of_ble_eq_true rfl) hX2 ?_ (fun _ _ h => h.elim)
  rintro v t ⟨r', rfl, rfl, K, rfl, iv⟩
  exact jx_icmp_eq 2366 dL_law_1076 (by decide) (fun _ => jWP_mono (by omega) (by omega) (hk _ _ _ _ iv)) (fun ne => absurd rfl ne)
set_option maxHeartbeats 1000000 in
theorem cL_case14 (hW : jWok w l) (hNc : va_Nc eI eN w.1) (hX : jScr w Lq xs) (hL : Lq ≤ 3072) (hi : i + 6 ≤ Lq) (hV : INV I L R) (hk : lK w l kc ks i) : jWP w l mL_law 60 (kc + 1) (ks + 6) lQ lX 1081 (lL i) [] (n, shE, I, L, R) := by
  obtain ⟨dL, dX, c, h1, h2, hC⟩ := kL_booked (n := n) hW hV (xs (i + 1)) (xs (i + 2))
  refine jx_aload_n dL_law_1081 rfl ?_
  refine jx_aload_n dL_law_1082 rfl ?_
  refine jx_iload dL_law_1083 rfl ?_
  refine jx_iconst (v := nI 1) dL_law_1085 rfl ?_
  refine jx_iaddE dL_law_1086 (nI_p i 1) ?_
  refine jx_sld (i + 1) hX dL_law_1087 rfl (by omega) (by omega) ?_
  refine jx_aload_n dL_law_1088 rfl ?_
  refine jx_iload dL_law_1089 rfl ?_
  refine jx_iconst (v := nI 2) dL_law_1091 rfl ?_
  refine jx_iaddE dL_law_1092 (nI_p i 2) ?_
  refine jx_sld (i + 2) hX dL_law_1093 rfl (by omega) (by omega) ?_
  refine jx_aload_n dL_law_1094 rfl ?_
  refine jx_invSW (as := [.ref 1000, .int (xs (i + 1)), .int (xs (i + 2)), .ref 1118]) dL_law_1095 mlL_165 owL_booked stL_booked rfl rfl (by omega) (by omega) (by omega) (Nat.le_of_ble_eq_true rfl) hC ?_ (fun _ _ h => h.elim)
  rintro v t ⟨rfl, n', J, M, R', hn, rfl, hX2⟩
  refine jx_istore dL_law_1098 (by decide) ?_
  refine jx_aload_n dL_law_1100 rfl ?_
  refine jx_aload_n dL_law_1101 rfl ?_
  refine jx_iload dL_law_1102 rfl ?_
  refine jx_iconst (v := nI 1) dL_law_1104 rfl ?_
  refine jx_iaddE dL_law_1105 (nI_p i 1) ?_
  refine jx_sld (i + 1) hX dL_law_1106 rfl (by omega) (by omega) ?_
  refine jx_aload_n dL_law_1107 rfl ?_
  refine jx_iload dL_law_1108 rfl ?_
  refine jx_iconst (v := nI 2) dL_law_1110 rfl ?_
  refine jx_iaddE dL_law_1111 (nI_p i 2) ?_
  refine jx_sld (i + 2) hX dL_law_1112 rfl (by omega) (by omega) ?_
  refine jx_invV (as := [.int (xs (i + 1)), .int (xs (i + 2))]) dL_law_1113 mlL_167 okX11_booked viX11_booked rfl rfl rfl rfl rfl (by omega) (Nat.zero_le _) (Nat.zero_le _) (Nat.le_of_ble_eq_true rfl) hX2 ?_ (fun _ _ h => h.elim)
  rintro v t ⟨r, rfl, K, rfl, e2, e0, iv⟩
  refine jx_istore dL_law_1116 (by decide) ?_
  refine jx_aload_n dL_law_1118 rfl ?_
  refine jx_Vi (as := []) dL_law_1119 mlL_120 okX11_thrown viX11_thrown rfl rfl rfl rfl rfl (by decide) (Nat.le_of_ble_eq_true rfl) (tX11_thrown hW) ?_
  refine jx_iload dL_law_1122 rfl ?_
  refine jx_icmp_eq 1129 dL_law_1124 (by decide) (fun _ => ?_) (fun ne => absurd e2 ne)
  refine jx_iload dL_law_1129 rfl ?_
  have fin : ∀ {kc' ks' : Nat} {ls : List (Nat × Value)}, kc ≤ kc' → ks ≤ ks' → jls ls (lL i) → jWP w l mL_law 60 kc' ks' lQ lX 1146 ls [] (n', shE, K, M, R') := fun h5 h6 h7 => jx_goto 2366 dL_law_1146 (by decide) (jWP_mono h5 h6 (jx_ls h7 (hk _ _ _ _ iv)))
  refine jx_if_ne 1146 dL_law_1131 (by decide) (fun _ => fin (by omega) (by omega) (by exact ⟨rfl, rfl, rfl, rfl, rfl, trivial⟩)) (fun ec => ?_)
  refine jx_aload_n dL_law_1134 rfl ?_
  refine jx_iconst (v := nI 0) dL_law_1135 rfl ?_
  refine jx_laldE 0 dL_law_1136 rfl rfl (by decide) (by decide) (e0 ec) ?_
  refine jx_iload dL_law_1137 rfl ?_
  refine jx_i2l dL_law_1139 ?_
  refine jx_lcmp dL_law_1140 ?_
  exact jx_if_eq 1146 dL_law_1141 (by decide) (fun _ => fin (by omega) (by omega) (by exact ⟨rfl, rfl, rfl, rfl, rfl, trivial⟩)) (fun ne => absurd (cmp_s _) ne)
set_option maxHeartbeats 1000000 in
theorem cL_case15 (hW : jWok w l) (hNc : va_Nc eI eN w.1) (hX : jScr w Lq xs) (hL : Lq ≤ 3072) (hi : i + 6 ≤ Lq) (hV : INV I L R) (hk : lK w l kc ks i) : jWP w l mL_law 60 (kc + 1) (ks + 6) lQ lX 1149 (lL i) [] (n, shE, I, L, R) := by
  obtain ⟨dL, dX, c, h1, h2, hC⟩ := kL_at (n := n) hW hV (xs (i + 1)) (xs (i + 2))
  refine jx_aload_n dL_law_1149 rfl ?_
  refine jx_aload_n dL_law_1150 rfl ?_
  refine jx_iload dL_law_1151 rfl ?_
  refine jx_iconst (v := nI 1) dL_law_1153 rfl ?_
  refine jx_iaddE dL_law_1154 (nI_p i 1) ?_
  refine jx_sld (i + 1) hX dL_law_1155 rfl (by omega) (by omega) ?_
  refine jx_aload_n dL_law_1156 rfl ?_
  refine jx_iload dL_law_1157 rfl ?_
  refine jx_iconst (v := nI 2) dL_law_1159 rfl ?_
  refine jx_iaddE dL_law_1160 (nI_p i 2) ?_
  refine jx_sld (i + 2) hX dL_law_1161 rfl (by omega) (by omega) ?_
  refine jx_aload_n dL_law_1162 rfl ?_
  refine jx_invSW (as := [.ref 1000, .int (xs (i + 1)), .int (xs (i + 2)), .ref 1118]) dL_law_1163 mlL_168 owL_at stL_at rfl rfl (by omega) (by omega) (by omega) (Nat.le_of_ble_eq_true rfl) hC ?_ (fun _ _ h => h.elim)
  rintro v t ⟨rfl, n', J, M, R', hn, rfl, hX2⟩
  refine jx_istore dL_law_1166 (by decide) ?_
  refine jx_aload_n dL_law_1168 rfl ?_
  refine jx_aload_n dL_law_1169 rfl ?_
  refine jx_iload dL_law_1170 rfl ?_
  refine jx_iconst (v := nI 1) dL_law_1172 rfl ?_
  refine jx_iaddE dL_law_1173 (nI_p i 1) ?_
  refine jx_sld (i + 1) hX dL_law_1174 rfl (by omega) (by omega) ?_
  refine jx_aload_n dL_law_1175 rfl ?_
  refine jx_iload dL_law_1176 rfl ?_
  refine jx_iconst (v := nI 2) dL_law_1178 rfl ?_
  refine jx_iaddE dL_law_1179 (nI_p i 2) ?_
  refine jx_sld (i + 2) hX dL_law_1180 rfl (by omega) (by omega) ?_
  refine jx_invV (as := [.int (xs (i + 1)), .int (xs (i + 2))]) dL_law_1181 mlL_170 okX11_at viX11_at rfl rfl rfl rfl rfl (by omega) (Nat.zero_le _) (Nat.zero_le _) (Nat.le_of_ble_eq_true rfl) hX2 ?_ (fun _ _ h => h.elim)
  rintro v t ⟨r, rfl, K, rfl, e2, e0, iv⟩
  refine jx_istore dL_law_1184 (by decide) ?_
  refine jx_aload_n dL_law_1186 rfl ?_
  refine jx_Vi (as := []) dL_law_1187 mlL_120 okX11_thrown viX11_thrown rfl rfl rfl rfl rfl (by decide) (Nat.le_of_ble_eq_true rfl) (tX11_thrown hW) ?_
  refine jx_iload dL_law_1190 rfl ?_
  refine jx_icmp_eq 1197 dL_law_1192 (by decide) (fun _ => ?_) (fun ne => absurd e2 ne)
  refine jx_iload dL_law_1197 rfl ?_
  have fin : ∀ {kc' ks' : Nat} {ls : List (Nat × Value)}, kc ≤ kc' → ks ≤ ks' → jls ls (lL i) → jWP w l mL_law 60 kc' ks' lQ lX 1214 ls [] (n', shE, K, M, R') := fun h5 h6 h7 => jx_goto 2366 dL_law_1214 (by decide) (jWP_mono h5 h6 (jx_ls h7 (hk _ _ _ _ iv)))
  refine jx_if_ne 1214 dL_law_1199 (by decide) (fun _ => fin (by omega) (by omega) (by exact ⟨rfl, rfl, rfl, rfl, rfl, trivial⟩)) (fun ec => ?_)
  refine jx_aload_n dL_law_1202 rfl ?_
  refine jx_iconst (v := nI 0) dL_law_1203 rfl ?_
  refine jx_laldE 0 dL_law_1204 rfl rfl (by decide) (by decide) (e0 ec) ?_
  refine jx_iload dL_law_1205 rfl ?_
  refine jx_i2l dL_law_1207 ?_
  refine jx_lcmp dL_law_1208 ?_
  exact jx_if_eq 1214 dL_law_1209 (by decide) (fun _ => fin (by omega) (by omega) (by exact ⟨rfl, rfl, rfl, rfl, rfl, trivial⟩)) (fun ne => absurd (cmp_s _) ne)
set_option maxHeartbeats 1000000 in
theorem cL_case16 (hW : jWok w l) (hNc : va_Nc eI eN w.1) (hX : jScr w Lq xs) (hL : Lq ≤ 3072) (hi : i + 6 ≤ Lq) (hV : INV I L R) (hk : lK w l kc ks i) : jWP w l mL_law 60 (kc + 1) (ks + 6) lQ lX 1217 (lL i) [] (n, shE, I, L, R) := by
  obtain ⟨dL, dX, c, h1, h2, hC⟩ := kL_met (n := n) hW hNc hV (xs (i + 1)) (xs (i + 2))
  refine jx_aload_n dL_law_1217 rfl ?_
  refine jx_aload_n dL_law_1218 rfl ?_
  refine jx_iload dL_law_1219 rfl ?_
  refine jx_iconst (v := nI 1) dL_law_1221 rfl ?_
  refine jx_iaddE dL_law_1222 (nI_p i 1) ?_
  refine jx_sld (i + 1) hX dL_law_1223 rfl (by omega) (by omega) ?_
  refine jx_aload_n dL_law_1224 rfl ?_
  refine jx_iload dL_law_1225 rfl ?_
  refine jx_iconst (v := nI 2) dL_law_1227 rfl ?_
  refine jx_iaddE dL_law_1228 (nI_p i 2) ?_
  refine jx_sld (i + 2) hX dL_law_1229 rfl (by omega) (by omega) ?_
  refine jx_aload_n dL_law_1230 rfl ?_
  refine jx_invSW (as := [.ref 1000, .int (xs (i + 1)), .int (xs (i + 2)), .ref 1118]) dL_law_1231 mlL_171 owL_met stL_met rfl rfl (by omega) (by omega) (by omega) (Nat.le_of_ble_eq_true rfl) hC ?_ (fun _ _ h => h.elim)
  rintro v t ⟨rfl, n', J, M, R', hn, rfl, hX2⟩
  refine jx_istore dL_law_1234 (by decide) ?_
  refine jx_aload_n dL_law_1236 rfl ?_
  refine jx_aload_n dL_law_1237 rfl ?_
  refine jx_iload dL_law_1238 rfl ?_
  refine jx_iconst (v := nI 1) dL_law_1240 rfl ?_
  refine jx_iaddE dL_law_1241 (nI_p i 1) ?_
  refine jx_sld (i + 1) hX dL_law_1242 rfl (by omega) (by omega) ?_
  refine jx_aload_n dL_law_1243 rfl ?_
  refine jx_iload dL_law_1244 rfl ?_
  refine jx_iconst (v := nI 2) dL_law_1246 rfl ?_
  refine jx_iaddE dL_law_1247 (nI_p i 2) ?_
  refine jx_sld (i + 2) hX dL_law_1248 rfl (by omega) (by omega) ?_
  refine jx_invV (as := [.int (xs (i + 1)), .int (xs (i + 2))]) dL_law_1249 mlL_173 okX11_met viX11_met rfl rfl rfl rfl rfl (by omega) (Nat.zero_le _) (Nat.zero_le _) (Nat.le_of_ble_eq_true rfl) hX2 ?_ (fun _ _ h => h.elim)
  rintro v t ⟨r, rfl, K, rfl, e2, e0, iv⟩
  refine jx_istore dL_law_1252 (by decide) ?_
  refine jx_aload_n dL_law_1254 rfl ?_
  refine jx_Vi (as := []) dL_law_1255 mlL_120 okX11_thrown viX11_thrown rfl rfl rfl rfl rfl (by decide) (Nat.le_of_ble_eq_true rfl) (tX11_thrown hW) ?_
  refine jx_iload dL_law_1258 rfl ?_
  refine jx_icmp_eq 1265 dL_law_1260 (by decide) (fun _ => ?_) (fun ne => absurd e2 ne)
  refine jx_iload dL_law_1265 rfl ?_
  have fin : ∀ {kc' ks' : Nat} {ls : List (Nat × Value)}, kc ≤ kc' → ks ≤ ks' → jls ls (lL i) → jWP w l mL_law 60 kc' ks' lQ lX 1282 ls [] (n', shE, K, M, R') := fun h5 h6 h7 => jx_goto 2366 dL_law_1282 (by decide) (jWP_mono h5 h6 (jx_ls h7 (hk _ _ _ _ iv)))
  refine jx_if_ne 1282 dL_law_1267 (by decide) (fun _ => fin (by omega) (by omega) (by exact ⟨rfl, rfl, rfl, rfl, rfl, trivial⟩)) (fun ec => ?_)
  refine jx_aload_n dL_law_1270 rfl ?_
  refine jx_iconst (v := nI 0) dL_law_1271 rfl ?_
  refine jx_laldE 0 dL_law_1272 rfl rfl (by decide) (by decide) (e0 ec) ?_
  refine jx_iload dL_law_1273 rfl ?_
  refine jx_i2l dL_law_1275 ?_
  refine jx_lcmp dL_law_1276 ?_
  exact jx_if_eq 1282 dL_law_1277 (by decide) (fun _ => fin (by omega) (by omega) (by exact ⟨rfl, rfl, rfl, rfl, rfl, trivial⟩)) (fun ne => absurd (cmp_s _) ne)
set_option maxHeartbeats 1000000 in
theorem cL_case17 (hW : jWok w l) (hNc : va_Nc eI eN w.1) (hX : jScr w Lq xs) (hL : Lq ≤ 3072) (hi : i + 6 ≤ Lq) (hV : INV I L R) (hk : lK w l kc ks i) : jWP w l mL_law 60 (kc + 1) (ks + 6) lQ lX 1285 (lL i) [] (n, shE, I, L, R) := by
  obtain ⟨dL, dX, c, h1, h2, hC⟩ := kL_crowded (n := n) hW hV (xs (i + 1))
  refine jx_aload_n dL_law_1285 rfl ?_
  refine jx_aload_n dL_law_1286 rfl ?_
  refine jx_iload dL_law_1287 rfl ?_
  refine jx_iconst (v := nI 1) dL_law_1289 rfl ?_
  refine jx_iaddE dL_law_1290 (nI_p i 1) ?_
  refine jx_sld (i + 1) hX dL_law_1291 rfl (by omega) (by omega) ?_
  refine jx_aload_n dL_law_1292 rfl ?_
  refine jx_invSW (as := [.ref 1000, .int (xs (i + 1)), .ref 1118]) dL_law_1293 mlL_174 owL_crowded stL_crowded rfl rfl (by omega) (by omega) (by omega) (Nat.le_of_ble_eq_true rfl) hC ?_ (fun _ _ h => h.elim)
  rintro v t ⟨rfl, n', J, M, R', hn, rfl, hX2⟩
  refine jx_istore dL_law_1296 (by decide) ?_
  refine jx_aload_n dL_law_1298 rfl ?_
  refine jx_aload_n dL_law_1299 rfl ?_
  refine jx_iload dL_law_1300 rfl ?_
  refine jx_iconst (v := nI 1) dL_law_1302 rfl ?_
  refine jx_iaddE dL_law_1303 (nI_p i 1) ?_
  refine jx_sld (i + 1) hX dL_law_1304 rfl (by omega) (by omega) ?_
  refine jx_invV (as := [.int (xs (i + 1))]) dL_law_1305 mlL_176 okX11_crowded viX11_crowded rfl rfl rfl rfl rfl (by omega) (Nat.zero_le _) (Nat.zero_le _) (Nat.le_of_ble_eq_true rfl) hX2 ?_ (fun _ _ h => h.elim)
  rintro v t ⟨r, rfl, K, rfl, e2, e0, iv⟩
  refine jx_istore dL_law_1308 (by decide) ?_
  refine jx_aload_n dL_law_1310 rfl ?_
  refine jx_Vi (as := []) dL_law_1311 mlL_120 okX11_thrown viX11_thrown rfl rfl rfl rfl rfl (by decide) (Nat.le_of_ble_eq_true rfl) (tX11_thrown hW) ?_
  refine jx_iload dL_law_1314 rfl ?_
  refine jx_icmp_eq 1321 dL_law_1316 (by decide) (fun _ => ?_) (fun ne => absurd e2 ne)
  refine jx_iload dL_law_1321 rfl ?_
  have fin : ∀ {kc' ks' : Nat} {ls : List (Nat × Value)}, kc ≤ kc' → ks ≤ ks' → jls ls (lL i) → jWP w l mL_law 60 kc' ks' lQ lX 1338 ls [] (n', shE, K, M, R') := fun h5 h6 h7 => jx_goto 2366 dL_law_1338 (by decide) (jWP_mono h5 h6 (jx_ls h7 (hk _ _ _ _ iv)))
  refine jx_if_ne 1338 dL_law_1323 (by decide) (fun _ => fin (by omega) (by omega) (by exact ⟨rfl, rfl, rfl, rfl, rfl, trivial⟩)) (fun ec => ?_)
  refine jx_aload_n dL_law_1326 rfl ?_
  refine jx_iconst (v := nI 0) dL_law_1327 rfl ?_
  refine jx_laldE 0 dL_law_1328 rfl rfl (by decide) (by decide) (e0 ec) ?_
  refine jx_iload dL_law_1329 rfl ?_
  refine jx_i2l dL_law_1331 ?_
  refine jx_lcmp dL_law_1332 ?_
  exact jx_if_eq 1338 dL_law_1333 (by decide) (fun _ => fin (by omega) (by omega) (by exact ⟨rfl, rfl, rfl, rfl, rfl, trivial⟩)) (fun ne => absurd (cmp_s _) ne)
set_option maxHeartbeats 1000000 in
theorem cL_case18 (hW : jWok w l) (hNc : va_Nc eI eN w.1) (hX : jScr w Lq xs) (hL : Lq ≤ 3072) (hi : i + 6 ≤ Lq) (hV : INV I L R) (hk : lK w l kc ks i) : jWP w l mL_law 60 (kc + 1) (ks + 6) lQ lX 1341 (lL i) [] (n, shE, I, L, R) := by
  obtain ⟨dL, dX, c, h1, h2, hC⟩ := kL_leave (n := n) hW hV (xs (i + 1))
  refine jx_aload_n dL_law_1341 rfl ?_
  refine jx_aload_n dL_law_1342 rfl ?_
  refine jx_iload dL_law_1343 rfl ?_
  refine jx_iconst (v := nI 1) dL_law_1345 rfl ?_
  refine jx_iaddE dL_law_1346 (nI_p i 1) ?_
  refine jx_sld (i + 1) hX dL_law_1347 rfl (by omega) (by omega) ?_
  refine jx_aload_n dL_law_1348 rfl ?_
  refine jx_invSW (as := [.ref 1000, .int (xs (i + 1)), .ref 1118]) dL_law_1349 mlL_177 owL_leave stL_leave rfl rfl (by omega) (by omega) (by omega) (Nat.le_of_ble_eq_true rfl) hC ?_ (fun _ _ h => h.elim)
  rintro v t ⟨rfl, n', J, M, R', hn, rfl, hX2⟩
  refine jx_istore dL_law_1352 (by decide) ?_
  refine jx_aload_n dL_law_1354 rfl ?_
  refine jx_aload_n dL_law_1355 rfl ?_
  refine jx_iload dL_law_1356 rfl ?_
  refine jx_iconst (v := nI 1) dL_law_1358 rfl ?_
  refine jx_iaddE dL_law_1359 (nI_p i 1) ?_
  refine jx_sld (i + 1) hX dL_law_1360 rfl (by omega) (by omega) ?_
  refine jx_invV (as := [.int (xs (i + 1))]) dL_law_1361 mlL_179 okX11_leave viX11_leave rfl rfl rfl rfl rfl (by omega) (Nat.zero_le _) (Nat.zero_le _) (Nat.le_of_ble_eq_true rfl) hX2 ?_ (fun _ _ h => h.elim)
  rintro v t ⟨r, rfl, K, rfl, e2, e0, iv⟩
  refine jx_istore dL_law_1364 (by decide) ?_
  refine jx_aload_n dL_law_1366 rfl ?_
  refine jx_Vi (as := []) dL_law_1367 mlL_120 okX11_thrown viX11_thrown rfl rfl rfl rfl rfl (by decide) (Nat.le_of_ble_eq_true rfl) (tX11_thrown hW) ?_
  refine jx_iload dL_law_1370 rfl ?_
  refine jx_icmp_eq 1377 dL_law_1372 (by decide) (fun _ => ?_) (fun ne => absurd e2 ne)
  refine jx_iload dL_law_1377 rfl ?_
  have fin : ∀ {kc' ks' : Nat} {ls : List (Nat × Value)}, kc ≤ kc' → ks ≤ ks' → jls ls (lL i) → jWP w l mL_law 60 kc' ks' lQ lX 1394 ls [] (n', shE, K, M, R') := fun h5 h6 h7 => jx_goto 2366 dL_law_1394 (by decide) (jWP_mono h5 h6 (jx_ls h7 (hk _ _ _ _ iv)))
  refine jx_if_ne 1394 dL_law_1379 (by decide) (fun _ => fin (by omega) (by omega) (by exact ⟨rfl, rfl, rfl, rfl, rfl, trivial⟩)) (fun ec => ?_)
  refine jx_aload_n dL_law_1382 rfl ?_
  refine jx_iconst (v := nI 0) dL_law_1383 rfl ?_
  refine jx_laldE 0 dL_law_1384 rfl rfl (by decide) (by decide) (e0 ec) ?_
  refine jx_iload dL_law_1385 rfl ?_
  refine jx_i2l dL_law_1387 ?_
  refine jx_lcmp dL_law_1388 ?_
  exact jx_if_eq 1394 dL_law_1389 (by decide) (fun _ => fin (by omega) (by omega) (by exact ⟨rfl, rfl, rfl, rfl, rfl, trivial⟩)) (fun ne => absurd (cmp_s _) ne)
set_option maxHeartbeats 1000000 in
theorem cL_case19 (hW : jWok w l) (hNc : va_Nc eI eN w.1) (hX : jScr w Lq xs) (hL : Lq ≤ 3072) (hi : i + 6 ≤ Lq) (hV : INV I L R) (hk : lK w l kc ks i) : jWP w l mL_law 60 (kc + 1) (ks + 6) lQ lX 1397 (lL i) [] (n, shE, I, L, R) := by
  obtain ⟨dN, dX, h1, h2, hC⟩ := kD_burials (n := n) hW hV 
  refine jx_aload_n dL_law_1397 rfl ?_
  refine jx_invV (as := []) dL_law_1398 mlL_180 okX10_burials viX10_burials rfl rfl rfl rfl rfl (by omega) (Nat.zero_le _) (Nat.zero_le _) (Nat.le_of_ble_eq_true rfl) hC ?_ (fun _ _ h => h.elim)
  rintro v t ⟨r, rfl, J, M, rfl, hX2⟩
  refine jx_aload_n dL_law_1401 rfl ?_
  refine jx_invV (as := []) dL_law_1402 mlL_183 okX11_burials viX11_burials rfl rfl rfl rfl rfl (by omega) (Nat.zero_le _) (Nat.zero_le _) (Nat.le_of_ble_eq_true rfl) hX2 ?_ (fun _ _ h => h.elim)
  rintro v t ⟨r', rfl, rfl, K, rfl, iv⟩
  exact jx_icmp_eq 2366 dL_law_1405 (by decide) (fun _ => jWP_mono (by omega) (by omega) (hk _ _ _ _ iv)) (fun ne => absurd rfl ne)
set_option maxHeartbeats 1000000 in
theorem cL_case20 (hW : jWok w l) (hNc : va_Nc eI eN w.1) (hX : jScr w Lq xs) (hL : Lq ≤ 3072) (hi : i + 6 ≤ Lq) (hV : INV I L R) (hk : lK w l kc ks i) : jWP w l mL_law 60 (kc + 1) (ks + 6) lQ lX 1410 (lL i) [] (n, shE, I, L, R) := by
  obtain ⟨dL, dX, c, h1, h2, hC⟩ := kL_buried (n := n) hW hV (xs (i + 1))
  refine jx_aload_n dL_law_1410 rfl ?_
  refine jx_aload_n dL_law_1411 rfl ?_
  refine jx_iload dL_law_1412 rfl ?_
  refine jx_iconst (v := nI 1) dL_law_1414 rfl ?_
  refine jx_iaddE dL_law_1415 (nI_p i 1) ?_
  refine jx_sld (i + 1) hX dL_law_1416 rfl (by omega) (by omega) ?_
  refine jx_aload_n dL_law_1417 rfl ?_
  refine jx_invSW (as := [.ref 1000, .int (xs (i + 1)), .ref 1118]) dL_law_1418 mlL_184 owL_buried stL_buried rfl rfl (by omega) (by omega) (by omega) (Nat.le_of_ble_eq_true rfl) hC ?_ (fun _ _ h => h.elim)
  rintro v t ⟨rfl, n', J, M, R', hn, rfl, hX2⟩
  refine jx_istore dL_law_1421 (by decide) ?_
  refine jx_aload_n dL_law_1423 rfl ?_
  refine jx_aload_n dL_law_1424 rfl ?_
  refine jx_iload dL_law_1425 rfl ?_
  refine jx_iconst (v := nI 1) dL_law_1427 rfl ?_
  refine jx_iaddE dL_law_1428 (nI_p i 1) ?_
  refine jx_sld (i + 1) hX dL_law_1429 rfl (by omega) (by omega) ?_
  refine jx_invV (as := [.int (xs (i + 1))]) dL_law_1430 mlL_186 okX11_buried viX11_buried rfl rfl rfl rfl rfl (by omega) (Nat.zero_le _) (Nat.zero_le _) (Nat.le_of_ble_eq_true rfl) hX2 ?_ (fun _ _ h => h.elim)
  rintro v t ⟨r, rfl, K, rfl, e2, e0, iv⟩
  refine jx_istore dL_law_1433 (by decide) ?_
  refine jx_aload_n dL_law_1435 rfl ?_
  refine jx_Vi (as := []) dL_law_1436 mlL_120 okX11_thrown viX11_thrown rfl rfl rfl rfl rfl (by decide) (Nat.le_of_ble_eq_true rfl) (tX11_thrown hW) ?_
  refine jx_iload dL_law_1439 rfl ?_
  refine jx_icmp_eq 1446 dL_law_1441 (by decide) (fun _ => ?_) (fun ne => absurd e2 ne)
  refine jx_iload dL_law_1446 rfl ?_
  have fin : ∀ {kc' ks' : Nat} {ls : List (Nat × Value)}, kc ≤ kc' → ks ≤ ks' → jls ls (lL i) → jWP w l mL_law 60 kc' ks' lQ lX 1463 ls [] (n', shE, K, M, R') := fun h5 h6 h7 => jx_goto 2366 dL_law_1463 (by decide) (jWP_mono h5 h6 (jx_ls h7 (hk _ _ _ _ iv)))
  refine jx_if_ne 1463 dL_law_1448 (by decide) (fun _ => fin (by omega) (by omega) (by exact ⟨rfl, rfl, rfl, rfl, rfl, trivial⟩)) (fun ec => ?_)
  refine jx_aload_n dL_law_1451 rfl ?_
  refine jx_iconst (v := nI 0) dL_law_1452 rfl ?_
  refine jx_laldE 0 dL_law_1453 rfl rfl (by decide) (by decide) (e0 ec) ?_
  refine jx_iload dL_law_1454 rfl ?_
  refine jx_i2l dL_law_1456 ?_
  refine jx_lcmp dL_law_1457 ?_
  exact jx_if_eq 1463 dL_law_1458 (by decide) (fun _ => fin (by omega) (by omega) (by exact ⟨rfl, rfl, rfl, rfl, rfl, trivial⟩)) (fun ne => absurd (cmp_s _) ne)
set_option maxHeartbeats 1000000 in
theorem cL_case21 (hW : jWok w l) (hNc : va_Nc eI eN w.1) (hX : jScr w Lq xs) (hL : Lq ≤ 3072) (hi : i + 6 ≤ Lq) (hV : INV I L R) (hk : lK w l kc ks i) : jWP w l mL_law 60 (kc + 1) (ks + 6) lQ lX 1466 (lL i) [] (n, shE, I, L, R) := by
  obtain ⟨dL, dX, c, h1, h2, hC⟩ := kL_queue (n := n) hW hV (xs (i + 1))
  refine jx_aload_n dL_law_1466 rfl ?_
  refine jx_aload_n dL_law_1467 rfl ?_
  refine jx_iload dL_law_1468 rfl ?_
  refine jx_iconst (v := nI 1) dL_law_1470 rfl ?_
  refine jx_iaddE dL_law_1471 (nI_p i 1) ?_
  refine jx_sld (i + 1) hX dL_law_1472 rfl (by omega) (by omega) ?_
  refine jx_aload_n dL_law_1473 rfl ?_
  refine jx_invSW (as := [.ref 1000, .int (xs (i + 1)), .ref 1118]) dL_law_1474 mlL_187 owL_queue stL_queue rfl rfl (by omega) (by omega) (by omega) (Nat.le_of_ble_eq_true rfl) hC ?_ (fun _ _ h => h.elim)
  rintro v t ⟨rfl, n', J, M, R', hn, rfl, hX2⟩
  refine jx_istore dL_law_1477 (by decide) ?_
  refine jx_aload_n dL_law_1479 rfl ?_
  refine jx_aload_n dL_law_1480 rfl ?_
  refine jx_iload dL_law_1481 rfl ?_
  refine jx_iconst (v := nI 1) dL_law_1483 rfl ?_
  refine jx_iaddE dL_law_1484 (nI_p i 1) ?_
  refine jx_sld (i + 1) hX dL_law_1485 rfl (by omega) (by omega) ?_
  refine jx_invV (as := [.int (xs (i + 1))]) dL_law_1486 mlL_189 okX11_queue viX11_queue rfl rfl rfl rfl rfl (by omega) (Nat.zero_le _) (Nat.zero_le _) (Nat.le_of_ble_eq_true rfl) hX2 ?_ (fun _ _ h => h.elim)
  rintro v t ⟨r, rfl, K, rfl, e2, e0, iv⟩
  refine jx_istore dL_law_1489 (by decide) ?_
  refine jx_aload_n dL_law_1491 rfl ?_
  refine jx_Vi (as := []) dL_law_1492 mlL_120 okX11_thrown viX11_thrown rfl rfl rfl rfl rfl (by decide) (Nat.le_of_ble_eq_true rfl) (tX11_thrown hW) ?_
  refine jx_iload dL_law_1495 rfl ?_
  refine jx_icmp_eq 1502 dL_law_1497 (by decide) (fun _ => ?_) (fun ne => absurd e2 ne)
  refine jx_iload dL_law_1502 rfl ?_
  have fin : ∀ {kc' ks' : Nat} {ls : List (Nat × Value)}, kc ≤ kc' → ks ≤ ks' → jls ls (lL i) → jWP w l mL_law 60 kc' ks' lQ lX 1519 ls [] (n', shE, K, M, R') := fun h5 h6 h7 => jx_goto 2366 dL_law_1519 (by decide) (jWP_mono h5 h6 (jx_ls h7 (hk _ _ _ _ iv)))
  refine jx_if_ne 1519 dL_law_1504 (by decide) (fun _ => fin (by omega) (by omega) (by exact ⟨rfl, rfl, rfl, rfl, rfl, trivial⟩)) (fun ec => ?_)
  refine jx_aload_n dL_law_1507 rfl ?_
  refine jx_iconst (v := nI 0) dL_law_1508 rfl ?_
  refine jx_laldE 0 dL_law_1509 rfl rfl (by decide) (by decide) (e0 ec) ?_
  refine jx_iload dL_law_1510 rfl ?_
  refine jx_i2l dL_law_1512 ?_
  refine jx_lcmp dL_law_1513 ?_
  exact jx_if_eq 1519 dL_law_1514 (by decide) (fun _ => fin (by omega) (by omega) (by exact ⟨rfl, rfl, rfl, rfl, rfl, trivial⟩)) (fun ne => absurd (cmp_s _) ne)
set_option maxHeartbeats 1000000 in
theorem cL_case22 (hW : jWok w l) (hNc : va_Nc eI eN w.1) (hX : jScr w Lq xs) (hL : Lq ≤ 3072) (hi : i + 6 ≤ Lq) (hV : INV I L R) (hk : lK w l kc ks i) : jWP w l mL_law 60 (kc + 1) (ks + 6) lQ lX 1522 (lL i) [] (n, shE, I, L, R) := by
  obtain ⟨dL, dX, c, h1, h2, hC⟩ := kL_heir (n := n) hW hV (xs (i + 1))
  refine jx_aload_n dL_law_1522 rfl ?_
  refine jx_aload_n dL_law_1523 rfl ?_
  refine jx_iload dL_law_1524 rfl ?_
  refine jx_iconst (v := nI 1) dL_law_1526 rfl ?_
  refine jx_iaddE dL_law_1527 (nI_p i 1) ?_
  refine jx_sld (i + 1) hX dL_law_1528 rfl (by omega) (by omega) ?_
  refine jx_aload_n dL_law_1529 rfl ?_
  refine jx_invSW (as := [.ref 1000, .int (xs (i + 1)), .ref 1118]) dL_law_1530 mlL_190 owL_heir stL_heir rfl rfl (by omega) (by omega) (by omega) (Nat.le_of_ble_eq_true rfl) hC ?_ (fun _ _ h => h.elim)
  rintro v t ⟨rfl, n', J, M, R', hn, rfl, hX2⟩
  refine jx_istore dL_law_1533 (by decide) ?_
  refine jx_aload_n dL_law_1535 rfl ?_
  refine jx_aload_n dL_law_1536 rfl ?_
  refine jx_iload dL_law_1537 rfl ?_
  refine jx_iconst (v := nI 1) dL_law_1539 rfl ?_
  refine jx_iaddE dL_law_1540 (nI_p i 1) ?_
  refine jx_sld (i + 1) hX dL_law_1541 rfl (by omega) (by omega) ?_
  refine jx_invV (as := [.int (xs (i + 1))]) dL_law_1542 mlL_192 okX11_heir viX11_heir rfl rfl rfl rfl rfl (by omega) (Nat.zero_le _) (Nat.zero_le _) (Nat.le_of_ble_eq_true rfl) hX2 ?_ (fun _ _ h => h.elim)
  rintro v t ⟨r, rfl, K, rfl, e2, e0, iv⟩
  refine jx_istore dL_law_1545 (by decide) ?_
  refine jx_aload_n dL_law_1547 rfl ?_
  refine jx_Vi (as := []) dL_law_1548 mlL_120 okX11_thrown viX11_thrown rfl rfl rfl rfl rfl (by decide) (Nat.le_of_ble_eq_true rfl) (tX11_thrown hW) ?_
  refine jx_iload dL_law_1551 rfl ?_
  refine jx_icmp_eq 1558 dL_law_1553 (by decide) (fun _ => ?_) (fun ne => absurd e2 ne)
  refine jx_iload dL_law_1558 rfl ?_
  have fin : ∀ {kc' ks' : Nat} {ls : List (Nat × Value)}, kc ≤ kc' → ks ≤ ks' → jls ls (lL i) → jWP w l mL_law 60 kc' ks' lQ lX 1575 ls [] (n', shE, K, M, R') := fun h5 h6 h7 => jx_goto 2366 dL_law_1575 (by decide) (jWP_mono h5 h6 (jx_ls h7 (hk _ _ _ _ iv)))
  refine jx_if_ne 1575 dL_law_1560 (by decide) (fun _ => fin (by omega) (by omega) (by exact ⟨rfl, rfl, rfl, rfl, rfl, trivial⟩)) (fun ec => ?_)
  refine jx_aload_n dL_law_1563 rfl ?_
  refine jx_iconst (v := nI 0) dL_law_1564 rfl ?_
  refine jx_laldE 0 dL_law_1565 rfl rfl (by decide) (by decide) (e0 ec) ?_
  refine jx_iload dL_law_1566 rfl ?_
  refine jx_i2l dL_law_1568 ?_
  refine jx_lcmp dL_law_1569 ?_
  exact jx_if_eq 1575 dL_law_1570 (by decide) (fun _ => fin (by omega) (by omega) (by exact ⟨rfl, rfl, rfl, rfl, rfl, trivial⟩)) (fun ne => absurd (cmp_s _) ne)
set_option maxHeartbeats 1000000 in
theorem cL_case23 (hW : jWok w l) (hNc : va_Nc eI eN w.1) (hX : jScr w Lq xs) (hL : Lq ≤ 3072) (hi : i + 6 ≤ Lq) (hV : INV I L R) (hk : lK w l kc ks i) : jWP w l mL_law 60 (kc + 1) (ks + 6) lQ lX 1578 (lL i) [] (n, shE, I, L, R) := by
  obtain ⟨z, hz⟩ : ∃ z : Bool, z = decide (¬ xs (i + 3) = 0) := ⟨_, rfl⟩
  obtain ⟨dL, dX, c, h1, h2, hC⟩ := kL_sink (n := n) hW hV (xs (i + 1)) (xs (i + 2)) z
  refine jx_aload_n dL_law_1578 rfl ?_
  refine jx_aload_n dL_law_1579 rfl ?_
  refine jx_iload dL_law_1580 rfl ?_
  refine jx_iconst (v := nI 1) dL_law_1582 rfl ?_
  refine jx_iaddE dL_law_1583 (nI_p i 1) ?_
  refine jx_sld (i + 1) hX dL_law_1584 rfl (by omega) (by omega) ?_
  refine jx_aload_n dL_law_1585 rfl ?_
  refine jx_iload dL_law_1586 rfl ?_
  refine jx_iconst (v := nI 2) dL_law_1588 rfl ?_
  refine jx_iaddE dL_law_1589 (nI_p i 2) ?_
  refine jx_sld (i + 2) hX dL_law_1590 rfl (by omega) (by omega) ?_
  refine jx_aload_n dL_law_1591 rfl ?_
  refine jx_iload dL_law_1592 rfl ?_
  refine jx_iconst (v := nI 3) dL_law_1594 rfl ?_
  refine jx_iaddE dL_law_1595 (nI_p i 3) ?_
  refine jx_sld (i + 3) hX dL_law_1596 rfl (by omega) (by omega) ?_
  refine jx_boolZ (z := z) 1604 1605 dL_law_1597 dL_law_1600 dL_law_1601 dL_law_1604 (by decide) (by decide) (by rw [hz]; simp) ?_
  refine jx_aload_n dL_law_1605 rfl ?_
  refine jx_invSW (as := [.ref 1000, .int (xs (i + 1)), .int (xs (i + 2)), .int (jb z), .ref 1118]) dL_law_1606 mlL_193 owL_sink stL_sink rfl rfl (by omega) (by omega) (by omega) (Nat.le_of_ble_eq_true rfl) hC ?_ (fun _ _ h => h.elim)
  rintro v t ⟨rfl, n', J, M, R', hn, rfl, hX2⟩
  refine jx_istore dL_law_1609 (by decide) ?_
  refine jx_aload_n dL_law_1611 rfl ?_
  refine jx_aload_n dL_law_1612 rfl ?_
  refine jx_iload dL_law_1613 rfl ?_
  refine jx_iconst (v := nI 1) dL_law_1615 rfl ?_
  refine jx_iaddE dL_law_1616 (nI_p i 1) ?_
  refine jx_sld (i + 1) hX dL_law_1617 rfl (by omega) (by omega) ?_
  refine jx_aload_n dL_law_1618 rfl ?_
  refine jx_iload dL_law_1619 rfl ?_
  refine jx_iconst (v := nI 2) dL_law_1621 rfl ?_
  refine jx_iaddE dL_law_1622 (nI_p i 2) ?_
  refine jx_sld (i + 2) hX dL_law_1623 rfl (by omega) (by omega) ?_
  refine jx_aload_n dL_law_1624 rfl ?_
  refine jx_iload dL_law_1625 rfl ?_
  refine jx_iconst (v := nI 3) dL_law_1627 rfl ?_
  refine jx_iaddE dL_law_1628 (nI_p i 3) ?_
  refine jx_sld (i + 3) hX dL_law_1629 rfl (by omega) (by omega) ?_
  refine jx_boolZ (z := z) 1637 1638 dL_law_1630 dL_law_1633 dL_law_1634 dL_law_1637 (by decide) (by decide) (by rw [hz]; simp) ?_
  refine jx_invV (as := [.int (xs (i + 1)), .int (xs (i + 2)), .int (jb z)]) dL_law_1638 mlL_196 okX11_sink viX11_sink rfl rfl rfl rfl rfl (by omega) (Nat.zero_le _) (Nat.zero_le _) (Nat.le_of_ble_eq_true rfl) hX2 ?_ (fun _ _ h => h.elim)
  rintro v t ⟨r, rfl, K, rfl, e2, e0, iv⟩
  refine jx_istore dL_law_1641 (by decide) ?_
  refine jx_aload_n dL_law_1643 rfl ?_
  refine jx_Vi (as := []) dL_law_1644 mlL_120 okX11_thrown viX11_thrown rfl rfl rfl rfl rfl (by decide) (Nat.le_of_ble_eq_true rfl) (tX11_thrown hW) ?_
  refine jx_iload dL_law_1647 rfl ?_
  refine jx_icmp_eq 1654 dL_law_1649 (by decide) (fun _ => ?_) (fun ne => absurd e2 ne)
  refine jx_iload dL_law_1654 rfl ?_
  have fin : ∀ {kc' ks' : Nat} {ls : List (Nat × Value)}, kc ≤ kc' → ks ≤ ks' → jls ls (lL i) → jWP w l mL_law 60 kc' ks' lQ lX 1671 ls [] (n', shE, K, M, R') := fun h5 h6 h7 => jx_goto 2366 dL_law_1671 (by decide) (jWP_mono h5 h6 (jx_ls h7 (hk _ _ _ _ iv)))
  refine jx_if_ne 1671 dL_law_1656 (by decide) (fun _ => fin (by omega) (by omega) (by exact ⟨rfl, rfl, rfl, rfl, rfl, trivial⟩)) (fun ec => ?_)
  refine jx_aload_n dL_law_1659 rfl ?_
  refine jx_iconst (v := nI 0) dL_law_1660 rfl ?_
  refine jx_laldE 0 dL_law_1661 rfl rfl (by decide) (by decide) (e0 ec) ?_
  refine jx_iload dL_law_1662 rfl ?_
  refine jx_i2l dL_law_1664 ?_
  refine jx_lcmp dL_law_1665 ?_
  exact jx_if_eq 1671 dL_law_1666 (by decide) (fun _ => fin (by omega) (by omega) (by exact ⟨rfl, rfl, rfl, rfl, rfl, trivial⟩)) (fun ne => absurd (cmp_s _) ne)
set_option maxHeartbeats 1000000 in
theorem cL_case24 (hW : jWok w l) (hNc : va_Nc eI eN w.1) (hX : jScr w Lq xs) (hL : Lq ≤ 3072) (hi : i + 6 ≤ Lq) (hV : INV I L R) (hk : lK w l kc ks i) : jWP w l mL_law 60 (kc + 1) (ks + 6) lQ lX 1674 (lL i) [] (n, shE, I, L, R) := by
  obtain ⟨dN, dX, h1, h2, hC⟩ := kD_forget (n := n) hW hV 
  refine jx_aload_n dL_law_1674 rfl ?_
  refine jx_invV (as := []) dL_law_1675 mlL_197 okX10_forget viX10_forget rfl rfl rfl rfl rfl (by omega) (Nat.zero_le _) (Nat.zero_le _) (Nat.le_of_ble_eq_true rfl) hC ?_ (fun _ _ h => h.elim)
  rintro v t ⟨r, rfl, J, M, rfl, hX2⟩
  refine jx_aload_n dL_law_1678 rfl ?_
  refine jx_invV (as := []) dL_law_1679 mlL_200 okX11_forget viX11_forget rfl rfl rfl rfl rfl (by omega) (Nat.zero_le _) (Nat.zero_le _) (Nat.le_of_ble_eq_true rfl) hX2 ?_ (fun _ _ h => h.elim)
  rintro v t ⟨r', rfl, rfl, K, rfl, iv⟩
  exact jx_icmp_eq 2366 dL_law_1682 (by decide) (fun _ => jWP_mono (by omega) (by omega) (hk _ _ _ _ iv)) (fun ne => absurd rfl ne)
set_option maxHeartbeats 1000000 in
theorem cL_case25 (hW : jWok w l) (hNc : va_Nc eI eN w.1) (hX : jScr w Lq xs) (hL : Lq ≤ 3072) (hi : i + 6 ≤ Lq) (hV : INV I L R) (hk : lK w l kc ks i) : jWP w l mL_law 60 (kc + 1) (ks + 6) lQ lX 1687 (lL i) [] (n, shE, I, L, R) := by
  obtain ⟨dL, dX, c, h1, h2, hC⟩ := kL_motions (n := n) hW hV (xs (i + 1))
  refine jx_aload_n dL_law_1687 rfl ?_
  refine jx_aload_n dL_law_1688 rfl ?_
  refine jx_iload dL_law_1689 rfl ?_
  refine jx_iconst (v := nI 1) dL_law_1691 rfl ?_
  refine jx_iaddE dL_law_1692 (nI_p i 1) ?_
  refine jx_sld (i + 1) hX dL_law_1693 rfl (by omega) (by omega) ?_
  refine jx_aload_n dL_law_1694 rfl ?_
  refine jx_invSW (as := [.ref 1000, .int (xs (i + 1)), .ref 1118]) dL_law_1695 mlL_201 owL_motions stL_motions rfl rfl (by omega) (by omega) (by omega) (Nat.le_of_ble_eq_true rfl) hC ?_ (fun _ _ h => h.elim)
  rintro v t ⟨rfl, n', J, M, R', hn, rfl, hX2⟩
  refine jx_istore dL_law_1698 (by decide) ?_
  refine jx_aload_n dL_law_1700 rfl ?_
  refine jx_aload_n dL_law_1701 rfl ?_
  refine jx_iload dL_law_1702 rfl ?_
  refine jx_iconst (v := nI 1) dL_law_1704 rfl ?_
  refine jx_iaddE dL_law_1705 (nI_p i 1) ?_
  refine jx_sld (i + 1) hX dL_law_1706 rfl (by omega) (by omega) ?_
  refine jx_invV (as := [.int (xs (i + 1))]) dL_law_1707 mlL_203 okX11_motions viX11_motions rfl rfl rfl rfl rfl (by omega) (Nat.zero_le _) (Nat.zero_le _) (Nat.le_of_ble_eq_true rfl) hX2 ?_ (fun _ _ h => h.elim)
  rintro v t ⟨r, rfl, K, rfl, e2, e0, iv⟩
  refine jx_istore dL_law_1710 (by decide) ?_
  refine jx_aload_n dL_law_1712 rfl ?_
  refine jx_Vi (as := []) dL_law_1713 mlL_120 okX11_thrown viX11_thrown rfl rfl rfl rfl rfl (by decide) (Nat.le_of_ble_eq_true rfl) (tX11_thrown hW) ?_
  refine jx_iload dL_law_1716 rfl ?_
  refine jx_icmp_eq 1723 dL_law_1718 (by decide) (fun _ => ?_) (fun ne => absurd e2 ne)
  refine jx_iload dL_law_1723 rfl ?_
  have fin : ∀ {kc' ks' : Nat} {ls : List (Nat × Value)}, kc ≤ kc' → ks ≤ ks' → jls ls (lL i) → jWP w l mL_law 60 kc' ks' lQ lX 1740 ls [] (n', shE, K, M, R') := fun h5 h6 h7 => jx_goto 2366 dL_law_1740 (by decide) (jWP_mono h5 h6 (jx_ls h7 (hk _ _ _ _ iv)))
  refine jx_if_ne 1740 dL_law_1725 (by decide) (fun _ => fin (by omega) (by omega) (by exact ⟨rfl, rfl, rfl, rfl, rfl, trivial⟩)) (fun ec => ?_)
  refine jx_aload_n dL_law_1728 rfl ?_
  refine jx_iconst (v := nI 0) dL_law_1729 rfl ?_
  refine jx_laldE 0 dL_law_1730 rfl rfl (by decide) (by decide) (e0 ec) ?_
  refine jx_iload dL_law_1731 rfl ?_
  refine jx_i2l dL_law_1733 ?_
  refine jx_lcmp dL_law_1734 ?_
  exact jx_if_eq 1740 dL_law_1735 (by decide) (fun _ => fin (by omega) (by omega) (by exact ⟨rfl, rfl, rfl, rfl, rfl, trivial⟩)) (fun ne => absurd (cmp_s _) ne)
set_option maxHeartbeats 1000000 in
theorem cL_case26 (hW : jWok w l) (hNc : va_Nc eI eN w.1) (hX : jScr w Lq xs) (hL : Lq ≤ 3072) (hi : i + 6 ≤ Lq) (hV : INV I L R) (hk : lK w l kc ks i) : jWP w l mL_law 60 (kc + 1) (ks + 6) lQ lX 1743 (lL i) [] (n, shE, I, L, R) := by
  obtain ⟨z, hz⟩ : ∃ z : Bool, z = decide (¬ xs (i + 2) = 0) := ⟨_, rfl⟩
  obtain ⟨dL, dX, c, h1, h2, hC⟩ := kL_sound (n := n) hW hV (xs (i + 1)) z
  refine jx_aload_n dL_law_1743 rfl ?_
  refine jx_aload_n dL_law_1744 rfl ?_
  refine jx_iload dL_law_1745 rfl ?_
  refine jx_iconst (v := nI 1) dL_law_1747 rfl ?_
  refine jx_iaddE dL_law_1748 (nI_p i 1) ?_
  refine jx_sld (i + 1) hX dL_law_1749 rfl (by omega) (by omega) ?_
  refine jx_aload_n dL_law_1750 rfl ?_
  refine jx_iload dL_law_1751 rfl ?_
  refine jx_iconst (v := nI 2) dL_law_1753 rfl ?_
  refine jx_iaddE dL_law_1754 (nI_p i 2) ?_
  refine jx_sld (i + 2) hX dL_law_1755 rfl (by omega) (by omega) ?_
  refine jx_boolZ (z := z) 1763 1764 dL_law_1756 dL_law_1759 dL_law_1760 dL_law_1763 (by decide) (by decide) (by rw [hz]; simp) ?_
  refine jx_aload_n dL_law_1764 rfl ?_
  refine jx_invSW (as := [.ref 1000, .int (xs (i + 1)), .int (jb z), .ref 1118]) dL_law_1765 mlL_204 owL_sound stL_sound rfl rfl (by omega) (by omega) (by omega) (Nat.le_of_ble_eq_true rfl) hC ?_ (fun _ _ h => h.elim)
  rintro v t ⟨rfl, n', J, M, R', hn, rfl, hX2⟩
  refine jx_istore dL_law_1768 (by decide) ?_
  refine jx_aload_n dL_law_1770 rfl ?_
  refine jx_aload_n dL_law_1771 rfl ?_
  refine jx_iload dL_law_1772 rfl ?_
  refine jx_iconst (v := nI 1) dL_law_1774 rfl ?_
  refine jx_iaddE dL_law_1775 (nI_p i 1) ?_
  refine jx_sld (i + 1) hX dL_law_1776 rfl (by omega) (by omega) ?_
  refine jx_aload_n dL_law_1777 rfl ?_
  refine jx_iload dL_law_1778 rfl ?_
  refine jx_iconst (v := nI 2) dL_law_1780 rfl ?_
  refine jx_iaddE dL_law_1781 (nI_p i 2) ?_
  refine jx_sld (i + 2) hX dL_law_1782 rfl (by omega) (by omega) ?_
  refine jx_boolZ (z := z) 1790 1791 dL_law_1783 dL_law_1786 dL_law_1787 dL_law_1790 (by decide) (by decide) (by rw [hz]; simp) ?_
  refine jx_invV (as := [.int (xs (i + 1)), .int (jb z)]) dL_law_1791 mlL_207 okX11_sound viX11_sound rfl rfl rfl rfl rfl (by omega) (Nat.zero_le _) (Nat.zero_le _) (Nat.le_of_ble_eq_true rfl) hX2 ?_ (fun _ _ h => h.elim)
  rintro v t ⟨r, rfl, K, rfl, e2, e0, iv⟩
  refine jx_lstore dL_law_1794 (by decide) ?_
  refine jx_aload_n dL_law_1796 rfl ?_
  refine jx_Vi (as := []) dL_law_1797 mlL_120 okX11_thrown viX11_thrown rfl rfl rfl rfl rfl (by decide) (Nat.le_of_ble_eq_true rfl) (tX11_thrown hW) ?_
  refine jx_iload dL_law_1800 rfl ?_
  refine jx_icmp_eq 1807 dL_law_1802 (by decide) (fun _ => ?_) (fun ne => absurd e2 ne)
  refine jx_iload dL_law_1807 rfl ?_
  have fin : ∀ {kc' ks' : Nat} {ls : List (Nat × Value)}, kc ≤ kc' → ks ≤ ks' → jls ls (lL i) → jWP w l mL_law 60 kc' ks' lQ lX 1823 ls [] (n', shE, K, M, R') := fun h5 h6 h7 => jx_goto 2366 dL_law_1823 (by decide) (jWP_mono h5 h6 (jx_ls h7 (hk _ _ _ _ iv)))
  refine jx_if_ne 1823 dL_law_1809 (by decide) (fun _ => fin (by omega) (by omega) (by exact ⟨rfl, rfl, rfl, rfl, rfl, trivial⟩)) (fun ec => ?_)
  refine jx_aload_n dL_law_1812 rfl ?_
  refine jx_iconst (v := nI 0) dL_law_1813 rfl ?_
  refine jx_laldE 0 dL_law_1814 rfl rfl (by decide) (by decide) (e0 ec) ?_
  refine jx_lload dL_law_1815 rfl ?_
  refine jx_lcmp dL_law_1817 ?_
  exact jx_if_eq 1823 dL_law_1818 (by decide) (fun _ => fin (by omega) (by omega) (by exact ⟨rfl, rfl, rfl, rfl, rfl, trivial⟩)) (fun ne => absurd (cmp_s _) ne)
set_option maxHeartbeats 1000000 in
theorem cL_case27 (hW : jWok w l) (hNc : va_Nc eI eN w.1) (hX : jScr w Lq xs) (hL : Lq ≤ 3072) (hi : i + 6 ≤ Lq) (hV : INV I L R) (hk : lK w l kc ks i) : jWP w l mL_law 60 (kc + 1) (ks + 6) lQ lX 1826 (lL i) [] (n, shE, I, L, R) := by
  obtain ⟨dL, dX, c, h1, h2, hC⟩ := kL_late (n := n) hW hV (xs (i + 1)) (xs (i + 2)) (xs (i + 3))
  refine jx_aload_n dL_law_1826 rfl ?_
  refine jx_aload_n dL_law_1827 rfl ?_
  refine jx_iload dL_law_1828 rfl ?_
  refine jx_iconst (v := nI 1) dL_law_1830 rfl ?_
  refine jx_iaddE dL_law_1831 (nI_p i 1) ?_
  refine jx_sld (i + 1) hX dL_law_1832 rfl (by omega) (by omega) ?_
  refine jx_aload_n dL_law_1833 rfl ?_
  refine jx_iload dL_law_1834 rfl ?_
  refine jx_iconst (v := nI 2) dL_law_1836 rfl ?_
  refine jx_iaddE dL_law_1837 (nI_p i 2) ?_
  refine jx_sld (i + 2) hX dL_law_1838 rfl (by omega) (by omega) ?_
  refine jx_aload_n dL_law_1839 rfl ?_
  refine jx_iload dL_law_1840 rfl ?_
  refine jx_iconst (v := nI 3) dL_law_1842 rfl ?_
  refine jx_iaddE dL_law_1843 (nI_p i 3) ?_
  refine jx_sld (i + 3) hX dL_law_1844 rfl (by omega) (by omega) ?_
  refine jx_aload_n dL_law_1845 rfl ?_
  refine jx_invSW (as := [.ref 1000, .int (xs (i + 1)), .int (xs (i + 2)), .int (xs (i + 3)), .ref 1118]) dL_law_1846 mlL_208 owL_late stL_late rfl rfl (by omega) (by omega) (by omega) (Nat.le_of_ble_eq_true rfl) hC ?_ (fun _ _ h => h.elim)
  rintro v t ⟨rfl, n', J, M, R', hn, rfl, hX2⟩
  refine jx_istore dL_law_1849 (by decide) ?_
  refine jx_aload_n dL_law_1851 rfl ?_
  refine jx_aload_n dL_law_1852 rfl ?_
  refine jx_iload dL_law_1853 rfl ?_
  refine jx_iconst (v := nI 1) dL_law_1855 rfl ?_
  refine jx_iaddE dL_law_1856 (nI_p i 1) ?_
  refine jx_sld (i + 1) hX dL_law_1857 rfl (by omega) (by omega) ?_
  refine jx_aload_n dL_law_1858 rfl ?_
  refine jx_iload dL_law_1859 rfl ?_
  refine jx_iconst (v := nI 2) dL_law_1861 rfl ?_
  refine jx_iaddE dL_law_1862 (nI_p i 2) ?_
  refine jx_sld (i + 2) hX dL_law_1863 rfl (by omega) (by omega) ?_
  refine jx_aload_n dL_law_1864 rfl ?_
  refine jx_iload dL_law_1865 rfl ?_
  refine jx_iconst (v := nI 3) dL_law_1867 rfl ?_
  refine jx_iaddE dL_law_1868 (nI_p i 3) ?_
  refine jx_sld (i + 3) hX dL_law_1869 rfl (by omega) (by omega) ?_
  refine jx_invV (as := [.int (xs (i + 1)), .int (xs (i + 2)), .int (xs (i + 3))]) dL_law_1870 mlL_210 okX11_late viX11_late rfl rfl rfl rfl rfl (by omega) (Nat.zero_le _) (Nat.zero_le _) (Nat.le_of_ble_eq_true rfl) hX2 ?_ (fun _ _ h => h.elim)
  rintro v t ⟨r, rfl, K, rfl, e2, e0, iv⟩
  refine jx_istore dL_law_1873 (by decide) ?_
  refine jx_aload_n dL_law_1875 rfl ?_
  refine jx_Vi (as := []) dL_law_1876 mlL_120 okX11_thrown viX11_thrown rfl rfl rfl rfl rfl (by decide) (Nat.le_of_ble_eq_true rfl) (tX11_thrown hW) ?_
  refine jx_iload dL_law_1879 rfl ?_
  refine jx_icmp_eq 1886 dL_law_1881 (by decide) (fun _ => ?_) (fun ne => absurd e2 ne)
  refine jx_iload dL_law_1886 rfl ?_
  have fin : ∀ {kc' ks' : Nat} {ls : List (Nat × Value)}, kc ≤ kc' → ks ≤ ks' → jls ls (lL i) → jWP w l mL_law 60 kc' ks' lQ lX 1903 ls [] (n', shE, K, M, R') := fun h5 h6 h7 => jx_goto 2366 dL_law_1903 (by decide) (jWP_mono h5 h6 (jx_ls h7 (hk _ _ _ _ iv)))
  refine jx_if_ne 1903 dL_law_1888 (by decide) (fun _ => fin (by omega) (by omega) (by exact ⟨rfl, rfl, rfl, rfl, rfl, trivial⟩)) (fun ec => ?_)
  refine jx_aload_n dL_law_1891 rfl ?_
  refine jx_iconst (v := nI 0) dL_law_1892 rfl ?_
  refine jx_laldE 0 dL_law_1893 rfl rfl (by decide) (by decide) (e0 ec) ?_
  refine jx_iload dL_law_1894 rfl ?_
  refine jx_i2l dL_law_1896 ?_
  refine jx_lcmp dL_law_1897 ?_
  exact jx_if_eq 1903 dL_law_1898 (by decide) (fun _ => fin (by omega) (by omega) (by exact ⟨rfl, rfl, rfl, rfl, rfl, trivial⟩)) (fun ne => absurd (cmp_s _) ne)
set_option maxHeartbeats 1000000 in
theorem cL_case28 (hW : jWok w l) (hNc : va_Nc eI eN w.1) (hX : jScr w Lq xs) (hL : Lq ≤ 3072) (hi : i + 6 ≤ Lq) (hV : INV I L R) (hk : lK w l kc ks i) : jWP w l mL_law 60 (kc + 1) (ks + 6) lQ lX 1906 (lL i) [] (n, shE, I, L, R) := by
  obtain ⟨dL, dX, c, h1, h2, hC⟩ := kL_costs (n := n) hW hNc hV (xs (i + 1)) (xs (i + 2)) (xs (i + 3)) (xs (i + 4))
  refine jx_aload_n dL_law_1906 rfl ?_
  refine jx_aload_n dL_law_1907 rfl ?_
  refine jx_iload dL_law_1908 rfl ?_
  refine jx_iconst (v := nI 1) dL_law_1910 rfl ?_
  refine jx_iaddE dL_law_1911 (nI_p i 1) ?_
  refine jx_sld (i + 1) hX dL_law_1912 rfl (by omega) (by omega) ?_
  refine jx_aload_n dL_law_1913 rfl ?_
  refine jx_iload dL_law_1914 rfl ?_
  refine jx_iconst (v := nI 2) dL_law_1916 rfl ?_
  refine jx_iaddE dL_law_1917 (nI_p i 2) ?_
  refine jx_sld (i + 2) hX dL_law_1918 rfl (by omega) (by omega) ?_
  refine jx_aload_n dL_law_1919 rfl ?_
  refine jx_iload dL_law_1920 rfl ?_
  refine jx_iconst (v := nI 3) dL_law_1922 rfl ?_
  refine jx_iaddE dL_law_1923 (nI_p i 3) ?_
  refine jx_sld (i + 3) hX dL_law_1924 rfl (by omega) (by omega) ?_
  refine jx_aload_n dL_law_1925 rfl ?_
  refine jx_iload dL_law_1926 rfl ?_
  refine jx_iconst (v := nI 4) dL_law_1928 rfl ?_
  refine jx_iaddE dL_law_1929 (nI_p i 4) ?_
  refine jx_sld (i + 4) hX dL_law_1930 rfl (by omega) (by omega) ?_
  refine jx_aload_n dL_law_1931 rfl ?_
  refine jx_invSW (as := [.ref 1000, .int (xs (i + 1)), .int (xs (i + 2)), .int (xs (i + 3)), .int (xs (i + 4)), .ref 1118]) dL_law_1932 mlL_211 owL_costs stL_costs rfl rfl (by omega) (by omega) (by omega) (Nat.le_of_ble_eq_true rfl) hC ?_ (fun _ _ h => h.elim)
  rintro v t ⟨rfl, n', J, M, R', hn, rfl, hX2⟩
  refine jx_istore dL_law_1935 (by decide) ?_
  refine jx_aload_n dL_law_1937 rfl ?_
  refine jx_aload_n dL_law_1938 rfl ?_
  refine jx_iload dL_law_1939 rfl ?_
  refine jx_iconst (v := nI 1) dL_law_1941 rfl ?_
  refine jx_iaddE dL_law_1942 (nI_p i 1) ?_
  refine jx_sld (i + 1) hX dL_law_1943 rfl (by omega) (by omega) ?_
  refine jx_aload_n dL_law_1944 rfl ?_
  refine jx_iload dL_law_1945 rfl ?_
  refine jx_iconst (v := nI 2) dL_law_1947 rfl ?_
  refine jx_iaddE dL_law_1948 (nI_p i 2) ?_
  refine jx_sld (i + 2) hX dL_law_1949 rfl (by omega) (by omega) ?_
  refine jx_aload_n dL_law_1950 rfl ?_
  refine jx_iload dL_law_1951 rfl ?_
  refine jx_iconst (v := nI 3) dL_law_1953 rfl ?_
  refine jx_iaddE dL_law_1954 (nI_p i 3) ?_
  refine jx_sld (i + 3) hX dL_law_1955 rfl (by omega) (by omega) ?_
  refine jx_aload_n dL_law_1956 rfl ?_
  refine jx_iload dL_law_1957 rfl ?_
  refine jx_iconst (v := nI 4) dL_law_1959 rfl ?_
  refine jx_iaddE dL_law_1960 (nI_p i 4) ?_
  refine jx_sld (i + 4) hX dL_law_1961 rfl (by omega) (by omega) ?_
  refine jx_invV (as := [.int (xs (i + 1)), .int (xs (i + 2)), .int (xs (i + 3)), .int (xs (i + 4))]) dL_law_1962 mlL_213 okX11_costs viX11_costs rfl rfl rfl rfl rfl (by omega) (Nat.zero_le _) (Nat.zero_le _) (Nat.le_of_ble_eq_true rfl) hX2 ?_ (fun _ _ h => h.elim)
  rintro v t ⟨r, rfl, K, rfl, e2, e0, iv⟩
  refine jx_istore dL_law_1965 (by decide) ?_
  refine jx_aload_n dL_law_1967 rfl ?_
  refine jx_Vi (as := []) dL_law_1968 mlL_120 okX11_thrown viX11_thrown rfl rfl rfl rfl rfl (by decide) (Nat.le_of_ble_eq_true rfl) (tX11_thrown hW) ?_
  refine jx_iload dL_law_1971 rfl ?_
  refine jx_icmp_eq 1978 dL_law_1973 (by decide) (fun _ => ?_) (fun ne => absurd e2 ne)
  refine jx_iload dL_law_1978 rfl ?_
  have fin : ∀ {kc' ks' : Nat} {ls : List (Nat × Value)}, kc ≤ kc' → ks ≤ ks' → jls ls (lL i) → jWP w l mL_law 60 kc' ks' lQ lX 1995 ls [] (n', shE, K, M, R') := fun h5 h6 h7 => jx_goto 2366 dL_law_1995 (by decide) (jWP_mono h5 h6 (jx_ls h7 (hk _ _ _ _ iv)))
  refine jx_if_ne 1995 dL_law_1980 (by decide) (fun _ => fin (by omega) (by omega) (by exact ⟨rfl, rfl, rfl, rfl, rfl, trivial⟩)) (fun ec => ?_)
  refine jx_aload_n dL_law_1983 rfl ?_
  refine jx_iconst (v := nI 0) dL_law_1984 rfl ?_
  refine jx_laldE 0 dL_law_1985 rfl rfl (by decide) (by decide) (e0 ec) ?_
  refine jx_iload dL_law_1986 rfl ?_
  refine jx_i2l dL_law_1988 ?_
  refine jx_lcmp dL_law_1989 ?_
  exact jx_if_eq 1995 dL_law_1990 (by decide) (fun _ => fin (by omega) (by omega) (by exact ⟨rfl, rfl, rfl, rfl, rfl, trivial⟩)) (fun ne => absurd (cmp_s _) ne)
set_option maxHeartbeats 1000000 in
theorem cL_case29 (hW : jWok w l) (hNc : va_Nc eI eN w.1) (hX : jScr w Lq xs) (hL : Lq ≤ 3072) (hi : i + 6 ≤ Lq) (hV : INV I L R) (hk : lK w l kc ks i) : jWP w l mL_law 60 (kc + 1) (ks + 6) lQ lX 1998 (lL i) [] (n, shE, I, L, R) := by
  obtain ⟨dL, dX, c, h1, h2, hC⟩ := kL_vigil (n := n) hW hV (xs (i + 1)) (xs (i + 2)) (xs (i + 3)) (xs (i + 4))
  refine jx_aload_n dL_law_1998 rfl ?_
  refine jx_aload_n dL_law_1999 rfl ?_
  refine jx_iload dL_law_2000 rfl ?_
  refine jx_iconst (v := nI 1) dL_law_2002 rfl ?_
  refine jx_iaddE dL_law_2003 (nI_p i 1) ?_
  refine jx_sld (i + 1) hX dL_law_2004 rfl (by omega) (by omega) ?_
  refine jx_aload_n dL_law_2005 rfl ?_
  refine jx_iload dL_law_2006 rfl ?_
  refine jx_iconst (v := nI 2) dL_law_2008 rfl ?_
  refine jx_iaddE dL_law_2009 (nI_p i 2) ?_
  refine jx_sld (i + 2) hX dL_law_2010 rfl (by omega) (by omega) ?_
  refine jx_aload_n dL_law_2011 rfl ?_
  refine jx_iload dL_law_2012 rfl ?_
  refine jx_iconst (v := nI 3) dL_law_2014 rfl ?_
  refine jx_iaddE dL_law_2015 (nI_p i 3) ?_
  refine jx_sld (i + 3) hX dL_law_2016 rfl (by omega) (by omega) ?_
  refine jx_aload_n dL_law_2017 rfl ?_
  refine jx_iload dL_law_2018 rfl ?_
  refine jx_iconst (v := nI 4) dL_law_2020 rfl ?_
  refine jx_iaddE dL_law_2021 (nI_p i 4) ?_
  refine jx_sld (i + 4) hX dL_law_2022 rfl (by omega) (by omega) ?_
  refine jx_aload_n dL_law_2023 rfl ?_
  refine jx_invSW (as := [.ref 1000, .int (xs (i + 1)), .int (xs (i + 2)), .int (xs (i + 3)), .int (xs (i + 4)), .ref 1118]) dL_law_2024 mlL_214 owL_vigil stL_vigil rfl rfl (by omega) (by omega) (by omega) (Nat.le_of_ble_eq_true rfl) hC ?_ (fun _ _ h => h.elim)
  rintro v t ⟨rfl, n', J, M, R', hn, rfl, hX2⟩
  refine jx_istore dL_law_2027 (by decide) ?_
  refine jx_aload_n dL_law_2029 rfl ?_
  refine jx_aload_n dL_law_2030 rfl ?_
  refine jx_iload dL_law_2031 rfl ?_
  refine jx_iconst (v := nI 1) dL_law_2033 rfl ?_
  refine jx_iaddE dL_law_2034 (nI_p i 1) ?_
  refine jx_sld (i + 1) hX dL_law_2035 rfl (by omega) (by omega) ?_
  refine jx_aload_n dL_law_2036 rfl ?_
  refine jx_iload dL_law_2037 rfl ?_
  refine jx_iconst (v := nI 2) dL_law_2039 rfl ?_
  refine jx_iaddE dL_law_2040 (nI_p i 2) ?_
  refine jx_sld (i + 2) hX dL_law_2041 rfl (by omega) (by omega) ?_
  refine jx_aload_n dL_law_2042 rfl ?_
  refine jx_iload dL_law_2043 rfl ?_
  refine jx_iconst (v := nI 3) dL_law_2045 rfl ?_
  refine jx_iaddE dL_law_2046 (nI_p i 3) ?_
  refine jx_sld (i + 3) hX dL_law_2047 rfl (by omega) (by omega) ?_
  refine jx_aload_n dL_law_2048 rfl ?_
  refine jx_iload dL_law_2049 rfl ?_
  refine jx_iconst (v := nI 4) dL_law_2051 rfl ?_
  refine jx_iaddE dL_law_2052 (nI_p i 4) ?_
  refine jx_sld (i + 4) hX dL_law_2053 rfl (by omega) (by omega) ?_
  refine jx_invV (as := [.int (xs (i + 1)), .int (xs (i + 2)), .int (xs (i + 3)), .int (xs (i + 4))]) dL_law_2054 mlL_216 okX11_vigil viX11_vigil rfl rfl rfl rfl rfl (by omega) (Nat.zero_le _) (Nat.zero_le _) (Nat.le_of_ble_eq_true rfl) hX2 ?_ (fun _ _ h => h.elim)
  rintro v t ⟨r, rfl, K, rfl, e2, e0, iv⟩
  refine jx_istore dL_law_2057 (by decide) ?_
  refine jx_aload_n dL_law_2059 rfl ?_
  refine jx_Vi (as := []) dL_law_2060 mlL_120 okX11_thrown viX11_thrown rfl rfl rfl rfl rfl (by decide) (Nat.le_of_ble_eq_true rfl) (tX11_thrown hW) ?_
  refine jx_iload dL_law_2063 rfl ?_
  refine jx_icmp_eq 2070 dL_law_2065 (by decide) (fun _ => ?_) (fun ne => absurd e2 ne)
  refine jx_iload dL_law_2070 rfl ?_
  have fin : ∀ {kc' ks' : Nat} {ls : List (Nat × Value)}, kc ≤ kc' → ks ≤ ks' → jls ls (lL i) → jWP w l mL_law 60 kc' ks' lQ lX 2087 ls [] (n', shE, K, M, R') := fun h5 h6 h7 => jx_goto 2366 dL_law_2087 (by decide) (jWP_mono h5 h6 (jx_ls h7 (hk _ _ _ _ iv)))
  refine jx_if_ne 2087 dL_law_2072 (by decide) (fun _ => fin (by omega) (by omega) (by exact ⟨rfl, rfl, rfl, rfl, rfl, trivial⟩)) (fun ec => ?_)
  refine jx_aload_n dL_law_2075 rfl ?_
  refine jx_iconst (v := nI 0) dL_law_2076 rfl ?_
  refine jx_laldE 0 dL_law_2077 rfl rfl (by decide) (by decide) (e0 ec) ?_
  refine jx_iload dL_law_2078 rfl ?_
  refine jx_i2l dL_law_2080 ?_
  refine jx_lcmp dL_law_2081 ?_
  exact jx_if_eq 2087 dL_law_2082 (by decide) (fun _ => fin (by omega) (by omega) (by exact ⟨rfl, rfl, rfl, rfl, rfl, trivial⟩)) (fun ne => absurd (cmp_s _) ne)
set_option maxHeartbeats 1000000 in
theorem cL_case30 (hW : jWok w l) (hNc : va_Nc eI eN w.1) (hX : jScr w Lq xs) (hL : Lq ≤ 3072) (hi : i + 6 ≤ Lq) (hV : INV I L R) (hk : lK w l kc ks i) : jWP w l mL_law 60 (kc + 1) (ks + 6) lQ lX 2090 (lL i) [] (n, shE, I, L, R) := by
  obtain ⟨dL, dX, c, h1, h2, hC⟩ := kL_rents (n := n) hW hV (xs (i + 1)) (xs (i + 2)) (xs (i + 3))
  refine jx_aload_n dL_law_2090 rfl ?_
  refine jx_aload_n dL_law_2091 rfl ?_
  refine jx_iload dL_law_2092 rfl ?_
  refine jx_iconst (v := nI 1) dL_law_2094 rfl ?_
  refine jx_iaddE dL_law_2095 (nI_p i 1) ?_
  refine jx_sld (i + 1) hX dL_law_2096 rfl (by omega) (by omega) ?_
  refine jx_aload_n dL_law_2097 rfl ?_
  refine jx_iload dL_law_2098 rfl ?_
  refine jx_iconst (v := nI 2) dL_law_2100 rfl ?_
  refine jx_iaddE dL_law_2101 (nI_p i 2) ?_
  refine jx_sld (i + 2) hX dL_law_2102 rfl (by omega) (by omega) ?_
  refine jx_aload_n dL_law_2103 rfl ?_
  refine jx_iload dL_law_2104 rfl ?_
  refine jx_iconst (v := nI 3) dL_law_2106 rfl ?_
  refine jx_iaddE dL_law_2107 (nI_p i 3) ?_
  refine jx_sld (i + 3) hX dL_law_2108 rfl (by omega) (by omega) ?_
  refine jx_aload_n dL_law_2109 rfl ?_
  refine jx_invSW (as := [.ref 1000, .int (xs (i + 1)), .int (xs (i + 2)), .int (xs (i + 3)), .ref 1118]) dL_law_2110 mlL_217 owL_rents stL_rents rfl rfl (by omega) (by omega) (by omega) (Nat.le_of_ble_eq_true rfl) hC ?_ (fun _ _ h => h.elim)
  rintro v t ⟨rfl, n', J, M, R', hn, rfl, hX2⟩
  refine jx_istore dL_law_2113 (by decide) ?_
  refine jx_aload_n dL_law_2115 rfl ?_
  refine jx_aload_n dL_law_2116 rfl ?_
  refine jx_iload dL_law_2117 rfl ?_
  refine jx_iconst (v := nI 1) dL_law_2119 rfl ?_
  refine jx_iaddE dL_law_2120 (nI_p i 1) ?_
  refine jx_sld (i + 1) hX dL_law_2121 rfl (by omega) (by omega) ?_
  refine jx_aload_n dL_law_2122 rfl ?_
  refine jx_iload dL_law_2123 rfl ?_
  refine jx_iconst (v := nI 2) dL_law_2125 rfl ?_
  refine jx_iaddE dL_law_2126 (nI_p i 2) ?_
  refine jx_sld (i + 2) hX dL_law_2127 rfl (by omega) (by omega) ?_
  refine jx_aload_n dL_law_2128 rfl ?_
  refine jx_iload dL_law_2129 rfl ?_
  refine jx_iconst (v := nI 3) dL_law_2131 rfl ?_
  refine jx_iaddE dL_law_2132 (nI_p i 3) ?_
  refine jx_sld (i + 3) hX dL_law_2133 rfl (by omega) (by omega) ?_
  refine jx_invV (as := [.int (xs (i + 1)), .int (xs (i + 2)), .int (xs (i + 3))]) dL_law_2134 mlL_219 okX11_rents viX11_rents rfl rfl rfl rfl rfl (by omega) (Nat.zero_le _) (Nat.zero_le _) (Nat.le_of_ble_eq_true rfl) hX2 ?_ (fun _ _ h => h.elim)
  rintro v t ⟨r, rfl, K, rfl, e2, e0, iv⟩
  refine jx_istore dL_law_2137 (by decide) ?_
  refine jx_aload_n dL_law_2139 rfl ?_
  refine jx_Vi (as := []) dL_law_2140 mlL_120 okX11_thrown viX11_thrown rfl rfl rfl rfl rfl (by decide) (Nat.le_of_ble_eq_true rfl) (tX11_thrown hW) ?_
  refine jx_iload dL_law_2143 rfl ?_
  refine jx_icmp_eq 2150 dL_law_2145 (by decide) (fun _ => ?_) (fun ne => absurd e2 ne)
  refine jx_iload dL_law_2150 rfl ?_
  have fin : ∀ {kc' ks' : Nat} {ls : List (Nat × Value)}, kc ≤ kc' → ks ≤ ks' → jls ls (lL i) → jWP w l mL_law 60 kc' ks' lQ lX 2167 ls [] (n', shE, K, M, R') := fun h5 h6 h7 => jx_goto 2366 dL_law_2167 (by decide) (jWP_mono h5 h6 (jx_ls h7 (hk _ _ _ _ iv)))
  refine jx_if_ne 2167 dL_law_2152 (by decide) (fun _ => fin (by omega) (by omega) (by exact ⟨rfl, rfl, rfl, rfl, rfl, trivial⟩)) (fun ec => ?_)
  refine jx_aload_n dL_law_2155 rfl ?_
  refine jx_iconst (v := nI 0) dL_law_2156 rfl ?_
  refine jx_laldE 0 dL_law_2157 rfl rfl (by decide) (by decide) (e0 ec) ?_
  refine jx_iload dL_law_2158 rfl ?_
  refine jx_i2l dL_law_2160 ?_
  refine jx_lcmp dL_law_2161 ?_
  exact jx_if_eq 2167 dL_law_2162 (by decide) (fun _ => fin (by omega) (by omega) (by exact ⟨rfl, rfl, rfl, rfl, rfl, trivial⟩)) (fun ne => absurd (cmp_s _) ne)
set_option maxHeartbeats 1000000 in
theorem cL_case31 (hW : jWok w l) (hNc : va_Nc eI eN w.1) (hX : jScr w Lq xs) (hL : Lq ≤ 3072) (hi : i + 6 ≤ Lq) (hV : INV I L R) (hk : lK w l kc ks i) : jWP w l mL_law 60 (kc + 1) (ks + 6) lQ lX 2170 (lL i) [] (n, shE, I, L, R) := by
  obtain ⟨dL, dX, c, h1, h2, hC⟩ := kL_warning (n := n) hW hV (xs (i + 1)) (xs (i + 2)) (xs (i + 3))
  refine jx_aload_n dL_law_2170 rfl ?_
  refine jx_aload_n dL_law_2171 rfl ?_
  refine jx_iload dL_law_2172 rfl ?_
  refine jx_iconst (v := nI 1) dL_law_2174 rfl ?_
  refine jx_iaddE dL_law_2175 (nI_p i 1) ?_
  refine jx_sld (i + 1) hX dL_law_2176 rfl (by omega) (by omega) ?_
  refine jx_aload_n dL_law_2177 rfl ?_
  refine jx_iload dL_law_2178 rfl ?_
  refine jx_iconst (v := nI 2) dL_law_2180 rfl ?_
  refine jx_iaddE dL_law_2181 (nI_p i 2) ?_
  refine jx_sld (i + 2) hX dL_law_2182 rfl (by omega) (by omega) ?_
  refine jx_aload_n dL_law_2183 rfl ?_
  refine jx_iload dL_law_2184 rfl ?_
  refine jx_iconst (v := nI 3) dL_law_2186 rfl ?_
  refine jx_iaddE dL_law_2187 (nI_p i 3) ?_
  refine jx_sld (i + 3) hX dL_law_2188 rfl (by omega) (by omega) ?_
  refine jx_aload_n dL_law_2189 rfl ?_
  refine jx_invSW (as := [.ref 1000, .int (xs (i + 1)), .int (xs (i + 2)), .int (xs (i + 3)), .ref 1118]) dL_law_2190 mlL_220 owL_warning stL_warning rfl rfl (by omega) (by omega) (by omega) (Nat.le_of_ble_eq_true rfl) hC ?_ (fun _ _ h => h.elim)
  rintro v t ⟨rfl, n', J, M, R', hn, rfl, hX2⟩
  refine jx_istore dL_law_2193 (by decide) ?_
  refine jx_aload_n dL_law_2195 rfl ?_
  refine jx_aload_n dL_law_2196 rfl ?_
  refine jx_iload dL_law_2197 rfl ?_
  refine jx_iconst (v := nI 1) dL_law_2199 rfl ?_
  refine jx_iaddE dL_law_2200 (nI_p i 1) ?_
  refine jx_sld (i + 1) hX dL_law_2201 rfl (by omega) (by omega) ?_
  refine jx_aload_n dL_law_2202 rfl ?_
  refine jx_iload dL_law_2203 rfl ?_
  refine jx_iconst (v := nI 2) dL_law_2205 rfl ?_
  refine jx_iaddE dL_law_2206 (nI_p i 2) ?_
  refine jx_sld (i + 2) hX dL_law_2207 rfl (by omega) (by omega) ?_
  refine jx_aload_n dL_law_2208 rfl ?_
  refine jx_iload dL_law_2209 rfl ?_
  refine jx_iconst (v := nI 3) dL_law_2211 rfl ?_
  refine jx_iaddE dL_law_2212 (nI_p i 3) ?_
  refine jx_sld (i + 3) hX dL_law_2213 rfl (by omega) (by omega) ?_
  refine jx_invV (as := [.int (xs (i + 1)), .int (xs (i + 2)), .int (xs (i + 3))]) dL_law_2214 mlL_222 okX11_warning viX11_warning rfl rfl rfl rfl rfl (by omega) (Nat.zero_le _) (Nat.zero_le _) (Nat.le_of_ble_eq_true rfl) hX2 ?_ (fun _ _ h => h.elim)
  rintro v t ⟨r, rfl, K, rfl, e2, e0, iv⟩
  refine jx_istore dL_law_2217 (by decide) ?_
  refine jx_aload_n dL_law_2219 rfl ?_
  refine jx_Vi (as := []) dL_law_2220 mlL_120 okX11_thrown viX11_thrown rfl rfl rfl rfl rfl (by decide) (Nat.le_of_ble_eq_true rfl) (tX11_thrown hW) ?_
  refine jx_iload dL_law_2223 rfl ?_
  refine jx_icmp_eq 2230 dL_law_2225 (by decide) (fun _ => ?_) (fun ne => absurd e2 ne)
  refine jx_iload dL_law_2230 rfl ?_
  have fin : ∀ {kc' ks' : Nat} {ls : List (Nat × Value)}, kc ≤ kc' → ks ≤ ks' → jls ls (lL i) → jWP w l mL_law 60 kc' ks' lQ lX 2247 ls [] (n', shE, K, M, R') := fun h5 h6 h7 => jx_goto 2366 dL_law_2247 (by decide) (jWP_mono h5 h6 (jx_ls h7 (hk _ _ _ _ iv)))
  refine jx_if_ne 2247 dL_law_2232 (by decide) (fun _ => fin (by omega) (by omega) (by exact ⟨rfl, rfl, rfl, rfl, rfl, trivial⟩)) (fun ec => ?_)
  refine jx_aload_n dL_law_2235 rfl ?_
  refine jx_iconst (v := nI 0) dL_law_2236 rfl ?_
  refine jx_laldE 0 dL_law_2237 rfl rfl (by decide) (by decide) (e0 ec) ?_
  refine jx_iload dL_law_2238 rfl ?_
  refine jx_i2l dL_law_2240 ?_
  refine jx_lcmp dL_law_2241 ?_
  exact jx_if_eq 2247 dL_law_2242 (by decide) (fun _ => fin (by omega) (by omega) (by exact ⟨rfl, rfl, rfl, rfl, rfl, trivial⟩)) (fun ne => absurd (cmp_s _) ne)
set_option maxHeartbeats 1000000 in
theorem cL_case32 (hW : jWok w l) (hNc : va_Nc eI eN w.1) (hX : jScr w Lq xs) (hL : Lq ≤ 3072) (hi : i + 6 ≤ Lq) (hV : INV I L R) (hk : lK w l kc ks i) : jWP w l mL_law 60 (kc + 1) (ks + 6) lQ lX 2250 (lL i) [] (n, shE, I, L, R) := by
  obtain ⟨dL, dX, c, h1, h2, hC⟩ := kL_fogs (n := n) hW hNc hV (xs (i + 1)) (xs (i + 2)) (xs (i + 3)) (xs (i + 4))
  refine jx_aload_n dL_law_2250 rfl ?_
  refine jx_aload_n dL_law_2251 rfl ?_
  refine jx_iload dL_law_2252 rfl ?_
  refine jx_iconst (v := nI 1) dL_law_2254 rfl ?_
  refine jx_iaddE dL_law_2255 (nI_p i 1) ?_
  refine jx_sld (i + 1) hX dL_law_2256 rfl (by omega) (by omega) ?_
  refine jx_aload_n dL_law_2257 rfl ?_
  refine jx_iload dL_law_2258 rfl ?_
  refine jx_iconst (v := nI 2) dL_law_2260 rfl ?_
  refine jx_iaddE dL_law_2261 (nI_p i 2) ?_
  refine jx_sld (i + 2) hX dL_law_2262 rfl (by omega) (by omega) ?_
  refine jx_aload_n dL_law_2263 rfl ?_
  refine jx_iload dL_law_2264 rfl ?_
  refine jx_iconst (v := nI 3) dL_law_2266 rfl ?_
  refine jx_iaddE dL_law_2267 (nI_p i 3) ?_
  refine jx_sld (i + 3) hX dL_law_2268 rfl (by omega) (by omega) ?_
  refine jx_aload_n dL_law_2269 rfl ?_
  refine jx_iload dL_law_2270 rfl ?_
  refine jx_iconst (v := nI 4) dL_law_2272 rfl ?_
  refine jx_iaddE dL_law_2273 (nI_p i 4) ?_
  refine jx_sld (i + 4) hX dL_law_2274 rfl (by omega) (by omega) ?_
  refine jx_aload_n dL_law_2275 rfl ?_
  refine jx_invSW (as := [.ref 1000, .int (xs (i + 1)), .int (xs (i + 2)), .int (xs (i + 3)), .int (xs (i + 4)), .ref 1118]) dL_law_2276 mlL_223 owL_fogs stL_fogs rfl rfl (by omega) (by omega) (by omega) (Nat.le_of_ble_eq_true rfl) hC ?_ (fun _ _ h => h.elim)
  rintro v t ⟨rfl, n', J, M, R', hn, rfl, hX2⟩
  refine jx_istore dL_law_2279 (by decide) ?_
  refine jx_aload_n dL_law_2281 rfl ?_
  refine jx_aload_n dL_law_2282 rfl ?_
  refine jx_iload dL_law_2283 rfl ?_
  refine jx_iconst (v := nI 1) dL_law_2285 rfl ?_
  refine jx_iaddE dL_law_2286 (nI_p i 1) ?_
  refine jx_sld (i + 1) hX dL_law_2287 rfl (by omega) (by omega) ?_
  refine jx_aload_n dL_law_2288 rfl ?_
  refine jx_iload dL_law_2289 rfl ?_
  refine jx_iconst (v := nI 2) dL_law_2291 rfl ?_
  refine jx_iaddE dL_law_2292 (nI_p i 2) ?_
  refine jx_sld (i + 2) hX dL_law_2293 rfl (by omega) (by omega) ?_
  refine jx_aload_n dL_law_2294 rfl ?_
  refine jx_iload dL_law_2295 rfl ?_
  refine jx_iconst (v := nI 3) dL_law_2297 rfl ?_
  refine jx_iaddE dL_law_2298 (nI_p i 3) ?_
  refine jx_sld (i + 3) hX dL_law_2299 rfl (by omega) (by omega) ?_
  refine jx_aload_n dL_law_2300 rfl ?_
  refine jx_iload dL_law_2301 rfl ?_
  refine jx_iconst (v := nI 4) dL_law_2303 rfl ?_
  refine jx_iaddE dL_law_2304 (nI_p i 4) ?_
  refine jx_sld (i + 4) hX dL_law_2305 rfl (by omega) (by omega) ?_
  refine jx_invV (as := [.int (xs (i + 1)), .int (xs (i + 2)), .int (xs (i + 3)), .int (xs (i + 4))]) dL_law_2306 mlL_225 okX11_fogs viX11_fogs rfl rfl rfl rfl rfl (by omega) (Nat.zero_le _) (Nat.zero_le _) (Nat.le_of_ble_eq_true rfl) hX2 ?_ (fun _ _ h => h.elim)
  rintro v t ⟨r, rfl, K, rfl, e2, e0, iv⟩
  refine jx_istore dL_law_2309 (by decide) ?_
  refine jx_aload_n dL_law_2311 rfl ?_
  refine jx_Vi (as := []) dL_law_2312 mlL_120 okX11_thrown viX11_thrown rfl rfl rfl rfl rfl (by decide) (Nat.le_of_ble_eq_true rfl) (tX11_thrown hW) ?_
  refine jx_iload dL_law_2315 rfl ?_
  refine jx_icmp_eq 2322 dL_law_2317 (by decide) (fun _ => ?_) (fun ne => absurd e2 ne)
  refine jx_iload dL_law_2322 rfl ?_
  have fin : ∀ {kc' ks' : Nat} {ls : List (Nat × Value)}, kc ≤ kc' → ks ≤ ks' → jls ls (lL i) → jWP w l mL_law 60 kc' ks' lQ lX 2339 ls [] (n', shE, K, M, R') := fun h5 h6 h7 => jx_goto 2366 dL_law_2339 (by decide) (jWP_mono h5 h6 (jx_ls h7 (hk _ _ _ _ iv)))
  refine jx_if_ne 2339 dL_law_2324 (by decide) (fun _ => fin (by omega) (by omega) (by exact ⟨rfl, rfl, rfl, rfl, rfl, trivial⟩)) (fun ec => ?_)
  refine jx_aload_n dL_law_2327 rfl ?_
  refine jx_iconst (v := nI 0) dL_law_2328 rfl ?_
  refine jx_laldE 0 dL_law_2329 rfl rfl (by decide) (by decide) (e0 ec) ?_
  refine jx_iload dL_law_2330 rfl ?_
  refine jx_i2l dL_law_2332 ?_
  refine jx_lcmp dL_law_2333 ?_
  exact jx_if_eq 2339 dL_law_2334 (by decide) (fun _ => fin (by omega) (by omega) (by exact ⟨rfl, rfl, rfl, rfl, rfl, trivial⟩)) (fun ne => absurd (cmp_s _) ne)
set_option maxHeartbeats 1000000 in
theorem cL_case33 (hW : jWok w l) (hNc : va_Nc eI eN w.1) (hX : jScr w Lq xs) (hL : Lq ≤ 3072) (hi : i + 6 ≤ Lq) (hV : INV I L R) (hk : lK w l kc ks i) : jWP w l mL_law 60 (kc + 1) (ks + 6) lQ lX 2342 (lL i) [] (n, shE, I, L, R) := by
  obtain ⟨J, K, hC, hX2, iv⟩ := kD_image (n := n) hW hV
  refine jx_aload_n dL_law_2342 rfl ?_
  refine jx_Vv (as := []) dL_law_2343 mlL_226 okX10_image viX10_image rfl rfl rfl rfl rfl (by decide) (Nat.le_of_ble_eq_true rfl) hC ?_
  refine jx_aload_n dL_law_2346 rfl ?_
  refine jx_Vv (as := []) dL_law_2347 mlL_229 okX11_image viX11_image rfl rfl rfl rfl rfl (by decide) (Nat.le_of_ble_eq_true rfl) hX2 ?_
  refine jx_goto 2366 dL_law_2350 (by decide) ?_
  exact jWP_mono (by omega) (by omega) (hk _ _ _ _ iv)
set_option maxHeartbeats 1000000 in
theorem cL_case34 (hW : jWok w l) (hNc : va_Nc eI eN w.1) (hX : jScr w Lq xs) (hL : Lq ≤ 3072) (hi : i + 6 ≤ Lq) (hV : INV I L R) (hk : lK w l kc ks i) : jWP w l mL_law 60 (kc + 1) (ks + 6) lQ lX 2353 (lL i) [] (n, shE, I, L, R) := by
  obtain ⟨dN, dX, h1, h2, hC⟩ := kD_restore (n := n) hW hV 
  refine jx_aload_n dL_law_2353 rfl ?_
  refine jx_invV (as := []) dL_law_2354 mlL_230 okX10_restore viX10_restore rfl rfl rfl rfl rfl (by omega) (Nat.zero_le _) (Nat.zero_le _) (Nat.le_of_ble_eq_true rfl) hC ?_ (fun _ _ h => h.elim)
  rintro v t ⟨r, rfl, J, M, rfl, hX2⟩
  refine jx_aload_n dL_law_2357 rfl ?_
  refine jx_invV (as := []) dL_law_2358 mlL_234 okX11_restore viX11_restore rfl rfl rfl rfl rfl (by omega) (Nat.zero_le _) (Nat.zero_le _) (Nat.le_of_ble_eq_true rfl) hX2 ?_ (fun _ _ h => h.elim)
  rintro v t ⟨r', rfl, rfl, K, rfl, iv⟩
  exact jx_icmp_eq 2366 dL_law_2361 (by decide) (fun _ => jWP_mono (by omega) (by omega) (hk _ _ _ _ iv)) (fun ne => absurd rfl ne)
end LC
