/-! THE CLASS: more lines -/
section CZ5
variable {w : jWD} {l : Launch} {n : Nat} {I J : Nat → Nat → Int32} {L M : Nat → Nat → Int64} {R : Nat → Nat → Option Nat} {sz : Nat} {tp : Nat → Nat} {x : Nat × Nat × Nat} {T : Nat → Nat → Int32} {h W H np len s : Nat}

theorem CTl_mx {a : Int32} (hh : h = 1008 ∨ h = 1024) (hC : CTl I L h T W H) : CTl (upI I (h + 1) 9 a) L h (upI T 1072 5 a) W H := by
  obtain ⟨e1, e2, e3, e4, e5, e6, e7, e8, e9, e10, e11⟩ := hC
  rcases hh with rfl | rfl
  all_goals
    refine ⟨e1, e2, e3, e4, e5, ⟨upI_s.trans upI_s.symm, e6.2⟩, e7, e8, ⟨e9.1, fun p k hp hk => ?_⟩, e10, fun f hf => ?_⟩
    · have hk2 : 1076 + k ≠ 1072 := by omega
      rw [upI_nea (by omega), upI_nea hk2]; exact e9.2 p k hp hk
    · rw [upI_nea (by decide), upI_j (by omega)]; exact e11 f hf
theorem CTl_my {a : Int32} (hh : h = 1008 ∨ h = 1024) (hC : CTl I L h T W H) : CTl (upI I (h + 1) 10 a) L h (upI T 1072 6 a) W H := by
  obtain ⟨e1, e2, e3, e4, e5, e6, e7, e8, e9, e10, e11⟩ := hC
  rcases hh with rfl | rfl
  all_goals
    refine ⟨e1, e2, e3, e4, e5, ⟨e6.1, upI_s.trans upI_s.symm⟩, e7, e8, ⟨e9.1, fun p k hp hk => ?_⟩, e10, fun f hf => ?_⟩
    · have hk2 : 1076 + k ≠ 1072 := by omega
      rw [upI_nea (by omega), upI_nea hk2]; exact e9.2 p k hp hk
    · rw [upI_nea (by decide), upI_j (by omega)]; exact e11 f hf
theorem CTl_wi {a : Int32} (hh : h = 1008 ∨ h = 1024) (hC : CTl I L h T W H) : CTl (upI I h 5 a) L h (upI T 1072 7 a) W H := by
  obtain ⟨e1, e2, e3, e4, e5, e6, e7, e8, e9, e10, e11⟩ := hC
  rcases hh with rfl | rfl
  all_goals
    refine ⟨e1, e2, e3, e4, e5, e6, e7, e8, ⟨e9.1, fun p k hp hk => ?_⟩, ⟨e10.1, upI_s.trans upI_s.symm, e10.2.2⟩, fun f hf => ?_⟩
    · have hk2 : 1076 + k ≠ 1072 := by omega
      rw [upI_nea (by omega), upI_nea hk2]; exact e9.2 p k hp hk
    · rw [upI_nea (by decide), upI_j (by omega)]; exact e11 f hf
theorem CTl_eb {a : Int32} (hh : h = 1008 ∨ h = 1024) (hC : CTl I L h T W H) : CTl (upI I h 6 a) L h (upI T 1072 8 a) W H := by
  obtain ⟨e1, e2, e3, e4, e5, e6, e7, e8, e9, e10, e11⟩ := hC
  rcases hh with rfl | rfl
  all_goals
    refine ⟨e1, e2, e3, e4, e5, e6, e7, e8, ⟨e9.1, fun p k hp hk => ?_⟩, ⟨e10.1, e10.2.1, upI_s.trans upI_s.symm, e10.2.2.2⟩, fun f hf => ?_⟩
    · have hk2 : 1076 + k ≠ 1072 := by omega
      rw [upI_nea (by omega), upI_nea hk2]; exact e9.2 p k hp hk
    · rw [upI_nea (by decide), upI_j (by omega)]; exact e11 f hf
theorem CTl_wa {a : Int32} (hh : h = 1008 ∨ h = 1024) (hC : CTl I L h T W H) : CTl (upI I h 7 a) L h (upI T 1072 9 a) W H := by
  obtain ⟨e1, e2, e3, e4, e5, e6, e7, e8, e9, e10, e11⟩ := hC
  rcases hh with rfl | rfl
  all_goals
    refine ⟨e1, e2, e3, e4, e5, e6, e7, e8, ⟨e9.1, fun p k hp hk => ?_⟩, ⟨e10.1, e10.2.1, e10.2.2.1, upI_s.trans upI_s.symm⟩, fun f hf => ?_⟩
    · have hk2 : 1076 + k ≠ 1072 := by omega
      rw [upI_nea (by omega), upI_nea hk2]; exact e9.2 p k hp hk
    · rw [upI_nea (by decide), upI_j (by omega)]; exact e11 f hf
theorem CTl_fg {k : Nat} {a : Int32} (hh : h = 1008 ∨ h = 1024) (hC : CTl I L h T W H) (hk : k < 4) : CTl (upI I (h + 9) k a) L h (upI T 1072 (12 + k) a) W H := by
  obtain ⟨e1, e2, e3, e4, e5, e6, e7, e8, e9, e10, e11⟩ := hC
  have hk4 : k = 0 ∨ k = 1 ∨ k = 2 ∨ k = 3 := by omega
  rcases hh with rfl | rfl
  all_goals
    rcases hk4 with rfl | rfl | rfl | rfl
    all_goals
      refine ⟨e1, e2, e3, e4, e5, e6, e7, e8, ⟨e9.1, fun p k hp hk => ?_⟩, e10, fun f hf => ?_⟩
      · have hk2 : 1076 + k ≠ 1072 := by omega
        rw [upI_nea (by omega), upI_nea hk2]; exact e9.2 p k hp hk
      · have hf4 : f = 0 ∨ f = 1 ∨ f = 2 ∨ f = 3 := by omega
        rcases hf4 with rfl | rfl | rfl | rfl
        all_goals first | exact upI_s.trans upI_s.symm | exact e11 _ (by decide)
set_option maxHeartbeats 1000000 in
set_option maxRecDepth 20000 in
theorem tX5_readMoves (hW : jWok w l) (hR : RS R) (hS : LnS R sz tp h W H np len I L x T s) : jRi w l mX5_readMoves 4 [.ref 1004] (n, shE, I, L, R) (LnQ n R sz tp h W H I L ((pNu tp sz 0 2 (pSg1 tp sz (pNu tp sz 0 2 (pSg1 tp sz x))), upI (upI T 1072 5 (vSg tp sz 2 x)) 1072 6 (vSg tp sz 2 (pNu tp sz 0 2 (pSg1 tp sz x))))) s) := by
  refine jRi_of hW (by decide) rfl (Nat.le_of_ble_eq_true rfl) ?_
  obtain ⟨hh, hRt, hx, h0, hC, hs, hB⟩ := hS
  obtain ⟨dW, dH, hWb, hHb, hWH, dnp, hnp⟩ := BT_d hB
  rcases hh with rfl | rfl
  all_goals
    refine jx_aload_n dX5_readMoves_0 rfl ?_
    refine jx_VRi (as := []) dX5_readMoves_1 mlX5_232 okX5_takeSigned viX5_takeSigned rfl rfl rfl rfl rfl (by decide) (Nat.le_of_ble_eq_true rfl) (tX5_takeSigned hW hR hx h0) (fun x1 t1 hq1 => ?_)
    obtain ⟨J1, rfl, fJ1, gJ1, vJ1, rfl⟩ := hq1
    refine jx_ifB_ne 9 dX5_readMoves_4 (by decide) (fun h4 => ?_) (fun h4 => ?_)
    · have hz1 := of_decide_eq_true h4
      refine jx_aload_n dX5_readMoves_9 rfl ?_
      refine jx_getR dX5_readMoves_10 flX5_33 rfl rfl (by first | exact hRt | exact hR _ _ _ rfl) ?_
      refine jx_getR dX5_readMoves_13 flX5_69 rfl rfl (by first | exact hRt | exact hR _ _ _ rfl) ?_
      refine jx_aload_n dX5_readMoves_16 rfl ?_
      refine jx_getIE dX5_readMoves_17 flX5_87 rfl rfl (vJ1 hz1) ?_
      refine jx_putI dX5_readMoves_20 flX5_235 rfl rfl (fun r h => by cases h; rfl) ?_
      have g2 := fun (a : Nat) (ha : a ≠ 1005 ∧ a ≠ 1001) => C3.f (J := upI J1 a 9 (vSg tp sz 2 x)) gJ1 (fun _ => upI_nea ha.1.symm) (fun _ => upI_nea ha.2.symm)
      have c2 := CTl_mx (a := vSg tp sz 2 x) (by decide) (hC.r (by decide) fJ1 (by omega))
      refine jx_aload_n dX5_readMoves_23 rfl ?_
      refine jx_VRi (as := []) dX5_readMoves_24 mlX5_232 okX5_takeSigned viX5_takeSigned rfl rfl rfl rfl rfl (by decide) (Nat.le_of_ble_eq_true rfl) (tX5_takeSigned hW hR (g2 _ (by decide)) hz1) (fun x24 t24 hq24 => ?_)
      obtain ⟨J2, rfl, fJ2, gJ2, vJ2, rfl⟩ := hq24
      refine jx_ifB_ne 32 dX5_readMoves_27 (by decide) (fun h27 => ?_) (fun h27 => ?_)
      · have hz2 := of_decide_eq_true h27
        refine jx_aload_n dX5_readMoves_32 rfl ?_
        refine jx_getR dX5_readMoves_33 flX5_33 rfl rfl (by first | exact hRt | exact hR _ _ _ rfl) ?_
        refine jx_getR dX5_readMoves_36 flX5_69 rfl rfl (by first | exact hRt | exact hR _ _ _ rfl) ?_
        refine jx_aload_n dX5_readMoves_39 rfl ?_
        refine jx_getIE dX5_readMoves_40 flX5_87 rfl rfl (vJ2 hz2) ?_
        refine jx_putI dX5_readMoves_43 flX5_238 rfl rfl (fun r h => by cases h; rfl) ?_
        refine jx_iconst (v := 1) dX5_readMoves_46 (by decide) ?_
        refine jx_zret dX5_readMoves_47 rfl ?_ ?_
        · first | exact Or.inl rfl | exact Or.inr rfl | exact jb_or _
        exact ⟨_, rfl, LnQ_g rfl hz2 (eqG_u (eqG_t (eqG_u (eqR_G fJ1) (gF_h (by decide) (by decide))) (eqR_G fJ2)) (gF_h (by decide) (by decide))) (eqGL_r _ L) (C3.f gJ2 (fun _ => rfl) (fun _ => rfl)) (CTl_my (by decide) (c2.r (by decide) fJ2 (by rw [upI_j (by decide)]; omega))) ((fJ2 1004 3 (by decide)).trans ((fJ1 1004 3 (by decide)).trans hs))⟩
      · have hz2 := of_decide_eq_false h27
        refine jx_iconst (v := 0) dX5_readMoves_30 (by decide) ?_
        refine jx_zret dX5_readMoves_31 rfl ?_ ?_
        · first | exact Or.inl rfl | exact Or.inr rfl | exact jb_or _
        exact ⟨_, rfl, LnQ_b rfl hz2 (eqG_t (eqG_u (eqR_G fJ1) (gF_h (by decide) (by decide))) (eqR_G fJ2)) (eqGL_r _ L) gJ2⟩
    · have hz1 := of_decide_eq_false h4
      have hy : pNu tp sz 0 2 (pSg1 tp sz (pNu tp sz 0 2 (pSg1 tp sz x))) = pNu tp sz 0 2 (pSg1 tp sz x) := by rw [pSg1_b hz1, pNu_b hz1]
      refine jx_iconst (v := 0) dX5_readMoves_7 (by decide) ?_
      refine jx_zret dX5_readMoves_8 rfl ?_ ?_
      · first | exact Or.inl rfl | exact Or.inr rfl | exact jb_or _
      exact ⟨_, rfl, LnQ_b (X := pNu tp sz 0 2 (pSg1 tp sz x)) (by rw [hy]) hz1 (eqR_G fJ1) (eqGL_r _ L) gJ1⟩
set_option maxHeartbeats 1000000 in
set_option maxRecDepth 20000 in
theorem tX5_readWind (hW : jWok w l) (hR : RS R) (hS : LnS R sz tp h W H np len I L x T s) : jRi w l mX5_readWind 4 [.ref 1004] (n, shE, I, L, R) (LnQ n R sz tp h W H I L ((pNu tp sz 0 9 x, upI T 1072 7 (nI (vNu tp sz 0 9 x)))) s) := by
  refine jRi_of hW (by decide) rfl (Nat.le_of_ble_eq_true rfl) ?_
  obtain ⟨hh, hRt, hx, h0, hC, hs, hB⟩ := hS
  obtain ⟨dW, dH, hWb, hHb, hWH, dnp, hnp⟩ := BT_d hB
  rcases hh with rfl | rfl
  all_goals
    refine jx_aload_n dX5_readWind_0 rfl ?_
    refine jx_iconst (v := 0) dX5_readWind_1 (by decide) ?_
    refine jx_bipush (v := 9) dX5_readWind_2 (by decide) ?_
    refine jx_VRi (as := [.int _, .int _]) dX5_readWind_4 mlX5_83 okX5_takeNumber viX5_takeNumber rfl rfl rfl rfl rfl (by decide) (Nat.le_of_ble_eq_true rfl) (tX5_takeNumber (lo := 0) (hi := 9) hW hR hx h0 (by decide) (by decide)) (fun x4 t4 hq4 => ?_)
    obtain ⟨J1, rfl, fJ1, gJ1, vJ1, rfl⟩ := hq4
    refine jx_istore_n dX5_readWind_7 rfl (by decide) ?_
    refine jx_aload_n dX5_readWind_8 rfl ?_
    refine jx_getR dX5_readWind_9 flX5_33 rfl rfl (by first | exact hRt | exact hR _ _ _ rfl) ?_
    refine jx_aload_n dX5_readWind_12 rfl ?_
    refine jx_getI dX5_readWind_13 flX5_87 rfl rfl ?_
    refine jx_putI dX5_readWind_16 flX5_241 rfl rfl (fun r h => by cases h; rfl) ?_
    refine jx_iload_n dX5_readWind_19 rfl ?_
    refine jx_zret dX5_readWind_20 rfl ?_ ?_
    · first | exact Or.inl rfl | exact Or.inr rfl | exact jb_or _
    refine ⟨_, rfl, ?_⟩
    by_cases hz : (pNu tp sz 0 9 x).2.1 = 0
    · rw [decide_eq_true hz]
      refine LnQ_g rfl hz (eqG_u (eqR_G fJ1) (gF_h (by decide) (by decide))) (eqGL_r _ L) (C3.f gJ1 (fun _ => rfl) (fun _ => rfl)) ?_ ((fJ1 1004 3 (by decide)).trans hs)
      rw [vJ1 hz]
      exact CTl_wi (by decide) (hC.r (by decide) fJ1 (by omega))
    · rw [decide_eq_false hz]
      exact LnQ_b rfl hz (eqG_u (eqR_G fJ1) (gF_h (by decide) (by decide))) (eqGL_r _ L) (C3.f gJ1 (fun _ => rfl) (fun _ => rfl))
set_option maxHeartbeats 1000000 in
set_option maxRecDepth 20000 in
theorem tX5_readEbb (hW : jWok w l) (hR : RS R) (hS : LnS R sz tp h W H np len I L x T s) : jRi w l mX5_readEbb 4 [.ref 1004] (n, shE, I, L, R) (LnQ n R sz tp h W H I L ((pNu tp sz 1 6 x, upI T 1072 8 (nI (vNu tp sz 1 6 x)))) s) := by
  refine jRi_of hW (by decide) rfl (Nat.le_of_ble_eq_true rfl) ?_
  obtain ⟨hh, hRt, hx, h0, hC, hs, hB⟩ := hS
  obtain ⟨dW, dH, hWb, hHb, hWH, dnp, hnp⟩ := BT_d hB
  rcases hh with rfl | rfl
  all_goals
    refine jx_aload_n dX5_readEbb_0 rfl ?_
    refine jx_iconst (v := 1) dX5_readEbb_1 (by decide) ?_
    refine jx_bipush (v := 6) dX5_readEbb_2 (by decide) ?_
    refine jx_VRi (as := [.int _, .int _]) dX5_readEbb_4 mlX5_83 okX5_takeNumber viX5_takeNumber rfl rfl rfl rfl rfl (by decide) (Nat.le_of_ble_eq_true rfl) (tX5_takeNumber (lo := 1) (hi := 6) hW hR hx h0 (by decide) (by decide)) (fun x4 t4 hq4 => ?_)
    obtain ⟨J1, rfl, fJ1, gJ1, vJ1, rfl⟩ := hq4
    refine jx_istore_n dX5_readEbb_7 rfl (by decide) ?_
    refine jx_aload_n dX5_readEbb_8 rfl ?_
    refine jx_getR dX5_readEbb_9 flX5_33 rfl rfl (by first | exact hRt | exact hR _ _ _ rfl) ?_
    refine jx_aload_n dX5_readEbb_12 rfl ?_
    refine jx_getI dX5_readEbb_13 flX5_87 rfl rfl ?_
    refine jx_putI dX5_readEbb_16 flX5_243 rfl rfl (fun r h => by cases h; rfl) ?_
    refine jx_iload_n dX5_readEbb_19 rfl ?_
    refine jx_zret dX5_readEbb_20 rfl ?_ ?_
    · first | exact Or.inl rfl | exact Or.inr rfl | exact jb_or _
    refine ⟨_, rfl, ?_⟩
    by_cases hz : (pNu tp sz 1 6 x).2.1 = 0
    · rw [decide_eq_true hz]
      refine LnQ_g rfl hz (eqG_u (eqR_G fJ1) (gF_h (by decide) (by decide))) (eqGL_r _ L) (C3.f gJ1 (fun _ => rfl) (fun _ => rfl)) ?_ ((fJ1 1004 3 (by decide)).trans hs)
      rw [vJ1 hz]
      exact CTl_eb (by decide) (hC.r (by decide) fJ1 (by omega))
    · rw [decide_eq_false hz]
      exact LnQ_b rfl hz (eqG_u (eqR_G fJ1) (gF_h (by decide) (by decide))) (eqGL_r _ L) (C3.f gJ1 (fun _ => rfl) (fun _ => rfl))
set_option maxHeartbeats 1000000 in
set_option maxRecDepth 20000 in
theorem tX5_readWait (hW : jWok w l) (hR : RS R) (hS : LnS R sz tp h W H np len I L x T s) : jRi w l mX5_readWait 4 [.ref 1004] (n, shE, I, L, R) (LnQ n R sz tp h W H I L ((pNu tp sz 0 20 x, upI T 1072 9 (nI (vNu tp sz 0 20 x)))) s) := by
  refine jRi_of hW (by decide) rfl (Nat.le_of_ble_eq_true rfl) ?_
  obtain ⟨hh, hRt, hx, h0, hC, hs, hB⟩ := hS
  obtain ⟨dW, dH, hWb, hHb, hWH, dnp, hnp⟩ := BT_d hB
  rcases hh with rfl | rfl
  all_goals
    refine jx_aload_n dX5_readWait_0 rfl ?_
    refine jx_iconst (v := 0) dX5_readWait_1 (by decide) ?_
    refine jx_bipush (v := 20) dX5_readWait_2 (by decide) ?_
    refine jx_VRi (as := [.int _, .int _]) dX5_readWait_4 mlX5_83 okX5_takeNumber viX5_takeNumber rfl rfl rfl rfl rfl (by decide) (Nat.le_of_ble_eq_true rfl) (tX5_takeNumber (lo := 0) (hi := 20) hW hR hx h0 (by decide) (by decide)) (fun x4 t4 hq4 => ?_)
    obtain ⟨J1, rfl, fJ1, gJ1, vJ1, rfl⟩ := hq4
    refine jx_istore_n dX5_readWait_7 rfl (by decide) ?_
    refine jx_aload_n dX5_readWait_8 rfl ?_
    refine jx_getR dX5_readWait_9 flX5_33 rfl rfl (by first | exact hRt | exact hR _ _ _ rfl) ?_
    refine jx_aload_n dX5_readWait_12 rfl ?_
    refine jx_getI dX5_readWait_13 flX5_87 rfl rfl ?_
    refine jx_putI dX5_readWait_16 flX5_245 rfl rfl (fun r h => by cases h; rfl) ?_
    refine jx_iload_n dX5_readWait_19 rfl ?_
    refine jx_zret dX5_readWait_20 rfl ?_ ?_
    · first | exact Or.inl rfl | exact Or.inr rfl | exact jb_or _
    refine ⟨_, rfl, ?_⟩
    by_cases hz : (pNu tp sz 0 20 x).2.1 = 0
    · rw [decide_eq_true hz]
      refine LnQ_g rfl hz (eqG_u (eqR_G fJ1) (gF_h (by decide) (by decide))) (eqGL_r _ L) (C3.f gJ1 (fun _ => rfl) (fun _ => rfl)) ?_ ((fJ1 1004 3 (by decide)).trans hs)
      rw [vJ1 hz]
      exact CTl_wa (by decide) (hC.r (by decide) fJ1 (by omega))
    · rw [decide_eq_false hz]
      exact LnQ_b rfl hz (eqG_u (eqR_G fJ1) (gF_h (by decide) (by decide))) (eqGL_r _ L) (C3.f gJ1 (fun _ => rfl) (fun _ => rfl))
set_option maxHeartbeats 1000000 in
set_option maxRecDepth 20000 in
theorem tX5_isParty (hW : jWok w l) (hR : RS R) (hx : C3 I sz tp x) (h0 : x.2.1 = 0) {h np : Nat} (hh : h = 1008 ∨ h = 1024) (hRt : R 1004 2 = some h) (hn : I h 3 = nI np) (hnp : np ≤ 6) : jRi w l mX5_isParty 3 [.ref 1004] (n, shE, I, L, R) (fun r t => ∃ J, t = (n, shE, J, L, R) ∧ eqR I J ∧ C3 J sz tp (pPt tp sz np x) ∧ ((pPt tp sz np x).2.1 = 0 → J 1005 5 = nI (vPt tp sz np x) ∧ vPt tp sz np x < np) ∧ r = jb (decide ((pPt tp sz np x).2.1 = 0))) := by
  refine jRi_of hW (by decide) rfl (Nat.le_of_ble_eq_true rfl) ?_
  have hv : vNu tp sz 0 9999 x ≤ 9999 := vNu_le
  rcases hh with rfl | rfl
  all_goals
    refine jx_aload_n dX5_isParty_0 rfl ?_
    refine jx_getR dX5_isParty_1 flX5_14 rfl rfl (by first | exact hRt | exact hR _ _ _ rfl) ?_
    refine jx_iconst (v := 0) dX5_isParty_4 (by decide) ?_
    refine jx_sipush (v := 9999) dX5_isParty_5 (by decide) ?_
    refine jx_VRi (as := [.int _, .int _]) dX5_isParty_8 mlX5_177 okX9_isNumber viX9_isNumber rfl rfl rfl rfl rfl (by decide) (Nat.le_of_ble_eq_true rfl) (tX9_isNumber_x (lo := 0) (hi := 9999) hW hR hx h0 (by decide) (by decide)) (fun x8 t8 hq8 => ?_)
    obtain ⟨J1, rfl, fJ1, gJ1, vJ1, rfl⟩ := hq8
    refine jx_ifB_ne 16 dX5_isParty_11 (by decide) (fun h11 => ?_) (fun h11 => ?_)
    · have hz := of_decide_eq_true h11
      refine jx_aload_n dX5_isParty_16 rfl ?_
      refine jx_getR dX5_isParty_17 flX5_14 rfl rfl (by first | exact hRt | exact hR _ _ _ rfl) ?_
      refine jx_getIE dX5_isParty_20 flX5_180 rfl rfl (vJ1 hz) ?_
      refine jx_aload_n dX5_isParty_23 rfl ?_
      refine jx_getR dX5_isParty_24 flX5_33 rfl rfl (by first | exact hRt | exact hR _ _ _ rfl) ?_
      refine jx_getIE dX5_isParty_27 flX5_247 rfl rfl ((fJ1 _ _ (by decide)).trans hn) ?_
      refine jx_icmpN_ge (a := (vNu tp sz 0 9999 x)) (b := np) 45 dX5_isParty_30 (by decide) (by omega) (by omega) (fun h30 => ?_) (fun h30 => ?_)
      · have hp : pPt tp sz np x = pWr 3 (pNw tp sz 0 9999 x) := by unfold pPt; rw [if_pos ⟨hz, h30⟩]
        refine jx_aload_n dX5_isParty_45 rfl ?_
        refine jx_getR dX5_isParty_46 flX5_14 rfl rfl (by first | exact hRt | exact hR _ _ _ rfl) ?_
        refine jx_iconst (v := 3) dX5_isParty_49 (by decide) ?_
        refine jx_VRi (as := [.int _]) dX5_isParty_50 mlX5_141 okX9_refuse viX9_refuse rfl rfl rfl rfl rfl (by decide) (Nat.le_of_ble_eq_true rfl) (tX9_refuse_x (k := 3) hW hR gJ1 hz (by decide)) (fun x50 t50 hq50 => ?_)
        obtain ⟨J2, rfl, fJ2, gJ2, rfl⟩ := hq50
        refine jx_zret dX5_isParty_53 rfl ?_ ?_
        · first | exact Or.inl rfl | exact Or.inr rfl | exact jb_or _
        rw [hp]
        have h3 : (pWr 3 (pNw tp sz 0 9999 x)).2.1 = 3 := by unfold pWr; rw [if_pos hz]
        exact ⟨_, rfl, J2, rfl, eqR_t fJ1 fJ2, gJ2, fun q => absurd q (by rw [h3]; decide), by rw [h3]; rfl⟩
      · have hp : pPt tp sz np x = pNw tp sz 0 9999 x := by unfold pPt; rw [if_neg (fun q => absurd q.2 (by omega))]
        refine jx_aload_n dX5_isParty_33 rfl ?_
        refine jx_getR dX5_isParty_34 flX5_14 rfl rfl (by first | exact hRt | exact hR _ _ _ rfl) ?_
        refine jx_getIE dX5_isParty_37 flX5_180 rfl rfl (vJ1 hz) ?_
        refine jx_bipush (v := 6) dX5_isParty_40 (by decide) ?_
        refine jx_icmpN_lt (a := (vNu tp sz 0 9999 x)) (b := 6) 54 dX5_isParty_42 (by decide) (by omega) (by omega) (fun h42 => ?_) (fun h42 => ?_)
        · refine jx_iconst (v := 1) dX5_isParty_54 (by decide) ?_
          refine jx_zret dX5_isParty_55 rfl ?_ ?_
          · first | exact Or.inl rfl | exact Or.inr rfl | exact jb_or _
          have hv2 : vPt tp sz np x = vNu tp sz 0 9999 x := by unfold vPt; rw [hp, if_pos hz]
          rw [hp, hv2]
          exact ⟨_, rfl, J1, rfl, fJ1, gJ1, fun q => ⟨vJ1 hz, by omega⟩, by rw [decide_eq_true hz]; rfl⟩
        · exact absurd h42 (by omega)
    · have hz := of_decide_eq_false h11
      have hp : pPt tp sz np x = pNw tp sz 0 9999 x := by unfold pPt; rw [if_neg (fun q => hz q.1)]
      refine jx_iconst (v := 0) dX5_isParty_14 (by decide) ?_
      refine jx_zret dX5_isParty_15 rfl ?_ ?_
      · first | exact Or.inl rfl | exact Or.inr rfl | exact jb_or _
      rw [hp]
      exact ⟨_, rfl, J1, rfl, fJ1, gJ1, fun q => absurd q hz, by rw [decide_eq_false hz]; rfl⟩
end CZ5
