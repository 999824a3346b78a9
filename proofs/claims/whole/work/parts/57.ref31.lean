/-! THE REFERENCE: cells, heights, things -/
/-- the island that is being told: in bounds, as RI says of one that is taken over -/
def BT (T : Nat → Nat → Int32) (W H np len : Nat) : Prop := RI T W H np len ∧ (∀ k, k = 2 ∨ k = 3 → T 1072 k = nI (cN (T 1072 k)) ∧ cN (T 1072 k) ≤ 12) ∧ (T 1072 11 = nI (cN (T 1072 11)) ∧ cN (T 1072 11) ≤ 6) ∧ ∀ c, c < 63 → T 1084 c = 0 ∨ T 1084 c = 1
theorem TL.g {I T : Nat → Nat → Int32} (h : TL I T) (a j : Nat) {k : Nat} (hj : tlR a j = true) (hk : offU a + j = k) : I a k = T a j := by rw [← hk]; exact h a j hj
theorem TL_uk {I T : Nat → Nat → Int32} (h : TL I T) (a j : Nat) {k : Nat} (v : Int32) (hk : offU a + j = k) : TL (upI I a k v) (upI T a j v) := by rw [← hk]; exact TL_u h a j v
section RE1
variable {w : jWD} {l : Launch} {n : Nat} {I J : Nat → Nat → Int32} {L : Nat → Nat → Int64} {R : Nat → Nat → Option Nat}

set_option maxHeartbeats 1000000 in
set_option maxRecDepth 20000 in
theorem tX11_cellNow (hW : jWok w l) (hR : RS R) {sz b bd bp W H : Nat} {tp : Nat → Nat} (hP : P3 I sz tp (b, bd, bp)) (hw : I 1072 17 = nI W) (hh : I 1072 18 = nI H) (hw1 : 1 ≤ W) (hw9 : W ≤ 9) (hh1 : 1 ≤ H) (hh7 : H ≤ 7) : jRi w l mX11_cellNow 4 [.ref 1069] (n, shE, I, L, R) (fun r t => r = nI (vCl tp sz W H (b, bd, bp)) ∧ ∃ J, t = (n, shE, J, L, R) ∧ eqN I J ∧ P3 J sz tp (pCl tp sz W H (b, bd, bp))) := by
  refine jRi_of hW (by decide) rfl (Nat.le_of_ble_eq_true rfl) ?_
  refine jx_aload_n dX11_cellNow_0 rfl ?_
  refine jx_iconst (v := 0) dX11_cellNow_1 (by decide) ?_
  refine jx_aload_n dX11_cellNow_2 rfl ?_
  refine jx_getR dX11_cellNow_3 flX11_34 rfl rfl (hR _ _ _ rfl) ?_
  refine jx_bipush (v := 17) dX11_cellNow_6 (by decide) ?_
  refine jx_ialdE (17) dX11_cellNow_8 rfl (rfl) (by omega) (by omega) (hw) ?_
  refine jx_iconst (v := 1) dX11_cellNow_9 (by decide) ?_
  refine jx_isubE (z := nI (W - 1)) dX11_cellNow_10 (pk_sub (a := W) (b := 1) (by omega)) ?_
  refine jx_VRi (as := [.int _, .int _]) dX11_cellNow_11 mlX11_271 okX11_readNumber viX11_readNumber rfl rfl rfl rfl rfl (by decide) (Nat.le_of_ble_eq_true rfl) (tX11_readNumber (lo := 0) (hi := W - 1) hW hR hP (by omega) (by omega)) (fun x11 t11 hq11 => ?_)
  obtain ⟨rfl, J1, rfl, he1, hP1⟩ := hq11
  have hnw := P3_nw (lo := 0) (hi := H - 1) (b := (pNu tp sz 0 (W - 1) (b, bd, bp)).1) (bd := (pNu tp sz 0 (W - 1) (b, bd, bp)).2.1) (bp := (pNu tp sz 0 (W - 1) (b, bd, bp)).2.2) hP1
  refine jx_istore_n dX11_cellNow_14 rfl (by decide) ?_
  refine jx_aload_n dX11_cellNow_15 rfl ?_
  refine jx_getR dX11_cellNow_16 flX11_34 rfl rfl (hR _ _ _ rfl) ?_
  refine jx_bipush (v := 17) dX11_cellNow_19 (by decide) ?_
  refine jx_ialdE (17) dX11_cellNow_21 rfl (rfl) (by omega) (by omega) ((he1 1072 17 (by decide)).trans hw) ?_
  refine jx_aload_n dX11_cellNow_22 rfl ?_
  refine jx_iconst (v := 0) dX11_cellNow_23 (by decide) ?_
  refine jx_aload_n dX11_cellNow_24 rfl ?_
  refine jx_getR dX11_cellNow_25 flX11_34 rfl rfl (hR _ _ _ rfl) ?_
  refine jx_bipush (v := 18) dX11_cellNow_28 (by decide) ?_
  refine jx_ialdE (18) dX11_cellNow_30 rfl (rfl) (by omega) (by omega) ((he1 1072 18 (by decide)).trans hh) ?_
  refine jx_iconst (v := 1) dX11_cellNow_31 (by decide) ?_
  refine jx_isubE (z := nI (H - 1)) dX11_cellNow_32 (pk_sub (a := H) (b := 1) (by omega)) ?_
  refine jx_Vi (as := [.int _, .int _]) dX11_cellNow_33 mlX11_268 okX11_numberNow viX11_numberNow rfl rfl rfl rfl rfl (by decide) (Nat.le_of_ble_eq_true rfl) (tX11_numberNow (lo := 0) (hi := H - 1) hW hR hP1.1 (by omega) (by omega)) ?_
  rw [hnw.2.2]
  refine jx_imulE (z := nI (W * (vNu tp sz 0 (H - 1) (pNu tp sz 0 (W - 1) (b, bd, bp))))) dX11_cellNow_36 (pk_mul W (vNu tp sz 0 (H - 1) (pNu tp sz 0 (W - 1) (b, bd, bp)))) ?_
  refine jx_iload_n dX11_cellNow_37 rfl ?_
  refine jx_iaddE (z := nI ((W * (vNu tp sz 0 (H - 1) (pNu tp sz 0 (W - 1) (b, bd, bp)))) + (vNu tp sz 0 (W - 1) (b, bd, bp)))) dX11_cellNow_38 (nI_add (W * (vNu tp sz 0 (H - 1) (pNu tp sz 0 (W - 1) (b, bd, bp)))) (vNu tp sz 0 (W - 1) (b, bd, bp))) ?_
  refine jx_iret dX11_cellNow_39 rfl ?_
  exact ⟨_, rfl, rfl, _, rfl, eqN_t he1 hnw.2.1, hnw.1⟩
set_option maxHeartbeats 1000000 in
set_option maxRecDepth 20000 in
theorem tX11_readHeight (hW : jWok w l) (hR : RS R) {sz b bp W H np len : Nat} {tp : Nat → Nat} {T : Nat → Nat → Int32} (hP : P3 I sz tp (b, 0, bp)) (hT : TL I T) (hB : BT T W H np len) : jRv w l mX11_readHeight 5 [.ref 1069] (n, shE, I, L, R) (fun t => ∃ J, t = (n, shE, J, L, R) ∧ eqL I J ∧ P3 J sz tp (liHt tp sz (b, 0, bp) T).1 ∧ ((liHt tp sz (b, 0, bp) T).1.2.1 = 0 → TL J (liHt tp sz (b, 0, bp) T).2)) := by
  refine jRv_of hW (by decide) rfl (Nat.le_of_ble_eq_true rfl) ?_
  have hM := hB.1.1.1
  have hw0 : I 1072 17 = nI W := (hT.g 1072 0 rfl rfl).trans hM.1
  have hh0 : I 1072 18 = nI H := (hT.g 1072 1 rfl rfl).trans hM.2.1
  have hwh := hM.wh
  obtain ⟨hMw, hMh, hw3, hw9, hh1, hh7⟩ := hM
  have hcw : cN (T 1072 0) = W := by rw [hMw]; exact cN_nI (by omega)
  have hch : cN (T 1072 1) = H := by rw [hMh]; exact cN_nI (by omega)
  have hct : vCl tp sz W H (stX tp sz (b, 0, bp)) < W * H := vCl_lt (by omega) hh1
  unfold liHt
  rw [hcw, hch]
  refine jx_aload_n dX11_readHeight_0 rfl ?_
  refine jx_VRv (as := []) dX11_readHeight_1 mlX11_265 okX11_stepOn viX11_stepOn rfl rfl rfl rfl rfl (by decide) (Nat.le_of_ble_eq_true rfl) (tX11_stepOn hW hR hP.1.1 hP.1.2.1.1 (tEnd_le hP.1.2.2.1).2) (fun t1 hq1 => ?_)
  obtain ⟨J1, rfl, he1, hts⟩ := hq1
  have hP1 : P3 J1 sz tp (nxt tp sz b, 0, bp) := P3_step hP he1 hts
  refine jx_aload_n dX11_readHeight_4 rfl ?_
  refine jx_VRi (as := []) dX11_readHeight_5 mlX11_308 okX11_cellNow viX11_cellNow rfl rfl rfl rfl rfl (by decide) (Nat.le_of_ble_eq_true rfl) (tX11_cellNow (b := nxt tp sz b) (bd := 0) (bp := bp) hW hR hP1 (((eqT_n he1) 1072 17 (by decide)).trans hw0) (((eqT_n he1) 1072 18 (by decide)).trans hh0) (by omega) hw9 hh1 hh7) (fun x5 t5 hq5 => ?_)
  obtain ⟨rfl, J2, rfl, he2, hP2⟩ := hq5
  have hT2 : TL J2 T := TL_n (TL_n hT (eqT_n he1)) he2
  have hL2 : eqL I J2 := eqL_t (eqN_L (eqT_n he1)) (eqN_L he2)
  have hP2 : P3 J2 sz tp (pCl tp sz W H (stX tp sz (b, 0, bp))) := hP2
  have hx5 : (pCl tp sz W H (stX tp sz (b, 0, bp))).2.1 ≤ 5 := hP2.1.2.2.2.2
  have hbd2 : J2 1069 24 = nI (pCl tp sz W H (stX tp sz (b, 0, bp))).2.1 := hP2.1.2.2.2.1
  change jWP _ _ _ _ _ _ _ _ _ _ (.int (nI (vCl tp sz W H (stX tp sz (b, 0, bp)))) :: _) _
  generalize hcc : vCl tp sz W H (stX tp sz (b, 0, bp)) = c at hct ⊢
  generalize hxx : pCl tp sz W H (stX tp sz (b, 0, bp)) = x2 at hP2 hx5 hbd2 ⊢
  refine jx_istore_n dX11_readHeight_8 rfl (by decide) ?_
  refine jx_aload_n dX11_readHeight_9 rfl ?_
  refine jx_getIE dX11_readHeight_10 flX11_240 rfl rfl (hbd2) ?_
  refine jx_ifN_ne (a := x2.2.1) 30 dX11_readHeight_13 (by decide) (by omega) (fun h13 => ?_) (fun h13 => ?_)
  · refine jx_aload_n dX11_readHeight_30 rfl ?_
    refine jx_getIE dX11_readHeight_31 flX11_240 rfl rfl (hbd2) ?_
    refine jx_ifN_eq (a := x2.2.1) 38 dX11_readHeight_34 (by decide) (by omega) (fun h34 => ?_) (fun h34 => ?_)
    · exact absurd h34 h13
    · refine jx_vret dX11_readHeight_37 rfl ?_
      rw [if_pos h13]
      exact ⟨rfl, _, rfl, hL2, hP2, fun q => absurd q h13⟩
  · have hc63 : c < 63 := by omega
    have htl : tlR 1084 c = true := decide_eq_true (by omega)
    refine jx_aload_n dX11_readHeight_16 rfl ?_
    refine jx_getR dX11_readHeight_17 flX11_71 rfl rfl (hR _ _ _ rfl) ?_
    refine jx_iload_n dX11_readHeight_20 rfl ?_
    refine jx_zaldE (c) dX11_readHeight_21 rfl (rfl) (by omega) (by omega) (hT2.g 1084 c htl (Nat.zero_add c)) ?_
    refine jx_if_eq 30 dX11_readHeight_22 (by decide) (fun h22 => ?_) (fun h22 => ?_)
    · refine jx_aload_n dX11_readHeight_30 rfl ?_
      refine jx_getIE dX11_readHeight_31 flX11_240 rfl rfl (hbd2) ?_
      refine jx_ifN_eq (a := x2.2.1) 38 dX11_readHeight_34 (by decide) (by omega) (fun h34 => ?_) (fun h34 => ?_)
      · refine jx_aload_n dX11_readHeight_38 rfl ?_
        refine jx_VRv (as := []) dX11_readHeight_39 mlX11_265 okX11_stepOn viX11_stepOn rfl rfl rfl rfl rfl (by decide) (Nat.le_of_ble_eq_true rfl) (tX11_stepOn hW hR hP2.1.1 hP2.1.2.1.1 (tEnd_le hP2.1.2.2.1).2) (fun t39 hq39 => ?_)
        obtain ⟨J3, rfl, he3, hts3⟩ := hq39
        have hP3 : P3 J3 sz tp (stX tp sz x2) := P3_step (b := x2.1) (bd := x2.2.1) (bp := x2.2.2) hP2 he3 hts3
        have hT3 : TL J3 T := TL_n hT2 (eqT_n he3)
        have hP4 : P3 (upI J3 1084 c 1) sz tp (stX tp sz x2) := P3_u hP3 (by decide) (by decide)
        refine jx_aload_n dX11_readHeight_42 rfl ?_
        refine jx_getR dX11_readHeight_43 flX11_71 rfl rfl (hR _ _ _ rfl) ?_
        refine jx_iload_n dX11_readHeight_46 rfl ?_
        refine jx_iconst (v := 1) dX11_readHeight_47 (by decide) ?_
        refine jx_zastN (c) dX11_readHeight_48 rfl (rfl) (by omega) (by omega) ?_
        refine jx_aload_n dX11_readHeight_49 rfl ?_
        refine jx_getR dX11_readHeight_50 flX11_38 rfl rfl (hR _ _ _ rfl) ?_
        refine jx_bipush (v := 63) dX11_readHeight_53 (by decide) ?_
        refine jx_iload_n dX11_readHeight_55 rfl ?_
        refine jx_iaddE (z := nI (63 + c)) dX11_readHeight_56 (nI_add 63 c) ?_
        refine jx_aload_n dX11_readHeight_57 rfl ?_
        refine jx_iconst (v := 0) dX11_readHeight_58 (by decide) ?_
        refine jx_bipush (v := 9) dX11_readHeight_59 (by decide) ?_
        refine jx_VRi (as := [.int _, .int _]) dX11_readHeight_61 mlX11_271 okX11_readNumber viX11_readNumber rfl rfl rfl rfl rfl (by decide) (Nat.le_of_ble_eq_true rfl) (tX11_readNumber (lo := 0) (hi := 9) (b := (stX tp sz x2).1) (bd := (stX tp sz x2).2.1) (bp := (stX tp sz x2).2.2) hW hR hP4 (by omega) (by omega)) (fun x61 t61 hq61 => ?_)
        obtain ⟨rfl, J5, rfl, he5, hP5⟩ := hq61
        refine jx_iastN (63 + c) dX11_readHeight_64 rfl (rfl) (by omega) (by omega) ?_
        refine jx_vret dX11_readHeight_65 rfl ?_
        rw [if_neg (fun q => q h13), if_neg (fun q => q h22)]
        refine ⟨rfl, _, rfl, eqL_u (eqL_t hL2 (eqL_t (eqN_L (eqT_n he3)) (eqL_t (eqL_u (eqL_r _) rfl) (eqN_L he5)))) (decide_eq_true (by omega)), P3_u hP5 (by decide) (by decide), fun _ => ?_⟩
        exact TL_uk (TL_n (TL_uk hT3 1084 c 1 (Nat.zero_add c)) he5) 1073 c _ rfl
      · exact absurd h13 h34
    · have hbl := hB.2.2.2 c hc63
      refine jx_aload_n dX11_readHeight_25 rfl ?_
      refine jx_iconst (v := 4) dX11_readHeight_26 (by decide) ?_
      refine jx_Vv (as := [.int _]) dX11_readHeight_27 mlX11_261 okX11_wrong viX11_wrong rfl rfl rfl rfl rfl (by decide) (Nat.le_of_ble_eq_true rfl) (tX11_wrongP (k := 4) hW hP2.1) ?_
      have hw4 : P3 (wrg J2 x2.2.1 4) sz tp (x2.1, 4, x2.1) := by have q := P3_wr hP2 (k := 4) (by omega) (by omega); unfold pWr at q; rw [if_pos h13] at q; exact q
      refine jx_aload_n dX11_readHeight_30 rfl ?_
      refine jx_getIE dX11_readHeight_31 flX11_240 rfl rfl (hw4.1.2.2.2.1) ?_
      refine jx_ifN_eq (a := 4) 38 dX11_readHeight_34 (by decide) (by decide) (fun h34 => absurd h34 (by decide)) (fun h34 => ?_)
      refine jx_vret dX11_readHeight_37 rfl ?_
      rw [if_neg (fun q => q h13), if_pos h22]
      refine ⟨rfl, _, rfl, eqL_t hL2 (eqN_L (wrg_n _ _)), ?_, fun q => ?_⟩
      · show P3 _ sz tp (pWr 4 x2); exact P3_wr hP2 (by omega) (by omega)
      · have q2 : (pWr 4 x2).2.1 = 0 := q
        unfold pWr at q2; rw [if_pos h13] at q2; cases q2
end RE1
