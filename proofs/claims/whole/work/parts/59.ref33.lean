/-! THE REFERENCE: parties, quarrels, fog -/
theorem vPt_lt {tp : Nat → Nat} {sz np : Nat} {x : Nat × Nat × Nat} (h : (pPt tp sz np x).2.1 = 0) : vPt tp sz np x < np := by
  unfold vPt
  rw [if_pos h]
  unfold pPt at h
  by_cases e : (pNw tp sz 0 9999 x).2.1 = 0 ∧ np ≤ vNu tp sz 0 9999 x
  · rw [if_pos e] at h
    unfold pWr at h
    rw [if_pos e.1] at h
    cases h
  · rw [if_neg e] at h
    omega
section RG1
variable {w : jWD} {l : Launch} {n : Nat} {I J : Nat → Nat → Int32} {L : Nat → Nat → Int64} {R : Nat → Nat → Option Nat}

set_option maxHeartbeats 1000000 in
set_option maxRecDepth 20000 in
theorem tX11_readParty (hW : jWok w l) (hR : RS R) {sz b bp W H np len : Nat} {tp : Nat → Nat} {T : Nat → Nat → Int32} (hP : P3 I sz tp (b, 0, bp)) (hT : TL I T) (hB : BT T W H np len) {k : Nat} (hk : k < 4) : jRv w l mX11_readParty 5 [.ref 1069, .int (nI k)] (n, shE, I, L, R) (fun t => ∃ J, t = (n, shE, J, L, R) ∧ eqL I J ∧ P3 J sz tp (liPty tp sz k (b, 0, bp) T).1 ∧ ((liPty tp sz k (b, 0, bp) T).1.2.1 = 0 → TL J (liPty tp sz k (b, 0, bp) T).2)) := by
  refine jRv_of hW (by decide) rfl (Nat.le_of_ble_eq_true rfl) ?_
  have hM := hB.1.1.1
  have hw0 : I 1072 17 = nI W := (hT.g 1072 0 rfl rfl).trans hM.1
  have hh0 : I 1072 18 = nI H := (hT.g 1072 1 rfl rfl).trans hM.2.1
  have hwh := hM.wh
  obtain ⟨hMw, hMh, hw3, hw9, hh1, hh7⟩ := hM
  have hcw : cN (T 1072 0) = W := by rw [hMw]; exact cN_nI (by omega)
  have hch : cN (T 1072 1) = H := by rw [hMh]; exact cN_nI (by omega)
  have hnp := hB.1.2.2.2.2.1
  have hcn : cN (T 1072 10) = np := by rw [hnp.1]; exact cN_nI (by omega)
  have hnp6 := hnp.2
  have hn0 : I 1072 27 = nI np := (hT.g 1072 10 rfl rfl).trans hnp.1
  unfold liPty
  rw [hcn, hch]
  refine jx_aload_n dX11_readParty_0 rfl ?_
  refine jx_getR dX11_readParty_1 flX11_34 rfl rfl (hR _ _ _ rfl) ?_
  refine jx_bipush (v := 27) dX11_readParty_4 (by decide) ?_
  refine jx_ialdE (27) dX11_readParty_6 rfl (rfl) (by omega) (by omega) (hn0) ?_
  refine jx_bipush (v := 6) dX11_readParty_7 (by decide) ?_
  refine jx_icmpN_ne (a := np) (b := 6) 17 dX11_readParty_9 (by decide) (by omega) (by omega) (fun h9 => ?_) (fun h9 => ?_)
  · have hnp5 : np < 6 := by omega
    refine jx_aload_n dX11_readParty_17 rfl ?_
    refine jx_getIE dX11_readParty_18 flX11_240 rfl rfl (hP.1.2.2.2.1) ?_
    refine jx_ifN_eq (a := 0) 25 dX11_readParty_21 (by decide) (by decide) (fun h21 => ?_) (fun h21 => absurd h21 (by decide))
    refine jx_aload_n dX11_readParty_25 rfl ?_
    refine jx_VRv (as := []) dX11_readParty_26 mlX11_265 okX11_stepOn viX11_stepOn rfl rfl rfl rfl rfl (by decide) (Nat.le_of_ble_eq_true rfl) (tX11_stepOn hW hR hP.1.1 hP.1.2.1.1 (tEnd_le hP.1.2.2.1).2) (fun t26 hq26 => ?_)
    obtain ⟨J1, rfl, he1, hts⟩ := hq26
    have hP1 : P3 J1 sz tp (nxt tp sz b, 0, bp) := P3_step hP he1 hts
    have hLa0 := eqN_L (eqT_n he1)
    have hQ1 := P3_u (a := 1076) (k := 6 + np) (v := nI k) hP1 (by decide) (by decide)
    have hA1 := TL_uk (k := 6 + np) (TL_n hT (eqT_n he1)) 1076 np (nI k) rfl
    have hLa1 := eqL_u (a := 1076) (k := 6 + np) (v := nI k) hLa0 (decide_eq_true (by omega))
    refine jx_bipush (v := 6) dX11_readParty_29 (by decide) ?_
    refine jx_aload_n dX11_readParty_31 rfl ?_
    refine jx_getR dX11_readParty_32 flX11_34 rfl rfl (hR _ _ _ rfl) ?_
    refine jx_bipush (v := 27) dX11_readParty_35 (by decide) ?_
    refine jx_ialdE (27) dX11_readParty_37 rfl (rfl) (by omega) (by omega) (((eqT_n he1) 1072 27 (by decide)).trans hn0) ?_
    refine jx_iaddE (z := nI (6 + np)) dX11_readParty_38 (nI_add 6 np) ?_
    refine jx_istore_n dX11_readParty_39 rfl (by decide) ?_
    refine jx_aload_n dX11_readParty_40 rfl ?_
    refine jx_getR dX11_readParty_41 flX11_47 rfl rfl (hR _ _ _ rfl) ?_
    refine jx_iload_n dX11_readParty_44 rfl ?_
    refine jx_iload_n dX11_readParty_45 rfl ?_
    refine jx_iastN (6 + np) dX11_readParty_46 rfl (rfl) (by omega) (by omega) ?_
    refine jx_aload_n dX11_readParty_47 rfl ?_
    refine jx_getR dX11_readParty_48 flX11_50 rfl rfl (hR _ _ _ rfl) ?_
    refine jx_iload_n dX11_readParty_51 rfl ?_
    refine jx_aload_n dX11_readParty_52 rfl ?_
    refine jx_iconst (v := 1) dX11_readParty_53 (by decide) ?_
    refine jx_iconst (v := 4) dX11_readParty_54 (by decide) ?_
    refine jx_VRi (as := [.int _, .int _]) dX11_readParty_55 mlX11_271 okX11_readNumber viX11_readNumber rfl rfl rfl rfl rfl (by decide) (Nat.le_of_ble_eq_true rfl) (tX11_readNumber (lo := 1) (hi := 4) (b := (stX tp sz (b, 0, bp)).1) (bd := (stX tp sz (b, 0, bp)).2.1) (bp := (stX tp sz (b, 0, bp)).2.2) hW hR hQ1 (by omega) (by omega)) (fun x55 t55 hq55 => ?_)
    obtain ⟨rfl, J2, rfl, he2, hP2⟩ := hq55
    have hT2 := TL_n hA1 he2
    have hL2 := eqL_t hLa1 (eqN_L he2)
    have hQ2 := P3_u (a := 1077) (k := 6 + np) (v := nI (vNu tp sz 1 4 (stX tp sz (b, 0, bp)))) hP2 (by decide) (by decide)
    have hA2 := TL_uk (k := 6 + np) hT2 1077 np (nI (vNu tp sz 1 4 (stX tp sz (b, 0, bp)))) rfl
    have hLa2 := eqL_u (a := 1077) (k := 6 + np) (v := nI (vNu tp sz 1 4 (stX tp sz (b, 0, bp)))) hL2 (decide_eq_true (by omega))
    refine jx_iastN (6 + np) dX11_readParty_58 rfl (rfl) (by omega) (by omega) ?_
    refine jx_aload_n dX11_readParty_59 rfl ?_
    refine jx_getR dX11_readParty_60 flX11_53 rfl rfl (hR _ _ _ rfl) ?_
    refine jx_iload_n dX11_readParty_63 rfl ?_
    refine jx_aload_n dX11_readParty_64 rfl ?_
    refine jx_iconst (v := 0) dX11_readParty_65 (by decide) ?_
    refine jx_bipush (v := 9) dX11_readParty_66 (by decide) ?_
    refine jx_VRi (as := [.int _, .int _]) dX11_readParty_68 mlX11_271 okX11_readNumber viX11_readNumber rfl rfl rfl rfl rfl (by decide) (Nat.le_of_ble_eq_true rfl) (tX11_readNumber (lo := 0) (hi := 9) (b := (pNu tp sz 1 4 (stX tp sz (b, 0, bp))).1) (bd := (pNu tp sz 1 4 (stX tp sz (b, 0, bp))).2.1) (bp := (pNu tp sz 1 4 (stX tp sz (b, 0, bp))).2.2) hW hR hQ2 (by omega) (by omega)) (fun x68 t68 hq68 => ?_)
    obtain ⟨rfl, J3, rfl, he3, hP3⟩ := hq68
    have hT3 := TL_n hA2 he3
    have hL3 := eqL_t hLa2 (eqN_L he3)
    have hQ3 := P3_u (a := 1078) (k := 6 + np) (v := nI (vNu tp sz 0 9 (pNu tp sz 1 4 (stX tp sz (b, 0, bp))))) hP3 (by decide) (by decide)
    have hA3 := TL_uk (k := 6 + np) hT3 1078 np (nI (vNu tp sz 0 9 (pNu tp sz 1 4 (stX tp sz (b, 0, bp))))) rfl
    have hLa3 := eqL_u (a := 1078) (k := 6 + np) (v := nI (vNu tp sz 0 9 (pNu tp sz 1 4 (stX tp sz (b, 0, bp))))) hL3 (decide_eq_true (by omega))
    refine jx_iastN (6 + np) dX11_readParty_71 rfl (rfl) (by omega) (by omega) ?_
    refine jx_aload_n dX11_readParty_72 rfl ?_
    refine jx_getR dX11_readParty_73 flX11_56 rfl rfl (hR _ _ _ rfl) ?_
    refine jx_iload_n dX11_readParty_76 rfl ?_
    refine jx_aload_n dX11_readParty_77 rfl ?_
    refine jx_iconst (v := 0) dX11_readParty_78 (by decide) ?_
    refine jx_aload_n dX11_readParty_79 rfl ?_
    refine jx_getR dX11_readParty_80 flX11_34 rfl rfl (hR _ _ _ rfl) ?_
    refine jx_bipush (v := 18) dX11_readParty_83 (by decide) ?_
    refine jx_ialdE (18) dX11_readParty_85 rfl (rfl) (by omega) (by omega) ((hA3.g 1072 1 rfl rfl).trans ((upI_nea (by decide)).trans ((upI_nea (by decide)).trans ((upI_nea (by decide)).trans (hMh))))) ?_
    refine jx_iconst (v := 1) dX11_readParty_86 (by decide) ?_
    refine jx_isubE (z := nI (H - 1)) dX11_readParty_87 (pk_sub (a := H) (b := 1) (by omega)) ?_
    refine jx_VRi (as := [.int _, .int _]) dX11_readParty_88 mlX11_271 okX11_readNumber viX11_readNumber rfl rfl rfl rfl rfl (by decide) (Nat.le_of_ble_eq_true rfl) (tX11_readNumber (lo := 0) (hi := H - 1) (b := (pNu tp sz 0 9 (pNu tp sz 1 4 (stX tp sz (b, 0, bp)))).1) (bd := (pNu tp sz 0 9 (pNu tp sz 1 4 (stX tp sz (b, 0, bp)))).2.1) (bp := (pNu tp sz 0 9 (pNu tp sz 1 4 (stX tp sz (b, 0, bp)))).2.2) hW hR hQ3 (by omega) (by omega)) (fun x88 t88 hq88 => ?_)
    obtain ⟨rfl, J4, rfl, he4, hP4⟩ := hq88
    have hT4 := TL_n hA3 he4
    have hL4 := eqL_t hLa3 (eqN_L he4)
    have hQ4 := P3_u (a := 1079) (k := 6 + np) (v := nI (vNu tp sz 0 (H - 1) (pNu tp sz 0 9 (pNu tp sz 1 4 (stX tp sz (b, 0, bp)))))) hP4 (by decide) (by decide)
    have hA4 := TL_uk (k := 6 + np) hT4 1079 np (nI (vNu tp sz 0 (H - 1) (pNu tp sz 0 9 (pNu tp sz 1 4 (stX tp sz (b, 0, bp)))))) rfl
    have hLa4 := eqL_u (a := 1079) (k := 6 + np) (v := nI (vNu tp sz 0 (H - 1) (pNu tp sz 0 9 (pNu tp sz 1 4 (stX tp sz (b, 0, bp)))))) hL4 (decide_eq_true (by omega))
    refine jx_iastN (6 + np) dX11_readParty_91 rfl (rfl) (by omega) (by omega) ?_
    refine jx_aload_n dX11_readParty_92 rfl ?_
    refine jx_getR dX11_readParty_93 flX11_59 rfl rfl (hR _ _ _ rfl) ?_
    refine jx_iload_n dX11_readParty_96 rfl ?_
    refine jx_aload_n dX11_readParty_97 rfl ?_
    refine jx_iconst (v := 0) dX11_readParty_98 (by decide) ?_
    refine jx_bipush (v := 20) dX11_readParty_99 (by decide) ?_
    refine jx_VRi (as := [.int _, .int _]) dX11_readParty_101 mlX11_271 okX11_readNumber viX11_readNumber rfl rfl rfl rfl rfl (by decide) (Nat.le_of_ble_eq_true rfl) (tX11_readNumber (lo := 0) (hi := 20) (b := (pNu tp sz 0 (H - 1) (pNu tp sz 0 9 (pNu tp sz 1 4 (stX tp sz (b, 0, bp))))).1) (bd := (pNu tp sz 0 (H - 1) (pNu tp sz 0 9 (pNu tp sz 1 4 (stX tp sz (b, 0, bp))))).2.1) (bp := (pNu tp sz 0 (H - 1) (pNu tp sz 0 9 (pNu tp sz 1 4 (stX tp sz (b, 0, bp))))).2.2) hW hR hQ4 (by omega) (by omega)) (fun x101 t101 hq101 => ?_)
    obtain ⟨rfl, J5, rfl, he5, hP5⟩ := hq101
    have hT5 := TL_n hA4 he5
    have hL5 := eqL_t hLa4 (eqN_L he5)
    have hQ5 := P3_u (a := 1080) (k := 6 + np) (v := nI (vNu tp sz 0 20 (pNu tp sz 0 (H - 1) (pNu tp sz 0 9 (pNu tp sz 1 4 (stX tp sz (b, 0, bp))))))) hP5 (by decide) (by decide)
    have hA5 := TL_uk (k := 6 + np) hT5 1080 np (nI (vNu tp sz 0 20 (pNu tp sz 0 (H - 1) (pNu tp sz 0 9 (pNu tp sz 1 4 (stX tp sz (b, 0, bp))))))) rfl
    have hLa5 := eqL_u (a := 1080) (k := 6 + np) (v := nI (vNu tp sz 0 20 (pNu tp sz 0 (H - 1) (pNu tp sz 0 9 (pNu tp sz 1 4 (stX tp sz (b, 0, bp))))))) hL5 (decide_eq_true (by omega))
    refine jx_iastN (6 + np) dX11_readParty_104 rfl (rfl) (by omega) (by omega) ?_
    refine jx_aload_n dX11_readParty_105 rfl ?_
    refine jx_getR dX11_readParty_106 flX11_62 rfl rfl (hR _ _ _ rfl) ?_
    refine jx_iload_n dX11_readParty_109 rfl ?_
    refine jx_iconst (v := 0) dX11_readParty_110 (by decide) ?_
    refine jx_iastN (6 + np) dX11_readParty_111 rfl (rfl) (by omega) (by omega) ?_
    refine jx_aload_n dX11_readParty_112 rfl ?_
    refine jx_getR dX11_readParty_113 flX11_34 rfl rfl (hR _ _ _ rfl) ?_
    refine jx_bipush (v := 27) dX11_readParty_116 (by decide) ?_
    refine jx_dup2 dX11_readParty_118 rfl rfl ?_
    refine jx_ialdE (27) dX11_readParty_119 rfl (rfl) (by omega) (by omega) ((upI_nea (by decide)).trans ((hA5.g 1072 10 rfl rfl).trans ((upI_nea (by decide)).trans ((upI_nea (by decide)).trans ((upI_nea (by decide)).trans ((upI_nea (by decide)).trans ((upI_nea (by decide)).trans (hnp.1)))))))) ?_
    refine jx_iconst (v := 1) dX11_readParty_120 (by decide) ?_
    refine jx_iaddE (z := nI (np + 1)) dX11_readParty_121 (nI_add np 1) ?_
    refine jx_iastN (27) dX11_readParty_122 rfl (rfl) (by omega) (by omega) ?_
    refine jx_vret dX11_readParty_123 rfl ?_
    rw [if_neg h9]
    exact ⟨rfl, _, rfl, eqL_u (eqL_u hLa5 (decide_eq_true (by omega))) rfl, P3_u (P3_u hQ5 (by decide) (by decide)) (by decide) (by decide), fun _ => TL_uk (TL_uk hA5 1081 np 0 rfl) 1072 10 _ rfl⟩
  · refine jx_aload_n dX11_readParty_12 rfl ?_
    refine jx_iconst (v := 2) dX11_readParty_13 (by decide) ?_
    refine jx_Vv (as := [.int _]) dX11_readParty_14 mlX11_261 okX11_wrong viX11_wrong rfl rfl rfl rfl rfl (by decide) (Nat.le_of_ble_eq_true rfl) (tX11_wrongP (k := 2) hW hP.1) ?_
    have hw2 : P3 (wrg I 0 2) sz tp (b, 2, b) := P3_wr hP (k := 2) (by omega) (by omega)
    refine jx_aload_n dX11_readParty_17 rfl ?_
    refine jx_getIE dX11_readParty_18 flX11_240 rfl rfl (hw2.1.2.2.2.1) ?_
    refine jx_ifN_eq (a := 2) 25 dX11_readParty_21 (by decide) (by decide) (fun h21 => absurd h21 (by decide)) (fun h21 => ?_)
    refine jx_vret dX11_readParty_24 rfl ?_
    rw [if_pos h9]
    exact ⟨rfl, _, rfl, eqN_L (wrg_n 0 2), hw2, fun q => absurd q (by show ¬ (2 = 0); decide)⟩
set_option maxHeartbeats 1000000 in
set_option maxRecDepth 20000 in
theorem tX11_partyNow (hW : jWok w l) (hR : RS R) {sz b bd bp np : Nat} {tp : Nat → Nat} (hP : P3 I sz tp (b, bd, bp)) (hn0 : I 1072 27 = nI np) (hnp : np ≤ 6) : jRi w l mX11_partyNow 3 [.ref 1069] (n, shE, I, L, R) (fun r t => r = nI (vPt tp sz np (b, bd, bp)) ∧ ∃ J, t = (n, shE, J, L, R) ∧ eqN I J ∧ P3 J sz tp (pPt tp sz np (b, bd, bp))) := by
  refine jRi_of hW (by decide) rfl (Nat.le_of_ble_eq_true rfl) ?_
  have hnw := P3_nw (lo := 0) (hi := 9999) hP
  have hvl : vNu tp sz 0 9999 (b, bd, bp) ≤ 9999 := vNu_le
  refine jx_aload_n dX11_partyNow_0 rfl ?_
  refine jx_iconst (v := 0) dX11_partyNow_1 (by decide) ?_
  refine jx_sipush (v := 9999) dX11_partyNow_2 (by decide) ?_
  refine jx_Vi (as := [.int _, .int _]) dX11_partyNow_5 mlX11_268 okX11_numberNow viX11_numberNow rfl rfl rfl rfl rfl (by decide) (Nat.le_of_ble_eq_true rfl) (tX11_numberNow (lo := 0) (hi := 9999) hW hR hP.1 (by omega) (by omega)) ?_
  rw [hnw.2.2]
  obtain ⟨hx, he, -⟩ := hnw
  generalize hJ2 : (if numC tp sz b 0 9999 = 0 then I else wrg I bd (numC tp sz b 0 9999)) = J2 at hx he ⊢
  generalize hx2 : pNw tp sz 0 9999 (b, bd, bp) = x2 at hx
  generalize hv2 : vNu tp sz 0 9999 (b, bd, bp) = v2 at hvl ⊢
  have hx5 : x2.2.1 ≤ 5 := hx.1.2.2.2.2
  unfold vPt pPt
  rw [hx2, hv2]
  refine jx_istore_n dX11_partyNow_8 rfl (by decide) ?_
  refine jx_aload_n dX11_partyNow_9 rfl ?_
  refine jx_getIE dX11_partyNow_10 flX11_240 rfl rfl (hx.1.2.2.2.1) ?_
  refine jx_ifN_ne (a := x2.2.1) 32 dX11_partyNow_13 (by decide) (by omega) (fun h13 => ?_) (fun h13 => ?_)
  · refine jx_aload_n dX11_partyNow_32 rfl ?_
    refine jx_getIE dX11_partyNow_33 flX11_240 rfl rfl (hx.1.2.2.2.1) ?_
    refine jx_ifN_ne (a := x2.2.1) 43 dX11_partyNow_36 (by decide) (by omega) (fun h36 => ?_) (fun h36 => ?_)
    · refine jx_iconst (v := 0) dX11_partyNow_43 (by decide) ?_
      refine jx_iret dX11_partyNow_44 rfl ?_
      have e1 : ¬ (x2.2.1 = 0 ∧ np ≤ v2) := fun q => h13 q.1
      rw [if_neg e1, if_neg h13]
      exact ⟨_, rfl, rfl, _, rfl, he, hx⟩
    · exact absurd h36 h13
  · refine jx_iload_n dX11_partyNow_16 rfl ?_
    refine jx_aload_n dX11_partyNow_17 rfl ?_
    refine jx_getR dX11_partyNow_18 flX11_34 rfl rfl (hR _ _ _ rfl) ?_
    refine jx_bipush (v := 27) dX11_partyNow_21 (by decide) ?_
    refine jx_ialdE (27) dX11_partyNow_23 rfl (rfl) (by omega) (by omega) ((he 1072 27 (by decide)).trans hn0) ?_
    refine jx_icmpN_lt (a := v2) (b := np) 32 dX11_partyNow_24 (by decide) (by omega) (by omega) (fun h24 => ?_) (fun h24 => ?_)
    · refine jx_aload_n dX11_partyNow_32 rfl ?_
      refine jx_getIE dX11_partyNow_33 flX11_240 rfl rfl (hx.1.2.2.2.1) ?_
      refine jx_ifN_ne (a := x2.2.1) 43 dX11_partyNow_36 (by decide) (by omega) (fun h36 => ?_) (fun h36 => ?_)
      · exact absurd h13 h36
      · refine jx_iload_n dX11_partyNow_39 rfl ?_
        refine jx_goto 44 dX11_partyNow_40 (by decide) ?_
        refine jx_iret dX11_partyNow_44 rfl ?_
        have e1 : ¬ (x2.2.1 = 0 ∧ np ≤ v2) := fun q => by omega
        rw [if_neg e1, if_pos h13]
        exact ⟨_, rfl, rfl, _, rfl, he, hx⟩
    · refine jx_aload_n dX11_partyNow_27 rfl ?_
      refine jx_iconst (v := 3) dX11_partyNow_28 (by decide) ?_
      refine jx_Vv (as := [.int _]) dX11_partyNow_29 mlX11_261 okX11_wrong viX11_wrong rfl rfl rfl rfl rfl (by decide) (Nat.le_of_ble_eq_true rfl) (tX11_wrongP (k := 3) hW hx.1) ?_
      have hw3 : P3 (wrg J2 x2.2.1 3) sz tp (x2.1, 3, x2.1) := by have q := P3_wr hx (k := 3) (by omega) (by omega); unfold pWr at q; rw [if_pos h13] at q; exact q
      refine jx_aload_n dX11_partyNow_32 rfl ?_
      refine jx_getIE dX11_partyNow_33 flX11_240 rfl rfl (hw3.1.2.2.2.1) ?_
      refine jx_ifN_ne (a := 3) 43 dX11_partyNow_36 (by decide) (by decide) (fun h36 => ?_) (fun h36 => absurd h36 (by decide))
      refine jx_iconst (v := 0) dX11_partyNow_43 (by decide) ?_
      refine jx_iret dX11_partyNow_44 rfl ?_
      have e1 : x2.2.1 = 0 ∧ np ≤ v2 := ⟨h13, by omega⟩
      rw [if_pos e1]
      have e2 : pWr 3 x2 = (x2.1, 3, x2.1) := by unfold pWr; rw [if_pos h13]
      rw [e2]
      exact ⟨_, rfl, rfl, _, rfl, eqN_t he (wrg_n _ _), hw3⟩
set_option maxHeartbeats 1000000 in
set_option maxRecDepth 20000 in
theorem tX11_readQuarrel (hW : jWok w l) (hR : RS R) {sz b bp W H np len : Nat} {tp : Nat → Nat} {T : Nat → Nat → Int32} (hP : P3 I sz tp (b, 0, bp)) (hT : TL I T) (hB : BT T W H np len) : jRv w l mX11_readQuarrel 5 [.ref 1069] (n, shE, I, L, R) (fun t => ∃ J, t = (n, shE, J, L, R) ∧ eqL I J ∧ P3 J sz tp (liQrl tp sz (b, 0, bp) T).1 ∧ ((liQrl tp sz (b, 0, bp) T).1.2.1 = 0 → TL J (liQrl tp sz (b, 0, bp) T).2)) := by
  refine jRv_of hW (by decide) rfl (Nat.le_of_ble_eq_true rfl) ?_
  have hnp := hB.1.2.2.2.2.1
  have hcn : cN (T 1072 10) = np := by rw [hnp.1]; exact cN_nI (by omega)
  have hnp6 := hnp.2
  have hn0 : I 1072 27 = nI np := (hT.g 1072 10 rfl rfl).trans hnp.1
  have hnq := hB.2.2.1
  have hnq6 := hnq.2
  unfold liQrl
  rw [hcn]
  refine jx_aload_n dX11_readQuarrel_0 rfl ?_
  refine jx_getR dX11_readQuarrel_1 flX11_34 rfl rfl (hR _ _ _ rfl) ?_
  refine jx_bipush (v := 28) dX11_readQuarrel_4 (by decide) ?_
  refine jx_ialdE (28) dX11_readQuarrel_6 rfl (rfl) (by omega) (by omega) ((hT.g 1072 11 rfl rfl).trans hnq.1) ?_
  refine jx_bipush (v := 6) dX11_readQuarrel_7 (by decide) ?_
  refine jx_icmpN_ne (a := (cN (T 1072 11))) (b := 6) 17 dX11_readQuarrel_9 (by decide) (by omega) (by omega) (fun h9 => ?_) (fun h9 => ?_)
  · refine jx_aload_n dX11_readQuarrel_17 rfl ?_
    refine jx_getIE dX11_readQuarrel_18 flX11_240 rfl rfl (hP.1.2.2.2.1) ?_
    refine jx_ifN_eq (a := 0) 25 dX11_readQuarrel_21 (by decide) (by decide) (fun h21 => ?_) (fun h21 => absurd h21 (by decide))
    refine jx_aload_n dX11_readQuarrel_25 rfl ?_
    refine jx_VRv (as := []) dX11_readQuarrel_26 mlX11_265 okX11_stepOn viX11_stepOn rfl rfl rfl rfl rfl (by decide) (Nat.le_of_ble_eq_true rfl) (tX11_stepOn hW hR hP.1.1 hP.1.2.1.1 (tEnd_le hP.1.2.2.1).2) (fun t26 hq26 => ?_)
    obtain ⟨J1, rfl, he1, hts⟩ := hq26
    have hP1 : P3 J1 sz tp (nxt tp sz b, 0, bp) := P3_step hP he1 hts
    refine jx_aload_n dX11_readQuarrel_29 rfl ?_
    refine jx_VRi (as := []) dX11_readQuarrel_30 mlX11_311 okX11_partyNow viX11_partyNow rfl rfl rfl rfl rfl (by decide) (Nat.le_of_ble_eq_true rfl) (tX11_partyNow (b := (stX tp sz (b, 0, bp)).1) (bd := (stX tp sz (b, 0, bp)).2.1) (bp := (stX tp sz (b, 0, bp)).2.2) hW hR hP1 (((eqT_n he1) 1072 27 (by decide)).trans hn0) hnp6) (fun x30 t30 hq30 => ?_)
    obtain ⟨rfl, J2, rfl, he2, hP2⟩ := hq30
    have hT2 : TL J2 T := TL_n (TL_n hT (eqT_n he1)) he2
    have hL2 : eqL I J2 := eqL_t (eqN_L (eqT_n he1)) (eqN_L he2)
    have hP2 : P3 J2 sz tp (pPt tp sz np (stX tp sz (b, 0, bp))) := hP2
    have hal := vPt_lt (tp := tp) (sz := sz) (np := np) (x := stX tp sz (b, 0, bp))
    change jWP _ _ _ _ _ _ _ _ _ _ (.int (nI (vPt tp sz np (stX tp sz (b, 0, bp)))) :: _) _
    generalize hxx : pPt tp sz np (stX tp sz (b, 0, bp)) = x2 at hP2 hal ⊢
    generalize haa : vPt tp sz np (stX tp sz (b, 0, bp)) = a at hal ⊢
    have hx5 : x2.2.1 ≤ 5 := hP2.1.2.2.2.2
    refine jx_istore_n dX11_readQuarrel_33 rfl (by decide) ?_
    rw [if_neg h9]
    have key : ∀ (J3 : Nat → Nat → Int32), P3 J3 sz tp (stG tp sz x2) → TL J3 T → eqL I J3 → jWP w l mX11_readQuarrel 5 0 0 (fun v t => v = none ∧ ∃ J, t = (n, shE, J, L, R) ∧ eqL I J ∧ P3 J sz tp (if (pPt tp sz np (stG tp sz x2)).2.1 ≠ 0 then (pPt tp sz np (stG tp sz x2), T) else if a = vPt tp sz np (stG tp sz x2) ∨ (T 1081 a >>> (nI (vPt tp sz np (stG tp sz x2)) &&& 31)) &&& 1 = 1 then (pWr 4 (pPt tp sz np (stG tp sz x2)), T) else (stX tp sz (pPt tp sz np (stG tp sz x2)), qrH T a (vPt tp sz np (stG tp sz x2)))).1 ∧ ((if (pPt tp sz np (stG tp sz x2)).2.1 ≠ 0 then (pPt tp sz np (stG tp sz x2), T) else if a = vPt tp sz np (stG tp sz x2) ∨ (T 1081 a >>> (nI (vPt tp sz np (stG tp sz x2)) &&& 31)) &&& 1 = 1 then (pWr 4 (pPt tp sz np (stG tp sz x2)), T) else (stX tp sz (pPt tp sz np (stG tp sz x2)), qrH T a (vPt tp sz np (stG tp sz x2)))).1.2.1 = 0 → TL J (if (pPt tp sz np (stG tp sz x2)).2.1 ≠ 0 then (pPt tp sz np (stG tp sz x2), T) else if a = vPt tp sz np (stG tp sz x2) ∨ (T 1081 a >>> (nI (vPt tp sz np (stG tp sz x2)) &&& 31)) &&& 1 = 1 then (pWr 4 (pPt tp sz np (stG tp sz x2)), T) else (stX tp sz (pPt tp sz np (stG tp sz x2)), qrH T a (vPt tp sz np (stG tp sz x2)))).2)) (fun _ _ => False) 45 [(0, .ref 1069), (1, .int (nI a))] [] (n, shE, J3, L, R) := by
      intro J3 hP3 hT3 hL3
      have hx3 : (stG tp sz x2).2.1 = x2.2.1 := by unfold stG; split <;> rfl
      have hn3 : J3 1072 27 = nI np := (hT3.g 1072 10 rfl rfl).trans hnp.1
      have hxp : x2.2.1 ≠ 0 → (pPt tp sz np (stG tp sz x2)).2.1 ≠ 0 := by
        intro q
        have q3 : (stG tp sz x2).2.1 ≠ 0 := by rw [hx3]; exact q
        have e1 : pNw tp sz 0 9999 (stG tp sz x2) = stG tp sz x2 := by unfold pNw; rw [if_neg q3]
        unfold pPt
        rw [e1, if_neg (fun z => q3 z.1)]
        exact q3
      refine jx_aload_n dX11_readQuarrel_45 rfl ?_
      refine jx_VRi (as := []) dX11_readQuarrel_46 mlX11_311 okX11_partyNow viX11_partyNow rfl rfl rfl rfl rfl (by decide) (Nat.le_of_ble_eq_true rfl) (tX11_partyNow (b := (stG tp sz x2).1) (bd := (stG tp sz x2).2.1) (bp := (stG tp sz x2).2.2) hW hR hP3 hn3 hnp6) (fun x46 t46 hq46 => ?_)
      obtain ⟨rfl, J4, rfl, he4, hP4⟩ := hq46
      have hT4 : TL J4 T := TL_n hT3 he4
      have hL4 : eqL I J4 := eqL_t hL3 (eqN_L he4)
      have hP4 : P3 J4 sz tp (pPt tp sz np (stG tp sz x2)) := hP4
      have hbl := vPt_lt (tp := tp) (sz := sz) (np := np) (x := stG tp sz x2)
      change jWP _ _ _ _ _ _ _ _ _ _ (.int (nI (vPt tp sz np (stG tp sz x2))) :: _) _
      generalize hyy : pPt tp sz np (stG tp sz x2) = x4 at hP4 hbl hxp ⊢
      generalize hbb : vPt tp sz np (stG tp sz x2) = bb at hbl ⊢
      have hx45 : x4.2.1 ≤ 5 := hP4.1.2.2.2.2
      refine jx_istore_n dX11_readQuarrel_49 rfl (by decide) ?_
      refine jx_aload_n dX11_readQuarrel_50 rfl ?_
      refine jx_getIE dX11_readQuarrel_51 flX11_240 rfl rfl (hP4.1.2.2.2.1) ?_
      refine jx_ifN_ne (a := x4.2.1) 84 dX11_readQuarrel_54 (by decide) (by omega) (fun h54 => ?_) (fun h54 => ?_)
      · skip
        refine jx_aload_n dX11_readQuarrel_84 rfl ?_
        refine jx_getIE dX11_readQuarrel_85 flX11_240 rfl rfl (hP4.1.2.2.2.1) ?_
        refine jx_ifN_eq (a := x4.2.1) 92 dX11_readQuarrel_88 (by decide) (by omega) (fun h88 => ?_) (fun h88 => ?_)
        · exact absurd h88 h54
        · refine jx_vret dX11_readQuarrel_91 rfl ?_
          rw [if_pos h54]
          exact ⟨rfl, _, rfl, hL4, hP4, fun q => absurd q h54⟩
      · have hx20 : x2.2.1 = 0 := by
          by_cases q : x2.2.1 = 0
          · exact q
          · exact absurd h54 (hxp q)
        have ha6 : a < np := hal hx20
        have hb6 : bb < np := hbl h54
        refine jx_iload_n dX11_readQuarrel_57 rfl ?_
        refine jx_iload_n dX11_readQuarrel_58 rfl ?_
        refine jx_icmpN_eq (a := a) (b := bb) 79 dX11_readQuarrel_59 (by decide) (by omega) (by omega) (fun h59 => ?_) (fun h59 => ?_)
        · refine jx_aload_n dX11_readQuarrel_79 rfl ?_
          refine jx_iconst (v := 4) dX11_readQuarrel_80 (by decide) ?_
          refine jx_Vv (as := [.int _]) dX11_readQuarrel_81 mlX11_261 okX11_wrong viX11_wrong rfl rfl rfl rfl rfl (by decide) (Nat.le_of_ble_eq_true rfl) (tX11_wrongP (k := 4) hW hP4.1) ?_
          have hw4 : P3 (wrg J4 x4.2.1 4) sz tp (x4.1, 4, x4.1) := by have q := P3_wr hP4 (k := 4) (by omega) (by omega); unfold pWr at q; rw [if_pos h54] at q; exact q
          refine jx_aload_n dX11_readQuarrel_84 rfl ?_
          refine jx_getIE dX11_readQuarrel_85 flX11_240 rfl rfl (hw4.1.2.2.2.1) ?_
          refine jx_ifN_eq (a := 4) 92 dX11_readQuarrel_88 (by decide) (by decide) (fun h88 => absurd h88 (by decide)) (fun h88 => ?_)
          refine jx_vret dX11_readQuarrel_91 rfl ?_
          have hcd : a = bb ∨ (T 1081 a >>> (nI bb &&& 31)) &&& 1 = 1 := by first | exact Or.inl h59 | exact Or.inr h76
          rw [if_neg (fun q => q h54), if_pos hcd]
          refine ⟨rfl, _, rfl, eqL_t hL4 (eqN_L (wrg_n _ _)), ?_, fun q => ?_⟩
          · show P3 _ sz tp (pWr 4 x4); exact P3_wr hP4 (by omega) (by omega)
          · have q2 : (pWr 4 x4).2.1 = 0 := q
            unfold pWr at q2; rw [if_pos h54] at q2; cases q2
        · refine jx_aload_n dX11_readQuarrel_62 rfl ?_
          refine jx_getR dX11_readQuarrel_63 flX11_62 rfl rfl (hR _ _ _ rfl) ?_
          refine jx_bipush (v := 6) dX11_readQuarrel_66 (by decide) ?_
          refine jx_iload_n dX11_readQuarrel_68 rfl ?_
          refine jx_iaddE (z := nI (6 + a)) dX11_readQuarrel_69 (nI_add 6 a) ?_
          refine jx_ialdE (6 + a) dX11_readQuarrel_70 rfl (rfl) (by omega) (by omega) (hT4.g 1081 a (decide_eq_true (by omega)) rfl) ?_
          refine jx_iload_n dX11_readQuarrel_71 rfl ?_
          refine jx_ishr dX11_readQuarrel_72 ?_
          refine jx_iconst (v := 1) dX11_readQuarrel_73 (by decide) ?_
          refine jx_iand dX11_readQuarrel_74 ?_
          refine jx_iconst (v := 1) dX11_readQuarrel_75 (by decide) ?_
          refine jx_icmp_ne 84 dX11_readQuarrel_76 (by decide) (fun h76 => ?_) (fun h76 => ?_)
          · refine jx_aload_n dX11_readQuarrel_84 rfl ?_
            refine jx_getIE dX11_readQuarrel_85 flX11_240 rfl rfl (hP4.1.2.2.2.1) ?_
            refine jx_ifN_eq (a := x4.2.1) 92 dX11_readQuarrel_88 (by decide) (by omega) (fun h88 => ?_) (fun h88 => ?_)
            · refine jx_aload_n dX11_readQuarrel_92 rfl ?_
              refine jx_VRv (as := []) dX11_readQuarrel_93 mlX11_265 okX11_stepOn viX11_stepOn rfl rfl rfl rfl rfl (by decide) (Nat.le_of_ble_eq_true rfl) (tX11_stepOn hW hR hP4.1.1 hP4.1.2.1.1 (tEnd_le hP4.1.2.2.1).2) (fun t93 hq93 => ?_)
              obtain ⟨J5, rfl, he5, hts5⟩ := hq93
              have hP5 : P3 J5 sz tp (stX tp sz x4) := P3_step (b := x4.1) (bd := x4.2.1) (bp := x4.2.2) hP4 he5 hts5
              have hT5 : TL J5 T := TL_n hT4 (eqT_n he5)
              refine jx_aload_n dX11_readQuarrel_96 rfl ?_
              refine jx_getR dX11_readQuarrel_97 flX11_62 rfl rfl (hR _ _ _ rfl) ?_
              refine jx_bipush (v := 6) dX11_readQuarrel_100 (by decide) ?_
              refine jx_iload_n dX11_readQuarrel_102 rfl ?_
              refine jx_iaddE (z := nI (6 + a)) dX11_readQuarrel_103 (nI_add 6 a) ?_
              refine jx_dup2 dX11_readQuarrel_104 rfl rfl ?_
              refine jx_ialdE (6 + a) dX11_readQuarrel_105 rfl (rfl) (by omega) (by omega) (hT5.g 1081 a (decide_eq_true (by omega)) rfl) ?_
              refine jx_iconst (v := 1) dX11_readQuarrel_106 (by decide) ?_
              refine jx_iload_n dX11_readQuarrel_107 rfl ?_
              refine jx_ishl dX11_readQuarrel_108 ?_
              refine jx_ior dX11_readQuarrel_109 ?_
              refine jx_iastN (6 + a) dX11_readQuarrel_110 rfl (rfl) (by omega) (by omega) ?_
              refine jx_aload_n dX11_readQuarrel_111 rfl ?_
              refine jx_getR dX11_readQuarrel_112 flX11_62 rfl rfl (hR _ _ _ rfl) ?_
              refine jx_bipush (v := 6) dX11_readQuarrel_115 (by decide) ?_
              refine jx_iload_n dX11_readQuarrel_117 rfl ?_
              refine jx_iaddE (z := nI (6 + bb)) dX11_readQuarrel_118 (nI_add 6 bb) ?_
              refine jx_dup2 dX11_readQuarrel_119 rfl rfl ?_
              refine jx_ialdE (6 + bb) dX11_readQuarrel_120 rfl (rfl) (by omega) (by omega) ((TL_uk hT5 1081 a _ rfl).g 1081 bb (decide_eq_true (by omega)) rfl) ?_
              refine jx_iconst (v := 1) dX11_readQuarrel_121 (by decide) ?_
              refine jx_iload_n dX11_readQuarrel_122 rfl ?_
              refine jx_ishl dX11_readQuarrel_123 ?_
              refine jx_ior dX11_readQuarrel_124 ?_
              refine jx_iastN (6 + bb) dX11_readQuarrel_125 rfl (rfl) (by omega) (by omega) ?_
              refine jx_aload_n dX11_readQuarrel_126 rfl ?_
              refine jx_getR dX11_readQuarrel_127 flX11_34 rfl rfl (hR _ _ _ rfl) ?_
              refine jx_bipush (v := 28) dX11_readQuarrel_130 (by decide) ?_
              refine jx_dup2 dX11_readQuarrel_132 rfl rfl ?_
              refine jx_ialdE (28) dX11_readQuarrel_133 rfl (rfl) (by omega) (by omega) ((upI_nea (by decide)).trans ((upI_nea (by decide)).trans ((hT5.g 1072 11 rfl rfl).trans hnq.1))) ?_
              refine jx_iconst (v := 1) dX11_readQuarrel_134 (by decide) ?_
              refine jx_iaddE (z := nI ((cN (T 1072 11)) + 1)) dX11_readQuarrel_135 (nI_add (cN (T 1072 11)) 1) ?_
              refine jx_iastN (28) dX11_readQuarrel_136 rfl (rfl) (by omega) (by omega) ?_
              refine jx_vret dX11_readQuarrel_137 rfl ?_
              rw [if_neg (fun q => q h54), if_neg (fun q => by rcases q with q | q; exact h59 q; exact h76 q)]
              exact ⟨rfl, _, rfl, eqL_u (eqL_u (eqL_u (eqL_t hL4 (eqN_L (eqT_n he5))) (decide_eq_true (by omega))) (decide_eq_true (by omega))) rfl, P3_u (P3_u (P3_u hP5 (by decide) (by decide)) (by decide) (by decide)) (by decide) (by decide), fun _ => TL_uk (TL_uk (TL_uk hT5 1081 a _ rfl) 1081 bb _ rfl) 1072 11 _ rfl⟩
            · exact absurd h54 h88
          · refine jx_aload_n dX11_readQuarrel_79 rfl ?_
            refine jx_iconst (v := 4) dX11_readQuarrel_80 (by decide) ?_
            refine jx_Vv (as := [.int _]) dX11_readQuarrel_81 mlX11_261 okX11_wrong viX11_wrong rfl rfl rfl rfl rfl (by decide) (Nat.le_of_ble_eq_true rfl) (tX11_wrongP (k := 4) hW hP4.1) ?_
            have hw4 : P3 (wrg J4 x4.2.1 4) sz tp (x4.1, 4, x4.1) := by have q := P3_wr hP4 (k := 4) (by omega) (by omega); unfold pWr at q; rw [if_pos h54] at q; exact q
            refine jx_aload_n dX11_readQuarrel_84 rfl ?_
            refine jx_getIE dX11_readQuarrel_85 flX11_240 rfl rfl (hw4.1.2.2.2.1) ?_
            refine jx_ifN_eq (a := 4) 92 dX11_readQuarrel_88 (by decide) (by decide) (fun h88 => absurd h88 (by decide)) (fun h88 => ?_)
            refine jx_vret dX11_readQuarrel_91 rfl ?_
            have hcd : a = bb ∨ (T 1081 a >>> (nI bb &&& 31)) &&& 1 = 1 := by first | exact Or.inl h59 | exact Or.inr h76
            rw [if_neg (fun q => q h54), if_pos hcd]
            refine ⟨rfl, _, rfl, eqL_t hL4 (eqN_L (wrg_n _ _)), ?_, fun q => ?_⟩
            · show P3 _ sz tp (pWr 4 x4); exact P3_wr hP4 (by omega) (by omega)
            · have q2 : (pWr 4 x4).2.1 = 0 := q
              unfold pWr at q2; rw [if_pos h54] at q2; cases q2
    have hx45 : x2.2.1 ≤ 5 := hx5
    refine jx_aload_n dX11_readQuarrel_34 rfl ?_
    refine jx_getIE dX11_readQuarrel_35 flX11_240 rfl rfl (hP2.1.2.2.2.1) ?_
    refine jx_ifN_ne (a := x2.2.1) 45 dX11_readQuarrel_38 (by decide) (by omega) (fun h38 => ?_) (fun h38 => ?_)
    · skip
      exact jx_ls (by exact ⟨rfl, rfl, trivial⟩) (key J2 (by unfold stG; rw [if_neg h38]; exact hP2) hT2 hL2)
    · refine jx_aload_n dX11_readQuarrel_41 rfl ?_
      refine jx_VRv (as := []) dX11_readQuarrel_42 mlX11_265 okX11_stepOn viX11_stepOn rfl rfl rfl rfl rfl (by decide) (Nat.le_of_ble_eq_true rfl) (tX11_stepOn hW hR hP2.1.1 hP2.1.2.1.1 (tEnd_le hP2.1.2.2.1).2) (fun t42 hq42 => ?_)
      obtain ⟨J3, rfl, he3, hts3⟩ := hq42
      have hP3 : P3 J3 sz tp (stX tp sz x2) := P3_step (b := x2.1) (bd := x2.2.1) (bp := x2.2.2) hP2 he3 hts3
      exact jx_ls (by exact ⟨rfl, rfl, trivial⟩) (key J3 (by unfold stG; rw [if_pos h38]; exact hP3) (TL_n hT2 (eqT_n he3)) (eqL_t hL2 (eqN_L (eqT_n he3))))
  · refine jx_aload_n dX11_readQuarrel_12 rfl ?_
    refine jx_iconst (v := 2) dX11_readQuarrel_13 (by decide) ?_
    refine jx_Vv (as := [.int _]) dX11_readQuarrel_14 mlX11_261 okX11_wrong viX11_wrong rfl rfl rfl rfl rfl (by decide) (Nat.le_of_ble_eq_true rfl) (tX11_wrongP (k := 2) hW hP.1) ?_
    have hw2 : P3 (wrg I 0 2) sz tp (b, 2, b) := P3_wr hP (k := 2) (by omega) (by omega)
    refine jx_aload_n dX11_readQuarrel_17 rfl ?_
    refine jx_getIE dX11_readQuarrel_18 flX11_240 rfl rfl (hw2.1.2.2.2.1) ?_
    refine jx_ifN_eq (a := 2) 25 dX11_readQuarrel_21 (by decide) (by decide) (fun h21 => absurd h21 (by decide)) (fun h21 => ?_)
    refine jx_vret dX11_readQuarrel_24 rfl ?_
    rw [if_pos h9]
    exact ⟨rfl, _, rfl, eqN_L (wrg_n 0 2), hw2, fun q => absurd q (by show ¬ (2 = 0); decide)⟩
set_option maxHeartbeats 1000000 in
set_option maxRecDepth 20000 in
theorem tX11_readFog (hW : jWok w l) (hR : RS R) {sz : Nat} {tp : Nat → Nat} {x0 : Nat × Nat × Nat} {T : Nat → Nat → Int32} (hP : P3 I sz tp x0) (hT : TL I T) : jRv w l mX11_readFog 3 [.ref 1069] (n, shE, I, L, R) (fun t => ∃ J, t = (n, shE, J, L, R) ∧ eqL I J ∧ P3 J sz tp (fgL tp sz 4 0 x0 T).1 ∧ ((fgL tp sz 4 0 x0 T).1.2.1 = 0 → TL J (fgL tp sz 4 0 x0 T).2)) := by
  refine jRv_of hW (by decide) rfl (Nat.le_of_ble_eq_true rfl) ?_
  generalize hres : fgL tp sz 4 0 x0 T = res
  have keyB : ∀ (I1 : Nat → Nat → Int32) (k all : Nat), k ≤ 4 → P3 I1 sz tp res.1 → res.1.2.1 ≠ 0 → eqL I I1 → jWP w l mX11_readFog 3 0 0 (fun v t => v = none ∧ ∃ J, t = (n, shE, J, L, R) ∧ eqL I J ∧ P3 J sz tp res.1 ∧ (res.1.2.1 = 0 → TL J res.2)) (fun _ _ => False) 4 [(0, .ref 1069), (1, .int (nI all)), (2, .int (nI k))] [] (n, shE, I1, L, R) := by
    intro I1 k all hk hP1 hb hL1
    have hb5 : res.1.2.1 ≤ 5 := hP1.1.2.2.2.2
    refine jx_iload_n dX11_readFog_4 rfl ?_
    refine jx_iconst (v := 4) dX11_readFog_5 (by decide) ?_
    refine jx_icmpN_ge (a := k) (b := 4) 76 dX11_readFog_6 (by decide) (by omega) (by omega) (fun h6 => ?_) (fun h6 => ?_)
    · refine jx_vret dX11_readFog_76 rfl ?_
      exact ⟨rfl, _, rfl, hL1, hP1, fun q => absurd q hb⟩
    · refine jx_aload_n dX11_readFog_9 rfl ?_
      refine jx_getIE dX11_readFog_10 flX11_240 rfl rfl (hP1.1.2.2.2.1) ?_
      refine jx_ifN_ne (a := res.1.2.1) 76 dX11_readFog_13 (by decide) (by omega) (fun h13 => ?_) (fun h13 => ?_)
      · refine jx_vret dX11_readFog_76 rfl ?_
        exact ⟨rfl, _, rfl, hL1, hP1, fun q => absurd q hb⟩
      · exact absurd h13 hb
  have key : ∀ (r k all : Nat) (I1 T1 : Nat → Nat → Int32) (x : Nat × Nat × Nat), k + r = 4 → all ≤ 9 * k → P3 I1 sz tp x → TL I1 T1 → eqL I I1 → fgL tp sz r all x T1 = res → jWP w l mX11_readFog 3 0 0 (fun v t => v = none ∧ ∃ J, t = (n, shE, J, L, R) ∧ eqL I J ∧ P3 J sz tp res.1 ∧ (res.1.2.1 = 0 → TL J res.2)) (fun _ _ => False) 4 [(0, .ref 1069), (1, .int (nI all)), (2, .int (nI k))] [] (n, shE, I1, L, R) := by
    intro r
    induction r with
    | zero =>
      intro k all I1 T1 x hk ha hP1 hT1 hL1 hr
      have hr : (x, T1) = res := hr
      refine jx_iload_n dX11_readFog_4 rfl ?_
      refine jx_iconst (v := 4) dX11_readFog_5 (by decide) ?_
      refine jx_icmpN_ge (a := k) (b := 4) 76 dX11_readFog_6 (by decide) (by omega) (by omega) (fun h6 => ?_) (fun h6 => ?_)
      · refine jx_vret dX11_readFog_76 rfl ?_
        subst hr
        exact ⟨rfl, _, rfl, hL1, hP1, fun _ => hT1⟩
      · exact absurd h6 (by omega)
    | succ r ih =>
      rintro k all I1 T1 ⟨b, bd, bp⟩ hk ha hP1 hT1 hL1 hr
      have hb5 : bd ≤ 5 := hP1.1.2.2.2.2
      have hnw := P3_nw (lo := 0) (hi := 9) hP1
      have hv9 : vNu tp sz 0 9 (b, bd, bp) ≤ 9 := vNu_le
      rw [fgL] at hr
      refine jx_iload_n dX11_readFog_4 rfl ?_
      refine jx_iconst (v := 4) dX11_readFog_5 (by decide) ?_
      refine jx_icmpN_ge (a := k) (b := 4) 76 dX11_readFog_6 (by decide) (by omega) (by omega) (fun h6 => ?_) (fun h6 => ?_)
      · exact absurd h6 (by omega)
      · refine jx_aload_n dX11_readFog_9 rfl ?_
        refine jx_getIE dX11_readFog_10 flX11_240 rfl rfl (hP1.1.2.2.2.1) ?_
        refine jx_ifN_ne (a := bd) 76 dX11_readFog_13 (by decide) (by omega) (fun h13 => ?_) (fun h13 => ?_)
        · have hx2 : pNw tp sz 0 9 (b, bd, bp) = (b, bd, bp) := by unfold pNw; rw [if_neg h13]
          rw [hx2, if_pos h13] at hr
          subst hr
          refine jx_vret dX11_readFog_76 rfl ?_
          exact ⟨rfl, _, rfl, hL1, hP1, fun q => absurd q h13⟩
        · refine jx_aload_n dX11_readFog_16 rfl ?_
          refine jx_iconst (v := 0) dX11_readFog_17 (by decide) ?_
          refine jx_bipush (v := 9) dX11_readFog_18 (by decide) ?_
          refine jx_Vi (as := [.int _, .int _]) dX11_readFog_20 mlX11_268 okX11_numberNow viX11_numberNow rfl rfl rfl rfl rfl (by decide) (Nat.le_of_ble_eq_true rfl) (tX11_numberNow (lo := 0) (hi := 9) hW hR hP1.1 (by omega) (by omega)) ?_
          rw [hnw.2.2]
          obtain ⟨hx, he, -⟩ := hnw
          generalize hJ2 : (if numC tp sz b 0 9 = 0 then I1 else wrg I1 bd (numC tp sz b 0 9)) = J2 at hx he ⊢
          generalize hx2 : pNw tp sz 0 9 (b, bd, bp) = x2 at hx hr
          generalize hv2 : vNu tp sz 0 9 (b, bd, bp) = v2 at hv9 hr ⊢
          have hx5 : x2.2.1 ≤ 5 := hx.1.2.2.2.2
          refine jx_istore_n dX11_readFog_23 rfl (by decide) ?_
          refine jx_iload_n dX11_readFog_24 rfl ?_
          refine jx_iload_n dX11_readFog_25 rfl ?_
          refine jx_iaddE (z := nI (all + v2)) dX11_readFog_26 (nI_add all v2) ?_
          refine jx_istore_n dX11_readFog_27 rfl (by decide) ?_
          refine jx_aload_n dX11_readFog_28 rfl ?_
          refine jx_getIE dX11_readFog_29 flX11_240 rfl rfl (hx.1.2.2.2.1) ?_
          refine jx_ifN_ne (a := x2.2.1) 49 dX11_readFog_32 (by decide) (by omega) (fun h32 => ?_) (fun h32 => ?_)
          · skip
            refine jx_aload_n dX11_readFog_49 rfl ?_
            refine jx_getR dX11_readFog_50 flX11_34 rfl rfl (hR _ _ _ rfl) ?_
            refine jx_bipush (v := 29) dX11_readFog_53 (by decide) ?_
            refine jx_iload_n dX11_readFog_55 rfl ?_
            refine jx_iaddE (z := nI (29 + k)) dX11_readFog_56 (nI_add 29 k) ?_
            refine jx_iload_n dX11_readFog_57 rfl ?_
            refine jx_iastN (29 + k) dX11_readFog_58 rfl (rfl) (by omega) (by omega) ?_
            refine jx_aload_n dX11_readFog_59 rfl ?_
            refine jx_getIE dX11_readFog_60 flX11_240 rfl rfl ((upI_nea (by decide)).trans hx.1.2.2.2.1) ?_
            refine jx_ifN_ne (a := x2.2.1) 70 dX11_readFog_63 (by decide) (by omega) (fun h63 => ?_) (fun h63 => ?_)
            · refine jx_iinc dX11_readFog_70 rfl (v := nI (k + 1)) (nI_1 _) (by decide) ?_
              refine jx_goto 4 dX11_readFog_73 (by decide) ?_
              rw [if_pos h32] at hr
              subst hr
              exact jx_ls (by exact ⟨rfl, rfl, rfl, trivial⟩) (keyB _ (k + 1) (all + v2) (by omega) (P3_u hx (by decide) (by decide)) h32 (eqL_u (eqL_t hL1 (eqN_L he)) (decide_eq_true (by omega))))
            · exact absurd h63 h32
          · refine jx_iload_n dX11_readFog_35 rfl ?_
            refine jx_iconst (v := 3) dX11_readFog_36 (by decide) ?_
            refine jx_icmpN_ne (a := k) (b := 3) 49 dX11_readFog_37 (by decide) (by omega) (by omega) (fun h37 => ?_) (fun h37 => ?_)
            · skip
              refine jx_aload_n dX11_readFog_49 rfl ?_
              refine jx_getR dX11_readFog_50 flX11_34 rfl rfl (hR _ _ _ rfl) ?_
              refine jx_bipush (v := 29) dX11_readFog_53 (by decide) ?_
              refine jx_iload_n dX11_readFog_55 rfl ?_
              refine jx_iaddE (z := nI (29 + k)) dX11_readFog_56 (nI_add 29 k) ?_
              refine jx_iload_n dX11_readFog_57 rfl ?_
              refine jx_iastN (29 + k) dX11_readFog_58 rfl (rfl) (by omega) (by omega) ?_
              refine jx_aload_n dX11_readFog_59 rfl ?_
              refine jx_getIE dX11_readFog_60 flX11_240 rfl rfl ((upI_nea (by decide)).trans hx.1.2.2.2.1) ?_
              have hPu : P3 (upI J2 1072 (29 + k) (nI v2)) sz tp x2 := P3_u hx (by decide) (by decide)
              refine jx_ifN_ne (a := x2.2.1) 70 dX11_readFog_63 (by decide) (by omega) (fun h63 => ?_) (fun h63 => ?_)
              · exact absurd h32 h63
              · refine jx_aload_n dX11_readFog_66 rfl ?_
                refine jx_VRv (as := []) dX11_readFog_67 mlX11_265 okX11_stepOn viX11_stepOn rfl rfl rfl rfl rfl (by decide) (Nat.le_of_ble_eq_true rfl) (tX11_stepOn hW hR hPu.1.1 hPu.1.2.1.1 (tEnd_le hPu.1.2.2.1).2) (fun t67 hq67 => ?_)
                obtain ⟨J4, rfl, he4, hts4⟩ := hq67
                have hP4 : P3 J4 sz tp (stX tp sz x2) := P3_step (b := x2.1) (bd := x2.2.1) (bp := x2.2.2) hPu he4 hts4
                refine jx_iinc dX11_readFog_70 rfl (v := nI (k + 1)) (nI_1 _) (by decide) ?_
                refine jx_goto 4 dX11_readFog_73 (by decide) ?_
                rw [if_neg (fun q => q h32), if_neg (show ¬ (r = 0 ∧ all + v2 = 0) by omega)] at hr
                have hk3 : 12 + (3 - r) = 12 + k := by omega
                rw [hk3] at hr
                exact jx_ls (by exact ⟨rfl, rfl, rfl, trivial⟩) (ih (k + 1) (all + v2) _ _ _ (by omega) (by omega) hP4 (TL_n (TL_uk (TL_n hT1 he) 1072 (12 + k) (nI v2) (by show 17 + (12 + k) = _; omega)) (eqT_n he4)) (eqL_t (eqL_u (eqL_t hL1 (eqN_L he)) (decide_eq_true (by omega))) (eqN_L (eqT_n he4))) hr)
            · refine jx_iload_n dX11_readFog_40 rfl ?_
              refine jx_ifN_ne (a := (all + v2)) 49 dX11_readFog_41 (by decide) (by omega) (fun h41 => ?_) (fun h41 => ?_)
              · skip
                refine jx_aload_n dX11_readFog_49 rfl ?_
                refine jx_getR dX11_readFog_50 flX11_34 rfl rfl (hR _ _ _ rfl) ?_
                refine jx_bipush (v := 29) dX11_readFog_53 (by decide) ?_
                refine jx_iload_n dX11_readFog_55 rfl ?_
                refine jx_iaddE (z := nI (29 + k)) dX11_readFog_56 (nI_add 29 k) ?_
                refine jx_iload_n dX11_readFog_57 rfl ?_
                refine jx_iastN (29 + k) dX11_readFog_58 rfl (rfl) (by omega) (by omega) ?_
                refine jx_aload_n dX11_readFog_59 rfl ?_
                refine jx_getIE dX11_readFog_60 flX11_240 rfl rfl ((upI_nea (by decide)).trans hx.1.2.2.2.1) ?_
                have hPu : P3 (upI J2 1072 (29 + k) (nI v2)) sz tp x2 := P3_u hx (by decide) (by decide)
                refine jx_ifN_ne (a := x2.2.1) 70 dX11_readFog_63 (by decide) (by omega) (fun h63 => ?_) (fun h63 => ?_)
                · exact absurd h32 h63
                · refine jx_aload_n dX11_readFog_66 rfl ?_
                  refine jx_VRv (as := []) dX11_readFog_67 mlX11_265 okX11_stepOn viX11_stepOn rfl rfl rfl rfl rfl (by decide) (Nat.le_of_ble_eq_true rfl) (tX11_stepOn hW hR hPu.1.1 hPu.1.2.1.1 (tEnd_le hPu.1.2.2.1).2) (fun t67 hq67 => ?_)
                  obtain ⟨J4, rfl, he4, hts4⟩ := hq67
                  have hP4 : P3 J4 sz tp (stX tp sz x2) := P3_step (b := x2.1) (bd := x2.2.1) (bp := x2.2.2) hPu he4 hts4
                  refine jx_iinc dX11_readFog_70 rfl (v := nI (k + 1)) (nI_1 _) (by decide) ?_
                  refine jx_goto 4 dX11_readFog_73 (by decide) ?_
                  rw [if_neg (fun q => q h32), if_neg (show ¬ (r = 0 ∧ all + v2 = 0) by omega)] at hr
                  have hk3 : 12 + (3 - r) = 12 + k := by omega
                  rw [hk3] at hr
                  exact jx_ls (by exact ⟨rfl, rfl, rfl, trivial⟩) (ih (k + 1) (all + v2) _ _ _ (by omega) (by omega) hP4 (TL_n (TL_uk (TL_n hT1 he) 1072 (12 + k) (nI v2) (by show 17 + (12 + k) = _; omega)) (eqT_n he4)) (eqL_t (eqL_u (eqL_t hL1 (eqN_L he)) (decide_eq_true (by omega))) (eqN_L (eqT_n he4))) hr)
              · refine jx_aload_n dX11_readFog_44 rfl ?_
                refine jx_iconst (v := 2) dX11_readFog_45 (by decide) ?_
                refine jx_Vv (as := [.int _]) dX11_readFog_46 mlX11_261 okX11_wrong viX11_wrong rfl rfl rfl rfl rfl (by decide) (Nat.le_of_ble_eq_true rfl) (tX11_wrongP (k := 2) hW hx.1) ?_
                have hw2 : P3 (wrg J2 x2.2.1 2) sz tp (x2.1, 2, x2.1) := by have q := P3_wr hx (k := 2) (by omega) (by omega); unfold pWr at q; rw [if_pos h32] at q; exact q
                refine jx_aload_n dX11_readFog_49 rfl ?_
                refine jx_getR dX11_readFog_50 flX11_34 rfl rfl (hR _ _ _ rfl) ?_
                refine jx_bipush (v := 29) dX11_readFog_53 (by decide) ?_
                refine jx_iload_n dX11_readFog_55 rfl ?_
                refine jx_iaddE (z := nI (29 + k)) dX11_readFog_56 (nI_add 29 k) ?_
                refine jx_iload_n dX11_readFog_57 rfl ?_
                refine jx_iastN (29 + k) dX11_readFog_58 rfl (rfl) (by omega) (by omega) ?_
                refine jx_aload_n dX11_readFog_59 rfl ?_
                refine jx_getIE dX11_readFog_60 flX11_240 rfl rfl ((upI_nea (by decide)).trans hw2.1.2.2.2.1) ?_
                refine jx_ifN_ne (a := 2) 70 dX11_readFog_63 (by decide) (by decide) (fun h63 => ?_) (fun h63 => absurd h63 (by decide))
                refine jx_iinc dX11_readFog_70 rfl (v := nI (k + 1)) (nI_1 _) (by decide) ?_
                refine jx_goto 4 dX11_readFog_73 (by decide) ?_
                have e2 : pWr 2 x2 = (x2.1, 2, x2.1) := by unfold pWr; rw [if_pos h32]
                rw [if_neg (fun q => q h32), if_pos (show r = 0 ∧ all + v2 = 0 by omega), e2] at hr
                subst hr
                exact jx_ls (by exact ⟨rfl, rfl, rfl, trivial⟩) (keyB _ (k + 1) (all + v2) (by omega) (P3_u hw2 (by decide) (by decide)) (by show 2 ≠ 0; decide) (eqL_u (eqL_t hL1 (eqL_t (eqN_L he) (eqN_L (wrg_n _ _)))) (decide_eq_true (by omega))))
  refine jx_iconst (v := 0) dX11_readFog_0 (by decide) ?_
  refine jx_istore_n dX11_readFog_1 rfl (by decide) ?_
  refine jx_iconst (v := 0) dX11_readFog_2 (by decide) ?_
  refine jx_istore_n dX11_readFog_3 rfl (by decide) ?_
  exact jx_ls (by exact ⟨rfl, rfl, rfl, trivial⟩) (key 4 0 0 I T x0 (by omega) (by omega) hP hT (eqL_r _) hres)
end RG1
