/-! THE CLASS: quarrels, fog, which line it is -/
section CZ7
variable {w : jWD} {l : Launch} {n : Nat} {I J : Nat → Nat → Int32} {L M : Nat → Nat → Int64} {R : Nat → Nat → Option Nat} {sz : Nat} {tp : Nat → Nat} {x : Nat × Nat × Nat} {T : Nat → Nat → Int32} {h W H np len s : Nat}
theorem pPt_b (hx : x.2.1 ≠ 0) : pPt tp sz np x = x := by unfold pPt; rw [pNw_b hx, if_neg (fun q => hx q.1)]

set_option maxHeartbeats 1000000 in
set_option maxRecDepth 20000 in
theorem tX5_readQuarrel (hW : jWok w l) (hR : RS R) (hS : LnS R sz tp h W H np len I L x T s) : jRi w l mX5_readQuarrel 4 [.ref 1004] (n, shE, I, L, R) (LnQ n R sz tp h W H I L (liQrl tp sz x T) s) := by
  refine jRi_of hW (by decide) rfl (Nat.le_of_ble_eq_true rfl) ?_
  obtain ⟨hh, hRt, hx, h0, hC, hs, hB⟩ := hS
  obtain ⟨dW, dH, hWb, hHb, hWH, dnp, hnp⟩ := BT_d hB
  have hq := hB.2.2.1
  have h10 : T 1072 10 = nI np := hB.1.2.2.2.2.1.1
  have hI3 : I h 3 = nI np := hC.2.2.2.2.2.2.2.2.1.1.trans h10
  have hI4 : I h 4 = nI (cN (T 1072 11)) := hC.2.2.2.2.2.2.2.2.2.1.1.trans hq.1
  have h01 : (stX tp sz x).2.1 = 0 := h0
  have hfa : cN (T 1072 11) = 6 → liQrl tp sz x T = (pWr 2 x, T) := fun q => by unfold liQrl; rw [if_pos q]
  have hfb : cN (T 1072 11) ≠ 6 → (pPt tp sz np (stX tp sz x)).2.1 ≠ 0 → liQrl tp sz x T = (pPt tp sz np (stX tp sz x), T) := fun q r => by
    have e2 : stG tp sz (pPt tp sz np (stX tp sz x)) = pPt tp sz np (stX tp sz x) := by unfold stG; rw [if_neg r]
    unfold liQrl; rw [if_neg q, dnp, e2, pPt_b r, if_pos r]
  have hfc : cN (T 1072 11) ≠ 6 → (pPt tp sz np (stX tp sz x)).2.1 = 0 → (pPt tp sz np (stX tp sz (pPt tp sz np (stX tp sz x)))).2.1 ≠ 0 → liQrl tp sz x T = (pPt tp sz np (stX tp sz (pPt tp sz np (stX tp sz x))), T) := fun q r z => by
    have e2 : stG tp sz (pPt tp sz np (stX tp sz x)) = stX tp sz (pPt tp sz np (stX tp sz x)) := by unfold stG; rw [if_pos r]
    unfold liQrl; rw [if_neg q, dnp, e2, if_pos z]
  have hfd : cN (T 1072 11) ≠ 6 → (pPt tp sz np (stX tp sz x)).2.1 = 0 → (pPt tp sz np (stX tp sz (pPt tp sz np (stX tp sz x)))).2.1 = 0 → liQrl tp sz x T = if vPt tp sz np (stX tp sz x) = vPt tp sz np (stX tp sz (pPt tp sz np (stX tp sz x))) ∨ (T 1081 (vPt tp sz np (stX tp sz x)) >>> (nI (vPt tp sz np (stX tp sz (pPt tp sz np (stX tp sz x)))) &&& 31)) &&& 1 = 1 then (pWr 4 (pPt tp sz np (stX tp sz (pPt tp sz np (stX tp sz x)))), T) else (stX tp sz (pPt tp sz np (stX tp sz (pPt tp sz np (stX tp sz x)))), qrH T (vPt tp sz np (stX tp sz x)) (vPt tp sz np (stX tp sz (pPt tp sz np (stX tp sz x))))) := fun q r z => by
    have e2 : stG tp sz (pPt tp sz np (stX tp sz x)) = stX tp sz (pPt tp sz np (stX tp sz x)) := by unfold stG; rw [if_pos r]
    unfold liQrl; rw [if_neg q, dnp, e2, if_neg (fun y => y z)]
  rcases hh with rfl | rfl
  all_goals
    refine jx_aload_n dX5_readQuarrel_0 rfl ?_
    refine jx_getR dX5_readQuarrel_1 flX5_33 rfl rfl hRt ?_
    refine jx_getIE dX5_readQuarrel_4 flX5_272 rfl rfl (hI4) ?_
    refine jx_bipush (v := 6) dX5_readQuarrel_7 (by decide) ?_
    refine jx_icmpN_lt (a := (cN (T 1072 11))) (b := 6) 21 dX5_readQuarrel_9 (by decide) (by omega) (by omega) (fun h9 => ?_) (fun h9 => ?_)
    · have hn6 : cN (T 1072 11) ≠ 6 := by omega
      refine jx_aload_n dX5_readQuarrel_21 rfl ?_
      refine jx_getR dX5_readQuarrel_22 flX5_14 rfl rfl (hR _ _ _ rfl) ?_
      refine jx_VRv (as := []) dX5_readQuarrel_25 mlX5_80 okX9_advance viX9_advance rfl rfl rfl rfl rfl (by decide) (Nat.le_of_ble_eq_true rfl) (tX9_advance_x hW hR hx) (fun t25 hq25 => ?_)
      obtain ⟨J1, rfl, fJ1, gJ1⟩ := hq25
      refine jx_aload_n dX5_readQuarrel_28 rfl ?_
      refine jx_VRi (as := []) dX5_readQuarrel_29 mlX5_275 okX5_isParty viX5_isParty rfl rfl rfl rfl rfl (by decide) (Nat.le_of_ble_eq_true rfl) (tX5_isParty hW hR gJ1 h01 (by decide) hRt ((fJ1 _ _ (by decide)).trans hI3) hnp) (fun x29 t29 hq29 => ?_)
      obtain ⟨J2, rfl, fJ2, gJ2, vJ2, rfl⟩ := hq29
      refine jx_ifB_ne 37 dX5_readQuarrel_32 (by decide) (fun h32 => ?_) (fun h32 => ?_)
      · have hz1 := of_decide_eq_true h32
        have ha6 : vPt tp sz np (stX tp sz x) < 6 := by have := (vJ2 hz1).2; omega
        have hanp := (vJ2 hz1).2
        refine jx_aload_n dX5_readQuarrel_37 rfl ?_
        refine jx_getR dX5_readQuarrel_38 flX5_14 rfl rfl (hR _ _ _ rfl) ?_
        refine jx_getIE dX5_readQuarrel_41 flX5_180 rfl rfl ((vJ2 hz1).1) ?_
        refine jx_istore_n dX5_readQuarrel_44 rfl (by decide) ?_
        refine jx_aload_n dX5_readQuarrel_45 rfl ?_
        refine jx_getR dX5_readQuarrel_46 flX5_14 rfl rfl (hR _ _ _ rfl) ?_
        refine jx_VRv (as := []) dX5_readQuarrel_49 mlX5_80 okX9_advance viX9_advance rfl rfl rfl rfl rfl (by decide) (Nat.le_of_ble_eq_true rfl) (tX9_advance_x hW hR gJ2) (fun t49 hq49 => ?_)
        obtain ⟨J3, rfl, fJ3, gJ3⟩ := hq49
        refine jx_aload_n dX5_readQuarrel_52 rfl ?_
        refine jx_VRi (as := []) dX5_readQuarrel_53 mlX5_275 okX5_isParty viX5_isParty rfl rfl rfl rfl rfl (by decide) (Nat.le_of_ble_eq_true rfl) (tX5_isParty hW hR gJ3 hz1 (by decide) hRt ((fJ3 _ _ (by decide)).trans ((fJ2 _ _ (by decide)).trans ((fJ1 _ _ (by decide)).trans hI3))) hnp) (fun x53 t53 hq53 => ?_)
        obtain ⟨J4, rfl, fJ4, gJ4, vJ4, rfl⟩ := hq53
        have fo4 := (eqR_t (eqV_R fJ1) (eqR_t fJ2 (eqR_t (eqV_R fJ3) fJ4)))
        refine jx_ifB_ne 61 dX5_readQuarrel_56 (by decide) (fun h56 => ?_) (fun h56 => ?_)
        · have hz3 := of_decide_eq_true h56
          have hf := hfd hn6 hz1 hz3
          have hb6 : vPt tp sz np (stX tp sz (pPt tp sz np (stX tp sz x))) < 6 := by have := (vJ4 hz3).2; omega
          have hbnp := (vJ4 hz3).2
          refine jx_aload_n dX5_readQuarrel_61 rfl ?_
          refine jx_getR dX5_readQuarrel_62 flX5_14 rfl rfl (hR _ _ _ rfl) ?_
          refine jx_getIE dX5_readQuarrel_65 flX5_180 rfl rfl ((vJ4 hz3).1) ?_
          refine jx_istore_n dX5_readQuarrel_68 rfl (by decide) ?_
          refine jx_iload_n dX5_readQuarrel_69 rfl ?_
          refine jx_iload_n dX5_readQuarrel_70 rfl ?_
          refine jx_icmpN_eq (a := (vPt tp sz np (stX tp sz x))) (b := (vPt tp sz np (stX tp sz (pPt tp sz np (stX tp sz x))))) 93 dX5_readQuarrel_71 (by decide) (by omega) (by omega) (fun h71 => ?_) (fun h71 => ?_)
          · rw [if_pos (Or.inl h71)] at hf
            have hz5 : (pWr 4 (pPt tp sz np (stX tp sz (pPt tp sz np (stX tp sz x))))).2.1 ≠ 0 := pWr_z hz3 (by decide)
            refine jx_aload_n dX5_readQuarrel_93 rfl ?_
            refine jx_getR dX5_readQuarrel_94 flX5_14 rfl rfl (hR _ _ _ rfl) ?_
            refine jx_iconst (v := 4) dX5_readQuarrel_97 (by decide) ?_
            refine jx_VRi (as := [.int _]) dX5_readQuarrel_98 mlX5_141 okX9_refuse viX9_refuse rfl rfl rfl rfl rfl (by decide) (Nat.le_of_ble_eq_true rfl) (tX9_refuse_x (k := 4) hW hR gJ4 hz3 (by decide)) (fun x98 t98 hq98 => ?_)
            obtain ⟨J5, rfl, fJ5, gJ5, rfl⟩ := hq98
            refine jx_zret dX5_readQuarrel_101 rfl ?_ ?_
            · first | exact Or.inl rfl | exact Or.inr rfl | exact jb_or _
            exact ⟨_, rfl, LnQ_b hf hz5 (eqR_G (eqR_t fo4 fJ5)) (eqGL_r _ L) gJ5⟩
          · refine jx_aload_n dX5_readQuarrel_74 rfl ?_
            refine jx_getR dX5_readQuarrel_75 flX5_33 rfl rfl hRt ?_
            refine jx_getR dX5_readQuarrel_78 flX5_250 rfl rfl (hR _ _ _ rfl) ?_
            refine jx_iload_n dX5_readQuarrel_81 rfl ?_
            refine jx_aald5N (vPt tp sz np (stX tp sz x)) dX5_readQuarrel_82 rfl (rfl) (by omega) (by decide) (hR _ _ _ (by first | exact rtPa _ ha6 | exact rtPb _ ha6)) ?_
            refine jx_getIE dX5_readQuarrel_83 flX5_257 (by first | exact shPa _ ha6 | exact shPb _ ha6) rfl ((fo4 _ _ (tkR_a (by omega) _)).trans (hC.2.2.2.2.2.2.2.2.1.2 _ 5 (by omega) (by decide))) ?_
            refine jx_iload_n dX5_readQuarrel_86 rfl ?_
            refine jx_ishr dX5_readQuarrel_87 ?_
            refine jx_iconst (v := 1) dX5_readQuarrel_88 (by decide) ?_
            refine jx_iand dX5_readQuarrel_89 ?_
            refine jx_if_eq 102 dX5_readQuarrel_90 (by decide) (fun h90 => ?_) (fun h90 => ?_)
            · rw [if_neg (fun q => by
                rcases q with q | q
                · exact h71 q
                · rw [h90] at q; exact absurd q (by decide))] at hf
              refine jx_aload_n dX5_readQuarrel_102 rfl ?_
              refine jx_getR dX5_readQuarrel_103 flX5_14 rfl rfl (hR _ _ _ rfl) ?_
              refine jx_VRv (as := []) dX5_readQuarrel_106 mlX5_80 okX9_advance viX9_advance rfl rfl rfl rfl rfl (by decide) (Nat.le_of_ble_eq_true rfl) (tX9_advance_x hW hR gJ4) (fun t106 hq106 => ?_)
              obtain ⟨J5, rfl, fJ5, gJ5⟩ := hq106
              refine jx_aload_n dX5_readQuarrel_109 rfl ?_
              refine jx_getR dX5_readQuarrel_110 flX5_33 rfl rfl hRt ?_
              refine jx_getR dX5_readQuarrel_113 flX5_250 rfl rfl (hR _ _ _ rfl) ?_
              refine jx_iload_n dX5_readQuarrel_116 rfl ?_
              refine jx_aald5N (vPt tp sz np (stX tp sz x)) dX5_readQuarrel_117 rfl (rfl) (by omega) (by decide) (hR _ _ _ (by first | exact rtPa _ ha6 | exact rtPb _ ha6)) ?_
              refine jx_dup dX5_readQuarrel_118 rfl ?_
              refine jx_getI dX5_readQuarrel_119 flX5_257 (by first | exact shPa _ ha6 | exact shPb _ ha6) rfl ?_
              refine jx_iconst (v := 1) dX5_readQuarrel_122 (by decide) ?_
              refine jx_iload_n dX5_readQuarrel_123 rfl ?_
              refine jx_ishl dX5_readQuarrel_124 ?_
              refine jx_ior dX5_readQuarrel_125 ?_
              refine jx_putI dX5_readQuarrel_126 flX5_257 (by first | exact shPa _ ha6 | exact shPb _ ha6) rfl (fun r h => by cases h; rfl) ?_
              refine jx_aload_n dX5_readQuarrel_129 rfl ?_
              refine jx_getR dX5_readQuarrel_130 flX5_33 rfl rfl hRt ?_
              refine jx_getR dX5_readQuarrel_133 flX5_250 rfl rfl (hR _ _ _ rfl) ?_
              refine jx_iload_n dX5_readQuarrel_136 rfl ?_
              refine jx_aald5N (vPt tp sz np (stX tp sz (pPt tp sz np (stX tp sz x)))) dX5_readQuarrel_137 rfl (rfl) (by omega) (by decide) (hR _ _ _ (by first | exact rtPa _ hb6 | exact rtPb _ hb6)) ?_
              refine jx_dup dX5_readQuarrel_138 rfl ?_
              refine jx_getI dX5_readQuarrel_139 flX5_257 (by first | exact shPa _ hb6 | exact shPb _ hb6) rfl ?_
              refine jx_iconst (v := 1) dX5_readQuarrel_142 (by decide) ?_
              refine jx_iload_n dX5_readQuarrel_143 rfl ?_
              refine jx_ishl dX5_readQuarrel_144 ?_
              refine jx_ior dX5_readQuarrel_145 ?_
              refine jx_putI dX5_readQuarrel_146 flX5_257 (by first | exact shPa _ hb6 | exact shPb _ hb6) rfl (fun r h => by cases h; rfl) ?_
              refine jx_aload_n dX5_readQuarrel_149 rfl ?_
              refine jx_getR dX5_readQuarrel_150 flX5_33 rfl rfl hRt ?_
              refine jx_dup dX5_readQuarrel_153 rfl ?_
              refine jx_getIE dX5_readQuarrel_154 flX5_272 rfl rfl ((upI_nea (by omega)).trans ((upI_nea (by omega)).trans ((fJ5 _ _ (by decide)).trans ((fo4 _ _ (by decide)).trans hI4)))) ?_
              refine jx_iconst (v := 1) dX5_readQuarrel_157 (by decide) ?_
              refine jx_iaddE (z := nI ((cN (T 1072 11)) + 1)) dX5_readQuarrel_158 (nI_add (cN (T 1072 11)) 1) ?_
              refine jx_putI dX5_readQuarrel_159 flX5_272 rfl rfl (fun r h => by cases h; rfl) ?_
              refine jx_iconst (v := 1) dX5_readQuarrel_162 (by decide) ?_
              refine jx_zret dX5_readQuarrel_163 rfl ?_ ?_
              · first | exact Or.inl rfl | exact Or.inr rfl | exact jb_or _
              exact ⟨_, rfl, LnQ_g hf hz3 (eqG_u (eqG_u (eqG_u (eqR_G (eqR_t fo4 (eqV_R fJ5))) (gF_h (by omega) (by omega))) (gF_h (by omega) (by omega))) (gF_h (by decide) (by decide))) (eqGL_r _ L) (((gJ5.p (by omega)).p (by omega)).p (by decide)) (CTl_ql (by decide) (hC.r (by decide) (eqR_t fo4 (eqV_R fJ5)) (by omega)) dnp hnp hanp hbnp hq.1 (by omega)) (((upI_nea (by decide)).trans ((upI_nea (by omega)).trans (upI_nea (by omega)))).trans (((eqR_t fo4 (eqV_R fJ5)) 1004 3 (by decide)).trans hs))⟩
            · rw [if_pos (Or.inr (by
                have e := bt3_bit (x := T 1081 (vPt tp sz np (stX tp sz x))) (k := vPt tp sz np (stX tp sz (pPt tp sz np (stX tp sz x)))) (by omega)
                rw [e] at h90 ⊢
                cases z : bt3 (T 1081 (vPt tp sz np (stX tp sz x))) (vPt tp sz np (stX tp sz (pPt tp sz np (stX tp sz x))))
                · rw [z] at h90; exact absurd rfl h90
                · rfl))] at hf
              have hz5 : (pWr 4 (pPt tp sz np (stX tp sz (pPt tp sz np (stX tp sz x))))).2.1 ≠ 0 := pWr_z hz3 (by decide)
              refine jx_aload_n dX5_readQuarrel_93 rfl ?_
              refine jx_getR dX5_readQuarrel_94 flX5_14 rfl rfl (hR _ _ _ rfl) ?_
              refine jx_iconst (v := 4) dX5_readQuarrel_97 (by decide) ?_
              refine jx_VRi (as := [.int _]) dX5_readQuarrel_98 mlX5_141 okX9_refuse viX9_refuse rfl rfl rfl rfl rfl (by decide) (Nat.le_of_ble_eq_true rfl) (tX9_refuse_x (k := 4) hW hR gJ4 hz3 (by decide)) (fun x98 t98 hq98 => ?_)
              obtain ⟨J5, rfl, fJ5, gJ5, rfl⟩ := hq98
              refine jx_zret dX5_readQuarrel_101 rfl ?_ ?_
              · first | exact Or.inl rfl | exact Or.inr rfl | exact jb_or _
              exact ⟨_, rfl, LnQ_b hf hz5 (eqR_G (eqR_t fo4 fJ5)) (eqGL_r _ L) gJ5⟩
        · have hz3 := of_decide_eq_false h56
          have hf := hfc hn6 hz1 hz3
          refine jx_iconst (v := 0) dX5_readQuarrel_59 (by decide) ?_
          refine jx_zret dX5_readQuarrel_60 rfl ?_ ?_
          · first | exact Or.inl rfl | exact Or.inr rfl | exact jb_or _
          exact ⟨_, rfl, LnQ_b hf hz3 (eqR_G fo4) (eqGL_r _ L) gJ4⟩
      · have hz1 := of_decide_eq_false h32
        have hf := hfb hn6 hz1
        refine jx_iconst (v := 0) dX5_readQuarrel_35 (by decide) ?_
        refine jx_zret dX5_readQuarrel_36 rfl ?_ ?_
        · first | exact Or.inl rfl | exact Or.inr rfl | exact jb_or _
        exact ⟨_, rfl, LnQ_b hf hz1 (eqR_G (eqR_t (eqV_R fJ1) fJ2)) (eqGL_r _ L) gJ2⟩
    · have hf := hfa (by omega)
      have hz1 : (pWr 2 x).2.1 ≠ 0 := pWr_z h0 (by decide)
      refine jx_aload_n dX5_readQuarrel_12 rfl ?_
      refine jx_getR dX5_readQuarrel_13 flX5_14 rfl rfl (hR _ _ _ rfl) ?_
      refine jx_iconst (v := 2) dX5_readQuarrel_16 (by decide) ?_
      refine jx_VRi (as := [.int _]) dX5_readQuarrel_17 mlX5_141 okX9_refuse viX9_refuse rfl rfl rfl rfl rfl (by decide) (Nat.le_of_ble_eq_true rfl) (tX9_refuse_x (k := 2) hW hR hx h0 (by decide)) (fun x17 t17 hq17 => ?_)
      obtain ⟨J1, rfl, fJ1, gJ1, rfl⟩ := hq17
      refine jx_zret dX5_readQuarrel_20 rfl ?_ ?_
      · first | exact Or.inl rfl | exact Or.inr rfl | exact jb_or _
      exact ⟨_, rfl, LnQ_b hf hz1 (eqR_G fJ1) (eqGL_r _ L) gJ1⟩
set_option maxHeartbeats 1000000 in
set_option maxRecDepth 20000 in
theorem tX5_readFog (hW : jWok w l) (hR : RS R) (hS : LnS R sz tp h W H np len I L x T s) : jRi w l mX5_readFog 4 [.ref 1004] (n, shE, I, L, R) (LnQ n R sz tp h W H I L (fgL tp sz 4 0 x T) s) := by
  refine jRi_of hW (by decide) rfl (Nat.le_of_ble_eq_true rfl) ?_
  obtain ⟨hh, hRt, hx, h0, hC, hs, hB⟩ := hS
  obtain ⟨dW, dH, hWb, hHb, hWH, dnp, hnp⟩ := BT_d hB
  generalize hFF : fgL tp sz 4 0 x T = FF
  have key : ∀ r k, k + r = 4 → ∀ (all : Nat) (K : Nat → Nat → Int32) (X : Nat × Nat × Nat) (Q : Nat → Nat → Int32), all ≤ 9 * k → eqG h I K → C3 K sz tp X → X.2.1 = 0 → CTl K L h Q W H → K 1004 3 = nI (1024 * s) → cN (Q 1072 10) ≤ 6 → FF = fgL tp sz r all X Q → jWP w l mX5_readFog 4 0 0 (fun v t => ∃ r, v = some (.int r) ∧ LnQ n R sz tp h W H I L FF s r t) (fun _ _ => False) 4 [(0, .ref 1004), (1, .int (nI all)), (2, .int (nI k))] [] (n, shE, K, L, R) := by
    intro r
    induction r with
    | zero =>
      intro k hk all K X Q ha e1 e2 e3 e4 e5 e6 hf
      refine jx_iload_n dX5_readFog_4 rfl ?_
      refine jx_iconst (v := 4) dX5_readFog_5 (by decide) ?_
      refine jx_icmpN_ge (a := k) (b := 4) 81 dX5_readFog_6 (by decide) (by omega) (by omega) (fun h6 => ?_) (fun h6 => ?_)
      · refine jx_iconst (v := 1) dX5_readFog_81 (by decide) ?_
        refine jx_zret dX5_readFog_82 rfl ?_ ?_
        · first | exact Or.inl rfl | exact Or.inr rfl | exact jb_or _
        exact ⟨_, rfl, LnQ_g hf e3 e1 (eqGL_r _ L) e2 e4 e5⟩
      · exact absurd h6 (by omega)
    | succ r ih =>
      intro k hk all K X Q ha e1 e2 e3 e4 e5 e6 hf
      have hv : vNu tp sz 0 9 X ≤ 9 := vNu_le
      rw [fgL] at hf
      rcases hh with rfl | rfl
      all_goals
        refine jx_iload_n dX5_readFog_4 rfl ?_
        refine jx_iconst (v := 4) dX5_readFog_5 (by decide) ?_
        refine jx_icmpN_ge (a := k) (b := 4) 81 dX5_readFog_6 (by decide) (by omega) (by omega) (fun h6 => ?_) (fun h6 => ?_)
        · exact absurd h6 (by omega)
        · refine jx_aload_n dX5_readFog_9 rfl ?_
          refine jx_getR dX5_readFog_10 flX5_14 rfl rfl (by first | exact hRt | exact hR _ _ _ rfl) ?_
          refine jx_iconst (v := 0) dX5_readFog_13 (by decide) ?_
          refine jx_bipush (v := 9) dX5_readFog_14 (by decide) ?_
          refine jx_VRi (as := [.int _, .int _]) dX5_readFog_16 mlX5_177 okX9_isNumber viX9_isNumber rfl rfl rfl rfl rfl (by decide) (Nat.le_of_ble_eq_true rfl) (tX9_isNumber_x (lo := 0) (hi := 9) hW hR e2 e3 (by decide) (by decide)) (fun x16 t16 hq16 => ?_)
          obtain ⟨J1, rfl, fJ1, gJ1, vJ1, rfl⟩ := hq16
          refine jx_ifB_ne 24 dX5_readFog_19 (by decide) (fun h19 => ?_) (fun h19 => ?_)
          · have hz := of_decide_eq_true h19
            rw [if_neg (fun q => q hz)] at hf
            refine jx_iload_n dX5_readFog_24 rfl ?_
            refine jx_aload_n dX5_readFog_25 rfl ?_
            refine jx_getR dX5_readFog_26 flX5_14 rfl rfl (by first | exact hRt | exact hR _ _ _ rfl) ?_
            refine jx_getIE dX5_readFog_29 flX5_180 rfl rfl (vJ1 hz) ?_
            refine jx_iaddE (z := nI (all + (vNu tp sz 0 9 X))) dX5_readFog_32 (nI_add all (vNu tp sz 0 9 X)) ?_
            refine jx_istore_n dX5_readFog_33 rfl (by decide) ?_
            refine jx_iload_n dX5_readFog_34 rfl ?_
            refine jx_iconst (v := 3) dX5_readFog_35 (by decide) ?_
            refine jx_icmpN_ne (a := k) (b := 3) 52 dX5_readFog_36 (by decide) (by omega) (by omega) (fun h36 => ?_) (fun h36 => ?_)
            · rw [if_neg (fun q => h36 (by omega))] at hf
              rw [show 3 - r = k by omega] at hf
              refine jx_aload_n dX5_readFog_52 rfl ?_
              refine jx_getR dX5_readFog_53 flX5_33 rfl rfl (by first | exact hRt | exact hR _ _ _ rfl) ?_
              refine jx_getR dX5_readFog_56 flX5_278 rfl rfl (by first | exact hRt | exact hR _ _ _ rfl) ?_
              refine jx_iload_n dX5_readFog_59 rfl ?_
              refine jx_aload_n dX5_readFog_60 rfl ?_
              refine jx_getR dX5_readFog_61 flX5_14 rfl rfl (by first | exact hRt | exact hR _ _ _ rfl) ?_
              refine jx_getIE dX5_readFog_64 flX5_180 rfl rfl (vJ1 hz) ?_
              refine jx_iastN (k) dX5_readFog_67 rfl (rfl) (by omega) (by omega) ?_
              refine jx_aload_n dX5_readFog_68 rfl ?_
              refine jx_getR dX5_readFog_69 flX5_14 rfl rfl (by first | exact hRt | exact hR _ _ _ rfl) ?_
              refine jx_VRv (as := []) dX5_readFog_72 mlX5_80 okX9_advance viX9_advance rfl rfl rfl rfl rfl (by decide) (Nat.le_of_ble_eq_true rfl) (tX9_advance_x hW hR (gJ1.p (by decide))) (fun t72 hq72 => ?_)
              obtain ⟨J2, rfl, fJ2, gJ2⟩ := hq72
              refine jx_iinc dX5_readFog_75 rfl (v := nI (k + 1)) (nI_1 _) (by decide) ?_
              refine jx_goto 4 dX5_readFog_78 (by decide) ?_
              have hcc := CTl_fg (k := k) (a := nI (vNu tp sz 0 9 X)) (by decide) (e4.r (by decide) fJ1 e6) (by omega)
              exact jx_ls (by exact ⟨rfl, rfl, rfl, trivial⟩) (ih (k + 1) (by omega) _ J2 _ _ (by omega) (eqG_t e1 (eqG_t (eqG_u (eqR_G fJ1) (gF_h (by decide) (by decide))) (eqR_G (eqV_R fJ2)))) gJ2 hz (hcc.r (by decide) (eqV_R fJ2) (by rw [upI_j (by omega)]; exact e6)) ((fJ2 1004 3 (by decide)).trans ((upI_nea (by decide)).trans ((fJ1 1004 3 (by decide)).trans e5))) (by rw [upI_j (by omega)]; exact e6) hf)
            · refine jx_iload_n dX5_readFog_39 rfl ?_
              refine jx_ifN_ne (a := (all + (vNu tp sz 0 9 X))) 52 dX5_readFog_40 (by decide) (by omega) (fun h40 => ?_) (fun h40 => ?_)
              · rw [if_neg (fun q => h40 q.2)] at hf
                rw [show 3 - r = k by omega] at hf
                refine jx_aload_n dX5_readFog_52 rfl ?_
                refine jx_getR dX5_readFog_53 flX5_33 rfl rfl (by first | exact hRt | exact hR _ _ _ rfl) ?_
                refine jx_getR dX5_readFog_56 flX5_278 rfl rfl (by first | exact hRt | exact hR _ _ _ rfl) ?_
                refine jx_iload_n dX5_readFog_59 rfl ?_
                refine jx_aload_n dX5_readFog_60 rfl ?_
                refine jx_getR dX5_readFog_61 flX5_14 rfl rfl (by first | exact hRt | exact hR _ _ _ rfl) ?_
                refine jx_getIE dX5_readFog_64 flX5_180 rfl rfl (vJ1 hz) ?_
                refine jx_iastN (k) dX5_readFog_67 rfl (rfl) (by omega) (by omega) ?_
                refine jx_aload_n dX5_readFog_68 rfl ?_
                refine jx_getR dX5_readFog_69 flX5_14 rfl rfl (by first | exact hRt | exact hR _ _ _ rfl) ?_
                refine jx_VRv (as := []) dX5_readFog_72 mlX5_80 okX9_advance viX9_advance rfl rfl rfl rfl rfl (by decide) (Nat.le_of_ble_eq_true rfl) (tX9_advance_x hW hR (gJ1.p (by decide))) (fun t72 hq72 => ?_)
                obtain ⟨J2, rfl, fJ2, gJ2⟩ := hq72
                refine jx_iinc dX5_readFog_75 rfl (v := nI (k + 1)) (nI_1 _) (by decide) ?_
                refine jx_goto 4 dX5_readFog_78 (by decide) ?_
                have hcc := CTl_fg (k := k) (a := nI (vNu tp sz 0 9 X)) (by decide) (e4.r (by decide) fJ1 e6) (by omega)
                exact jx_ls (by exact ⟨rfl, rfl, rfl, trivial⟩) (ih (k + 1) (by omega) _ J2 _ _ (by omega) (eqG_t e1 (eqG_t (eqG_u (eqR_G fJ1) (gF_h (by decide) (by decide))) (eqR_G (eqV_R fJ2)))) gJ2 hz (hcc.r (by decide) (eqV_R fJ2) (by rw [upI_j (by omega)]; exact e6)) ((fJ2 1004 3 (by decide)).trans ((upI_nea (by decide)).trans ((fJ1 1004 3 (by decide)).trans e5))) (by rw [upI_j (by omega)]; exact e6) hf)
              · rw [if_pos ⟨by omega, h40⟩] at hf
                have hz5 : (pWr 2 (pNw tp sz 0 9 X)).2.1 ≠ 0 := pWr_z hz (by decide)
                refine jx_aload_n dX5_readFog_43 rfl ?_
                refine jx_getR dX5_readFog_44 flX5_14 rfl rfl (by first | exact hRt | exact hR _ _ _ rfl) ?_
                refine jx_iconst (v := 2) dX5_readFog_47 (by decide) ?_
                refine jx_VRi (as := [.int _]) dX5_readFog_48 mlX5_141 okX9_refuse viX9_refuse rfl rfl rfl rfl rfl (by decide) (Nat.le_of_ble_eq_true rfl) (tX9_refuse_x (k := 2) hW hR gJ1 hz (by decide)) (fun x48 t48 hq48 => ?_)
                obtain ⟨J2, rfl, fJ2, gJ2, rfl⟩ := hq48
                refine jx_zret dX5_readFog_51 rfl ?_ ?_
                · first | exact Or.inl rfl | exact Or.inr rfl | exact jb_or _
                exact ⟨_, rfl, LnQ_b hf hz5 (eqG_t e1 (eqR_G (eqR_t fJ1 fJ2))) (eqGL_r _ L) gJ2⟩
          · have hz := of_decide_eq_false h19
            rw [if_pos hz] at hf
            refine jx_iconst (v := 0) dX5_readFog_22 (by decide) ?_
            refine jx_zret dX5_readFog_23 rfl ?_ ?_
            · first | exact Or.inl rfl | exact Or.inr rfl | exact jb_or _
            exact ⟨_, rfl, LnQ_b hf hz (eqG_t e1 (eqR_G fJ1)) (eqGL_r _ L) gJ1⟩
  refine jx_iconst (v := 0) dX5_readFog_0 (by decide) ?_
  refine jx_istore_n dX5_readFog_1 rfl (by decide) ?_
  refine jx_iconst (v := 0) dX5_readFog_2 (by decide) ?_
  refine jx_istore_n dX5_readFog_3 rfl (by decide) ?_
  exact jx_ls (by exact ⟨rfl, rfl, rfl, trivial⟩) (key 4 0 rfl 0 I x T (by omega) (eqG_r _ I) hx h0 hC hs (by omega) hFF.symm)
set_option maxHeartbeats 1000000 in
set_option maxRecDepth 20000 in
theorem tX5_isFirst (hW : jWok w l) (hR : RS R) (hx : C3 I sz tp x) (h0 : x.2.1 = 0) {m i : Nat} (hm : m = 10 + i) (hi : i < 6) (hs : I 1004 3 = nI (1024 * s)) (hs6 : s < 64) : jRi w l mX5_isFirst 3 [.ref 1004, .int (nI m)] (n, shE, I, L, R) (fun r t => ∃ J, t = (n, shE, J, L, R) ∧ eqTt I J ∧ (if s &&& 2 ^ i = 0 then C3 J sz tp (stX tp sz x) ∧ J 1004 3 = nI (1024 * (s ||| 2 ^ i)) else C3 J sz tp (pWr 5 x)) ∧ r = jb (decide (s &&& 2 ^ i = 0))) := by
  refine jRi_of hW (by decide) rfl (Nat.le_of_ble_eq_true rfl) ?_
  subst hm
  refine jx_aload_n dX5_isFirst_0 rfl ?_
  refine jx_getIE dX5_isFirst_1 flX5_42 rfl rfl (hs) ?_
  refine jx_iload_n dX5_isFirst_4 rfl ?_
  refine jx_ishr dX5_isFirst_5 ?_
  refine jx_iconst (v := 1) dX5_isFirst_6 (by decide) ?_
  refine jx_iandE (z := jb (decide (¬ s &&& 2 ^ i = 0))) dX5_isFirst_7 (fst_r i hi s hs6) ?_
  refine jx_ifB_eq 20 dX5_isFirst_8 (by decide) (fun h8 => ?_) (fun h8 => ?_)
  · have hz : s &&& 2 ^ i = 0 := Decidable.of_not_not (of_decide_eq_false h8)
    refine jx_aload_n dX5_isFirst_20 rfl ?_
    refine jx_dup dX5_isFirst_21 rfl ?_
    refine jx_getIE dX5_isFirst_22 flX5_42 rfl rfl (hs) ?_
    refine jx_iconst (v := 1) dX5_isFirst_25 (by decide) ?_
    refine jx_iload_n dX5_isFirst_26 rfl ?_
    refine jx_ishl dX5_isFirst_27 ?_
    refine jx_iorE (z := nI (1024 * (s ||| 2 ^ i))) dX5_isFirst_28 (fst_s i hi s hs6) ?_
    refine jx_putI dX5_isFirst_29 flX5_42 rfl rfl (fun r h => by cases h; rfl) ?_
    refine jx_aload_n dX5_isFirst_32 rfl ?_
    refine jx_getR dX5_isFirst_33 flX5_14 rfl rfl (hR _ _ _ rfl) ?_
    refine jx_VRv (as := []) dX5_isFirst_36 mlX5_80 okX9_advance viX9_advance rfl rfl rfl rfl rfl (by decide) (Nat.le_of_ble_eq_true rfl) (tX9_advance_x hW hR (hx.f (J := upI I 1004 3 (nI (1024 * (s ||| 2 ^ i)))) (fun _ => rfl) (fun _ => rfl))) (fun t36 hq36 => ?_)
    obtain ⟨J1, rfl, fJ1, gJ1⟩ := hq36
    refine jx_iconst (v := 1) dX5_isFirst_39 (by decide) ?_
    refine jx_zret dX5_isFirst_40 rfl ?_ ?_
    · first | exact Or.inl rfl | exact Or.inr rfl | exact jb_or _
    exact ⟨_, rfl, J1, rfl, fun b j h1 h2 => ((eqV_R fJ1) b j h1).trans (upI_ne h2), by rw [if_pos hz]; exact ⟨gJ1, (fJ1 1004 3 (by decide)).trans upI_s⟩, by rw [decide_eq_true hz]; rfl⟩
  · have hz : ¬ s &&& 2 ^ i = 0 := of_decide_eq_true h8
    refine jx_aload_n dX5_isFirst_11 rfl ?_
    refine jx_getR dX5_isFirst_12 flX5_14 rfl rfl (hR _ _ _ rfl) ?_
    refine jx_iconst (v := 5) dX5_isFirst_15 (by decide) ?_
    refine jx_VRi (as := [.int _]) dX5_isFirst_16 mlX5_141 okX9_refuse viX9_refuse rfl rfl rfl rfl rfl (by decide) (Nat.le_of_ble_eq_true rfl) (tX9_refuse_x (k := 5) hW hR hx h0 (by decide)) (fun x16 t16 hq16 => ?_)
    obtain ⟨J1, rfl, fJ1, gJ1, rfl⟩ := hq16
    refine jx_zret dX5_isFirst_19 rfl ?_ ?_
    · first | exact Or.inl rfl | exact Or.inr rfl | exact jb_or _
    exact ⟨_, rfl, J1, rfl, fun b j h1 _ => fJ1 b j h1, by rw [if_neg hz]; exact gJ1, by rw [decide_eq_false hz]⟩
def lnS (tp : Nat → Nat) (sz : Nat) (x : Nat × Nat × Nat) : Nat := if isX tp sz x wMov = true then 10 else if isX tp sz x (wVal 3) = true then 11 else if isX tp sz x wEbb = true then 12 else if isX tp sz x wWai = true then 13 else if isX tp sz x wFog = true then 14 else if isX tp sz x wWat = true then 15 else 0
def lnN (tp : Nat → Nat) (sz : Nat) (x : Nat × Nat × Nat) : Nat := if isX tp sz x wHei = true then 1 else if isX tp sz x wRoc = true then 2 else if isX tp sz x wLad = true then 3 else if isX tp sz x wQui = true then 4 else if isX tp sz x (wKnd 0) = true then 5 else if isX tp sz x (wKnd 1) = true then 6 else if isX tp sz x (wKnd 2) = true then 7 else if isX tp sz x (wKnd 3) = true then 8 else if isX tp sz x wQua = true then 9 else lnS tp sz x
set_option maxHeartbeats 1000000 in
set_option maxRecDepth 20000 in
theorem tX5_singleLineNumber (hW : jWok w l) (hR : RS R) (hx : C3 I sz tp x) (h0 : x.2.1 = 0) : jCD w l mX5_singleLineNumber 6 [.ref 1004] (n, shE, I, L, R) (some (.int (nI (lnS tp sz x)))) (n, shE, I, L, R) := by
  refine jCD_of hW (by decide) rfl (Nat.le_of_ble_eq_true rfl) ?_
  refine jx_aload_n dX5_singleLineNumber_0 rfl ?_
  refine jx_getR dX5_singleLineNumber_1 flX5_14 rfl rfl (hR _ _ _ rfl) ?_
  refine jx_ldcS 11 dX5_singleLineNumber_4 rfl rfl rfl (by decide) ?_
  refine jx_Vi (as := [.ref _]) dX5_singleLineNumber_6 mlX5_51 okX9_isWord viX9_isWord rfl rfl rfl rfl rfl (by decide) (Nat.le_of_ble_eq_true rfl) (tX9_isWord_x hW hR hx h0 (i := 11) (cs := wMov) ⟨by decide, ⟨_, rfl, rfl⟩, by decide, by decide⟩) ?_
  refine jx_ifB_eq 15 dX5_singleLineNumber_9 (by decide) (fun h9 => ?_) (fun h9 => ?_)
  · refine jx_aload_n dX5_singleLineNumber_15 rfl ?_
    refine jx_getR dX5_singleLineNumber_16 flX5_14 rfl rfl (hR _ _ _ rfl) ?_
    refine jx_ldcS 12 dX5_singleLineNumber_19 rfl rfl rfl (by decide) ?_
    refine jx_Vi (as := [.ref _]) dX5_singleLineNumber_21 mlX5_51 okX9_isWord viX9_isWord rfl rfl rfl rfl rfl (by decide) (Nat.le_of_ble_eq_true rfl) (tX9_isWord_x hW hR hx h0 (i := 12) (cs := (wVal 3)) ⟨by decide, ⟨_, rfl, rfl⟩, by decide, by decide⟩) ?_
    refine jx_ifB_eq 30 dX5_singleLineNumber_24 (by decide) (fun h24 => ?_) (fun h24 => ?_)
    · refine jx_aload_n dX5_singleLineNumber_30 rfl ?_
      refine jx_getR dX5_singleLineNumber_31 flX5_14 rfl rfl (hR _ _ _ rfl) ?_
      refine jx_ldcS 13 dX5_singleLineNumber_34 rfl rfl rfl (by decide) ?_
      refine jx_Vi (as := [.ref _]) dX5_singleLineNumber_36 mlX5_51 okX9_isWord viX9_isWord rfl rfl rfl rfl rfl (by decide) (Nat.le_of_ble_eq_true rfl) (tX9_isWord_x hW hR hx h0 (i := 13) (cs := wEbb) ⟨by decide, ⟨_, rfl, rfl⟩, by decide, by decide⟩) ?_
      refine jx_ifB_eq 45 dX5_singleLineNumber_39 (by decide) (fun h39 => ?_) (fun h39 => ?_)
      · refine jx_aload_n dX5_singleLineNumber_45 rfl ?_
        refine jx_getR dX5_singleLineNumber_46 flX5_14 rfl rfl (hR _ _ _ rfl) ?_
        refine jx_ldcS 14 dX5_singleLineNumber_49 rfl rfl rfl (by decide) ?_
        refine jx_Vi (as := [.ref _]) dX5_singleLineNumber_51 mlX5_51 okX9_isWord viX9_isWord rfl rfl rfl rfl rfl (by decide) (Nat.le_of_ble_eq_true rfl) (tX9_isWord_x hW hR hx h0 (i := 14) (cs := wWai) ⟨by decide, ⟨_, rfl, rfl⟩, by decide, by decide⟩) ?_
        refine jx_ifB_eq 60 dX5_singleLineNumber_54 (by decide) (fun h54 => ?_) (fun h54 => ?_)
        · refine jx_aload_n dX5_singleLineNumber_60 rfl ?_
          refine jx_getR dX5_singleLineNumber_61 flX5_14 rfl rfl (hR _ _ _ rfl) ?_
          refine jx_ldcS 15 dX5_singleLineNumber_64 rfl rfl rfl (by decide) ?_
          refine jx_Vi (as := [.ref _]) dX5_singleLineNumber_66 mlX5_51 okX9_isWord viX9_isWord rfl rfl rfl rfl rfl (by decide) (Nat.le_of_ble_eq_true rfl) (tX9_isWord_x hW hR hx h0 (i := 15) (cs := wFog) ⟨by decide, ⟨_, rfl, rfl⟩, by decide, by decide⟩) ?_
          refine jx_ifB_eq 75 dX5_singleLineNumber_69 (by decide) (fun h69 => ?_) (fun h69 => ?_)
          · refine jx_aload_n dX5_singleLineNumber_75 rfl ?_
            refine jx_getR dX5_singleLineNumber_76 flX5_14 rfl rfl (hR _ _ _ rfl) ?_
            refine jx_ldcS 16 dX5_singleLineNumber_79 rfl rfl rfl (by decide) ?_
            refine jx_Vi (as := [.ref _]) dX5_singleLineNumber_81 mlX5_51 okX9_isWord viX9_isWord rfl rfl rfl rfl rfl (by decide) (Nat.le_of_ble_eq_true rfl) (tX9_isWord_x hW hR hx h0 (i := 16) (cs := wWat) ⟨by decide, ⟨_, rfl, rfl⟩, by decide, by decide⟩) ?_
            refine jx_ifB_eq 92 dX5_singleLineNumber_84 (by decide) (fun h84 => ?_) (fun h84 => ?_)
            · refine jx_iconst (v := 0) dX5_singleLineNumber_92 (by decide) ?_
              refine jx_iret dX5_singleLineNumber_93 rfl ?_
              refine ⟨?_, rfl⟩
              unfold lnS
              rw [if_neg (by rw [h9]; decide), if_neg (by rw [h24]; decide), if_neg (by rw [h39]; decide), if_neg (by rw [h54]; decide), if_neg (by rw [h69]; decide), if_neg (by rw [h84]; decide)]
              rfl
            · refine jx_bipush (v := 15) dX5_singleLineNumber_87 (by decide) ?_
              refine jx_goto 93 dX5_singleLineNumber_89 (by decide) ?_
              refine jx_iret dX5_singleLineNumber_93 rfl ?_
              refine ⟨?_, rfl⟩
              unfold lnS
              rw [if_neg (by rw [h9]; decide), if_neg (by rw [h24]; decide), if_neg (by rw [h39]; decide), if_neg (by rw [h54]; decide), if_neg (by rw [h69]; decide), if_pos h84]
              rfl
          · refine jx_bipush (v := 14) dX5_singleLineNumber_72 (by decide) ?_
            refine jx_iret dX5_singleLineNumber_74 rfl ?_
            refine ⟨?_, rfl⟩
            unfold lnS
            rw [if_neg (by rw [h9]; decide), if_neg (by rw [h24]; decide), if_neg (by rw [h39]; decide), if_neg (by rw [h54]; decide), if_pos h69]
            rfl
        · refine jx_bipush (v := 13) dX5_singleLineNumber_57 (by decide) ?_
          refine jx_iret dX5_singleLineNumber_59 rfl ?_
          refine ⟨?_, rfl⟩
          unfold lnS
          rw [if_neg (by rw [h9]; decide), if_neg (by rw [h24]; decide), if_neg (by rw [h39]; decide), if_pos h54]
          rfl
      · refine jx_bipush (v := 12) dX5_singleLineNumber_42 (by decide) ?_
        refine jx_iret dX5_singleLineNumber_44 rfl ?_
        refine ⟨?_, rfl⟩
        unfold lnS
        rw [if_neg (by rw [h9]; decide), if_neg (by rw [h24]; decide), if_pos h39]
        rfl
    · refine jx_bipush (v := 11) dX5_singleLineNumber_27 (by decide) ?_
      refine jx_iret dX5_singleLineNumber_29 rfl ?_
      refine ⟨?_, rfl⟩
      unfold lnS
      rw [if_neg (by rw [h9]; decide), if_pos h24]
      rfl
  · refine jx_bipush (v := 10) dX5_singleLineNumber_12 (by decide) ?_
    refine jx_iret dX5_singleLineNumber_14 rfl ?_
    refine ⟨?_, rfl⟩
    unfold lnS
    rw [if_pos h9]
    rfl
set_option maxHeartbeats 1000000 in
set_option maxRecDepth 20000 in
theorem tX5_lineNumber (hW : jWok w l) (hR : RS R) (hx : C3 I sz tp x) (h0 : x.2.1 = 0) : jCD w l mX5_lineNumber 7 [.ref 1004] (n, shE, I, L, R) (some (.int (nI (lnN tp sz x)))) (n, shE, I, L, R) := by
  refine jCD_of hW (by decide) rfl (Nat.le_of_ble_eq_true rfl) ?_
  refine jx_aload_n dX5_lineNumber_0 rfl ?_
  refine jx_getR dX5_lineNumber_1 flX5_14 rfl rfl (hR _ _ _ rfl) ?_
  refine jx_ldcS 2 dX5_lineNumber_4 rfl rfl rfl (by decide) ?_
  refine jx_Vi (as := [.ref _]) dX5_lineNumber_6 mlX5_51 okX9_isWord viX9_isWord rfl rfl rfl rfl rfl (by decide) (Nat.le_of_ble_eq_true rfl) (tX9_isWord_x hW hR hx h0 (i := 2) (cs := wHei) ⟨by decide, ⟨_, rfl, rfl⟩, by decide, by decide⟩) ?_
  refine jx_ifB_eq 14 dX5_lineNumber_9 (by decide) (fun h9 => ?_) (fun h9 => ?_)
  · refine jx_aload_n dX5_lineNumber_14 rfl ?_
    refine jx_getR dX5_lineNumber_15 flX5_14 rfl rfl (hR _ _ _ rfl) ?_
    refine jx_ldcS 3 dX5_lineNumber_18 rfl rfl rfl (by decide) ?_
    refine jx_Vi (as := [.ref _]) dX5_lineNumber_20 mlX5_51 okX9_isWord viX9_isWord rfl rfl rfl rfl rfl (by decide) (Nat.le_of_ble_eq_true rfl) (tX9_isWord_x hW hR hx h0 (i := 3) (cs := wRoc) ⟨by decide, ⟨_, rfl, rfl⟩, by decide, by decide⟩) ?_
    refine jx_ifB_eq 28 dX5_lineNumber_23 (by decide) (fun h23 => ?_) (fun h23 => ?_)
    · refine jx_aload_n dX5_lineNumber_28 rfl ?_
      refine jx_getR dX5_lineNumber_29 flX5_14 rfl rfl (hR _ _ _ rfl) ?_
      refine jx_ldcS 4 dX5_lineNumber_32 rfl rfl rfl (by decide) ?_
      refine jx_Vi (as := [.ref _]) dX5_lineNumber_34 mlX5_51 okX9_isWord viX9_isWord rfl rfl rfl rfl rfl (by decide) (Nat.le_of_ble_eq_true rfl) (tX9_isWord_x hW hR hx h0 (i := 4) (cs := wLad) ⟨by decide, ⟨_, rfl, rfl⟩, by decide, by decide⟩) ?_
      refine jx_ifB_eq 42 dX5_lineNumber_37 (by decide) (fun h37 => ?_) (fun h37 => ?_)
      · refine jx_aload_n dX5_lineNumber_42 rfl ?_
        refine jx_getR dX5_lineNumber_43 flX5_14 rfl rfl (hR _ _ _ rfl) ?_
        refine jx_ldcS 5 dX5_lineNumber_46 rfl rfl rfl (by decide) ?_
        refine jx_Vi (as := [.ref _]) dX5_lineNumber_48 mlX5_51 okX9_isWord viX9_isWord rfl rfl rfl rfl rfl (by decide) (Nat.le_of_ble_eq_true rfl) (tX9_isWord_x hW hR hx h0 (i := 5) (cs := wQui) ⟨by decide, ⟨_, rfl, rfl⟩, by decide, by decide⟩) ?_
        refine jx_ifB_eq 56 dX5_lineNumber_51 (by decide) (fun h51 => ?_) (fun h51 => ?_)
        · refine jx_aload_n dX5_lineNumber_56 rfl ?_
          refine jx_getR dX5_lineNumber_57 flX5_14 rfl rfl (hR _ _ _ rfl) ?_
          refine jx_ldcS 6 dX5_lineNumber_60 rfl rfl rfl (by decide) ?_
          refine jx_Vi (as := [.ref _]) dX5_lineNumber_62 mlX5_51 okX9_isWord viX9_isWord rfl rfl rfl rfl rfl (by decide) (Nat.le_of_ble_eq_true rfl) (tX9_isWord_x hW hR hx h0 (i := 6) (cs := (wKnd 0)) ⟨by decide, ⟨_, rfl, rfl⟩, by decide, by decide⟩) ?_
          refine jx_ifB_eq 70 dX5_lineNumber_65 (by decide) (fun h65 => ?_) (fun h65 => ?_)
          · refine jx_aload_n dX5_lineNumber_70 rfl ?_
            refine jx_getR dX5_lineNumber_71 flX5_14 rfl rfl (hR _ _ _ rfl) ?_
            refine jx_ldcS 7 dX5_lineNumber_74 rfl rfl rfl (by decide) ?_
            refine jx_Vi (as := [.ref _]) dX5_lineNumber_76 mlX5_51 okX9_isWord viX9_isWord rfl rfl rfl rfl rfl (by decide) (Nat.le_of_ble_eq_true rfl) (tX9_isWord_x hW hR hx h0 (i := 7) (cs := (wKnd 1)) ⟨by decide, ⟨_, rfl, rfl⟩, by decide, by decide⟩) ?_
            refine jx_ifB_eq 85 dX5_lineNumber_79 (by decide) (fun h79 => ?_) (fun h79 => ?_)
            · refine jx_aload_n dX5_lineNumber_85 rfl ?_
              refine jx_getR dX5_lineNumber_86 flX5_14 rfl rfl (hR _ _ _ rfl) ?_
              refine jx_ldcS 8 dX5_lineNumber_89 rfl rfl rfl (by decide) ?_
              refine jx_Vi (as := [.ref _]) dX5_lineNumber_91 mlX5_51 okX9_isWord viX9_isWord rfl rfl rfl rfl rfl (by decide) (Nat.le_of_ble_eq_true rfl) (tX9_isWord_x hW hR hx h0 (i := 8) (cs := (wKnd 2)) ⟨by decide, ⟨_, rfl, rfl⟩, by decide, by decide⟩) ?_
              refine jx_ifB_eq 100 dX5_lineNumber_94 (by decide) (fun h94 => ?_) (fun h94 => ?_)
              · refine jx_aload_n dX5_lineNumber_100 rfl ?_
                refine jx_getR dX5_lineNumber_101 flX5_14 rfl rfl (hR _ _ _ rfl) ?_
                refine jx_ldcS 9 dX5_lineNumber_104 rfl rfl rfl (by decide) ?_
                refine jx_Vi (as := [.ref _]) dX5_lineNumber_106 mlX5_51 okX9_isWord viX9_isWord rfl rfl rfl rfl rfl (by decide) (Nat.le_of_ble_eq_true rfl) (tX9_isWord_x hW hR hx h0 (i := 9) (cs := (wKnd 3)) ⟨by decide, ⟨_, rfl, rfl⟩, by decide, by decide⟩) ?_
                refine jx_ifB_eq 115 dX5_lineNumber_109 (by decide) (fun h109 => ?_) (fun h109 => ?_)
                · refine jx_aload_n dX5_lineNumber_115 rfl ?_
                  refine jx_getR dX5_lineNumber_116 flX5_14 rfl rfl (hR _ _ _ rfl) ?_
                  refine jx_ldcS 10 dX5_lineNumber_119 rfl rfl rfl (by decide) ?_
                  refine jx_Vi (as := [.ref _]) dX5_lineNumber_121 mlX5_51 okX9_isWord viX9_isWord rfl rfl rfl rfl rfl (by decide) (Nat.le_of_ble_eq_true rfl) (tX9_isWord_x hW hR hx h0 (i := 10) (cs := wQua) ⟨by decide, ⟨_, rfl, rfl⟩, by decide, by decide⟩) ?_
                  refine jx_ifB_eq 132 dX5_lineNumber_124 (by decide) (fun h124 => ?_) (fun h124 => ?_)
                  · refine jx_aload_n dX5_lineNumber_132 rfl ?_
                    refine jx_Vi (as := []) dX5_lineNumber_133 mlX5_162 okX5_singleLineNumber viX5_singleLineNumber rfl rfl rfl rfl rfl (by decide) (Nat.le_of_ble_eq_true rfl) (tX5_singleLineNumber hW hR hx h0) ?_
                    refine jx_iret dX5_lineNumber_136 rfl ?_
                    refine ⟨?_, rfl⟩
                    unfold lnN
                    rw [if_neg (by rw [h9]; decide), if_neg (by rw [h23]; decide), if_neg (by rw [h37]; decide), if_neg (by rw [h51]; decide), if_neg (by rw [h65]; decide), if_neg (by rw [h79]; decide), if_neg (by rw [h94]; decide), if_neg (by rw [h109]; decide), if_neg (by rw [h124]; decide)]
                  · refine jx_bipush (v := 9) dX5_lineNumber_127 (by decide) ?_
                    refine jx_goto 136 dX5_lineNumber_129 (by decide) ?_
                    refine jx_iret dX5_lineNumber_136 rfl ?_
                    refine ⟨?_, rfl⟩
                    unfold lnN
                    rw [if_neg (by rw [h9]; decide), if_neg (by rw [h23]; decide), if_neg (by rw [h37]; decide), if_neg (by rw [h51]; decide), if_neg (by rw [h65]; decide), if_neg (by rw [h79]; decide), if_neg (by rw [h94]; decide), if_neg (by rw [h109]; decide), if_pos h124]
                    rfl
                · refine jx_bipush (v := 8) dX5_lineNumber_112 (by decide) ?_
                  refine jx_iret dX5_lineNumber_114 rfl ?_
                  refine ⟨?_, rfl⟩
                  unfold lnN
                  rw [if_neg (by rw [h9]; decide), if_neg (by rw [h23]; decide), if_neg (by rw [h37]; decide), if_neg (by rw [h51]; decide), if_neg (by rw [h65]; decide), if_neg (by rw [h79]; decide), if_neg (by rw [h94]; decide), if_pos h109]
                  rfl
              · refine jx_bipush (v := 7) dX5_lineNumber_97 (by decide) ?_
                refine jx_iret dX5_lineNumber_99 rfl ?_
                refine ⟨?_, rfl⟩
                unfold lnN
                rw [if_neg (by rw [h9]; decide), if_neg (by rw [h23]; decide), if_neg (by rw [h37]; decide), if_neg (by rw [h51]; decide), if_neg (by rw [h65]; decide), if_neg (by rw [h79]; decide), if_pos h94]
                rfl
            · refine jx_bipush (v := 6) dX5_lineNumber_82 (by decide) ?_
              refine jx_iret dX5_lineNumber_84 rfl ?_
              refine ⟨?_, rfl⟩
              unfold lnN
              rw [if_neg (by rw [h9]; decide), if_neg (by rw [h23]; decide), if_neg (by rw [h37]; decide), if_neg (by rw [h51]; decide), if_neg (by rw [h65]; decide), if_pos h79]
              rfl
          · refine jx_iconst (v := 5) dX5_lineNumber_68 (by decide) ?_
            refine jx_iret dX5_lineNumber_69 rfl ?_
            refine ⟨?_, rfl⟩
            unfold lnN
            rw [if_neg (by rw [h9]; decide), if_neg (by rw [h23]; decide), if_neg (by rw [h37]; decide), if_neg (by rw [h51]; decide), if_pos h65]
            rfl
        · refine jx_iconst (v := 4) dX5_lineNumber_54 (by decide) ?_
          refine jx_iret dX5_lineNumber_55 rfl ?_
          refine ⟨?_, rfl⟩
          unfold lnN
          rw [if_neg (by rw [h9]; decide), if_neg (by rw [h23]; decide), if_neg (by rw [h37]; decide), if_pos h51]
          rfl
      · refine jx_iconst (v := 3) dX5_lineNumber_40 (by decide) ?_
        refine jx_iret dX5_lineNumber_41 rfl ?_
        refine ⟨?_, rfl⟩
        unfold lnN
        rw [if_neg (by rw [h9]; decide), if_neg (by rw [h23]; decide), if_pos h37]
        rfl
    · refine jx_iconst (v := 2) dX5_lineNumber_26 (by decide) ?_
      refine jx_iret dX5_lineNumber_27 rfl ?_
      refine ⟨?_, rfl⟩
      unfold lnN
      rw [if_neg (by rw [h9]; decide), if_pos h23]
      rfl
  · refine jx_iconst (v := 1) dX5_lineNumber_12 (by decide) ?_
    refine jx_iret dX5_lineNumber_13 rfl ?_
    refine ⟨?_, rfl⟩
    unfold lnN
    rw [if_pos h9]
    rfl
theorem isX_ex {cs cs' : List Nat} (h1 : isX tp sz x cs = true) (h2 : isX tp sz x cs' = true) : cs = cs' := by
  unfold isX isW at h1 h2
  rw [Bool.and_eq_true, Bool.and_eq_true, Bool.and_eq_true] at h1 h2
  have a1 := of_decide_eq_true h1.1.2
  have a2 := of_decide_eq_true h2.1.2
  have b1 := of_decide_eq_true h1.2
  have b2 := of_decide_eq_true h2.2
  refine List.ext_getElem (a1.trans a2.symm) (fun j q1 q2 => ?_)
  have e1 := b1 j q1
  have e2 := b2 j q2
  rw [← e2, List.getD_eq_getElem?_getD, List.getD_eq_getElem?_getD, List.getElem?_eq_getElem q1, List.getElem?_eq_getElem q2] at e1
  exact e1
theorem isX_ne {cs cs' : List Nat} (h1 : isX tp sz x cs = true) (h2 : cs ≠ cs') : isX tp sz x cs' = false := Bool.eq_false_iff.mpr (fun q => h2 (isX_ex h1 q))
theorem fnd_kn (h : ∀ k, k < 4 → isX tp sz x (wKnd k) = false) : fnd (fun k => isW tp sz x.1 x.2.1 (wKnd k)) 4 = none := fnd_none.mpr h
theorem liB_Hei (h : isX tp sz x wHei = true) : kLn tp sz x = 0 ∧ liBody tp sz s x T = liHt tp sz x T := by
  have hk : kLn tp sz x = 0 := by unfold kLn; rw [if_neg (by rw [isX_ne h (cs' := wMov) (by decide)]; decide), if_neg (by rw [isX_ne h (cs' := (wVal 3)) (by decide)]; decide), if_neg (by rw [isX_ne h (cs' := wEbb) (by decide)]; decide), if_neg (by rw [isX_ne h (cs' := wWai) (by decide)]; decide), if_neg (by rw [isX_ne h (cs' := wFog) (by decide)]; decide), if_neg (by rw [isX_ne h (cs' := wWat) (by decide)]; decide)]
  refine ⟨hk, ?_⟩
  unfold liBody liOth
  rw [hk, if_neg (by decide), fnd_kn (fun k hk => isX_ne h ((show ∀ k, k < 4 → wHei ≠ wKnd k by decide) k hk))]
  show (if _ then _ else _) = _
  rw [if_pos h]
theorem liB_Qua (h : isX tp sz x wQua = true) : kLn tp sz x = 0 ∧ liBody tp sz s x T = liQrl tp sz x T := by
  have hk : kLn tp sz x = 0 := by unfold kLn; rw [if_neg (by rw [isX_ne h (cs' := wMov) (by decide)]; decide), if_neg (by rw [isX_ne h (cs' := (wVal 3)) (by decide)]; decide), if_neg (by rw [isX_ne h (cs' := wEbb) (by decide)]; decide), if_neg (by rw [isX_ne h (cs' := wWai) (by decide)]; decide), if_neg (by rw [isX_ne h (cs' := wFog) (by decide)]; decide), if_neg (by rw [isX_ne h (cs' := wWat) (by decide)]; decide)]
  refine ⟨hk, ?_⟩
  unfold liBody liOth
  rw [hk, if_neg (by decide), fnd_kn (fun k hk => isX_ne h ((show ∀ k, k < 4 → wQua ≠ wKnd k by decide) k hk))]
  show (if _ then _ else _) = _
  rw [if_neg (by rw [isX_ne h (cs' := wHei) (by decide)]; decide), if_pos h]
theorem liB_Roc (h : isX tp sz x wRoc = true) : kLn tp sz x = 0 ∧ liBody tp sz s x T = liThg tp sz 2 x T := by
  have hk : kLn tp sz x = 0 := by unfold kLn; rw [if_neg (by rw [isX_ne h (cs' := wMov) (by decide)]; decide), if_neg (by rw [isX_ne h (cs' := (wVal 3)) (by decide)]; decide), if_neg (by rw [isX_ne h (cs' := wEbb) (by decide)]; decide), if_neg (by rw [isX_ne h (cs' := wWai) (by decide)]; decide), if_neg (by rw [isX_ne h (cs' := wFog) (by decide)]; decide), if_neg (by rw [isX_ne h (cs' := wWat) (by decide)]; decide)]
  refine ⟨hk, ?_⟩
  unfold liBody liOth
  rw [hk, if_neg (by decide), fnd_kn (fun k hk => isX_ne h ((show ∀ k, k < 4 → wRoc ≠ wKnd k by decide) k hk))]
  show (if _ then _ else _) = _
  rw [if_neg (by rw [isX_ne h (cs' := wHei) (by decide)]; decide), if_neg (by rw [isX_ne h (cs' := wQua) (by decide)]; decide), if_pos h]
theorem liB_Lad (h : isX tp sz x wLad = true) : kLn tp sz x = 0 ∧ liBody tp sz s x T = liThg tp sz 3 x T := by
  have hk : kLn tp sz x = 0 := by unfold kLn; rw [if_neg (by rw [isX_ne h (cs' := wMov) (by decide)]; decide), if_neg (by rw [isX_ne h (cs' := (wVal 3)) (by decide)]; decide), if_neg (by rw [isX_ne h (cs' := wEbb) (by decide)]; decide), if_neg (by rw [isX_ne h (cs' := wWai) (by decide)]; decide), if_neg (by rw [isX_ne h (cs' := wFog) (by decide)]; decide), if_neg (by rw [isX_ne h (cs' := wWat) (by decide)]; decide)]
  refine ⟨hk, ?_⟩
  unfold liBody liOth
  rw [hk, if_neg (by decide), fnd_kn (fun k hk => isX_ne h ((show ∀ k, k < 4 → wLad ≠ wKnd k by decide) k hk))]
  show (if _ then _ else _) = _
  rw [if_neg (by rw [isX_ne h (cs' := wHei) (by decide)]; decide), if_neg (by rw [isX_ne h (cs' := wQua) (by decide)]; decide), if_neg (by rw [isX_ne h (cs' := wRoc) (by decide)]; decide), if_pos h]
theorem liB_Qui (h : isX tp sz x wQui = true) : kLn tp sz x = 0 ∧ liBody tp sz s x T = liThg tp sz 4 x T := by
  have hk : kLn tp sz x = 0 := by unfold kLn; rw [if_neg (by rw [isX_ne h (cs' := wMov) (by decide)]; decide), if_neg (by rw [isX_ne h (cs' := (wVal 3)) (by decide)]; decide), if_neg (by rw [isX_ne h (cs' := wEbb) (by decide)]; decide), if_neg (by rw [isX_ne h (cs' := wWai) (by decide)]; decide), if_neg (by rw [isX_ne h (cs' := wFog) (by decide)]; decide), if_neg (by rw [isX_ne h (cs' := wWat) (by decide)]; decide)]
  refine ⟨hk, ?_⟩
  unfold liBody liOth
  rw [hk, if_neg (by decide), fnd_kn (fun k hk => isX_ne h ((show ∀ k, k < 4 → wQui ≠ wKnd k by decide) k hk))]
  show (if _ then _ else _) = _
  rw [if_neg (by rw [isX_ne h (cs' := wHei) (by decide)]; decide), if_neg (by rw [isX_ne h (cs' := wQua) (by decide)]; decide), if_neg (by rw [isX_ne h (cs' := wRoc) (by decide)]; decide), if_neg (by rw [isX_ne h (cs' := wLad) (by decide)]; decide), if_pos h]
theorem liB_knd {j : Nat} (hj : j < 4) (h : isX tp sz x (wKnd j) = true) : kLn tp sz x = 0 ∧ liBody tp sz s x T = liPty tp sz j x T := by
  have hk : kLn tp sz x = 0 := by unfold kLn; rw [if_neg (by rw [isX_ne h (cs' := wMov) ((show ∀ k, k < 4 → wKnd k ≠ wMov by decide) j hj)]; decide), if_neg (by rw [isX_ne h (cs' := (wVal 3)) ((show ∀ k, k < 4 → wKnd k ≠ (wVal 3) by decide) j hj)]; decide), if_neg (by rw [isX_ne h (cs' := wEbb) ((show ∀ k, k < 4 → wKnd k ≠ wEbb by decide) j hj)]; decide), if_neg (by rw [isX_ne h (cs' := wWai) ((show ∀ k, k < 4 → wKnd k ≠ wWai by decide) j hj)]; decide), if_neg (by rw [isX_ne h (cs' := wFog) ((show ∀ k, k < 4 → wKnd k ≠ wFog by decide) j hj)]; decide), if_neg (by rw [isX_ne h (cs' := wWat) ((show ∀ k, k < 4 → wKnd k ≠ wWat by decide) j hj)]; decide)]
  refine ⟨hk, ?_⟩
  unfold liBody liOth
  rw [hk, if_neg (by decide), show fnd (fun k => isW tp sz x.1 x.2.1 (wKnd k)) 4 = some j from fnd_some.mpr ⟨hj, h, fun i hi => isX_ne h ((show ∀ j, j < 4 → ∀ i, i < j → wKnd j ≠ wKnd i by decide) j hj i hi)⟩]
theorem liB_s1 (h : isX tp sz x wMov = true) : kLn tp sz x = 1 ∧ liBody tp sz s x T = if s &&& 1 = 0 then liOne tp sz 1 x T else (pWr 5 x, T) := by
  have hk : kLn tp sz x = 1 := by unfold kLn; rw [if_pos h]
  refine ⟨hk, ?_⟩
  unfold liBody
  rw [hk, if_pos (by decide)]
theorem liB_s2 (h : isX tp sz x (wVal 3) = true) : kLn tp sz x = 2 ∧ liBody tp sz s x T = if s &&& 2 = 0 then liOne tp sz 2 x T else (pWr 5 x, T) := by
  have hk : kLn tp sz x = 2 := by unfold kLn; rw [if_neg (by rw [isX_ne h (cs' := wMov) (by decide)]; decide), if_pos h]
  refine ⟨hk, ?_⟩
  unfold liBody
  rw [hk, if_pos (by decide)]
theorem liB_s4 (h : isX tp sz x wEbb = true) : kLn tp sz x = 4 ∧ liBody tp sz s x T = if s &&& 4 = 0 then liOne tp sz 4 x T else (pWr 5 x, T) := by
  have hk : kLn tp sz x = 4 := by unfold kLn; rw [if_neg (by rw [isX_ne h (cs' := wMov) (by decide)]; decide), if_neg (by rw [isX_ne h (cs' := (wVal 3)) (by decide)]; decide), if_pos h]
  refine ⟨hk, ?_⟩
  unfold liBody
  rw [hk, if_pos (by decide)]
theorem liB_s8 (h : isX tp sz x wWai = true) : kLn tp sz x = 8 ∧ liBody tp sz s x T = if s &&& 8 = 0 then liOne tp sz 8 x T else (pWr 5 x, T) := by
  have hk : kLn tp sz x = 8 := by unfold kLn; rw [if_neg (by rw [isX_ne h (cs' := wMov) (by decide)]; decide), if_neg (by rw [isX_ne h (cs' := (wVal 3)) (by decide)]; decide), if_neg (by rw [isX_ne h (cs' := wEbb) (by decide)]; decide), if_pos h]
  refine ⟨hk, ?_⟩
  unfold liBody
  rw [hk, if_pos (by decide)]
theorem liB_s16 (h : isX tp sz x wFog = true) : kLn tp sz x = 16 ∧ liBody tp sz s x T = if s &&& 16 = 0 then liOne tp sz 16 x T else (pWr 5 x, T) := by
  have hk : kLn tp sz x = 16 := by unfold kLn; rw [if_neg (by rw [isX_ne h (cs' := wMov) (by decide)]; decide), if_neg (by rw [isX_ne h (cs' := (wVal 3)) (by decide)]; decide), if_neg (by rw [isX_ne h (cs' := wEbb) (by decide)]; decide), if_neg (by rw [isX_ne h (cs' := wWai) (by decide)]; decide), if_pos h]
  refine ⟨hk, ?_⟩
  unfold liBody
  rw [hk, if_pos (by decide)]
theorem liB_s32 (h : isX tp sz x wWat = true) : kLn tp sz x = 32 ∧ liBody tp sz s x T = if s &&& 32 = 0 then liOne tp sz 32 x T else (pWr 5 x, T) := by
  have hk : kLn tp sz x = 32 := by unfold kLn; rw [if_neg (by rw [isX_ne h (cs' := wMov) (by decide)]; decide), if_neg (by rw [isX_ne h (cs' := (wVal 3)) (by decide)]; decide), if_neg (by rw [isX_ne h (cs' := wEbb) (by decide)]; decide), if_neg (by rw [isX_ne h (cs' := wWai) (by decide)]; decide), if_neg (by rw [isX_ne h (cs' := wFog) (by decide)]; decide), if_pos h]
  refine ⟨hk, ?_⟩
  unfold liBody
  rw [hk, if_pos (by decide)]
theorem liB_0 (hk : kLn tp sz x = 0) (hK : ∀ k, k < 4 → isX tp sz x (wKnd k) = false) (h : ∀ cs, cs = wHei ∨ cs = wQua ∨ cs = wRoc ∨ cs = wLad ∨ cs = wQui → isX tp sz x cs = false) : liBody tp sz s x T = (pWr 1 x, T) := by
  unfold liBody liOth
  rw [hk, if_neg (by decide), fnd_kn hK]
  show (if _ then _ else _) = _
  rw [if_neg (by rw [h _ (by simp)]; decide), if_neg (by rw [h _ (by simp)]; decide), if_neg (by rw [h _ (by simp)]; decide), if_neg (by rw [h _ (by simp)]; decide), if_neg (by rw [h _ (by simp)]; decide)]
end CZ7
