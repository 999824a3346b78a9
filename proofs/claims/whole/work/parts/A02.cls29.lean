/-! THE CLASS: lines -/
section CZ4
variable {w : jWD} {l : Launch} {n : Nat} {I J : Nat → Nat → Int32} {L M : Nat → Nat → Int64} {R : Nat → Nat → Option Nat} {sz : Nat} {tp : Nat → Nat} {x : Nat × Nat × Nat} {T : Nat → Nat → Int32} {h W H np len s : Nat}
theorem pWr_z {k : Nat} (h : x.2.1 = 0) (hk : k ≠ 0) : (pWr k x).2.1 ≠ 0 := by unfold pWr; rw [if_pos h]; exact hk
theorem BT_d (hB : BT T W H np len) : cN (T 1072 0) = W ∧ cN (T 1072 1) = H ∧ (3 ≤ W ∧ W ≤ 9) ∧ (1 ≤ H ∧ H ≤ 7) ∧ W * H ≤ 63 ∧ cN (T 1072 10) = np ∧ np ≤ 6 := by
  obtain ⟨e1, e2, e3, e4, e5, e6⟩ := hB.1.1.1
  have hWH : W * H ≤ 9 * 7 := Nat.mul_le_mul e4 e6
  have h10 := hB.1.2.2.2.2.1
  refine ⟨by rw [e1]; exact cN_nI (by omega), by rw [e2]; exact cN_nI (by omega), ⟨e3, e4⟩, ⟨e5, e6⟩, by omega, by rw [h10.1]; exact cN_nI (by omega), h10.2⟩
theorem LnQ_b {f : (Nat × Nat × Nat) × (Nat → Nat → Int32)} {X : Nat × Nat × Nat} {T' : Nat → Nat → Int32} (hf : f = (X, T')) (hz : X.2.1 ≠ 0) (he : eqG h I J) (hL : eqGL h L M) (hc : C3 J sz tp X) : LnQ n R sz tp h W H I L f s (jb false) (n, shE, J, M, R) := by
  subst hf
  exact ⟨J, M, rfl, he, hL, hc, fun q => absurd q hz, by rw [decide_eq_false hz]⟩
theorem LnQ_g {f : (Nat × Nat × Nat) × (Nat → Nat → Int32)} {X : Nat × Nat × Nat} {T' : Nat → Nat → Int32} (hf : f = (X, T')) (hz : X.2.1 = 0) (he : eqG h I J) (hL : eqGL h L M) (hc : C3 J sz tp X) (hC : CTl J M h T' W H) (hs : J 1004 3 = nI (1024 * s)) : LnQ n R sz tp h W H I L f s (jb true) (n, shE, J, M, R) := by
  subst hf
  exact ⟨J, M, rfl, he, hL, hc, fun _ => ⟨hC, hs⟩, by rw [decide_eq_true hz]⟩
theorem eqGL_u {k : Nat} {v : Int64} (he : eqGL h L M) : eqGL h L (upL M (h + 1) k v) := fun b j h1 h2 => by
  rw [upL_ne (fun q => h1 q.1)]; exact he b j h1 h2
theorem tcX_a {g : Nat → Bool} (e : (pCl tp sz W H (stX tp sz x)).2.1 ≠ 0) : tcX tp sz W H g x = pCl tp sz W H (stX tp sz x) := by unfold tcX; rw [if_pos e]
theorem tcX_b {g : Nat → Bool} (e : (pCl tp sz W H (stX tp sz x)).2.1 = 0) (e2 : g (vCl tp sz W H (stX tp sz x)) = true) : tcX tp sz W H g x = pWr 4 (pCl tp sz W H (stX tp sz x)) := by unfold tcX; rw [if_neg (fun q => q e), if_pos e2]
theorem tcX_c {g : Nat → Bool} (e : (pCl tp sz W H (stX tp sz x)).2.1 = 0) (e2 : g (vCl tp sz W H (stX tp sz x)) = false) : tcX tp sz W H g x = stX tp sz (pCl tp sz W H (stX tp sz x)) := by unfold tcX; rw [if_neg (fun q => q e), if_neg (by rw [e2]; decide)]
theorem liHt_e {g : Nat → Bool} (hB : BT T W H np len) (hg : g (vCl tp sz W H (stX tp sz x)) = decide (T 1084 (vCl tp sz W H (stX tp sz x)) ≠ 0)) : liHt tp sz x T = if (tcX tp sz W H g x).2.1 ≠ 0 then (tcX tp sz W H g x, T) else (pNu tp sz 0 9 (tcX tp sz W H g x), upI (upI T 1084 (vCl tp sz W H (stX tp sz x)) 1) 1073 (vCl tp sz W H (stX tp sz x)) (nI (vNu tp sz 0 9 (tcX tp sz W H g x)))) := by
  obtain ⟨d1, d2, -⟩ := BT_d hB
  unfold liHt
  rw [d1, d2]
  by_cases e : (pCl tp sz W H (stX tp sz x)).2.1 = 0
  · rw [if_neg (fun q => q e)]
    by_cases e2 : T 1084 (vCl tp sz W H (stX tp sz x)) = 0
    · rw [if_neg (fun q => q e2), tcX_c e (by rw [hg]; exact decide_eq_false (fun q => q e2)), if_neg (fun q => q e)]
    · rw [if_pos e2, tcX_b e (by rw [hg]; exact decide_eq_true e2), if_pos (by unfold pWr; rw [if_pos e]; exact Nat.succ_ne_zero 3)]
  · rw [if_pos e, tcX_a e, if_pos e]
theorem liThg_e {g : Nat → Bool} {k : Nat} (hB : BT T W H np len) (hk : cN (T 1072 k) ≠ 12) (hg : g (vCl tp sz W H (stX tp sz x)) = tkn T k (vCl tp sz W H (stX tp sz x))) : liThg tp sz k x T = if (tcX tp sz W H g x).2.1 ≠ 0 then (tcX tp sz W H g x, T) else (tcX tp sz W H g x, upI (if k = 4 then upI T 1075 (cN (T 1072 4)) (nI (vCl tp sz W H (stX tp sz x))) else upI T 1074 (vCl tp sz W H (stX tp sz x)) (nI (k - 1))) 1072 k (nI (cN (T 1072 k) + 1))) := by
  obtain ⟨d1, d2, -⟩ := BT_d hB
  unfold liThg
  rw [d1, d2, if_neg hk]
  by_cases e : (pCl tp sz W H (stX tp sz x)).2.1 = 0
  · rw [if_neg (show ¬ (pCl tp sz W H (stX tp sz x)).2.1 ≠ 0 from fun q => q e)]
    by_cases e2 : tkn T k (vCl tp sz W H (stX tp sz x)) = true
    · rw [if_pos e2, tcX_b e (by rw [hg]; exact e2), if_pos (by unfold pWr; rw [if_pos e]; exact Nat.succ_ne_zero 3)]
    · rw [if_neg e2, tcX_c e (by rw [hg]; exact Bool.eq_false_iff.mpr e2), if_neg (show ¬ (stX tp sz (pCl tp sz W H (stX tp sz x))).2.1 ≠ 0 from fun q => q e)]
  · rw [if_pos e, tcX_a e, if_pos e]
theorem anyN_c {f g : Nat → Bool} : ∀ {n : Nat}, (∀ i, i < n → f i = g i) → anyN f n = anyN g n
  | 0, _ => rfl
  | n + 1, h => by
    show (anyN f n || f n) = (anyN g n || g n)
    rw [anyN_c (fun i hi => h i (by omega)), h n (by omega)]
theorem CTl_qk {c k : Nat} (hh : h = 1008 ∨ h = 1024) (hC : CTl I L h T W H) (hk : T 1072 4 = nI k) (hk12 : k < 12) (hc : c < W * H) (hWH : W * H ≤ 63) : CTl (upI (upI I (h + 3) k (nI c)) (h + 1) 7 (nI (k + 1))) (upL L (h + 1) 8 (L (h + 1) 8 ||| (1 <<< ((nI c).toInt64 &&& 63)))) h (upI (upI T 1075 k (nI c)) 1072 4 (nI (k + 1))) W H := by
  obtain ⟨e1, e2, e3, e4, e5, e6, e7, e8, e9, e10, e11⟩ := hC
  have hcN : cN (T 1072 4) = k := by rw [hk]; exact cN_nI (by omega)
  have hcN' : cN (nI (k + 1)) = k + 1 := cN_nI (by omega)
  have key : L (h + 1) 8 ||| (1 <<< ((nI c).toInt64 &&& 63)) = bs (fun c' => decide (c' < W * H) && anyN (fun q => decide (upI T 1075 k (nI c) 1075 q = nI c')) (k + 1)) := by
    rw [e5.2.2, hcN, bs_1 (by omega), bs_or]
    refine bs_c (fun c' hc' => ?_)
    have ha : anyN (fun q => decide (upI T 1075 k (nI c) 1075 q = nI c')) k = anyN (fun q => decide (T 1075 q = nI c')) k := anyN_c (fun q hq => by rw [upI_j (show q ≠ k by omega)])
    show (_ || _) = (_ && (anyN _ k || decide (upI T 1075 k (nI c) 1075 k = nI c')))
    rw [ha, upI_s]
    by_cases z : c' = c
    · rw [z, decide_eq_true hc, decide_eq_true (show c = c from rfl), decide_eq_true (show nI c = nI c from rfl)]; simp
    · rw [decide_eq_false z, decide_eq_false (show ¬ nI c = nI c' from fun q => z ((nI_eqI (by omega) (by omega)).mp q).symm)]; simp
  have hq : ∀ k', k' < k + 1 → upI (upI I (h + 3) k (nI c)) (h + 1) 7 (nI (k + 1)) (h + 3) k' = upI T 1075 k (nI c) 1075 k' := fun k' hk' => by
    rw [upI_nea (by omega)]
    by_cases z : k' = k
    · rw [z, upI_s, upI_s]
    · rw [upI_j z, upI_j z]; exact e5.2.1 k' (by omega)
  rcases hh with rfl | rfl
  all_goals
    refine ⟨e1, e2, e3, e4, ⟨upI_s.trans upI_s.symm, fun k' hk' => ?_, ?_⟩, e6, e7, e8, ⟨e9.1, fun p k hp hk => ?_⟩, e10, fun f hf => by rw [upI_nea (by decide), upI_nea (by decide), upI_j (by omega), upI_nea (by decide)]; exact e11 f hf⟩
    · rw [upI_s, hcN'] at hk'
      exact hq k' hk'
    · rw [upI_s, hcN']
      exact upL_s.trans key
    · have hk2 : 1076 + k ≠ 1072 ∧ 1076 + k ≠ 1075 := by omega
      rw [upI_nea (by omega), upI_nea (by omega), upI_nea hk2.1, upI_nea hk2.2]; exact e9.2 p k hp hk

set_option maxHeartbeats 1000000 in
set_option maxRecDepth 20000 in
theorem tX5_readHeight (hW : jWok w l) (hR : RS R) (hS : LnS R sz tp h W H np len I L x T s) : jRi w l mX5_readHeight 4 [.ref 1004] (n, shE, I, L, R) (LnQ n R sz tp h W H I L (liHt tp sz x T) s) := by
  refine jRi_of hW (by decide) rfl (Nat.le_of_ble_eq_true rfl) ?_
  obtain ⟨hh, hRt, hx, h0, hC, hs, hB⟩ := hS
  obtain ⟨dW, dH, hWb, hHb, hWH, dnp, hnp⟩ := BT_d hB
  have hc63 : vCl tp sz W H (stX tp sz x) < W * H := vCl_lt (by omega) (by omega)
  have hg : bt (L (h + 1) 3) (vCl tp sz W H (stX tp sz x)) = decide (T 1084 (vCl tp sz W H (stX tp sz x)) ≠ 0) := by
    rw [hC.2.2.1, bt_bs (by omega)]
    by_cases e : T 1084 (vCl tp sz W H (stX tp sz x)) = 0
    · rw [decide_eq_false (fun q => q.2 e), decide_eq_false (fun q => q e)]
    · rw [decide_eq_true ⟨hc63, e⟩, decide_eq_true e]
  have hf := liHt_e (x := x) hB hg
  generalize hX : tcX tp sz W H (bt (L (h + 1) 3)) x = X at hf
  rcases hh with rfl | rfl
  all_goals
    refine jx_aload_n dX5_readHeight_0 rfl ?_
    refine jx_getR dX5_readHeight_1 flX5_33 rfl rfl (by first | exact hRt | exact hR _ _ _ rfl) ?_
    refine jx_getR dX5_readHeight_4 flX5_69 rfl rfl (by first | exact hRt | exact hR _ _ _ rfl) ?_
    refine jx_astore_n dX5_readHeight_7 rfl (by decide) ?_
    refine jx_aload_n dX5_readHeight_8 rfl ?_
    refine jx_aload_n dX5_readHeight_9 rfl ?_
    refine jx_getL dX5_readHeight_10 flX5_193 rfl rfl ?_
    refine jx_VRi (as := [.long _]) dX5_readHeight_13 mlX5_197 okX5_takeCell viX5_takeCell rfl rfl rfl rfl rfl (by decide) (Nat.le_of_ble_eq_true rfl) (tX5_takeCell hW hR hx h0 (by decide) hRt hC.1.1 hC.1.2 hWb hHb (_)) (fun x13 t13 hq13 => ?_)
    obtain ⟨J1, rfl, fJ1, gJ1, vJ1, rfl⟩ := hq13
    rw [hX] at gJ1 vJ1 ⊢
    refine jx_ifB_ne 21 dX5_readHeight_16 (by decide) (fun h16 => ?_) (fun h16 => ?_)
    · have hz1 := of_decide_eq_true h16
      rw [if_neg (fun q => q hz1)] at hf
      refine jx_aload_n dX5_readHeight_21 rfl ?_
      refine jx_getIE dX5_readHeight_22 flX5_87 rfl rfl (vJ1 hz1) ?_
      refine jx_istore_n dX5_readHeight_25 rfl (by decide) ?_
      refine jx_aload_n dX5_readHeight_26 rfl ?_
      refine jx_iconst (v := 0) dX5_readHeight_27 (by decide) ?_
      refine jx_bipush (v := 9) dX5_readHeight_28 (by decide) ?_
      refine jx_VRi (as := [.int _, .int _]) dX5_readHeight_30 mlX5_83 okX5_takeNumber viX5_takeNumber rfl rfl rfl rfl rfl (by decide) (Nat.le_of_ble_eq_true rfl) (tX5_takeNumber (lo := 0) (hi := 9) hW hR gJ1 hz1 (by decide) (by decide)) (fun x30 t30 hq30 => ?_)
      obtain ⟨J2, rfl, fJ2, gJ2, vJ2, rfl⟩ := hq30
      refine jx_ifB_ne 38 dX5_readHeight_33 (by decide) (fun h33 => ?_) (fun h33 => ?_)
      · have hz2 := of_decide_eq_true h33
        refine jx_aload_n dX5_readHeight_38 rfl ?_
        refine jx_dup dX5_readHeight_39 rfl ?_
        refine jx_getL dX5_readHeight_40 flX5_193 rfl rfl ?_
        refine jx_lconst (v := 1) dX5_readHeight_43 (by decide) ?_
        refine jx_iload_n dX5_readHeight_44 rfl ?_
        refine jx_lshl dX5_readHeight_45 ?_
        refine jx_lor dX5_readHeight_46 ?_
        refine jx_putL dX5_readHeight_47 flX5_193 rfl rfl (fun r h => by cases h; rfl) ?_
        refine jx_iload_n dX5_readHeight_50 rfl ?_
        refine jx_ifN_lt (a := (vCl tp sz W H (stX tp sz x))) 73 dX5_readHeight_51 (by decide) (by omega) ?_
        refine jx_iload_n dX5_readHeight_54 rfl ?_
        refine jx_aload_n dX5_readHeight_55 rfl ?_
        refine jx_getR dX5_readHeight_56 flX5_201 rfl rfl (by first | exact hRt | exact hR _ _ _ rfl) ?_
        refine jx_alen dX5_readHeight_59 rfl (by decide) (by decide) ?_
        refine jx_icmpN_ge (a := (vCl tp sz W H (stX tp sz x))) (b := 63) 73 dX5_readHeight_60 (by decide) (by omega) (by omega) (fun h60 => ?_) (fun h60 => ?_)
        · exact absurd h60 (by omega)
        · refine jx_aload_n dX5_readHeight_63 rfl ?_
          refine jx_getR dX5_readHeight_64 flX5_201 rfl rfl (by first | exact hRt | exact hR _ _ _ rfl) ?_
          refine jx_iload_n dX5_readHeight_67 rfl ?_
          refine jx_aload_n dX5_readHeight_68 rfl ?_
          refine jx_getIE dX5_readHeight_69 flX5_87 rfl rfl (vJ2 hz2) ?_
          refine jx_iastN (vCl tp sz W H (stX tp sz x)) dX5_readHeight_72 rfl (rfl) (by omega) (by omega) ?_
          refine jx_iconst (v := 1) dX5_readHeight_73 (by decide) ?_
          refine jx_zret dX5_readHeight_74 rfl ?_ ?_
          · first | exact Or.inl rfl | exact Or.inr rfl | exact jb_or _
          have h12 := eqR_t fJ1 fJ2
          exact ⟨_, rfl, LnQ_g hf hz2 (eqG_u (eqR_G h12) (gF_h (by decide) (by decide))) (eqGL_u (eqGL_r _ L)) (C3.f gJ2 (fun _ => rfl) (fun _ => rfl)) (CTl_ht (by decide) (hC.r (by decide) h12 (by omega)) hc63 hWH) ((h12 1004 3 (by decide)).trans hs)⟩
      · have hz2 := of_decide_eq_false h33
        refine jx_iconst (v := 0) dX5_readHeight_36 (by decide) ?_
        refine jx_zret dX5_readHeight_37 rfl ?_ ?_
        · first | exact Or.inl rfl | exact Or.inr rfl | exact jb_or _
        exact ⟨_, rfl, LnQ_b hf hz2 (eqR_G (eqR_t fJ1 fJ2)) (eqGL_r _ L) gJ2⟩
    · have hz1 := of_decide_eq_false h16
      rw [if_pos hz1] at hf
      refine jx_iconst (v := 0) dX5_readHeight_19 (by decide) ?_
      refine jx_zret dX5_readHeight_20 rfl ?_ ?_
      · first | exact Or.inl rfl | exact Or.inr rfl | exact jb_or _
      exact ⟨_, rfl, LnQ_b hf hz1 (eqR_G fJ1) (eqGL_r _ L) gJ1⟩
set_option maxHeartbeats 1000000 in
set_option maxRecDepth 20000 in
theorem tX5_readQuick (hW : jWok w l) (hR : RS R) (hS : LnS R sz tp h W H np len I L x T s) : jRi w l mX5_readQuick 4 [.ref 1004] (n, shE, I, L, R) (LnQ n R sz tp h W H I L (liThg tp sz 4 x T) s) := by
  refine jRi_of hW (by decide) rfl (Nat.le_of_ble_eq_true rfl) ?_
  obtain ⟨hh, hRt, hx, h0, hC, hs, hB⟩ := hS
  obtain ⟨dW, dH, hWb, hHb, hWH, dnp, hnp⟩ := BT_d hB
  have hc63 : vCl tp sz W H (stX tp sz x) < W * H := vCl_lt (by omega) (by omega)
  have hq4 := hB.1.1.2.1
  have hg : bt (L (h + 1) 8) (vCl tp sz W H (stX tp sz x)) = tkn T 4 (vCl tp sz W H (stX tp sz x)) := by
    rw [hC.2.2.2.2.1.2.2, bt_bs (by omega), decide_eq_true hc63, Bool.true_and]
    unfold tkn
    rw [if_pos rfl]
  have hf := fun q => liThg_e (x := x) (k := 4) hB q hg
  generalize hX : tcX tp sz W H (bt (L (h + 1) 8)) x = X at hf
  rcases hh with rfl | rfl
  all_goals
    refine jx_aload_n dX5_readQuick_0 rfl ?_
    refine jx_getR dX5_readQuick_1 flX5_33 rfl rfl (by first | exact hRt | exact hR _ _ _ rfl) ?_
    refine jx_getR dX5_readQuick_4 flX5_69 rfl rfl (by first | exact hRt | exact hR _ _ _ rfl) ?_
    refine jx_astore_n dX5_readQuick_7 rfl (by decide) ?_
    refine jx_aload_n dX5_readQuick_8 rfl ?_
    refine jx_getIE dX5_readQuick_9 flX5_223 rfl rfl (hC.2.2.2.2.1.1.trans hq4.1) ?_
    refine jx_aload_n dX5_readQuick_12 rfl ?_
    refine jx_getR dX5_readQuick_13 flX5_226 rfl rfl (by first | exact hRt | exact hR _ _ _ rfl) ?_
    refine jx_alen dX5_readQuick_16 rfl (by decide) (by decide) ?_
    refine jx_icmpN_lt (a := (cN (T 1072 4))) (b := 12) 29 dX5_readQuick_17 (by decide) (by omega) (by omega) (fun h17 => ?_) (fun h17 => ?_)
    · have hf := hf (by omega)
      refine jx_aload_n dX5_readQuick_29 rfl ?_
      refine jx_aload_n dX5_readQuick_30 rfl ?_
      refine jx_getL dX5_readQuick_31 flX5_229 rfl rfl ?_
      refine jx_VRi (as := [.long _]) dX5_readQuick_34 mlX5_197 okX5_takeCell viX5_takeCell rfl rfl rfl rfl rfl (by decide) (Nat.le_of_ble_eq_true rfl) (tX5_takeCell hW hR hx h0 (by decide) hRt hC.1.1 hC.1.2 hWb hHb (_)) (fun x34 t34 hq34 => ?_)
      obtain ⟨J1, rfl, fJ1, gJ1, vJ1, rfl⟩ := hq34
      rw [hX] at gJ1 vJ1 ⊢
      refine jx_ifB_ne 42 dX5_readQuick_37 (by decide) (fun h37 => ?_) (fun h37 => ?_)
      · have hz1 := of_decide_eq_true h37
        rw [if_neg (fun q => q hz1), if_pos rfl] at hf
        refine jx_aload_n dX5_readQuick_42 rfl ?_
        refine jx_dup dX5_readQuick_43 rfl ?_
        refine jx_getL dX5_readQuick_44 flX5_229 rfl rfl ?_
        refine jx_lconst (v := 1) dX5_readQuick_47 (by decide) ?_
        refine jx_aload_n dX5_readQuick_48 rfl ?_
        refine jx_getIE dX5_readQuick_49 flX5_87 rfl rfl (vJ1 hz1) ?_
        refine jx_lshl dX5_readQuick_52 ?_
        refine jx_lor dX5_readQuick_53 ?_
        refine jx_putL dX5_readQuick_54 flX5_229 rfl rfl (fun r h => by cases h; rfl) ?_
        refine jx_aload_n dX5_readQuick_57 rfl ?_
        refine jx_getR dX5_readQuick_58 flX5_226 rfl rfl (by first | exact hRt | exact hR _ _ _ rfl) ?_
        refine jx_aload_n dX5_readQuick_61 rfl ?_
        refine jx_getIE dX5_readQuick_62 flX5_223 rfl rfl ((fJ1 _ _ (by decide)).trans (hC.2.2.2.2.1.1.trans hq4.1)) ?_
        refine jx_aload_n dX5_readQuick_65 rfl ?_
        refine jx_getIE dX5_readQuick_66 flX5_87 rfl rfl (vJ1 hz1) ?_
        refine jx_iastN (cN (T 1072 4)) dX5_readQuick_69 rfl (rfl) (by omega) (by omega) ?_
        refine jx_aload_n dX5_readQuick_70 rfl ?_
        refine jx_dup dX5_readQuick_71 rfl ?_
        refine jx_getIE dX5_readQuick_72 flX5_223 rfl rfl ((upI_nea (by decide)).trans ((fJ1 _ _ (by decide)).trans (hC.2.2.2.2.1.1.trans hq4.1))) ?_
        refine jx_iconst (v := 1) dX5_readQuick_75 (by decide) ?_
        refine jx_iaddE (z := nI ((cN (T 1072 4)) + 1)) dX5_readQuick_76 (nI_add (cN (T 1072 4)) 1) ?_
        refine jx_putI dX5_readQuick_77 flX5_223 rfl rfl (fun r h => by cases h; rfl) ?_
        refine jx_iconst (v := 1) dX5_readQuick_80 (by decide) ?_
        refine jx_zret dX5_readQuick_81 rfl ?_ ?_
        · first | exact Or.inl rfl | exact Or.inr rfl | exact jb_or _
        exact ⟨_, rfl, LnQ_g hf hz1 (eqG_u (eqG_u (eqR_G fJ1) (gF_h (by decide) (by decide))) (gF_h (by decide) (by decide))) (eqGL_u (eqGL_r _ L)) (C3.f gJ1 (fun _ => rfl) (fun _ => rfl)) (CTl_qk (by decide) (hC.r (by decide) fJ1 (by omega)) hq4.1 (by omega) hc63 hWH) ((fJ1 1004 3 (by decide)).trans hs)⟩
      · have hz1 := of_decide_eq_false h37
        rw [if_pos hz1] at hf
        refine jx_iconst (v := 0) dX5_readQuick_40 (by decide) ?_
        refine jx_zret dX5_readQuick_41 rfl ?_ ?_
        · first | exact Or.inl rfl | exact Or.inr rfl | exact jb_or _
        exact ⟨_, rfl, LnQ_b hf hz1 (eqR_G fJ1) (eqGL_r _ L) gJ1⟩
    · have hf : liThg tp sz 4 x T = (pWr 2 x, T) := by unfold liThg; rw [if_pos (by omega)]
      have hz1 : (pWr 2 x).2.1 ≠ 0 := pWr_z h0 (by decide)
      refine jx_aload_n dX5_readQuick_20 rfl ?_
      refine jx_getR dX5_readQuick_21 flX5_14 rfl rfl (by first | exact hRt | exact hR _ _ _ rfl) ?_
      refine jx_iconst (v := 2) dX5_readQuick_24 (by decide) ?_
      refine jx_VRi (as := [.int _]) dX5_readQuick_25 mlX5_141 okX9_refuse viX9_refuse rfl rfl rfl rfl rfl (by decide) (Nat.le_of_ble_eq_true rfl) (tX9_refuse_x (k := 2) hW hR hx h0 (by decide)) (fun x25 t25 hq25 => ?_)
      obtain ⟨J1, rfl, fJ1, gJ1, rfl⟩ := hq25
      refine jx_zret dX5_readQuick_28 rfl ?_ ?_
      · first | exact Or.inl rfl | exact Or.inr rfl | exact jb_or _
      exact ⟨_, rfl, LnQ_b hf hz1 (eqR_G fJ1) (eqGL_r _ L) gJ1⟩
end CZ4
