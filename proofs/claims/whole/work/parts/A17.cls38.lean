/-! THE CLASS: rocks and ladders -/
section CZ13
variable {w : jWD} {l : Launch} {n : Nat} {I J : Nat → Nat → Int32} {L M : Nat → Nat → Int64} {R : Nat → Nat → Option Nat} {sz : Nat} {tp : Nat → Nat} {x : Nat × Nat × Nat} {T : Nat → Nat → Int32} {h W H np len s : Nat}

set_option maxHeartbeats 1000000 in
set_option maxRecDepth 20000 in
theorem tJ13_bitCount_95d88 (hW : jWok w l) (v : Int64) (σ : jHS) : jCD w l mJ13_bitCount_95d88 1 [.long v] σ (some (.int (nI (cntN (bt v) 64)))) σ := by
  refine jCD_ofF hW (by decide +kernel) rfl (Nat.le_of_ble_eq_true rfl) ?_
  refine jx_lload_n dJ13_bitCount_95d88_0 rfl ?_
  refine jx_lload_n dJ13_bitCount_95d88_1 rfl ?_
  refine jx_iconst (v := 1) dJ13_bitCount_95d88_2 (by decide) ?_
  refine jx_lushr dJ13_bitCount_95d88_3 ?_
  refine jx_ldc2 dJ13_bitCount_95d88_4 ctJ13_314 ?_
  refine jx_land dJ13_bitCount_95d88_7 ?_
  refine jx_lsubE (z := pq1 v) dJ13_bitCount_95d88_8 (rfl) ?_
  refine jx_lstore_n dJ13_bitCount_95d88_9 rfl (by decide) ?_
  refine jx_lload_n dJ13_bitCount_95d88_10 rfl ?_
  refine jx_ldc2 dJ13_bitCount_95d88_11 ctJ13_316 ?_
  refine jx_land dJ13_bitCount_95d88_14 ?_
  refine jx_lload_n dJ13_bitCount_95d88_15 rfl ?_
  refine jx_iconst (v := 2) dJ13_bitCount_95d88_16 (by decide) ?_
  refine jx_lushr dJ13_bitCount_95d88_17 ?_
  refine jx_ldc2 dJ13_bitCount_95d88_18 ctJ13_316 ?_
  refine jx_land dJ13_bitCount_95d88_21 ?_
  refine jx_laddE (z := pq2 (pq1 v)) dJ13_bitCount_95d88_22 (rfl) ?_
  refine jx_lstore_n dJ13_bitCount_95d88_23 rfl (by decide) ?_
  refine jx_lload_n dJ13_bitCount_95d88_24 rfl ?_
  refine jx_lload_n dJ13_bitCount_95d88_25 rfl ?_
  refine jx_iconst (v := 4) dJ13_bitCount_95d88_26 (by decide) ?_
  refine jx_lushr dJ13_bitCount_95d88_27 ?_
  refine jx_ladd dJ13_bitCount_95d88_28 ?_
  refine jx_ldc2 dJ13_bitCount_95d88_29 ctJ13_318 ?_
  refine jx_landE (z := pq3 (pq2 (pq1 v))) dJ13_bitCount_95d88_32 (rfl) ?_
  refine jx_lstore_n dJ13_bitCount_95d88_33 rfl (by decide) ?_
  refine jx_lload_n dJ13_bitCount_95d88_34 rfl ?_
  refine jx_lload_n dJ13_bitCount_95d88_35 rfl ?_
  refine jx_bipush (v := 8) dJ13_bitCount_95d88_36 (by decide) ?_
  refine jx_lushr dJ13_bitCount_95d88_38 ?_
  refine jx_laddE (z := pq4 (pq3 (pq2 (pq1 v)))) dJ13_bitCount_95d88_39 (rfl) ?_
  refine jx_lstore_n dJ13_bitCount_95d88_40 rfl (by decide) ?_
  refine jx_lload_n dJ13_bitCount_95d88_41 rfl ?_
  refine jx_lload_n dJ13_bitCount_95d88_42 rfl ?_
  refine jx_bipush (v := 16) dJ13_bitCount_95d88_43 (by decide) ?_
  refine jx_lushr dJ13_bitCount_95d88_45 ?_
  refine jx_laddE (z := pq5 (pq4 (pq3 (pq2 (pq1 v))))) dJ13_bitCount_95d88_46 (rfl) ?_
  refine jx_lstore_n dJ13_bitCount_95d88_47 rfl (by decide) ?_
  refine jx_lload_n dJ13_bitCount_95d88_48 rfl ?_
  refine jx_lload_n dJ13_bitCount_95d88_49 rfl ?_
  refine jx_bipush (v := 32) dJ13_bitCount_95d88_50 (by decide) ?_
  refine jx_lushr dJ13_bitCount_95d88_52 ?_
  refine jx_laddE (z := pq6 (pq5 (pq4 (pq3 (pq2 (pq1 v)))))) dJ13_bitCount_95d88_53 (rfl) ?_
  refine jx_lstore_n dJ13_bitCount_95d88_54 rfl (by decide) ?_
  refine jx_lload_n dJ13_bitCount_95d88_55 rfl ?_
  refine jx_l2i dJ13_bitCount_95d88_56 ?_
  refine jx_bipush (v := 127) dJ13_bitCount_95d88_57 (by decide) ?_
  refine jx_iandE (z := nI (cntN (bt v) 64)) dJ13_bitCount_95d88_59 (pop_e v) ?_
  refine jx_iret dJ13_bitCount_95d88_60 rfl ?_
  exact ⟨rfl, rfl⟩
/-- how many rocks and ladders there are -/
def KT (T : Nat → Nat → Int32) (W H : Nat) : Prop := cntN (fun c => decide (c < W * H ∧ T 1074 c = 1)) 64 = cN (T 1072 2) ∧ cntN (fun c => decide (c < W * H ∧ T 1074 c = 2)) 64 = cN (T 1072 3)
theorem cnt_bs (f : Nat → Bool) : cntN (bt (bs f)) 64 = cntN f 64 := cntN_cc 64 (fun i hi => bt_bs hi)
theorem tkn_bt {k c : Nat} (hk : k = 2 ∨ k = 3) (hB : BT T W H np len) (hC : CTl I L h T W H) (hc : c < W * H) : bt (((L (h + 1) 4 ||| L (h + 1) 5) ||| L (h + 1) 12) ||| L (h + 1) 13) c = tkn T k c := by
  obtain ⟨d1, d2, hWb, hHb, hWH, -⟩ := BT_d hB
  have hT := (hB.1.2.1 c hc).2
  rw [bt_or, bt_or, bt_or, hC.2.2.2.1.1, hC.2.2.2.1.2, hC.2.2.2.2.2.2.1.2.1, hC.2.2.2.2.2.2.1.2.2, bt_bs (by omega), bt_bs (by omega), bt_bs (by omega), bt_bs (by omega)]
  unfold tkn
  rw [if_neg (by omega), d1]
  have h012 : cN (T 1074 c) = 0 ∨ cN (T 1074 c) = 1 ∨ cN (T 1074 c) = 2 := by have := hT.2; omega
  by_cases a : c % W = 0
  · rw [decide_eq_true (show c < W * H ∧ c % W = 0 from ⟨hc, a⟩), decide_eq_true (show T 1074 c ≠ 0 ∨ c % W = 0 ∨ c % W = W - 1 from Or.inr (Or.inl a))]; simp
  · rw [decide_eq_false (show ¬ (c < W * H ∧ c % W = 0) from fun q => a q.2)]
    by_cases b : c % W = W - 1
    · rw [decide_eq_true (show c < W * H ∧ c % W = W - 1 from ⟨hc, b⟩), decide_eq_true (show T 1074 c ≠ 0 ∨ c % W = 0 ∨ c % W = W - 1 from Or.inr (Or.inr b))]; simp
    · rw [decide_eq_false (show ¬ (c < W * H ∧ c % W = W - 1) from fun q => b q.2)]
      have e1 := hT.1
      rcases h012 with z | z | z
      · rw [z] at e1
        rw [decide_eq_false (show ¬ (c < W * H ∧ T 1074 c = 1) from fun q => by rw [e1] at q; exact absurd q.2 (by decide)), decide_eq_false (show ¬ (c < W * H ∧ T 1074 c = 2) from fun q => by rw [e1] at q; exact absurd q.2 (by decide)), decide_eq_false (show ¬ (T 1074 c ≠ 0 ∨ c % W = 0 ∨ c % W = W - 1) from fun q => by
          rcases q with q | q | q
          · exact q e1
          · exact a q
          · exact b q)]; rfl
      · rw [z] at e1
        rw [decide_eq_true (show c < W * H ∧ T 1074 c = 1 from ⟨hc, e1⟩), decide_eq_true (show T 1074 c ≠ 0 ∨ c % W = 0 ∨ c % W = W - 1 from Or.inl (by rw [e1]; decide))]; simp
      · rw [z] at e1
        rw [decide_eq_true (show c < W * H ∧ T 1074 c = 2 from ⟨hc, e1⟩), decide_eq_true (show T 1074 c ≠ 0 ∨ c % W = 0 ∨ c % W = W - 1 from Or.inl (by rw [e1]; decide))]; simp
theorem tkn_0 {k c : Nat} (hk : k = 2 ∨ k = 3) (h : tkn T k c = false) : T 1074 c = 0 := by
  unfold tkn at h
  rw [if_neg (by omega)] at h
  have := of_decide_eq_false h
  by_cases z : T 1074 c = 0
  · exact z
  · exact absurd (Or.inl z) this

theorem CTl_rk {c q : Nat} (hh : h = 1008 ∨ h = 1024) (hC : CTl I L h T W H) (hT : T 1074 c = 0) (hc : c < W * H) (hWH : W * H ≤ 63) : CTl I (upL L (h + 1) 4 (L (h + 1) 4 ||| (1 <<< ((nI c).toInt64 &&& 63)))) h (upI (upI T 1074 c (nI 1)) 1072 2 (nI q)) W H := by
  obtain ⟨e1, e2, e3, e4, e5, e6, e7, e8, e9, e10, e11⟩ := hC
  have key : L (h + 1) 4 ||| (1 <<< ((nI c).toInt64 &&& 63)) = bs (fun c' => decide (c' < W * H ∧ upI T 1074 c (nI 1) 1074 c' = 1)) := by
    rw [e4.1, bs_1 (by omega), bs_or]
    refine bs_c (fun c' _ => ?_)
    by_cases z : c' = c
    · subst z
      rw [upI_s, decide_eq_true (show c' = c' from rfl), Bool.or_true, decide_eq_true ⟨hc, by decide⟩]
    · rw [upI_j z, decide_eq_false z, Bool.or_false]
  have key2 : L (h + 1) 5 = bs (fun c' => decide (c' < W * H ∧ upI T 1074 c (nI 1) 1074 c' = 2)) := by
    rw [e4.2]
    refine bs_c (fun c' _ => ?_)
    by_cases z : c' = c
    · subst z
      rw [upI_s, decide_eq_false (fun q => by rw [hT] at q; exact absurd q.2 (by decide)), decide_eq_false (fun q => absurd q.2 (by decide))]
    · rw [upI_j z]
  rcases hh with rfl | rfl
  all_goals
    refine ⟨e1, e2, e3, ⟨upL_s.trans key, key2⟩, e5, e6, e7, e8, ⟨e9.1, fun p k hp hk => ?_⟩, e10, fun f hf => ?_⟩
    · rw [upI_nea (show 1076 + k ≠ 1072 by omega), upI_nea (show 1076 + k ≠ 1074 by omega)]; exact e9.2 p k hp hk
    · rw [upI_j (by omega), upI_nea (by decide)]; exact e11 f hf
theorem CTl_ld {c q : Nat} (hh : h = 1008 ∨ h = 1024) (hC : CTl I L h T W H) (hT : T 1074 c = 0) (hc : c < W * H) (hWH : W * H ≤ 63) : CTl I (upL L (h + 1) 5 (L (h + 1) 5 ||| (1 <<< ((nI c).toInt64 &&& 63)))) h (upI (upI T 1074 c (nI 2)) 1072 3 (nI q)) W H := by
  obtain ⟨e1, e2, e3, e4, e5, e6, e7, e8, e9, e10, e11⟩ := hC
  have key : L (h + 1) 5 ||| (1 <<< ((nI c).toInt64 &&& 63)) = bs (fun c' => decide (c' < W * H ∧ upI T 1074 c (nI 2) 1074 c' = 2)) := by
    rw [e4.2, bs_1 (by omega), bs_or]
    refine bs_c (fun c' _ => ?_)
    by_cases z : c' = c
    · subst z
      rw [upI_s, decide_eq_true (show c' = c' from rfl), Bool.or_true, decide_eq_true ⟨hc, by decide⟩]
    · rw [upI_j z, decide_eq_false z, Bool.or_false]
  have key2 : L (h + 1) 4 = bs (fun c' => decide (c' < W * H ∧ upI T 1074 c (nI 2) 1074 c' = 1)) := by
    rw [e4.1]
    refine bs_c (fun c' _ => ?_)
    by_cases z : c' = c
    · subst z
      rw [upI_s, decide_eq_false (fun q => by rw [hT] at q; exact absurd q.2 (by decide)), decide_eq_false (fun q => absurd q.2 (by decide))]
    · rw [upI_j z]
  rcases hh with rfl | rfl
  all_goals
    refine ⟨e1, e2, e3, ⟨key2, upL_s.trans key⟩, e5, e6, e7, e8, ⟨e9.1, fun p k hp hk => ?_⟩, e10, fun f hf => ?_⟩
    · rw [upI_nea (show 1076 + k ≠ 1072 by omega), upI_nea (show 1076 + k ≠ 1074 by omega)]; exact e9.2 p k hp hk
    · rw [upI_j (by omega), upI_nea (by decide)]; exact e11 f hf
set_option maxHeartbeats 1000000 in
set_option maxRecDepth 20000 in
theorem tX5_readRock (hW : jWok w l) (hR : RS R) (hS : LnS R sz tp h W H np len I L x T s) (hK : KT T W H) : jRi w l mX5_readRock 4 [.ref 1004] (n, shE, I, L, R) (LnQ n R sz tp h W H I L (liThg tp sz 2 x T) s) := by
  refine jRi_of hW (by decide) rfl (Nat.le_of_ble_eq_true rfl) ?_
  obtain ⟨hh, hRt, hx, h0, hC, hs, hB⟩ := hS
  obtain ⟨dW, dH, hWb, hHb, hWH, dnp, hnp⟩ := BT_d hB
  have hc63 : vCl tp sz W H (stX tp sz x) < W * H := vCl_lt (by omega) (by omega)
  have hq4 := (hB.2.1 2 (by omega))
  have hcnt : cntN (bt (L (h + 1) 4)) 64 = cN (T 1072 2) := by rw [hC.2.2.2.1.1, cnt_bs]; exact hK.1
  have hg := tkn_bt (k := 2) (by omega) hB hC hc63
  have hf := fun q => liThg_e (x := x) (k := 2) hB q hg
  have hX0 : (tcX tp sz W H (bt (((L (h + 1) 4 ||| L (h + 1) 5) ||| L (h + 1) 12) ||| L (h + 1) 13)) x).2.1 = 0 → T 1074 (vCl tp sz W H (stX tp sz x)) = 0 := fun q => by
    have := (tcX_0 q).2.1
    rw [hg] at this
    exact tkn_0 (k := 2) (by omega) this
  generalize hX : tcX tp sz W H (bt (((L (h + 1) 4 ||| L (h + 1) 5) ||| L (h + 1) 12) ||| L (h + 1) 13)) x = X at hf hX0
  rcases hh with rfl | rfl
  all_goals
    refine jx_aload_n dX5_readRock_0 rfl ?_
    refine jx_getR dX5_readRock_1 flX5_33 rfl rfl (by first | exact hRt | exact hR _ _ _ rfl) ?_
    refine jx_getR dX5_readRock_4 flX5_69 rfl rfl (by first | exact hRt | exact hR _ _ _ rfl) ?_
    refine jx_astore_n dX5_readRock_7 rfl (by decide) ?_
    refine jx_aload_n dX5_readRock_8 rfl ?_
    refine jx_getL dX5_readRock_9 flX5_205 rfl rfl ?_
    refine jx_Si (as := [.long _]) dX5_readRock_12 mlX5_208 okJ13_bitCount_95d88 stJ13_bitCount_95d88 rfl rfl (by decide) (Nat.le_of_ble_eq_true rfl) (tJ13_bitCount_95d88 hW _ _) ?_
    rw [hcnt]
    refine jx_bipush (v := 12) dX5_readRock_15 (by decide) ?_
    refine jx_icmpN_lt (a := (cN (T 1072 2))) (b := 12) 29 dX5_readRock_17 (by decide) (by omega) (by omega) (fun h17 => ?_) (fun h17 => ?_)
    · have hf := hf (by omega)
      refine jx_aload_n dX5_readRock_29 rfl ?_
      refine jx_aload_n dX5_readRock_30 rfl ?_
      refine jx_getL dX5_readRock_31 flX5_205 rfl rfl ?_
      refine jx_aload_n dX5_readRock_34 rfl ?_
      refine jx_getL dX5_readRock_35 flX5_214 rfl rfl ?_
      refine jx_lor dX5_readRock_38 ?_
      refine jx_aload_n dX5_readRock_39 rfl ?_
      refine jx_getL dX5_readRock_40 flX5_217 rfl rfl ?_
      refine jx_lor dX5_readRock_43 ?_
      refine jx_aload_n dX5_readRock_44 rfl ?_
      refine jx_getL dX5_readRock_45 flX5_220 rfl rfl ?_
      refine jx_lor dX5_readRock_48 ?_
      refine jx_VRi (as := [.long _]) dX5_readRock_49 mlX5_197 okX5_takeCell viX5_takeCell rfl rfl rfl rfl rfl (by decide) (Nat.le_of_ble_eq_true rfl) (tX5_takeCell hW hR hx h0 (by decide) hRt hC.1.1 hC.1.2 hWb hHb (_)) (fun x49 t49 hq49 => ?_)
      obtain ⟨J1, rfl, fJ1, gJ1, vJ1, rfl⟩ := hq49
      rw [hX] at gJ1 vJ1 ⊢
      refine jx_ifB_ne 57 dX5_readRock_52 (by decide) (fun h52 => ?_) (fun h52 => ?_)
      · have hz1 := of_decide_eq_true h52
        rw [if_neg (fun q => q hz1), if_neg (by decide)] at hf
        refine jx_aload_n dX5_readRock_57 rfl ?_
        refine jx_dup dX5_readRock_58 rfl ?_
        refine jx_getL dX5_readRock_59 flX5_205 rfl rfl ?_
        refine jx_lconst (v := 1) dX5_readRock_62 (by decide) ?_
        refine jx_aload_n dX5_readRock_63 rfl ?_
        refine jx_getIE dX5_readRock_64 flX5_87 rfl rfl (vJ1 hz1) ?_
        refine jx_lshl dX5_readRock_67 ?_
        refine jx_lor dX5_readRock_68 ?_
        refine jx_putL dX5_readRock_69 flX5_205 rfl rfl (fun r h => by cases h; rfl) ?_
        refine jx_iconst (v := 1) dX5_readRock_72 (by decide) ?_
        refine jx_zret dX5_readRock_73 rfl ?_ ?_
        · first | exact Or.inl rfl | exact Or.inr rfl | exact jb_or _
        exact ⟨_, rfl, LnQ_g hf hz1 (eqR_G fJ1) (eqGL_u (eqGL_r _ L)) gJ1 (CTl_rk (by decide) (hC.r (by decide) fJ1 (by omega)) (hX0 hz1) hc63 hWH) ((fJ1 1004 3 (by decide)).trans hs)⟩
      · have hz1 := of_decide_eq_false h52
        rw [if_pos hz1] at hf
        refine jx_iconst (v := 0) dX5_readRock_55 (by decide) ?_
        refine jx_zret dX5_readRock_56 rfl ?_ ?_
        · first | exact Or.inl rfl | exact Or.inr rfl | exact jb_or _
        exact ⟨_, rfl, LnQ_b hf hz1 (eqR_G fJ1) (eqGL_r _ L) gJ1⟩
    · have hf : liThg tp sz 2 x T = (pWr 2 x, T) := by unfold liThg; rw [if_pos (by omega)]
      have hz1 : (pWr 2 x).2.1 ≠ 0 := pWr_z h0 (by decide)
      refine jx_aload_n dX5_readRock_20 rfl ?_
      refine jx_getR dX5_readRock_21 flX5_14 rfl rfl (by first | exact hRt | exact hR _ _ _ rfl) ?_
      refine jx_iconst (v := 2) dX5_readRock_24 (by decide) ?_
      refine jx_VRi (as := [.int _]) dX5_readRock_25 mlX5_141 okX9_refuse viX9_refuse rfl rfl rfl rfl rfl (by decide) (Nat.le_of_ble_eq_true rfl) (tX9_refuse_x (k := 2) hW hR hx h0 (by decide)) (fun x25 t25 hq25 => ?_)
      obtain ⟨J1, rfl, fJ1, gJ1, rfl⟩ := hq25
      refine jx_zret dX5_readRock_28 rfl ?_ ?_
      · first | exact Or.inl rfl | exact Or.inr rfl | exact jb_or _
      exact ⟨_, rfl, LnQ_b hf hz1 (eqR_G fJ1) (eqGL_r _ L) gJ1⟩
set_option maxHeartbeats 1000000 in
set_option maxRecDepth 20000 in
theorem tX5_readLadder (hW : jWok w l) (hR : RS R) (hS : LnS R sz tp h W H np len I L x T s) (hK : KT T W H) : jRi w l mX5_readLadder 4 [.ref 1004] (n, shE, I, L, R) (LnQ n R sz tp h W H I L (liThg tp sz 3 x T) s) := by
  refine jRi_of hW (by decide) rfl (Nat.le_of_ble_eq_true rfl) ?_
  obtain ⟨hh, hRt, hx, h0, hC, hs, hB⟩ := hS
  obtain ⟨dW, dH, hWb, hHb, hWH, dnp, hnp⟩ := BT_d hB
  have hc63 : vCl tp sz W H (stX tp sz x) < W * H := vCl_lt (by omega) (by omega)
  have hq4 := (hB.2.1 3 (by omega))
  have hcnt : cntN (bt (L (h + 1) 5)) 64 = cN (T 1072 3) := by rw [hC.2.2.2.1.2, cnt_bs]; exact hK.2
  have hg := tkn_bt (k := 3) (by omega) hB hC hc63
  have hf := fun q => liThg_e (x := x) (k := 3) hB q hg
  have hX0 : (tcX tp sz W H (bt (((L (h + 1) 4 ||| L (h + 1) 5) ||| L (h + 1) 12) ||| L (h + 1) 13)) x).2.1 = 0 → T 1074 (vCl tp sz W H (stX tp sz x)) = 0 := fun q => by
    have := (tcX_0 q).2.1
    rw [hg] at this
    exact tkn_0 (k := 3) (by omega) this
  generalize hX : tcX tp sz W H (bt (((L (h + 1) 4 ||| L (h + 1) 5) ||| L (h + 1) 12) ||| L (h + 1) 13)) x = X at hf hX0
  rcases hh with rfl | rfl
  all_goals
    refine jx_aload_n dX5_readLadder_0 rfl ?_
    refine jx_getR dX5_readLadder_1 flX5_33 rfl rfl (by first | exact hRt | exact hR _ _ _ rfl) ?_
    refine jx_getR dX5_readLadder_4 flX5_69 rfl rfl (by first | exact hRt | exact hR _ _ _ rfl) ?_
    refine jx_astore_n dX5_readLadder_7 rfl (by decide) ?_
    refine jx_aload_n dX5_readLadder_8 rfl ?_
    refine jx_getL dX5_readLadder_9 flX5_214 rfl rfl ?_
    refine jx_Si (as := [.long _]) dX5_readLadder_12 mlX5_208 okJ13_bitCount_95d88 stJ13_bitCount_95d88 rfl rfl (by decide) (Nat.le_of_ble_eq_true rfl) (tJ13_bitCount_95d88 hW _ _) ?_
    rw [hcnt]
    refine jx_bipush (v := 12) dX5_readLadder_15 (by decide) ?_
    refine jx_icmpN_lt (a := (cN (T 1072 3))) (b := 12) 29 dX5_readLadder_17 (by decide) (by omega) (by omega) (fun h17 => ?_) (fun h17 => ?_)
    · have hf := hf (by omega)
      refine jx_aload_n dX5_readLadder_29 rfl ?_
      refine jx_aload_n dX5_readLadder_30 rfl ?_
      refine jx_getL dX5_readLadder_31 flX5_205 rfl rfl ?_
      refine jx_aload_n dX5_readLadder_34 rfl ?_
      refine jx_getL dX5_readLadder_35 flX5_214 rfl rfl ?_
      refine jx_lor dX5_readLadder_38 ?_
      refine jx_aload_n dX5_readLadder_39 rfl ?_
      refine jx_getL dX5_readLadder_40 flX5_217 rfl rfl ?_
      refine jx_lor dX5_readLadder_43 ?_
      refine jx_aload_n dX5_readLadder_44 rfl ?_
      refine jx_getL dX5_readLadder_45 flX5_220 rfl rfl ?_
      refine jx_lor dX5_readLadder_48 ?_
      refine jx_VRi (as := [.long _]) dX5_readLadder_49 mlX5_197 okX5_takeCell viX5_takeCell rfl rfl rfl rfl rfl (by decide) (Nat.le_of_ble_eq_true rfl) (tX5_takeCell hW hR hx h0 (by decide) hRt hC.1.1 hC.1.2 hWb hHb (_)) (fun x49 t49 hq49 => ?_)
      obtain ⟨J1, rfl, fJ1, gJ1, vJ1, rfl⟩ := hq49
      rw [hX] at gJ1 vJ1 ⊢
      refine jx_ifB_ne 57 dX5_readLadder_52 (by decide) (fun h52 => ?_) (fun h52 => ?_)
      · have hz1 := of_decide_eq_true h52
        rw [if_neg (fun q => q hz1), if_neg (by decide)] at hf
        refine jx_aload_n dX5_readLadder_57 rfl ?_
        refine jx_dup dX5_readLadder_58 rfl ?_
        refine jx_getL dX5_readLadder_59 flX5_214 rfl rfl ?_
        refine jx_lconst (v := 1) dX5_readLadder_62 (by decide) ?_
        refine jx_aload_n dX5_readLadder_63 rfl ?_
        refine jx_getIE dX5_readLadder_64 flX5_87 rfl rfl (vJ1 hz1) ?_
        refine jx_lshl dX5_readLadder_67 ?_
        refine jx_lor dX5_readLadder_68 ?_
        refine jx_putL dX5_readLadder_69 flX5_214 rfl rfl (fun r h => by cases h; rfl) ?_
        refine jx_iconst (v := 1) dX5_readLadder_72 (by decide) ?_
        refine jx_zret dX5_readLadder_73 rfl ?_ ?_
        · first | exact Or.inl rfl | exact Or.inr rfl | exact jb_or _
        exact ⟨_, rfl, LnQ_g hf hz1 (eqR_G fJ1) (eqGL_u (eqGL_r _ L)) gJ1 (CTl_ld (by decide) (hC.r (by decide) fJ1 (by omega)) (hX0 hz1) hc63 hWH) ((fJ1 1004 3 (by decide)).trans hs)⟩
      · have hz1 := of_decide_eq_false h52
        rw [if_pos hz1] at hf
        refine jx_iconst (v := 0) dX5_readLadder_55 (by decide) ?_
        refine jx_zret dX5_readLadder_56 rfl ?_ ?_
        · first | exact Or.inl rfl | exact Or.inr rfl | exact jb_or _
        exact ⟨_, rfl, LnQ_b hf hz1 (eqR_G fJ1) (eqGL_r _ L) gJ1⟩
    · have hf : liThg tp sz 3 x T = (pWr 2 x, T) := by unfold liThg; rw [if_pos (by omega)]
      have hz1 : (pWr 2 x).2.1 ≠ 0 := pWr_z h0 (by decide)
      refine jx_aload_n dX5_readLadder_20 rfl ?_
      refine jx_getR dX5_readLadder_21 flX5_14 rfl rfl (by first | exact hRt | exact hR _ _ _ rfl) ?_
      refine jx_iconst (v := 2) dX5_readLadder_24 (by decide) ?_
      refine jx_VRi (as := [.int _]) dX5_readLadder_25 mlX5_141 okX9_refuse viX9_refuse rfl rfl rfl rfl rfl (by decide) (Nat.le_of_ble_eq_true rfl) (tX9_refuse_x (k := 2) hW hR hx h0 (by decide)) (fun x25 t25 hq25 => ?_)
      obtain ⟨J1, rfl, fJ1, gJ1, rfl⟩ := hq25
      refine jx_zret dX5_readLadder_28 rfl ?_ ?_
      · first | exact Or.inl rfl | exact Or.inr rfl | exact jb_or _
      exact ⟨_, rfl, LnQ_b hf hz1 (eqR_G fJ1) (eqGL_r _ L) gJ1⟩
end CZ13
