/-! THE CLASS: questions -/
def jQ (w : jWD) (l : Launch) (M : jMI) (d : Nat) (as : List Value) (n : Nat) (I : Nat → Nat → Int32) (L : Nat → Nat → Int64) (R : Nat → Nat → Option Nat) (h : Nat) (T : Nat → Nat → Int32) (W H np len : Nat) (v : Int32) : Prop := jRi w l M d as (n, shE, I, L, R) (fun r t => r = v ∧ ∃ J M', t = (n, shE, J, M', R) ∧ eqC I J ∧ eqCL L M' ∧ CX J M' R h T W H np len)
theorem ltQ_n {c : Int32} {b : Nat} (h : ltQ c b = true) : ∃ v, c = nI v ∧ v < b := by
  have h := of_decide_eq_true h
  exact ⟨cN c, nI_cN h.1, by have e : (cN c : Int) = c.toInt := Int.toNat_of_nonneg h.1; omega⟩
theorem dayQ_n {c : Int32} (h : dayQ c = true) : ∃ v, c = nI v ∧ v < 41 := by
  have h := of_decide_eq_true h
  exact ⟨cN c, nI_cN h.1, by have e : (cN c : Int) = c.toInt := Int.toNat_of_nonneg h.1; omega⟩
theorem tickQ_n {c : Int32} (h : tickQ c = true) : ∃ v, c = nI v ∧ v < 96 := by
  have h := of_decide_eq_true h
  exact ⟨cN c, nI_cN h.1, by have e : (cN c : Int) = c.toInt := Int.toNat_of_nonneg h.1; omega⟩
section CJ1
variable {w : jWD} {l : Launch} {n : Nat} {I : Nat → Nat → Int32} {L : Nat → Nat → Int64} {R : Nat → Nat → Option Nat}

set_option maxHeartbeats 1000000 in
set_option maxRecDepth 20000 in
theorem tX10_quick (hW : jWok w l) (hR : RS R) {h : Nat} {T : Nat → Nat → Int32} {W H np len : Nat} (hX : CX I L R h T W H np len) {c day : Nat} (hc : c < W * H) (hd : day ≤ 40) : jQ w l mX10_quick 7 [.ref 1000, .int (nI c), .int (nI day)] n I L R h T W H np len (jb (qq T W H day c)) := by
  refine jRi_of hW (by decide) rfl (Nat.le_of_ble_eq_true rfl) ?_
  have hX0 := hX
  obtain ⟨⟨⟨hh, hRi⟩, hI, hRI, hok, hFL, hSK⟩, hRh⟩ := hX
  have hT := RI.tq hRI
  have hw := hT.1
  have hhh := hT.2.1
  have hwh : W * H ≤ 63 := Nat.mul_le_mul hw.2 hhh.2
  have hn6 := hRI.2.2.2.2.1.2
  rcases hh with rfl | rfl
  all_goals
    refine jx_aload_n dX10_quick_0 rfl ?_
    refine jx_iload_n dX10_quick_1 rfl ?_
    refine jx_Vv (as := [.int _]) dX10_quick_2 mlX10_158 okX10_needCell viX10_needCell rfl rfl rfl rfl rfl (by decide) (Nat.le_of_ble_eq_true rfl) (tX10_needCell hW hR hX0 hc) ?_
    refine jx_aload_n dX10_quick_5 rfl ?_
    refine jx_iload_n dX10_quick_6 rfl ?_
    refine jx_Vv (as := [.int _]) dX10_quick_7 mlX10_170 okX10_needDay viX10_needDay rfl rfl rfl rfl rfl (by decide) (Nat.le_of_ble_eq_true rfl) (tX10_needDay hW hR (by omega)) ?_
    refine jx_aload_n dX10_quick_10 rfl ?_
    refine jx_getR dX10_quick_11 flX10_32 rfl rfl hRh ?_
    refine jx_getR dX10_quick_14 flX10_114 rfl rfl (hR _ _ _ rfl) ?_
    refine jx_iload_n dX10_quick_17 rfl ?_
    refine jx_Vl (as := [.int _]) dX10_quick_18 mlX10_173 okX8_quickNow viX8_quickNow rfl rfl rfl rfl rfl (by decide) (Nat.le_of_ble_eq_true rfl) (tX8_quickNow hW hR (by decide) hI.1 hT hd) ?_
    refine jx_iload_n dX10_quick_21 rfl ?_
    refine jx_Si (as := [.long _, .int _]) dX10_quick_22 mlX10_177 okX10_has stX10_has rfl rfl (by decide) (Nat.le_of_ble_eq_true rfl) (tX10_has hW (c := c) (by omega) _) ?_
    refine jx_zret dX10_quick_25 rfl ?_ ?_
    · first | exact Or.inl rfl | exact Or.inr rfl | exact jb_or _
    rw [bt_bs (by omega)]
    exact ⟨_, rfl, rfl, I, L, rfl, eqC_r I, eqCL_r L, hX0⟩
set_option maxHeartbeats 1000000 in
set_option maxRecDepth 20000 in
theorem tX10_quickF (hW : jWok w l) (hR : RS R) {h : Nat} {T : Nat → Nat → Int32} {W H np len : Nat} (hX : CX I L R h T W H np len) (c day : Int32) (hbad : ¬ (ltQ c (W * H) = true ∧ dayQ day = true)) : jTh w l mX10_quick 3 [.ref 1000, .int c, .int day] n I L R eN := by
  refine jTh_of hW (by decide) rfl (Nat.le_of_ble_eq_true rfl) ?_
  by_cases q0 : ltQ c (W * H) = true
  · obtain ⟨c', rfl, hv0⟩ := ltQ_n q0
    by_cases q1 : dayQ day = true
    · obtain ⟨day', rfl, hv1⟩ := dayQ_n q1
      exact absurd ⟨q0, q1⟩ hbad
    · refine jx_aload_n dX10_quick_0 rfl ?_
      refine jx_iload_n dX10_quick_1 rfl ?_
      refine jx_Vv (as := [.int _]) dX10_quick_2 mlX10_158 okX10_needCell viX10_needCell rfl rfl rfl rfl rfl (by decide) (Nat.le_of_ble_eq_true rfl) (tX10_needCell hW hR hX hv0) ?_
      refine jx_aload_n dX10_quick_5 rfl ?_
      refine jx_iload_n dX10_quick_6 rfl ?_
      exact jx_VT (as := [.int _]) dX10_quick_7 mlX10_170 okX10_needDay viX10_needDay rfl rfl rfl rfl rfl (by decide) (Nat.le_of_ble_eq_true rfl) (by decide) (by decide) (tX10_needDayF hW hR (fun z => q1 (decide_eq_true ⟨z.1, by omega⟩))) (fun E t h => h)
  · refine jx_aload_n dX10_quick_0 rfl ?_
    refine jx_iload_n dX10_quick_1 rfl ?_
    exact jx_VT (as := [.int _]) dX10_quick_2 mlX10_158 okX10_needCell viX10_needCell rfl rfl rfl rfl rfl (by decide) (Nat.le_of_ble_eq_true rfl) (by decide) (by decide) (tX10_needCellF hW hR hX (fun z => q0 (decide_eq_true z))) (fun E t h => h)
set_option maxHeartbeats 1000000 in
set_option maxRecDepth 20000 in
theorem tX10_cell (hW : jWok w l) (hR : RS R) {h : Nat} {T : Nat → Nat → Int32} {W H np len : Nat} (hX : CX I L R h T W H np len) {c k : Nat} (hc : c < W * H) (hk : k ≤ 1) (hx : T 1074 c ≠ 0 → c % W ≠ 0 ∧ c % W ≠ W - 1) : jQ w l mX10_cell 7 [.ref 1000, .int (nI c), .int (nI k)] n I L R h T W H np len (cellA T W c k) := by
  refine jRi_of hW (by decide) rfl (Nat.le_of_ble_eq_true rfl) ?_
  have hX0 := hX
  obtain ⟨⟨⟨hh, hRi⟩, hI, hRI, hok, hFL, hSK⟩, hRh⟩ := hX
  have hT := RI.tq hRI
  have hw := hT.1
  have hhh := hT.2.1
  have hwh : W * H ≤ 63 := Nat.mul_le_mul hw.2 hhh.2
  have hn6 := hRI.2.2.2.2.1.2
  rcases hh with rfl | rfl
  all_goals
    refine jx_aload_n dX10_cell_0 rfl ?_
    refine jx_iload_n dX10_cell_1 rfl ?_
    refine jx_Vv (as := [.int _]) dX10_cell_2 mlX10_158 okX10_needCell viX10_needCell rfl rfl rfl rfl rfl (by decide) (Nat.le_of_ble_eq_true rfl) (tX10_needCell hW hR hX0 hc) ?_
    refine jx_iload_n dX10_cell_5 rfl ?_
    refine jx_ifN_ne (a := k) 22 dX10_cell_6 (by decide) (by omega) (fun h6 => ?_) (fun h6 => ?_)
    · refine jx_iload_n dX10_cell_22 rfl ?_
      refine jx_iconst (v := 1) dX10_cell_23 (by decide) ?_
      refine jx_icmpN_ne (a := k) (b := 1) 39 dX10_cell_24 (by decide) (by omega) (by omega) (fun h24 => ?_) (fun h24 => ?_)
      · exact absurd h24 (by omega)
      · refine jx_aload_n dX10_cell_27 rfl ?_
        refine jx_getR dX10_cell_28 flX10_32 rfl rfl hRh ?_
        refine jx_getR dX10_cell_31 flX10_114 rfl rfl (hR _ _ _ rfl) ?_
        refine jx_iload_n dX10_cell_34 rfl ?_
        refine jx_Vi (as := [.int _]) dX10_cell_35 mlX10_164 okX8_groundOf viX8_groundOf rfl rfl rfl rfl rfl (by decide) (Nat.le_of_ble_eq_true rfl) (tX8_groundOf hW hR (by decide) hI.1 hw hhh (fun c hc => (hRI.2.1 c hc).2) hc hx) ?_
        refine jx_iret dX10_cell_38 rfl ?_
        refine ⟨_, rfl, ?_, I, L, rfl, eqC_r I, eqCL_r L, hX0⟩
        unfold cellA
        rw [if_neg h6]
    · refine jx_aload_n dX10_cell_9 rfl ?_
      refine jx_getR dX10_cell_10 flX10_32 rfl rfl hRh ?_
      refine jx_getR dX10_cell_13 flX10_114 rfl rfl (hR _ _ _ rfl) ?_
      refine jx_getR dX10_cell_16 flX10_161 rfl rfl (hR _ _ _ rfl) ?_
      refine jx_iload_n dX10_cell_19 rfl ?_
      refine jx_ialdE (c) dX10_cell_20 rfl (rfl) (by omega) (by omega) ((hI.1.2.1 c hc).trans (hRI.2.1 c hc).1.1) ?_
      refine jx_iret dX10_cell_21 rfl ?_
      refine ⟨_, rfl, ?_, I, L, rfl, eqC_r I, eqCL_r L, hX0⟩
      unfold cellA hgt
      rw [if_pos h6]
set_option maxHeartbeats 1000000 in
set_option maxRecDepth 20000 in
theorem tX10_cellF (hW : jWok w l) (hR : RS R) {h : Nat} {T : Nat → Nat → Int32} {W H np len : Nat} (hX : CX I L R h T W H np len) (c k : Int32) (hbad : ¬ (ltQ c (W * H) = true ∧ 0 ≤ k.toInt ∧ k.toInt ≤ 1)) : jTh w l mX10_cell 3 [.ref 1000, .int c, .int k] n I L R eN := by
  refine jTh_of hW (by decide) rfl (Nat.le_of_ble_eq_true rfl) ?_
  by_cases q0 : ltQ c (W * H) = true
  · obtain ⟨c', rfl, hv0⟩ := ltQ_n q0
    refine jx_aload_n dX10_cell_0 rfl ?_
    refine jx_iload_n dX10_cell_1 rfl ?_
    refine jx_Vv (as := [.int _]) dX10_cell_2 mlX10_158 okX10_needCell viX10_needCell rfl rfl rfl rfl rfl (by decide) (Nat.le_of_ble_eq_true rfl) (tX10_needCell hW hR hX hv0) ?_
    refine jx_iload_n dX10_cell_5 rfl ?_
    refine jx_if_ne 22 dX10_cell_6 (by decide) (fun h6 => ?_) (fun h6 => ?_)
    · refine jx_iload_n dX10_cell_22 rfl ?_
      refine jx_iconst (v := 1) dX10_cell_23 (by decide) ?_
      refine jx_icmp_ne 39 dX10_cell_24 (by decide) (fun h24 => ?_) (fun h24 => ?_)
      · exact jx_thN (is := 168) (len := 2) 26 rfl rfl rfl rfl rfl (Nat.le_of_ble_eq_true rfl) dX10_cell_39 dX10_cell_42 (Or.inl ⟨dX10_cell_43, rfl⟩) dX10_cell_45 dX10_cell_48 (by decide) (by decide) (fun n1 hn1 => ⟨rfl, n1, hn1, rfl⟩)
      · exact absurd ⟨q0, by rw [h24]; decide⟩ hbad
    · exact absurd ⟨q0, by rw [h6]; decide⟩ hbad
  · refine jx_aload_n dX10_cell_0 rfl ?_
    refine jx_iload_n dX10_cell_1 rfl ?_
    exact jx_VT (as := [.int _]) dX10_cell_2 mlX10_158 okX10_needCell viX10_needCell rfl rfl rfl rfl rfl (by decide) (Nat.le_of_ble_eq_true rfl) (by decide) (by decide) (tX10_needCellF hW hR hX (fun z => q0 (decide_eq_true z))) (fun E t h => h)
set_option maxHeartbeats 1000000 in
set_option maxRecDepth 20000 in
theorem tX10_water (hW : jWok w l) (hR : RS R) {h : Nat} {T : Nat → Nat → Int32} {W H np len : Nat} (hX : CX I L R h T W H np len) {day tick : Nat} (hd : day ≤ 40) (ht : tick < 96) : jQ w l mX10_water 7 [.ref 1000, .int (nI day), .int (nI tick)] n I L R h T W H np len (nI (wlev (T 1082) len day tick (T 1072 7))) := by
  refine jRi_of hW (by decide) rfl (Nat.le_of_ble_eq_true rfl) ?_
  have hX0 := hX
  obtain ⟨⟨⟨hh, hRi⟩, hI, hRI, hok, hFL, hSK⟩, hRh⟩ := hX
  have hT := RI.tq hRI
  have hw := hT.1
  have hhh := hT.2.1
  have hwh : W * H ≤ 63 := Nat.mul_le_mul hw.2 hhh.2
  have hn6 := hRI.2.2.2.2.1.2
  refine jx_aload_n dX10_water_0 rfl ?_
  refine jx_iload_n dX10_water_1 rfl ?_
  refine jx_Vv (as := [.int _]) dX10_water_2 mlX10_170 okX10_needDay viX10_needDay rfl rfl rfl rfl rfl (by decide) (Nat.le_of_ble_eq_true rfl) (tX10_needDay hW hR (by omega)) ?_
  refine jx_aload_n dX10_water_5 rfl ?_
  refine jx_iload_n dX10_water_6 rfl ?_
  refine jx_Vv (as := [.int _]) dX10_water_7 mlX10_181 okX10_needTick viX10_needTick rfl rfl rfl rfl rfl (by decide) (Nat.le_of_ble_eq_true rfl) (tX10_needTick hW hR ht) ?_
  refine jx_aload_n dX10_water_10 rfl ?_
  refine jx_getR dX10_water_11 flX10_44 rfl rfl (hR _ _ _ rfl) ?_
  refine jx_iload_n dX10_water_14 rfl ?_
  refine jx_iload_n dX10_water_15 rfl ?_
  refine jx_VRi (as := [.int _, .int _]) dX10_water_16 mlX10_184 okX0_levelOn viX0_levelOn rfl rfl rfl rfl rfl (by decide) (Nat.le_of_ble_eq_true rfl) (tX0_levelOn hW hR hX0.1 hd ht) (fun x16 t16 hq16 => ?_)
  obtain ⟨rfl, J, M, rfl, e1, e2, hC⟩ := hq16
  refine jx_iret dX10_water_19 rfl ?_
  exact ⟨_, rfl, rfl, J, M, rfl, e1, e2, hC, hRh⟩
set_option maxHeartbeats 1000000 in
set_option maxRecDepth 20000 in
theorem tX10_waterF (hW : jWok w l) (hR : RS R) {h : Nat} {T : Nat → Nat → Int32} {W H np len : Nat} (hX : CX I L R h T W H np len) (day tick : Int32) (hbad : ¬ (dayQ day = true ∧ tickQ tick = true)) : jTh w l mX10_water 3 [.ref 1000, .int day, .int tick] n I L R eN := by
  refine jTh_of hW (by decide) rfl (Nat.le_of_ble_eq_true rfl) ?_
  by_cases q0 : dayQ day = true
  · obtain ⟨day', rfl, hv0⟩ := dayQ_n q0
    by_cases q1 : tickQ tick = true
    · obtain ⟨tick', rfl, hv1⟩ := tickQ_n q1
      exact absurd ⟨q0, q1⟩ hbad
    · refine jx_aload_n dX10_water_0 rfl ?_
      refine jx_iload_n dX10_water_1 rfl ?_
      refine jx_Vv (as := [.int _]) dX10_water_2 mlX10_170 okX10_needDay viX10_needDay rfl rfl rfl rfl rfl (by decide) (Nat.le_of_ble_eq_true rfl) (tX10_needDay hW hR hv0) ?_
      refine jx_aload_n dX10_water_5 rfl ?_
      refine jx_iload_n dX10_water_6 rfl ?_
      exact jx_VT (as := [.int _]) dX10_water_7 mlX10_181 okX10_needTick viX10_needTick rfl rfl rfl rfl rfl (by decide) (Nat.le_of_ble_eq_true rfl) (by decide) (by decide) (tX10_needTickF hW hR (fun z => q1 (decide_eq_true ⟨z.1, by omega⟩))) (fun E t h => h)
  · refine jx_aload_n dX10_water_0 rfl ?_
    refine jx_iload_n dX10_water_1 rfl ?_
    exact jx_VT (as := [.int _]) dX10_water_2 mlX10_170 okX10_needDay viX10_needDay rfl rfl rfl rfl rfl (by decide) (Nat.le_of_ble_eq_true rfl) (by decide) (by decide) (tX10_needDayF hW hR (fun z => q0 (decide_eq_true ⟨z.1, by omega⟩))) (fun E t h => h)
set_option maxHeartbeats 1000000 in
set_option maxRecDepth 20000 in
theorem tX10_party (hW : jWok w l) (hR : RS R) {h : Nat} {T : Nat → Nat → Int32} {W H np len : Nat} (hX : CX I L R h T W H np len) {p : Nat} (k : Int32) (hp : p < np) (hk : 0 ≤ k.toInt ∧ k.toInt ≤ 5) : jQ w l mX10_party 7 [.ref 1000, .int (nI p), .int k] n I L R h T W H np len (partyV T p (cN k)) := by
  refine jRi_of hW (by decide) rfl (Nat.le_of_ble_eq_true rfl) ?_
  have hX0 := hX
  obtain ⟨⟨⟨hh, hRi⟩, hI, hRI, hok, hFL, hSK⟩, hRh⟩ := hX
  have hT := RI.tq hRI
  have hw := hT.1
  have hhh := hT.2.1
  have hwh : W * H ≤ 63 := Nat.mul_le_mul hw.2 hhh.2
  have hn6 := hRI.2.2.2.2.1.2
  have hp6 : p < 6 := Nat.lt_of_lt_of_le hp hn6
  rcases hh with rfl | rfl
  all_goals
    refine jx_aload_n dX10_party_0 rfl ?_
    refine jx_iload_n dX10_party_1 rfl ?_
    refine jx_Vv (as := [.int _]) dX10_party_2 mlX10_188 okX10_needParty viX10_needParty rfl rfl rfl rfl rfl (by decide) (Nat.le_of_ble_eq_true rfl) (tX10_needParty hW hR hX0 hp) ?_
    refine jx_aload_n dX10_party_5 rfl ?_
    refine jx_getR dX10_party_6 flX10_32 rfl rfl hRh ?_
    refine jx_getR dX10_party_9 flX10_191 rfl rfl (hR _ _ _ rfl) ?_
    refine jx_iload_n dX10_party_12 rfl ?_
    refine jx_aald5N (p) dX10_party_13 rfl (rfl) (by omega) (by decide) (hR _ _ _ (by first | exact rtPa _ hp6 | exact rtPb _ hp6)) ?_
    refine jx_astore_n dX10_party_14 rfl (by decide) ?_
    refine jx_iload_n dX10_party_15 rfl ?_
    by_cases hs16_0 : k = 0
    · subst hs16_0
      refine jx_tsIn 56 dX10_party_16 (by decide) (by decide) rfl (by decide) ?_
      refine jx_aload_n dX10_party_56 rfl ?_
      refine jx_getIE dX10_party_57 flX10_195 (by first | exact shPa _ hp6 | exact shPb _ hp6) rfl (hI.2.2.1.2 p 0 hp (by decide)) ?_
      refine jx_iret dX10_party_60 rfl ?_
      exact ⟨_, rfl, rfl, I, L, rfl, eqC_r I, eqCL_r L, hX0⟩
    by_cases hs16_1 : k = 1
    · subst hs16_1
      refine jx_tsIn 61 dX10_party_16 (by decide) (by decide) rfl (by decide) ?_
      refine jx_aload_n dX10_party_61 rfl ?_
      refine jx_getIE dX10_party_62 flX10_200 (by first | exact shPa _ hp6 | exact shPb _ hp6) rfl (hI.2.2.1.2 p 1 hp (by decide)) ?_
      refine jx_iret dX10_party_65 rfl ?_
      exact ⟨_, rfl, rfl, I, L, rfl, eqC_r I, eqCL_r L, hX0⟩
    by_cases hs16_2 : k = 2
    · subst hs16_2
      refine jx_tsIn 66 dX10_party_16 (by decide) (by decide) rfl (by decide) ?_
      refine jx_aload_n dX10_party_66 rfl ?_
      refine jx_getIE dX10_party_67 flX10_203 (by first | exact shPa _ hp6 | exact shPb _ hp6) rfl (hI.2.2.1.2 p 2 hp (by decide)) ?_
      refine jx_iret dX10_party_70 rfl ?_
      exact ⟨_, rfl, rfl, I, L, rfl, eqC_r I, eqCL_r L, hX0⟩
    by_cases hs16_3 : k = 3
    · subst hs16_3
      refine jx_tsIn 71 dX10_party_16 (by decide) (by decide) rfl (by decide) ?_
      refine jx_aload_n dX10_party_71 rfl ?_
      refine jx_getIE dX10_party_72 flX10_206 (by first | exact shPa _ hp6 | exact shPb _ hp6) rfl (hI.2.2.1.2 p 3 hp (by decide)) ?_
      refine jx_iret dX10_party_75 rfl ?_
      exact ⟨_, rfl, rfl, I, L, rfl, eqC_r I, eqCL_r L, hX0⟩
    by_cases hs16_4 : k = 4
    · subst hs16_4
      refine jx_tsIn 76 dX10_party_16 (by decide) (by decide) rfl (by decide) ?_
      refine jx_aload_n dX10_party_76 rfl ?_
      refine jx_getIE dX10_party_77 flX10_209 (by first | exact shPa _ hp6 | exact shPb _ hp6) rfl (hI.2.2.1.2 p 4 hp (by decide)) ?_
      refine jx_iret dX10_party_80 rfl ?_
      exact ⟨_, rfl, rfl, I, L, rfl, eqC_r I, eqCL_r L, hX0⟩
    by_cases hs16_5 : k = 5
    · subst hs16_5
      refine jx_tsIn 81 dX10_party_16 (by decide) (by decide) rfl (by decide) ?_
      refine jx_aload_n dX10_party_81 rfl ?_
      refine jx_getIE dX10_party_82 flX10_212 (by first | exact shPa _ hp6 | exact shPb _ hp6) rfl (hI.2.2.1.2 p 5 hp (by decide)) ?_
      refine jx_iret dX10_party_85 rfl ?_
      exact ⟨_, rfl, rfl, I, L, rfl, eqC_r I, eqCL_r L, hX0⟩
    refine jx_tsOut 86 dX10_party_16 ?_ (by decide) ?_
    · have z0 := lv_neT hs16_0 (a := 0) rfl; have z1 := lv_neT hs16_1 (a := 1) rfl; have z2 := lv_neT hs16_2 (a := 2) rfl; have z3 := lv_neT hs16_3 (a := 3) rfl; have z4 := lv_neT hs16_4 (a := 4) rfl; have z5 := lv_neT hs16_5 (a := 5) rfl; omega
    exact absurd hk (fun hk => by
      have z : k = nI (cN k) := nI_cN hk.1
      have e : (cN k : Int) = k.toInt := Int.toNat_of_nonneg hk.1
      have : cN k = 0 ∨ cN k = 1 ∨ cN k = 2 ∨ cN k = 3 ∨ cN k = 4 ∨ cN k = 5 := by omega
      rcases this with q | q | q | q | q | q <;> rw [q] at z
      · exact hs16_0 z
      · exact hs16_1 z
      · exact hs16_2 z
      · exact hs16_3 z
      · exact hs16_4 z
      · exact hs16_5 z)
set_option maxHeartbeats 1000000 in
set_option maxRecDepth 20000 in
theorem tX10_partyF (hW : jWok w l) (hR : RS R) {h : Nat} {T : Nat → Nat → Int32} {W H np len : Nat} (hX : CX I L R h T W H np len) (p k : Int32) (hbad : ¬ (ltQ p np = true ∧ 0 ≤ k.toInt ∧ k.toInt ≤ 5)) : jTh w l mX10_party 3 [.ref 1000, .int p, .int k] n I L R eN := by
  refine jTh_of hW (by decide) rfl (Nat.le_of_ble_eq_true rfl) ?_
  by_cases q0 : ltQ p np = true
  · obtain ⟨p', rfl, hv0⟩ := ltQ_n q0
    obtain ⟨⟨⟨hh, hRi⟩, hI, hRI, -, -, -⟩, hRh⟩ := id hX
    have hp6 : p' < 6 := Nat.lt_of_lt_of_le hv0 hRI.2.2.2.2.1.2
    rcases hh with rfl | rfl
    all_goals
      refine jx_aload_n dX10_party_0 rfl ?_
      refine jx_iload_n dX10_party_1 rfl ?_
      refine jx_Vv (as := [.int _]) dX10_party_2 mlX10_188 okX10_needParty viX10_needParty rfl rfl rfl rfl rfl (by decide) (Nat.le_of_ble_eq_true rfl) (tX10_needParty hW hR hX hv0) ?_
      refine jx_aload_n dX10_party_5 rfl ?_
      refine jx_getR dX10_party_6 flX10_32 rfl rfl hRh ?_
      refine jx_getR dX10_party_9 flX10_191 rfl rfl (hR _ _ _ rfl) ?_
      refine jx_iload_n dX10_party_12 rfl ?_
      refine jx_aald5N (p') dX10_party_13 rfl (rfl) (by omega) (by decide) (hR _ _ _ (by first | exact rtPa _ hp6 | exact rtPb _ hp6)) ?_
      refine jx_astore_n dX10_party_14 rfl (by decide) ?_
      refine jx_iload_n dX10_party_15 rfl ?_
      by_cases hs16_0 : k = 0
      · subst hs16_0
        refine jx_tsIn 56 dX10_party_16 (by decide) (by decide) rfl (by decide) ?_
        exact absurd ⟨q0, by decide⟩ hbad
      by_cases hs16_1 : k = 1
      · subst hs16_1
        refine jx_tsIn 61 dX10_party_16 (by decide) (by decide) rfl (by decide) ?_
        exact absurd ⟨q0, by decide⟩ hbad
      by_cases hs16_2 : k = 2
      · subst hs16_2
        refine jx_tsIn 66 dX10_party_16 (by decide) (by decide) rfl (by decide) ?_
        exact absurd ⟨q0, by decide⟩ hbad
      by_cases hs16_3 : k = 3
      · subst hs16_3
        refine jx_tsIn 71 dX10_party_16 (by decide) (by decide) rfl (by decide) ?_
        exact absurd ⟨q0, by decide⟩ hbad
      by_cases hs16_4 : k = 4
      · subst hs16_4
        refine jx_tsIn 76 dX10_party_16 (by decide) (by decide) rfl (by decide) ?_
        exact absurd ⟨q0, by decide⟩ hbad
      by_cases hs16_5 : k = 5
      · subst hs16_5
        refine jx_tsIn 81 dX10_party_16 (by decide) (by decide) rfl (by decide) ?_
        exact absurd ⟨q0, by decide⟩ hbad
      refine jx_tsOut 86 dX10_party_16 ?_ (by decide) ?_
      · have z0 := lv_neT hs16_0 (a := 0) rfl; have z1 := lv_neT hs16_1 (a := 1) rfl; have z2 := lv_neT hs16_2 (a := 2) rfl; have z3 := lv_neT hs16_3 (a := 3) rfl; have z4 := lv_neT hs16_4 (a := 4) rfl; have z5 := lv_neT hs16_5 (a := 5) rfl; omega
      exact jx_thN (is := 215) (len := 2) 30 rfl rfl rfl rfl rfl (Nat.le_of_ble_eq_true rfl) dX10_party_86 dX10_party_89 (Or.inl ⟨dX10_party_90, rfl⟩) dX10_party_92 dX10_party_95 (by decide) (by decide) (fun n1 hn1 => ⟨rfl, n1, hn1, rfl⟩)
  · refine jx_aload_n dX10_party_0 rfl ?_
    refine jx_iload_n dX10_party_1 rfl ?_
    exact jx_VT (as := [.int _]) dX10_party_2 mlX10_188 okX10_needParty viX10_needParty rfl rfl rfl rfl rfl (by decide) (Nat.le_of_ble_eq_true rfl) (by decide) (by decide) (tX10_needPartyF hW hR hX (fun z => q0 (decide_eq_true z))) (fun E t h => h)
set_option maxHeartbeats 1000000 in
set_option maxRecDepth 20000 in
theorem tX10_may (hW : jWok w l) (hR : RS R) {h : Nat} {T : Nat → Nat → Int32} {W H np len : Nat} (hX : CX I L R h T W H np len) {p c day tick : Nat} (hp : p < np) (hc : c < W * H) (hd : day ≤ 40) (ht : tick < 96) : jQ w l mX10_may 7 [.ref 1000, .int (nI p), .int (nI c), .int (nI day), .int (nI tick)] n I L R h T W H np len (jb (mP T W H len day (T 1072 7) p c tick)) := by
  refine jRi_of hW (by decide) rfl (Nat.le_of_ble_eq_true rfl) ?_
  have hX0 := hX
  obtain ⟨⟨⟨hh, hRi⟩, hI, hRI, hok, hFL, hSK⟩, hRh⟩ := hX
  have hT := RI.tq hRI
  have hw := hT.1
  have hhh := hT.2.1
  have hwh : W * H ≤ 63 := Nat.mul_le_mul hw.2 hhh.2
  have hn6 := hRI.2.2.2.2.1.2
  have hp6 : p < 6 := Nat.lt_of_lt_of_le hp hn6
  have hpp := hRI.2.2.2.2.2.1 p hp
  have hl9 := hpp.2.2.1.2
  have hk3 := hpp.1.2
  rcases hh with rfl | rfl
  all_goals
    refine jx_aload_n dX10_may_0 rfl ?_
    refine jx_iload_n dX10_may_1 rfl ?_
    refine jx_Vv (as := [.int _]) dX10_may_2 mlX10_188 okX10_needParty viX10_needParty rfl rfl rfl rfl rfl (by decide) (Nat.le_of_ble_eq_true rfl) (tX10_needParty hW hR hX0 hp) ?_
    refine jx_aload_n dX10_may_5 rfl ?_
    refine jx_iload_n dX10_may_6 rfl ?_
    refine jx_Vv (as := [.int _]) dX10_may_7 mlX10_158 okX10_needCell viX10_needCell rfl rfl rfl rfl rfl (by decide) (Nat.le_of_ble_eq_true rfl) (tX10_needCell hW hR hX0 hc) ?_
    refine jx_aload_n dX10_may_10 rfl ?_
    refine jx_iload_n dX10_may_11 rfl ?_
    refine jx_Vv (as := [.int _]) dX10_may_12 mlX10_170 okX10_needDay viX10_needDay rfl rfl rfl rfl rfl (by decide) (Nat.le_of_ble_eq_true rfl) (tX10_needDay hW hR (by omega)) ?_
    refine jx_aload_n dX10_may_15 rfl ?_
    refine jx_iload dX10_may_16 rfl ?_
    refine jx_Vv (as := [.int _]) dX10_may_18 mlX10_181 okX10_needTick viX10_needTick rfl rfl rfl rfl rfl (by decide) (Nat.le_of_ble_eq_true rfl) (tX10_needTick hW hR ht) ?_
    refine jx_aload_n dX10_may_21 rfl ?_
    refine jx_getR dX10_may_22 flX10_32 rfl rfl hRh ?_
    refine jx_getR dX10_may_25 flX10_191 rfl rfl (hR _ _ _ rfl) ?_
    refine jx_iload_n dX10_may_28 rfl ?_
    refine jx_aald5N (p) dX10_may_29 rfl (rfl) (by omega) (by decide) (hR _ _ _ (by first | exact rtPa _ hp6 | exact rtPb _ hp6)) ?_
    refine jx_astore dX10_may_30 (by decide) ?_
    refine jx_aload_n dX10_may_32 rfl ?_
    refine jx_getR dX10_may_33 flX10_32 rfl rfl hRh ?_
    refine jx_getR dX10_may_36 flX10_114 rfl rfl (hR _ _ _ rfl) ?_
    refine jx_aload dX10_may_39 rfl ?_
    refine jx_getIE dX10_may_41 flX10_203 (by first | exact shPa _ hp6 | exact shPb _ hp6) rfl ((hI.2.2.1.2 p 2 hp (by decide)).trans hpp.2.2.1.1) ?_
    refine jx_iload_n dX10_may_44 rfl ?_
    refine jx_Vl (as := [.int _, .int _]) dX10_may_45 mlX10_217 okX8_firmFor viX8_firmFor rfl rfl rfl rfl rfl (by decide) (Nat.le_of_ble_eq_true rfl) (tX8_firmFor hW hR (by decide) hI.1 hT hd (by omega)) ?_
    refine jx_lstore dX10_may_48 (by decide) ?_
    refine jx_aload_n dX10_may_50 rfl ?_
    refine jx_getR dX10_may_51 flX10_32 rfl rfl hRh ?_
    refine jx_getR dX10_may_54 flX10_114 rfl rfl (hR _ _ _ rfl) ?_
    refine jx_aload dX10_may_57 rfl ?_
    refine jx_getIE dX10_may_59 flX10_195 (by first | exact shPa _ hp6 | exact shPb _ hp6) rfl ((hI.2.2.1.2 p 0 hp (by decide)).trans hpp.1.1) ?_
    refine jx_aload dX10_may_62 rfl ?_
    refine jx_getIE dX10_may_64 flX10_203 (by first | exact shPa _ hp6 | exact shPb _ hp6) rfl ((hI.2.2.1.2 p 2 hp (by decide)).trans hpp.2.2.1.1) ?_
    refine jx_aload_n dX10_may_67 rfl ?_
    refine jx_getR dX10_may_68 flX10_44 rfl rfl (hR _ _ _ rfl) ?_
    refine jx_iload_n dX10_may_71 rfl ?_
    refine jx_iload dX10_may_72 rfl ?_
    refine jx_VRi (as := [.int _, .int _]) dX10_may_74 mlX10_184 okX0_levelOn viX0_levelOn rfl rfl rfl rfl rfl (by decide) (Nat.le_of_ble_eq_true rfl) (tX0_levelOn hW hR hX0.1 hd ht) (fun x74 t74 hq74 => ?_)
    obtain ⟨rfl, J, M, rfl, e1, e2, hC⟩ := hq74
    have hwl := wlev_le (T 1082) len day tick (T 1072 7)
    refine jx_lload dX10_may_77 rfl ?_
    refine jx_Vl (as := [.int _, .int _, .int _, .long _]) dX10_may_79 mlX10_221 okX8_safeFor viX8_safeFor rfl rfl rfl rfl rfl (by decide) (Nat.le_of_ble_eq_true rfl) (tX8_safeFor hW hR (by decide) hC.2.1.1 hT (by omega) (by omega) (by omega)) ?_
    refine jx_iload_n dX10_may_82 rfl ?_
    refine jx_Si (as := [.long _, .int _]) dX10_may_83 mlX10_177 okX10_has stX10_has rfl rfl (by decide) (Nat.le_of_ble_eq_true rfl) (tX10_has hW (c := c) (by omega) _) ?_
    refine jx_zret dX10_may_86 rfl ?_ ?_
    · first | exact Or.inl rfl | exact Or.inr rfl | exact jb_or _
    rw [bt_bs (by omega)]
    refine ⟨_, rfl, ?_, J, M, rfl, e1, e2, hC, hRh⟩
    unfold safF
    rw [decide_eq_true hc, Bool.true_and]
    rfl
set_option maxHeartbeats 1000000 in
set_option maxRecDepth 20000 in
theorem tX10_mayF (hW : jWok w l) (hR : RS R) {h : Nat} {T : Nat → Nat → Int32} {W H np len : Nat} (hX : CX I L R h T W H np len) (p c day tick : Int32) (hbad : ¬ (ltQ p np = true ∧ ltQ c (W * H) = true ∧ dayQ day = true ∧ tickQ tick = true)) : jTh w l mX10_may 3 [.ref 1000, .int p, .int c, .int day, .int tick] n I L R eN := by
  refine jTh_of hW (by decide) rfl (Nat.le_of_ble_eq_true rfl) ?_
  by_cases q0 : ltQ p np = true
  · obtain ⟨p', rfl, hv0⟩ := ltQ_n q0
    by_cases q1 : ltQ c (W * H) = true
    · obtain ⟨c', rfl, hv1⟩ := ltQ_n q1
      by_cases q2 : dayQ day = true
      · obtain ⟨day', rfl, hv2⟩ := dayQ_n q2
        by_cases q3 : tickQ tick = true
        · obtain ⟨tick', rfl, hv3⟩ := tickQ_n q3
          exact absurd ⟨q0, q1, q2, q3⟩ hbad
        · refine jx_aload_n dX10_may_0 rfl ?_
          refine jx_iload_n dX10_may_1 rfl ?_
          refine jx_Vv (as := [.int _]) dX10_may_2 mlX10_188 okX10_needParty viX10_needParty rfl rfl rfl rfl rfl (by decide) (Nat.le_of_ble_eq_true rfl) (tX10_needParty hW hR hX hv0) ?_
          refine jx_aload_n dX10_may_5 rfl ?_
          refine jx_iload_n dX10_may_6 rfl ?_
          refine jx_Vv (as := [.int _]) dX10_may_7 mlX10_158 okX10_needCell viX10_needCell rfl rfl rfl rfl rfl (by decide) (Nat.le_of_ble_eq_true rfl) (tX10_needCell hW hR hX hv1) ?_
          refine jx_aload_n dX10_may_10 rfl ?_
          refine jx_iload_n dX10_may_11 rfl ?_
          refine jx_Vv (as := [.int _]) dX10_may_12 mlX10_170 okX10_needDay viX10_needDay rfl rfl rfl rfl rfl (by decide) (Nat.le_of_ble_eq_true rfl) (tX10_needDay hW hR hv2) ?_
          refine jx_aload_n dX10_may_15 rfl ?_
          refine jx_iload dX10_may_16 rfl ?_
          exact jx_VT (as := [.int _]) dX10_may_18 mlX10_181 okX10_needTick viX10_needTick rfl rfl rfl rfl rfl (by decide) (Nat.le_of_ble_eq_true rfl) (by decide) (by decide) (tX10_needTickF hW hR (fun z => q3 (decide_eq_true ⟨z.1, by omega⟩))) (fun E t h => h)
      · refine jx_aload_n dX10_may_0 rfl ?_
        refine jx_iload_n dX10_may_1 rfl ?_
        refine jx_Vv (as := [.int _]) dX10_may_2 mlX10_188 okX10_needParty viX10_needParty rfl rfl rfl rfl rfl (by decide) (Nat.le_of_ble_eq_true rfl) (tX10_needParty hW hR hX hv0) ?_
        refine jx_aload_n dX10_may_5 rfl ?_
        refine jx_iload_n dX10_may_6 rfl ?_
        refine jx_Vv (as := [.int _]) dX10_may_7 mlX10_158 okX10_needCell viX10_needCell rfl rfl rfl rfl rfl (by decide) (Nat.le_of_ble_eq_true rfl) (tX10_needCell hW hR hX hv1) ?_
        refine jx_aload_n dX10_may_10 rfl ?_
        refine jx_iload_n dX10_may_11 rfl ?_
        exact jx_VT (as := [.int _]) dX10_may_12 mlX10_170 okX10_needDay viX10_needDay rfl rfl rfl rfl rfl (by decide) (Nat.le_of_ble_eq_true rfl) (by decide) (by decide) (tX10_needDayF hW hR (fun z => q2 (decide_eq_true ⟨z.1, by omega⟩))) (fun E t h => h)
    · refine jx_aload_n dX10_may_0 rfl ?_
      refine jx_iload_n dX10_may_1 rfl ?_
      refine jx_Vv (as := [.int _]) dX10_may_2 mlX10_188 okX10_needParty viX10_needParty rfl rfl rfl rfl rfl (by decide) (Nat.le_of_ble_eq_true rfl) (tX10_needParty hW hR hX hv0) ?_
      refine jx_aload_n dX10_may_5 rfl ?_
      refine jx_iload_n dX10_may_6 rfl ?_
      exact jx_VT (as := [.int _]) dX10_may_7 mlX10_158 okX10_needCell viX10_needCell rfl rfl rfl rfl rfl (by decide) (Nat.le_of_ble_eq_true rfl) (by decide) (by decide) (tX10_needCellF hW hR hX (fun z => q1 (decide_eq_true z))) (fun E t h => h)
  · refine jx_aload_n dX10_may_0 rfl ?_
    refine jx_iload_n dX10_may_1 rfl ?_
    exact jx_VT (as := [.int _]) dX10_may_2 mlX10_188 okX10_needParty viX10_needParty rfl rfl rfl rfl rfl (by decide) (Nat.le_of_ble_eq_true rfl) (by decide) (by decide) (tX10_needPartyF hW hR hX (fun z => q0 (decide_eq_true z))) (fun E t h => h)
end CJ1
