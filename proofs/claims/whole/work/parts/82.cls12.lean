/-! THE CLASS: crossings and their ways -/
section CL1
variable {w : jWD} {l : Launch} {n : Nat} {I : Nat → Nat → Int32} {L : Nat → Nat → Int64} {R : Nat → Nat → Option Nat}

set_option maxHeartbeats 1000000 in
set_option maxRecDepth 20000 in
theorem tX10_cross (hW : jWok w l) (hR : RS R) {h : Nat} {T : Nat → Nat → Int32} {W H np len : Nat} (hX : CX I L R h T W H np len) {p day tick : Nat} (hp : p < np) (hd : day ≤ 40) (ht : tick < 96) : jRi w l mX10_cross 7 [.ref 1000, .int (nI p), .int (nI day), .int (nI tick)] (n, shE, I, L, R) (fun r t => r = aI (arr T W H len day (T 1072 7) p 0 tick) ∧ ∃ J M, eqC I J ∧ eqCL L M ∧ (arr T W H len day (T 1072 7) p 0 tick = 1000 → t = (n, shE, J, M, R) ∧ CX J M R h T W H np len) ∧ (arr T W H len day (T 1072 7) p 0 tick ≠ 1000 → tick ≤ arr T W H len day (T 1072 7) p 0 tick ∧ arr T W H len day (T 1072 7) p 0 tick < 96 ∧ t = (n, shE, upI (upI (flo J 1002 tick (wyF T W H len day (T 1072 7) p tick) (arr T W H len day (T 1072 7) p 0 tick - tick + 1)) 1000 12 (nI tick)) 1000 13 (nI (arr T W H len day (T 1072 7) p 0 tick)), M, R) ∧ CX (upI (upI (flo J 1002 tick (wyF T W H len day (T 1072 7) p tick) (arr T W H len day (T 1072 7) p 0 tick - tick + 1)) 1000 12 (nI tick)) 1000 13 (nI (arr T W H len day (T 1072 7) p 0 tick))) M R h T W H np len)) := by
  refine jRi_of hW (by decide) rfl (Nat.le_of_ble_eq_true rfl) ?_
  have hX0 := hX
  obtain ⟨⟨⟨hh, hRi⟩, hI, hRI, hok, hFL, hSK⟩, hRh⟩ := hX
  have hT := RI.tq hRI
  have hpp := hRI.2.2.2.2.2.1 p hp
  have hrw : W * cN (T 1079 p) < W * H := by
    have h1 : W * (cN (T 1079 p) + 1) ≤ W * H := Nat.mul_le_mul_left W hpp.2.2.2.1.2
    rw [Nat.mul_add, Nat.mul_one] at h1
    have := hT.1
    omega
  have hpa : 1 ≤ pcOf T p 0 ∧ pcOf T p 0 ≤ 7 := by
    obtain ⟨⟨-, a1⟩, ⟨-, a2, a3⟩, -⟩ := hpp
    unfold pcOf paceOf; split <;> omega
  have hal := arr_le T W H len day (T 1072 7) p 0 tick
  have ham := aI_m (v := arr T W H len day (T 1072 7) p 0 tick) (by omega)
  refine jx_aload_n dX10_cross_0 rfl ?_
  refine jx_iload_n dX10_cross_1 rfl ?_
  refine jx_iload_n dX10_cross_2 rfl ?_
  refine jx_iload_n dX10_cross_3 rfl ?_
  refine jx_Vv (as := [.int _, .int _, .int _]) dX10_cross_4 mlX10_225 okX10_needStart viX10_needStart rfl rfl rfl rfl rfl (by decide) (Nat.le_of_ble_eq_true rfl) (tX10_needStart hW hR hX0 hp (by omega) ht) ?_
  refine jx_aload_n dX10_cross_7 rfl ?_
  refine jx_getR dX10_cross_8 flX10_44 rfl rfl (hR _ _ _ rfl) ?_
  refine jx_iload_n dX10_cross_11 rfl ?_
  refine jx_iload_n dX10_cross_12 rfl ?_
  refine jx_iload_n dX10_cross_13 rfl ?_
  refine jx_VRi (as := [.int _, .int _, .int _]) dX10_cross_14 mlX10_229 okX0_arrival viX0_arrival rfl rfl rfl rfl rfl (by decide) (Nat.le_of_ble_eq_true rfl) (tX0_arrival hW hR hX0.1 hp hd ht) (fun x14 t14 hq14 => ?_)
  obtain ⟨rfl, J, M, rfl, e1, e2, hC, hPr⟩ := hq14
  refine jx_istore dX10_cross_17 (by decide) ?_
  refine jx_iload dX10_cross_19 rfl ?_
  refine jx_iconst (v := -1) dX10_cross_21 (by decide) ?_
  refine jx_icmp_eq 51 dX10_cross_22 (by decide) (fun h22 => ?_) (fun h22 => ?_)
  · skip
    refine jx_iload dX10_cross_51 rfl ?_
    refine jx_iret dX10_cross_53 rfl ?_
    exact ⟨_, rfl, rfl, J, M, e1, e2, fun _ => ⟨rfl, hC, hRh⟩, fun q => absurd (ham.mp h22) q⟩
  · have hne : ¬ arr T W H len day (T 1072 7) p 0 tick = 1000 := fun q => h22 (ham.mpr q)
    have hge : tick ≤ arr T W H len day (T 1072 7) p 0 tick := sn_ge hpa.1 _ _ tick ht rfl
    have hlt : arr T W H len day (T 1072 7) p 0 tick < 96 := sn_last hpa.1 _ _ tick ht rfl hne
    rw [aI_v hne]
    refine jx_aload_n dX10_cross_25 rfl ?_
    refine jx_getR dX10_cross_26 flX10_44 rfl rfl (hR _ _ _ rfl) ?_
    refine jx_iload_n dX10_cross_29 rfl ?_
    refine jx_iload dX10_cross_30 rfl ?_
    refine jx_aload_n dX10_cross_32 rfl ?_
    refine jx_getR dX10_cross_33 flX10_13 rfl rfl (hR _ _ _ rfl) ?_
    refine jx_iconst (v := 0) dX10_cross_36 (by decide) ?_
    refine jx_VRv (as := [.int _, .int _, .ref _, .int _]) dX10_cross_37 mlX10_233 okX0_trace viX0_trace rfl rfl rfl rfl rfl (by decide) (Nat.le_of_ble_eq_true rfl) (tX0_trace hW hR hC hPr hpa.1 hpa.2 hrw (base := 0) (a := 1002) (N := 96) hge hlt rfl (by decide) rfl (by decide) (by decide)) (fun t37 hq37 => ?_)
    obtain ⟨M2, rfl, hM2⟩ := hq37
    refine jx_aload_n dX10_cross_40 rfl ?_
    refine jx_iload_n dX10_cross_41 rfl ?_
    refine jx_putI dX10_cross_42 flX10_237 rfl rfl (fun r h => by cases h; rfl) ?_
    refine jx_aload_n dX10_cross_45 rfl ?_
    refine jx_iload dX10_cross_46 rfl ?_
    refine jx_putI dX10_cross_48 flX10_74 rfl rfl (fun r h => by cases h; rfl) ?_
    refine jx_iload dX10_cross_51 rfl ?_
    refine jx_iret dX10_cross_53 rfl ?_
    have e0 : (0 + tick) = tick := Nat.zero_add tick
    rw [e0]
    refine ⟨_, rfl, rfl, J, M2, e1, eqCL_t e2 (fun b j hb => hM2 b j (fun q => by rw [q] at hb; cases hb)), fun q => absurd q hne, fun _ => ⟨hge, hlt, rfl, ?_, hRh⟩⟩
    exact CF_o hC (fun b j h1 h2 _ _ _ => by rw [upI_nea (by omega), upI_nea (by omega), flo_ne (by omega)]) (fun b j h1 h2 => hM2 b j (by omega))
set_option maxHeartbeats 1000000 in
set_option maxRecDepth 20000 in
theorem tX10_crossF (hW : jWok w l) (hR : RS R) {h : Nat} {T : Nat → Nat → Int32} {W H np len : Nat} (hX : CX I L R h T W H np len) (p day tick : Int32) (hbad : ¬ (ltQ p np = true ∧ dayQ day = true ∧ tickQ tick = true)) : jTh w l mX10_cross 3 [.ref 1000, .int p, .int day, .int tick] n I L R eN := by
  refine jTh_of hW (by decide) rfl (Nat.le_of_ble_eq_true rfl) ?_
  refine jx_aload_n dX10_cross_0 rfl ?_
  refine jx_iload_n dX10_cross_1 rfl ?_
  refine jx_iload_n dX10_cross_2 rfl ?_
  refine jx_iload_n dX10_cross_3 rfl ?_
  exact jx_VT (as := [.int _, .int _, .int _]) dX10_cross_4 mlX10_225 okX10_needStart viX10_needStart rfl rfl rfl rfl rfl (by decide) (Nat.le_of_ble_eq_true rfl) (by decide) (by decide) (tX10_needStartF hW hR hX (fun z => hbad ⟨decide_eq_true z.1, decide_eq_true ⟨z.2.1.1, by omega⟩, decide_eq_true ⟨z.2.2.1, by omega⟩⟩)) (fun E t h => h)
set_option maxHeartbeats 1000000 in
set_option maxRecDepth 20000 in
theorem tX10_way (hW : jWok w l) (hR : RS R) {f e : Nat} (h12 : I 1000 12 = nI f) (h13 : I 1000 13 = nI e) (hfe : f ≤ e) (he : e < 96) (i : Int32) (hi : -1 ≤ i.toInt ∧ i.toInt < ((e - f + 1 : Nat) : Int)) : jCD w l mX10_way 2 [.ref 1000, .int i] (n, shE, I, L, R) (some (.int (if i = -1 then nI (e - f + 1) else I 1002 (f + cN i)))) (n, shE, I, L, R) := by
  refine jCD_of hW (by decide) rfl (Nat.le_of_ble_eq_true rfl) ?_
  by_cases hm : i = -1
  · subst hm
    refine jx_aload_n dX10_way_0 rfl ?_
    refine jx_getIE dX10_way_1 flX10_74 rfl rfl (h13) ?_
    refine jx_iconst (v := -1) dX10_way_4 (by decide) ?_
    refine jx_icmp_ne 18 dX10_way_5 (by decide) (fun h5 => ?_) (fun h5 => ?_)
    · refine jx_aload_n dX10_way_18 rfl ?_
      refine jx_getIE dX10_way_19 flX10_74 rfl rfl (h13) ?_
      refine jx_aload_n dX10_way_22 rfl ?_
      refine jx_getIE dX10_way_23 flX10_237 rfl rfl (h12) ?_
      refine jx_isubE (z := nI (e - f)) dX10_way_26 (pk_sub (a := e) (b := f) (by omega)) ?_
      refine jx_iconst (v := 1) dX10_way_27 (by decide) ?_
      refine jx_iaddE (z := nI ((e - f) + 1)) dX10_way_28 (nI_add (e - f) 1) ?_
      refine jx_istore_n dX10_way_29 rfl (by decide) ?_
      refine jx_iload_n dX10_way_30 rfl ?_
      refine jx_iconst (v := -1) dX10_way_31 (by decide) ?_
      refine jx_icmp_ne 37 dX10_way_32 (by decide) (fun h32 => ?_) (fun h32 => ?_)
      · exact absurd rfl h32
      · refine jx_iload_n dX10_way_35 rfl ?_
        refine jx_iret dX10_way_36 rfl ?_
        exact ⟨rfl, rfl⟩
    · exact absurd h5 (fun q => by
        have q2 := congrArg Int32.toInt q
        rw [nI_toInt (by omega)] at q2
        have : (-1 : Int32).toInt = -1 := by decide
        omega)
  · have hi0 : 0 ≤ i.toInt := by
      have q : i.toInt ≠ -1 := fun q => hm (Int32.toInt_inj.mp (by rw [q]; decide))
      omega
    have ec : (cN i : Int) = i.toInt := Int.toNat_of_nonneg hi0
    obtain ⟨k, hk⟩ : ∃ k, k = cN i := ⟨_, rfl⟩
    have hik : i = nI k := by rw [hk]; exact nI_cN hi0
    rw [if_neg hm, ← hk]
    rw [← hk] at ec
    subst hik
    refine jx_aload_n dX10_way_0 rfl ?_
    refine jx_getIE dX10_way_1 flX10_74 rfl rfl (h13) ?_
    refine jx_iconst (v := -1) dX10_way_4 (by decide) ?_
    refine jx_icmp_ne 18 dX10_way_5 (by decide) (fun h5 => ?_) (fun h5 => ?_)
    · refine jx_aload_n dX10_way_18 rfl ?_
      refine jx_getIE dX10_way_19 flX10_74 rfl rfl (h13) ?_
      refine jx_aload_n dX10_way_22 rfl ?_
      refine jx_getIE dX10_way_23 flX10_237 rfl rfl (h12) ?_
      refine jx_isubE (z := nI (e - f)) dX10_way_26 (pk_sub (a := e) (b := f) (by omega)) ?_
      refine jx_iconst (v := 1) dX10_way_27 (by decide) ?_
      refine jx_iaddE (z := nI ((e - f) + 1)) dX10_way_28 (nI_add (e - f) 1) ?_
      refine jx_istore_n dX10_way_29 rfl (by decide) ?_
      refine jx_iload_n dX10_way_30 rfl ?_
      refine jx_iconst (v := -1) dX10_way_31 (by decide) ?_
      refine jx_icmp_ne 37 dX10_way_32 (by decide) (fun h32 => ?_) (fun h32 => ?_)
      · refine jx_iload_n dX10_way_37 rfl ?_
        refine jx_ifN_lt (a := k) 60 dX10_way_38 (by decide) (by omega) ?_
        refine jx_iload_n dX10_way_41 rfl ?_
        refine jx_iload_n dX10_way_42 rfl ?_
        refine jx_icmpN_ge (a := k) (b := ((e - f) + 1)) 60 dX10_way_43 (by decide) (by omega) (by omega) (fun h43 => ?_) (fun h43 => ?_)
        · exact absurd h43 (by omega)
        · refine jx_aload_n dX10_way_46 rfl ?_
          refine jx_getIE dX10_way_47 flX10_237 rfl rfl (h12) ?_
          refine jx_iload_n dX10_way_50 rfl ?_
          refine jx_iaddE (z := nI (f + k)) dX10_way_51 (nI_add f k) ?_
          refine jx_aload_n dX10_way_52 rfl ?_
          refine jx_getR dX10_way_53 flX10_13 rfl rfl (hR _ _ _ rfl) ?_
          refine jx_alen dX10_way_56 rfl (by decide) (by decide) ?_
          refine jx_icmpN_lt (a := (f + k)) (b := 96) 70 dX10_way_57 (by decide) (by omega) (by omega) (fun h57 => ?_) (fun h57 => ?_)
          · refine jx_aload_n dX10_way_70 rfl ?_
            refine jx_getR dX10_way_71 flX10_13 rfl rfl (hR _ _ _ rfl) ?_
            refine jx_aload_n dX10_way_74 rfl ?_
            refine jx_getIE dX10_way_75 flX10_237 rfl rfl (h12) ?_
            refine jx_iload_n dX10_way_78 rfl ?_
            refine jx_iaddE (z := nI (f + k)) dX10_way_79 (nI_add f k) ?_
            refine jx_ialdN (f + k) dX10_way_80 rfl (rfl) (by omega) (by omega) ?_
            refine jx_iret dX10_way_81 rfl ?_
            exact ⟨rfl, rfl⟩
          · exact absurd h57 (by omega)
      · exact absurd h32 hm
    · exact absurd h5 (fun q => by
        have q2 := congrArg Int32.toInt q
        rw [nI_toInt (by omega)] at q2
        have : (-1 : Int32).toInt = -1 := by decide
        omega)
set_option maxHeartbeats 1000000 in
set_option maxRecDepth 20000 in
theorem tX10_wayF (hW : jWok w l) (hR : RS R) {f e : Nat} (h12 : I 1000 12 = nI f) (h13 : I 1000 13 = nI e) (hfe : f ≤ e) (he : e < 96) (i : Int32) (hbad : ¬ (-1 ≤ i.toInt ∧ i.toInt < ((e - f + 1 : Nat) : Int))) : jTh w l mX10_way 2 [.ref 1000, .int i] n I L R eN := by
  refine jTh_of hW (by decide) rfl (Nat.le_of_ble_eq_true rfl) ?_
  refine jx_aload_n dX10_way_0 rfl ?_
  refine jx_getIE dX10_way_1 flX10_74 rfl rfl (h13) ?_
  refine jx_iconst (v := -1) dX10_way_4 (by decide) ?_
  refine jx_icmp_ne 18 dX10_way_5 (by decide) (fun h5 => ?_) (fun h5 => ?_)
  · refine jx_aload_n dX10_way_18 rfl ?_
    refine jx_getIE dX10_way_19 flX10_74 rfl rfl (h13) ?_
    refine jx_aload_n dX10_way_22 rfl ?_
    refine jx_getIE dX10_way_23 flX10_237 rfl rfl (h12) ?_
    refine jx_isubE (z := nI (e - f)) dX10_way_26 (pk_sub (a := e) (b := f) (by omega)) ?_
    refine jx_iconst (v := 1) dX10_way_27 (by decide) ?_
    refine jx_iaddE (z := nI ((e - f) + 1)) dX10_way_28 (nI_add (e - f) 1) ?_
    refine jx_istore_n dX10_way_29 rfl (by decide) ?_
    refine jx_iload_n dX10_way_30 rfl ?_
    refine jx_iconst (v := -1) dX10_way_31 (by decide) ?_
    refine jx_icmp_ne 37 dX10_way_32 (by decide) (fun h32 => ?_) (fun h32 => ?_)
    · refine jx_iload_n dX10_way_37 rfl ?_
      refine jx_if_lt 60 dX10_way_38 (by decide) (fun h38 => ?_) (fun h38 => ?_)
      · exact jx_thN (is := 242) (len := 2) 32 rfl rfl rfl rfl rfl (Nat.le_of_ble_eq_true rfl) dX10_way_60 dX10_way_63 (Or.inl ⟨dX10_way_64, rfl⟩) dX10_way_66 dX10_way_69 (by decide) (by decide) (fun n1 hn1 => ⟨rfl, n1, hn1, rfl⟩)
      · refine jx_iload_n dX10_way_41 rfl ?_
        refine jx_iload_n dX10_way_42 rfl ?_
        refine jx_icmp_ge 60 dX10_way_43 (by decide) (fun h43 => ?_) (fun h43 => ?_)
        · exact jx_thN (is := 242) (len := 2) 32 rfl rfl rfl rfl rfl (Nat.le_of_ble_eq_true rfl) dX10_way_60 dX10_way_63 (Or.inl ⟨dX10_way_64, rfl⟩) dX10_way_66 dX10_way_69 (by decide) (by decide) (fun n1 hn1 => ⟨rfl, n1, hn1, rfl⟩)
        · exact absurd ⟨by have := Int.not_lt.mp (fun q => h38 (i32_l0.mpr q)); omega, Int.not_le.mp (fun q => h43 ((i32_le (b := e - f + 1) (by omega)).mpr q))⟩ hbad
    · have hm1 : i.toInt = -1 := by rw [h32]; decide
      exact absurd ⟨by omega, by omega⟩ hbad
  · exact absurd h5 (fun q => by
      have q2 := congrArg Int32.toInt q
      rw [nI_toInt (by omega)] at q2
      have : (-1 : Int32).toInt = -1 := by decide
      omega)
set_option maxHeartbeats 1000000 in
set_option maxRecDepth 20000 in
theorem tX10_wayF0 (hW : jWok w l) (hR : RS R) (h13 : I 1000 13 = -1) (i : Int32) : jTh w l mX10_way 2 [.ref 1000, .int i] n I L R eN := by
  refine jTh_of hW (by decide) rfl (Nat.le_of_ble_eq_true rfl) ?_
  refine jx_aload_n dX10_way_0 rfl ?_
  refine jx_getIE dX10_way_1 flX10_74 rfl rfl (h13) ?_
  refine jx_iconst (v := -1) dX10_way_4 (by decide) ?_
  refine jx_icmp_ne 18 dX10_way_5 (by decide) (fun h5 => ?_) (fun h5 => ?_)
  · exact absurd rfl h5
  · exact jx_thN (is := 240) (len := 2) 31 rfl rfl rfl rfl rfl (Nat.le_of_ble_eq_true rfl) dX10_way_8 dX10_way_11 (Or.inl ⟨dX10_way_12, rfl⟩) dX10_way_14 dX10_way_17 (by decide) (by decide) (fun n1 hn1 => ⟨rfl, n1, hn1, rfl⟩)
end CL1
