/-! THE CLASS: starts, late ones, costs, warnings -/
theorem NS_0 {T : Nat → Nat → Int32} {W H len day : Nat} {wind : Int32} {p fog : Nat} : NS T W H len day wind p fog = 0 ↔ arr T W H len day wind p fog 0 = 1000 := by
  unfold NS
  cases e : fnd (fun t => decide (arr T W H len day wind p fog t = 1000)) 96 with
  | none =>
    have := of_decide_eq_false (fnd_none.mp e 0 (by omega))
    constructor
    · intro h; exact absurd h (by decide)
    · intro h; exact absurd h this
  | some k =>
    obtain ⟨h1, h2, h3⟩ := fnd_some.mp e
    have h2 := of_decide_eq_true h2
    constructor
    · intro h
      have h : k = 0 := h
      rw [h] at h2; exact h2
    · intro h
      show k = 0
      apply Classical.byContradiction
      intro q
      exact of_decide_eq_false (h3 0 (by omega)) h
theorem NS_l9 {T : Nat → Nat → Int32} {W H len day : Nat} {wind : Int32} {p fog : Nat} : NS T W H len day wind p fog ≤ 96 := by
  unfold NS
  cases e : fnd (fun t => decide (arr T W H len day wind p fog t = 1000)) 96 with
  | none => exact Nat.le_refl _
  | some k => have := fnd_lt e; show k ≤ 96; omega
section CK1
variable {w : jWD} {l : Launch} {n : Nat} {I : Nat → Nat → Int32} {L : Nat → Nat → Int64} {R : Nat → Nat → Option Nat}

set_option maxHeartbeats 1000000 in
set_option maxRecDepth 20000 in
theorem tX10_starts (hW : jWok w l) (hR : RS R) {h : Nat} {T : Nat → Nat → Int32} {W H np len : Nat} (hX : CX I L R h T W H np len) {p day k : Nat} (hp : p < np) (hd : day ≤ 40) (hk : k ≤ 3) : jQ w l mX10_starts 7 [.ref 1000, .int (nI p), .int (nI day), .int (nI k)] n I L R h T W H np len (stV (NS T W H len day (T 1072 7) p 0) (arr T W H len day (T 1072 7) p 0 0) k) := by
  refine jRi_of hW (by decide) rfl (Nat.le_of_ble_eq_true rfl) ?_
  have hX0 := hX
  obtain ⟨⟨⟨hh, hRi⟩, hI, hRI, hok, hFL, hSK⟩, hRh⟩ := hX
  have hT := RI.tq hRI
  have hw := hT.1
  have hhh := hT.2.1
  have hwh : W * H ≤ 63 := Nat.mul_le_mul hw.2 hhh.2
  have hn6 := hRI.2.2.2.2.1.2
  refine jx_aload_n dX10_starts_0 rfl ?_
  refine jx_iload_n dX10_starts_1 rfl ?_
  refine jx_Vv (as := [.int _]) dX10_starts_2 mlX10_188 okX10_needParty viX10_needParty rfl rfl rfl rfl rfl (by decide) (Nat.le_of_ble_eq_true rfl) (tX10_needParty hW hR hX0 hp) ?_
  refine jx_aload_n dX10_starts_5 rfl ?_
  refine jx_iload_n dX10_starts_6 rfl ?_
  refine jx_Vv (as := [.int _]) dX10_starts_7 mlX10_170 okX10_needDay viX10_needDay rfl rfl rfl rfl rfl (by decide) (Nat.le_of_ble_eq_true rfl) (tX10_needDay hW hR (by omega)) ?_
  refine jx_iload_n dX10_starts_10 rfl ?_
  refine jx_ifN_lt (a := k) 19 dX10_starts_11 (by decide) (by omega) ?_
  refine jx_iload_n dX10_starts_14 rfl ?_
  refine jx_iconst (v := 3) dX10_starts_15 (by decide) ?_
  refine jx_icmpN_le (a := k) (b := 3) 29 dX10_starts_16 (by decide) (by omega) (by omega) (fun h16 => ?_) (fun h16 => ?_)
  · refine jx_iload_n dX10_starts_29 rfl ?_
    refine jx_iconst (v := 3) dX10_starts_30 (by decide) ?_
    refine jx_icmpN_ne (a := k) (b := 3) 44 dX10_starts_31 (by decide) (by omega) (by omega) (fun h31 => ?_) (fun h31 => ?_)
    · refine jx_aload_n dX10_starts_44 rfl ?_
      refine jx_getR dX10_starts_45 flX10_44 rfl rfl (hR _ _ _ rfl) ?_
      refine jx_iload_n dX10_starts_48 rfl ?_
      refine jx_iload_n dX10_starts_49 rfl ?_
      refine jx_VRi (as := [.int _, .int _]) dX10_starts_50 mlX10_249 okX0_lastStart viX0_lastStart rfl rfl rfl rfl rfl (by decide) (Nat.le_of_ble_eq_true rfl) (tX0_lastStart hW hR hX0.1 hp hd) (fun x50 t50 hq50 => ?_)
      obtain ⟨rfl, J, M, rfl, e1, e2, hC⟩ := hq50
      have hN0 := NS_0 (T := T) (W := W) (H := H) (len := len) (day := day) (wind := T 1072 7) (p := p) (fog := 0)
      have hN9 := NS_l9 (T := T) (W := W) (H := H) (len := len) (day := day) (wind := T 1072 7) (p := p) (fog := 0)
      generalize NS T W H len day (T 1072 7) p 0 = N at hN0 hN9 ⊢
      refine jx_istore dX10_starts_53 (by decide) ?_
      by_cases hz : N = 0
      · rw [if_pos hz]
        refine jx_iload_n dX10_starts_55 rfl ?_
        refine jx_ifN_ne (a := k) 64 dX10_starts_56 (by decide) (by omega) (fun h56 => ?_) (fun h56 => ?_)
        · refine jx_iload_n dX10_starts_64 rfl ?_
          refine jx_iconst (v := 2) dX10_starts_65 (by decide) ?_
          refine jx_icmpN_eq (a := k) (b := 2) 75 dX10_starts_66 (by decide) (by omega) (by omega) (fun h66 => ?_) (fun h66 => ?_)
          · refine jx_iload dX10_starts_75 rfl ?_
            refine jx_goto 81 dX10_starts_77 (by decide) ?_
            refine jx_iret dX10_starts_81 rfl ?_
            refine ⟨_, rfl, ?_, J, M, rfl, e1, e2, hC, hRh⟩
            unfold stV
            first
              | (rw [if_pos h56, hz]; decide)
              | (rw [if_neg h56, if_neg (by omega), if_pos (by omega), hz]; decide)
              | (rw [if_neg h56, if_pos (by omega), if_pos hz])
          · refine jx_iload dX10_starts_69 rfl ?_
            refine jx_iconst (v := -1) dX10_starts_71 (by decide) ?_
            refine jx_icmp_ne 80 dX10_starts_72 (by decide) (fun h72 => ?_) (fun h72 => ?_)
            · exact absurd rfl h72
            · refine jx_iload dX10_starts_75 rfl ?_
              refine jx_goto 81 dX10_starts_77 (by decide) ?_
              refine jx_iret dX10_starts_81 rfl ?_
              refine ⟨_, rfl, ?_, J, M, rfl, e1, e2, hC, hRh⟩
              unfold stV
              first
                | (rw [if_pos h56, hz]; decide)
                | (rw [if_neg h56, if_neg (by omega), if_pos (by omega), hz]; decide)
                | (rw [if_neg h56, if_pos (by omega), if_pos hz])
        · refine jx_iload dX10_starts_59 rfl ?_
          refine jx_iconst (v := 1) dX10_starts_61 (by decide) ?_
          refine jx_iadd dX10_starts_62 ?_
          refine jx_iret dX10_starts_63 rfl ?_
          refine ⟨_, rfl, ?_, J, M, rfl, e1, e2, hC, hRh⟩
          unfold stV
          first
            | (rw [if_pos h56, hz]; decide)
            | (rw [if_neg h56, if_neg (by omega), if_pos (by omega), hz]; decide)
            | (rw [if_neg h56, if_pos (by omega), if_pos hz])
      · rw [if_neg hz]
        refine jx_iload_n dX10_starts_55 rfl ?_
        refine jx_ifN_ne (a := k) 64 dX10_starts_56 (by decide) (by omega) (fun h56 => ?_) (fun h56 => ?_)
        · refine jx_iload_n dX10_starts_64 rfl ?_
          refine jx_iconst (v := 2) dX10_starts_65 (by decide) ?_
          refine jx_icmpN_eq (a := k) (b := 2) 75 dX10_starts_66 (by decide) (by omega) (by omega) (fun h66 => ?_) (fun h66 => ?_)
          · refine jx_iload dX10_starts_75 rfl ?_
            refine jx_goto 81 dX10_starts_77 (by decide) ?_
            refine jx_iret dX10_starts_81 rfl ?_
            refine ⟨_, rfl, ?_, J, M, rfl, e1, e2, hC, hRh⟩
            unfold stV
            first
              | (rw [if_pos h56, show (1 : Int32) = nI 1 from rfl, nI_add, show N - 1 + 1 = N by omega])
              | (rw [if_neg h56, if_neg (by omega), if_pos (by omega), show ((N : Int) - 1) = ((N - 1 : Nat) : Int) by omega]; rfl)
              | (rw [if_neg h56, if_pos (by omega), if_neg hz])
          · refine jx_iload dX10_starts_69 rfl ?_
            refine jx_iconst (v := -1) dX10_starts_71 (by decide) ?_
            refine jx_icmp_ne 80 dX10_starts_72 (by decide) (fun h72 => ?_) (fun h72 => ?_)
            · refine jx_iconst (v := 0) dX10_starts_80 (by decide) ?_
              refine jx_iret dX10_starts_81 rfl ?_
              refine ⟨_, rfl, ?_, J, M, rfl, e1, e2, hC, hRh⟩
              unfold stV
              first
                | (rw [if_pos h56, show (1 : Int32) = nI 1 from rfl, nI_add, show N - 1 + 1 = N by omega])
                | (rw [if_neg h56, if_neg (by omega), if_pos (by omega), show ((N : Int) - 1) = ((N - 1 : Nat) : Int) by omega]; rfl)
                | (rw [if_neg h56, if_pos (by omega), if_neg hz])
            · exact absurd h72 (fun q => by
                have q2 := congrArg Int32.toInt q
                rw [nI_toInt (by omega)] at q2
                have : (-1 : Int32).toInt = -1 := by decide
                omega)
        · refine jx_iload dX10_starts_59 rfl ?_
          refine jx_iconst (v := 1) dX10_starts_61 (by decide) ?_
          refine jx_iadd dX10_starts_62 ?_
          refine jx_iret dX10_starts_63 rfl ?_
          refine ⟨_, rfl, ?_, J, M, rfl, e1, e2, hC, hRh⟩
          unfold stV
          first
            | (rw [if_pos h56, show (1 : Int32) = nI 1 from rfl, nI_add, show N - 1 + 1 = N by omega])
            | (rw [if_neg h56, if_neg (by omega), if_pos (by omega), show ((N : Int) - 1) = ((N - 1 : Nat) : Int) by omega]; rfl)
            | (rw [if_neg h56, if_pos (by omega), if_neg hz])
    · refine jx_aload_n dX10_starts_34 rfl ?_
      refine jx_getR dX10_starts_35 flX10_44 rfl rfl (hR _ _ _ rfl) ?_
      refine jx_iload_n dX10_starts_38 rfl ?_
      refine jx_iload_n dX10_starts_39 rfl ?_
      refine jx_VRi (as := [.int _, .int _]) dX10_starts_40 mlX10_246 okX0_soonest viX0_soonest rfl rfl rfl rfl rfl (by decide) (Nat.le_of_ble_eq_true rfl) (tX0_soonest hW hR hX0.1 hp hd) (fun x40 t40 hq40 => ?_)
      obtain ⟨rfl, J, M, rfl, e1, e2, hC⟩ := hq40
      have hN0 := NS_0 (T := T) (W := W) (H := H) (len := len) (day := day) (wind := T 1072 7) (p := p) (fog := 0)
      refine jx_iret dX10_starts_43 rfl ?_
      refine ⟨_, rfl, ?_, J, M, rfl, e1, e2, hC, hRh⟩
      unfold stV
      rw [if_neg (show ¬ k = 0 by omega), if_neg (show ¬ k = 1 by omega), if_neg (show ¬ k = 2 by omega)]
      unfold aI
      by_cases z : arr T W H len day (T 1072 7) p 0 0 = 1000
      · rw [if_pos z, if_pos (hN0.mpr z)]
      · rw [if_neg z, if_neg (fun q => z (hN0.mp q))]
  · exact absurd h16 (by omega)
set_option maxHeartbeats 1000000 in
set_option maxRecDepth 20000 in
theorem tX10_startsF (hW : jWok w l) (hR : RS R) {h : Nat} {T : Nat → Nat → Int32} {W H np len : Nat} (hX : CX I L R h T W H np len) (p day k : Int32) (hbad : ¬ (ltQ p np = true ∧ dayQ day = true ∧ 0 ≤ k.toInt ∧ k.toInt ≤ 3)) : jTh w l mX10_starts 3 [.ref 1000, .int p, .int day, .int k] n I L R eN := by
  refine jTh_of hW (by decide) rfl (Nat.le_of_ble_eq_true rfl) ?_
  by_cases q0 : ltQ p np = true
  · obtain ⟨p', rfl, hv0⟩ := ltQ_n q0
    by_cases q1 : dayQ day = true
    · obtain ⟨day', rfl, hv1⟩ := dayQ_n q1
      refine jx_aload_n dX10_starts_0 rfl ?_
      refine jx_iload_n dX10_starts_1 rfl ?_
      refine jx_Vv (as := [.int _]) dX10_starts_2 mlX10_188 okX10_needParty viX10_needParty rfl rfl rfl rfl rfl (by decide) (Nat.le_of_ble_eq_true rfl) (tX10_needParty hW hR hX hv0) ?_
      refine jx_aload_n dX10_starts_5 rfl ?_
      refine jx_iload_n dX10_starts_6 rfl ?_
      refine jx_Vv (as := [.int _]) dX10_starts_7 mlX10_170 okX10_needDay viX10_needDay rfl rfl rfl rfl rfl (by decide) (Nat.le_of_ble_eq_true rfl) (tX10_needDay hW hR hv1) ?_
      refine jx_iload_n dX10_starts_10 rfl ?_
      refine jx_if_lt 19 dX10_starts_11 (by decide) (fun h11 => ?_) (fun h11 => ?_)
      · exact jx_thN (is := 244) (len := 2) 33 rfl rfl rfl rfl rfl (Nat.le_of_ble_eq_true rfl) dX10_starts_19 dX10_starts_22 (Or.inl ⟨dX10_starts_23, rfl⟩) dX10_starts_25 dX10_starts_28 (by decide) (by decide) (fun n1 hn1 => ⟨rfl, n1, hn1, rfl⟩)
      · refine jx_iload_n dX10_starts_14 rfl ?_
        refine jx_iconst (v := 3) dX10_starts_15 (by decide) ?_
        refine jx_icmp_le 29 dX10_starts_16 (by decide) (fun h16 => ?_) (fun h16 => ?_)
        · exact absurd ⟨q0, q1, Int.not_lt.mp (fun q => h11 (i32_l0.mpr q)), by have q := Int32.le_iff_toInt_le.mp h16; exact q⟩ hbad
        · exact jx_thN (is := 244) (len := 2) 33 rfl rfl rfl rfl rfl (Nat.le_of_ble_eq_true rfl) dX10_starts_19 dX10_starts_22 (Or.inl ⟨dX10_starts_23, rfl⟩) dX10_starts_25 dX10_starts_28 (by decide) (by decide) (fun n1 hn1 => ⟨rfl, n1, hn1, rfl⟩)
    · refine jx_aload_n dX10_starts_0 rfl ?_
      refine jx_iload_n dX10_starts_1 rfl ?_
      refine jx_Vv (as := [.int _]) dX10_starts_2 mlX10_188 okX10_needParty viX10_needParty rfl rfl rfl rfl rfl (by decide) (Nat.le_of_ble_eq_true rfl) (tX10_needParty hW hR hX hv0) ?_
      refine jx_aload_n dX10_starts_5 rfl ?_
      refine jx_iload_n dX10_starts_6 rfl ?_
      exact jx_VT (as := [.int _]) dX10_starts_7 mlX10_170 okX10_needDay viX10_needDay rfl rfl rfl rfl rfl (by decide) (Nat.le_of_ble_eq_true rfl) (by decide) (by decide) (tX10_needDayF hW hR (fun z => q1 (decide_eq_true ⟨z.1, by omega⟩))) (fun E t h => h)
  · refine jx_aload_n dX10_starts_0 rfl ?_
    refine jx_iload_n dX10_starts_1 rfl ?_
    exact jx_VT (as := [.int _]) dX10_starts_2 mlX10_188 okX10_needParty viX10_needParty rfl rfl rfl rfl rfl (by decide) (Nat.le_of_ble_eq_true rfl) (by decide) (by decide) (tX10_needPartyF hW hR hX (fun z => q0 (decide_eq_true z))) (fun E t h => h)
set_option maxHeartbeats 1000000 in
set_option maxRecDepth 20000 in
theorem tX10_late (hW : jWok w l) (hR : RS R) {h : Nat} {T : Nat → Nat → Int32} {W H np len : Nat} (hX : CX I L R h T W H np len) {p day tick : Nat} (hp : p < np) (hd : day ≤ 40) (ht : tick < 96) : jQ w l mX10_late 7 [.ref 1000, .int (nI p), .int (nI day), .int (nI tick)] n I L R h T W H np len (if NS T W H len day (T 1072 7) p 0 ≤ tick then -1 else nI (NS T W H len day (T 1072 7) p 0 - 1 - tick)) := by
  refine jRi_of hW (by decide) rfl (Nat.le_of_ble_eq_true rfl) ?_
  have hX0 := hX
  obtain ⟨⟨⟨hh, hRi⟩, hI, hRI, hok, hFL, hSK⟩, hRh⟩ := hX
  have hT := RI.tq hRI
  have hw := hT.1
  have hhh := hT.2.1
  have hwh : W * H ≤ 63 := Nat.mul_le_mul hw.2 hhh.2
  have hn6 := hRI.2.2.2.2.1.2
  refine jx_aload_n dX10_late_0 rfl ?_
  refine jx_iload_n dX10_late_1 rfl ?_
  refine jx_iload_n dX10_late_2 rfl ?_
  refine jx_iload_n dX10_late_3 rfl ?_
  refine jx_Vv (as := [.int _, .int _, .int _]) dX10_late_4 mlX10_225 okX10_needStart viX10_needStart rfl rfl rfl rfl rfl (by decide) (Nat.le_of_ble_eq_true rfl) (tX10_needStart hW hR hX0 hp (by omega) ht) ?_
  refine jx_aload_n dX10_late_7 rfl ?_
  refine jx_getR dX10_late_8 flX10_44 rfl rfl (hR _ _ _ rfl) ?_
  refine jx_iload_n dX10_late_11 rfl ?_
  refine jx_iload_n dX10_late_12 rfl ?_
  refine jx_VRi (as := [.int _, .int _]) dX10_late_13 mlX10_249 okX0_lastStart viX0_lastStart rfl rfl rfl rfl rfl (by decide) (Nat.le_of_ble_eq_true rfl) (tX0_lastStart hW hR hX0.1 hp hd) (fun x13 t13 hq13 => ?_)
  obtain ⟨rfl, J, M, rfl, e1, e2, hC⟩ := hq13
  have hN0 := NS_0 (T := T) (W := W) (H := H) (len := len) (day := day) (wind := T 1072 7) (p := p) (fog := 0)
  have hN9 := NS_l9 (T := T) (W := W) (H := H) (len := len) (day := day) (wind := T 1072 7) (p := p) (fog := 0)
  generalize NS T W H len day (T 1072 7) p 0 = N at hN0 hN9 ⊢
  refine jx_istore dX10_late_16 (by decide) ?_
  by_cases hz : N = 0
  · rw [if_pos hz]
    refine jx_iload_n dX10_late_18 rfl ?_
    refine jx_iload dX10_late_19 rfl ?_
    refine jx_icmp_le 28 dX10_late_21 (by decide) (fun h21 => ?_) (fun h21 => ?_)
    · exact absurd h21 (fun q => by
        rw [Int32.le_iff_toInt_le, nI_toInt (by omega)] at q
        have : (-1 : Int32).toInt = -1 := by decide
        omega)
    · refine jx_iconst (v := -1) dX10_late_24 (by decide) ?_
      refine jx_goto 32 dX10_late_25 (by decide) ?_
      refine jx_iret dX10_late_32 rfl ?_
      refine ⟨_, rfl, ?_, J, M, rfl, e1, e2, hC, hRh⟩
      rw [if_pos (by omega)]
  · rw [if_neg hz]
    refine jx_iload_n dX10_late_18 rfl ?_
    refine jx_iload dX10_late_19 rfl ?_
    refine jx_icmpN_le (a := tick) (b := (N - 1)) 28 dX10_late_21 (by decide) (by omega) (by omega) (fun h21 => ?_) (fun h21 => ?_)
    · refine jx_iload dX10_late_28 rfl ?_
      refine jx_iload_n dX10_late_30 rfl ?_
      refine jx_isubE (z := nI ((N - 1) - tick)) dX10_late_31 (pk_sub (a := (N - 1)) (b := tick) (by omega)) ?_
      refine jx_iret dX10_late_32 rfl ?_
      refine ⟨_, rfl, ?_, J, M, rfl, e1, e2, hC, hRh⟩
      first | rw [if_pos (by omega)] | rw [if_neg (by omega)]
    · refine jx_iconst (v := -1) dX10_late_24 (by decide) ?_
      refine jx_goto 32 dX10_late_25 (by decide) ?_
      refine jx_iret dX10_late_32 rfl ?_
      refine ⟨_, rfl, ?_, J, M, rfl, e1, e2, hC, hRh⟩
      first | rw [if_pos (by omega)] | rw [if_neg (by omega)]
set_option maxHeartbeats 1000000 in
set_option maxRecDepth 20000 in
theorem tX10_lateF (hW : jWok w l) (hR : RS R) {h : Nat} {T : Nat → Nat → Int32} {W H np len : Nat} (hX : CX I L R h T W H np len) (p day tick : Int32) (hbad : ¬ (ltQ p np = true ∧ dayQ day = true ∧ tickQ tick = true)) : jTh w l mX10_late 3 [.ref 1000, .int p, .int day, .int tick] n I L R eN := by
  refine jTh_of hW (by decide) rfl (Nat.le_of_ble_eq_true rfl) ?_
  refine jx_aload_n dX10_late_0 rfl ?_
  refine jx_iload_n dX10_late_1 rfl ?_
  refine jx_iload_n dX10_late_2 rfl ?_
  refine jx_iload_n dX10_late_3 rfl ?_
  exact jx_VT (as := [.int _, .int _, .int _]) dX10_late_4 mlX10_225 okX10_needStart viX10_needStart rfl rfl rfl rfl rfl (by decide) (Nat.le_of_ble_eq_true rfl) (by decide) (by decide) (tX10_needStartF hW hR hX (fun z => hbad ⟨decide_eq_true z.1, decide_eq_true ⟨z.2.1.1, by omega⟩, decide_eq_true ⟨z.2.2.1, by omega⟩⟩)) (fun E t h => h)
set_option maxHeartbeats 1000000 in
set_option maxRecDepth 20000 in
theorem tX10_costs (hW : jWok w l) (hR : RS R) {h : Nat} {T : Nat → Nat → Int32} {W H np len : Nat} (hX : CX I L R h T W H np len) {p day tick later : Nat} (hp : p < np) (hd : day ≤ 40) (ht : tick < 96) (hl : tick + later < 96) : jQ w l mX10_costs 7 [.ref 1000, .int (nI p), .int (nI day), .int (nI tick), .int (nI later)] n I L R h T W H np len (if arr T W H len day (T 1072 7) p 0 tick = 1000 ∨ arr T W H len day (T 1072 7) p 0 (tick + later) = 1000 then -1 else nI (arr T W H len day (T 1072 7) p 0 (tick + later)) - nI (arr T W H len day (T 1072 7) p 0 tick)) := by
  refine jRi_of hW (by decide) rfl (Nat.le_of_ble_eq_true rfl) ?_
  have hX0 := hX
  obtain ⟨⟨⟨hh, hRi⟩, hI, hRI, hok, hFL, hSK⟩, hRh⟩ := hX
  have hT := RI.tq hRI
  have hw := hT.1
  have hhh := hT.2.1
  have hwh : W * H ≤ 63 := Nat.mul_le_mul hw.2 hhh.2
  have hn6 := hRI.2.2.2.2.1.2
  refine jx_aload_n dX10_costs_0 rfl ?_
  refine jx_iload_n dX10_costs_1 rfl ?_
  refine jx_iload_n dX10_costs_2 rfl ?_
  refine jx_iload_n dX10_costs_3 rfl ?_
  refine jx_Vv (as := [.int _, .int _, .int _]) dX10_costs_4 mlX10_225 okX10_needStart viX10_needStart rfl rfl rfl rfl rfl (by decide) (Nat.le_of_ble_eq_true rfl) (tX10_needStart hW hR hX0 hp (by omega) ht) ?_
  refine jx_iload dX10_costs_7 rfl ?_
  refine jx_ifN_lt (a := later) 21 dX10_costs_9 (by decide) (by omega) ?_
  refine jx_iload dX10_costs_12 rfl ?_
  refine jx_bipush (v := 96) dX10_costs_14 (by decide) ?_
  refine jx_iload_n dX10_costs_16 rfl ?_
  refine jx_isubE (z := nI (96 - tick)) dX10_costs_17 (pk_sub (a := 96) (b := tick) (by omega)) ?_
  refine jx_icmpN_lt (a := later) (b := (96 - tick)) 32 dX10_costs_18 (by decide) (by omega) (by omega) (fun h18 => ?_) (fun h18 => ?_)
  · refine jx_aload_n dX10_costs_32 rfl ?_
    refine jx_getR dX10_costs_33 flX10_44 rfl rfl (hR _ _ _ rfl) ?_
    refine jx_iload_n dX10_costs_36 rfl ?_
    refine jx_iload_n dX10_costs_37 rfl ?_
    refine jx_iload_n dX10_costs_38 rfl ?_
    refine jx_VRi (as := [.int _, .int _, .int _]) dX10_costs_39 mlX10_229 okX0_arrival viX0_arrival rfl rfl rfl rfl rfl (by decide) (Nat.le_of_ble_eq_true rfl) (tX0_arrival hW hR hX0.1 hp hd ht) (fun x39 t39 hq39 => ?_)
    obtain ⟨rfl, J1, M1, rfl, f1, f2, hC1, -⟩ := hq39
    have ha1 := arr_le T W H len day (T 1072 7) p 0 tick
    have hm1 := aI_m (v := arr T W H len day (T 1072 7) p 0 tick) (by omega)
    refine jx_istore dX10_costs_42 (by decide) ?_
    refine jx_aload_n dX10_costs_44 rfl ?_
    refine jx_getR dX10_costs_45 flX10_44 rfl rfl (hR _ _ _ rfl) ?_
    refine jx_iload_n dX10_costs_48 rfl ?_
    refine jx_iload_n dX10_costs_49 rfl ?_
    refine jx_iload_n dX10_costs_50 rfl ?_
    refine jx_iload dX10_costs_51 rfl ?_
    refine jx_iaddE (z := nI (tick + later)) dX10_costs_53 (nI_add tick later) ?_
    refine jx_VRi (as := [.int _, .int _, .int _]) dX10_costs_54 mlX10_229 okX0_arrival viX0_arrival rfl rfl rfl rfl rfl (by decide) (Nat.le_of_ble_eq_true rfl) (tX0_arrival hW hR hC1 hp hd hl) (fun x54 t54 hq54 => ?_)
    obtain ⟨rfl, J, M, rfl, f3, f4, hC, -⟩ := hq54
    have e1 := eqC_t f1 f3
    have e2 := eqCL_t f2 f4
    have ha2 := arr_le T W H len day (T 1072 7) p 0 (tick + later)
    have hm2 := aI_m (v := arr T W H len day (T 1072 7) p 0 (tick + later)) (by omega)
    refine jx_istore dX10_costs_57 (by decide) ?_
    refine jx_iload dX10_costs_59 rfl ?_
    refine jx_iconst (v := -1) dX10_costs_61 (by decide) ?_
    refine jx_icmp_eq 71 dX10_costs_62 (by decide) (fun h62 => ?_) (fun h62 => ?_)
    · refine jx_iconst (v := -1) dX10_costs_71 (by decide) ?_
      refine jx_goto 80 dX10_costs_72 (by decide) ?_
      refine jx_iret dX10_costs_80 rfl ?_
      refine ⟨_, rfl, ?_, J, M, rfl, e1, e2, hC, hRh⟩
      first
        | (rw [if_pos (Or.inl (hm1.mp h62))])
        | (rw [if_pos (Or.inr (hm2.mp h68))])
        | (rw [if_neg (fun q => by rcases q with q | q; exact h62 (hm1.mpr q); exact h68 (hm2.mpr q)), aI_v (fun q => h62 (hm1.mpr q)), aI_v (fun q => h68 (hm2.mpr q))])
    · refine jx_iload dX10_costs_65 rfl ?_
      refine jx_iconst (v := -1) dX10_costs_67 (by decide) ?_
      refine jx_icmp_ne 75 dX10_costs_68 (by decide) (fun h68 => ?_) (fun h68 => ?_)
      · refine jx_iload dX10_costs_75 rfl ?_
        refine jx_iload dX10_costs_77 rfl ?_
        refine jx_isub dX10_costs_79 ?_
        refine jx_iret dX10_costs_80 rfl ?_
        refine ⟨_, rfl, ?_, J, M, rfl, e1, e2, hC, hRh⟩
        first
          | (rw [if_pos (Or.inl (hm1.mp h62))])
          | (rw [if_pos (Or.inr (hm2.mp h68))])
          | (rw [if_neg (fun q => by rcases q with q | q; exact h62 (hm1.mpr q); exact h68 (hm2.mpr q)), aI_v (fun q => h62 (hm1.mpr q)), aI_v (fun q => h68 (hm2.mpr q))])
      · refine jx_iconst (v := -1) dX10_costs_71 (by decide) ?_
        refine jx_goto 80 dX10_costs_72 (by decide) ?_
        refine jx_iret dX10_costs_80 rfl ?_
        refine ⟨_, rfl, ?_, J, M, rfl, e1, e2, hC, hRh⟩
        first
          | (rw [if_pos (Or.inl (hm1.mp h62))])
          | (rw [if_pos (Or.inr (hm2.mp h68))])
          | (rw [if_neg (fun q => by rcases q with q | q; exact h62 (hm1.mpr q); exact h68 (hm2.mpr q)), aI_v (fun q => h62 (hm1.mpr q)), aI_v (fun q => h68 (hm2.mpr q))])
  · exact absurd h18 (by omega)
set_option maxHeartbeats 1000000 in
set_option maxRecDepth 20000 in
theorem tX10_costsF (hW : jWok w l) (hR : RS R) {h : Nat} {T : Nat → Nat → Int32} {W H np len : Nat} (hX : CX I L R h T W H np len) (p day tick later : Int32) (hbad : ¬ (ltQ p np = true ∧ dayQ day = true ∧ tickQ tick = true)) : jTh w l mX10_costs 3 [.ref 1000, .int p, .int day, .int tick, .int later] n I L R eN := by
  refine jTh_of hW (by decide) rfl (Nat.le_of_ble_eq_true rfl) ?_
  refine jx_aload_n dX10_costs_0 rfl ?_
  refine jx_iload_n dX10_costs_1 rfl ?_
  refine jx_iload_n dX10_costs_2 rfl ?_
  refine jx_iload_n dX10_costs_3 rfl ?_
  exact jx_VT (as := [.int _, .int _, .int _]) dX10_costs_4 mlX10_225 okX10_needStart viX10_needStart rfl rfl rfl rfl rfl (by decide) (Nat.le_of_ble_eq_true rfl) (by decide) (by decide) (tX10_needStartF hW hR hX (fun z => hbad ⟨decide_eq_true z.1, decide_eq_true ⟨z.2.1.1, by omega⟩, decide_eq_true ⟨z.2.2.1, by omega⟩⟩)) (fun E t h => h)
set_option maxHeartbeats 1000000 in
set_option maxRecDepth 20000 in
theorem tX10_costsF2 (hW : jWok w l) (hR : RS R) {h : Nat} {T : Nat → Nat → Int32} {W H np len : Nat} (hX : CX I L R h T W H np len) {p day tick : Nat} (later : Int32) (hp : p < np) (hd : day ≤ 40) (ht : tick < 96) (hbad : ¬ (0 ≤ later.toInt ∧ later.toInt ≤ 95 - tick)) : jTh w l mX10_costs 3 [.ref 1000, .int (nI p), .int (nI day), .int (nI tick), .int later] n I L R eI := by
  refine jTh_of hW (by decide) rfl (Nat.le_of_ble_eq_true rfl) ?_
  refine jx_aload_n dX10_costs_0 rfl ?_
  refine jx_iload_n dX10_costs_1 rfl ?_
  refine jx_iload_n dX10_costs_2 rfl ?_
  refine jx_iload_n dX10_costs_3 rfl ?_
  refine jx_Vv (as := [.int _, .int _, .int _]) dX10_costs_4 mlX10_225 okX10_needStart viX10_needStart rfl rfl rfl rfl rfl (by decide) (Nat.le_of_ble_eq_true rfl) (tX10_needStart hW hR hX hp (by omega) ht) ?_
  refine jx_iload dX10_costs_7 rfl ?_
  refine jx_if_lt 21 dX10_costs_9 (by decide) (fun h9 => ?_) (fun h9 => ?_)
  · exact jx_thI (is := 340) (len := 3) 39 rfl rfl rfl rfl rfl (Nat.le_of_ble_eq_true rfl) dX10_costs_21 dX10_costs_24 (Or.inr ⟨dX10_costs_25, rfl⟩) dX10_costs_28 dX10_costs_31 (by decide) (by decide) (fun n1 hn1 => ⟨rfl, n1, hn1, rfl⟩)
  · refine jx_iload dX10_costs_12 rfl ?_
    refine jx_bipush (v := 96) dX10_costs_14 (by decide) ?_
    refine jx_iload_n dX10_costs_16 rfl ?_
    refine jx_isubE (z := nI (96 - tick)) dX10_costs_17 (pk_sub (a := 96) (b := tick) (by omega)) ?_
    refine jx_icmp_lt 32 dX10_costs_18 (by decide) (fun h18 => ?_) (fun h18 => ?_)
    · exact absurd ⟨Int.not_lt.mp (fun q => h9 (i32_l0.mpr q)), by have q := (i32_lt (b := 96 - tick) (by omega)).mp h18; omega⟩ hbad
    · exact jx_thI (is := 340) (len := 3) 39 rfl rfl rfl rfl rfl (Nat.le_of_ble_eq_true rfl) dX10_costs_21 dX10_costs_24 (Or.inr ⟨dX10_costs_25, rfl⟩) dX10_costs_28 dX10_costs_31 (by decide) (by decide) (fun n1 hn1 => ⟨rfl, n1, hn1, rfl⟩)
set_option maxHeartbeats 1000000 in
set_option maxRecDepth 20000 in
theorem tX10_warning (hW : jWok w l) (hR : RS R) {h : Nat} {T : Nat → Nat → Int32} {W H np len : Nat} (hX : CX I L R h T W H np len) {p day tick : Nat} (hp : p < np) (hd : day ≤ 40) (ht : tick < 96) : jQ w l mX10_warning 7 [.ref 1000, .int (nI p), .int (nI day), .int (nI tick)] n I L R h T W H np len (oI (fnd (fun v => decide (arr T W H len day (nI v) p 0 tick = 1000)) 10)) := by
  refine jRi_of hW (by decide) rfl (Nat.le_of_ble_eq_true rfl) ?_
  have hX0 := hX
  obtain ⟨⟨⟨hh, hRi⟩, hI, hRI, hok, hFL, hSK⟩, hRh⟩ := hX
  have hT := RI.tq hRI
  have hw := hT.1
  have hhh := hT.2.1
  have hwh : W * H ≤ 63 := Nat.mul_le_mul hw.2 hhh.2
  have hn6 := hRI.2.2.2.2.1.2
  have key : ∀ k, k ≤ 10 → ∀ (J : Nat → Nat → Int32) (M : Nat → Nat → Int64), eqC I J → eqCL L M → CF J M R h T W H np len → (∀ j, j < k → decide (arr T W H len day (nI j) p 0 tick = 1000) = false) → jWP w l mX10_warning 7 0 0 (fun v t => ∃ r, v = some (.int r) ∧ (r = oI (fnd (fun v => decide (arr T W H len day (nI v) p 0 tick = 1000)) 10) ∧ ∃ J M', t = (n, shE, J, M', R) ∧ eqC I J ∧ eqCL L M' ∧ CX J M' R h T W H np len)) (fun _ _ => False) 10 [(0, .ref 1000), (1, .int (nI p)), (2, .int (nI day)), (3, .int (nI tick)), (4, .int (nI k))] [] (n, shE, J, M, R) := by
    refine jdown _ (fun k hk ih => ?_)
    intro J M e1 e2 hC hj
    refine jx_iload dX10_warning_10 rfl ?_
    refine jx_bipush (v := 10) dX10_warning_12 (by decide) ?_
    refine jx_icmpN_ge (a := k) (b := 10) 42 dX10_warning_14 (by decide) (by omega) (by omega) (fun h14 => ?_) (fun h14 => ?_)
    · refine jx_iconst (v := -1) dX10_warning_42 (by decide) ?_
      refine jx_iret dX10_warning_43 rfl ?_
      refine ⟨_, rfl, ?_, J, M, rfl, e1, e2, hC, hRh⟩
      rw [fnd_none.mpr (fun j hj2 => hj j (by omega))]
      rfl
    · refine jx_aload_n dX10_warning_17 rfl ?_
      refine jx_getR dX10_warning_18 flX10_44 rfl rfl (hR _ _ _ rfl) ?_
      refine jx_iload_n dX10_warning_21 rfl ?_
      refine jx_iload_n dX10_warning_22 rfl ?_
      refine jx_iload_n dX10_warning_23 rfl ?_
      refine jx_iload dX10_warning_24 rfl ?_
      refine jx_VRi (as := [.int _, .int _, .int _, .int _]) dX10_warning_26 mlX10_364 okX0_arrivalInWind viX0_arrivalInWind rfl rfl rfl rfl rfl (by decide) (Nat.le_of_ble_eq_true rfl) (tX0_arrivalInWind hW hR hC hp hd ht (nI k)) (fun x26 t26 hq26 => ?_)
      obtain ⟨rfl, J2, M2, rfl, f1, f2, hC2, -⟩ := hq26
      have ha1 := arr_le T W H len day (nI k) p 0 tick
      have hm1 := aI_m (v := arr T W H len day (nI k) p 0 tick) (by omega)
      refine jx_iconst (v := -1) dX10_warning_29 (by decide) ?_
      refine jx_icmp_ne 36 dX10_warning_30 (by decide) (fun h30 => ?_) (fun h30 => ?_)
      · refine jx_iinc dX10_warning_36 rfl (v := nI (k + 1)) (nI_1 _) (by decide) ?_
        refine jx_goto 10 dX10_warning_39 (by decide) ?_
        exact jx_ls (by exact ⟨rfl, rfl, rfl, rfl, rfl, trivial⟩) (ih (by omega) J2 M2 (eqC_t e1 f1) (eqCL_t e2 f2) hC2 (fun j hj2 => by
          by_cases z : j = k
          · rw [z]; exact decide_eq_false (fun q => h30 (hm1.mpr q))
          · exact hj j (by omega)))
      · refine jx_iload dX10_warning_33 rfl ?_
        refine jx_iret dX10_warning_35 rfl ?_
        refine ⟨_, rfl, ?_, J2, M2, rfl, eqC_t e1 f1, eqCL_t e2 f2, hC2, hRh⟩
        rw [fnd_some.mpr ⟨by omega, decide_eq_true (hm1.mp h30), hj⟩]
        rfl
  refine jx_aload_n dX10_warning_0 rfl ?_
  refine jx_iload_n dX10_warning_1 rfl ?_
  refine jx_iload_n dX10_warning_2 rfl ?_
  refine jx_iload_n dX10_warning_3 rfl ?_
  refine jx_Vv (as := [.int _, .int _, .int _]) dX10_warning_4 mlX10_225 okX10_needStart viX10_needStart rfl rfl rfl rfl rfl (by decide) (Nat.le_of_ble_eq_true rfl) (tX10_needStart hW hR hX0 hp (by omega) ht) ?_
  refine jx_iconst (v := 0) dX10_warning_7 (by decide) ?_
  refine jx_istore dX10_warning_8 (by decide) ?_
  exact jx_ls (by exact ⟨rfl, rfl, rfl, rfl, rfl, trivial⟩) (key 0 (by omega) I L (eqC_r I) (eqCL_r L) hX0.1 (fun j hj => absurd hj (by omega)))
set_option maxHeartbeats 1000000 in
set_option maxRecDepth 20000 in
theorem tX10_warningF (hW : jWok w l) (hR : RS R) {h : Nat} {T : Nat → Nat → Int32} {W H np len : Nat} (hX : CX I L R h T W H np len) (p day tick : Int32) (hbad : ¬ (ltQ p np = true ∧ dayQ day = true ∧ tickQ tick = true)) : jTh w l mX10_warning 3 [.ref 1000, .int p, .int day, .int tick] n I L R eN := by
  refine jTh_of hW (by decide) rfl (Nat.le_of_ble_eq_true rfl) ?_
  refine jx_aload_n dX10_warning_0 rfl ?_
  refine jx_iload_n dX10_warning_1 rfl ?_
  refine jx_iload_n dX10_warning_2 rfl ?_
  refine jx_iload_n dX10_warning_3 rfl ?_
  exact jx_VT (as := [.int _, .int _, .int _]) dX10_warning_4 mlX10_225 okX10_needStart viX10_needStart rfl rfl rfl rfl rfl (by decide) (Nat.le_of_ble_eq_true rfl) (by decide) (by decide) (tX10_needStartF hW hR hX (fun z => hbad ⟨decide_eq_true z.1, decide_eq_true ⟨z.2.1.1, by omega⟩, decide_eq_true ⟨z.2.2.1, by omega⟩⟩)) (fun E t h => h)
end CK1
