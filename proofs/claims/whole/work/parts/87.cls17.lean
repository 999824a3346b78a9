/-! THE CLASS: all rents -/
section CQ1
variable {w : jWD} {l : Launch} {n : Nat} {I : Nat → Nat → Int32} {L : Nat → Nat → Int64} {R : Nat → Nat → Option Nat}

set_option maxHeartbeats 1000000 in
set_option maxRecDepth 20000 in
theorem tX10_rents (hW : jWok w l) (hR : RS R) {h : Nat} {T : Nat → Nat → Int32} {W H np len : Nat} (hX : CX I L R h T W H np len) {day tick k : Nat} (hd : day ≤ 40) (ht : tick < 96) (hk : k ≤ 1) : jQD w l mX10_rents 7 [.ref 1000, .int (nI day), .int (nI tick), .int (nI k)] n I L R h T W H np len (rntV (byK T W H len day tick 1) (byK T W H len day tick 2) np k) := by
  refine jRi_of hW (by decide) rfl (Nat.le_of_ble_eq_true rfl) ?_
  have hX0 := hX
  have hRh := hX.2
  have hn6 := hX.1.2.2.1.2.2.2.2.1.2
  have key : ∀ (J : Nat → Nat → Int32) (M : Nat → Nat → Int64), eqD I J → eqDL L M → CF J M R h T W H np len → (∀ c, c < 4 → J 1045 c = nI (tkN (byK T W H len day tick 1) (byK T W H len day tick 2) np c)) → ∀ a, a ≤ 9 → ∀ lv : Int32, lv = oI ((fnd (rf (byK T W H len day tick 1) (byK T W H len day tick 2) np) (a * 9)).map (fun i => 10 * (i / 9 + 1) + (i % 9 + 1))) → jWP w l mX10_rents 7 0 0 (fun v t => ∃ r, v = some (.int r) ∧ (r = rntV (byK T W H len day tick 1) (byK T W H len day tick 2) np k ∧ ∃ J M', t = (n, shE, J, M', R) ∧ eqD I J ∧ eqDL L M' ∧ CX J M' R h T W H np len)) (fun _ _ => False) 50 [(0, .ref 1000), (1, .int (nI day)), (2, .int (nI tick)), (3, .int (nI k)), (4, .ref 1045), (5, .int (nI (cntN (rf (byK T W H len day tick 1) (byK T W H len day tick 2) np) (a * 9)))), (6, .int lv), (7, .int (nI (a + 1)))] [] (n, shE, J, M, R) := by
    intro J M e1 e2 hC hv
    have htl : ∀ c, tkN (byK T W H len day tick 1) (byK T W H len day tick 2) np c ≤ 6 := fun c => Nat.le_trans (cntN_le _ np) hn6
    refine jdown _ (fun a ha ih lv hlv => ?_)
    have keyb : a < 9 → ∀ b, b ≤ 9 → ∀ lv : Int32, lv = oI ((fnd (rf (byK T W H len day tick 1) (byK T W H len day tick 2) np) (a * 9 + b)).map (fun i => 10 * (i / 9 + 1) + (i % 9 + 1))) → jWP w l mX10_rents 7 0 0 (fun v t => ∃ r, v = some (.int r) ∧ (r = rntV (byK T W H len day tick 1) (byK T W H len day tick 2) np k ∧ ∃ J M', t = (n, shE, J, M', R) ∧ eqD I J ∧ eqDL L M' ∧ CX J M' R h T W H np len)) (fun _ _ => False) 60 [(0, .ref 1000), (1, .int (nI day)), (2, .int (nI tick)), (3, .int (nI k)), (4, .ref 1045), (5, .int (nI (cntN (rf (byK T W H len day tick 1) (byK T W H len day tick 2) np) (a * 9 + b)))), (6, .int lv), (7, .int (nI (a + 1))), (8, .int (nI (b + 1)))] [] (n, shE, J, M, R) := by
      intro ha9
      refine jdown _ (fun b hb ihb lv hlv => ?_)
      have hcl : cntN (rf (byK T W H len day tick 1) (byK T W H len day tick 2) np) (a * 9 + b) ≤ a * 9 + b := cntN_le _ _
      have hrf : (rf (byK T W H len day tick 1) (byK T W H len day tick 2) np) (a * 9 + b) = if b < 9 then rst (byK T W H len day tick 1) (byK T W H len day tick 2) np (a + 1) (b + 1) else (rf (byK T W H len day tick 1) (byK T W H len day tick 2) np) (a * 9 + b) := by
        by_cases z : b < 9
        · rw [if_pos z]
          show rst _ _ np ((a * 9 + b) / 9 + 1) ((a * 9 + b) % 9 + 1) = _
          rw [show (a * 9 + b) / 9 = a by omega, show (a * 9 + b) % 9 = b by omega]
        · rw [if_neg z]
      refine jx_iload dX10_rents_60 rfl ?_
      refine jx_bipush (v := 9) dX10_rents_62 (by decide) ?_
      refine jx_icmpN_gt (a := (b + 1)) (b := 9) 109 dX10_rents_64 (by decide) (by omega) (by omega) (fun h64 => ?_) (fun h64 => ?_)
      · refine jx_iinc dX10_rents_109 rfl (v := nI ((a + 1) + 1)) (nI_1 _) (by decide) ?_
        refine jx_goto 50 dX10_rents_112 (by decide) ?_
        have hb9 : b = 9 := by omega
        subst hb9
        have kk := ih ha9 lv (by rw [show (a + 1) * 9 = a * 9 + 9 by omega]; exact hlv)
        rw [show (a + 1) * 9 = a * 9 + 9 by omega] at kk
        exact jx_ls (by exact ⟨rfl, rfl, rfl, rfl, rfl, rfl, rfl, rfl, trivial⟩) kk
      · have hb9 : b < 9 := by omega
        have hr : (rf (byK T W H len day tick 1) (byK T W H len day tick 2) np) (a * 9 + b) = rst (byK T W H len day tick 1) (byK T W H len day tick 2) np (a + 1) (b + 1) := by rw [hrf, if_pos hb9]
        refine jx_aload dX10_rents_67 rfl ?_
        refine jx_iload dX10_rents_69 rfl ?_
        refine jx_iload dX10_rents_71 rfl ?_
        refine jx_Si (as := [.ref _, .int _, .int _]) dX10_rents_73 mlX10_360 okX10_rests stX10_rests rfl rfl (by decide) (Nat.le_of_ble_eq_true rfl) (tX10_rests hW hR (hv 1 (by decide)) (hv 2 (by decide)) (hv 3 (by decide)) ⟨htl 1, htl 2, htl 3⟩ rfl rfl rfl (hr := a + 1) (st := b + 1) (by omega) (by omega)) ?_
        refine jx_ifB_eq 103 dX10_rents_76 (by decide) (fun h76 => ?_) (fun h76 => ?_)
        · skip
          refine jx_iinc dX10_rents_103 rfl (v := nI ((b + 1) + 1)) (nI_1 _) (by decide) ?_
          refine jx_goto 60 dX10_rents_106 (by decide) ?_
          have hr0 : (rf (byK T W H len day tick 1) (byK T W H len day tick 2) np) (a * 9 + b) = false := hr.trans h76
          have c1 : cntN (rf (byK T W H len day tick 1) (byK T W H len day tick 2) np) (a * 9 + (b + 1)) = cntN (rf (byK T W H len day tick 1) (byK T W H len day tick 2) np) (a * 9 + b) := by show cntN _ (a * 9 + b + 1) = _; rw [cntN, if_neg (by rw [hr0]; decide), Nat.add_zero]
          have kk := ihb (by omega) lv (by rw [show a * 9 + (b + 1) = a * 9 + b + 1 from rfl, fnd_keep hr0]; exact hlv)
          rw [c1] at kk
          exact jx_ls (by exact ⟨rfl, rfl, rfl, rfl, rfl, rfl, rfl, rfl, rfl, trivial⟩) kk
        · refine jx_iinc dX10_rents_79 rfl (v := nI ((cntN (rf (byK T W H len day tick 1) (byK T W H len day tick 2) np) (a * 9 + b)) + 1)) (nI_1 _) (by decide) ?_
          refine jx_iload dX10_rents_82 rfl ?_
          refine jx_iconst (v := -1) dX10_rents_84 (by decide) ?_
          refine jx_icmp_ne 99 dX10_rents_85 (by decide) (fun h85 => ?_) (fun h85 => ?_)
          · skip
            refine jx_iload dX10_rents_99 rfl ?_
            refine jx_istore dX10_rents_101 (by decide) ?_
            refine jx_iinc dX10_rents_103 rfl (v := nI ((b + 1) + 1)) (nI_1 _) (by decide) ?_
            refine jx_goto 60 dX10_rents_106 (by decide) ?_
            have hr0 : (rf (byK T W H len day tick 1) (byK T W H len day tick 2) np) (a * 9 + b) = true := hr.trans h76
            have c1 : cntN (rf (byK T W H len day tick 1) (byK T W H len day tick 2) np) (a * 9 + (b + 1)) = cntN (rf (byK T W H len day tick 1) (byK T W H len day tick 2) np) (a * 9 + b) + 1 := by show cntN _ (a * 9 + b + 1) = _; rw [cntN, if_pos hr0]
            have kk := ihb (by omega) lv (by
              rw [show a * 9 + (b + 1) = a * 9 + b + 1 from rfl]
              cases e : fnd (rf (byK T W H len day tick 1) (byK T W H len day tick 2) np) (a * 9 + b) with
              | none => exact absurd (by rw [hlv, e]; rfl) h85
              | some x => rw [fnd_old e, hlv, e])
            rw [c1] at kk
            exact jx_ls (by exact ⟨rfl, rfl, rfl, rfl, rfl, rfl, rfl, rfl, rfl, trivial⟩) kk
          · refine jx_bipush (v := 10) dX10_rents_88 (by decide) ?_
            refine jx_iload dX10_rents_90 rfl ?_
            refine jx_imulE (z := nI (10 * (a + 1))) dX10_rents_92 (pk_mul 10 (a + 1)) ?_
            refine jx_iload dX10_rents_93 rfl ?_
            refine jx_iaddE (z := nI ((10 * (a + 1)) + (b + 1))) dX10_rents_95 (nI_add (10 * (a + 1)) (b + 1)) ?_
            refine jx_goto 101 dX10_rents_96 (by decide) ?_
            refine jx_istore dX10_rents_101 (by decide) ?_
            refine jx_iinc dX10_rents_103 rfl (v := nI ((b + 1) + 1)) (nI_1 _) (by decide) ?_
            refine jx_goto 60 dX10_rents_106 (by decide) ?_
            have hr0 : (rf (byK T W H len day tick 1) (byK T W H len day tick 2) np) (a * 9 + b) = true := hr.trans h76
            have c1 : cntN (rf (byK T W H len day tick 1) (byK T W H len day tick 2) np) (a * 9 + (b + 1)) = cntN (rf (byK T W H len day tick 1) (byK T W H len day tick 2) np) (a * 9 + b) + 1 := by show cntN _ (a * 9 + b + 1) = _; rw [cntN, if_pos hr0]
            have kk := ihb (by omega) (nI (10 * (a + 1) + (b + 1))) (by
              rw [show a * 9 + (b + 1) = a * 9 + b + 1 from rfl]
              cases e : fnd (rf (byK T W H len day tick 1) (byK T W H len day tick 2) np) (a * 9 + b) with
              | none => rw [fnd_new e hr0]; show nI (10 * (a + 1) + (b + 1)) = nI (10 * ((a * 9 + b) / 9 + 1) + ((a * 9 + b) % 9 + 1)); rw [show (a * 9 + b) / 9 = a by omega, show (a * 9 + b) % 9 = b by omega]
              | some x => exact absurd h85 (fun q => by
                rw [hlv, e] at q
                have hx := fnd_lt e
                have q2 := congrArg Int32.toInt (show nI (10 * (x / 9 + 1) + (x % 9 + 1)) = -1 from q)
                rw [nI_toInt (by omega)] at q2
                have : (-1 : Int32).toInt = -1 := by decide
                omega))
            rw [c1] at kk
            exact jx_ls (by exact ⟨rfl, rfl, rfl, rfl, rfl, rfl, rfl, rfl, rfl, trivial⟩) kk
    refine jx_iload dX10_rents_50 rfl ?_
    refine jx_bipush (v := 9) dX10_rents_52 (by decide) ?_
    refine jx_icmpN_gt (a := (a + 1)) (b := 9) 115 dX10_rents_54 (by decide) (by omega) (by omega) (fun h54 => ?_) (fun h54 => ?_)
    · refine jx_iload_n dX10_rents_115 rfl ?_
      refine jx_ifN_ne (a := k) 124 dX10_rents_116 (by decide) (by omega) (fun h116 => ?_) (fun h116 => ?_)
      · refine jx_iload dX10_rents_124 rfl ?_
        refine jx_iret dX10_rents_126 rfl ?_
        have ha9 : a = 9 := by omega
        subst ha9
        refine ⟨_, rfl, ?_, J, M, rfl, e1, e2, hC, hRh⟩
        unfold rntV
        first | rw [if_pos h116] | (rw [if_neg h116, hlv])
      · refine jx_iload dX10_rents_119 rfl ?_
        refine jx_goto 126 dX10_rents_121 (by decide) ?_
        refine jx_iret dX10_rents_126 rfl ?_
        have ha9 : a = 9 := by omega
        subst ha9
        refine ⟨_, rfl, ?_, J, M, rfl, e1, e2, hC, hRh⟩
        unfold rntV
        first | rw [if_pos h116] | (rw [if_neg h116, hlv])
    · refine jx_iconst (v := 1) dX10_rents_57 (by decide) ?_
      refine jx_istore dX10_rents_58 (by decide) ?_
      exact jx_ls (by exact ⟨rfl, rfl, rfl, rfl, rfl, rfl, rfl, rfl, rfl, trivial⟩) (keyb (by omega) 0 (by omega) lv hlv)
  refine jx_aload_n dX10_rents_0 rfl ?_
  refine jx_iload_n dX10_rents_1 rfl ?_
  refine jx_Vv (as := [.int _]) dX10_rents_2 mlX10_170 okX10_needDay viX10_needDay rfl rfl rfl rfl rfl (by decide) (Nat.le_of_ble_eq_true rfl) (tX10_needDay hW hR (by omega)) ?_
  refine jx_aload_n dX10_rents_5 rfl ?_
  refine jx_iload_n dX10_rents_6 rfl ?_
  refine jx_Vv (as := [.int _]) dX10_rents_7 mlX10_181 okX10_needTick viX10_needTick rfl rfl rfl rfl rfl (by decide) (Nat.le_of_ble_eq_true rfl) (tX10_needTick hW hR ht) ?_
  refine jx_iload_n dX10_rents_10 rfl ?_
  refine jx_ifN_eq (a := k) 30 dX10_rents_11 (by decide) (by omega) (fun h11 => ?_) (fun h11 => ?_)
  · refine jx_aload_n dX10_rents_30 rfl ?_
    refine jx_getR dX10_rents_31 flX10_44 rfl rfl (hR _ _ _ rfl) ?_
    refine jx_iload_n dX10_rents_34 rfl ?_
    refine jx_iload_n dX10_rents_35 rfl ?_
    refine jx_VRr (as := [.int _, .int _]) dX10_rents_36 mlX10_356 okX0_takersOn viX0_takersOn rfl rfl rfl rfl rfl (by decide) (Nat.le_of_ble_eq_true rfl) (tX0_takersOn hW hR hX0.1 hd ht) (fun t36 hq36 => ?_)
    obtain ⟨J, M, rfl, e1, e2, hC, hv⟩ := hq36
    refine jx_astore dX10_rents_39 (by decide) ?_
    refine jx_iconst (v := 0) dX10_rents_41 (by decide) ?_
    refine jx_istore dX10_rents_42 (by decide) ?_
    refine jx_iconst (v := -1) dX10_rents_44 (by decide) ?_
    refine jx_istore dX10_rents_45 (by decide) ?_
    refine jx_iconst (v := 1) dX10_rents_47 (by decide) ?_
    refine jx_istore dX10_rents_48 (by decide) ?_
    exact jx_ls (by exact ⟨rfl, rfl, rfl, rfl, rfl, rfl, rfl, rfl, trivial⟩) (key J M e1 e2 hC hv 0 (by omega) (-1) rfl)
  · refine jx_iload_n dX10_rents_14 rfl ?_
    refine jx_iconst (v := 1) dX10_rents_15 (by decide) ?_
    refine jx_icmpN_eq (a := k) (b := 1) 30 dX10_rents_16 (by decide) (by omega) (by omega) (fun h16 => ?_) (fun h16 => ?_)
    · refine jx_aload_n dX10_rents_30 rfl ?_
      refine jx_getR dX10_rents_31 flX10_44 rfl rfl (hR _ _ _ rfl) ?_
      refine jx_iload_n dX10_rents_34 rfl ?_
      refine jx_iload_n dX10_rents_35 rfl ?_
      refine jx_VRr (as := [.int _, .int _]) dX10_rents_36 mlX10_356 okX0_takersOn viX0_takersOn rfl rfl rfl rfl rfl (by decide) (Nat.le_of_ble_eq_true rfl) (tX0_takersOn hW hR hX0.1 hd ht) (fun t36 hq36 => ?_)
      obtain ⟨J, M, rfl, e1, e2, hC, hv⟩ := hq36
      refine jx_astore dX10_rents_39 (by decide) ?_
      refine jx_iconst (v := 0) dX10_rents_41 (by decide) ?_
      refine jx_istore dX10_rents_42 (by decide) ?_
      refine jx_iconst (v := -1) dX10_rents_44 (by decide) ?_
      refine jx_istore dX10_rents_45 (by decide) ?_
      refine jx_iconst (v := 1) dX10_rents_47 (by decide) ?_
      refine jx_istore dX10_rents_48 (by decide) ?_
      exact jx_ls (by exact ⟨rfl, rfl, rfl, rfl, rfl, rfl, rfl, rfl, trivial⟩) (key J M e1 e2 hC hv 0 (by omega) (-1) rfl)
    · exact absurd h16 (by omega)
set_option maxHeartbeats 1000000 in
set_option maxRecDepth 20000 in
theorem tX10_rentsF (hW : jWok w l) (hR : RS R) {h : Nat} {T : Nat → Nat → Int32} {W H np len : Nat} (hX : CX I L R h T W H np len) (day tick k : Int32) (hbad : ¬ (dayQ day = true ∧ tickQ tick = true ∧ 0 ≤ k.toInt ∧ k.toInt ≤ 1)) : jTh w l mX10_rents 3 [.ref 1000, .int day, .int tick, .int k] n I L R eN := by
  refine jTh_of hW (by decide) rfl (Nat.le_of_ble_eq_true rfl) ?_
  by_cases q0 : dayQ day = true
  · obtain ⟨day', rfl, hv0⟩ := dayQ_n q0
    by_cases q1 : tickQ tick = true
    · obtain ⟨tick', rfl, hv1⟩ := tickQ_n q1
      refine jx_aload_n dX10_rents_0 rfl ?_
      refine jx_iload_n dX10_rents_1 rfl ?_
      refine jx_Vv (as := [.int _]) dX10_rents_2 mlX10_170 okX10_needDay viX10_needDay rfl rfl rfl rfl rfl (by decide) (Nat.le_of_ble_eq_true rfl) (tX10_needDay hW hR hv0) ?_
      refine jx_aload_n dX10_rents_5 rfl ?_
      refine jx_iload_n dX10_rents_6 rfl ?_
      refine jx_Vv (as := [.int _]) dX10_rents_7 mlX10_181 okX10_needTick viX10_needTick rfl rfl rfl rfl rfl (by decide) (Nat.le_of_ble_eq_true rfl) (tX10_needTick hW hR hv1) ?_
      refine jx_iload_n dX10_rents_10 rfl ?_
      refine jx_if_eq 30 dX10_rents_11 (by decide) (fun h11 => ?_) (fun h11 => ?_)
      · exact absurd ⟨q0, q1, by rw [h11]; decide⟩ hbad
      · refine jx_iload_n dX10_rents_14 rfl ?_
        refine jx_iconst (v := 1) dX10_rents_15 (by decide) ?_
        refine jx_icmp_eq 30 dX10_rents_16 (by decide) (fun h16 => ?_) (fun h16 => ?_)
        · exact absurd ⟨q0, q1, by rw [h16]; decide⟩ hbad
        · exact jx_thN (is := 354) (len := 3) 41 rfl rfl rfl rfl rfl (Nat.le_of_ble_eq_true rfl) dX10_rents_19 dX10_rents_22 (Or.inr ⟨dX10_rents_23, rfl⟩) dX10_rents_26 dX10_rents_29 (by decide) (by decide) (fun n1 hn1 => ⟨rfl, n1, hn1, rfl⟩)
    · refine jx_aload_n dX10_rents_0 rfl ?_
      refine jx_iload_n dX10_rents_1 rfl ?_
      refine jx_Vv (as := [.int _]) dX10_rents_2 mlX10_170 okX10_needDay viX10_needDay rfl rfl rfl rfl rfl (by decide) (Nat.le_of_ble_eq_true rfl) (tX10_needDay hW hR hv0) ?_
      refine jx_aload_n dX10_rents_5 rfl ?_
      refine jx_iload_n dX10_rents_6 rfl ?_
      exact jx_VT (as := [.int _]) dX10_rents_7 mlX10_181 okX10_needTick viX10_needTick rfl rfl rfl rfl rfl (by decide) (Nat.le_of_ble_eq_true rfl) (by decide) (by decide) (tX10_needTickF hW hR (fun z => q1 (decide_eq_true ⟨z.1, by omega⟩))) (fun E t h => h)
  · refine jx_aload_n dX10_rents_0 rfl ?_
    refine jx_iload_n dX10_rents_1 rfl ?_
    exact jx_VT (as := [.int _]) dX10_rents_2 mlX10_170 okX10_needDay viX10_needDay rfl rfl rfl rfl rfl (by decide) (Nat.le_of_ble_eq_true rfl) (by decide) (by decide) (tX10_needDayF hW hR (fun z => q0 (decide_eq_true ⟨z.1, by omega⟩))) (fun E t h => h)
end CQ1
