/-! THE CLASS: the queue -/
theorem bst_l {T : Nat → Nat → Int32} {W H len d left dd p bu : Nat} (hp : p < 6) (hb : bu < 64) (he : pc6 bu ≤ cN (T 1072 8)) : bstQ T W H len d left dd p bu < 64 ∧ pc6 (bstQ T W H len d left dd p bu) ≤ cN (T 1072 8) := by
  unfold bstQ
  split
  · rename_i h
    refine ⟨(or6n bu hb p hp).2, ?_⟩
    have hq := h.2
    unfold qOk at hq
    simp only [Bool.and_eq_true, Bool.not_eq_true', decide_eq_false_iff_not] at hq
    have hne := hq.1.2
    cases e : bu.testBit p
    · rw [pc_or bu hb p hp e]; omega
    · have : ∀ m, m < 64 → ∀ x, x < 6 → m.testBit x = true → m ||| (1 <<< x) = m := by decide +kernel
      rw [this bu hb p hp e]; exact he
  · exact ⟨hb, he⟩
theorem bIn_l {T : Nat → Nat → Int32} {W H len d left dd bu : Nat} (hb : bu < 64) (he : pc6 bu ≤ cN (T 1072 8)) : ∀ k, k ≤ 6 → bInQ T W H len d left dd bu k < 64 ∧ pc6 (bInQ T W H len d left dd bu k) ≤ cN (T 1072 8)
  | 0, _ => ⟨hb, he⟩
  | k + 1, hk => by
    have ih := bIn_l (T := T) (W := W) (H := H) (len := len) (d := d) (left := left) (dd := dd) hb he k (by omega)
    exact bst_l (by omega) ih.1 ih.2
theorem bOut_l {T : Nat → Nat → Int32} {W H np len d left : Nat} (hn : np ≤ 6) : ∀ dd, bOutQ T W H np len d left dd < 64 ∧ pc6 (bOutQ T W H np len d left dd) ≤ cN (T 1072 8)
  | 0 => ⟨by show 0 < 64; decide, by show pc6 0 ≤ _; rw [show pc6 0 = 0 from by decide]; exact Nat.zero_le _⟩
  | dd + 1 => bIn_l (bOut_l hn dd).1 (bOut_l hn dd).2 np hn
theorem nl_and : ∀ m, m < 64 → ∀ b, b < 64 → (nI m &&& (nI b ^^^ (-1))) = nI (m &&& (63 - b)) ∧ (m &&& (63 - b)) < 64 := by decide +kernel
theorem nl_bit : ∀ m, m < 64 → ∀ b, b < 64 → ∀ c, c < 6 → (m &&& (63 - b)).testBit c = (m.testBit c && !b.testBit c) := by decide +kernel
theorem ini_l : ∀ k, k ≤ 6 → ((1 : Int32) <<< (nI k &&& 31)) - 1 = nI (2 ^ k - 1) ∧ 2 ^ k - 1 < 64 := by decide
theorem ini_b : ∀ k, k ≤ 6 → ∀ c, c < k → (2 ^ k - 1).testBit c = true := by decide
section CW1
variable {w : jWD} {l : Launch} {n : Nat} {I : Nat → Nat → Int32} {L : Nat → Nat → Int64} {R : Nat → Nat → Option Nat}

set_option maxHeartbeats 1000000 in
set_option maxRecDepth 20000 in
theorem tX4_buriedOn (hW : jWok w l) (hR : RS R) {h : Nat} {T : Nat → Nat → Int32} {W H np len : Nat} (hC : CF I L R h T W H np len) {day left : Nat} (hd : day ≤ 40) (hlf : left < 64) : jRi w l mX4_buriedOn 7 [.ref 1046, .int (nI day), .int (nI left)] (n, shE, I, L, R) (fun r t => r = nI (bOutQ T W H np len day left (if day < 20 then day + 1 else 21)) ∧ ∃ J M, t = (n, shE, J, M, R) ∧ eqC I J ∧ eqCL L M ∧ CF J M R h T W H np len) := by
  refine jRi_of hW (by decide) rfl (Nat.le_of_ble_eq_true rfl) ?_
  have hC0 := hC
  obtain ⟨⟨hh, hRi⟩, -, hRI, -, -, -⟩ := hC
  have hn6 := hRI.2.2.2.2.1.2
  have heb := hRI.2.2.2.1.2.1
  have heb2 := heb.2.2
  have hol := fun dd => bOut_l (T := T) (W := W) (H := H) (np := np) (len := len) (d := day) (left := left) hn6 dd
  have key : ∀ dd, dd ≤ (if day < 20 then day + 1 else 21) → ∀ (J : Nat → Nat → Int32) (M : Nat → Nat → Int64), eqC I J → eqCL L M → CF J M R h T W H np len → jWP w l mX4_buriedOn 7 0 0 (fun v t => ∃ r, v = some (.int r) ∧ (r = nI (bOutQ T W H np len day left (if day < 20 then day + 1 else 21)) ∧ ∃ J M, t = (n, shE, J, M, R) ∧ eqC I J ∧ eqCL L M ∧ CF J M R h T W H np len)) (fun _ _ => False) 14 [(0, .ref 1046), (1, .int (nI day)), (2, .int (nI left)), (3, .ref h), (4, .int (nI (bOutQ T W H np len day left dd))), (5, .int (nI dd))] [] (n, shE, J, M, R) := by
    refine jdown _ (fun dd hdd ih => ?_)
    intro J0 M0 e10 e20 hC0'
    have hE20 : (if day < 20 then day + 1 else 21) ≤ 21 ∧ ((if day < 20 then day + 1 else 21) ≤ day + 1) := by split <;> omega
    have keyk : dd < (if day < 20 then day + 1 else 21) → ∀ k, k ≤ np → ∀ (J : Nat → Nat → Int32) (M : Nat → Nat → Int64), eqC I J → eqCL L M → CF J M R h T W H np len → jWP w l mX4_buriedOn 7 0 0 (fun v t => ∃ r, v = some (.int r) ∧ (r = nI (bOutQ T W H np len day left (if day < 20 then day + 1 else 21)) ∧ ∃ J M, t = (n, shE, J, M, R) ∧ eqC I J ∧ eqCL L M ∧ CF J M R h T W H np len)) (fun _ _ => False) 30 [(0, .ref 1046), (1, .int (nI day)), (2, .int (nI left)), (3, .ref h), (4, .int (nI (bInQ T W H len day left dd (bOutQ T W H np len day left dd) k))), (5, .int (nI dd)), (6, .int (nI k))] [] (n, shE, J, M, R) := by
      intro hdE
      refine jdown _ (fun k hk ihk => ?_)
      intro J M e1 e2 hC
      have hbl := bIn_l (T := T) (W := W) (H := H) (len := len) (d := day) (left := left) (dd := dd) (hol dd).1 (hol dd).2 k (by omega)
      rcases hh with rfl | rfl
      all_goals
      refine jx_iload dX4_buriedOn_30 rfl ?_
      refine jx_aload_n dX4_buriedOn_32 rfl ?_
      refine jx_getIE dX4_buriedOn_33 flX4_36 rfl rfl (hC.2.1.2.2.1.1) ?_
      refine jx_icmpN_ge (a := k) (b := np) 119 dX4_buriedOn_36 (by decide) (by omega) (by omega) (fun h36 => ?_) (fun h36 => ?_)
      · refine jx_iinc dX4_buriedOn_119 rfl (v := nI (dd + 1)) (nI_1 _) (by decide) ?_
        refine jx_goto 14 dX4_buriedOn_122 (by decide) ?_
        have hkn : k = np := by omega
        subst hkn
        exact jx_ls (by exact ⟨rfl, rfl, rfl, rfl, rfl, rfl, trivial⟩) (ih hdE J M e1 e2 hC)
      · have h36 : k < np := by omega
        have hp6 : k < 6 := by omega
        have hpp := hRI.2.2.2.2.2.1 k h36
        have hdk := hpp.2.2.2.2.1
        have hfk := hpp.2.2.2.2.2
        have hdk2 := hdk.2
        have hfk2 := hfk.2
        have hal := an_l _ hfk2 _ hbl.1
        have hpl := pc6_le (bInQ T W H len day left dd (bOutQ T W H np len day left dd) k)
        refine jx_aload_n dX4_buriedOn_39 rfl ?_
        refine jx_getR dX4_buriedOn_40 flX4_42 rfl rfl (hR _ _ _ rfl) ?_
        refine jx_iload dX4_buriedOn_43 rfl ?_
        refine jx_aald5N (k) dX4_buriedOn_45 rfl (rfl) (by omega) (by decide) (hR _ _ _ (by first | exact rtPa _ hp6 | exact rtPb _ hp6)) ?_
        refine jx_astore dX4_buriedOn_46 (by decide) ?_
        refine jx_aload dX4_buriedOn_48 rfl ?_
        refine jx_getIE dX4_buriedOn_50 flX4_46 (by first | exact shPa _ hp6 | exact shPb _ hp6) rfl ((hC.2.1.2.2.1.2 k 4 h36 (by decide)).trans hdk.1) ?_
        refine jx_iload dX4_buriedOn_53 rfl ?_
        refine jx_icmpN_ne (a := (cN (T 1080 k))) (b := dd) 113 dX4_buriedOn_55 (by decide) (by omega) (by omega) (fun h55 => ?_) (fun h55 => ?_)
        · refine jx_iinc dX4_buriedOn_113 rfl (v := nI (k + 1)) (nI_1 _) (by decide) ?_
          refine jx_goto 30 dX4_buriedOn_116 (by decide) ?_
          have kk := ihk (by omega) J M e1 e2 hC
          rw [show bInQ T W H len day left dd (bOutQ T W H np len day left dd) (k + 1) = bInQ T W H len day left dd (bOutQ T W H np len day left dd) k from by
            show bstQ T W H len day left dd k (bInQ T W H len day left dd (bOutQ T W H np len day left dd) k) = _
            unfold bstQ qOk cnD sn0
            rw [if_neg (fun q => by
                obtain ⟨⟨q1, q2⟩, q3⟩ := q
                first
                  | exact absurd q1 h55
                  | exact absurd (q2.symm.trans h64) (by decide)
                  | (simp only [Bool.and_eq_true, decide_eq_true_eq, Bool.not_eq_true', decide_eq_false_iff_not] at q3; first | exact absurd q3.2 h75 | omega | exact absurd (hm1.mp h101) q3.1.1.2))]] at kk
          exact jx_ls (by exact ⟨rfl, rfl, rfl, rfl, rfl, rfl, rfl, trivial⟩) kk
        · refine jx_iload_n dX4_buriedOn_58 rfl ?_
          refine jx_iload dX4_buriedOn_59 rfl ?_
          refine jx_ishr dX4_buriedOn_61 ?_
          refine jx_iconst (v := 1) dX4_buriedOn_62 (by decide) ?_
          refine jx_iandE (z := jb (left.testBit k)) dX4_buriedOn_63 (lf_all left hlf k (by omega)) ?_
          refine jx_ifB_eq 113 dX4_buriedOn_64 (by decide) (fun h64 => ?_) (fun h64 => ?_)
          · refine jx_iinc dX4_buriedOn_113 rfl (v := nI (k + 1)) (nI_1 _) (by decide) ?_
            refine jx_goto 30 dX4_buriedOn_116 (by decide) ?_
            have kk := ihk (by omega) J M e1 e2 hC
            rw [show bInQ T W H len day left dd (bOutQ T W H np len day left dd) (k + 1) = bInQ T W H len day left dd (bOutQ T W H np len day left dd) k from by
              show bstQ T W H len day left dd k (bInQ T W H len day left dd (bOutQ T W H np len day left dd) k) = _
              unfold bstQ qOk cnD sn0
              rw [if_neg (fun q => by
                  obtain ⟨⟨q1, q2⟩, q3⟩ := q
                  first
                    | exact absurd q1 h55
                    | exact absurd (q2.symm.trans h64) (by decide)
                    | (simp only [Bool.and_eq_true, decide_eq_true_eq, Bool.not_eq_true', decide_eq_false_iff_not] at q3; first | exact absurd q3.2 h75 | omega | exact absurd (hm1.mp h101) q3.1.1.2))]] at kk
            exact jx_ls (by exact ⟨rfl, rfl, rfl, rfl, rfl, rfl, rfl, trivial⟩) kk
          · refine jx_aload dX4_buriedOn_67 rfl ?_
            refine jx_getIE dX4_buriedOn_69 flX4_81 (by first | exact shPa _ hp6 | exact shPb _ hp6) rfl ((hC.2.1.2.2.1.2 k 5 h36 (by decide)).trans hfk.1) ?_
            refine jx_iload dX4_buriedOn_72 rfl ?_
            refine jx_iandE (z := nI (cN (T 1081 k) &&& (bInQ T W H len day left dd (bOutQ T W H np len day left dd) k))) dX4_buriedOn_74 (and64 _ hfk2 _ hbl.1) ?_
            refine jx_ifN_ne (a := (cN (T 1081 k) &&& (bInQ T W H len day left dd (bOutQ T W H np len day left dd) k))) 113 dX4_buriedOn_75 (by decide) (by omega) (fun h75 => ?_) (fun h75 => ?_)
            · refine jx_iinc dX4_buriedOn_113 rfl (v := nI (k + 1)) (nI_1 _) (by decide) ?_
              refine jx_goto 30 dX4_buriedOn_116 (by decide) ?_
              have kk := ihk (by omega) J M e1 e2 hC
              rw [show bInQ T W H len day left dd (bOutQ T W H np len day left dd) (k + 1) = bInQ T W H len day left dd (bOutQ T W H np len day left dd) k from by
                show bstQ T W H len day left dd k (bInQ T W H len day left dd (bOutQ T W H np len day left dd) k) = _
                unfold bstQ qOk cnD sn0
                rw [if_neg (fun q => by
                    obtain ⟨⟨q1, q2⟩, q3⟩ := q
                    first
                      | exact absurd q1 h55
                      | exact absurd (q2.symm.trans h64) (by decide)
                      | (simp only [Bool.and_eq_true, decide_eq_true_eq, Bool.not_eq_true', decide_eq_false_iff_not] at q3; first | exact absurd q3.2 h75 | omega | exact absurd (hm1.mp h101) q3.1.1.2))]] at kk
              exact jx_ls (by exact ⟨rfl, rfl, rfl, rfl, rfl, rfl, rfl, trivial⟩) kk
            · refine jx_iload dX4_buriedOn_78 rfl ?_
              refine jx_Si (as := [.int _]) dX4_buriedOn_80 mlX4_72 okJ6_bitCount_0f7a4 stJ6_bitCount_0f7a4 rfl rfl (by decide) (Nat.le_of_ble_eq_true rfl) (tJ6_bitCount hW hbl.1 _) ?_
              refine jx_aload_n dX4_buriedOn_83 rfl ?_
              refine jx_getIE dX4_buriedOn_84 flX4_78 rfl rfl (hC.2.1.2.2.2.1.2.2.1.trans heb.1) ?_
              refine jx_icmpN_ge (a := (pc6 (bInQ T W H len day left dd (bOutQ T W H np len day left dd) k))) (b := (cN (T 1072 8))) 113 dX4_buriedOn_87 (by decide) (by omega) (by omega) (fun h87 => ?_) (fun h87 => ?_)
              · refine jx_iinc dX4_buriedOn_113 rfl (v := nI (k + 1)) (nI_1 _) (by decide) ?_
                refine jx_goto 30 dX4_buriedOn_116 (by decide) ?_
                have kk := ihk (by omega) J M e1 e2 hC
                rw [show bInQ T W H len day left dd (bOutQ T W H np len day left dd) (k + 1) = bInQ T W H len day left dd (bOutQ T W H np len day left dd) k from by
                  show bstQ T W H len day left dd k (bInQ T W H len day left dd (bOutQ T W H np len day left dd) k) = _
                  unfold bstQ qOk cnD sn0
                  rw [if_neg (fun q => by
                      obtain ⟨⟨q1, q2⟩, q3⟩ := q
                      first
                        | exact absurd q1 h55
                        | exact absurd (q2.symm.trans h64) (by decide)
                        | (simp only [Bool.and_eq_true, decide_eq_true_eq, Bool.not_eq_true', decide_eq_false_iff_not] at q3; first | exact absurd q3.2 h75 | omega | exact absurd (hm1.mp h101) q3.1.1.2))]] at kk
                exact jx_ls (by exact ⟨rfl, rfl, rfl, rfl, rfl, rfl, rfl, trivial⟩) kk
              · refine jx_aload_n dX4_buriedOn_90 rfl ?_
                refine jx_getR dX4_buriedOn_91 flX4_26 rfl rfl (hR _ _ _ rfl) ?_
                refine jx_iload dX4_buriedOn_94 rfl ?_
                refine jx_iload_n dX4_buriedOn_96 rfl ?_
                refine jx_VRi (as := [.int _, .int _]) dX4_buriedOn_97 mlX4_54 okX0_soonest viX0_soonest rfl rfl rfl rfl rfl (by decide) (Nat.le_of_ble_eq_true rfl) (tX0_soonest hW hR hC h36 hd) (fun x97 t97 hq97 => ?_)
                obtain ⟨rfl, J2, M2, rfl, f1, f2, hC2⟩ := hq97
                have ha1 := arr_le T W H len day (T 1072 7) k 0 0
                have hm1 := aI_m (v := arr T W H len day (T 1072 7) k 0 0) (by omega)
                refine jx_iconst (v := -1) dX4_buriedOn_100 (by decide) ?_
                refine jx_icmp_eq 113 dX4_buriedOn_101 (by decide) (fun h101 => ?_) (fun h101 => ?_)
                · skip
                  refine jx_iinc dX4_buriedOn_113 rfl (v := nI (k + 1)) (nI_1 _) (by decide) ?_
                  refine jx_goto 30 dX4_buriedOn_116 (by decide) ?_
                  have kk := ihk (by omega) J2 M2 (eqC_t e1 f1) (eqCL_t e2 f2) hC2
                  rw [show bInQ T W H len day left dd (bOutQ T W H np len day left dd) (k + 1) = bInQ T W H len day left dd (bOutQ T W H np len day left dd) k from by
                    show bstQ T W H len day left dd k (bInQ T W H len day left dd (bOutQ T W H np len day left dd) k) = _
                    unfold bstQ qOk cnD sn0
                    rw [if_neg (fun q => by
                        obtain ⟨⟨q1, q2⟩, q3⟩ := q
                        first
                          | exact absurd q1 h55
                          | exact absurd (q2.symm.trans h64) (by decide)
                          | (simp only [Bool.and_eq_true, decide_eq_true_eq, Bool.not_eq_true', decide_eq_false_iff_not] at q3; first | exact absurd q3.2 h75 | omega | exact absurd (hm1.mp h101) q3.1.1.2))]] at kk
                  exact jx_ls (by exact ⟨rfl, rfl, rfl, rfl, rfl, rfl, rfl, trivial⟩) kk
                · skip
                  refine jx_iload dX4_buriedOn_104 rfl ?_
                  refine jx_iconst (v := 1) dX4_buriedOn_106 (by decide) ?_
                  refine jx_iload dX4_buriedOn_107 rfl ?_
                  refine jx_ishl dX4_buriedOn_109 ?_
                  refine jx_iorE (z := nI ((bInQ T W H len day left dd (bOutQ T W H np len day left dd) k) ||| (1 <<< k))) dX4_buriedOn_110 ((or6n _ hbl.1 k (by omega)).1) ?_
                  refine jx_istore dX4_buriedOn_111 (by decide) ?_
                  refine jx_iinc dX4_buriedOn_113 rfl (v := nI (k + 1)) (nI_1 _) (by decide) ?_
                  refine jx_goto 30 dX4_buriedOn_116 (by decide) ?_
                  have kk := ihk (by omega) J2 M2 (eqC_t e1 f1) (eqCL_t e2 f2) hC2
                  rw [show bInQ T W H len day left dd (bOutQ T W H np len day left dd) (k + 1) = (bInQ T W H len day left dd (bOutQ T W H np len day left dd) k) ||| (1 <<< k) from by
                    show bstQ T W H len day left dd k (bInQ T W H len day left dd (bOutQ T W H np len day left dd) k) = _
                    unfold bstQ qOk cnD sn0
                    rw [if_pos ⟨⟨h55, h64⟩, by rw [decide_eq_true (show cN (T 1080 k) ≤ day by omega), decide_eq_false (fun q => h101 (hm1.mpr q)), decide_eq_false (show ¬ pc6 (bInQ T W H len day left dd (bOutQ T W H np len day left dd) k) = cN (T 1072 8) by omega), decide_eq_true h75]; rfl⟩]] at kk
                  exact jx_ls (by exact ⟨rfl, rfl, rfl, rfl, rfl, rfl, rfl, trivial⟩) kk
    refine jx_iload dX4_buriedOn_14 rfl ?_
    refine jx_iload_n dX4_buriedOn_16 rfl ?_
    refine jx_icmpN_gt (a := dd) (b := day) 125 dX4_buriedOn_17 (by decide) (by omega) (by omega) (fun h17 => ?_) (fun h17 => ?_)
    · refine jx_iload dX4_buriedOn_125 rfl ?_
      refine jx_iret dX4_buriedOn_127 rfl ?_
      have hde : dd = (if day < 20 then day + 1 else 21) := by split <;> split at hdd <;> omega
      rw [← hde]
      exact ⟨_, rfl, rfl, J0, M0, rfl, e10, e20, hC0'⟩
    · refine jx_iload dX4_buriedOn_20 rfl ?_
      refine jx_bipush (v := 20) dX4_buriedOn_22 (by decide) ?_
      refine jx_icmpN_gt (a := dd) (b := 20) 125 dX4_buriedOn_24 (by decide) (by omega) (by omega) (fun h24 => ?_) (fun h24 => ?_)
      · refine jx_iload dX4_buriedOn_125 rfl ?_
        refine jx_iret dX4_buriedOn_127 rfl ?_
        have hde : dd = (if day < 20 then day + 1 else 21) := by split <;> split at hdd <;> omega
        rw [← hde]
        exact ⟨_, rfl, rfl, J0, M0, rfl, e10, e20, hC0'⟩
      · refine jx_iconst (v := 0) dX4_buriedOn_27 (by decide) ?_
        refine jx_istore dX4_buriedOn_28 (by decide) ?_
        exact jx_ls (by exact ⟨rfl, rfl, rfl, rfl, rfl, rfl, rfl, trivial⟩) (keyk (by split <;> omega) 0 (by omega) J0 M0 e10 e20 hC0')
  refine jx_aload_n dX4_buriedOn_0 rfl ?_
  refine jx_getR dX4_buriedOn_1 flX4_26 rfl rfl (hR _ _ _ rfl) ?_
  refine jx_getR dX4_buriedOn_4 flX4_30 rfl rfl hRi ?_
  refine jx_astore_n dX4_buriedOn_7 rfl (by decide) ?_
  refine jx_iconst (v := 0) dX4_buriedOn_8 (by decide) ?_
  refine jx_istore dX4_buriedOn_9 (by decide) ?_
  refine jx_iconst (v := 0) dX4_buriedOn_11 (by decide) ?_
  refine jx_istore dX4_buriedOn_12 (by decide) ?_
  exact jx_ls (by exact ⟨rfl, rfl, rfl, rfl, rfl, rfl, trivial⟩) (key 0 (by omega) I L (eqC_r I) (eqCL_r L) hC0)
set_option maxHeartbeats 1000000 in
set_option maxRecDepth 20000 in
theorem tX4_dayInQueue (hW : jWok w l) (hR : RS R) {h : Nat} {T : Nat → Nat → Int32} {W H np len : Nat} (hC : CF I L R h T W H np len) {p : Nat} (hp : p < np) : jRi w l mX4_dayInQueue 8 [.ref 1046, .int (nI p)] (n, shE, I, L, R) (fun r t => r = oI (fnd (qAt T W H np len p) 41) ∧ ∃ J M, t = (n, shE, J, M, R) ∧ eqC I J ∧ eqCL L M ∧ CF J M R h T W H np len) := by
  refine jRi_of hW (by decide) rfl (Nat.le_of_ble_eq_true rfl) ?_
  have hC0 := hC
  obtain ⟨⟨hh, hRi⟩, hI, hRI, -, -, -⟩ := hC
  have hn6 := hRI.2.2.2.2.1.2
  have hp6 : p < 6 := by omega
  have hdl : ∀ q, q < np → cN (T 1080 q) ≤ 20 := fun q hq => (hRI.2.2.2.2.2.1 q hq).2.2.2.2.1.2
  have key : ∀ day, day ≤ 41 → ∀ (left : Nat) (J : Nat → Nat → Int32) (M : Nat → Nat → Int64), left < 64 → (∀ q, q < np → left.testBit q = !((qDone T W H np len day).testBit q)) → eqC I J → eqCL L M → CF J M R h T W H np len → (∀ j, j < day → qAt T W H np len p j = false) → jWP w l mX4_dayInQueue 8 0 0 (fun v t => ∃ r, v = some (.int r) ∧ (r = oI (fnd (qAt T W H np len p) 41) ∧ ∃ J M, t = (n, shE, J, M, R) ∧ eqC I J ∧ eqCL L M ∧ CF J M R h T W H np len)) (fun _ _ => False) 17 [(0, .ref 1046), (1, .int (nI p)), (2, .int (nI left)), (3, .int (nI day))] [] (n, shE, J, M, R) := by
    refine jdown _ (fun day hday ih => ?_)
    intro left J M hlf hlb e1 e2 hC hj
    have hqd := qDone_lt (I := T) (W := W) (H := H) (np := np) (len := len) hn6 day
    have hqe := q_eq (T := T) (W := W) (H := H) (np := np) (len := len) (d := day) hn6 hdl hqd hlb (E := if day < 20 then day + 1 else 21) rfl
    have hbo := (bOut_l (T := T) (W := W) (H := H) (np := np) (len := len) (d := day) (left := left) hn6 (if day < 20 then day + 1 else 21)).1
    rw [← hqe] at hbo
    refine jx_iload_n dX4_dayInQueue_17 rfl ?_
    refine jx_bipush (v := 41) dX4_dayInQueue_18 (by decide) ?_
    refine jx_icmpN_ge (a := day) (b := 41) 55 dX4_dayInQueue_20 (by decide) (by omega) (by omega) (fun h20 => ?_) (fun h20 => ?_)
    · refine jx_iconst (v := -1) dX4_dayInQueue_55 (by decide) ?_
      refine jx_iret dX4_dayInQueue_56 rfl ?_
      refine ⟨_, rfl, ?_, J, M, rfl, e1, e2, hC⟩
      rw [fnd_none.mpr (fun j hj2 => hj j (by omega))]
      rfl
    · refine jx_aload_n dX4_dayInQueue_23 rfl ?_
      refine jx_iload_n dX4_dayInQueue_24 rfl ?_
      refine jx_iload_n dX4_dayInQueue_25 rfl ?_
      refine jx_VRi (as := [.int _, .int _]) dX4_dayInQueue_26 mlX4_98 okX4_buriedOn viX4_buriedOn rfl rfl rfl rfl rfl (by decide) (Nat.le_of_ble_eq_true rfl) (tX4_buriedOn hW hR hC (by omega) hlf) (fun x26 t26 hq26 => ?_)
      obtain ⟨rfl, J2, M2, rfl, f1, f2, hC2⟩ := hq26
      rw [← hqe]
      refine jx_istore dX4_dayInQueue_29 (by decide) ?_
      refine jx_iload dX4_dayInQueue_31 rfl ?_
      refine jx_iload_n dX4_dayInQueue_33 rfl ?_
      refine jx_ishr dX4_dayInQueue_34 ?_
      refine jx_iconst (v := 1) dX4_dayInQueue_35 (by decide) ?_
      refine jx_iandE (z := jb ((qIn T W H np len day 6 (qDone T W H np len day) 0).testBit p)) dX4_dayInQueue_36 (lf_all _ hbo p hp6) ?_
      refine jx_ifB_eq 42 dX4_dayInQueue_37 (by decide) (fun h37 => ?_) (fun h37 => ?_)
      · refine jx_iload_n dX4_dayInQueue_42 rfl ?_
        refine jx_iload dX4_dayInQueue_43 rfl ?_
        refine jx_iconst (v := -1) dX4_dayInQueue_45 (by decide) ?_
        refine jx_ixorE (z := nI (qIn T W H np len day 6 (qDone T W H np len day) 0) ^^^ (-1)) dX4_dayInQueue_46 (rfl) ?_
        refine jx_iandE (z := nI (left &&& (63 - (qIn T W H np len day 6 (qDone T W H np len day) 0)))) dX4_dayInQueue_47 ((nl_and left hlf _ hbo).1) ?_
        refine jx_istore_n dX4_dayInQueue_48 rfl (by decide) ?_
        refine jx_iinc dX4_dayInQueue_49 rfl (v := nI (day + 1)) (nI_1 _) (by decide) ?_
        refine jx_goto 17 dX4_dayInQueue_52 (by decide) ?_
        exact jx_ls (by exact ⟨rfl, rfl, rfl, rfl, trivial⟩) (ih (by omega) _ J2 M2 (nl_and left hlf _ hbo).2 (fun q hq => by
          rw [nl_bit left hlf _ hbo q (by omega), hlb q hq]
          show _ = !((qDone T W H np len day ||| (qIn T W H np len day 6 (qDone T W H np len day) 0)).testBit q)
          rw [Nat.testBit_or]
          cases (qDone T W H np len day).testBit q <;> rfl) (eqC_t e1 f1) (eqCL_t e2 f2) hC2 (fun j hj2 => by
          by_cases z : j = day
          · rw [z]; exact h37
          · exact hj j (by omega)))
      · refine jx_iload_n dX4_dayInQueue_40 rfl ?_
        refine jx_iret dX4_dayInQueue_41 rfl ?_
        refine ⟨_, rfl, ?_, J2, M2, rfl, eqC_t e1 f1, eqCL_t e2 f2, hC2⟩
        rw [fnd_some.mpr ⟨by omega, show qAt T W H np len p day = true from h37, hj⟩]
        rfl
  rcases hh with rfl | rfl
  all_goals
    refine jx_iconst (v := 1) dX4_dayInQueue_0 (by decide) ?_
    refine jx_aload_n dX4_dayInQueue_1 rfl ?_
    refine jx_getR dX4_dayInQueue_2 flX4_26 rfl rfl (hR _ _ _ rfl) ?_
    refine jx_getR dX4_dayInQueue_5 flX4_30 rfl rfl hRi ?_
    refine jx_getIE dX4_dayInQueue_8 flX4_36 rfl rfl (hI.2.2.1.1) ?_
    refine jx_ishl dX4_dayInQueue_11 ?_
    refine jx_iconst (v := 1) dX4_dayInQueue_12 (by decide) ?_
    refine jx_isubE (z := nI (2 ^ np - 1)) dX4_dayInQueue_13 ((ini_l np hn6).1) ?_
    refine jx_istore_n dX4_dayInQueue_14 rfl (by decide) ?_
    refine jx_iconst (v := 0) dX4_dayInQueue_15 (by decide) ?_
    refine jx_istore_n dX4_dayInQueue_16 rfl (by decide) ?_
    exact jx_ls (by exact ⟨rfl, rfl, rfl, rfl, trivial⟩) (key 0 (by omega) _ I L (ini_l np hn6).2 (fun q hq => by rw [ini_b np hn6 q hq]; show true = !((0 : Nat).testBit q); rw [Nat.zero_testBit]; rfl) (eqC_r I) (eqCL_r L) hC0 (fun j hj => absurd hj (by omega)))
set_option maxHeartbeats 1000000 in
set_option maxRecDepth 20000 in
theorem tX10_queue (hW : jWok w l) (hR : RS R) {h : Nat} {T : Nat → Nat → Int32} {W H np len : Nat} (hX : CX I L R h T W H np len) {p : Nat} (hp : p < np) : jQ w l mX10_queue 9 [.ref 1000, .int (nI p)] n I L R h T W H np len (oI (fnd (qAt T W H np len p) 41)) := by
  refine jRi_of hW (by decide) rfl (Nat.le_of_ble_eq_true rfl) ?_
  have hX0 := hX
  obtain ⟨⟨⟨hh, hRi⟩, hI, hRI, hok, hFL, hSK⟩, hRh⟩ := hX
  have hT := RI.tq hRI
  have hw := hT.1
  have hhh := hT.2.1
  have hwh : W * H ≤ 63 := Nat.mul_le_mul hw.2 hhh.2
  have hn6 := hRI.2.2.2.2.1.2
  refine jx_aload_n dX10_queue_0 rfl ?_
  refine jx_iload_n dX10_queue_1 rfl ?_
  refine jx_Vv (as := [.int _]) dX10_queue_2 mlX10_188 okX10_needParty viX10_needParty rfl rfl rfl rfl rfl (by decide) (Nat.le_of_ble_eq_true rfl) (tX10_needParty hW hR hX0 hp) ?_
  refine jx_aload_n dX10_queue_5 rfl ?_
  refine jx_getR dX10_queue_6 flX10_53 rfl rfl (hR _ _ _ rfl) ?_
  refine jx_iload_n dX10_queue_9 rfl ?_
  refine jx_VRi (as := [.int _]) dX10_queue_10 mlX10_311 okX4_dayInQueue viX4_dayInQueue rfl rfl rfl rfl rfl (by decide) (Nat.le_of_ble_eq_true rfl) (tX4_dayInQueue hW hR hX0.1 hp) (fun x10 t10 hq10 => ?_)
  obtain ⟨rfl, J, M, rfl, e1, e2, hC⟩ := hq10
  refine jx_iret dX10_queue_13 rfl ?_
  exact ⟨_, rfl, rfl, J, M, rfl, e1, e2, hC, hRh⟩
end CW1
