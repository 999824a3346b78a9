/-! THE CLASS: who meets; sinking, undoing -/
section CS1
variable {w : jWD} {l : Launch} {n : Nat} {I : Nat → Nat → Int32} {L : Nat → Nat → Int64} {R : Nat → Nat → Option Nat}

set_option maxHeartbeats 1000000 in
set_option maxRecDepth 20000 in
theorem tX10_bookedF (hW : jWok w l) (hR : RS R) {b : Nat} (hb : I 1051 5 = nI b) (hb2 : b ≤ 12) (i k : Int32) (hbad : ¬ (ltQ i b = true ∧ 0 ≤ k.toInt ∧ k.toInt ≤ 3)) : jTh w l mX10_booked 3 [.ref 1000, .int i, .int k] n I L R eN := by
  refine jTh_of hW (by decide) rfl (Nat.le_of_ble_eq_true rfl) ?_
  by_cases q0 : ltQ i b = true
  · obtain ⟨i', rfl, hv0⟩ := ltQ_n q0
    refine jx_aload_n dX10_booked_0 rfl ?_
    refine jx_iload_n dX10_booked_1 rfl ?_
    refine jx_Vv (as := [.int _]) dX10_booked_2 mlX10_271 okX10_needBooked viX10_needBooked rfl rfl rfl rfl rfl (by decide) (Nat.le_of_ble_eq_true rfl) (tX10_needBooked hW hR hb hb2 hv0) ?_
    refine jx_iload_n dX10_booked_5 rfl ?_
    by_cases hs6_0 : k = 0
    · subst hs6_0
      refine jx_tsIn 36 dX10_booked_6 (by decide) (by decide) rfl (by decide) ?_
      exact absurd ⟨q0, by decide⟩ hbad
    by_cases hs6_1 : k = 1
    · subst hs6_1
      refine jx_tsIn 46 dX10_booked_6 (by decide) (by decide) rfl (by decide) ?_
      exact absurd ⟨q0, by decide⟩ hbad
    by_cases hs6_2 : k = 2
    · subst hs6_2
      refine jx_tsIn 56 dX10_booked_6 (by decide) (by decide) rfl (by decide) ?_
      exact absurd ⟨q0, by decide⟩ hbad
    by_cases hs6_3 : k = 3
    · subst hs6_3
      refine jx_tsIn 66 dX10_booked_6 (by decide) (by decide) rfl (by decide) ?_
      exact absurd ⟨q0, by decide⟩ hbad
    refine jx_tsOut 76 dX10_booked_6 ?_ (by decide) ?_
    · have z0 := lv_neT hs6_0 (a := 0) rfl; have z1 := lv_neT hs6_1 (a := 1) rfl; have z2 := lv_neT hs6_2 (a := 2) rfl; have z3 := lv_neT hs6_3 (a := 3) rfl; omega
    exact jx_thN (is := 274) (len := 3) 35 rfl rfl rfl rfl rfl (Nat.le_of_ble_eq_true rfl) dX10_booked_76 dX10_booked_79 (Or.inr ⟨dX10_booked_80, rfl⟩) dX10_booked_83 dX10_booked_86 (by decide) (by decide) (fun n1 hn1 => ⟨rfl, n1, hn1, rfl⟩)
  · refine jx_aload_n dX10_booked_0 rfl ?_
    refine jx_iload_n dX10_booked_1 rfl ?_
    exact jx_VT (as := [.int _]) dX10_booked_2 mlX10_271 okX10_needBooked viX10_needBooked rfl rfl rfl rfl rfl (by decide) (Nat.le_of_ble_eq_true rfl) (by decide) (by decide) (tX10_needBookedF hW hR hb hb2 (fun z => q0 (decide_eq_true z))) (fun E t h => h)
set_option maxHeartbeats 1000000 in
set_option maxRecDepth 20000 in
theorem tX10_atF (hW : jWok w l) (hR : RS R) {b : Nat} (hb : I 1051 5 = nI b) (hb2 : b ≤ 12) (i tick : Int32) (hbad : ¬ (ltQ i b = true ∧ tickQ tick = true)) : jTh w l mX10_at 3 [.ref 1000, .int i, .int tick] n I L R eN := by
  refine jTh_of hW (by decide) rfl (Nat.le_of_ble_eq_true rfl) ?_
  by_cases q0 : ltQ i b = true
  · obtain ⟨i', rfl, hv0⟩ := ltQ_n q0
    by_cases q1 : tickQ tick = true
    · obtain ⟨tick', rfl, hv1⟩ := tickQ_n q1
      exact absurd ⟨q0, q1⟩ hbad
    · refine jx_aload_n dX10_at_0 rfl ?_
      refine jx_iload_n dX10_at_1 rfl ?_
      refine jx_Vv (as := [.int _]) dX10_at_2 mlX10_271 okX10_needBooked viX10_needBooked rfl rfl rfl rfl rfl (by decide) (Nat.le_of_ble_eq_true rfl) (tX10_needBooked hW hR hb hb2 hv0) ?_
      refine jx_aload_n dX10_at_5 rfl ?_
      refine jx_iload_n dX10_at_6 rfl ?_
      exact jx_VT (as := [.int _]) dX10_at_7 mlX10_181 okX10_needTick viX10_needTick rfl rfl rfl rfl rfl (by decide) (Nat.le_of_ble_eq_true rfl) (by decide) (by decide) (tX10_needTickF hW hR (fun z => q1 (decide_eq_true ⟨z.1, by omega⟩))) (fun E t h => h)
  · refine jx_aload_n dX10_at_0 rfl ?_
    refine jx_iload_n dX10_at_1 rfl ?_
    exact jx_VT (as := [.int _]) dX10_at_2 mlX10_271 okX10_needBooked viX10_needBooked rfl rfl rfl rfl rfl (by decide) (Nat.le_of_ble_eq_true rfl) (by decide) (by decide) (tX10_needBookedF hW hR hb hb2 (fun z => q0 (decide_eq_true z))) (fun E t h => h)
set_option maxHeartbeats 1000000 in
set_option maxRecDepth 20000 in
theorem tX10_metF (hW : jWok w l) (hR : RS R) {b : Nat} (hb : I 1051 5 = nI b) (hb2 : b ≤ 12) (i v : Int32) (hbad : ¬ (ltQ i b = true ∧ ltQ v b = true)) : jTh w l mX10_met 3 [.ref 1000, .int i, .int v] n I L R eN := by
  refine jTh_of hW (by decide) rfl (Nat.le_of_ble_eq_true rfl) ?_
  by_cases q0 : ltQ i b = true
  · obtain ⟨i', rfl, hv0⟩ := ltQ_n q0
    by_cases q1 : ltQ v b = true
    · obtain ⟨v', rfl, hv1⟩ := ltQ_n q1
      exact absurd ⟨q0, q1⟩ hbad
    · refine jx_aload_n dX10_met_0 rfl ?_
      refine jx_iload_n dX10_met_1 rfl ?_
      refine jx_Vv (as := [.int _]) dX10_met_2 mlX10_271 okX10_needBooked viX10_needBooked rfl rfl rfl rfl rfl (by decide) (Nat.le_of_ble_eq_true rfl) (tX10_needBooked hW hR hb hb2 hv0) ?_
      refine jx_aload_n dX10_met_5 rfl ?_
      refine jx_iload_n dX10_met_6 rfl ?_
      exact jx_VT (as := [.int _]) dX10_met_7 mlX10_271 okX10_needBooked viX10_needBooked rfl rfl rfl rfl rfl (by decide) (Nat.le_of_ble_eq_true rfl) (by decide) (by decide) (tX10_needBookedF hW hR hb hb2 (fun z => q1 (decide_eq_true z))) (fun E t h => h)
  · refine jx_aload_n dX10_met_0 rfl ?_
    refine jx_iload_n dX10_met_1 rfl ?_
    exact jx_VT (as := [.int _]) dX10_met_2 mlX10_271 okX10_needBooked viX10_needBooked rfl rfl rfl rfl rfl (by decide) (Nat.le_of_ble_eq_true rfl) (by decide) (by decide) (tX10_needBookedF hW hR hb hb2 (fun z => q0 (decide_eq_true z))) (fun E t h => h)
set_option maxHeartbeats 1000000 in
set_option maxRecDepth 20000 in
theorem tX10_metF2 (hW : jWok w l) (hR : RS R) {b : Nat} (hb : I 1051 5 = nI b) (hb2 : b ≤ 12) {i : Nat} (hi : i < b) : jTh w l mX10_met 3 [.ref 1000, .int (nI i), .int (nI i)] n I L R eI := by
  refine jTh_of hW (by decide) rfl (Nat.le_of_ble_eq_true rfl) ?_
  refine jx_aload_n dX10_met_0 rfl ?_
  refine jx_iload_n dX10_met_1 rfl ?_
  refine jx_Vv (as := [.int _]) dX10_met_2 mlX10_271 okX10_needBooked viX10_needBooked rfl rfl rfl rfl rfl (by decide) (Nat.le_of_ble_eq_true rfl) (tX10_needBooked hW hR hb hb2 hi) ?_
  refine jx_aload_n dX10_met_5 rfl ?_
  refine jx_iload_n dX10_met_6 rfl ?_
  refine jx_Vv (as := [.int _]) dX10_met_7 mlX10_271 okX10_needBooked viX10_needBooked rfl rfl rfl rfl rfl (by decide) (Nat.le_of_ble_eq_true rfl) (tX10_needBooked hW hR hb hb2 hi) ?_
  refine jx_iload_n dX10_met_10 rfl ?_
  refine jx_iload_n dX10_met_11 rfl ?_
  refine jx_icmpN_ne (a := i) (b := i) 26 dX10_met_12 (by decide) (by omega) (by omega) (fun h12 => ?_) (fun h12 => ?_)
  · exact absurd rfl h12
  · exact jx_thI (is := 279) (len := 3) 36 rfl rfl rfl rfl rfl (Nat.le_of_ble_eq_true rfl) dX10_met_15 dX10_met_18 (Or.inr ⟨dX10_met_19, rfl⟩) dX10_met_22 dX10_met_25 (by decide) (by decide) (fun n1 hn1 => ⟨rfl, n1, hn1, rfl⟩)
set_option maxHeartbeats 1000000 in
set_option maxRecDepth 20000 in
theorem tX10_met (hW : jWok w l) (hR : RS R) {h : Nat} {T : Nat → Nat → Int32} {W H np len : Nat} (hX : CX I L R h T W H np len) {b : Nat} (hB : LBk I T W H np b) {i v : Nat} (hi : i < b) (hv : v < b) (hne : i ≠ v) : jCD w l mX10_met 3 [.ref 1000, .int (nI i), .int (nI v)] (n, shE, I, L, R) (some (.int (oI (mt T W i v 0)))) (n, shE, I, L, R) := by
  refine jCD_of hW (by decide) rfl (Nat.le_of_ble_eq_true rfl) ?_
  have hB0 := hB
  obtain ⟨⟨⟨hh, hRi⟩, hI, hRI, -, -, -⟩, hRh⟩ := hX
  have hT := RI.tq hRI
  have hw := hT.1
  have hhh := hT.2.1
  have hwh : W * H ≤ 63 := Nat.mul_le_mul hw.2 hhh.2
  obtain ⟨hbc, hRK, hbi⟩ := hB
  have hb12 := hRK.2.1
  have hbk := hRK.2.2
  obtain ⟨-, ci2, -, -, -⟩ := hbi i hi
  obtain ⟨-, cv2, -, -, -⟩ := hbi v hv
  have di := (hbk i hi).2.1
  have dv := (hbk v hv).2.1
  have hdi := di.2
  have hdv := dv.2
  have hpl : ∀ k, k < b → ∀ t c, pl T k t = some c → c < W * H := fun k hk t c h => pl_lt hRK hk h
  have key : cN (T 1095 i) = cN (T 1095 v) → ∀ t, t ≤ 96 → (∀ j, j < t → mtT T W i v 0 j = false) → jWP w l mX10_met 3 0 0 (fun r t_1 => r = some (.int (oI (mt T W i v 0))) ∧ t_1 = (n, shE, I, L, R)) (fun _ _ => False) 74 [(0, .ref 1000), (1, .int (nI i)), (2, .int (nI v)), (3, .long (bs (fun c => decide (c < W * H ∧ c % W = 0) || decide (c < W * H ∧ c % W = W - 1)))), (5, .int (nI t))] [] (n, shE, I, L, R) := by
    intro hday
    refine jdown _ (fun t ht ih hj => ?_)
    have hfin : ∀ o, fnd (mtT T W i v 0) 96 = o → mt T W i v 0 = o := fun o ho => by unfold mt; rw [if_pos hday]; exact ho
    have nx : t < 96 → mtT T W i v 0 t = false → jWP w l mX10_met 3 0 0 (fun r t_1 => r = some (.int (oI (mt T W i v 0))) ∧ t_1 = (n, shE, I, L, R)) (fun _ _ => False) 74 [(0, .ref 1000), (1, .int (nI i)), (2, .int (nI v)), (3, .long (bs (fun c => decide (c < W * H ∧ c % W = 0) || decide (c < W * H ∧ c % W = W - 1)))), (5, .int (nI (t + 1)))] [] (n, shE, I, L, R) := fun h1 h2 => ih h1 (fun j hj2 => by
      by_cases z : j = t
      · rw [z]; exact h2
      · exact hj j (by omega))
    refine jx_iload dX10_met_74 rfl ?_
    refine jx_bipush (v := 96) dX10_met_76 (by decide) ?_
    refine jx_icmpN_ge (a := t) (b := 96) 132 dX10_met_78 (by decide) (by omega) (by omega) (fun h78 => ?_) (fun h78 => ?_)
    · refine jx_iconst (v := -1) dX10_met_132 (by decide) ?_
      refine jx_iret dX10_met_133 rfl ?_
      refine ⟨?_, rfl⟩
      rw [hfin none (fnd_none.mpr (fun j hj2 => hj j (by omega)))]
      rfl
    · have h78 : t < 96 := by omega
      refine jx_aload_n dX10_met_81 rfl ?_
      refine jx_getR dX10_met_82 flX10_60 rfl rfl (hR _ _ _ rfl) ?_
      refine jx_iload_n dX10_met_85 rfl ?_
      refine jx_iload dX10_met_86 rfl ?_
      refine jx_Vi (as := [.int _, .int _]) dX10_met_88 mlX10_276 okX2_placeOf viX2_placeOf rfl rfl rfl rfl rfl (by decide) (Nat.le_of_ble_eq_true rfl) (tX2_placeOf hW hR hB0 hi h78) ?_
      refine jx_istore dX10_met_91 (by decide) ?_
      cases hpi : pl T i t with
      | none =>
        refine jx_iload dX10_met_93 rfl ?_
        refine jx_iconst (v := -1) dX10_met_95 (by decide) ?_
        refine jx_icmp_eq 126 dX10_met_96 (by decide) (fun h96 => ?_) (fun h96 => ?_)
        · refine jx_iinc dX10_met_126 rfl (v := nI (t + 1)) (nI_1 _) (by decide) ?_
          refine jx_goto 74 dX10_met_129 (by decide) ?_
          exact jx_ls (by exact ⟨rfl, rfl, rfl, rfl, rfl, trivial⟩) (nx h78 (by unfold mtT; rw [hpi]))
        · exact absurd rfl h96
      | some c =>
        have hcl := hpl i hi t c hpi
        refine jx_iload dX10_met_93 rfl ?_
        refine jx_iconst (v := -1) dX10_met_95 (by decide) ?_
        refine jx_icmp_eq 126 dX10_met_96 (by decide) (fun h96 => ?_) (fun h96 => ?_)
        · exact absurd h96 (fun q => by
            have q2 := congrArg Int32.toInt (show nI c = -1 from q)
            rw [nI_toInt (by omega)] at q2
            have : (-1 : Int32).toInt = -1 := by decide
            omega)
        · refine jx_iload dX10_met_99 rfl ?_
          refine jx_aload_n dX10_met_101 rfl ?_
          refine jx_getR dX10_met_102 flX10_60 rfl rfl (hR _ _ _ rfl) ?_
          refine jx_iload_n dX10_met_105 rfl ?_
          refine jx_iload dX10_met_106 rfl ?_
          refine jx_Vi (as := [.int _, .int _]) dX10_met_108 mlX10_276 okX2_placeOf viX2_placeOf rfl rfl rfl rfl rfl (by decide) (Nat.le_of_ble_eq_true rfl) (tX2_placeOf hW hR hB0 hv h78) ?_
          have hoe := oI_eq (x := pl T v t) (fun a ha => Nat.lt_of_lt_of_le (hpl v hv t a ha) (by omega)) (c := c) (by omega)
          refine jx_icmp_ne 126 dX10_met_111 (by decide) (fun h111 => ?_) (fun h111 => ?_)
          · refine jx_iinc dX10_met_126 rfl (v := nI (t + 1)) (nI_1 _) (by decide) ?_
            refine jx_goto 74 dX10_met_129 (by decide) ?_
            exact jx_ls (by exact ⟨rfl, rfl, rfl, rfl, rfl, trivial⟩) (nx h78 (by
              unfold mtT
              rw [hpi]
              show (decide (pl T v t = some c) && !decide (c % W = 0) && !decide (c % W = W - 1) && _) = false
              first
                | (rw [decide_eq_false (fun q => h111 (hoe.mpr q))]; rfl)
                | (have q := h120
                   simp only [Bool.or_eq_true, decide_eq_true_eq] at q
                   rcases q with q | q
                   · rw [decide_eq_true q.2]; simp
                   · rw [decide_eq_true q.2]; simp)))
          · refine jx_lload_n dX10_met_114 rfl ?_
            refine jx_iload dX10_met_115 rfl ?_
            refine jx_Si (as := [.long _, .int _]) dX10_met_117 mlX10_177 okX10_has stX10_has rfl rfl (by decide) (Nat.le_of_ble_eq_true rfl) (tX10_has hW (c := c) (by omega) _) ?_
            rw [bt_bs (by omega)]
            refine jx_ifB_ne 126 dX10_met_120 (by decide) (fun h120 => ?_) (fun h120 => ?_)
            · refine jx_iinc dX10_met_126 rfl (v := nI (t + 1)) (nI_1 _) (by decide) ?_
              refine jx_goto 74 dX10_met_129 (by decide) ?_
              exact jx_ls (by exact ⟨rfl, rfl, rfl, rfl, rfl, trivial⟩) (nx h78 (by
                unfold mtT
                rw [hpi]
                show (decide (pl T v t = some c) && !decide (c % W = 0) && !decide (c % W = W - 1) && _) = false
                first
                  | (rw [decide_eq_false (fun q => h111 (hoe.mpr q))]; rfl)
                  | (have q := h120
                     simp only [Bool.or_eq_true, decide_eq_true_eq] at q
                     rcases q with q | q
                     · rw [decide_eq_true q.2]; simp
                     · rw [decide_eq_true q.2]; simp)))
            · refine jx_iload dX10_met_123 rfl ?_
              refine jx_iret dX10_met_125 rfl ?_
              refine ⟨?_, rfl⟩
              have hg : mtT T W i v 0 t = true := by
                unfold mtT
                rw [hpi]
                have q := h120
                simp only [Bool.or_eq_false_iff, decide_eq_false_iff_not] at q
                show (decide (pl T v t = some c) && !decide (c % W = 0) && !decide (c % W = W - 1) && _) = true
                rw [decide_eq_true (hoe.mp h111), decide_eq_false (fun z => q.1 ⟨hcl, z⟩), decide_eq_false (fun z => q.2 ⟨hcl, z⟩)]
                rfl
              rw [hfin (some t) (fnd_some.mpr ⟨h78, hg, hj⟩)]
              rfl
  rcases hh with rfl | rfl
  all_goals
    refine jx_aload_n dX10_met_0 rfl ?_
    refine jx_iload_n dX10_met_1 rfl ?_
    refine jx_Vv (as := [.int _]) dX10_met_2 mlX10_271 okX10_needBooked viX10_needBooked rfl rfl rfl rfl rfl (by decide) (Nat.le_of_ble_eq_true rfl) (tX10_needBooked hW hR hbc hb12 hi) ?_
    refine jx_aload_n dX10_met_5 rfl ?_
    refine jx_iload_n dX10_met_6 rfl ?_
    refine jx_Vv (as := [.int _]) dX10_met_7 mlX10_271 okX10_needBooked viX10_needBooked rfl rfl rfl rfl rfl (by decide) (Nat.le_of_ble_eq_true rfl) (tX10_needBooked hW hR hbc hb12 hv) ?_
    refine jx_iload_n dX10_met_10 rfl ?_
    refine jx_iload_n dX10_met_11 rfl ?_
    refine jx_icmpN_ne (a := i) (b := v) 26 dX10_met_12 (by decide) (by omega) (by omega) (fun h12 => ?_) (fun h12 => ?_)
    · refine jx_aload_n dX10_met_26 rfl ?_
      refine jx_getR dX10_met_27 flX10_60 rfl rfl (hR _ _ _ rfl) ?_
      refine jx_getR dX10_met_30 flX10_259 rfl rfl (hR _ _ _ rfl) ?_
      refine jx_iload_n dX10_met_33 rfl ?_
      refine jx_ialdE (i) dX10_met_34 rfl (rfl) (by omega) (by omega) (ci2.trans di.1) ?_
      refine jx_aload_n dX10_met_35 rfl ?_
      refine jx_getR dX10_met_36 flX10_60 rfl rfl (hR _ _ _ rfl) ?_
      refine jx_getR dX10_met_39 flX10_259 rfl rfl (hR _ _ _ rfl) ?_
      refine jx_iload_n dX10_met_42 rfl ?_
      refine jx_ialdE (v) dX10_met_43 rfl (rfl) (by omega) (by omega) (cv2.trans dv.1) ?_
      refine jx_icmpN_eq (a := (cN (T 1095 i))) (b := (cN (T 1095 v))) 49 dX10_met_44 (by decide) (by omega) (by omega) (fun h44 => ?_) (fun h44 => ?_)
      · refine jx_aload_n dX10_met_49 rfl ?_
        refine jx_getR dX10_met_50 flX10_32 rfl rfl hRh ?_
        refine jx_getR dX10_met_53 flX10_114 rfl rfl (hR _ _ _ rfl) ?_
        refine jx_getLE dX10_met_56 flX10_281 rfl rfl (hI.1.2.2.2.2.2.1.2.1) ?_
        refine jx_aload_n dX10_met_59 rfl ?_
        refine jx_getR dX10_met_60 flX10_32 rfl rfl hRh ?_
        refine jx_getR dX10_met_63 flX10_114 rfl rfl (hR _ _ _ rfl) ?_
        refine jx_getLE dX10_met_66 flX10_285 rfl rfl (hI.1.2.2.2.2.2.1.2.2) ?_
        refine jx_lorE (z := bs (fun c => decide (c < W * H ∧ c % W = 0) || decide (c < W * H ∧ c % W = W - 1))) dX10_met_69 (bs_or _ _) ?_
        refine jx_lstore_n dX10_met_70 rfl (by decide) ?_
        refine jx_iconst (v := 0) dX10_met_71 (by decide) ?_
        refine jx_istore dX10_met_72 (by decide) ?_
        exact jx_ls (by exact ⟨rfl, rfl, rfl, rfl, rfl, trivial⟩) (key h44 0 (by omega) (fun j hj => absurd hj (by omega)))
      · refine jx_iconst (v := -1) dX10_met_47 (by decide) ?_
        refine jx_iret dX10_met_48 rfl ?_
        refine ⟨?_, rfl⟩
        unfold mt
        rw [if_neg h44]
        rfl
    · exact absurd h12 hne
set_option maxHeartbeats 1000000 in
set_option maxRecDepth 20000 in
theorem tX10_undo (hW : jWok w l) (hR : RS R) {b : Nat} (hb : I 1051 5 = nI b) (hb2 : b ≤ 12) : jCD w l mX10_undo 1 [.ref 1000] (n, shE, I, L, R) (some (.int (if b = 0 then -1 else nI (b - 1)))) (n, shE, if b = 0 then I else upI I 1051 5 (nI (b - 1)), L, R) := by
  refine jCD_of hW (by decide) rfl (Nat.le_of_ble_eq_true rfl) ?_
  refine jx_aload_n dX10_undo_0 rfl ?_
  refine jx_getR dX10_undo_1 flX10_60 rfl rfl (hR _ _ _ rfl) ?_
  refine jx_getIE dX10_undo_4 flX10_101 rfl rfl (hb) ?_
  refine jx_ifN_ne (a := b) 12 dX10_undo_7 (by decide) (by omega) (fun h7 => ?_) (fun h7 => ?_)
  · refine jx_aload_n dX10_undo_12 rfl ?_
    refine jx_getR dX10_undo_13 flX10_60 rfl rfl (hR _ _ _ rfl) ?_
    refine jx_dup dX10_undo_16 rfl ?_
    refine jx_getIE dX10_undo_17 flX10_101 rfl rfl (hb) ?_
    refine jx_iconst (v := 1) dX10_undo_20 (by decide) ?_
    refine jx_isubE (z := nI (b - 1)) dX10_undo_21 (pk_sub (a := b) (b := 1) (by omega)) ?_
    refine jx_putI dX10_undo_22 flX10_101 rfl rfl (fun r h => by cases h; rfl) ?_
    refine jx_aload_n dX10_undo_25 rfl ?_
    refine jx_getR dX10_undo_26 flX10_60 rfl rfl (hR _ _ _ rfl) ?_
    refine jx_getIE dX10_undo_29 flX10_101 rfl rfl (upI_s) ?_
    refine jx_iret dX10_undo_32 rfl ?_
    exact ⟨by rw [if_neg h7], by rw [if_neg h7]⟩
  · refine jx_iconst (v := -1) dX10_undo_10 (by decide) ?_
    refine jx_iret dX10_undo_11 rfl ?_
    exact ⟨by rw [if_pos h7], by rw [if_pos h7]⟩
set_option maxHeartbeats 1000000 in
set_option maxRecDepth 20000 in
theorem tX10_forget (hW : jWok w l) (hR : RS R) {b : Nat} (hb : I 1051 9 = nI b) (hb2 : b ≤ 12) : jCD w l mX10_forget 1 [.ref 1000] (n, shE, I, L, R) (some (.int (if b = 0 then -1 else nI (b - 1)))) (n, shE, if b = 0 then I else upI I 1051 9 (nI (b - 1)), L, R) := by
  refine jCD_of hW (by decide) rfl (Nat.le_of_ble_eq_true rfl) ?_
  refine jx_aload_n dX10_forget_0 rfl ?_
  refine jx_getR dX10_forget_1 flX10_60 rfl rfl (hR _ _ _ rfl) ?_
  refine jx_getIE dX10_forget_4 flX10_104 rfl rfl (hb) ?_
  refine jx_ifN_ne (a := b) 12 dX10_forget_7 (by decide) (by omega) (fun h7 => ?_) (fun h7 => ?_)
  · refine jx_aload_n dX10_forget_12 rfl ?_
    refine jx_getR dX10_forget_13 flX10_60 rfl rfl (hR _ _ _ rfl) ?_
    refine jx_dup dX10_forget_16 rfl ?_
    refine jx_getIE dX10_forget_17 flX10_104 rfl rfl (hb) ?_
    refine jx_iconst (v := 1) dX10_forget_20 (by decide) ?_
    refine jx_isubE (z := nI (b - 1)) dX10_forget_21 (pk_sub (a := b) (b := 1) (by omega)) ?_
    refine jx_putI dX10_forget_22 flX10_104 rfl rfl (fun r h => by cases h; rfl) ?_
    refine jx_aload_n dX10_forget_25 rfl ?_
    refine jx_getR dX10_forget_26 flX10_60 rfl rfl (hR _ _ _ rfl) ?_
    refine jx_getIE dX10_forget_29 flX10_104 rfl rfl (upI_s) ?_
    refine jx_iret dX10_forget_32 rfl ?_
    exact ⟨by rw [if_neg h7], by rw [if_neg h7]⟩
  · refine jx_iconst (v := -1) dX10_forget_10 (by decide) ?_
    refine jx_iret dX10_forget_11 rfl ?_
    exact ⟨by rw [if_pos h7], by rw [if_pos h7]⟩
set_option maxHeartbeats 1000000 in
set_option maxRecDepth 20000 in
theorem tX10_sink (hW : jWok w l) (hR : RS R) {h : Nat} {T : Nat → Nat → Int32} {W H np len : Nat} (hX : CX I L R h T W H np len) {s : Nat} (hs : I 1051 9 = nI s) (hs12 : s ≤ 12) {c day : Nat} (z : Bool) (hc : c < W * H) (hd : day ≤ 40) : jCD w l mX10_sink 3 [.ref 1000, .int (nI c), .int (nI day), .int (jb z)] (n, shE, I, L, R) (some (.int (if s = 12 then -1 else nI (s + 1)))) (n, shE, if s = 12 then upI I 1059 2 (I 1059 2 + 1) else upI (upI (upI (upI I 1057 s (nI c)) 1058 s (nI day)) 1051 8 (if z = true then I 1051 8 ||| (1 <<< (nI s &&& 31)) else I 1051 8 &&& ((1 <<< (nI s &&& 31)) ^^^ (-1)))) 1051 9 (nI (s + 1)), L, R) := by
  refine jCD_of hW (by decide) rfl (Nat.le_of_ble_eq_true rfl) ?_
  refine jx_aload_n dX10_sink_0 rfl ?_
  refine jx_iload_n dX10_sink_1 rfl ?_
  refine jx_Vv (as := [.int _]) dX10_sink_2 mlX10_158 okX10_needCell viX10_needCell rfl rfl rfl rfl rfl (by decide) (Nat.le_of_ble_eq_true rfl) (tX10_needCell hW hR hX hc) ?_
  refine jx_aload_n dX10_sink_5 rfl ?_
  refine jx_iload_n dX10_sink_6 rfl ?_
  refine jx_Vv (as := [.int _]) dX10_sink_7 mlX10_170 okX10_needDay viX10_needDay rfl rfl rfl rfl rfl (by decide) (Nat.le_of_ble_eq_true rfl) (tX10_needDay hW hR (by omega)) ?_
  refine jx_aload_n dX10_sink_10 rfl ?_
  refine jx_getR dX10_sink_11 flX10_60 rfl rfl (hR _ _ _ rfl) ?_
  refine jx_getIE dX10_sink_14 flX10_104 rfl rfl (hs) ?_
  refine jx_istore dX10_sink_17 (by decide) ?_
  refine jx_iload dX10_sink_19 rfl ?_
  refine jx_bipush (v := 12) dX10_sink_21 (by decide) ?_
  refine jx_icmpN_lt (a := s) (b := 12) 41 dX10_sink_23 (by decide) (by omega) (by omega) (fun h23 => ?_) (fun h23 => ?_)
  · refine jx_aload_n dX10_sink_41 rfl ?_
    refine jx_getR dX10_sink_42 flX10_60 rfl rfl (hR _ _ _ rfl) ?_
    refine jx_getR dX10_sink_45 flX10_317 rfl rfl (hR _ _ _ rfl) ?_
    refine jx_iload dX10_sink_48 rfl ?_
    refine jx_iload_n dX10_sink_50 rfl ?_
    refine jx_iastN (s) dX10_sink_51 rfl (rfl) (by omega) (by omega) ?_
    refine jx_aload_n dX10_sink_52 rfl ?_
    refine jx_getR dX10_sink_53 flX10_60 rfl rfl (hR _ _ _ rfl) ?_
    refine jx_getR dX10_sink_56 flX10_320 rfl rfl (hR _ _ _ rfl) ?_
    refine jx_iload dX10_sink_59 rfl ?_
    refine jx_iload_n dX10_sink_61 rfl ?_
    refine jx_iastN (s) dX10_sink_62 rfl (rfl) (by omega) (by omega) ?_
    refine jx_aload_n dX10_sink_63 rfl ?_
    refine jx_getR dX10_sink_64 flX10_60 rfl rfl (hR _ _ _ rfl) ?_
    refine jx_iload_n dX10_sink_67 rfl ?_
    refine jx_ifB_eq 86 dX10_sink_68 (by decide) (fun h68 => ?_) (fun h68 => ?_)
    · refine jx_aload_n dX10_sink_86 rfl ?_
      refine jx_getR dX10_sink_87 flX10_60 rfl rfl (hR _ _ _ rfl) ?_
      refine jx_getIE dX10_sink_90 flX10_323 rfl rfl ((upI_nea (by decide)).trans (upI_nea (by decide))) ?_
      refine jx_iconst (v := 1) dX10_sink_93 (by decide) ?_
      refine jx_iload dX10_sink_94 rfl ?_
      refine jx_ishl dX10_sink_96 ?_
      refine jx_iconst (v := -1) dX10_sink_97 (by decide) ?_
      refine jx_ixor dX10_sink_98 ?_
      refine jx_iand dX10_sink_99 ?_
      refine jx_putI dX10_sink_100 flX10_323 rfl rfl (fun r h => by cases h; rfl) ?_
      refine jx_aload_n dX10_sink_103 rfl ?_
      refine jx_getR dX10_sink_104 flX10_60 rfl rfl (hR _ _ _ rfl) ?_
      refine jx_iload dX10_sink_107 rfl ?_
      refine jx_iconst (v := 1) dX10_sink_109 (by decide) ?_
      refine jx_iaddE (z := nI (s + 1)) dX10_sink_110 (nI_add s 1) ?_
      refine jx_putI dX10_sink_111 flX10_104 rfl rfl (fun r h => by cases h; rfl) ?_
      refine jx_aload_n dX10_sink_114 rfl ?_
      refine jx_getR dX10_sink_115 flX10_60 rfl rfl (hR _ _ _ rfl) ?_
      refine jx_getIE dX10_sink_118 flX10_104 rfl rfl (upI_s) ?_
      refine jx_iret dX10_sink_121 rfl ?_
      first
        | exact ⟨by rw [if_pos (show s = 12 by omega)], by rw [if_pos (show s = 12 by omega)]⟩
        | exact ⟨by rw [if_neg (show ¬ s = 12 by omega)], by rw [if_neg (show ¬ s = 12 by omega), if_neg (by rw [h68]; decide)]⟩
        | exact ⟨by rw [if_neg (show ¬ s = 12 by omega)], by rw [if_neg (show ¬ s = 12 by omega), if_pos h68]⟩
    · refine jx_aload_n dX10_sink_71 rfl ?_
      refine jx_getR dX10_sink_72 flX10_60 rfl rfl (hR _ _ _ rfl) ?_
      refine jx_getIE dX10_sink_75 flX10_323 rfl rfl ((upI_nea (by decide)).trans (upI_nea (by decide))) ?_
      refine jx_iconst (v := 1) dX10_sink_78 (by decide) ?_
      refine jx_iload dX10_sink_79 rfl ?_
      refine jx_ishl dX10_sink_81 ?_
      refine jx_ior dX10_sink_82 ?_
      refine jx_goto 100 dX10_sink_83 (by decide) ?_
      refine jx_putI dX10_sink_100 flX10_323 rfl rfl (fun r h => by cases h; rfl) ?_
      refine jx_aload_n dX10_sink_103 rfl ?_
      refine jx_getR dX10_sink_104 flX10_60 rfl rfl (hR _ _ _ rfl) ?_
      refine jx_iload dX10_sink_107 rfl ?_
      refine jx_iconst (v := 1) dX10_sink_109 (by decide) ?_
      refine jx_iaddE (z := nI (s + 1)) dX10_sink_110 (nI_add s 1) ?_
      refine jx_putI dX10_sink_111 flX10_104 rfl rfl (fun r h => by cases h; rfl) ?_
      refine jx_aload_n dX10_sink_114 rfl ?_
      refine jx_getR dX10_sink_115 flX10_60 rfl rfl (hR _ _ _ rfl) ?_
      refine jx_getIE dX10_sink_118 flX10_104 rfl rfl (upI_s) ?_
      refine jx_iret dX10_sink_121 rfl ?_
      first
        | exact ⟨by rw [if_pos (show s = 12 by omega)], by rw [if_pos (show s = 12 by omega)]⟩
        | exact ⟨by rw [if_neg (show ¬ s = 12 by omega)], by rw [if_neg (show ¬ s = 12 by omega), if_neg (by rw [h68]; decide)]⟩
        | exact ⟨by rw [if_neg (show ¬ s = 12 by omega)], by rw [if_neg (show ¬ s = 12 by omega), if_pos h68]⟩
  · refine jx_aload_n dX10_sink_26 rfl ?_
    refine jx_getR dX10_sink_27 flX10_60 rfl rfl (hR _ _ _ rfl) ?_
    refine jx_getR dX10_sink_30 flX10_95 rfl rfl (hR _ _ _ rfl) ?_
    refine jx_iconst (v := 2) dX10_sink_33 (by decide) ?_
    refine jx_dup2 dX10_sink_34 rfl rfl ?_
    refine jx_ialdN (2) dX10_sink_35 rfl (rfl) (by omega) (by omega) ?_
    refine jx_iconst (v := 1) dX10_sink_36 (by decide) ?_
    refine jx_iadd dX10_sink_37 ?_
    refine jx_iastN (2) dX10_sink_38 rfl (rfl) (by omega) (by omega) ?_
    refine jx_iconst (v := -1) dX10_sink_39 (by decide) ?_
    refine jx_iret dX10_sink_40 rfl ?_
    first
      | exact ⟨by rw [if_pos (show s = 12 by omega)], by rw [if_pos (show s = 12 by omega)]⟩
      | exact ⟨by rw [if_neg (show ¬ s = 12 by omega)], by rw [if_neg (show ¬ s = 12 by omega), if_neg (by rw [h68]; decide)]⟩
      | exact ⟨by rw [if_neg (show ¬ s = 12 by omega)], by rw [if_neg (show ¬ s = 12 by omega), if_pos h68]⟩
set_option maxHeartbeats 1000000 in
set_option maxRecDepth 20000 in
theorem tX10_sinkF (hW : jWok w l) (hR : RS R) {h : Nat} {T : Nat → Nat → Int32} {W H np len : Nat} (hX : CX I L R h T W H np len) (c day z : Int32) (hbad : ¬ (ltQ c (W * H) = true ∧ dayQ day = true)) : jTh w l mX10_sink 3 [.ref 1000, .int c, .int day, .int z] n I L R eN := by
  refine jTh_of hW (by decide) rfl (Nat.le_of_ble_eq_true rfl) ?_
  by_cases q0 : ltQ c (W * H) = true
  · obtain ⟨c', rfl, hv0⟩ := ltQ_n q0
    by_cases q1 : dayQ day = true
    · obtain ⟨day', rfl, hv1⟩ := dayQ_n q1
      exact absurd ⟨q0, q1⟩ hbad
    · refine jx_aload_n dX10_sink_0 rfl ?_
      refine jx_iload_n dX10_sink_1 rfl ?_
      refine jx_Vv (as := [.int _]) dX10_sink_2 mlX10_158 okX10_needCell viX10_needCell rfl rfl rfl rfl rfl (by decide) (Nat.le_of_ble_eq_true rfl) (tX10_needCell hW hR hX hv0) ?_
      refine jx_aload_n dX10_sink_5 rfl ?_
      refine jx_iload_n dX10_sink_6 rfl ?_
      exact jx_VT (as := [.int _]) dX10_sink_7 mlX10_170 okX10_needDay viX10_needDay rfl rfl rfl rfl rfl (by decide) (Nat.le_of_ble_eq_true rfl) (by decide) (by decide) (tX10_needDayF hW hR (fun z => q1 (decide_eq_true ⟨z.1, by omega⟩))) (fun E t h => h)
  · refine jx_aload_n dX10_sink_0 rfl ?_
    refine jx_iload_n dX10_sink_1 rfl ?_
    exact jx_VT (as := [.int _]) dX10_sink_2 mlX10_158 okX10_needCell viX10_needCell rfl rfl rfl rfl rfl (by decide) (Nat.le_of_ble_eq_true rfl) (by decide) (by decide) (tX10_needCellF hW hR hX (fun z => q0 (decide_eq_true z))) (fun E t h => h)
end CS1
