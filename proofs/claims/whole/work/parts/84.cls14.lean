/-! THE CLASS: fogs -/
theorem ushr_drw (x : Int32) : (x.toUInt32 >>> ((16 : Int32).toUInt32 &&& Int32.toUInt32 31)).toInt32 &&& 32767 = drw x := by
  unfold drw
  apply Int32.toBitVec_inj.mp
  apply BitVec.eq_of_getLsbD_eq
  intro i hi
  rw [Int32.toBitVec_and, Int32.toBitVec_and, BitVec.getLsbD_and, BitVec.getLsbD_and]
  by_cases h : i < 15
  · congr 1
    show ((x.toUInt32 >>> ((16 : Int32).toUInt32 &&& Int32.toUInt32 31)).toBitVec).getLsbD i = _
    rw [UInt32.toBitVec_shiftRight, Int32.toBitVec_shiftRight]
    have e1 : ((16 : Int32).toUInt32 &&& Int32.toUInt32 31).toBitVec % 32 = 16#32 := by decide
    have e2 : ((16 : Int32) &&& 31).toBitVec.smod 32 = 16#32 := by decide
    rw [e1, e2, BitVec.ushiftRight_eq', BitVec.getLsbD_ushiftRight, BitVec.sshiftRight_eq', BitVec.getLsbD_sshiftRight]
    rw [show (16#32).toNat = 16 from rfl, decide_eq_false (show ¬ 32 ≤ i by omega), if_pos (by omega)]
    rfl
  · have e3 : (32767 : Int32).toBitVec.getLsbD i = false := by
      have : ∀ i, i < 32 → ¬ i < 15 → (32767 : Int32).toBitVec.getLsbD i = false := by decide
      exact this i hi h
    rw [e3, Bool.and_false, Bool.and_false]
theorem drw_n (x : Int32) : drw x = nI (cN (drw x)) ∧ cN (drw x) < 2 ^ 31 := by
  have hdr : 0 ≤ (drw x).toInt ∧ (drw x).toInt ≤ 32767 := and_pos (x >>> (16 &&& 31))
  generalize drw x = y at hdr ⊢
  have e : (cN y : Int) = y.toInt := Int.toNat_of_nonneg hdr.1
  exact ⟨nI_cN hdr.1, by omega⟩
section CN1
variable {w : jWD} {l : Launch} {n : Nat} {I : Nat → Nat → Int32} {L : Nat → Nat → Int64} {R : Nat → Nat → Option Nat}

set_option maxHeartbeats 1000000 in
set_option maxRecDepth 20000 in
theorem tX1_fogWeight (hW : jWok w l) (hR : RS R) {h : Nat} {T : Nat → Nat → Int32} {W H np len : Nat} (hh : h = 1008 ∨ h = 1024) (hI : CIs I L h T W H np len) (hRI : RI T W H np len) : jCD w l mX1_fogWeight 1 [.ref h] (n, shE, I, L, R) (some (.int (nI (pfx T 4)))) (n, shE, I, L, R) := by
  refine jCD_of hW (by decide) rfl (Nat.le_of_ble_eq_true rfl) ?_
  have hf := hRI.2.2.2.2.2.2.2.1
  rcases hh with rfl | rfl
  all_goals
    refine jx_aload_n dX1_fogWeight_0 rfl ?_
    refine jx_getR dX1_fogWeight_1 flX1_31 rfl rfl (hR _ _ _ rfl) ?_
    refine jx_iconst (v := 0) dX1_fogWeight_4 (by decide) ?_
    refine jx_ialdE (0) dX1_fogWeight_5 rfl (rfl) (by omega) (by omega) ((hI.2.2.2.2 0 (by omega)).trans (hf 0 (by omega)).1) ?_
    refine jx_aload_n dX1_fogWeight_6 rfl ?_
    refine jx_getR dX1_fogWeight_7 flX1_31 rfl rfl (hR _ _ _ rfl) ?_
    refine jx_iconst (v := 1) dX1_fogWeight_10 (by decide) ?_
    refine jx_ialdE (1) dX1_fogWeight_11 rfl (rfl) (by omega) (by omega) ((hI.2.2.2.2 1 (by omega)).trans (hf 1 (by omega)).1) ?_
    refine jx_iaddE (z := nI ((cN (T 1072 (12 + 0))) + (cN (T 1072 (12 + 1))))) dX1_fogWeight_12 (nI_add (cN (T 1072 (12 + 0))) (cN (T 1072 (12 + 1)))) ?_
    refine jx_aload_n dX1_fogWeight_13 rfl ?_
    refine jx_getR dX1_fogWeight_14 flX1_31 rfl rfl (hR _ _ _ rfl) ?_
    refine jx_iconst (v := 2) dX1_fogWeight_17 (by decide) ?_
    refine jx_ialdE (2) dX1_fogWeight_18 rfl (rfl) (by omega) (by omega) ((hI.2.2.2.2 2 (by omega)).trans (hf 2 (by omega)).1) ?_
    refine jx_iaddE (z := nI (((cN (T 1072 (12 + 0))) + (cN (T 1072 (12 + 1)))) + (cN (T 1072 (12 + 2))))) dX1_fogWeight_19 (nI_add ((cN (T 1072 (12 + 0))) + (cN (T 1072 (12 + 1)))) (cN (T 1072 (12 + 2)))) ?_
    refine jx_aload_n dX1_fogWeight_20 rfl ?_
    refine jx_getR dX1_fogWeight_21 flX1_31 rfl rfl (hR _ _ _ rfl) ?_
    refine jx_iconst (v := 3) dX1_fogWeight_24 (by decide) ?_
    refine jx_ialdE (3) dX1_fogWeight_25 rfl (rfl) (by omega) (by omega) ((hI.2.2.2.2 3 (by omega)).trans (hf 3 (by omega)).1) ?_
    refine jx_iaddE (z := nI ((((cN (T 1072 (12 + 0))) + (cN (T 1072 (12 + 1)))) + (cN (T 1072 (12 + 2)))) + (cN (T 1072 (12 + 3))))) dX1_fogWeight_26 (nI_add (((cN (T 1072 (12 + 0))) + (cN (T 1072 (12 + 1)))) + (cN (T 1072 (12 + 2)))) (cN (T 1072 (12 + 3)))) ?_
    refine jx_iret dX1_fogWeight_27 rfl ?_
    refine ⟨congrArg (fun z => some (Value.int (nI z))) ?_, rfl⟩
    show _ = (((0 + wf T 0) + wf T 1) + wf T 2) + wf T 3
    rw [Nat.zero_add]
    rfl
set_option maxHeartbeats 1000000 in
set_option maxRecDepth 20000 in
theorem tX1_strengthOf (hW : jWok w l) (hR : RS R) {h : Nat} {T : Nat → Nat → Int32} {W H np len : Nat} (hh : h = 1008 ∨ h = 1024) (hI : CIs I L h T W H np len) (hRI : RI T W H np len) {x : Nat} (hx : x < 2 ^ 31) : jCD w l mX1_strengthOf 2 [.ref h, .int (nI x)] (n, shE, I, L, R) (some (.int (nI (stf T (x % pfx T 4))))) (n, shE, I, L, R) := by
  refine jCD_of hW (by decide) rfl (Nat.le_of_ble_eq_true rfl) ?_
  have hf := hRI.2.2.2.2.2.2.2.1
  have hfs := hRI.2.2.2.2.2.2.2.2
  have hp4 : pfx T 4 = cN (T 1072 12) + cN (T 1072 13) + cN (T 1072 14) + cN (T 1072 15) := by
    show (((0 + wf T 0) + wf T 1) + wf T 2) + wf T 3 = _
    rw [Nat.zero_add]; rfl
  have hple := pfx_le hRI 4 (by omega)
  have hmod := Nat.mod_lt x (show 0 < pfx T 4 by omega)
  generalize hm : x % pfx T 4 = m at hmod ⊢
  have key : ∀ k, k ≤ 4 → (∀ j, j < k → decide (m < pfx T (j + 1)) = false) → jWP w l mX1_strengthOf 2 0 0 (fun r t => r = some (.int (nI (stf T m))) ∧ t = (n, shE, I, L, R)) (fun _ _ => False) 22 [(0, .ref h), (1, .int (nI x)), (2, .int (nI (pfx T 4))), (3, .int (nI m)), (4, .int (nI (pfx T k))), (5, .int (nI k))] [] (n, shE, I, L, R) := by
    refine jdown _ (fun k hk ih hj => ?_)
    have hpk := pfx_le hRI k hk
    rcases hh with rfl | rfl
    all_goals
    refine jx_iload dX1_strengthOf_22 rfl ?_
    refine jx_iconst (v := 4) dX1_strengthOf_24 (by decide) ?_
    refine jx_icmpN_ge (a := k) (b := 4) 55 dX1_strengthOf_25 (by decide) (by omega) (by omega) (fun h25 => ?_) (fun h25 => ?_)
    · refine jx_iconst (v := 0) dX1_strengthOf_55 (by decide) ?_
      refine jx_iret dX1_strengthOf_56 rfl ?_
      refine ⟨?_, rfl⟩
      unfold stf
      rw [fnd_none.mpr (fun j hj2 => hj j (by omega))]
      rfl
    · have hk9 := (hf k (by omega)).2
      refine jx_iload dX1_strengthOf_28 rfl ?_
      refine jx_aload_n dX1_strengthOf_30 rfl ?_
      refine jx_getR dX1_strengthOf_31 flX1_31 rfl rfl (hR _ _ _ rfl) ?_
      refine jx_iload dX1_strengthOf_34 rfl ?_
      refine jx_ialdE (k) dX1_strengthOf_36 rfl (rfl) (by omega) (by omega) ((hI.2.2.2.2 k (by omega)).trans (hf k (by omega)).1) ?_
      refine jx_iaddE (z := nI ((pfx T k) + (cN (T 1072 (12 + k))))) dX1_strengthOf_37 (nI_add (pfx T k) (cN (T 1072 (12 + k)))) ?_
      refine jx_istore dX1_strengthOf_38 (by decide) ?_
      refine jx_iload dX1_strengthOf_40 rfl ?_
      refine jx_iload_n dX1_strengthOf_42 rfl ?_
      refine jx_icmpN_le (a := ((pfx T k) + (cN (T 1072 (12 + k))))) (b := m) 49 dX1_strengthOf_43 (by decide) (by omega) (by omega) (fun h43 => ?_) (fun h43 => ?_)
      · refine jx_iinc dX1_strengthOf_49 rfl (v := nI (k + 1)) (nI_1 _) (by decide) ?_
        refine jx_goto 22 dX1_strengthOf_52 (by decide) ?_
        exact jx_ls (by exact ⟨rfl, rfl, rfl, rfl, rfl, rfl, trivial⟩) (ih (by omega) (fun j hj2 => by
          by_cases z : j = k
          · rw [z]; exact decide_eq_false (fun q => by have q2 : m < pfx T k + wf T k := q; have q3 : wf T k = cN (T 1072 (12 + k)) := rfl; omega)
          · exact hj j (by omega)))
      · refine jx_iload dX1_strengthOf_46 rfl ?_
        refine jx_iret dX1_strengthOf_48 rfl ?_
        refine ⟨?_, rfl⟩
        unfold stf
        rw [fnd_some.mpr ⟨by omega, decide_eq_true (show m < pfx T k + wf T k from h43), hj⟩]
        rfl
  rcases hh with rfl | rfl
  all_goals
    refine jx_aload_n dX1_strengthOf_0 rfl ?_
    refine jx_Vi (as := []) dX1_strengthOf_1 mlX1_68 okX1_fogWeight viX1_fogWeight rfl rfl rfl rfl rfl (by decide) (Nat.le_of_ble_eq_true rfl) (tX1_fogWeight hW hR (by decide) hI hRI) ?_
    refine jx_istore_n dX1_strengthOf_4 rfl (by decide) ?_
    refine jx_iload_n dX1_strengthOf_5 rfl ?_
    refine jx_iconst (v := 1) dX1_strengthOf_6 (by decide) ?_
    refine jx_icmpN_ge (a := (pfx T 4)) (b := 1) 12 dX1_strengthOf_7 (by decide) (by omega) (by omega) (fun h7 => ?_) (fun h7 => ?_)
    · refine jx_iload_n dX1_strengthOf_12 rfl ?_
      refine jx_iload_n dX1_strengthOf_13 rfl ?_
      refine jx_iremE (z := nI (x % (pfx T 4))) dX1_strengthOf_14 (nI_ne0 (n := (pfx T 4)) (by omega) (by omega)) (pk_rem (a := x) (d := (pfx T 4)) (by omega) (by omega) (by omega)) ?_
      refine jx_istore_n dX1_strengthOf_15 rfl (by decide) ?_
      refine jx_iconst (v := 0) dX1_strengthOf_16 (by decide) ?_
      refine jx_istore dX1_strengthOf_17 (by decide) ?_
      refine jx_iconst (v := 0) dX1_strengthOf_19 (by decide) ?_
      refine jx_istore dX1_strengthOf_20 (by decide) ?_
      rw [hm]
      exact jx_ls (by exact ⟨rfl, rfl, rfl, rfl, rfl, rfl, trivial⟩) (key 0 (by omega) (fun j hj => absurd hj (by omega)))
    · exact absurd h7 (by omega)
set_option maxHeartbeats 1000000 in
set_option maxRecDepth 20000 in
theorem tX10_fogs (hW : jWok w l) (hR : RS R) {h : Nat} {T : Nat → Nat → Int32} {W H np len : Nat} (hX : CX I L R h T W H np len) {p tick N : Nat} (se : Int32) (hp : p < np) (ht : tick < 96) (hN : N ≤ 40) : jQ w l mX10_fogs 7 [.ref 1000, .int (nI p), .int (nI tick), .int se, .int (nI N)] n I L R h T W H np len (nI (cntN (fgT T W H len p tick se) N)) := by
  refine jRi_of hW (by decide) rfl (Nat.le_of_ble_eq_true rfl) ?_
  have hX0 := hX
  obtain ⟨⟨⟨hh, hRi⟩, hI, hRI, hok, hFL, hSK⟩, hRh⟩ := hX
  have hT := RI.tq hRI
  have hw := hT.1
  have hhh := hT.2.1
  have hwh : W * H ≤ 63 := Nat.mul_le_mul hw.2 hhh.2
  have hn6 := hRI.2.2.2.2.1.2
  have key : ∀ k, k ≤ N → ∀ (J : Nat → Nat → Int32) (M : Nat → Nat → Int64), eqC I J → eqCL L M → CF J M R h T W H np len → jWP w l mX10_fogs 7 0 0 (fun v t => ∃ r, v = some (.int r) ∧ (r = nI (cntN (fgT T W H len p tick se) N) ∧ ∃ J M', t = (n, shE, J, M', R) ∧ eqC I J ∧ eqCL L M' ∧ CX J M' R h T W H np len)) (fun _ _ => False) 42 [(0, .ref 1000), (1, .int (nI p)), (2, .int (nI tick)), (3, .int se), (4, .int (nI N)), (5, .int (nI (cntN (fgT T W H len p tick se) k))), (6, .int (sd se k)), (7, .int (nI k))] [] (n, shE, J, M, R) := by
    refine jdown _ (fun k hk ih => ?_)
    intro J M e1 e2 hC
    have hcl : cntN (fgT T W H len p tick se) k ≤ k := cntN_le _ k
    obtain ⟨hdn, hdl⟩ := drw_n (sd se (k + 1))
    have hst : stf T (cN (drw (sd se (k + 1))) % pfx T 4) ≤ 3 := by
      unfold stf
      cases e : fnd (fun f => decide (cN (drw (sd se (k + 1))) % pfx T 4 < pfx T (f + 1))) 4 with
      | none => exact Nat.zero_le _
      | some v => have := fnd_lt e; show v ≤ 3; omega
    rcases hh with rfl | rfl
    all_goals
    refine jx_iload dX10_fogs_42 rfl ?_
    refine jx_iload dX10_fogs_44 rfl ?_
    refine jx_icmpN_ge (a := k) (b := N) 101 dX10_fogs_46 (by decide) (by omega) (by omega) (fun h46 => ?_) (fun h46 => ?_)
    · refine jx_iload dX10_fogs_101 rfl ?_
      refine jx_iret dX10_fogs_103 rfl ?_
      have hkN : k = N := by omega
      subst hkN
      exact ⟨_, rfl, rfl, J, M, rfl, e1, e2, hC, hRh⟩
    · refine jx_iload dX10_fogs_49 rfl ?_
      refine jx_ldcw dX10_fogs_51 ctX10_369 ?_
      refine jx_imul dX10_fogs_54 ?_
      refine jx_sipush (v := 12345) dX10_fogs_55 (by decide) ?_
      refine jx_iadd dX10_fogs_58 ?_
      refine jx_istore dX10_fogs_59 (by decide) ?_
      refine jx_aload_n dX10_fogs_61 rfl ?_
      refine jx_getR dX10_fogs_62 flX10_44 rfl rfl (hR _ _ _ rfl) ?_
      refine jx_iload_n dX10_fogs_65 rfl ?_
      refine jx_iload dX10_fogs_66 rfl ?_
      refine jx_iload_n dX10_fogs_68 rfl ?_
      refine jx_aload_n dX10_fogs_69 rfl ?_
      refine jx_getR dX10_fogs_70 flX10_32 rfl rfl hRh ?_
      refine jx_iload dX10_fogs_73 rfl ?_
      refine jx_bipush (v := 16) dX10_fogs_75 (by decide) ?_
      refine jx_iushr dX10_fogs_77 ?_
      refine jx_sipush (v := 32767) dX10_fogs_78 (by decide) ?_
      refine jx_iandE (z := nI (cN (drw (sd se (k + 1))))) dX10_fogs_81 ((ushr_drw (sd se (k + 1))).trans hdn) ?_
      refine jx_Vi (as := [.int _]) dX10_fogs_82 mlX10_370 okX1_strengthOf viX1_strengthOf rfl rfl rfl rfl rfl (by decide) (Nat.le_of_ble_eq_true rfl) (tX1_strengthOf hW hR (by decide) hC.2.1 hRI hdl) ?_
      refine jx_VRi (as := [.int _, .int _, .int _, .int _]) dX10_fogs_85 mlX10_344 okX0_arrivalInFog viX0_arrivalInFog rfl rfl rfl rfl rfl (by decide) (Nat.le_of_ble_eq_true rfl) (tX0_arrivalInFog hW hR hC hp (by omega) ht hst) (fun x85 t85 hq85 => ?_)
      obtain ⟨rfl, J2, M2, rfl, f1, f2, hC2, -⟩ := hq85
      have ha1 := arr_le T W H len k (T 1072 7) p (stf T (cN (drw (sd se (k + 1))) % pfx T 4)) tick
      have hm1 := aI_m (v := arr T W H len k (T 1072 7) p (stf T (cN (drw (sd se (k + 1))) % pfx T 4)) tick) (by omega)
      refine jx_iconst (v := -1) dX10_fogs_88 (by decide) ?_
      refine jx_icmp_eq 95 dX10_fogs_89 (by decide) (fun h89 => ?_) (fun h89 => ?_)
      · refine jx_iinc dX10_fogs_95 rfl (v := nI (k + 1)) (nI_1 _) (by decide) ?_
        refine jx_goto 42 dX10_fogs_98 (by decide) ?_
        have e1' : cntN (fgT T W H len p tick se) (k + 1) = cntN (fgT T W H len p tick se) k := by rw [cntN, if_neg (show ¬ (fgT T W H len p tick se) k = true from fun z => (of_decide_eq_true z) (hm1.mp h89)), Nat.add_zero]
        have kk := ih (by omega) J2 M2 (eqC_t e1 f1) (eqCL_t e2 f2) hC2
        rw [e1'] at kk
        exact jx_ls (by exact ⟨rfl, rfl, rfl, rfl, rfl, rfl, rfl, rfl, trivial⟩) kk
      · skip
        refine jx_iinc dX10_fogs_92 rfl (v := nI ((cntN (fgT T W H len p tick se) k) + 1)) (nI_1 _) (by decide) ?_
        refine jx_iinc dX10_fogs_95 rfl (v := nI (k + 1)) (nI_1 _) (by decide) ?_
        refine jx_goto 42 dX10_fogs_98 (by decide) ?_
        have e1' : cntN (fgT T W H len p tick se) (k + 1) = cntN (fgT T W H len p tick se) k + 1 := by rw [cntN, if_pos (show (fgT T W H len p tick se) k = true from decide_eq_true (fun q => h89 (hm1.mpr q)))]
        have kk := ih (by omega) J2 M2 (eqC_t e1 f1) (eqCL_t e2 f2) hC2
        rw [e1'] at kk
        exact jx_ls (by exact ⟨rfl, rfl, rfl, rfl, rfl, rfl, rfl, rfl, trivial⟩) kk
  refine jx_aload_n dX10_fogs_0 rfl ?_
  refine jx_iload_n dX10_fogs_1 rfl ?_
  refine jx_Vv (as := [.int _]) dX10_fogs_2 mlX10_188 okX10_needParty viX10_needParty rfl rfl rfl rfl rfl (by decide) (Nat.le_of_ble_eq_true rfl) (tX10_needParty hW hR hX0 hp) ?_
  refine jx_aload_n dX10_fogs_5 rfl ?_
  refine jx_iload_n dX10_fogs_6 rfl ?_
  refine jx_Vv (as := [.int _]) dX10_fogs_7 mlX10_181 okX10_needTick viX10_needTick rfl rfl rfl rfl rfl (by decide) (Nat.le_of_ble_eq_true rfl) (tX10_needTick hW hR ht) ?_
  refine jx_iload dX10_fogs_10 rfl ?_
  refine jx_ifN_lt (a := N) 22 dX10_fogs_12 (by decide) (by omega) ?_
  refine jx_iload dX10_fogs_15 rfl ?_
  refine jx_bipush (v := 41) dX10_fogs_17 (by decide) ?_
  refine jx_icmpN_lt (a := N) (b := 41) 33 dX10_fogs_19 (by decide) (by omega) (by omega) (fun h19 => ?_) (fun h19 => ?_)
  · refine jx_iconst (v := 0) dX10_fogs_33 (by decide) ?_
    refine jx_istore dX10_fogs_34 (by decide) ?_
    refine jx_iload_n dX10_fogs_36 rfl ?_
    refine jx_istore dX10_fogs_37 (by decide) ?_
    refine jx_iconst (v := 0) dX10_fogs_39 (by decide) ?_
    refine jx_istore dX10_fogs_40 (by decide) ?_
    exact jx_ls (by exact ⟨rfl, rfl, rfl, rfl, rfl, rfl, rfl, rfl, trivial⟩) (key 0 (by omega) I L (eqC_r I) (eqCL_r L) hX0.1)
  · exact absurd h19 (by omega)
set_option maxHeartbeats 1000000 in
set_option maxRecDepth 20000 in
theorem tX10_fogsF (hW : jWok w l) (hR : RS R) {h : Nat} {T : Nat → Nat → Int32} {W H np len : Nat} (hX : CX I L R h T W H np len) (p tick v k : Int32) (hbad : ¬ (ltQ p np = true ∧ tickQ tick = true)) : jTh w l mX10_fogs 3 [.ref 1000, .int p, .int tick, .int v, .int k] n I L R eN := by
  refine jTh_of hW (by decide) rfl (Nat.le_of_ble_eq_true rfl) ?_
  by_cases q0 : ltQ p np = true
  · obtain ⟨p', rfl, hv0⟩ := ltQ_n q0
    by_cases q1 : tickQ tick = true
    · obtain ⟨tick', rfl, hv1⟩ := tickQ_n q1
      exact absurd ⟨q0, q1⟩ hbad
    · refine jx_aload_n dX10_fogs_0 rfl ?_
      refine jx_iload_n dX10_fogs_1 rfl ?_
      refine jx_Vv (as := [.int _]) dX10_fogs_2 mlX10_188 okX10_needParty viX10_needParty rfl rfl rfl rfl rfl (by decide) (Nat.le_of_ble_eq_true rfl) (tX10_needParty hW hR hX hv0) ?_
      refine jx_aload_n dX10_fogs_5 rfl ?_
      refine jx_iload_n dX10_fogs_6 rfl ?_
      exact jx_VT (as := [.int _]) dX10_fogs_7 mlX10_181 okX10_needTick viX10_needTick rfl rfl rfl rfl rfl (by decide) (Nat.le_of_ble_eq_true rfl) (by decide) (by decide) (tX10_needTickF hW hR (fun z => q1 (decide_eq_true ⟨z.1, by omega⟩))) (fun E t h => h)
  · refine jx_aload_n dX10_fogs_0 rfl ?_
    refine jx_iload_n dX10_fogs_1 rfl ?_
    exact jx_VT (as := [.int _]) dX10_fogs_2 mlX10_188 okX10_needParty viX10_needParty rfl rfl rfl rfl rfl (by decide) (Nat.le_of_ble_eq_true rfl) (by decide) (by decide) (tX10_needPartyF hW hR hX (fun z => q0 (decide_eq_true z))) (fun E t h => h)
set_option maxHeartbeats 1000000 in
set_option maxRecDepth 20000 in
theorem tX10_fogsF2 (hW : jWok w l) (hR : RS R) {h : Nat} {T : Nat → Nat → Int32} {W H np len : Nat} (hX : CX I L R h T W H np len) {p tick : Nat} (v k : Int32) (hp : p < np) (ht : tick < 96) (hbad : ¬ (0 ≤ k.toInt ∧ k.toInt ≤ 40)) : jTh w l mX10_fogs 3 [.ref 1000, .int (nI p), .int (nI tick), .int v, .int k] n I L R eI := by
  refine jTh_of hW (by decide) rfl (Nat.le_of_ble_eq_true rfl) ?_
  refine jx_aload_n dX10_fogs_0 rfl ?_
  refine jx_iload_n dX10_fogs_1 rfl ?_
  refine jx_Vv (as := [.int _]) dX10_fogs_2 mlX10_188 okX10_needParty viX10_needParty rfl rfl rfl rfl rfl (by decide) (Nat.le_of_ble_eq_true rfl) (tX10_needParty hW hR hX hp) ?_
  refine jx_aload_n dX10_fogs_5 rfl ?_
  refine jx_iload_n dX10_fogs_6 rfl ?_
  refine jx_Vv (as := [.int _]) dX10_fogs_7 mlX10_181 okX10_needTick viX10_needTick rfl rfl rfl rfl rfl (by decide) (Nat.le_of_ble_eq_true rfl) (tX10_needTick hW hR ht) ?_
  refine jx_iload dX10_fogs_10 rfl ?_
  refine jx_if_lt 22 dX10_fogs_12 (by decide) (fun h12 => ?_) (fun h12 => ?_)
  · exact jx_thI (is := 367) (len := 3) 42 rfl rfl rfl rfl rfl (Nat.le_of_ble_eq_true rfl) dX10_fogs_22 dX10_fogs_25 (Or.inr ⟨dX10_fogs_26, rfl⟩) dX10_fogs_29 dX10_fogs_32 (by decide) (by decide) (fun n1 hn1 => ⟨rfl, n1, hn1, rfl⟩)
  · refine jx_iload dX10_fogs_15 rfl ?_
    refine jx_bipush (v := 41) dX10_fogs_17 (by decide) ?_
    refine jx_icmp_lt 33 dX10_fogs_19 (by decide) (fun h19 => ?_) (fun h19 => ?_)
    · exact absurd ⟨Int.not_lt.mp (fun q => h12 (i32_l0.mpr q)), by have q := (i32_lt (b := 41) (by omega)).mp h19; omega⟩ hbad
    · exact jx_thI (is := 367) (len := 3) 42 rfl rfl rfl rfl rfl (Nat.le_of_ble_eq_true rfl) dX10_fogs_22 dX10_fogs_25 (Or.inr ⟨dX10_fogs_26, rfl⟩) dX10_fogs_29 dX10_fogs_32 (by decide) (by decide) (fun n1 hn1 => ⟨rfl, n1, hn1, rfl⟩)
end CN1
