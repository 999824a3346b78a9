/-! THE CLASS: feeding -/
/-- the bytes of an int, the highest first -/
def pbB (x : Int32) (k : Nat) : Int32 := (x >>> (nI (24 - 8 * k) &&& 31)).toInt8.toInt32
theorem i8_8 (y : Int32) : y.toInt8.toInt32.toInt8.toInt32 = y.toInt8.toInt32 := by rw [Int8.toInt8_toInt32]
theorem i8_m (y : Int32) : (y &&& 255).toInt8 = y.toInt8 := by
  apply Int8.toBitVec_inj.mp
  rw [Int32.toBitVec_toInt8, Int32.toBitVec_toInt8, Int32.toBitVec_and]
  apply BitVec.eq_of_getLsbD_eq
  intro i hi
  rw [BitVec.getLsbD_signExtend, BitVec.getLsbD_signExtend, decide_eq_true hi, if_pos (by omega), if_pos (by omega), BitVec.getLsbD_and]
  have : ∀ i, i < 8 → (255 : Int32).toBitVec.getLsbD i = true := by decide
  rw [this i hi, Bool.and_true]
section CY1
variable {w : jWD} {l : Launch} {n : Nat} {I : Nat → Nat → Int32} {L : Nat → Nat → Int64} {R : Nat → Nat → Option Nat}

set_option maxHeartbeats 1000000 in
set_option maxRecDepth 20000 in
theorem tX10_putBytes (hW : jWok w l) (hR : RS R) {m : Nat} (hm : I 1000 1 = nI m) (hm7 : m + 4 ≤ 700) (x : Int32) : jRv w l mX10_putBytes 1 [.ref 1000, .int x] (n, shE, I, L, R) (fun t => ∃ J, t = (n, shE, J, L, R) ∧ J 1000 1 = nI (m + 4) ∧ (∀ k, k < 4 → J 1001 (m + k) = pbB x k) ∧ ∀ b j, ¬ (b = 1001 ∧ m ≤ j ∧ j < m + 4) → ¬ (b = 1000 ∧ j = 1) → J b j = I b j) := by
  refine jRv_of hW (by decide) rfl (Nat.le_of_ble_eq_true rfl) ?_
  refine jx_bipush (v := 24) dX10_putBytes_0 (by decide) ?_
  refine jx_istore_n dX10_putBytes_2 rfl (by decide) ?_
  refine jx_iload_n dX10_putBytes_3 rfl ?_
  refine jx_ifN_lt (a := 24) 48 dX10_putBytes_4 (by decide) (by omega) ?_
  refine jx_aload_n dX10_putBytes_7 rfl ?_
  refine jx_getIE dX10_putBytes_8 flX10_67 rfl rfl (hm) ?_
  refine jx_aload_n dX10_putBytes_11 rfl ?_
  refine jx_getR dX10_putBytes_12 flX10_9 rfl rfl (hR _ _ _ rfl) ?_
  refine jx_alen dX10_putBytes_15 rfl (by decide) (by decide) ?_
  refine jx_icmpN_ge (a := m) (b := 700) 42 dX10_putBytes_16 (by decide) (by omega) (by omega) (fun h16 => ?_) (fun h16 => ?_)
  · exact absurd h16 (by omega)
  · refine jx_aload_n dX10_putBytes_19 rfl ?_
    refine jx_getR dX10_putBytes_20 flX10_9 rfl rfl (hR _ _ _ rfl) ?_
    refine jx_aload_n dX10_putBytes_23 rfl ?_
    refine jx_getIE dX10_putBytes_24 flX10_67 rfl rfl (hm) ?_
    refine jx_iload_n dX10_putBytes_27 rfl ?_
    refine jx_iload_n dX10_putBytes_28 rfl ?_
    refine jx_ishr dX10_putBytes_29 ?_
    refine jx_i2b dX10_putBytes_30 ?_
    refine jx_bastN (m) dX10_putBytes_31 rfl (rfl) (by omega) (by omega) ?_
    refine jx_aload_n dX10_putBytes_32 rfl ?_
    refine jx_dup dX10_putBytes_33 rfl ?_
    refine jx_getIE dX10_putBytes_34 flX10_67 rfl rfl ((upI_nea (by decide)).trans (hm)) ?_
    refine jx_iconst (v := 1) dX10_putBytes_37 (by decide) ?_
    refine jx_iaddE (z := nI (m + 1)) dX10_putBytes_38 (by rw [show (1 : Int32) = nI 1 from rfl, nI_add]) ?_
    refine jx_putI dX10_putBytes_39 flX10_67 rfl rfl (fun r h => by cases h; rfl) ?_
    refine jx_iinc dX10_putBytes_42 rfl (v := 16) (by decide) (by decide) ?_
    refine jx_goto 3 dX10_putBytes_45 (by decide) ?_
    refine jx_iload_n dX10_putBytes_3 rfl ?_
    refine jx_ifN_lt (a := 16) 48 dX10_putBytes_4 (by decide) (by omega) ?_
    refine jx_aload_n dX10_putBytes_7 rfl ?_
    refine jx_getIE dX10_putBytes_8 flX10_67 rfl rfl (upI_s) ?_
    refine jx_aload_n dX10_putBytes_11 rfl ?_
    refine jx_getR dX10_putBytes_12 flX10_9 rfl rfl (hR _ _ _ rfl) ?_
    refine jx_alen dX10_putBytes_15 rfl (by decide) (by decide) ?_
    refine jx_icmpN_ge (a := (m + 1)) (b := 700) 42 dX10_putBytes_16 (by decide) (by omega) (by omega) (fun h16 => ?_) (fun h16 => ?_)
    · exact absurd h16 (by omega)
    · refine jx_aload_n dX10_putBytes_19 rfl ?_
      refine jx_getR dX10_putBytes_20 flX10_9 rfl rfl (hR _ _ _ rfl) ?_
      refine jx_aload_n dX10_putBytes_23 rfl ?_
      refine jx_getIE dX10_putBytes_24 flX10_67 rfl rfl (upI_s) ?_
      refine jx_iload_n dX10_putBytes_27 rfl ?_
      refine jx_iload_n dX10_putBytes_28 rfl ?_
      refine jx_ishr dX10_putBytes_29 ?_
      refine jx_i2b dX10_putBytes_30 ?_
      refine jx_bastN (m + 1) dX10_putBytes_31 rfl (rfl) (by omega) (by omega) ?_
      refine jx_aload_n dX10_putBytes_32 rfl ?_
      refine jx_dup dX10_putBytes_33 rfl ?_
      refine jx_getIE dX10_putBytes_34 flX10_67 rfl rfl ((upI_nea (by decide)).trans (upI_s)) ?_
      refine jx_iconst (v := 1) dX10_putBytes_37 (by decide) ?_
      refine jx_iaddE (z := nI (m + 2)) dX10_putBytes_38 (by rw [show (1 : Int32) = nI 1 from rfl, nI_add]) ?_
      refine jx_putI dX10_putBytes_39 flX10_67 rfl rfl (fun r h => by cases h; rfl) ?_
      refine jx_iinc dX10_putBytes_42 rfl (v := 8) (by decide) (by decide) ?_
      refine jx_goto 3 dX10_putBytes_45 (by decide) ?_
      refine jx_iload_n dX10_putBytes_3 rfl ?_
      refine jx_ifN_lt (a := 8) 48 dX10_putBytes_4 (by decide) (by omega) ?_
      refine jx_aload_n dX10_putBytes_7 rfl ?_
      refine jx_getIE dX10_putBytes_8 flX10_67 rfl rfl (upI_s) ?_
      refine jx_aload_n dX10_putBytes_11 rfl ?_
      refine jx_getR dX10_putBytes_12 flX10_9 rfl rfl (hR _ _ _ rfl) ?_
      refine jx_alen dX10_putBytes_15 rfl (by decide) (by decide) ?_
      refine jx_icmpN_ge (a := (m + 2)) (b := 700) 42 dX10_putBytes_16 (by decide) (by omega) (by omega) (fun h16 => ?_) (fun h16 => ?_)
      · exact absurd h16 (by omega)
      · refine jx_aload_n dX10_putBytes_19 rfl ?_
        refine jx_getR dX10_putBytes_20 flX10_9 rfl rfl (hR _ _ _ rfl) ?_
        refine jx_aload_n dX10_putBytes_23 rfl ?_
        refine jx_getIE dX10_putBytes_24 flX10_67 rfl rfl (upI_s) ?_
        refine jx_iload_n dX10_putBytes_27 rfl ?_
        refine jx_iload_n dX10_putBytes_28 rfl ?_
        refine jx_ishr dX10_putBytes_29 ?_
        refine jx_i2b dX10_putBytes_30 ?_
        refine jx_bastN (m + 2) dX10_putBytes_31 rfl (rfl) (by omega) (by omega) ?_
        refine jx_aload_n dX10_putBytes_32 rfl ?_
        refine jx_dup dX10_putBytes_33 rfl ?_
        refine jx_getIE dX10_putBytes_34 flX10_67 rfl rfl ((upI_nea (by decide)).trans (upI_s)) ?_
        refine jx_iconst (v := 1) dX10_putBytes_37 (by decide) ?_
        refine jx_iaddE (z := nI (m + 3)) dX10_putBytes_38 (by rw [show (1 : Int32) = nI 1 from rfl, nI_add]) ?_
        refine jx_putI dX10_putBytes_39 flX10_67 rfl rfl (fun r h => by cases h; rfl) ?_
        refine jx_iinc dX10_putBytes_42 rfl (v := 0) (by decide) (by decide) ?_
        refine jx_goto 3 dX10_putBytes_45 (by decide) ?_
        refine jx_iload_n dX10_putBytes_3 rfl ?_
        refine jx_ifN_lt (a := 0) 48 dX10_putBytes_4 (by decide) (by omega) ?_
        refine jx_aload_n dX10_putBytes_7 rfl ?_
        refine jx_getIE dX10_putBytes_8 flX10_67 rfl rfl (upI_s) ?_
        refine jx_aload_n dX10_putBytes_11 rfl ?_
        refine jx_getR dX10_putBytes_12 flX10_9 rfl rfl (hR _ _ _ rfl) ?_
        refine jx_alen dX10_putBytes_15 rfl (by decide) (by decide) ?_
        refine jx_icmpN_ge (a := (m + 3)) (b := 700) 42 dX10_putBytes_16 (by decide) (by omega) (by omega) (fun h16 => ?_) (fun h16 => ?_)
        · exact absurd h16 (by omega)
        · refine jx_aload_n dX10_putBytes_19 rfl ?_
          refine jx_getR dX10_putBytes_20 flX10_9 rfl rfl (hR _ _ _ rfl) ?_
          refine jx_aload_n dX10_putBytes_23 rfl ?_
          refine jx_getIE dX10_putBytes_24 flX10_67 rfl rfl (upI_s) ?_
          refine jx_iload_n dX10_putBytes_27 rfl ?_
          refine jx_iload_n dX10_putBytes_28 rfl ?_
          refine jx_ishr dX10_putBytes_29 ?_
          refine jx_i2b dX10_putBytes_30 ?_
          refine jx_bastN (m + 3) dX10_putBytes_31 rfl (rfl) (by omega) (by omega) ?_
          refine jx_aload_n dX10_putBytes_32 rfl ?_
          refine jx_dup dX10_putBytes_33 rfl ?_
          refine jx_getIE dX10_putBytes_34 flX10_67 rfl rfl ((upI_nea (by decide)).trans (upI_s)) ?_
          refine jx_iconst (v := 1) dX10_putBytes_37 (by decide) ?_
          refine jx_iaddE (z := nI (m + 4)) dX10_putBytes_38 (by rw [show (1 : Int32) = nI 1 from rfl, nI_add]) ?_
          refine jx_putI dX10_putBytes_39 flX10_67 rfl rfl (fun r h => by cases h; rfl) ?_
          refine jx_iinc dX10_putBytes_42 rfl (v := (-8)) (by decide) (by decide) ?_
          refine jx_goto 3 dX10_putBytes_45 (by decide) ?_
          refine jx_iload_n dX10_putBytes_3 rfl ?_
          refine jx_if_lt 48 dX10_putBytes_4 (by decide) (fun h4 => ?_) (fun h4 => absurd (by decide) h4)
          refine jx_vret dX10_putBytes_48 rfl ?_
          refine ⟨rfl, _, rfl, ?_, fun k hk => ?_, fun b j h1 h2 => ?_⟩
          · rw [upI_s]
          · have : k = 0 ∨ k = 1 ∨ k = 2 ∨ k = 3 := by omega
            rcases this with rfl | rfl | rfl | rfl
            · rw [upI_nea (by decide), upI_j (by omega), upI_nea (by decide), upI_j (by omega), upI_nea (by decide), upI_j (by omega), upI_nea (by decide)]
              exact upI_s.trans (i8_8 _)
            · rw [upI_nea (by decide), upI_j (by omega), upI_nea (by decide), upI_j (by omega), upI_nea (by decide), upI_s]; exact i8_8 _
            · rw [upI_nea (by decide), upI_j (by omega), upI_nea (by decide), upI_s]; exact i8_8 _
            · rw [upI_nea (by decide), upI_s]; exact i8_8 _
          · rw [upI_ne h2, upI_ne (fun q => h1 ⟨q.1, by omega⟩), upI_ne h2, upI_ne (fun q => h1 ⟨q.1, by omega⟩), upI_ne h2, upI_ne (fun q => h1 ⟨q.1, by omega⟩), upI_ne h2, upI_ne (fun q => h1 ⟨q.1, by omega⟩)]
set_option maxHeartbeats 1000000 in
set_option maxRecDepth 20000 in
theorem tX10_feed (hW : jWok w l) (hR : RS R) {m : Nat} (hm : I 1000 1 = nI m) (hm7 : m + 20 ≤ 700) (a b c d e : Int32) : jRi w l mX10_feed 2 [.ref 1000, .int a, .int b, .int c, .int d, .int e] (n, shE, I, L, R) (fun r t => r = nI (m + 20) ∧ ∃ J, t = (n, shE, J, L, R) ∧ J 1000 1 = nI (m + 20) ∧ (∀ k, k < 20 → J 1001 (m + k) = pbB (wdQ a b c d e k) (k % 4)) ∧ ∀ b0 j, ¬ (b0 = 1001 ∧ m ≤ j ∧ j < m + 20) → ¬ (b0 = 1000 ∧ j = 1) → J b0 j = I b0 j) := by
  refine jRi_of hW (by decide) rfl (Nat.le_of_ble_eq_true rfl) ?_
  refine jx_aload_n dX10_feed_0 rfl ?_
  refine jx_getIE dX10_feed_1 flX10_67 rfl rfl (hm) ?_
  refine jx_bipush (v := 20) dX10_feed_4 (by decide) ?_
  refine jx_iaddE (z := nI (m + 20)) dX10_feed_6 (nI_add m 20) ?_
  refine jx_sipush (v := 700) dX10_feed_7 (by decide) ?_
  refine jx_icmpN_le (a := (m + 20)) (b := 700) 15 dX10_feed_10 (by decide) (by omega) (by omega) (fun h10 => ?_) (fun h10 => ?_)
  · refine jx_aload_n dX10_feed_15 rfl ?_
    refine jx_iload_n dX10_feed_16 rfl ?_
    refine jx_VRv (as := [.int _]) dX10_feed_17 mlX10_77 okX10_putBytes viX10_putBytes rfl rfl rfl rfl rfl (by decide) (Nat.le_of_ble_eq_true rfl) (tX10_putBytes (m := m) hW hR hm (by omega) a) (fun t17 hq17 => ?_)
    obtain ⟨J1, rfl, g1, v1, f1⟩ := hq17
    refine jx_aload_n dX10_feed_20 rfl ?_
    refine jx_iload_n dX10_feed_21 rfl ?_
    refine jx_VRv (as := [.int _]) dX10_feed_22 mlX10_77 okX10_putBytes viX10_putBytes rfl rfl rfl rfl rfl (by decide) (Nat.le_of_ble_eq_true rfl) (tX10_putBytes (m := m + 4) hW hR g1 (by omega) b) (fun t22 hq22 => ?_)
    obtain ⟨J2, rfl, g2, v2, f2⟩ := hq22
    refine jx_aload_n dX10_feed_25 rfl ?_
    refine jx_iload_n dX10_feed_26 rfl ?_
    refine jx_VRv (as := [.int _]) dX10_feed_27 mlX10_77 okX10_putBytes viX10_putBytes rfl rfl rfl rfl rfl (by decide) (Nat.le_of_ble_eq_true rfl) (tX10_putBytes (m := m + 8) hW hR g2 (by omega) c) (fun t27 hq27 => ?_)
    obtain ⟨J3, rfl, g3, v3, f3⟩ := hq27
    refine jx_aload_n dX10_feed_30 rfl ?_
    refine jx_iload dX10_feed_31 rfl ?_
    refine jx_VRv (as := [.int _]) dX10_feed_33 mlX10_77 okX10_putBytes viX10_putBytes rfl rfl rfl rfl rfl (by decide) (Nat.le_of_ble_eq_true rfl) (tX10_putBytes (m := m + 12) hW hR g3 (by omega) d) (fun t33 hq33 => ?_)
    obtain ⟨J4, rfl, g4, v4, f4⟩ := hq33
    refine jx_aload_n dX10_feed_36 rfl ?_
    refine jx_iload dX10_feed_37 rfl ?_
    refine jx_VRv (as := [.int _]) dX10_feed_39 mlX10_77 okX10_putBytes viX10_putBytes rfl rfl rfl rfl rfl (by decide) (Nat.le_of_ble_eq_true rfl) (tX10_putBytes (m := m + 16) hW hR g4 (by omega) e) (fun t39 hq39 => ?_)
    obtain ⟨J5, rfl, g5, v5, f5⟩ := hq39
    refine jx_aload_n dX10_feed_42 rfl ?_
    refine jx_getIE dX10_feed_43 flX10_67 rfl rfl (g5) ?_
    refine jx_iret dX10_feed_46 rfl ?_
    refine ⟨_, rfl, rfl, J5, rfl, g5, fun k hk => ?_, fun b0 j h1 h2 => ?_⟩
    · have hk2 : ∃ i r, i < 5 ∧ r < 4 ∧ k = 4 * i + r := ⟨k / 4, k % 4, by omega, by omega, by omega⟩
      obtain ⟨i, r, hi, hr, rfl⟩ := hk2
      have hm4 : (4 * i + r) % 4 = r := by omega
      rw [hm4]
      have h5 : i = 0 ∨ i = 1 ∨ i = 2 ∨ i = 3 ∨ i = 4 := by omega
      rcases h5 with rfl | rfl | rfl | rfl | rfl
      · rw [f5 _ _ (by omega) (by omega), f4 _ _ (by omega) (by omega), f3 _ _ (by omega) (by omega), f2 _ _ (by omega) (by omega), show m + (4 * 0 + r) = m + r by omega, v1 r hr]
        unfold wdQ; rw [if_pos (by omega)]
      · rw [f5 _ _ (by omega) (by omega), f4 _ _ (by omega) (by omega), f3 _ _ (by omega) (by omega), show m + (4 * 1 + r) = m + 4 + r by omega, v2 r hr]
        unfold wdQ; rw [if_neg (by omega), if_pos (by omega)]
      · rw [f5 _ _ (by omega) (by omega), f4 _ _ (by omega) (by omega), show m + (4 * 2 + r) = m + 8 + r by omega, v3 r hr]
        unfold wdQ; rw [if_neg (by omega), if_neg (by omega), if_pos (by omega)]
      · rw [f5 _ _ (by omega) (by omega), show m + (4 * 3 + r) = m + 12 + r by omega, v4 r hr]
        unfold wdQ; rw [if_neg (by omega), if_neg (by omega), if_neg (by omega), if_pos (by omega)]
      · rw [show m + (4 * 4 + r) = m + 16 + r by omega, v5 r hr]
        unfold wdQ; rw [if_neg (by omega), if_neg (by omega), if_neg (by omega), if_neg (by omega)]
    · rw [f5 _ _ (by omega) h2, f4 _ _ (by omega) h2, f3 _ _ (by omega) h2, f2 _ _ (by omega) h2, f1 _ _ (by omega) h2]
  · exact absurd h10 (by omega)
set_option maxHeartbeats 1000000 in
set_option maxRecDepth 20000 in
theorem tX10_feed0 (hW : jWok w l) (hR : RS R) {m : Nat} (hm : I 1000 1 = nI m) (hm7 : m ≤ 700) (hm20 : 700 < m + 20) (a b c d e : Int32) : jCD w l mX10_feed 2 [.ref 1000, .int a, .int b, .int c, .int d, .int e] (n, shE, I, L, R) (some (.int (-1))) (n, shE, I, L, R) := by
  refine jCD_of hW (by decide) rfl (Nat.le_of_ble_eq_true rfl) ?_
  refine jx_aload_n dX10_feed_0 rfl ?_
  refine jx_getIE dX10_feed_1 flX10_67 rfl rfl (hm) ?_
  refine jx_bipush (v := 20) dX10_feed_4 (by decide) ?_
  refine jx_iaddE (z := nI (m + 20)) dX10_feed_6 (nI_add m 20) ?_
  refine jx_sipush (v := 700) dX10_feed_7 (by decide) ?_
  refine jx_icmpN_le (a := (m + 20)) (b := 700) 15 dX10_feed_10 (by decide) (by omega) (by omega) (fun h10 => ?_) (fun h10 => ?_)
  · exact absurd h10 (by omega)
  · refine jx_iconst (v := -1) dX10_feed_13 (by decide) ?_
    refine jx_iret dX10_feed_14 rfl ?_
    exact ⟨rfl, rfl⟩
end CY1
