/-! THE CLASS: what is booked, who sank -/
/-- what is booked, as the class keeps it -/
def LBk (I T : Nat → Nat → Int32) (W H np b : Nat) : Prop := I 1051 5 = nI b ∧ RK T W H np b ∧ ∀ i, i < b → I 1052 i = T 1094 i ∧ I 1053 i = T 1095 i ∧ I 1054 i = T 1096 i ∧ I 1055 i = T 1097 i ∧ ∀ t, cN (T 1096 i) ≤ t → t ≤ cN (T 1097 i) → I 1056 (i * 96 + t) = T 1098 (96 * i + t)
def bt3 (x : Int32) (c : Nat) : Bool := x.toBitVec.getLsbD c
theorem sh3 : ∀ k, k < 32 → ((nI k) &&& 31).toBitVec.smod 32 = BitVec.ofNat 32 k := by decide +kernel
theorem bt3_1 (c : Nat) : bt3 1 c = decide (c = 0) := by
  show (1#32).getLsbD c = _
  rw [BitVec.getLsbD_one]
  simp
theorem bt3_sh {k : Nat} (hk : k < 32) (c : Nat) : bt3 (1 <<< (nI k &&& 31)) c = decide (c = k) := by
  unfold bt3
  rw [Int32.toBitVec_shiftLeft, sh3 k hk, BitVec.shiftLeft_eq', BitVec.toNat_ofNat, Nat.mod_eq_of_lt (by omega), BitVec.getLsbD_shiftLeft]
  have e := bt3_1 (c - k)
  unfold bt3 at e
  rw [e]
  by_cases h : c = k
  · rw [h, decide_eq_true hk, decide_eq_false (Nat.lt_irrefl k), decide_eq_true (by omega)]
    simp
  · rw [decide_eq_false h]
    by_cases h2 : c < k
    · rw [decide_eq_true h2]; simp
    · rw [decide_eq_false (p := c - k = 0) (by omega)]; simp
theorem bt3_bit {x : Int32} {k : Nat} (hk : k < 32) : (x >>> (nI k &&& 31)) &&& 1 = jb (bt3 x k) := by
  apply Int32.toBitVec_inj.mp
  apply BitVec.eq_of_getLsbD_eq
  intro i hi
  rw [Int32.toBitVec_and, BitVec.getLsbD_and, Int32.toBitVec_shiftRight, sh3 k hk, BitVec.sshiftRight_eq', BitVec.toNat_ofNat, Nat.mod_eq_of_lt (by omega), BitVec.getLsbD_sshiftRight]
  have e := bt3_1 i
  unfold bt3 at e
  rw [e]
  by_cases z : i = 0
  · rw [z, decide_eq_false (show ¬ 32 ≤ 0 by omega), if_pos (by omega), Nat.add_zero, decide_eq_true rfl]
    show (!false && x.toBitVec.getLsbD k && true) = _
    unfold bt3
    cases x.toBitVec.getLsbD k <;> rfl
  · rw [decide_eq_false z, Bool.and_false]
    cases bt3 x k
    · show false = (0#32).getLsbD i
      rw [BitVec.getLsbD_zero]
    · show false = (1#32).getLsbD i
      rw [BitVec.getLsbD_one]
      simp [z]
theorem bt3_or (x y : Int32) (c : Nat) : bt3 (x ||| y) c = (bt3 x c || bt3 y c) := by unfold bt3; rw [Int32.toBitVec_or, BitVec.getLsbD_or]
theorem bt3_and (x y : Int32) (c : Nat) : bt3 (x &&& y) c = (bt3 x c && bt3 y c) := by unfold bt3; rw [Int32.toBitVec_and, BitVec.getLsbD_and]
theorem bt3_not {x : Int32} {c : Nat} (h : c < 32) : bt3 (x ^^^ (-1)) c = !bt3 x c := by
  unfold bt3
  rw [Int32.toBitVec_xor, BitVec.getLsbD_xor]
  have : (-1 : Int32).toBitVec.getLsbD c = true := by
    show (BitVec.allOnes 32).getLsbD c = true
    rw [BitVec.getLsbD_allOnes, decide_eq_true h]
  rw [this, Bool.xor_true]
theorem or6n : ∀ m, m < 64 → ∀ b, b < 6 → (nI m ||| (1 <<< (nI b &&& 31))) = nI (m ||| (1 <<< b)) ∧ m ||| (1 <<< b) < 64 := by decide +kernel
section CR1
variable {w : jWD} {l : Launch} {n : Nat} {I : Nat → Nat → Int32} {L : Nat → Nat → Int64} {R : Nat → Nat → Option Nat}

set_option maxHeartbeats 1000000 in
set_option maxRecDepth 20000 in
theorem tX2_placeOf (hW : jWok w l) (hR : RS R) {T : Nat → Nat → Int32} {W H np b : Nat} (hB : LBk I T W H np b) {i t : Nat} (hi : i < b) (ht : t < 96) : jCD w l mX2_placeOf 1 [.ref 1051, .int (nI i), .int (nI t)] (n, shE, I, L, R) (some (.int (oI (pl T i t)))) (n, shE, I, L, R) := by
  refine jCD_of hW (by decide) rfl (Nat.le_of_ble_eq_true rfl) ?_
  obtain ⟨hbc, hRK, hbi⟩ := hB
  have hb12 := hRK.2.1
  have hbk := hRK.2.2
  obtain ⟨-, -, c3, c4, c5⟩ := hbi i hi
  obtain ⟨-, -, ⟨d1, d2, d3, d4⟩, d5⟩ := hbk i hi
  refine jx_iload_n dX2_placeOf_0 rfl ?_
  refine jx_aload_n dX2_placeOf_1 rfl ?_
  refine jx_getR dX2_placeOf_2 flX2_18 rfl rfl (hR _ _ _ rfl) ?_
  refine jx_iload_n dX2_placeOf_5 rfl ?_
  refine jx_ialdE (i) dX2_placeOf_6 rfl (rfl) (by omega) (by omega) (c3.trans d1) ?_
  refine jx_icmpN_lt (a := t) (b := (cN (T 1096 i))) 20 dX2_placeOf_7 (by decide) (by omega) (by omega) (fun h7 => ?_) (fun h7 => ?_)
  · refine jx_iconst (v := -1) dX2_placeOf_20 (by decide) ?_
    refine jx_goto 35 dX2_placeOf_21 (by decide) ?_
    refine jx_iret dX2_placeOf_35 rfl ?_
    refine ⟨?_, rfl⟩
    unfold pl plc
    first | (rw [if_pos ⟨by omega, by omega⟩]; rfl) | (rw [if_neg (by omega)]; rfl)
  · refine jx_iload_n dX2_placeOf_10 rfl ?_
    refine jx_aload_n dX2_placeOf_11 rfl ?_
    refine jx_getR dX2_placeOf_12 flX2_21 rfl rfl (hR _ _ _ rfl) ?_
    refine jx_iload_n dX2_placeOf_15 rfl ?_
    refine jx_ialdE (i) dX2_placeOf_16 rfl (rfl) (by omega) (by omega) (c4.trans d2) ?_
    refine jx_icmpN_le (a := t) (b := (cN (T 1097 i))) 24 dX2_placeOf_17 (by decide) (by omega) (by omega) (fun h17 => ?_) (fun h17 => ?_)
    · refine jx_aload_n dX2_placeOf_24 rfl ?_
      refine jx_getR dX2_placeOf_25 flX2_24 rfl rfl (hR _ _ _ rfl) ?_
      refine jx_iload_n dX2_placeOf_28 rfl ?_
      refine jx_bipush (v := 96) dX2_placeOf_29 (by decide) ?_
      refine jx_imulE (z := nI (i * 96)) dX2_placeOf_31 (pk_mul i 96) ?_
      refine jx_iload_n dX2_placeOf_32 rfl ?_
      refine jx_iaddE (z := nI ((i * 96) + t)) dX2_placeOf_33 (nI_add (i * 96) t) ?_
      refine jx_ialdE ((i * 96) + t) dX2_placeOf_34 rfl (rfl) (by omega) (by omega) ((c5 t (by omega) (by omega)).trans (d5 t (by omega) (by omega)).1) ?_
      refine jx_iret dX2_placeOf_35 rfl ?_
      refine ⟨?_, rfl⟩
      unfold pl plc
      first | (rw [if_pos ⟨by omega, by omega⟩]; rfl) | (rw [if_neg (by omega)]; rfl)
    · refine jx_iconst (v := -1) dX2_placeOf_20 (by decide) ?_
      refine jx_goto 35 dX2_placeOf_21 (by decide) ?_
      refine jx_iret dX2_placeOf_35 rfl ?_
      refine ⟨?_, rfl⟩
      unfold pl plc
      first | (rw [if_pos ⟨by omega, by omega⟩]; rfl) | (rw [if_neg (by omega)]; rfl)
set_option maxHeartbeats 1000000 in
set_option maxRecDepth 20000 in
theorem tX2_hasParty (hW : jWok w l) (hR : RS R) {T : Nat → Nat → Int32} {W H np b : Nat} (hB : LBk I T W H np b) {p : Nat} (hp : p < 6) (hn : np ≤ 6) : jCD w l mX2_hasParty 1 [.ref 1051, .int (nI p)] (n, shE, I, L, R) (some (.int (jb (anyN (fun k => decide (cN (T 1094 k) = p)) b)))) (n, shE, I, L, R) := by
  refine jCD_of hW (by decide) rfl (Nat.le_of_ble_eq_true rfl) ?_
  obtain ⟨hbc, hRK, hbi⟩ := hB
  have hb12 := hRK.2.1
  have hbk := hRK.2.2
  have key : ∀ k, k ≤ b → (∀ j, j < k → (fun k => decide (cN (T 1094 k) = p)) j = false) → jWP w l mX2_hasParty 1 0 0 (fun r t => r = some (.int (jb (anyN (fun k => decide (cN (T 1094 k) = p)) b))) ∧ t = (n, shE, I, L, R)) (fun _ _ => False) 2 [(0, .ref 1051), (1, .int (nI p)), (2, .int (nI k))] [] (n, shE, I, L, R) := by
    refine jdown _ (fun k hk ih hj => ?_)
    refine jx_iload_n dX2_hasParty_2 rfl ?_
    refine jx_aload_n dX2_hasParty_3 rfl ?_
    refine jx_getIE dX2_hasParty_4 flX2_42 rfl rfl (hbc) ?_
    refine jx_icmpN_ge (a := k) (b := b) 34 dX2_hasParty_7 (by decide) (by omega) (by omega) (fun h7 => ?_) (fun h7 => ?_)
    · refine jx_iconst (v := 0) dX2_hasParty_34 (by decide) ?_
      refine jx_zret dX2_hasParty_35 rfl ?_ ?_
      · first | exact Or.inl rfl | exact Or.inr rfl | exact jb_or _
      refine ⟨?_, rfl⟩
      rw [anyN_f.mpr (fun j hj2 => hj j (by omega))]
      rfl
    · have h7 : k < b := by omega
      have hw6 := (hbk k h7).1.2
      refine jx_iload_n dX2_hasParty_10 rfl ?_
      refine jx_bipush (v := 12) dX2_hasParty_11 (by decide) ?_
      refine jx_icmpN_ge (a := k) (b := 12) 34 dX2_hasParty_13 (by decide) (by omega) (by omega) (fun h13 => ?_) (fun h13 => ?_)
      · exact absurd h13 (by omega)
      · refine jx_aload_n dX2_hasParty_16 rfl ?_
        refine jx_getR dX2_hasParty_17 flX2_9 rfl rfl (hR _ _ _ rfl) ?_
        refine jx_iload_n dX2_hasParty_20 rfl ?_
        refine jx_ialdE (k) dX2_hasParty_21 rfl (rfl) (by omega) (by omega) ((hbi k h7).1.trans (hbk k h7).1.1) ?_
        refine jx_iload_n dX2_hasParty_22 rfl ?_
        refine jx_icmpN_ne (a := (cN (T 1094 k))) (b := p) 28 dX2_hasParty_23 (by decide) (by omega) (by omega) (fun h23 => ?_) (fun h23 => ?_)
        · refine jx_iinc dX2_hasParty_28 rfl (v := nI (k + 1)) (nI_1 _) (by decide) ?_
          refine jx_goto 2 dX2_hasParty_31 (by decide) ?_
          exact jx_ls (by exact ⟨rfl, rfl, rfl, trivial⟩) (ih (by omega) (fun j hj2 => by
            by_cases z : j = k
            · rw [z]; exact decide_eq_false h23
            · exact hj j (by omega)))
        · refine jx_iconst (v := 1) dX2_hasParty_26 (by decide) ?_
          refine jx_zret dX2_hasParty_27 rfl ?_ ?_
          · first | exact Or.inl rfl | exact Or.inr rfl | exact jb_or _
          refine ⟨?_, rfl⟩
          rw [anyN_of (k := k) (g := (fun k => decide (cN (T 1094 k) = p))) (decide_eq_true h23) h7]
          rfl
  refine jx_iconst (v := 0) dX2_hasParty_0 (by decide) ?_
  refine jx_istore_n dX2_hasParty_1 rfl (by decide) ?_
  exact jx_ls (by exact ⟨rfl, rfl, rfl, trivial⟩) (key 0 (by omega) (fun j hj => absurd hj (by omega)))
set_option maxHeartbeats 1000000 in
set_option maxRecDepth 20000 in
theorem tX2_partiesOn (hW : jWok w l) (hR : RS R) {T : Nat → Nat → Int32} {W H np b : Nat} (hB : LBk I T W H np b) {day : Nat} (hd : day ≤ 40) (hn : np ≤ 6) : jCD w l mX2_partiesOn 1 [.ref 1051, .int (nI day)] (n, shE, I, L, R) (some (.int (nI (thr T day b)))) (n, shE, I, L, R) := by
  refine jCD_of hW (by decide) rfl (Nat.le_of_ble_eq_true rfl) ?_
  obtain ⟨hbc, hRK, hbi⟩ := hB
  have hb12 := hRK.2.1
  have hbk := hRK.2.2
  have htl := fun k hk => thr_lt hRK hn day k hk
  have key : ∀ k, k ≤ b → jWP w l mX2_partiesOn 1 0 0 (fun r t => r = some (.int (nI (thr T day b))) ∧ t = (n, shE, I, L, R)) (fun _ _ => False) 4 [(0, .ref 1051), (1, .int (nI day)), (2, .int (nI (thr T day k))), (3, .int (nI k))] [] (n, shE, I, L, R) := by
    refine jdown _ (fun k hk ih => ?_)
    refine jx_iload_n dX2_partiesOn_4 rfl ?_
    refine jx_aload_n dX2_partiesOn_5 rfl ?_
    refine jx_getIE dX2_partiesOn_6 flX2_42 rfl rfl (hbc) ?_
    refine jx_icmpN_ge (a := k) (b := b) 45 dX2_partiesOn_9 (by decide) (by omega) (by omega) (fun h9 => ?_) (fun h9 => ?_)
    · refine jx_iload_n dX2_partiesOn_45 rfl ?_
      refine jx_iret dX2_partiesOn_46 rfl ?_
      exact ⟨by rw [show k = b by omega], rfl⟩
    · have h9 : k < b := by omega
      have hw6 := (hbk k h9).1.2
      have hd4 := (hbk k h9).2.1.2
      refine jx_iload_n dX2_partiesOn_12 rfl ?_
      refine jx_bipush (v := 12) dX2_partiesOn_13 (by decide) ?_
      refine jx_icmpN_ge (a := k) (b := 12) 45 dX2_partiesOn_15 (by decide) (by omega) (by omega) (fun h15 => ?_) (fun h15 => ?_)
      · exact absurd h15 (by omega)
      · refine jx_aload_n dX2_partiesOn_18 rfl ?_
        refine jx_getR dX2_partiesOn_19 flX2_15 rfl rfl (hR _ _ _ rfl) ?_
        refine jx_iload_n dX2_partiesOn_22 rfl ?_
        refine jx_ialdE (k) dX2_partiesOn_23 rfl (rfl) (by omega) (by omega) ((hbi k h9).2.1.trans (hbk k h9).2.1.1) ?_
        refine jx_iload_n dX2_partiesOn_24 rfl ?_
        refine jx_icmpN_ne (a := (cN (T 1095 k))) (b := day) 39 dX2_partiesOn_25 (by decide) (by omega) (by omega) (fun h25 => ?_) (fun h25 => ?_)
        · refine jx_iinc dX2_partiesOn_39 rfl (v := nI (k + 1)) (nI_1 _) (by decide) ?_
          refine jx_goto 4 dX2_partiesOn_42 (by decide) ?_
          have kk := ih h9
          rw [show thr T day (k + 1) = thr T day k from by rw [thr, if_neg (show ¬ onD T day k = true from fun z => h25 (of_decide_eq_true z))]] at kk
          exact jx_ls (by exact ⟨rfl, rfl, rfl, rfl, trivial⟩) kk
        · refine jx_iload_n dX2_partiesOn_28 rfl ?_
          refine jx_iconst (v := 1) dX2_partiesOn_29 (by decide) ?_
          refine jx_aload_n dX2_partiesOn_30 rfl ?_
          refine jx_getR dX2_partiesOn_31 flX2_9 rfl rfl (hR _ _ _ rfl) ?_
          refine jx_iload_n dX2_partiesOn_34 rfl ?_
          refine jx_ialdE (k) dX2_partiesOn_35 rfl (rfl) (by omega) (by omega) ((hbi k h9).1.trans (hbk k h9).1.1) ?_
          refine jx_ishl dX2_partiesOn_36 ?_
          refine jx_iorE (z := nI (thr T day k ||| (1 <<< cN (T 1094 k)))) dX2_partiesOn_37 ((or6n _ (htl k hk) _ (by omega)).1) ?_
          refine jx_istore_n dX2_partiesOn_38 rfl (by decide) ?_
          refine jx_iinc dX2_partiesOn_39 rfl (v := nI (k + 1)) (nI_1 _) (by decide) ?_
          refine jx_goto 4 dX2_partiesOn_42 (by decide) ?_
          have kk := ih h9
          rw [show thr T day (k + 1) = thr T day k ||| (1 <<< cN (T 1094 k)) from by rw [thr, if_pos (show onD T day k = true from decide_eq_true h25)]] at kk
          exact jx_ls (by exact ⟨rfl, rfl, rfl, rfl, trivial⟩) kk
  refine jx_iconst (v := 0) dX2_partiesOn_0 (by decide) ?_
  refine jx_istore_n dX2_partiesOn_1 rfl (by decide) ?_
  refine jx_iconst (v := 0) dX2_partiesOn_2 (by decide) ?_
  refine jx_istore_n dX2_partiesOn_3 rfl (by decide) ?_
  exact jx_ls (by exact ⟨rfl, rfl, rfl, rfl, trivial⟩) (key 0 (by omega))
set_option maxHeartbeats 1000000 in
set_option maxRecDepth 20000 in
theorem tX10_booked (hW : jWok w l) (hR : RS R) {T : Nat → Nat → Int32} {W H np : Nat} {b : Nat} (hB : LBk I T W H np b) {i k : Nat} (hi : i < b) (hk : k ≤ 3) : jCD w l mX10_booked 2 [.ref 1000, .int (nI i), .int (nI k)] (n, shE, I, L, R) (some (.int (bookV T i k))) (n, shE, I, L, R) := by
  refine jCD_of hW (by decide) rfl (Nat.le_of_ble_eq_true rfl) ?_
  obtain ⟨hbc, hRK, hbi⟩ := hB
  have hb12 := hRK.2.1
  have hbk := hRK.2.2
  obtain ⟨c1, c2, c3, c4, -⟩ := hbi i hi
  have hk4 : k = 0 ∨ k = 1 ∨ k = 2 ∨ k = 3 := by omega
  rcases hk4 with rfl | rfl | rfl | rfl
  · refine jx_aload_n dX10_booked_0 rfl ?_
    refine jx_iload_n dX10_booked_1 rfl ?_
    refine jx_Vv (as := [.int _]) dX10_booked_2 mlX10_271 okX10_needBooked viX10_needBooked rfl rfl rfl rfl rfl (by decide) (Nat.le_of_ble_eq_true rfl) (tX10_needBooked hW hR hbc hb12 hi) ?_
    refine jx_iload_n dX10_booked_5 rfl ?_
    refine jx_tsIn 36 dX10_booked_6 (by decide) (by decide) rfl (by decide) ?_
    refine jx_aload_n dX10_booked_36 rfl ?_
    refine jx_getR dX10_booked_37 flX10_60 rfl rfl (hR _ _ _ rfl) ?_
    refine jx_getR dX10_booked_40 flX10_256 rfl rfl (hR _ _ _ rfl) ?_
    refine jx_iload_n dX10_booked_43 rfl ?_
    refine jx_ialdE (i) dX10_booked_44 rfl (rfl) (by omega) (by omega) (c1) ?_
    refine jx_iret dX10_booked_45 rfl ?_
    exact ⟨rfl, rfl⟩
  · refine jx_aload_n dX10_booked_0 rfl ?_
    refine jx_iload_n dX10_booked_1 rfl ?_
    refine jx_Vv (as := [.int _]) dX10_booked_2 mlX10_271 okX10_needBooked viX10_needBooked rfl rfl rfl rfl rfl (by decide) (Nat.le_of_ble_eq_true rfl) (tX10_needBooked hW hR hbc hb12 hi) ?_
    refine jx_iload_n dX10_booked_5 rfl ?_
    refine jx_tsIn 46 dX10_booked_6 (by decide) (by decide) rfl (by decide) ?_
    refine jx_aload_n dX10_booked_46 rfl ?_
    refine jx_getR dX10_booked_47 flX10_60 rfl rfl (hR _ _ _ rfl) ?_
    refine jx_getR dX10_booked_50 flX10_259 rfl rfl (hR _ _ _ rfl) ?_
    refine jx_iload_n dX10_booked_53 rfl ?_
    refine jx_ialdE (i) dX10_booked_54 rfl (rfl) (by omega) (by omega) (c2) ?_
    refine jx_iret dX10_booked_55 rfl ?_
    exact ⟨rfl, rfl⟩
  · refine jx_aload_n dX10_booked_0 rfl ?_
    refine jx_iload_n dX10_booked_1 rfl ?_
    refine jx_Vv (as := [.int _]) dX10_booked_2 mlX10_271 okX10_needBooked viX10_needBooked rfl rfl rfl rfl rfl (by decide) (Nat.le_of_ble_eq_true rfl) (tX10_needBooked hW hR hbc hb12 hi) ?_
    refine jx_iload_n dX10_booked_5 rfl ?_
    refine jx_tsIn 56 dX10_booked_6 (by decide) (by decide) rfl (by decide) ?_
    refine jx_aload_n dX10_booked_56 rfl ?_
    refine jx_getR dX10_booked_57 flX10_60 rfl rfl (hR _ _ _ rfl) ?_
    refine jx_getR dX10_booked_60 flX10_262 rfl rfl (hR _ _ _ rfl) ?_
    refine jx_iload_n dX10_booked_63 rfl ?_
    refine jx_ialdE (i) dX10_booked_64 rfl (rfl) (by omega) (by omega) (c3) ?_
    refine jx_iret dX10_booked_65 rfl ?_
    exact ⟨rfl, rfl⟩
  · refine jx_aload_n dX10_booked_0 rfl ?_
    refine jx_iload_n dX10_booked_1 rfl ?_
    refine jx_Vv (as := [.int _]) dX10_booked_2 mlX10_271 okX10_needBooked viX10_needBooked rfl rfl rfl rfl rfl (by decide) (Nat.le_of_ble_eq_true rfl) (tX10_needBooked hW hR hbc hb12 hi) ?_
    refine jx_iload_n dX10_booked_5 rfl ?_
    refine jx_tsIn 66 dX10_booked_6 (by decide) (by decide) rfl (by decide) ?_
    refine jx_aload_n dX10_booked_66 rfl ?_
    refine jx_getR dX10_booked_67 flX10_60 rfl rfl (hR _ _ _ rfl) ?_
    refine jx_getR dX10_booked_70 flX10_265 rfl rfl (hR _ _ _ rfl) ?_
    refine jx_iload_n dX10_booked_73 rfl ?_
    refine jx_ialdE (i) dX10_booked_74 rfl (rfl) (by omega) (by omega) (c4) ?_
    refine jx_iret dX10_booked_75 rfl ?_
    exact ⟨rfl, rfl⟩
set_option maxHeartbeats 1000000 in
set_option maxRecDepth 20000 in
theorem tX10_at (hW : jWok w l) (hR : RS R) {T : Nat → Nat → Int32} {W H np : Nat} {b : Nat} (hB : LBk I T W H np b) {i tick : Nat} (hi : i < b) (ht : tick < 96) : jCD w l mX10_at 2 [.ref 1000, .int (nI i), .int (nI tick)] (n, shE, I, L, R) (some (.int (oI (pl T i tick)))) (n, shE, I, L, R) := by
  refine jCD_of hW (by decide) rfl (Nat.le_of_ble_eq_true rfl) ?_
  refine jx_aload_n dX10_at_0 rfl ?_
  refine jx_iload_n dX10_at_1 rfl ?_
  refine jx_Vv (as := [.int _]) dX10_at_2 mlX10_271 okX10_needBooked viX10_needBooked rfl rfl rfl rfl rfl (by decide) (Nat.le_of_ble_eq_true rfl) (tX10_needBooked hW hR hB.1 hB.2.1.2.1 hi) ?_
  refine jx_aload_n dX10_at_5 rfl ?_
  refine jx_iload_n dX10_at_6 rfl ?_
  refine jx_Vv (as := [.int _]) dX10_at_7 mlX10_181 okX10_needTick viX10_needTick rfl rfl rfl rfl rfl (by decide) (Nat.le_of_ble_eq_true rfl) (tX10_needTick hW hR ht) ?_
  refine jx_aload_n dX10_at_10 rfl ?_
  refine jx_getR dX10_at_11 flX10_60 rfl rfl (hR _ _ _ rfl) ?_
  refine jx_iload_n dX10_at_14 rfl ?_
  refine jx_iload_n dX10_at_15 rfl ?_
  refine jx_Vi (as := [.int _, .int _]) dX10_at_16 mlX10_276 okX2_placeOf viX2_placeOf rfl rfl rfl rfl rfl (by decide) (Nat.le_of_ble_eq_true rfl) (tX2_placeOf hW hR hB hi ht) ?_
  refine jx_iret dX10_at_19 rfl ?_
  exact ⟨rfl, rfl⟩
end CR1
