/-! THE CLASS: what is refused -/
def jTh (w : jWD) (l : Launch) (M : jMI) (d : Nat) (as : List Value) (n : Nat) (I : Nat → Nat → Int32) (L : Nat → Nat → Int64) (R : Nat → Nat → Option Nat) (E : String) : Prop := jCt w l M d 1 6 as (n, shE, I, L, R) (fun _ _ => False) (fun E' t => E' = E ∧ ∃ n', n ≤ n' ∧ t = (n', shE, I, L, R))
def eN : String := "java/util/NoSuchElementException"
def eI : String := "java/lang/IllegalArgumentException"
/-- the class's object, its island at h -/
def CX (I : Nat → Nat → Int32) (L : Nat → Nat → Int64) (R : Nat → Nat → Option Nat) (h : Nat) (T : Nat → Nat → Int32) (W H np len : Nat) : Prop := CF I L R h T W H np len ∧ R 1000 4 = some h
section CI1
variable {w : jWD} {l : Launch} {M N : jMI} {d kc ks : Nat} {Qn : Option Value → jHS → Prop} {Qx : String → jHS → Prop} {pc : Nat} {ls : List (Nat × Value)} {st : List Value} {σ : jHS} {idx a ci d' np : Nat} {as : List Value} {r : vw_C}
theorem jx_VT {Qx' : String → jHS → Prop} (hd : decode M.2.1 pc = .ok (.invokevirtual idx, 3)) (hl : Cond.methodLink M.1.cls idx N.1 ∈ lw_tbl) (hN : jOK N np) (hV : jVir N) (hM : M.2.2.2.2 = []) (hs : σ.2.1 a = (0, ci)) (hr : vwCl[ci]? = some r) (hrc : r.1 = N.1.cls) (hlen : as.length = np) (hdd : d' < d) (hst : (st.map Value.category).sum ≤ 8) (hkc : 1 ≤ kc) (hks : 6 ≤ ks)
    (hC : jCt w l N d' 1 6 (.ref a :: as) σ (fun _ _ => False) Qx') (kx : ∀ E t, Qx' E t → Qx E t) : jWP w l M d kc ks Qn Qx pc ls (as.reverse ++ .ref a :: st) σ :=
  jx_invV hd hl hN hV hM hs hr hrc hlen hdd hkc hks hst hC (fun _ _ h => h.elim) kx
theorem jTh_of {as : List Value} {n : Nat} {I : Nat → Nat → Int32} {L : Nat → Nat → Int64} {R : Nat → Nat → Option Nat} {E : String} (hW : jWok w l) (hy : plainName M.1.cls = true) (hh : M.2.2.2.2 = []) (hlen : (as.map Value.category).sum ≤ M.2.2.1) (h : jWP w l M d 1 6 (fun _ _ => False) (fun E' t => E' = E ∧ ∃ n', n ≤ n' ∧ t = (n', shE, I, L, R)) 0 (lv_args 0 as) [] (n, shE, I, L, R)) : jTh w l M d as n I L R E := jCt_of hW hy hh hlen h
end CI1
section CI2
variable {w : jWD} {l : Launch} {n : Nat} {I : Nat → Nat → Int32} {L : Nat → Nat → Int64} {R : Nat → Nat → Option Nat}
theorem i32_lt {x : Int32} {b : Nat} (hb : b < 2 ^ 31) : x < nI b ↔ x.toInt < b := by rw [Int32.lt_iff_toInt_lt, nI_toInt hb]
theorem i32_l0 {x : Int32} : x < 0 ↔ x.toInt < 0 := by rw [Int32.lt_iff_toInt_lt]; rfl
theorem i32_le {x : Int32} {b : Nat} (hb : b < 2 ^ 31) : nI b ≤ x ↔ (b : Int) ≤ x.toInt := by rw [Int32.le_iff_toInt_le, nI_toInt hb]

set_option maxHeartbeats 1000000 in
set_option maxRecDepth 20000 in
theorem tX10_needDay (hW : jWok w l) (hR : RS R) {v : Nat} (hv : v < 41) : jCD w l mX10_needDay 1 [.ref 1000, .int (nI v)] (n, shE, I, L, R) none (n, shE, I, L, R) := by
  refine jCD_of hW (by decide) rfl (Nat.le_of_ble_eq_true rfl) ?_
  refine jx_iload_n dX10_needDay_0 rfl ?_
  refine jx_ifN_lt (a := v) 10 dX10_needDay_1 (by decide) (by omega) ?_
  refine jx_iload_n dX10_needDay_4 rfl ?_
  refine jx_bipush (v := 41) dX10_needDay_5 (by decide) ?_
  refine jx_icmpN_lt (a := v) (b := 41) 21 dX10_needDay_7 (by decide) (by omega) (by omega) (fun h7 => ?_) (fun h7 => ?_)
  · refine jx_vret dX10_needDay_21 rfl ?_
    exact ⟨rfl, rfl⟩
  · exact absurd h7 (by omega)
set_option maxHeartbeats 1000000 in
set_option maxRecDepth 20000 in
theorem tX10_needDayF (hW : jWok w l) (hR : RS R) {v : Int32} (hv : ¬ (0 ≤ v.toInt ∧ v.toInt < 41)) : jTh w l mX10_needDay 1 [.ref 1000, .int v] n I L R eN := by
  refine jTh_of hW (by decide) rfl (Nat.le_of_ble_eq_true rfl) ?_
  refine jx_iload_n dX10_needDay_0 rfl ?_
  refine jx_if_lt 10 dX10_needDay_1 (by decide) (fun h1 => ?_) (fun h1 => ?_)
  · exact jx_thN (is := 379) (len := 3) 27 rfl rfl rfl rfl rfl (Nat.le_of_ble_eq_true rfl) dX10_needDay_10 dX10_needDay_13 (Or.inr ⟨dX10_needDay_14, rfl⟩) dX10_needDay_17 dX10_needDay_20 (by decide) (by decide) (fun n1 hn1 => ⟨rfl, n1, hn1, rfl⟩)
  · refine jx_iload_n dX10_needDay_4 rfl ?_
    refine jx_bipush (v := 41) dX10_needDay_5 (by decide) ?_
    refine jx_icmp_lt 21 dX10_needDay_7 (by decide) (fun h7 => ?_) (fun h7 => ?_)
    · exact absurd ⟨Int.not_lt.mp (fun q => h1 (i32_l0.mpr q)), (i32_lt (b := 41) (by decide)).mp h7⟩ hv
    · exact jx_thN (is := 379) (len := 3) 27 rfl rfl rfl rfl rfl (Nat.le_of_ble_eq_true rfl) dX10_needDay_10 dX10_needDay_13 (Or.inr ⟨dX10_needDay_14, rfl⟩) dX10_needDay_17 dX10_needDay_20 (by decide) (by decide) (fun n1 hn1 => ⟨rfl, n1, hn1, rfl⟩)
set_option maxHeartbeats 1000000 in
set_option maxRecDepth 20000 in
theorem tX10_needTick (hW : jWok w l) (hR : RS R) {v : Nat} (hv : v < 96) : jCD w l mX10_needTick 1 [.ref 1000, .int (nI v)] (n, shE, I, L, R) none (n, shE, I, L, R) := by
  refine jCD_of hW (by decide) rfl (Nat.le_of_ble_eq_true rfl) ?_
  refine jx_iload_n dX10_needTick_0 rfl ?_
  refine jx_ifN_lt (a := v) 10 dX10_needTick_1 (by decide) (by omega) ?_
  refine jx_iload_n dX10_needTick_4 rfl ?_
  refine jx_bipush (v := 96) dX10_needTick_5 (by decide) ?_
  refine jx_icmpN_lt (a := v) (b := 96) 21 dX10_needTick_7 (by decide) (by omega) (by omega) (fun h7 => ?_) (fun h7 => ?_)
  · refine jx_vret dX10_needTick_21 rfl ?_
    exact ⟨rfl, rfl⟩
  · exact absurd h7 (by omega)
set_option maxHeartbeats 1000000 in
set_option maxRecDepth 20000 in
theorem tX10_needTickF (hW : jWok w l) (hR : RS R) {v : Int32} (hv : ¬ (0 ≤ v.toInt ∧ v.toInt < 96)) : jTh w l mX10_needTick 1 [.ref 1000, .int v] n I L R eN := by
  refine jTh_of hW (by decide) rfl (Nat.le_of_ble_eq_true rfl) ?_
  refine jx_iload_n dX10_needTick_0 rfl ?_
  refine jx_if_lt 10 dX10_needTick_1 (by decide) (fun h1 => ?_) (fun h1 => ?_)
  · exact jx_thN (is := 381) (len := 3) 28 rfl rfl rfl rfl rfl (Nat.le_of_ble_eq_true rfl) dX10_needTick_10 dX10_needTick_13 (Or.inr ⟨dX10_needTick_14, rfl⟩) dX10_needTick_17 dX10_needTick_20 (by decide) (by decide) (fun n1 hn1 => ⟨rfl, n1, hn1, rfl⟩)
  · refine jx_iload_n dX10_needTick_4 rfl ?_
    refine jx_bipush (v := 96) dX10_needTick_5 (by decide) ?_
    refine jx_icmp_lt 21 dX10_needTick_7 (by decide) (fun h7 => ?_) (fun h7 => ?_)
    · exact absurd ⟨Int.not_lt.mp (fun q => h1 (i32_l0.mpr q)), (i32_lt (b := 96) (by decide)).mp h7⟩ hv
    · exact jx_thN (is := 381) (len := 3) 28 rfl rfl rfl rfl rfl (Nat.le_of_ble_eq_true rfl) dX10_needTick_10 dX10_needTick_13 (Or.inr ⟨dX10_needTick_14, rfl⟩) dX10_needTick_17 dX10_needTick_20 (by decide) (by decide) (fun n1 hn1 => ⟨rfl, n1, hn1, rfl⟩)
set_option maxHeartbeats 1000000 in
set_option maxRecDepth 20000 in
theorem tX10_needCell (hW : jWok w l) (hR : RS R) {h : Nat} {T : Nat → Nat → Int32} {W H np len : Nat} (hX : CX I L R h T W H np len) {v : Nat} (hv : v < W * H) : jCD w l mX10_needCell 1 [.ref 1000, .int (nI v)] (n, shE, I, L, R) none (n, shE, I, L, R) := by
  refine jCD_of hW (by decide) rfl (Nat.le_of_ble_eq_true rfl) ?_
  obtain ⟨⟨⟨hh, hRi⟩, hI, hRI, -, -, -⟩, hRh⟩ := hX
  have hT := RI.tq hRI
  have hw := hT.1
  have hhh := hT.2.1
  have hwh : W * H ≤ 63 := Nat.mul_le_mul hw.2 hhh.2
  rcases hh with rfl | rfl
  all_goals
    refine jx_iload_n dX10_needCell_0 rfl ?_
    refine jx_ifN_lt (a := v) 35 dX10_needCell_1 (by decide) (by omega) ?_
    refine jx_iload_n dX10_needCell_4 rfl ?_
    refine jx_aload_n dX10_needCell_5 rfl ?_
    refine jx_getR dX10_needCell_6 flX10_32 rfl rfl hRh ?_
    refine jx_getR dX10_needCell_9 flX10_114 rfl rfl (hR _ _ _ rfl) ?_
    refine jx_getIE dX10_needCell_12 flX10_118 rfl rfl (hI.1.1.1) ?_
    refine jx_aload_n dX10_needCell_15 rfl ?_
    refine jx_getR dX10_needCell_16 flX10_32 rfl rfl hRh ?_
    refine jx_getR dX10_needCell_19 flX10_114 rfl rfl (hR _ _ _ rfl) ?_
    refine jx_getIE dX10_needCell_22 flX10_123 rfl rfl (hI.1.1.2) ?_
    refine jx_imulE (z := nI (W * H)) dX10_needCell_25 (pk_mul W H) ?_
    refine jx_icmpN_ge (a := v) (b := (W * H)) 35 dX10_needCell_26 (by decide) (by omega) (by omega) (fun h26 => ?_) (fun h26 => ?_)
    · exact absurd h26 (by omega)
    · refine jx_iload_n dX10_needCell_29 rfl ?_
      refine jx_bipush (v := 63) dX10_needCell_30 (by decide) ?_
      refine jx_icmpN_lt (a := v) (b := 63) 46 dX10_needCell_32 (by decide) (by omega) (by omega) (fun h32 => ?_) (fun h32 => ?_)
      · refine jx_vret dX10_needCell_46 rfl ?_
        exact ⟨rfl, rfl⟩
      · exact absurd h32 (by omega)
set_option maxHeartbeats 1000000 in
set_option maxRecDepth 20000 in
theorem tX10_needCellF (hW : jWok w l) (hR : RS R) {h : Nat} {T : Nat → Nat → Int32} {W H np len : Nat} (hX : CX I L R h T W H np len) {v : Int32} (hv : ¬ (0 ≤ v.toInt ∧ v.toInt < ((W * H : Nat) : Int))) : jTh w l mX10_needCell 1 [.ref 1000, .int v] n I L R eN := by
  refine jTh_of hW (by decide) rfl (Nat.le_of_ble_eq_true rfl) ?_
  obtain ⟨⟨⟨hh, hRi⟩, hI, hRI, -, -, -⟩, hRh⟩ := hX
  have hT := RI.tq hRI
  have hw := hT.1
  have hhh := hT.2.1
  have hwh : W * H ≤ 63 := Nat.mul_le_mul hw.2 hhh.2
  rcases hh with rfl | rfl
  all_goals
    refine jx_iload_n dX10_needCell_0 rfl ?_
    refine jx_if_lt 35 dX10_needCell_1 (by decide) (fun h1 => ?_) (fun h1 => ?_)
    · exact jx_thN (is := 377) (len := 3) 25 rfl rfl rfl rfl rfl (Nat.le_of_ble_eq_true rfl) dX10_needCell_35 dX10_needCell_38 (Or.inr ⟨dX10_needCell_39, rfl⟩) dX10_needCell_42 dX10_needCell_45 (by decide) (by decide) (fun n1 hn1 => ⟨rfl, n1, hn1, rfl⟩)
    · refine jx_iload_n dX10_needCell_4 rfl ?_
      refine jx_aload_n dX10_needCell_5 rfl ?_
      refine jx_getR dX10_needCell_6 flX10_32 rfl rfl hRh ?_
      refine jx_getR dX10_needCell_9 flX10_114 rfl rfl (hR _ _ _ rfl) ?_
      refine jx_getIE dX10_needCell_12 flX10_118 rfl rfl (hI.1.1.1) ?_
      refine jx_aload_n dX10_needCell_15 rfl ?_
      refine jx_getR dX10_needCell_16 flX10_32 rfl rfl hRh ?_
      refine jx_getR dX10_needCell_19 flX10_114 rfl rfl (hR _ _ _ rfl) ?_
      refine jx_getIE dX10_needCell_22 flX10_123 rfl rfl (hI.1.1.2) ?_
      refine jx_imulE (z := nI (W * H)) dX10_needCell_25 (pk_mul W H) ?_
      refine jx_icmp_ge 35 dX10_needCell_26 (by decide) (fun h26 => ?_) (fun h26 => ?_)
      · exact jx_thN (is := 377) (len := 3) 25 rfl rfl rfl rfl rfl (Nat.le_of_ble_eq_true rfl) dX10_needCell_35 dX10_needCell_38 (Or.inr ⟨dX10_needCell_39, rfl⟩) dX10_needCell_42 dX10_needCell_45 (by decide) (by decide) (fun n1 hn1 => ⟨rfl, n1, hn1, rfl⟩)
      · refine jx_iload_n dX10_needCell_29 rfl ?_
        refine jx_bipush (v := 63) dX10_needCell_30 (by decide) ?_
        refine jx_icmp_lt 46 dX10_needCell_32 (by decide) (fun h32 => ?_) (fun h32 => ?_)
        · exact absurd ⟨Int.not_lt.mp (fun q => h1 (i32_l0.mpr q)), Int.not_le.mp (fun q => h26 ((i32_le (b := W * H) (by omega)).mpr q))⟩ hv
        · exact jx_thN (is := 377) (len := 3) 25 rfl rfl rfl rfl rfl (Nat.le_of_ble_eq_true rfl) dX10_needCell_35 dX10_needCell_38 (Or.inr ⟨dX10_needCell_39, rfl⟩) dX10_needCell_42 dX10_needCell_45 (by decide) (by decide) (fun n1 hn1 => ⟨rfl, n1, hn1, rfl⟩)
set_option maxHeartbeats 1000000 in
set_option maxRecDepth 20000 in
theorem tX10_needParty (hW : jWok w l) (hR : RS R) {h : Nat} {T : Nat → Nat → Int32} {W H np len : Nat} (hX : CX I L R h T W H np len) {v : Nat} (hv : v < np) : jCD w l mX10_needParty 1 [.ref 1000, .int (nI v)] (n, shE, I, L, R) none (n, shE, I, L, R) := by
  refine jCD_of hW (by decide) rfl (Nat.le_of_ble_eq_true rfl) ?_
  obtain ⟨⟨⟨hh, hRi⟩, hI, hRI, -, -, -⟩, hRh⟩ := hX
  have hT := RI.tq hRI
  have hw := hT.1
  have hhh := hT.2.1
  have hwh : W * H ≤ 63 := Nat.mul_le_mul hw.2 hhh.2
  have hn6 := hRI.2.2.2.2.1.2
  rcases hh with rfl | rfl
  all_goals
    refine jx_iload_n dX10_needParty_0 rfl ?_
    refine jx_ifN_lt (a := v) 21 dX10_needParty_1 (by decide) (by omega) ?_
    refine jx_iload_n dX10_needParty_4 rfl ?_
    refine jx_aload_n dX10_needParty_5 rfl ?_
    refine jx_getR dX10_needParty_6 flX10_32 rfl rfl hRh ?_
    refine jx_getIE dX10_needParty_9 flX10_144 rfl rfl (hI.2.2.1.1) ?_
    refine jx_icmpN_ge (a := v) (b := np) 21 dX10_needParty_12 (by decide) (by omega) (by omega) (fun h12 => ?_) (fun h12 => ?_)
    · exact absurd h12 (by omega)
    · refine jx_iload_n dX10_needParty_15 rfl ?_
      refine jx_bipush (v := 6) dX10_needParty_16 (by decide) ?_
      refine jx_icmpN_lt (a := v) (b := 6) 32 dX10_needParty_18 (by decide) (by omega) (by omega) (fun h18 => ?_) (fun h18 => ?_)
      · refine jx_vret dX10_needParty_32 rfl ?_
        exact ⟨rfl, rfl⟩
      · exact absurd h18 (by omega)
set_option maxHeartbeats 1000000 in
set_option maxRecDepth 20000 in
theorem tX10_needPartyF (hW : jWok w l) (hR : RS R) {h : Nat} {T : Nat → Nat → Int32} {W H np len : Nat} (hX : CX I L R h T W H np len) {v : Int32} (hv : ¬ (0 ≤ v.toInt ∧ v.toInt < (np : Int))) : jTh w l mX10_needParty 1 [.ref 1000, .int v] n I L R eN := by
  refine jTh_of hW (by decide) rfl (Nat.le_of_ble_eq_true rfl) ?_
  obtain ⟨⟨⟨hh, hRi⟩, hI, hRI, -, -, -⟩, hRh⟩ := hX
  have hT := RI.tq hRI
  have hw := hT.1
  have hhh := hT.2.1
  have hwh : W * H ≤ 63 := Nat.mul_le_mul hw.2 hhh.2
  have hn6 := hRI.2.2.2.2.1.2
  rcases hh with rfl | rfl
  all_goals
    refine jx_iload_n dX10_needParty_0 rfl ?_
    refine jx_if_lt 21 dX10_needParty_1 (by decide) (fun h1 => ?_) (fun h1 => ?_)
    · exact jx_thN (is := 383) (len := 3) 29 rfl rfl rfl rfl rfl (Nat.le_of_ble_eq_true rfl) dX10_needParty_21 dX10_needParty_24 (Or.inr ⟨dX10_needParty_25, rfl⟩) dX10_needParty_28 dX10_needParty_31 (by decide) (by decide) (fun n1 hn1 => ⟨rfl, n1, hn1, rfl⟩)
    · refine jx_iload_n dX10_needParty_4 rfl ?_
      refine jx_aload_n dX10_needParty_5 rfl ?_
      refine jx_getR dX10_needParty_6 flX10_32 rfl rfl hRh ?_
      refine jx_getIE dX10_needParty_9 flX10_144 rfl rfl (hI.2.2.1.1) ?_
      refine jx_icmp_ge 21 dX10_needParty_12 (by decide) (fun h12 => ?_) (fun h12 => ?_)
      · exact jx_thN (is := 383) (len := 3) 29 rfl rfl rfl rfl rfl (Nat.le_of_ble_eq_true rfl) dX10_needParty_21 dX10_needParty_24 (Or.inr ⟨dX10_needParty_25, rfl⟩) dX10_needParty_28 dX10_needParty_31 (by decide) (by decide) (fun n1 hn1 => ⟨rfl, n1, hn1, rfl⟩)
      · refine jx_iload_n dX10_needParty_15 rfl ?_
        refine jx_bipush (v := 6) dX10_needParty_16 (by decide) ?_
        refine jx_icmp_lt 32 dX10_needParty_18 (by decide) (fun h18 => ?_) (fun h18 => ?_)
        · exact absurd ⟨Int.not_lt.mp (fun q => h1 (i32_l0.mpr q)), Int.not_le.mp (fun q => h12 ((i32_le (b := np) (by omega)).mpr q))⟩ hv
        · exact jx_thN (is := 383) (len := 3) 29 rfl rfl rfl rfl rfl (Nat.le_of_ble_eq_true rfl) dX10_needParty_21 dX10_needParty_24 (Or.inr ⟨dX10_needParty_25, rfl⟩) dX10_needParty_28 dX10_needParty_31 (by decide) (by decide) (fun n1 hn1 => ⟨rfl, n1, hn1, rfl⟩)
set_option maxHeartbeats 1000000 in
set_option maxRecDepth 20000 in
theorem tX10_needBooked (hW : jWok w l) (hR : RS R) {b : Nat} (hb : I 1051 5 = nI b) (hb2 : b ≤ 12) {v : Nat} (hv : v < b) : jCD w l mX10_needBooked 1 [.ref 1000, .int (nI v)] (n, shE, I, L, R) none (n, shE, I, L, R) := by
  refine jCD_of hW (by decide) rfl (Nat.le_of_ble_eq_true rfl) ?_
  refine jx_iload_n dX10_needBooked_0 rfl ?_
  refine jx_ifN_lt (a := v) 21 dX10_needBooked_1 (by decide) (by omega) ?_
  refine jx_iload_n dX10_needBooked_4 rfl ?_
  refine jx_aload_n dX10_needBooked_5 rfl ?_
  refine jx_getR dX10_needBooked_6 flX10_60 rfl rfl (hR _ _ _ rfl) ?_
  refine jx_getIE dX10_needBooked_9 flX10_101 rfl rfl (hb) ?_
  refine jx_icmpN_ge (a := v) (b := b) 21 dX10_needBooked_12 (by decide) (by omega) (by omega) (fun h12 => ?_) (fun h12 => ?_)
  · exact absurd h12 (by omega)
  · refine jx_iload_n dX10_needBooked_15 rfl ?_
    refine jx_bipush (v := 12) dX10_needBooked_16 (by decide) ?_
    refine jx_icmpN_lt (a := v) (b := 12) 32 dX10_needBooked_18 (by decide) (by omega) (by omega) (fun h18 => ?_) (fun h18 => ?_)
    · refine jx_vret dX10_needBooked_32 rfl ?_
      exact ⟨rfl, rfl⟩
    · exact absurd h18 (by omega)
set_option maxHeartbeats 1000000 in
set_option maxRecDepth 20000 in
theorem tX10_needBookedF (hW : jWok w l) (hR : RS R) {b : Nat} (hb : I 1051 5 = nI b) (hb2 : b ≤ 12) {v : Int32} (hv : ¬ (0 ≤ v.toInt ∧ v.toInt < (b : Int))) : jTh w l mX10_needBooked 1 [.ref 1000, .int v] n I L R eN := by
  refine jTh_of hW (by decide) rfl (Nat.le_of_ble_eq_true rfl) ?_
  refine jx_iload_n dX10_needBooked_0 rfl ?_
  refine jx_if_lt 21 dX10_needBooked_1 (by decide) (fun h1 => ?_) (fun h1 => ?_)
  · exact jx_thN (is := 385) (len := 3) 34 rfl rfl rfl rfl rfl (Nat.le_of_ble_eq_true rfl) dX10_needBooked_21 dX10_needBooked_24 (Or.inr ⟨dX10_needBooked_25, rfl⟩) dX10_needBooked_28 dX10_needBooked_31 (by decide) (by decide) (fun n1 hn1 => ⟨rfl, n1, hn1, rfl⟩)
  · refine jx_iload_n dX10_needBooked_4 rfl ?_
    refine jx_aload_n dX10_needBooked_5 rfl ?_
    refine jx_getR dX10_needBooked_6 flX10_60 rfl rfl (hR _ _ _ rfl) ?_
    refine jx_getIE dX10_needBooked_9 flX10_101 rfl rfl (hb) ?_
    refine jx_icmp_ge 21 dX10_needBooked_12 (by decide) (fun h12 => ?_) (fun h12 => ?_)
    · exact jx_thN (is := 385) (len := 3) 34 rfl rfl rfl rfl rfl (Nat.le_of_ble_eq_true rfl) dX10_needBooked_21 dX10_needBooked_24 (Or.inr ⟨dX10_needBooked_25, rfl⟩) dX10_needBooked_28 dX10_needBooked_31 (by decide) (by decide) (fun n1 hn1 => ⟨rfl, n1, hn1, rfl⟩)
    · refine jx_iload_n dX10_needBooked_15 rfl ?_
      refine jx_bipush (v := 12) dX10_needBooked_16 (by decide) ?_
      refine jx_icmp_lt 32 dX10_needBooked_18 (by decide) (fun h18 => ?_) (fun h18 => ?_)
      · exact absurd ⟨Int.not_lt.mp (fun q => h1 (i32_l0.mpr q)), Int.not_le.mp (fun q => h12 ((i32_le (b := b) (by omega)).mpr q))⟩ hv
      · exact jx_thN (is := 385) (len := 3) 34 rfl rfl rfl rfl rfl (Nat.le_of_ble_eq_true rfl) dX10_needBooked_21 dX10_needBooked_24 (Or.inr ⟨dX10_needBooked_25, rfl⟩) dX10_needBooked_28 dX10_needBooked_31 (by decide) (by decide) (fun n1 hn1 => ⟨rfl, n1, hn1, rfl⟩)
set_option maxHeartbeats 1000000 in
set_option maxRecDepth 20000 in
theorem tX10_needStart (hW : jWok w l) (hR : RS R) {h : Nat} {T : Nat → Nat → Int32} {W H np len : Nat} (hX : CX I L R h T W H np len) {p dy tk : Nat} (hp : p < np) (hdy : dy < 41) (htk : tk < 96) : jCD w l mX10_needStart 2 [.ref 1000, .int (nI p), .int (nI dy), .int (nI tk)] (n, shE, I, L, R) none (n, shE, I, L, R) := by
  refine jCD_of hW (by decide) rfl (Nat.le_of_ble_eq_true rfl) ?_
  refine jx_aload_n dX10_needStart_0 rfl ?_
  refine jx_iload_n dX10_needStart_1 rfl ?_
  refine jx_Vv (as := [.int _]) dX10_needStart_2 mlX10_188 okX10_needParty viX10_needParty rfl rfl rfl rfl rfl (by decide) (Nat.le_of_ble_eq_true rfl) (tX10_needParty hW hR hX hp) ?_
  refine jx_aload_n dX10_needStart_5 rfl ?_
  refine jx_iload_n dX10_needStart_6 rfl ?_
  refine jx_Vv (as := [.int _]) dX10_needStart_7 mlX10_170 okX10_needDay viX10_needDay rfl rfl rfl rfl rfl (by decide) (Nat.le_of_ble_eq_true rfl) (tX10_needDay hW hR hdy) ?_
  refine jx_aload_n dX10_needStart_10 rfl ?_
  refine jx_iload_n dX10_needStart_11 rfl ?_
  refine jx_Vv (as := [.int _]) dX10_needStart_12 mlX10_181 okX10_needTick viX10_needTick rfl rfl rfl rfl rfl (by decide) (Nat.le_of_ble_eq_true rfl) (tX10_needTick hW hR htk) ?_
  refine jx_vret dX10_needStart_15 rfl ?_
  exact ⟨rfl, rfl⟩
set_option maxHeartbeats 1000000 in
set_option maxRecDepth 20000 in
theorem tX10_needStartF (hW : jWok w l) (hR : RS R) {h : Nat} {T : Nat → Nat → Int32} {W H np len : Nat} (hX : CX I L R h T W H np len) {p dy tk : Int32} (hv : ¬ ((0 ≤ p.toInt ∧ p.toInt < (np : Int)) ∧ (0 ≤ dy.toInt ∧ dy.toInt < 41) ∧ (0 ≤ tk.toInt ∧ tk.toInt < 96))) : jTh w l mX10_needStart 2 [.ref 1000, .int p, .int dy, .int tk] n I L R eN := by
  refine jTh_of hW (by decide) rfl (Nat.le_of_ble_eq_true rfl) ?_
  by_cases q1 : 0 ≤ p.toInt ∧ p.toInt < (np : Int)
  · rw [nI_cN q1.1] at hv ⊢
    by_cases q2 : 0 ≤ dy.toInt ∧ dy.toInt < 41
    · rw [nI_cN q2.1]
      refine jx_aload_n dX10_needStart_0 rfl ?_
      refine jx_iload_n dX10_needStart_1 rfl ?_
      refine jx_Vv (as := [.int _]) dX10_needStart_2 mlX10_188 okX10_needParty viX10_needParty rfl rfl rfl rfl rfl (by decide) (Nat.le_of_ble_eq_true rfl) (tX10_needParty hW hR hX (by have e : (cN p : Int) = p.toInt := Int.toNat_of_nonneg q1.1; omega)) ?_
      refine jx_aload_n dX10_needStart_5 rfl ?_
      refine jx_iload_n dX10_needStart_6 rfl ?_
      refine jx_Vv (as := [.int _]) dX10_needStart_7 mlX10_170 okX10_needDay viX10_needDay rfl rfl rfl rfl rfl (by decide) (Nat.le_of_ble_eq_true rfl) (tX10_needDay hW hR (by have e : (cN dy : Int) = dy.toInt := Int.toNat_of_nonneg q2.1; omega)) ?_
      refine jx_aload_n dX10_needStart_10 rfl ?_
      refine jx_iload_n dX10_needStart_11 rfl ?_
      exact jx_VT (as := [.int _]) dX10_needStart_12 mlX10_181 okX10_needTick viX10_needTick rfl rfl rfl rfl rfl (by decide) (Nat.le_of_ble_eq_true rfl) (by decide) (by decide) (tX10_needTickF hW hR (fun q3 => hv ⟨by rw [← nI_cN q1.1]; exact q1, q2, q3⟩)) (fun E t h => h)
    · skip
      refine jx_aload_n dX10_needStart_0 rfl ?_
      refine jx_iload_n dX10_needStart_1 rfl ?_
      refine jx_Vv (as := [.int _]) dX10_needStart_2 mlX10_188 okX10_needParty viX10_needParty rfl rfl rfl rfl rfl (by decide) (Nat.le_of_ble_eq_true rfl) (tX10_needParty hW hR hX (by have e : (cN p : Int) = p.toInt := Int.toNat_of_nonneg q1.1; omega)) ?_
      refine jx_aload_n dX10_needStart_5 rfl ?_
      refine jx_iload_n dX10_needStart_6 rfl ?_
      exact jx_VT (as := [.int _]) dX10_needStart_7 mlX10_170 okX10_needDay viX10_needDay rfl rfl rfl rfl rfl (by decide) (Nat.le_of_ble_eq_true rfl) (by decide) (by decide) (tX10_needDayF hW hR q2) (fun E t h => h)
  · skip
    refine jx_aload_n dX10_needStart_0 rfl ?_
    refine jx_iload_n dX10_needStart_1 rfl ?_
    exact jx_VT (as := [.int _]) dX10_needStart_2 mlX10_188 okX10_needParty viX10_needParty rfl rfl rfl rfl rfl (by decide) (Nat.le_of_ble_eq_true rfl) (by decide) (by decide) (tX10_needPartyF hW hR hX q1) (fun E t h => h)
end CI2
