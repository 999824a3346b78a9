/-! the law's wrappers: gL_.. when the class answers, bL_.. (b2L_..) when it throws -/
section LW
variable {w : jWD} {l : Launch} {n : Nat} {I J : Nat → Nat → Int32} {L M : Nat → Nat → Int64} {R : Nat → Nat → Option Nat}
theorem owL_island : jOW mL_island 3 := ⟨jm1 0 rfl, jm3 166 rfl, by decide, ⟨by decide +kernel, by decide +kernel⟩, by decide +kernel, by decide⟩
theorem gL_island (hW : jWok w l) {x1 : Int32} {d' : Nat} {Qc : Int32 → jHS → Prop} (hC : jRi w l mX10_island d' [.ref 1000, .int x1] (n, shE, I, L, R) Qc) (hq : ∀ r t, Qc r t → ∃ n' J M' R', t = (n', shE, J, M', R')) : jGo w l mL_island (d' + 1) [.ref 1000, .int x1, .ref 1118] (n, shE, I, L, R) (fun v n' J M' R' => ∃ r, v = r.toInt64 ∧ Qc r (n', shE, J, M', R')) := by
  refine jCt_ofH hW (by decide) (by decide) (Nat.le_of_ble_eq_true rfl) ?_
  refine jx_aload_n dL_island_0 rfl ?_
  refine jx_iconst dL_island_1 rfl ?_
  refine jx_aload_n dL_island_2 rfl ?_
  refine jx_iload_n dL_island_3 rfl ?_
  refine jx_invVC (as := [.int x1]) dL_island_4 mlL_7 okX10_island viX10_island rfl rfl rfl rfl (Nat.lt_succ_self _) (Nat.zero_le _) (Nat.zero_le _) (Nat.le_of_ble_eq_true rfl) hC ?_ (fun _ _ h => h.elim)
  rintro v t ⟨r, rfl, hr⟩
  obtain ⟨n', J, M', R', rfl⟩ := hq r t hr
  refine jx_i2l dL_island_7 ?_
  refine jx_lastN 0 dL_island_8 rfl rfl (by decide) (by decide) ?_
  refine jx_goto 15 dL_island_9 (by decide) ?_
  refine jx_iconst dL_island_15 rfl ?_
  refine jx_iret dL_island_16 rfl ?_
  exact ⟨rfl, _, _, _, _, _, ⟨r, rfl, hr⟩, rfl⟩
theorem bL_island (hW : jWok w l) {x1 : Int32} {d' : Nat} (hC : jTh w l mX10_island d' [.ref 1000, .int x1] n I L R eI) : jBa w l mL_island (d' + 1) [.ref 1000, .int x1, .ref 1118] n I L R 1 := by
  refine jCt_ofH hW (by decide) (by decide) (Nat.le_of_ble_eq_true rfl) ?_
  refine jx_aload_n dL_island_0 rfl ?_
  refine jx_iconst dL_island_1 rfl ?_
  refine jx_aload_n dL_island_2 rfl ?_
  refine jx_iload_n dL_island_3 rfl ?_
  refine jx_invVC (as := [.int x1]) dL_island_4 mlL_7 okX10_island viX10_island rfl rfl rfl rfl (Nat.lt_succ_self _) (Nat.le_refl _) (Nat.le_refl _) (Nat.le_of_ble_eq_true rfl) hC (fun _ _ h => h.elim) ?_
  rintro E t ⟨rfl, n', hn, rfl⟩
  refine ⟨12, 1, ⟨[], (0, 9, 12, 13), [], eI, rfl, rfl, rfl, by decide, kL13, kIA, fun _ h => by cases h⟩, Or.inl ⟨3, dL_island_12, by decide, rfl⟩, ?_⟩
  refine jx_iconst dL_island_13 rfl ?_
  refine jx_iret dL_island_14 rfl ?_
  exact ⟨rfl, n', hn, rfl⟩
theorem owL_count : jOW mL_count 3 := ⟨jm1 0 rfl, jm5 24 rfl, by decide, ⟨by decide +kernel, by decide +kernel⟩, by decide +kernel, by decide⟩
theorem gL_count (hW : jWok w l) {x1 : Int32} {d' : Nat} {Qc : Int32 → jHS → Prop} (hC : jRi w l mX10_count d' [.ref 1000, .int x1] (n, shE, I, L, R) Qc) (hq : ∀ r t, Qc r t → ∃ n' J M' R', t = (n', shE, J, M', R')) : jGo w l mL_count (d' + 1) [.ref 1000, .int x1, .ref 1118] (n, shE, I, L, R) (fun v n' J M' R' => ∃ r, v = r.toInt64 ∧ Qc r (n', shE, J, M', R')) := by
  refine jCt_ofH hW (by decide) (by decide) (Nat.le_of_ble_eq_true rfl) ?_
  refine jx_aload_n dL_count_0 rfl ?_
  refine jx_iconst dL_count_1 rfl ?_
  refine jx_aload_n dL_count_2 rfl ?_
  refine jx_iload_n dL_count_3 rfl ?_
  refine jx_invVC (as := [.int x1]) dL_count_4 mlL_15 okX10_count viX10_count rfl rfl rfl rfl (Nat.lt_succ_self _) (Nat.zero_le _) (Nat.zero_le _) (Nat.le_of_ble_eq_true rfl) hC ?_ (fun _ _ h => h.elim)
  rintro v t ⟨r, rfl, hr⟩
  obtain ⟨n', J, M', R', rfl⟩ := hq r t hr
  refine jx_i2l dL_count_7 ?_
  refine jx_lastN 0 dL_count_8 rfl rfl (by decide) (by decide) ?_
  refine jx_goto 15 dL_count_9 (by decide) ?_
  refine jx_iconst dL_count_15 rfl ?_
  refine jx_iret dL_count_16 rfl ?_
  exact ⟨rfl, _, _, _, _, _, ⟨r, rfl, hr⟩, rfl⟩
theorem bL_count (hW : jWok w l) {x1 : Int32} {d' : Nat} (hC : jTh w l mX10_count d' [.ref 1000, .int x1] n I L R eN) : jBa w l mL_count (d' + 1) [.ref 1000, .int x1, .ref 1118] n I L R 1 := by
  refine jCt_ofH hW (by decide) (by decide) (Nat.le_of_ble_eq_true rfl) ?_
  refine jx_aload_n dL_count_0 rfl ?_
  refine jx_iconst dL_count_1 rfl ?_
  refine jx_aload_n dL_count_2 rfl ?_
  refine jx_iload_n dL_count_3 rfl ?_
  refine jx_invVC (as := [.int x1]) dL_count_4 mlL_15 okX10_count viX10_count rfl rfl rfl rfl (Nat.lt_succ_self _) (Nat.le_refl _) (Nat.le_refl _) (Nat.le_of_ble_eq_true rfl) hC (fun _ _ h => h.elim) ?_
  rintro E t ⟨rfl, n', hn, rfl⟩
  refine ⟨12, 1, ⟨[], (0, 9, 12, 18), [], eN, rfl, rfl, rfl, by decide, kL18, kNS, fun _ h => by cases h⟩, Or.inl ⟨3, dL_count_12, by decide, rfl⟩, ?_⟩
  refine jx_iconst dL_count_13 rfl ?_
  refine jx_iret dL_count_14 rfl ?_
  exact ⟨rfl, n', hn, rfl⟩
theorem owL_cell : jOW mL_cell 4 := ⟨jm1 0 rfl, jm5 48 rfl, by decide, ⟨by decide +kernel, by decide +kernel⟩, by decide +kernel, by decide⟩
theorem gL_cell (hW : jWok w l) {x1 x2 : Int32} {d' : Nat} {Qc : Int32 → jHS → Prop} (hC : jRi w l mX10_cell d' [.ref 1000, .int x1, .int x2] (n, shE, I, L, R) Qc) (hq : ∀ r t, Qc r t → ∃ n' J M' R', t = (n', shE, J, M', R')) : jGo w l mL_cell (d' + 1) [.ref 1000, .int x1, .int x2, .ref 1118] (n, shE, I, L, R) (fun v n' J M' R' => ∃ r, v = r.toInt64 ∧ Qc r (n', shE, J, M', R')) := by
  refine jCt_ofH hW (by decide) (by decide) (Nat.le_of_ble_eq_true rfl) ?_
  refine jx_aload_n dL_cell_0 rfl ?_
  refine jx_iconst dL_cell_1 rfl ?_
  refine jx_aload_n dL_cell_2 rfl ?_
  refine jx_iload_n dL_cell_3 rfl ?_
  refine jx_iload_n dL_cell_4 rfl ?_
  refine jx_invVC (as := [.int x1, .int x2]) dL_cell_5 mlL_20 okX10_cell viX10_cell rfl rfl rfl rfl (Nat.lt_succ_self _) (Nat.zero_le _) (Nat.zero_le _) (Nat.le_of_ble_eq_true rfl) hC ?_ (fun _ _ h => h.elim)
  rintro v t ⟨r, rfl, hr⟩
  obtain ⟨n', J, M', R', rfl⟩ := hq r t hr
  refine jx_i2l dL_cell_8 ?_
  refine jx_lastN 0 dL_cell_9 rfl rfl (by decide) (by decide) ?_
  refine jx_goto 17 dL_cell_10 (by decide) ?_
  refine jx_iconst dL_cell_17 rfl ?_
  refine jx_iret dL_cell_18 rfl ?_
  exact ⟨rfl, _, _, _, _, _, ⟨r, rfl, hr⟩, rfl⟩
theorem bL_cell (hW : jWok w l) {x1 x2 : Int32} {d' : Nat} (hC : jTh w l mX10_cell d' [.ref 1000, .int x1, .int x2] n I L R eN) : jBa w l mL_cell (d' + 1) [.ref 1000, .int x1, .int x2, .ref 1118] n I L R 1 := by
  refine jCt_ofH hW (by decide) (by decide) (Nat.le_of_ble_eq_true rfl) ?_
  refine jx_aload_n dL_cell_0 rfl ?_
  refine jx_iconst dL_cell_1 rfl ?_
  refine jx_aload_n dL_cell_2 rfl ?_
  refine jx_iload_n dL_cell_3 rfl ?_
  refine jx_iload_n dL_cell_4 rfl ?_
  refine jx_invVC (as := [.int x1, .int x2]) dL_cell_5 mlL_20 okX10_cell viX10_cell rfl rfl rfl rfl (Nat.lt_succ_self _) (Nat.le_refl _) (Nat.le_refl _) (Nat.le_of_ble_eq_true rfl) hC (fun _ _ h => h.elim) ?_
  rintro E t ⟨rfl, n', hn, rfl⟩
  refine ⟨13, 2, ⟨[], (0, 10, 13, 18), [], eN, rfl, rfl, rfl, by decide, kL18, kNS, fun _ h => by cases h⟩, Or.inr ⟨4, dL_cell_13, by decide, rfl⟩, ?_⟩
  refine jx_iconst dL_cell_15 rfl ?_
  refine jx_iret dL_cell_16 rfl ?_
  exact ⟨rfl, n', hn, rfl⟩
theorem owL_quick : jOW mL_quick 4 := ⟨jm1 0 rfl, jm5 66 rfl, by decide, ⟨by decide +kernel, by decide +kernel⟩, by decide +kernel, by decide⟩
theorem gL_quick (hW : jWok w l) {x1 x2 : Int32} {d' : Nat} {Qc : Int32 → jHS → Prop} (hC : jRi w l mX10_quick d' [.ref 1000, .int x1, .int x2] (n, shE, I, L, R) Qc) (hq : ∀ r t, Qc r t → ∃ n' J M' R', t = (n', shE, J, M', R')) : jGo w l mL_quick (d' + 1) [.ref 1000, .int x1, .int x2, .ref 1118] (n, shE, I, L, R) (fun v n' J M' R' => ∃ r, v = (if r = 0 then 0 else 1) ∧ Qc r (n', shE, J, M', R')) := by
  refine jCt_ofH hW (by decide) (by decide) (Nat.le_of_ble_eq_true rfl) ?_
  refine jx_aload_n dL_quick_0 rfl ?_
  refine jx_iconst dL_quick_1 rfl ?_
  refine jx_aload_n dL_quick_2 rfl ?_
  refine jx_iload_n dL_quick_3 rfl ?_
  refine jx_iload_n dL_quick_4 rfl ?_
  refine jx_invVC (as := [.int x1, .int x2]) dL_quick_5 mlL_24 okX10_quick viX10_quick rfl rfl rfl rfl (Nat.lt_succ_self _) (Nat.zero_le _) (Nat.zero_le _) (Nat.le_of_ble_eq_true rfl) hC ?_ (fun _ _ h => h.elim)
  rintro v t ⟨r, rfl, hr⟩
  obtain ⟨n', J, M', R', rfl⟩ := hq r t hr
  refine jx_if_eq 15 dL_quick_8 (by decide) (fun e => ?_) (fun e => ?_)
  · refine jx_lconst dL_quick_15 rfl ?_
    refine jx_lastN 0 dL_quick_16 rfl rfl (by decide) (by decide) ?_
    refine jx_goto 24 dL_quick_17 (by decide) ?_
    refine jx_iconst dL_quick_24 rfl ?_
    refine jx_iret dL_quick_25 rfl ?_
    exact ⟨rfl, _, _, _, _, _, ⟨r, (if_pos e).symm, hr⟩, rfl⟩
  · refine jx_lconst dL_quick_11 rfl ?_
    refine jx_goto 16 dL_quick_12 (by decide) ?_
    refine jx_lastN 0 dL_quick_16 rfl rfl (by decide) (by decide) ?_
    refine jx_goto 24 dL_quick_17 (by decide) ?_
    refine jx_iconst dL_quick_24 rfl ?_
    refine jx_iret dL_quick_25 rfl ?_
    exact ⟨rfl, _, _, _, _, _, ⟨r, (if_neg e).symm, hr⟩, rfl⟩
theorem bL_quick (hW : jWok w l) {x1 x2 : Int32} {d' : Nat} (hC : jTh w l mX10_quick d' [.ref 1000, .int x1, .int x2] n I L R eN) : jBa w l mL_quick (d' + 1) [.ref 1000, .int x1, .int x2, .ref 1118] n I L R 1 := by
  refine jCt_ofH hW (by decide) (by decide) (Nat.le_of_ble_eq_true rfl) ?_
  refine jx_aload_n dL_quick_0 rfl ?_
  refine jx_iconst dL_quick_1 rfl ?_
  refine jx_aload_n dL_quick_2 rfl ?_
  refine jx_iload_n dL_quick_3 rfl ?_
  refine jx_iload_n dL_quick_4 rfl ?_
  refine jx_invVC (as := [.int x1, .int x2]) dL_quick_5 mlL_24 okX10_quick viX10_quick rfl rfl rfl rfl (Nat.lt_succ_self _) (Nat.le_refl _) (Nat.le_refl _) (Nat.le_of_ble_eq_true rfl) hC (fun _ _ h => h.elim) ?_
  rintro E t ⟨rfl, n', hn, rfl⟩
  refine ⟨20, 2, ⟨[], (0, 17, 20, 18), [], eN, rfl, rfl, rfl, by decide, kL18, kNS, fun _ h => by cases h⟩, Or.inr ⟨4, dL_quick_20, by decide, rfl⟩, ?_⟩
  refine jx_iconst dL_quick_22 rfl ?_
  refine jx_iret dL_quick_23 rfl ?_
  exact ⟨rfl, n', hn, rfl⟩
theorem owL_water : jOW mL_water 4 := ⟨jm1 0 rfl, jm5 83 rfl, by decide, ⟨by decide +kernel, by decide +kernel⟩, by decide +kernel, by decide⟩
theorem gL_water (hW : jWok w l) {x1 x2 : Int32} {d' : Nat} {Qc : Int32 → jHS → Prop} (hC : jRi w l mX10_water d' [.ref 1000, .int x1, .int x2] (n, shE, I, L, R) Qc) (hq : ∀ r t, Qc r t → ∃ n' J M' R', t = (n', shE, J, M', R')) : jGo w l mL_water (d' + 1) [.ref 1000, .int x1, .int x2, .ref 1118] (n, shE, I, L, R) (fun v n' J M' R' => ∃ r, v = r.toInt64 ∧ Qc r (n', shE, J, M', R')) := by
  refine jCt_ofH hW (by decide) (by decide) (Nat.le_of_ble_eq_true rfl) ?_
  refine jx_aload_n dL_water_0 rfl ?_
  refine jx_iconst dL_water_1 rfl ?_
  refine jx_aload_n dL_water_2 rfl ?_
  refine jx_iload_n dL_water_3 rfl ?_
  refine jx_iload_n dL_water_4 rfl ?_
  refine jx_invVC (as := [.int x1, .int x2]) dL_water_5 mlL_28 okX10_water viX10_water rfl rfl rfl rfl (Nat.lt_succ_self _) (Nat.zero_le _) (Nat.zero_le _) (Nat.le_of_ble_eq_true rfl) hC ?_ (fun _ _ h => h.elim)
  rintro v t ⟨r, rfl, hr⟩
  obtain ⟨n', J, M', R', rfl⟩ := hq r t hr
  refine jx_i2l dL_water_8 ?_
  refine jx_lastN 0 dL_water_9 rfl rfl (by decide) (by decide) ?_
  refine jx_goto 17 dL_water_10 (by decide) ?_
  refine jx_iconst dL_water_17 rfl ?_
  refine jx_iret dL_water_18 rfl ?_
  exact ⟨rfl, _, _, _, _, _, ⟨r, rfl, hr⟩, rfl⟩
theorem bL_water (hW : jWok w l) {x1 x2 : Int32} {d' : Nat} (hC : jTh w l mX10_water d' [.ref 1000, .int x1, .int x2] n I L R eN) : jBa w l mL_water (d' + 1) [.ref 1000, .int x1, .int x2, .ref 1118] n I L R 1 := by
  refine jCt_ofH hW (by decide) (by decide) (Nat.le_of_ble_eq_true rfl) ?_
  refine jx_aload_n dL_water_0 rfl ?_
  refine jx_iconst dL_water_1 rfl ?_
  refine jx_aload_n dL_water_2 rfl ?_
  refine jx_iload_n dL_water_3 rfl ?_
  refine jx_iload_n dL_water_4 rfl ?_
  refine jx_invVC (as := [.int x1, .int x2]) dL_water_5 mlL_28 okX10_water viX10_water rfl rfl rfl rfl (Nat.lt_succ_self _) (Nat.le_refl _) (Nat.le_refl _) (Nat.le_of_ble_eq_true rfl) hC (fun _ _ h => h.elim) ?_
  rintro E t ⟨rfl, n', hn, rfl⟩
  refine ⟨13, 2, ⟨[], (0, 10, 13, 18), [], eN, rfl, rfl, rfl, by decide, kL18, kNS, fun _ h => by cases h⟩, Or.inr ⟨4, dL_water_13, by decide, rfl⟩, ?_⟩
  refine jx_iconst dL_water_15 rfl ?_
  refine jx_iret dL_water_16 rfl ?_
  exact ⟨rfl, n', hn, rfl⟩
theorem owL_party : jOW mL_party 4 := ⟨jm1 0 rfl, jm5 99 rfl, by decide, ⟨by decide +kernel, by decide +kernel⟩, by decide +kernel, by decide⟩
theorem gL_party (hW : jWok w l) {x1 x2 : Int32} {d' : Nat} {Qc : Int32 → jHS → Prop} (hC : jRi w l mX10_party d' [.ref 1000, .int x1, .int x2] (n, shE, I, L, R) Qc) (hq : ∀ r t, Qc r t → ∃ n' J M' R', t = (n', shE, J, M', R')) : jGo w l mL_party (d' + 1) [.ref 1000, .int x1, .int x2, .ref 1118] (n, shE, I, L, R) (fun v n' J M' R' => ∃ r, v = r.toInt64 ∧ Qc r (n', shE, J, M', R')) := by
  refine jCt_ofH hW (by decide) (by decide) (Nat.le_of_ble_eq_true rfl) ?_
  refine jx_aload_n dL_party_0 rfl ?_
  refine jx_iconst dL_party_1 rfl ?_
  refine jx_aload_n dL_party_2 rfl ?_
  refine jx_iload_n dL_party_3 rfl ?_
  refine jx_iload_n dL_party_4 rfl ?_
  refine jx_invVC (as := [.int x1, .int x2]) dL_party_5 mlL_31 okX10_party viX10_party rfl rfl rfl rfl (Nat.lt_succ_self _) (Nat.zero_le _) (Nat.zero_le _) (Nat.le_of_ble_eq_true rfl) hC ?_ (fun _ _ h => h.elim)
  rintro v t ⟨r, rfl, hr⟩
  obtain ⟨n', J, M', R', rfl⟩ := hq r t hr
  refine jx_i2l dL_party_8 ?_
  refine jx_lastN 0 dL_party_9 rfl rfl (by decide) (by decide) ?_
  refine jx_goto 17 dL_party_10 (by decide) ?_
  refine jx_iconst dL_party_17 rfl ?_
  refine jx_iret dL_party_18 rfl ?_
  exact ⟨rfl, _, _, _, _, _, ⟨r, rfl, hr⟩, rfl⟩
theorem bL_party (hW : jWok w l) {x1 x2 : Int32} {d' : Nat} (hC : jTh w l mX10_party d' [.ref 1000, .int x1, .int x2] n I L R eN) : jBa w l mL_party (d' + 1) [.ref 1000, .int x1, .int x2, .ref 1118] n I L R 1 := by
  refine jCt_ofH hW (by decide) (by decide) (Nat.le_of_ble_eq_true rfl) ?_
  refine jx_aload_n dL_party_0 rfl ?_
  refine jx_iconst dL_party_1 rfl ?_
  refine jx_aload_n dL_party_2 rfl ?_
  refine jx_iload_n dL_party_3 rfl ?_
  refine jx_iload_n dL_party_4 rfl ?_
  refine jx_invVC (as := [.int x1, .int x2]) dL_party_5 mlL_31 okX10_party viX10_party rfl rfl rfl rfl (Nat.lt_succ_self _) (Nat.le_refl _) (Nat.le_refl _) (Nat.le_of_ble_eq_true rfl) hC (fun _ _ h => h.elim) ?_
  rintro E t ⟨rfl, n', hn, rfl⟩
  refine ⟨13, 2, ⟨[], (0, 10, 13, 18), [], eN, rfl, rfl, rfl, by decide, kL18, kNS, fun _ h => by cases h⟩, Or.inr ⟨4, dL_party_13, by decide, rfl⟩, ?_⟩
  refine jx_iconst dL_party_15 rfl ?_
  refine jx_iret dL_party_16 rfl ?_
  exact ⟨rfl, n', hn, rfl⟩
theorem owL_may : jOW mL_may 6 := ⟨jm1 0 rfl, jm5 112 rfl, by decide, ⟨by decide +kernel, by decide +kernel⟩, by decide +kernel, by decide⟩
theorem gL_may (hW : jWok w l) {x1 x2 x3 x4 : Int32} {d' : Nat} {Qc : Int32 → jHS → Prop} (hC : jRi w l mX10_may d' [.ref 1000, .int x1, .int x2, .int x3, .int x4] (n, shE, I, L, R) Qc) (hq : ∀ r t, Qc r t → ∃ n' J M' R', t = (n', shE, J, M', R')) : jGo w l mL_may (d' + 1) [.ref 1000, .int x1, .int x2, .int x3, .int x4, .ref 1118] (n, shE, I, L, R) (fun v n' J M' R' => ∃ r, v = (if r = 0 then 0 else 1) ∧ Qc r (n', shE, J, M', R')) := by
  refine jCt_ofH hW (by decide) (by decide) (Nat.le_of_ble_eq_true rfl) ?_
  refine jx_aload dL_may_0 rfl ?_
  refine jx_iconst dL_may_2 rfl ?_
  refine jx_aload_n dL_may_3 rfl ?_
  refine jx_iload_n dL_may_4 rfl ?_
  refine jx_iload_n dL_may_5 rfl ?_
  refine jx_iload_n dL_may_6 rfl ?_
  refine jx_iload dL_may_7 rfl ?_
  refine jx_invVC (as := [.int x1, .int x2, .int x3, .int x4]) dL_may_9 mlL_34 okX10_may viX10_may rfl rfl rfl rfl (Nat.lt_succ_self _) (Nat.zero_le _) (Nat.zero_le _) (Nat.le_of_ble_eq_true rfl) hC ?_ (fun _ _ h => h.elim)
  rintro v t ⟨r, rfl, hr⟩
  obtain ⟨n', J, M', R', rfl⟩ := hq r t hr
  refine jx_if_eq 19 dL_may_12 (by decide) (fun e => ?_) (fun e => ?_)
  · refine jx_lconst dL_may_19 rfl ?_
    refine jx_lastN 0 dL_may_20 rfl rfl (by decide) (by decide) ?_
    refine jx_goto 28 dL_may_21 (by decide) ?_
    refine jx_iconst dL_may_28 rfl ?_
    refine jx_iret dL_may_29 rfl ?_
    exact ⟨rfl, _, _, _, _, _, ⟨r, (if_pos e).symm, hr⟩, rfl⟩
  · refine jx_lconst dL_may_15 rfl ?_
    refine jx_goto 20 dL_may_16 (by decide) ?_
    refine jx_lastN 0 dL_may_20 rfl rfl (by decide) (by decide) ?_
    refine jx_goto 28 dL_may_21 (by decide) ?_
    refine jx_iconst dL_may_28 rfl ?_
    refine jx_iret dL_may_29 rfl ?_
    exact ⟨rfl, _, _, _, _, _, ⟨r, (if_neg e).symm, hr⟩, rfl⟩
theorem bL_may (hW : jWok w l) {x1 x2 x3 x4 : Int32} {d' : Nat} (hC : jTh w l mX10_may d' [.ref 1000, .int x1, .int x2, .int x3, .int x4] n I L R eN) : jBa w l mL_may (d' + 1) [.ref 1000, .int x1, .int x2, .int x3, .int x4, .ref 1118] n I L R 1 := by
  refine jCt_ofH hW (by decide) (by decide) (Nat.le_of_ble_eq_true rfl) ?_
  refine jx_aload dL_may_0 rfl ?_
  refine jx_iconst dL_may_2 rfl ?_
  refine jx_aload_n dL_may_3 rfl ?_
  refine jx_iload_n dL_may_4 rfl ?_
  refine jx_iload_n dL_may_5 rfl ?_
  refine jx_iload_n dL_may_6 rfl ?_
  refine jx_iload dL_may_7 rfl ?_
  refine jx_invVC (as := [.int x1, .int x2, .int x3, .int x4]) dL_may_9 mlL_34 okX10_may viX10_may rfl rfl rfl rfl (Nat.lt_succ_self _) (Nat.le_refl _) (Nat.le_refl _) (Nat.le_of_ble_eq_true rfl) hC (fun _ _ h => h.elim) ?_
  rintro E t ⟨rfl, n', hn, rfl⟩
  refine ⟨24, 2, ⟨[], (0, 21, 24, 18), [], eN, rfl, rfl, rfl, by decide, kL18, kNS, fun _ h => by cases h⟩, Or.inr ⟨6, dL_may_24, by decide, rfl⟩, ?_⟩
  refine jx_iconst dL_may_26 rfl ?_
  refine jx_iret dL_may_27 rfl ?_
  exact ⟨rfl, n', hn, rfl⟩
theorem owL_cross : jOW mL_cross 5 := ⟨jm1 0 rfl, jm5 121 rfl, by decide, ⟨by decide +kernel, by decide +kernel⟩, by decide +kernel, by decide⟩
theorem gL_cross (hW : jWok w l) {x1 x2 x3 : Int32} {d' : Nat} {Qc : Int32 → jHS → Prop} (hC : jRi w l mX10_cross d' [.ref 1000, .int x1, .int x2, .int x3] (n, shE, I, L, R) Qc) (hq : ∀ r t, Qc r t → ∃ n' J M' R', t = (n', shE, J, M', R')) : jGo w l mL_cross (d' + 1) [.ref 1000, .int x1, .int x2, .int x3, .ref 1118] (n, shE, I, L, R) (fun v n' J M' R' => ∃ r, v = r.toInt64 ∧ Qc r (n', shE, J, M', R')) := by
  refine jCt_ofH hW (by decide) (by decide) (Nat.le_of_ble_eq_true rfl) ?_
  refine jx_aload dL_cross_0 rfl ?_
  refine jx_iconst dL_cross_2 rfl ?_
  refine jx_aload_n dL_cross_3 rfl ?_
  refine jx_iload_n dL_cross_4 rfl ?_
  refine jx_iload_n dL_cross_5 rfl ?_
  refine jx_iload_n dL_cross_6 rfl ?_
  refine jx_invVC (as := [.int x1, .int x2, .int x3]) dL_cross_7 mlL_38 okX10_cross viX10_cross rfl rfl rfl rfl (Nat.lt_succ_self _) (Nat.zero_le _) (Nat.zero_le _) (Nat.le_of_ble_eq_true rfl) hC ?_ (fun _ _ h => h.elim)
  rintro v t ⟨r, rfl, hr⟩
  obtain ⟨n', J, M', R', rfl⟩ := hq r t hr
  refine jx_i2l dL_cross_10 ?_
  refine jx_lastN 0 dL_cross_11 rfl rfl (by decide) (by decide) ?_
  refine jx_goto 19 dL_cross_12 (by decide) ?_
  refine jx_iconst dL_cross_19 rfl ?_
  refine jx_iret dL_cross_20 rfl ?_
  exact ⟨rfl, _, _, _, _, _, ⟨r, rfl, hr⟩, rfl⟩
theorem bL_cross (hW : jWok w l) {x1 x2 x3 : Int32} {d' : Nat} (hC : jTh w l mX10_cross d' [.ref 1000, .int x1, .int x2, .int x3] n I L R eN) : jBa w l mL_cross (d' + 1) [.ref 1000, .int x1, .int x2, .int x3, .ref 1118] n I L R 1 := by
  refine jCt_ofH hW (by decide) (by decide) (Nat.le_of_ble_eq_true rfl) ?_
  refine jx_aload dL_cross_0 rfl ?_
  refine jx_iconst dL_cross_2 rfl ?_
  refine jx_aload_n dL_cross_3 rfl ?_
  refine jx_iload_n dL_cross_4 rfl ?_
  refine jx_iload_n dL_cross_5 rfl ?_
  refine jx_iload_n dL_cross_6 rfl ?_
  refine jx_invVC (as := [.int x1, .int x2, .int x3]) dL_cross_7 mlL_38 okX10_cross viX10_cross rfl rfl rfl rfl (Nat.lt_succ_self _) (Nat.le_refl _) (Nat.le_refl _) (Nat.le_of_ble_eq_true rfl) hC (fun _ _ h => h.elim) ?_
  rintro E t ⟨rfl, n', hn, rfl⟩
  refine ⟨15, 2, ⟨[], (0, 12, 15, 18), [], eN, rfl, rfl, rfl, by decide, kL18, kNS, fun _ h => by cases h⟩, Or.inr ⟨5, dL_cross_15, by decide, rfl⟩, ?_⟩
  refine jx_iconst dL_cross_17 rfl ?_
  refine jx_iret dL_cross_18 rfl ?_
  exact ⟨rfl, n', hn, rfl⟩
theorem owL_way : jOW mL_way 3 := ⟨jm1 0 rfl, jm5 148 rfl, by decide, ⟨by decide +kernel, by decide +kernel⟩, by decide +kernel, by decide⟩
theorem gL_way (hW : jWok w l) {x1 : Int32} {d' : Nat} {Qc : Int32 → jHS → Prop} (hC : jRi w l mX10_way d' [.ref 1000, .int x1] (n, shE, I, L, R) Qc) (hq : ∀ r t, Qc r t → ∃ n' J M' R', t = (n', shE, J, M', R')) : jGo w l mL_way (d' + 1) [.ref 1000, .int x1, .ref 1118] (n, shE, I, L, R) (fun v n' J M' R' => ∃ r, v = r.toInt64 ∧ Qc r (n', shE, J, M', R')) := by
  refine jCt_ofH hW (by decide) (by decide) (Nat.le_of_ble_eq_true rfl) ?_
  refine jx_aload_n dL_way_0 rfl ?_
  refine jx_iconst dL_way_1 rfl ?_
  refine jx_aload_n dL_way_2 rfl ?_
  refine jx_iload_n dL_way_3 rfl ?_
  refine jx_invVC (as := [.int x1]) dL_way_4 mlL_42 okX10_way viX10_way rfl rfl rfl rfl (Nat.lt_succ_self _) (Nat.zero_le _) (Nat.zero_le _) (Nat.le_of_ble_eq_true rfl) hC ?_ (fun _ _ h => h.elim)
  rintro v t ⟨r, rfl, hr⟩
  obtain ⟨n', J, M', R', rfl⟩ := hq r t hr
  refine jx_i2l dL_way_7 ?_
  refine jx_lastN 0 dL_way_8 rfl rfl (by decide) (by decide) ?_
  refine jx_goto 15 dL_way_9 (by decide) ?_
  refine jx_iconst dL_way_15 rfl ?_
  refine jx_iret dL_way_16 rfl ?_
  exact ⟨rfl, _, _, _, _, _, ⟨r, rfl, hr⟩, rfl⟩
theorem bL_way (hW : jWok w l) {x1 : Int32} {d' : Nat} (hC : jTh w l mX10_way d' [.ref 1000, .int x1] n I L R eN) : jBa w l mL_way (d' + 1) [.ref 1000, .int x1, .ref 1118] n I L R 1 := by
  refine jCt_ofH hW (by decide) (by decide) (Nat.le_of_ble_eq_true rfl) ?_
  refine jx_aload_n dL_way_0 rfl ?_
  refine jx_iconst dL_way_1 rfl ?_
  refine jx_aload_n dL_way_2 rfl ?_
  refine jx_iload_n dL_way_3 rfl ?_
  refine jx_invVC (as := [.int x1]) dL_way_4 mlL_42 okX10_way viX10_way rfl rfl rfl rfl (Nat.lt_succ_self _) (Nat.le_refl _) (Nat.le_refl _) (Nat.le_of_ble_eq_true rfl) hC (fun _ _ h => h.elim) ?_
  rintro E t ⟨rfl, n', hn, rfl⟩
  refine ⟨12, 1, ⟨[], (0, 9, 12, 18), [], eN, rfl, rfl, rfl, by decide, kL18, kNS, fun _ h => by cases h⟩, Or.inl ⟨3, dL_way_12, by decide, rfl⟩, ?_⟩
  refine jx_iconst dL_way_13 rfl ?_
  refine jx_iret dL_way_14 rfl ?_
  exact ⟨rfl, n', hn, rfl⟩
theorem owL_starts : jOW mL_starts 5 := ⟨jm1 0 rfl, jm5 157 rfl, by decide, ⟨by decide +kernel, by decide +kernel⟩, by decide +kernel, by decide⟩
theorem gL_starts (hW : jWok w l) {x1 x2 x3 : Int32} {d' : Nat} {Qc : Int32 → jHS → Prop} (hC : jRi w l mX10_starts d' [.ref 1000, .int x1, .int x2, .int x3] (n, shE, I, L, R) Qc) (hq : ∀ r t, Qc r t → ∃ n' J M' R', t = (n', shE, J, M', R')) : jGo w l mL_starts (d' + 1) [.ref 1000, .int x1, .int x2, .int x3, .ref 1118] (n, shE, I, L, R) (fun v n' J M' R' => ∃ r, v = r.toInt64 ∧ Qc r (n', shE, J, M', R')) := by
  refine jCt_ofH hW (by decide) (by decide) (Nat.le_of_ble_eq_true rfl) ?_
  refine jx_aload dL_starts_0 rfl ?_
  refine jx_iconst dL_starts_2 rfl ?_
  refine jx_aload_n dL_starts_3 rfl ?_
  refine jx_iload_n dL_starts_4 rfl ?_
  refine jx_iload_n dL_starts_5 rfl ?_
  refine jx_iload_n dL_starts_6 rfl ?_
  refine jx_invVC (as := [.int x1, .int x2, .int x3]) dL_starts_7 mlL_45 okX10_starts viX10_starts rfl rfl rfl rfl (Nat.lt_succ_self _) (Nat.zero_le _) (Nat.zero_le _) (Nat.le_of_ble_eq_true rfl) hC ?_ (fun _ _ h => h.elim)
  rintro v t ⟨r, rfl, hr⟩
  obtain ⟨n', J, M', R', rfl⟩ := hq r t hr
  refine jx_i2l dL_starts_10 ?_
  refine jx_lastN 0 dL_starts_11 rfl rfl (by decide) (by decide) ?_
  refine jx_goto 19 dL_starts_12 (by decide) ?_
  refine jx_iconst dL_starts_19 rfl ?_
  refine jx_iret dL_starts_20 rfl ?_
  exact ⟨rfl, _, _, _, _, _, ⟨r, rfl, hr⟩, rfl⟩
theorem bL_starts (hW : jWok w l) {x1 x2 x3 : Int32} {d' : Nat} (hC : jTh w l mX10_starts d' [.ref 1000, .int x1, .int x2, .int x3] n I L R eN) : jBa w l mL_starts (d' + 1) [.ref 1000, .int x1, .int x2, .int x3, .ref 1118] n I L R 1 := by
  refine jCt_ofH hW (by decide) (by decide) (Nat.le_of_ble_eq_true rfl) ?_
  refine jx_aload dL_starts_0 rfl ?_
  refine jx_iconst dL_starts_2 rfl ?_
  refine jx_aload_n dL_starts_3 rfl ?_
  refine jx_iload_n dL_starts_4 rfl ?_
  refine jx_iload_n dL_starts_5 rfl ?_
  refine jx_iload_n dL_starts_6 rfl ?_
  refine jx_invVC (as := [.int x1, .int x2, .int x3]) dL_starts_7 mlL_45 okX10_starts viX10_starts rfl rfl rfl rfl (Nat.lt_succ_self _) (Nat.le_refl _) (Nat.le_refl _) (Nat.le_of_ble_eq_true rfl) hC (fun _ _ h => h.elim) ?_
  rintro E t ⟨rfl, n', hn, rfl⟩
  refine ⟨15, 2, ⟨[], (0, 12, 15, 18), [], eN, rfl, rfl, rfl, by decide, kL18, kNS, fun _ h => by cases h⟩, Or.inr ⟨5, dL_starts_15, by decide, rfl⟩, ?_⟩
  refine jx_iconst dL_starts_17 rfl ?_
  refine jx_iret dL_starts_18 rfl ?_
  exact ⟨rfl, n', hn, rfl⟩
theorem owL_book : jOW mL_book 5 := ⟨jm1 0 rfl, jm5 170 rfl, by decide, ⟨by decide +kernel, by decide +kernel⟩, by decide +kernel, by decide⟩
theorem gL_book (hW : jWok w l) {x1 x2 x3 : Int32} {d' : Nat} {Qc : Int32 → jHS → Prop} (hC : jRi w l mX10_book d' [.ref 1000, .int x1, .int x2, .int x3] (n, shE, I, L, R) Qc) (hq : ∀ r t, Qc r t → ∃ n' J M' R', t = (n', shE, J, M', R')) : jGo w l mL_book (d' + 1) [.ref 1000, .int x1, .int x2, .int x3, .ref 1118] (n, shE, I, L, R) (fun v n' J M' R' => ∃ r, v = r.toInt64 ∧ Qc r (n', shE, J, M', R')) := by
  refine jCt_ofH hW (by decide) (by decide) (Nat.le_of_ble_eq_true rfl) ?_
  refine jx_aload dL_book_0 rfl ?_
  refine jx_iconst dL_book_2 rfl ?_
  refine jx_aload_n dL_book_3 rfl ?_
  refine jx_iload_n dL_book_4 rfl ?_
  refine jx_iload_n dL_book_5 rfl ?_
  refine jx_iload_n dL_book_6 rfl ?_
  refine jx_invVC (as := [.int x1, .int x2, .int x3]) dL_book_7 mlL_48 okX10_book viX10_book rfl rfl rfl rfl (Nat.lt_succ_self _) (Nat.zero_le _) (Nat.zero_le _) (Nat.le_of_ble_eq_true rfl) hC ?_ (fun _ _ h => h.elim)
  rintro v t ⟨r, rfl, hr⟩
  obtain ⟨n', J, M', R', rfl⟩ := hq r t hr
  refine jx_i2l dL_book_10 ?_
  refine jx_lastN 0 dL_book_11 rfl rfl (by decide) (by decide) ?_
  refine jx_goto 19 dL_book_12 (by decide) ?_
  refine jx_iconst dL_book_19 rfl ?_
  refine jx_iret dL_book_20 rfl ?_
  exact ⟨rfl, _, _, _, _, _, ⟨r, rfl, hr⟩, rfl⟩
theorem bL_book (hW : jWok w l) {x1 x2 x3 : Int32} {d' : Nat} (hC : jTh w l mX10_book d' [.ref 1000, .int x1, .int x2, .int x3] n I L R eN) : jBa w l mL_book (d' + 1) [.ref 1000, .int x1, .int x2, .int x3, .ref 1118] n I L R 1 := by
  refine jCt_ofH hW (by decide) (by decide) (Nat.le_of_ble_eq_true rfl) ?_
  refine jx_aload dL_book_0 rfl ?_
  refine jx_iconst dL_book_2 rfl ?_
  refine jx_aload_n dL_book_3 rfl ?_
  refine jx_iload_n dL_book_4 rfl ?_
  refine jx_iload_n dL_book_5 rfl ?_
  refine jx_iload_n dL_book_6 rfl ?_
  refine jx_invVC (as := [.int x1, .int x2, .int x3]) dL_book_7 mlL_48 okX10_book viX10_book rfl rfl rfl rfl (Nat.lt_succ_self _) (Nat.le_refl _) (Nat.le_refl _) (Nat.le_of_ble_eq_true rfl) hC (fun _ _ h => h.elim) ?_
  rintro E t ⟨rfl, n', hn, rfl⟩
  refine ⟨15, 2, ⟨[], (0, 12, 15, 18), [], eN, rfl, rfl, rfl, by decide, kL18, kNS, fun _ h => by cases h⟩, Or.inr ⟨5, dL_book_15, by decide, rfl⟩, ?_⟩
  refine jx_iconst dL_book_17 rfl ?_
  refine jx_iret dL_book_18 rfl ?_
  exact ⟨rfl, n', hn, rfl⟩
theorem owL_booked : jOW mL_booked 4 := ⟨jm1 0 rfl, jm5 190 rfl, by decide, ⟨by decide +kernel, by decide +kernel⟩, by decide +kernel, by decide⟩
theorem gL_booked (hW : jWok w l) {x1 x2 : Int32} {d' : Nat} {Qc : Int32 → jHS → Prop} (hC : jRi w l mX10_booked d' [.ref 1000, .int x1, .int x2] (n, shE, I, L, R) Qc) (hq : ∀ r t, Qc r t → ∃ n' J M' R', t = (n', shE, J, M', R')) : jGo w l mL_booked (d' + 1) [.ref 1000, .int x1, .int x2, .ref 1118] (n, shE, I, L, R) (fun v n' J M' R' => ∃ r, v = r.toInt64 ∧ Qc r (n', shE, J, M', R')) := by
  refine jCt_ofH hW (by decide) (by decide) (Nat.le_of_ble_eq_true rfl) ?_
  refine jx_aload_n dL_booked_0 rfl ?_
  refine jx_iconst dL_booked_1 rfl ?_
  refine jx_aload_n dL_booked_2 rfl ?_
  refine jx_iload_n dL_booked_3 rfl ?_
  refine jx_iload_n dL_booked_4 rfl ?_
  refine jx_invVC (as := [.int x1, .int x2]) dL_booked_5 mlL_51 okX10_booked viX10_booked rfl rfl rfl rfl (Nat.lt_succ_self _) (Nat.zero_le _) (Nat.zero_le _) (Nat.le_of_ble_eq_true rfl) hC ?_ (fun _ _ h => h.elim)
  rintro v t ⟨r, rfl, hr⟩
  obtain ⟨n', J, M', R', rfl⟩ := hq r t hr
  refine jx_i2l dL_booked_8 ?_
  refine jx_lastN 0 dL_booked_9 rfl rfl (by decide) (by decide) ?_
  refine jx_goto 17 dL_booked_10 (by decide) ?_
  refine jx_iconst dL_booked_17 rfl ?_
  refine jx_iret dL_booked_18 rfl ?_
  exact ⟨rfl, _, _, _, _, _, ⟨r, rfl, hr⟩, rfl⟩
theorem bL_booked (hW : jWok w l) {x1 x2 : Int32} {d' : Nat} (hC : jTh w l mX10_booked d' [.ref 1000, .int x1, .int x2] n I L R eN) : jBa w l mL_booked (d' + 1) [.ref 1000, .int x1, .int x2, .ref 1118] n I L R 1 := by
  refine jCt_ofH hW (by decide) (by decide) (Nat.le_of_ble_eq_true rfl) ?_
  refine jx_aload_n dL_booked_0 rfl ?_
  refine jx_iconst dL_booked_1 rfl ?_
  refine jx_aload_n dL_booked_2 rfl ?_
  refine jx_iload_n dL_booked_3 rfl ?_
  refine jx_iload_n dL_booked_4 rfl ?_
  refine jx_invVC (as := [.int x1, .int x2]) dL_booked_5 mlL_51 okX10_booked viX10_booked rfl rfl rfl rfl (Nat.lt_succ_self _) (Nat.le_refl _) (Nat.le_refl _) (Nat.le_of_ble_eq_true rfl) hC (fun _ _ h => h.elim) ?_
  rintro E t ⟨rfl, n', hn, rfl⟩
  refine ⟨13, 2, ⟨[], (0, 10, 13, 18), [], eN, rfl, rfl, rfl, by decide, kL18, kNS, fun _ h => by cases h⟩, Or.inr ⟨4, dL_booked_13, by decide, rfl⟩, ?_⟩
  refine jx_iconst dL_booked_15 rfl ?_
  refine jx_iret dL_booked_16 rfl ?_
  exact ⟨rfl, n', hn, rfl⟩
theorem owL_at : jOW mL_at 4 := ⟨jm1 0 rfl, jm5 203 rfl, by decide, ⟨by decide +kernel, by decide +kernel⟩, by decide +kernel, by decide⟩
theorem gL_at (hW : jWok w l) {x1 x2 : Int32} {d' : Nat} {Qc : Int32 → jHS → Prop} (hC : jRi w l mX10_at d' [.ref 1000, .int x1, .int x2] (n, shE, I, L, R) Qc) (hq : ∀ r t, Qc r t → ∃ n' J M' R', t = (n', shE, J, M', R')) : jGo w l mL_at (d' + 1) [.ref 1000, .int x1, .int x2, .ref 1118] (n, shE, I, L, R) (fun v n' J M' R' => ∃ r, v = r.toInt64 ∧ Qc r (n', shE, J, M', R')) := by
  refine jCt_ofH hW (by decide) (by decide) (Nat.le_of_ble_eq_true rfl) ?_
  refine jx_aload_n dL_at_0 rfl ?_
  refine jx_iconst dL_at_1 rfl ?_
  refine jx_aload_n dL_at_2 rfl ?_
  refine jx_iload_n dL_at_3 rfl ?_
  refine jx_iload_n dL_at_4 rfl ?_
  refine jx_invVC (as := [.int x1, .int x2]) dL_at_5 mlL_54 okX10_at viX10_at rfl rfl rfl rfl (Nat.lt_succ_self _) (Nat.zero_le _) (Nat.zero_le _) (Nat.le_of_ble_eq_true rfl) hC ?_ (fun _ _ h => h.elim)
  rintro v t ⟨r, rfl, hr⟩
  obtain ⟨n', J, M', R', rfl⟩ := hq r t hr
  refine jx_i2l dL_at_8 ?_
  refine jx_lastN 0 dL_at_9 rfl rfl (by decide) (by decide) ?_
  refine jx_goto 17 dL_at_10 (by decide) ?_
  refine jx_iconst dL_at_17 rfl ?_
  refine jx_iret dL_at_18 rfl ?_
  exact ⟨rfl, _, _, _, _, _, ⟨r, rfl, hr⟩, rfl⟩
theorem bL_at (hW : jWok w l) {x1 x2 : Int32} {d' : Nat} (hC : jTh w l mX10_at d' [.ref 1000, .int x1, .int x2] n I L R eN) : jBa w l mL_at (d' + 1) [.ref 1000, .int x1, .int x2, .ref 1118] n I L R 1 := by
  refine jCt_ofH hW (by decide) (by decide) (Nat.le_of_ble_eq_true rfl) ?_
  refine jx_aload_n dL_at_0 rfl ?_
  refine jx_iconst dL_at_1 rfl ?_
  refine jx_aload_n dL_at_2 rfl ?_
  refine jx_iload_n dL_at_3 rfl ?_
  refine jx_iload_n dL_at_4 rfl ?_
  refine jx_invVC (as := [.int x1, .int x2]) dL_at_5 mlL_54 okX10_at viX10_at rfl rfl rfl rfl (Nat.lt_succ_self _) (Nat.le_refl _) (Nat.le_refl _) (Nat.le_of_ble_eq_true rfl) hC (fun _ _ h => h.elim) ?_
  rintro E t ⟨rfl, n', hn, rfl⟩
  refine ⟨13, 2, ⟨[], (0, 10, 13, 18), [], eN, rfl, rfl, rfl, by decide, kL18, kNS, fun _ h => by cases h⟩, Or.inr ⟨4, dL_at_13, by decide, rfl⟩, ?_⟩
  refine jx_iconst dL_at_15 rfl ?_
  refine jx_iret dL_at_16 rfl ?_
  exact ⟨rfl, n', hn, rfl⟩
theorem owL_met : jOW mL_met 4 := ⟨jm1 0 rfl, jm5 214 rfl, by decide, ⟨by decide +kernel, by decide +kernel⟩, by decide +kernel, by decide⟩
theorem gL_met (hW : jWok w l) {x1 x2 : Int32} {d' : Nat} {Qc : Int32 → jHS → Prop} (hC : jRi w l mX10_met d' [.ref 1000, .int x1, .int x2] (n, shE, I, L, R) Qc) (hq : ∀ r t, Qc r t → ∃ n' J M' R', t = (n', shE, J, M', R')) : jGo w l mL_met (d' + 1) [.ref 1000, .int x1, .int x2, .ref 1118] (n, shE, I, L, R) (fun v n' J M' R' => ∃ r, v = r.toInt64 ∧ Qc r (n', shE, J, M', R')) := by
  refine jCt_ofH hW (by decide) (by decide) (Nat.le_of_ble_eq_true rfl) ?_
  refine jx_aload_n dL_met_0 rfl ?_
  refine jx_iconst dL_met_1 rfl ?_
  refine jx_aload_n dL_met_2 rfl ?_
  refine jx_iload_n dL_met_3 rfl ?_
  refine jx_iload_n dL_met_4 rfl ?_
  refine jx_invVC (as := [.int x1, .int x2]) dL_met_5 mlL_57 okX10_met viX10_met rfl rfl rfl rfl (Nat.lt_succ_self _) (Nat.zero_le _) (Nat.zero_le _) (Nat.le_of_ble_eq_true rfl) hC ?_ (fun _ _ h => h.elim)
  rintro v t ⟨r, rfl, hr⟩
  obtain ⟨n', J, M', R', rfl⟩ := hq r t hr
  refine jx_i2l dL_met_8 ?_
  refine jx_lastN 0 dL_met_9 rfl rfl (by decide) (by decide) ?_
  refine jx_goto 21 dL_met_10 (by decide) ?_
  refine jx_iconst dL_met_21 rfl ?_
  refine jx_iret dL_met_22 rfl ?_
  exact ⟨rfl, _, _, _, _, _, ⟨r, rfl, hr⟩, rfl⟩
theorem bL_met (hW : jWok w l) {x1 x2 : Int32} {d' : Nat} (hC : jTh w l mX10_met d' [.ref 1000, .int x1, .int x2] n I L R eN) : jBa w l mL_met (d' + 1) [.ref 1000, .int x1, .int x2, .ref 1118] n I L R 1 := by
  refine jCt_ofH hW (by decide) (by decide) (Nat.le_of_ble_eq_true rfl) ?_
  refine jx_aload_n dL_met_0 rfl ?_
  refine jx_iconst dL_met_1 rfl ?_
  refine jx_aload_n dL_met_2 rfl ?_
  refine jx_iload_n dL_met_3 rfl ?_
  refine jx_iload_n dL_met_4 rfl ?_
  refine jx_invVC (as := [.int x1, .int x2]) dL_met_5 mlL_57 okX10_met viX10_met rfl rfl rfl rfl (Nat.lt_succ_self _) (Nat.le_refl _) (Nat.le_refl _) (Nat.le_of_ble_eq_true rfl) hC (fun _ _ h => h.elim) ?_
  rintro E t ⟨rfl, n', hn, rfl⟩
  refine ⟨13, 2, ⟨[], (0, 10, 13, 18), [(0, 10, 17, 13)], eN, rfl, rfl, rfl, by decide, kL18, kNS, fun _ h => by cases h⟩, Or.inr ⟨4, dL_met_13, by decide, rfl⟩, ?_⟩
  refine jx_iconst dL_met_15 rfl ?_
  refine jx_iret dL_met_16 rfl ?_
  exact ⟨rfl, n', hn, rfl⟩
theorem b2L_met (hW : jWok w l) (hNc : va_Nc eI eN w.1) {x1 x2 : Int32} {d' : Nat} (hC : jTh w l mX10_met d' [.ref 1000, .int x1, .int x2] n I L R eI) : jBa w l mL_met (d' + 1) [.ref 1000, .int x1, .int x2, .ref 1118] n I L R 2 := by
  refine jCt_ofH hW (by decide) (by decide) (Nat.le_of_ble_eq_true rfl) ?_
  refine jx_aload_n dL_met_0 rfl ?_
  refine jx_iconst dL_met_1 rfl ?_
  refine jx_aload_n dL_met_2 rfl ?_
  refine jx_iload_n dL_met_3 rfl ?_
  refine jx_iload_n dL_met_4 rfl ?_
  refine jx_invVC (as := [.int x1, .int x2]) dL_met_5 mlL_57 okX10_met viX10_met rfl rfl rfl rfl (Nat.lt_succ_self _) (Nat.le_refl _) (Nat.le_refl _) (Nat.le_of_ble_eq_true rfl) hC (fun _ _ h => h.elim) ?_
  rintro E t ⟨rfl, n', hn, rfl⟩
  refine ⟨17, 2, ⟨[(0, 10, 13, 18)], (0, 10, 17, 13), [], eI, rfl, rfl, rfl, by decide, kL13, kIA, fun z hz => by rw [List.mem_singleton.mp hz]; exact ⟨by decide, eN, kL18, hNc⟩⟩, Or.inr ⟨4, dL_met_17, by decide, rfl⟩, ?_⟩
  refine jx_iconst dL_met_19 rfl ?_
  refine jx_iret dL_met_20 rfl ?_
  exact ⟨rfl, n', hn, rfl⟩
theorem owL_crowded : jOW mL_crowded 3 := ⟨jm1 0 rfl, jm5 222 rfl, by decide, ⟨by decide +kernel, by decide +kernel⟩, by decide +kernel, by decide⟩
theorem gL_crowded (hW : jWok w l) {x1 : Int32} {d' : Nat} {Qc : Int32 → jHS → Prop} (hC : jRi w l mX10_crowded d' [.ref 1000, .int x1] (n, shE, I, L, R) Qc) (hq : ∀ r t, Qc r t → ∃ n' J M' R', t = (n', shE, J, M', R')) : jGo w l mL_crowded (d' + 1) [.ref 1000, .int x1, .ref 1118] (n, shE, I, L, R) (fun v n' J M' R' => ∃ r, v = r.toInt64 ∧ Qc r (n', shE, J, M', R')) := by
  refine jCt_ofH hW (by decide) (by decide) (Nat.le_of_ble_eq_true rfl) ?_
  refine jx_aload_n dL_crowded_0 rfl ?_
  refine jx_iconst dL_crowded_1 rfl ?_
  refine jx_aload_n dL_crowded_2 rfl ?_
  refine jx_iload_n dL_crowded_3 rfl ?_
  refine jx_invVC (as := [.int x1]) dL_crowded_4 mlL_60 okX10_crowded viX10_crowded rfl rfl rfl rfl (Nat.lt_succ_self _) (Nat.zero_le _) (Nat.zero_le _) (Nat.le_of_ble_eq_true rfl) hC ?_ (fun _ _ h => h.elim)
  rintro v t ⟨r, rfl, hr⟩
  obtain ⟨n', J, M', R', rfl⟩ := hq r t hr
  refine jx_i2l dL_crowded_7 ?_
  refine jx_lastN 0 dL_crowded_8 rfl rfl (by decide) (by decide) ?_
  refine jx_goto 15 dL_crowded_9 (by decide) ?_
  refine jx_iconst dL_crowded_15 rfl ?_
  refine jx_iret dL_crowded_16 rfl ?_
  exact ⟨rfl, _, _, _, _, _, ⟨r, rfl, hr⟩, rfl⟩
theorem bL_crowded (hW : jWok w l) {x1 : Int32} {d' : Nat} (hC : jTh w l mX10_crowded d' [.ref 1000, .int x1] n I L R eN) : jBa w l mL_crowded (d' + 1) [.ref 1000, .int x1, .ref 1118] n I L R 1 := by
  refine jCt_ofH hW (by decide) (by decide) (Nat.le_of_ble_eq_true rfl) ?_
  refine jx_aload_n dL_crowded_0 rfl ?_
  refine jx_iconst dL_crowded_1 rfl ?_
  refine jx_aload_n dL_crowded_2 rfl ?_
  refine jx_iload_n dL_crowded_3 rfl ?_
  refine jx_invVC (as := [.int x1]) dL_crowded_4 mlL_60 okX10_crowded viX10_crowded rfl rfl rfl rfl (Nat.lt_succ_self _) (Nat.le_refl _) (Nat.le_refl _) (Nat.le_of_ble_eq_true rfl) hC (fun _ _ h => h.elim) ?_
  rintro E t ⟨rfl, n', hn, rfl⟩
  refine ⟨12, 1, ⟨[], (0, 9, 12, 18), [], eN, rfl, rfl, rfl, by decide, kL18, kNS, fun _ h => by cases h⟩, Or.inl ⟨3, dL_crowded_12, by decide, rfl⟩, ?_⟩
  refine jx_iconst dL_crowded_13 rfl ?_
  refine jx_iret dL_crowded_14 rfl ?_
  exact ⟨rfl, n', hn, rfl⟩
theorem owL_leave : jOW mL_leave 3 := ⟨jm1 0 rfl, jm5 234 rfl, by decide, ⟨by decide +kernel, by decide +kernel⟩, by decide +kernel, by decide⟩
theorem gL_leave (hW : jWok w l) {x1 : Int32} {d' : Nat} {Qc : Int32 → jHS → Prop} (hC : jRi w l mX10_leave d' [.ref 1000, .int x1] (n, shE, I, L, R) Qc) (hq : ∀ r t, Qc r t → ∃ n' J M' R', t = (n', shE, J, M', R')) : jGo w l mL_leave (d' + 1) [.ref 1000, .int x1, .ref 1118] (n, shE, I, L, R) (fun v n' J M' R' => ∃ r, v = r.toInt64 ∧ Qc r (n', shE, J, M', R')) := by
  refine jCt_ofH hW (by decide) (by decide) (Nat.le_of_ble_eq_true rfl) ?_
  refine jx_aload_n dL_leave_0 rfl ?_
  refine jx_iconst dL_leave_1 rfl ?_
  refine jx_aload_n dL_leave_2 rfl ?_
  refine jx_iload_n dL_leave_3 rfl ?_
  refine jx_invVC (as := [.int x1]) dL_leave_4 mlL_63 okX10_leave viX10_leave rfl rfl rfl rfl (Nat.lt_succ_self _) (Nat.zero_le _) (Nat.zero_le _) (Nat.le_of_ble_eq_true rfl) hC ?_ (fun _ _ h => h.elim)
  rintro v t ⟨r, rfl, hr⟩
  obtain ⟨n', J, M', R', rfl⟩ := hq r t hr
  refine jx_i2l dL_leave_7 ?_
  refine jx_lastN 0 dL_leave_8 rfl rfl (by decide) (by decide) ?_
  refine jx_goto 15 dL_leave_9 (by decide) ?_
  refine jx_iconst dL_leave_15 rfl ?_
  refine jx_iret dL_leave_16 rfl ?_
  exact ⟨rfl, _, _, _, _, _, ⟨r, rfl, hr⟩, rfl⟩
theorem bL_leave (hW : jWok w l) {x1 : Int32} {d' : Nat} (hC : jTh w l mX10_leave d' [.ref 1000, .int x1] n I L R eN) : jBa w l mL_leave (d' + 1) [.ref 1000, .int x1, .ref 1118] n I L R 1 := by
  refine jCt_ofH hW (by decide) (by decide) (Nat.le_of_ble_eq_true rfl) ?_
  refine jx_aload_n dL_leave_0 rfl ?_
  refine jx_iconst dL_leave_1 rfl ?_
  refine jx_aload_n dL_leave_2 rfl ?_
  refine jx_iload_n dL_leave_3 rfl ?_
  refine jx_invVC (as := [.int x1]) dL_leave_4 mlL_63 okX10_leave viX10_leave rfl rfl rfl rfl (Nat.lt_succ_self _) (Nat.le_refl _) (Nat.le_refl _) (Nat.le_of_ble_eq_true rfl) hC (fun _ _ h => h.elim) ?_
  rintro E t ⟨rfl, n', hn, rfl⟩
  refine ⟨12, 1, ⟨[], (0, 9, 12, 18), [], eN, rfl, rfl, rfl, by decide, kL18, kNS, fun _ h => by cases h⟩, Or.inl ⟨3, dL_leave_12, by decide, rfl⟩, ?_⟩
  refine jx_iconst dL_leave_13 rfl ?_
  refine jx_iret dL_leave_14 rfl ?_
  exact ⟨rfl, n', hn, rfl⟩
theorem owL_buried : jOW mL_buried 3 := ⟨jm1 0 rfl, jm6 1 rfl, by decide, ⟨by decide +kernel, by decide +kernel⟩, by decide +kernel, by decide⟩
theorem gL_buried (hW : jWok w l) {x1 : Int32} {d' : Nat} {Qc : Int32 → jHS → Prop} (hC : jRi w l mX10_buried d' [.ref 1000, .int x1] (n, shE, I, L, R) Qc) (hq : ∀ r t, Qc r t → ∃ n' J M' R', t = (n', shE, J, M', R')) : jGo w l mL_buried (d' + 1) [.ref 1000, .int x1, .ref 1118] (n, shE, I, L, R) (fun v n' J M' R' => ∃ r, v = r.toInt64 ∧ Qc r (n', shE, J, M', R')) := by
  refine jCt_ofH hW (by decide) (by decide) (Nat.le_of_ble_eq_true rfl) ?_
  refine jx_aload_n dL_buried_0 rfl ?_
  refine jx_iconst dL_buried_1 rfl ?_
  refine jx_aload_n dL_buried_2 rfl ?_
  refine jx_iload_n dL_buried_3 rfl ?_
  refine jx_invVC (as := [.int x1]) dL_buried_4 mlL_66 okX10_buried viX10_buried rfl rfl rfl rfl (Nat.lt_succ_self _) (Nat.zero_le _) (Nat.zero_le _) (Nat.le_of_ble_eq_true rfl) hC ?_ (fun _ _ h => h.elim)
  rintro v t ⟨r, rfl, hr⟩
  obtain ⟨n', J, M', R', rfl⟩ := hq r t hr
  refine jx_i2l dL_buried_7 ?_
  refine jx_lastN 0 dL_buried_8 rfl rfl (by decide) (by decide) ?_
  refine jx_goto 15 dL_buried_9 (by decide) ?_
  refine jx_iconst dL_buried_15 rfl ?_
  refine jx_iret dL_buried_16 rfl ?_
  exact ⟨rfl, _, _, _, _, _, ⟨r, rfl, hr⟩, rfl⟩
theorem bL_buried (hW : jWok w l) {x1 : Int32} {d' : Nat} (hC : jTh w l mX10_buried d' [.ref 1000, .int x1] n I L R eN) : jBa w l mL_buried (d' + 1) [.ref 1000, .int x1, .ref 1118] n I L R 1 := by
  refine jCt_ofH hW (by decide) (by decide) (Nat.le_of_ble_eq_true rfl) ?_
  refine jx_aload_n dL_buried_0 rfl ?_
  refine jx_iconst dL_buried_1 rfl ?_
  refine jx_aload_n dL_buried_2 rfl ?_
  refine jx_iload_n dL_buried_3 rfl ?_
  refine jx_invVC (as := [.int x1]) dL_buried_4 mlL_66 okX10_buried viX10_buried rfl rfl rfl rfl (Nat.lt_succ_self _) (Nat.le_refl _) (Nat.le_refl _) (Nat.le_of_ble_eq_true rfl) hC (fun _ _ h => h.elim) ?_
  rintro E t ⟨rfl, n', hn, rfl⟩
  refine ⟨12, 1, ⟨[], (0, 9, 12, 18), [], eN, rfl, rfl, rfl, by decide, kL18, kNS, fun _ h => by cases h⟩, Or.inl ⟨3, dL_buried_12, by decide, rfl⟩, ?_⟩
  refine jx_iconst dL_buried_13 rfl ?_
  refine jx_iret dL_buried_14 rfl ?_
  exact ⟨rfl, n', hn, rfl⟩
theorem owL_queue : jOW mL_queue 3 := ⟨jm1 0 rfl, jm6 9 rfl, by decide, ⟨by decide +kernel, by decide +kernel⟩, by decide +kernel, by decide⟩
theorem gL_queue (hW : jWok w l) {x1 : Int32} {d' : Nat} {Qc : Int32 → jHS → Prop} (hC : jRi w l mX10_queue d' [.ref 1000, .int x1] (n, shE, I, L, R) Qc) (hq : ∀ r t, Qc r t → ∃ n' J M' R', t = (n', shE, J, M', R')) : jGo w l mL_queue (d' + 1) [.ref 1000, .int x1, .ref 1118] (n, shE, I, L, R) (fun v n' J M' R' => ∃ r, v = r.toInt64 ∧ Qc r (n', shE, J, M', R')) := by
  refine jCt_ofH hW (by decide) (by decide) (Nat.le_of_ble_eq_true rfl) ?_
  refine jx_aload_n dL_queue_0 rfl ?_
  refine jx_iconst dL_queue_1 rfl ?_
  refine jx_aload_n dL_queue_2 rfl ?_
  refine jx_iload_n dL_queue_3 rfl ?_
  refine jx_invVC (as := [.int x1]) dL_queue_4 mlL_69 okX10_queue viX10_queue rfl rfl rfl rfl (Nat.lt_succ_self _) (Nat.zero_le _) (Nat.zero_le _) (Nat.le_of_ble_eq_true rfl) hC ?_ (fun _ _ h => h.elim)
  rintro v t ⟨r, rfl, hr⟩
  obtain ⟨n', J, M', R', rfl⟩ := hq r t hr
  refine jx_i2l dL_queue_7 ?_
  refine jx_lastN 0 dL_queue_8 rfl rfl (by decide) (by decide) ?_
  refine jx_goto 15 dL_queue_9 (by decide) ?_
  refine jx_iconst dL_queue_15 rfl ?_
  refine jx_iret dL_queue_16 rfl ?_
  exact ⟨rfl, _, _, _, _, _, ⟨r, rfl, hr⟩, rfl⟩
theorem bL_queue (hW : jWok w l) {x1 : Int32} {d' : Nat} (hC : jTh w l mX10_queue d' [.ref 1000, .int x1] n I L R eN) : jBa w l mL_queue (d' + 1) [.ref 1000, .int x1, .ref 1118] n I L R 1 := by
  refine jCt_ofH hW (by decide) (by decide) (Nat.le_of_ble_eq_true rfl) ?_
  refine jx_aload_n dL_queue_0 rfl ?_
  refine jx_iconst dL_queue_1 rfl ?_
  refine jx_aload_n dL_queue_2 rfl ?_
  refine jx_iload_n dL_queue_3 rfl ?_
  refine jx_invVC (as := [.int x1]) dL_queue_4 mlL_69 okX10_queue viX10_queue rfl rfl rfl rfl (Nat.lt_succ_self _) (Nat.le_refl _) (Nat.le_refl _) (Nat.le_of_ble_eq_true rfl) hC (fun _ _ h => h.elim) ?_
  rintro E t ⟨rfl, n', hn, rfl⟩
  refine ⟨12, 1, ⟨[], (0, 9, 12, 18), [], eN, rfl, rfl, rfl, by decide, kL18, kNS, fun _ h => by cases h⟩, Or.inl ⟨3, dL_queue_12, by decide, rfl⟩, ?_⟩
  refine jx_iconst dL_queue_13 rfl ?_
  refine jx_iret dL_queue_14 rfl ?_
  exact ⟨rfl, n', hn, rfl⟩
theorem owL_heir : jOW mL_heir 3 := ⟨jm1 0 rfl, jm6 24 rfl, by decide, ⟨by decide +kernel, by decide +kernel⟩, by decide +kernel, by decide⟩
theorem gL_heir (hW : jWok w l) {x1 : Int32} {d' : Nat} {Qc : Int32 → jHS → Prop} (hC : jRi w l mX10_heir d' [.ref 1000, .int x1] (n, shE, I, L, R) Qc) (hq : ∀ r t, Qc r t → ∃ n' J M' R', t = (n', shE, J, M', R')) : jGo w l mL_heir (d' + 1) [.ref 1000, .int x1, .ref 1118] (n, shE, I, L, R) (fun v n' J M' R' => ∃ r, v = r.toInt64 ∧ Qc r (n', shE, J, M', R')) := by
  refine jCt_ofH hW (by decide) (by decide) (Nat.le_of_ble_eq_true rfl) ?_
  refine jx_aload_n dL_heir_0 rfl ?_
  refine jx_iconst dL_heir_1 rfl ?_
  refine jx_aload_n dL_heir_2 rfl ?_
  refine jx_iload_n dL_heir_3 rfl ?_
  refine jx_invVC (as := [.int x1]) dL_heir_4 mlL_72 okX10_heir viX10_heir rfl rfl rfl rfl (Nat.lt_succ_self _) (Nat.zero_le _) (Nat.zero_le _) (Nat.le_of_ble_eq_true rfl) hC ?_ (fun _ _ h => h.elim)
  rintro v t ⟨r, rfl, hr⟩
  obtain ⟨n', J, M', R', rfl⟩ := hq r t hr
  refine jx_i2l dL_heir_7 ?_
  refine jx_lastN 0 dL_heir_8 rfl rfl (by decide) (by decide) ?_
  refine jx_goto 15 dL_heir_9 (by decide) ?_
  refine jx_iconst dL_heir_15 rfl ?_
  refine jx_iret dL_heir_16 rfl ?_
  exact ⟨rfl, _, _, _, _, _, ⟨r, rfl, hr⟩, rfl⟩
theorem bL_heir (hW : jWok w l) {x1 : Int32} {d' : Nat} (hC : jTh w l mX10_heir d' [.ref 1000, .int x1] n I L R eN) : jBa w l mL_heir (d' + 1) [.ref 1000, .int x1, .ref 1118] n I L R 1 := by
  refine jCt_ofH hW (by decide) (by decide) (Nat.le_of_ble_eq_true rfl) ?_
  refine jx_aload_n dL_heir_0 rfl ?_
  refine jx_iconst dL_heir_1 rfl ?_
  refine jx_aload_n dL_heir_2 rfl ?_
  refine jx_iload_n dL_heir_3 rfl ?_
  refine jx_invVC (as := [.int x1]) dL_heir_4 mlL_72 okX10_heir viX10_heir rfl rfl rfl rfl (Nat.lt_succ_self _) (Nat.le_refl _) (Nat.le_refl _) (Nat.le_of_ble_eq_true rfl) hC (fun _ _ h => h.elim) ?_
  rintro E t ⟨rfl, n', hn, rfl⟩
  refine ⟨12, 1, ⟨[], (0, 9, 12, 18), [], eN, rfl, rfl, rfl, by decide, kL18, kNS, fun _ h => by cases h⟩, Or.inl ⟨3, dL_heir_12, by decide, rfl⟩, ?_⟩
  refine jx_iconst dL_heir_13 rfl ?_
  refine jx_iret dL_heir_14 rfl ?_
  exact ⟨rfl, n', hn, rfl⟩
theorem owL_sink : jOW mL_sink 5 := ⟨jm1 0 rfl, jm6 39 rfl, by decide, ⟨by decide +kernel, by decide +kernel⟩, by decide +kernel, by decide⟩
theorem gL_sink (hW : jWok w l) {x1 x2 x3 : Int32} {d' : Nat} {Qc : Int32 → jHS → Prop} (hC : jRi w l mX10_sink d' [.ref 1000, .int x1, .int x2, .int x3] (n, shE, I, L, R) Qc) (hq : ∀ r t, Qc r t → ∃ n' J M' R', t = (n', shE, J, M', R')) : jGo w l mL_sink (d' + 1) [.ref 1000, .int x1, .int x2, .int x3, .ref 1118] (n, shE, I, L, R) (fun v n' J M' R' => ∃ r, v = r.toInt64 ∧ Qc r (n', shE, J, M', R')) := by
  refine jCt_ofH hW (by decide) (by decide) (Nat.le_of_ble_eq_true rfl) ?_
  refine jx_aload dL_sink_0 rfl ?_
  refine jx_iconst dL_sink_2 rfl ?_
  refine jx_aload_n dL_sink_3 rfl ?_
  refine jx_iload_n dL_sink_4 rfl ?_
  refine jx_iload_n dL_sink_5 rfl ?_
  refine jx_iload_n dL_sink_6 rfl ?_
  refine jx_invVC (as := [.int x1, .int x2, .int x3]) dL_sink_7 mlL_75 okX10_sink viX10_sink rfl rfl rfl rfl (Nat.lt_succ_self _) (Nat.zero_le _) (Nat.zero_le _) (Nat.le_of_ble_eq_true rfl) hC ?_ (fun _ _ h => h.elim)
  rintro v t ⟨r, rfl, hr⟩
  obtain ⟨n', J, M', R', rfl⟩ := hq r t hr
  refine jx_i2l dL_sink_10 ?_
  refine jx_lastN 0 dL_sink_11 rfl rfl (by decide) (by decide) ?_
  refine jx_goto 19 dL_sink_12 (by decide) ?_
  refine jx_iconst dL_sink_19 rfl ?_
  refine jx_iret dL_sink_20 rfl ?_
  exact ⟨rfl, _, _, _, _, _, ⟨r, rfl, hr⟩, rfl⟩
theorem bL_sink (hW : jWok w l) {x1 x2 x3 : Int32} {d' : Nat} (hC : jTh w l mX10_sink d' [.ref 1000, .int x1, .int x2, .int x3] n I L R eN) : jBa w l mL_sink (d' + 1) [.ref 1000, .int x1, .int x2, .int x3, .ref 1118] n I L R 1 := by
  refine jCt_ofH hW (by decide) (by decide) (Nat.le_of_ble_eq_true rfl) ?_
  refine jx_aload dL_sink_0 rfl ?_
  refine jx_iconst dL_sink_2 rfl ?_
  refine jx_aload_n dL_sink_3 rfl ?_
  refine jx_iload_n dL_sink_4 rfl ?_
  refine jx_iload_n dL_sink_5 rfl ?_
  refine jx_iload_n dL_sink_6 rfl ?_
  refine jx_invVC (as := [.int x1, .int x2, .int x3]) dL_sink_7 mlL_75 okX10_sink viX10_sink rfl rfl rfl rfl (Nat.lt_succ_self _) (Nat.le_refl _) (Nat.le_refl _) (Nat.le_of_ble_eq_true rfl) hC (fun _ _ h => h.elim) ?_
  rintro E t ⟨rfl, n', hn, rfl⟩
  refine ⟨15, 2, ⟨[], (0, 12, 15, 18), [], eN, rfl, rfl, rfl, by decide, kL18, kNS, fun _ h => by cases h⟩, Or.inr ⟨5, dL_sink_15, by decide, rfl⟩, ?_⟩
  refine jx_iconst dL_sink_17 rfl ?_
  refine jx_iret dL_sink_18 rfl ?_
  exact ⟨rfl, n', hn, rfl⟩
theorem owL_motions : jOW mL_motions 3 := ⟨jm1 0 rfl, jm6 46 rfl, by decide, ⟨by decide +kernel, by decide +kernel⟩, by decide +kernel, by decide⟩
theorem gL_motions (hW : jWok w l) {x1 : Int32} {d' : Nat} {Qc : Int32 → jHS → Prop} (hC : jRi w l mX10_motions d' [.ref 1000, .int x1] (n, shE, I, L, R) Qc) (hq : ∀ r t, Qc r t → ∃ n' J M' R', t = (n', shE, J, M', R')) : jGo w l mL_motions (d' + 1) [.ref 1000, .int x1, .ref 1118] (n, shE, I, L, R) (fun v n' J M' R' => ∃ r, v = r.toInt64 ∧ Qc r (n', shE, J, M', R')) := by
  refine jCt_ofH hW (by decide) (by decide) (Nat.le_of_ble_eq_true rfl) ?_
  refine jx_aload_n dL_motions_0 rfl ?_
  refine jx_iconst dL_motions_1 rfl ?_
  refine jx_aload_n dL_motions_2 rfl ?_
  refine jx_iload_n dL_motions_3 rfl ?_
  refine jx_invVC (as := [.int x1]) dL_motions_4 mlL_79 okX10_motions viX10_motions rfl rfl rfl rfl (Nat.lt_succ_self _) (Nat.zero_le _) (Nat.zero_le _) (Nat.le_of_ble_eq_true rfl) hC ?_ (fun _ _ h => h.elim)
  rintro v t ⟨r, rfl, hr⟩
  obtain ⟨n', J, M', R', rfl⟩ := hq r t hr
  refine jx_i2l dL_motions_7 ?_
  refine jx_lastN 0 dL_motions_8 rfl rfl (by decide) (by decide) ?_
  refine jx_goto 15 dL_motions_9 (by decide) ?_
  refine jx_iconst dL_motions_15 rfl ?_
  refine jx_iret dL_motions_16 rfl ?_
  exact ⟨rfl, _, _, _, _, _, ⟨r, rfl, hr⟩, rfl⟩
theorem bL_motions (hW : jWok w l) {x1 : Int32} {d' : Nat} (hC : jTh w l mX10_motions d' [.ref 1000, .int x1] n I L R eN) : jBa w l mL_motions (d' + 1) [.ref 1000, .int x1, .ref 1118] n I L R 1 := by
  refine jCt_ofH hW (by decide) (by decide) (Nat.le_of_ble_eq_true rfl) ?_
  refine jx_aload_n dL_motions_0 rfl ?_
  refine jx_iconst dL_motions_1 rfl ?_
  refine jx_aload_n dL_motions_2 rfl ?_
  refine jx_iload_n dL_motions_3 rfl ?_
  refine jx_invVC (as := [.int x1]) dL_motions_4 mlL_79 okX10_motions viX10_motions rfl rfl rfl rfl (Nat.lt_succ_self _) (Nat.le_refl _) (Nat.le_refl _) (Nat.le_of_ble_eq_true rfl) hC (fun _ _ h => h.elim) ?_
  rintro E t ⟨rfl, n', hn, rfl⟩
  refine ⟨12, 1, ⟨[], (0, 9, 12, 18), [], eN, rfl, rfl, rfl, by decide, kL18, kNS, fun _ h => by cases h⟩, Or.inl ⟨3, dL_motions_12, by decide, rfl⟩, ?_⟩
  refine jx_iconst dL_motions_13 rfl ?_
  refine jx_iret dL_motions_14 rfl ?_
  exact ⟨rfl, n', hn, rfl⟩
theorem owL_sound : jOW mL_sound 4 := ⟨jm1 0 rfl, jm6 62 rfl, by decide, ⟨by decide +kernel, by decide +kernel⟩, by decide +kernel, by decide⟩
theorem gL_sound (hW : jWok w l) {x1 x2 : Int32} {d' : Nat} {Qc : Int64 → jHS → Prop} (hC : jRl w l mX10_sound d' [.ref 1000, .int x1, .int x2] (n, shE, I, L, R) Qc) (hq : ∀ r t, Qc r t → ∃ n' J M' R', t = (n', shE, J, M', R')) : jGo w l mL_sound (d' + 1) [.ref 1000, .int x1, .int x2, .ref 1118] (n, shE, I, L, R) (fun v n' J M' R' => ∃ r, v = r ∧ Qc r (n', shE, J, M', R')) := by
  refine jCt_ofH hW (by decide) (by decide) (Nat.le_of_ble_eq_true rfl) ?_
  refine jx_aload_n dL_sound_0 rfl ?_
  refine jx_iconst dL_sound_1 rfl ?_
  refine jx_aload_n dL_sound_2 rfl ?_
  refine jx_iload_n dL_sound_3 rfl ?_
  refine jx_iload_n dL_sound_4 rfl ?_
  refine jx_invVC (as := [.int x1, .int x2]) dL_sound_5 mlL_82 okX10_sound viX10_sound rfl rfl rfl rfl (Nat.lt_succ_self _) (Nat.zero_le _) (Nat.zero_le _) (Nat.le_of_ble_eq_true rfl) hC ?_ (fun _ _ h => h.elim)
  rintro v t ⟨r, rfl, hr⟩
  obtain ⟨n', J, M', R', rfl⟩ := hq r t hr
  refine jx_lastN 0 dL_sound_8 rfl rfl (by decide) (by decide) ?_
  refine jx_goto 16 dL_sound_9 (by decide) ?_
  refine jx_iconst dL_sound_16 rfl ?_
  refine jx_iret dL_sound_17 rfl ?_
  exact ⟨rfl, _, _, _, _, _, ⟨r, rfl, hr⟩, rfl⟩
theorem bL_sound (hW : jWok w l) {x1 x2 : Int32} {d' : Nat} (hC : jTh w l mX10_sound d' [.ref 1000, .int x1, .int x2] n I L R eN) : jBa w l mL_sound (d' + 1) [.ref 1000, .int x1, .int x2, .ref 1118] n I L R 1 := by
  refine jCt_ofH hW (by decide) (by decide) (Nat.le_of_ble_eq_true rfl) ?_
  refine jx_aload_n dL_sound_0 rfl ?_
  refine jx_iconst dL_sound_1 rfl ?_
  refine jx_aload_n dL_sound_2 rfl ?_
  refine jx_iload_n dL_sound_3 rfl ?_
  refine jx_iload_n dL_sound_4 rfl ?_
  refine jx_invVC (as := [.int x1, .int x2]) dL_sound_5 mlL_82 okX10_sound viX10_sound rfl rfl rfl rfl (Nat.lt_succ_self _) (Nat.le_refl _) (Nat.le_refl _) (Nat.le_of_ble_eq_true rfl) hC (fun _ _ h => h.elim) ?_
  rintro E t ⟨rfl, n', hn, rfl⟩
  refine ⟨12, 2, ⟨[], (0, 9, 12, 18), [], eN, rfl, rfl, rfl, by decide, kL18, kNS, fun _ h => by cases h⟩, Or.inr ⟨4, dL_sound_12, by decide, rfl⟩, ?_⟩
  refine jx_iconst dL_sound_14 rfl ?_
  refine jx_iret dL_sound_15 rfl ?_
  exact ⟨rfl, n', hn, rfl⟩
theorem owL_late : jOW mL_late 5 := ⟨jm1 0 rfl, jm6 70 rfl, by decide, ⟨by decide +kernel, by decide +kernel⟩, by decide +kernel, by decide⟩
theorem gL_late (hW : jWok w l) {x1 x2 x3 : Int32} {d' : Nat} {Qc : Int32 → jHS → Prop} (hC : jRi w l mX10_late d' [.ref 1000, .int x1, .int x2, .int x3] (n, shE, I, L, R) Qc) (hq : ∀ r t, Qc r t → ∃ n' J M' R', t = (n', shE, J, M', R')) : jGo w l mL_late (d' + 1) [.ref 1000, .int x1, .int x2, .int x3, .ref 1118] (n, shE, I, L, R) (fun v n' J M' R' => ∃ r, v = r.toInt64 ∧ Qc r (n', shE, J, M', R')) := by
  refine jCt_ofH hW (by decide) (by decide) (Nat.le_of_ble_eq_true rfl) ?_
  refine jx_aload dL_late_0 rfl ?_
  refine jx_iconst dL_late_2 rfl ?_
  refine jx_aload_n dL_late_3 rfl ?_
  refine jx_iload_n dL_late_4 rfl ?_
  refine jx_iload_n dL_late_5 rfl ?_
  refine jx_iload_n dL_late_6 rfl ?_
  refine jx_invVC (as := [.int x1, .int x2, .int x3]) dL_late_7 mlL_86 okX10_late viX10_late rfl rfl rfl rfl (Nat.lt_succ_self _) (Nat.zero_le _) (Nat.zero_le _) (Nat.le_of_ble_eq_true rfl) hC ?_ (fun _ _ h => h.elim)
  rintro v t ⟨r, rfl, hr⟩
  obtain ⟨n', J, M', R', rfl⟩ := hq r t hr
  refine jx_i2l dL_late_10 ?_
  refine jx_lastN 0 dL_late_11 rfl rfl (by decide) (by decide) ?_
  refine jx_goto 19 dL_late_12 (by decide) ?_
  refine jx_iconst dL_late_19 rfl ?_
  refine jx_iret dL_late_20 rfl ?_
  exact ⟨rfl, _, _, _, _, _, ⟨r, rfl, hr⟩, rfl⟩
theorem bL_late (hW : jWok w l) {x1 x2 x3 : Int32} {d' : Nat} (hC : jTh w l mX10_late d' [.ref 1000, .int x1, .int x2, .int x3] n I L R eN) : jBa w l mL_late (d' + 1) [.ref 1000, .int x1, .int x2, .int x3, .ref 1118] n I L R 1 := by
  refine jCt_ofH hW (by decide) (by decide) (Nat.le_of_ble_eq_true rfl) ?_
  refine jx_aload dL_late_0 rfl ?_
  refine jx_iconst dL_late_2 rfl ?_
  refine jx_aload_n dL_late_3 rfl ?_
  refine jx_iload_n dL_late_4 rfl ?_
  refine jx_iload_n dL_late_5 rfl ?_
  refine jx_iload_n dL_late_6 rfl ?_
  refine jx_invVC (as := [.int x1, .int x2, .int x3]) dL_late_7 mlL_86 okX10_late viX10_late rfl rfl rfl rfl (Nat.lt_succ_self _) (Nat.le_refl _) (Nat.le_refl _) (Nat.le_of_ble_eq_true rfl) hC (fun _ _ h => h.elim) ?_
  rintro E t ⟨rfl, n', hn, rfl⟩
  refine ⟨15, 2, ⟨[], (0, 12, 15, 18), [], eN, rfl, rfl, rfl, by decide, kL18, kNS, fun _ h => by cases h⟩, Or.inr ⟨5, dL_late_15, by decide, rfl⟩, ?_⟩
  refine jx_iconst dL_late_17 rfl ?_
  refine jx_iret dL_late_18 rfl ?_
  exact ⟨rfl, n', hn, rfl⟩
theorem owL_costs : jOW mL_costs 6 := ⟨jm1 0 rfl, jm6 77 rfl, by decide, ⟨by decide +kernel, by decide +kernel⟩, by decide +kernel, by decide⟩
theorem gL_costs (hW : jWok w l) {x1 x2 x3 x4 : Int32} {d' : Nat} {Qc : Int32 → jHS → Prop} (hC : jRi w l mX10_costs d' [.ref 1000, .int x1, .int x2, .int x3, .int x4] (n, shE, I, L, R) Qc) (hq : ∀ r t, Qc r t → ∃ n' J M' R', t = (n', shE, J, M', R')) : jGo w l mL_costs (d' + 1) [.ref 1000, .int x1, .int x2, .int x3, .int x4, .ref 1118] (n, shE, I, L, R) (fun v n' J M' R' => ∃ r, v = r.toInt64 ∧ Qc r (n', shE, J, M', R')) := by
  refine jCt_ofH hW (by decide) (by decide) (Nat.le_of_ble_eq_true rfl) ?_
  refine jx_aload dL_costs_0 rfl ?_
  refine jx_iconst dL_costs_2 rfl ?_
  refine jx_aload_n dL_costs_3 rfl ?_
  refine jx_iload_n dL_costs_4 rfl ?_
  refine jx_iload_n dL_costs_5 rfl ?_
  refine jx_iload_n dL_costs_6 rfl ?_
  refine jx_iload dL_costs_7 rfl ?_
  refine jx_invVC (as := [.int x1, .int x2, .int x3, .int x4]) dL_costs_9 mlL_89 okX10_costs viX10_costs rfl rfl rfl rfl (Nat.lt_succ_self _) (Nat.zero_le _) (Nat.zero_le _) (Nat.le_of_ble_eq_true rfl) hC ?_ (fun _ _ h => h.elim)
  rintro v t ⟨r, rfl, hr⟩
  obtain ⟨n', J, M', R', rfl⟩ := hq r t hr
  refine jx_i2l dL_costs_12 ?_
  refine jx_lastN 0 dL_costs_13 rfl rfl (by decide) (by decide) ?_
  refine jx_goto 25 dL_costs_14 (by decide) ?_
  refine jx_iconst dL_costs_25 rfl ?_
  refine jx_iret dL_costs_26 rfl ?_
  exact ⟨rfl, _, _, _, _, _, ⟨r, rfl, hr⟩, rfl⟩
theorem bL_costs (hW : jWok w l) {x1 x2 x3 x4 : Int32} {d' : Nat} (hC : jTh w l mX10_costs d' [.ref 1000, .int x1, .int x2, .int x3, .int x4] n I L R eN) : jBa w l mL_costs (d' + 1) [.ref 1000, .int x1, .int x2, .int x3, .int x4, .ref 1118] n I L R 1 := by
  refine jCt_ofH hW (by decide) (by decide) (Nat.le_of_ble_eq_true rfl) ?_
  refine jx_aload dL_costs_0 rfl ?_
  refine jx_iconst dL_costs_2 rfl ?_
  refine jx_aload_n dL_costs_3 rfl ?_
  refine jx_iload_n dL_costs_4 rfl ?_
  refine jx_iload_n dL_costs_5 rfl ?_
  refine jx_iload_n dL_costs_6 rfl ?_
  refine jx_iload dL_costs_7 rfl ?_
  refine jx_invVC (as := [.int x1, .int x2, .int x3, .int x4]) dL_costs_9 mlL_89 okX10_costs viX10_costs rfl rfl rfl rfl (Nat.lt_succ_self _) (Nat.le_refl _) (Nat.le_refl _) (Nat.le_of_ble_eq_true rfl) hC (fun _ _ h => h.elim) ?_
  rintro E t ⟨rfl, n', hn, rfl⟩
  refine ⟨17, 2, ⟨[], (0, 14, 17, 18), [(0, 14, 21, 13)], eN, rfl, rfl, rfl, by decide, kL18, kNS, fun _ h => by cases h⟩, Or.inr ⟨6, dL_costs_17, by decide, rfl⟩, ?_⟩
  refine jx_iconst dL_costs_19 rfl ?_
  refine jx_iret dL_costs_20 rfl ?_
  exact ⟨rfl, n', hn, rfl⟩
theorem b2L_costs (hW : jWok w l) (hNc : va_Nc eI eN w.1) {x1 x2 x3 x4 : Int32} {d' : Nat} (hC : jTh w l mX10_costs d' [.ref 1000, .int x1, .int x2, .int x3, .int x4] n I L R eI) : jBa w l mL_costs (d' + 1) [.ref 1000, .int x1, .int x2, .int x3, .int x4, .ref 1118] n I L R 2 := by
  refine jCt_ofH hW (by decide) (by decide) (Nat.le_of_ble_eq_true rfl) ?_
  refine jx_aload dL_costs_0 rfl ?_
  refine jx_iconst dL_costs_2 rfl ?_
  refine jx_aload_n dL_costs_3 rfl ?_
  refine jx_iload_n dL_costs_4 rfl ?_
  refine jx_iload_n dL_costs_5 rfl ?_
  refine jx_iload_n dL_costs_6 rfl ?_
  refine jx_iload dL_costs_7 rfl ?_
  refine jx_invVC (as := [.int x1, .int x2, .int x3, .int x4]) dL_costs_9 mlL_89 okX10_costs viX10_costs rfl rfl rfl rfl (Nat.lt_succ_self _) (Nat.le_refl _) (Nat.le_refl _) (Nat.le_of_ble_eq_true rfl) hC (fun _ _ h => h.elim) ?_
  rintro E t ⟨rfl, n', hn, rfl⟩
  refine ⟨21, 2, ⟨[(0, 14, 17, 18)], (0, 14, 21, 13), [], eI, rfl, rfl, rfl, by decide, kL13, kIA, fun z hz => by rw [List.mem_singleton.mp hz]; exact ⟨by decide, eN, kL18, hNc⟩⟩, Or.inr ⟨6, dL_costs_21, by decide, rfl⟩, ?_⟩
  refine jx_iconst dL_costs_23 rfl ?_
  refine jx_iret dL_costs_24 rfl ?_
  exact ⟨rfl, n', hn, rfl⟩
theorem owL_vigil : jOW mL_vigil 6 := ⟨jm1 0 rfl, jm6 85 rfl, by decide, ⟨by decide +kernel, by decide +kernel⟩, by decide +kernel, by decide⟩
theorem gL_vigil (hW : jWok w l) {x1 x2 x3 x4 : Int32} {d' : Nat} {Qc : Int32 → jHS → Prop} (hC : jRi w l mX10_vigil d' [.ref 1000, .int x1, .int x2, .int x3, .int x4] (n, shE, I, L, R) Qc) (hq : ∀ r t, Qc r t → ∃ n' J M' R', t = (n', shE, J, M', R')) : jGo w l mL_vigil (d' + 1) [.ref 1000, .int x1, .int x2, .int x3, .int x4, .ref 1118] (n, shE, I, L, R) (fun v n' J M' R' => ∃ r, v = r.toInt64 ∧ Qc r (n', shE, J, M', R')) := by
  refine jCt_ofH hW (by decide) (by decide) (Nat.le_of_ble_eq_true rfl) ?_
  refine jx_aload dL_vigil_0 rfl ?_
  refine jx_iconst dL_vigil_2 rfl ?_
  refine jx_aload_n dL_vigil_3 rfl ?_
  refine jx_iload_n dL_vigil_4 rfl ?_
  refine jx_iload_n dL_vigil_5 rfl ?_
  refine jx_iload_n dL_vigil_6 rfl ?_
  refine jx_iload dL_vigil_7 rfl ?_
  refine jx_invVC (as := [.int x1, .int x2, .int x3, .int x4]) dL_vigil_9 mlL_93 okX10_vigil viX10_vigil rfl rfl rfl rfl (Nat.lt_succ_self _) (Nat.zero_le _) (Nat.zero_le _) (Nat.le_of_ble_eq_true rfl) hC ?_ (fun _ _ h => h.elim)
  rintro v t ⟨r, rfl, hr⟩
  obtain ⟨n', J, M', R', rfl⟩ := hq r t hr
  refine jx_i2l dL_vigil_12 ?_
  refine jx_lastN 0 dL_vigil_13 rfl rfl (by decide) (by decide) ?_
  refine jx_goto 21 dL_vigil_14 (by decide) ?_
  refine jx_iconst dL_vigil_21 rfl ?_
  refine jx_iret dL_vigil_22 rfl ?_
  exact ⟨rfl, _, _, _, _, _, ⟨r, rfl, hr⟩, rfl⟩
theorem bL_vigil (hW : jWok w l) {x1 x2 x3 x4 : Int32} {d' : Nat} (hC : jTh w l mX10_vigil d' [.ref 1000, .int x1, .int x2, .int x3, .int x4] n I L R eN) : jBa w l mL_vigil (d' + 1) [.ref 1000, .int x1, .int x2, .int x3, .int x4, .ref 1118] n I L R 1 := by
  refine jCt_ofH hW (by decide) (by decide) (Nat.le_of_ble_eq_true rfl) ?_
  refine jx_aload dL_vigil_0 rfl ?_
  refine jx_iconst dL_vigil_2 rfl ?_
  refine jx_aload_n dL_vigil_3 rfl ?_
  refine jx_iload_n dL_vigil_4 rfl ?_
  refine jx_iload_n dL_vigil_5 rfl ?_
  refine jx_iload_n dL_vigil_6 rfl ?_
  refine jx_iload dL_vigil_7 rfl ?_
  refine jx_invVC (as := [.int x1, .int x2, .int x3, .int x4]) dL_vigil_9 mlL_93 okX10_vigil viX10_vigil rfl rfl rfl rfl (Nat.lt_succ_self _) (Nat.le_refl _) (Nat.le_refl _) (Nat.le_of_ble_eq_true rfl) hC (fun _ _ h => h.elim) ?_
  rintro E t ⟨rfl, n', hn, rfl⟩
  refine ⟨17, 2, ⟨[], (0, 14, 17, 18), [], eN, rfl, rfl, rfl, by decide, kL18, kNS, fun _ h => by cases h⟩, Or.inr ⟨6, dL_vigil_17, by decide, rfl⟩, ?_⟩
  refine jx_iconst dL_vigil_19 rfl ?_
  refine jx_iret dL_vigil_20 rfl ?_
  exact ⟨rfl, n', hn, rfl⟩
theorem owL_rents : jOW mL_rents 5 := ⟨jm1 0 rfl, jm6 104 rfl, by decide, ⟨by decide +kernel, by decide +kernel⟩, by decide +kernel, by decide⟩
theorem gL_rents (hW : jWok w l) {x1 x2 x3 : Int32} {d' : Nat} {Qc : Int32 → jHS → Prop} (hC : jRi w l mX10_rents d' [.ref 1000, .int x1, .int x2, .int x3] (n, shE, I, L, R) Qc) (hq : ∀ r t, Qc r t → ∃ n' J M' R', t = (n', shE, J, M', R')) : jGo w l mL_rents (d' + 1) [.ref 1000, .int x1, .int x2, .int x3, .ref 1118] (n, shE, I, L, R) (fun v n' J M' R' => ∃ r, v = r.toInt64 ∧ Qc r (n', shE, J, M', R')) := by
  refine jCt_ofH hW (by decide) (by decide) (Nat.le_of_ble_eq_true rfl) ?_
  refine jx_aload dL_rents_0 rfl ?_
  refine jx_iconst dL_rents_2 rfl ?_
  refine jx_aload_n dL_rents_3 rfl ?_
  refine jx_iload_n dL_rents_4 rfl ?_
  refine jx_iload_n dL_rents_5 rfl ?_
  refine jx_iload_n dL_rents_6 rfl ?_
  refine jx_invVC (as := [.int x1, .int x2, .int x3]) dL_rents_7 mlL_96 okX10_rents viX10_rents rfl rfl rfl rfl (Nat.lt_succ_self _) (Nat.zero_le _) (Nat.zero_le _) (Nat.le_of_ble_eq_true rfl) hC ?_ (fun _ _ h => h.elim)
  rintro v t ⟨r, rfl, hr⟩
  obtain ⟨n', J, M', R', rfl⟩ := hq r t hr
  refine jx_i2l dL_rents_10 ?_
  refine jx_lastN 0 dL_rents_11 rfl rfl (by decide) (by decide) ?_
  refine jx_goto 19 dL_rents_12 (by decide) ?_
  refine jx_iconst dL_rents_19 rfl ?_
  refine jx_iret dL_rents_20 rfl ?_
  exact ⟨rfl, _, _, _, _, _, ⟨r, rfl, hr⟩, rfl⟩
theorem bL_rents (hW : jWok w l) {x1 x2 x3 : Int32} {d' : Nat} (hC : jTh w l mX10_rents d' [.ref 1000, .int x1, .int x2, .int x3] n I L R eN) : jBa w l mL_rents (d' + 1) [.ref 1000, .int x1, .int x2, .int x3, .ref 1118] n I L R 1 := by
  refine jCt_ofH hW (by decide) (by decide) (Nat.le_of_ble_eq_true rfl) ?_
  refine jx_aload dL_rents_0 rfl ?_
  refine jx_iconst dL_rents_2 rfl ?_
  refine jx_aload_n dL_rents_3 rfl ?_
  refine jx_iload_n dL_rents_4 rfl ?_
  refine jx_iload_n dL_rents_5 rfl ?_
  refine jx_iload_n dL_rents_6 rfl ?_
  refine jx_invVC (as := [.int x1, .int x2, .int x3]) dL_rents_7 mlL_96 okX10_rents viX10_rents rfl rfl rfl rfl (Nat.lt_succ_self _) (Nat.le_refl _) (Nat.le_refl _) (Nat.le_of_ble_eq_true rfl) hC (fun _ _ h => h.elim) ?_
  rintro E t ⟨rfl, n', hn, rfl⟩
  refine ⟨15, 2, ⟨[], (0, 12, 15, 18), [], eN, rfl, rfl, rfl, by decide, kL18, kNS, fun _ h => by cases h⟩, Or.inr ⟨5, dL_rents_15, by decide, rfl⟩, ?_⟩
  refine jx_iconst dL_rents_17 rfl ?_
  refine jx_iret dL_rents_18 rfl ?_
  exact ⟨rfl, n', hn, rfl⟩
theorem owL_warning : jOW mL_warning 5 := ⟨jm1 0 rfl, jm6 125 rfl, by decide, ⟨by decide +kernel, by decide +kernel⟩, by decide +kernel, by decide⟩
theorem gL_warning (hW : jWok w l) {x1 x2 x3 : Int32} {d' : Nat} {Qc : Int32 → jHS → Prop} (hC : jRi w l mX10_warning d' [.ref 1000, .int x1, .int x2, .int x3] (n, shE, I, L, R) Qc) (hq : ∀ r t, Qc r t → ∃ n' J M' R', t = (n', shE, J, M', R')) : jGo w l mL_warning (d' + 1) [.ref 1000, .int x1, .int x2, .int x3, .ref 1118] (n, shE, I, L, R) (fun v n' J M' R' => ∃ r, v = r.toInt64 ∧ Qc r (n', shE, J, M', R')) := by
  refine jCt_ofH hW (by decide) (by decide) (Nat.le_of_ble_eq_true rfl) ?_
  refine jx_aload dL_warning_0 rfl ?_
  refine jx_iconst dL_warning_2 rfl ?_
  refine jx_aload_n dL_warning_3 rfl ?_
  refine jx_iload_n dL_warning_4 rfl ?_
  refine jx_iload_n dL_warning_5 rfl ?_
  refine jx_iload_n dL_warning_6 rfl ?_
  refine jx_invVC (as := [.int x1, .int x2, .int x3]) dL_warning_7 mlL_99 okX10_warning viX10_warning rfl rfl rfl rfl (Nat.lt_succ_self _) (Nat.zero_le _) (Nat.zero_le _) (Nat.le_of_ble_eq_true rfl) hC ?_ (fun _ _ h => h.elim)
  rintro v t ⟨r, rfl, hr⟩
  obtain ⟨n', J, M', R', rfl⟩ := hq r t hr
  refine jx_i2l dL_warning_10 ?_
  refine jx_lastN 0 dL_warning_11 rfl rfl (by decide) (by decide) ?_
  refine jx_goto 19 dL_warning_12 (by decide) ?_
  refine jx_iconst dL_warning_19 rfl ?_
  refine jx_iret dL_warning_20 rfl ?_
  exact ⟨rfl, _, _, _, _, _, ⟨r, rfl, hr⟩, rfl⟩
theorem bL_warning (hW : jWok w l) {x1 x2 x3 : Int32} {d' : Nat} (hC : jTh w l mX10_warning d' [.ref 1000, .int x1, .int x2, .int x3] n I L R eN) : jBa w l mL_warning (d' + 1) [.ref 1000, .int x1, .int x2, .int x3, .ref 1118] n I L R 1 := by
  refine jCt_ofH hW (by decide) (by decide) (Nat.le_of_ble_eq_true rfl) ?_
  refine jx_aload dL_warning_0 rfl ?_
  refine jx_iconst dL_warning_2 rfl ?_
  refine jx_aload_n dL_warning_3 rfl ?_
  refine jx_iload_n dL_warning_4 rfl ?_
  refine jx_iload_n dL_warning_5 rfl ?_
  refine jx_iload_n dL_warning_6 rfl ?_
  refine jx_invVC (as := [.int x1, .int x2, .int x3]) dL_warning_7 mlL_99 okX10_warning viX10_warning rfl rfl rfl rfl (Nat.lt_succ_self _) (Nat.le_refl _) (Nat.le_refl _) (Nat.le_of_ble_eq_true rfl) hC (fun _ _ h => h.elim) ?_
  rintro E t ⟨rfl, n', hn, rfl⟩
  refine ⟨15, 2, ⟨[], (0, 12, 15, 18), [], eN, rfl, rfl, rfl, by decide, kL18, kNS, fun _ h => by cases h⟩, Or.inr ⟨5, dL_warning_15, by decide, rfl⟩, ?_⟩
  refine jx_iconst dL_warning_17 rfl ?_
  refine jx_iret dL_warning_18 rfl ?_
  exact ⟨rfl, n', hn, rfl⟩
theorem owL_fogs : jOW mL_fogs 6 := ⟨jm1 0 rfl, jm6 136 rfl, by decide, ⟨by decide +kernel, by decide +kernel⟩, by decide +kernel, by decide⟩
theorem gL_fogs (hW : jWok w l) {x1 x2 x3 x4 : Int32} {d' : Nat} {Qc : Int32 → jHS → Prop} (hC : jRi w l mX10_fogs d' [.ref 1000, .int x1, .int x2, .int x3, .int x4] (n, shE, I, L, R) Qc) (hq : ∀ r t, Qc r t → ∃ n' J M' R', t = (n', shE, J, M', R')) : jGo w l mL_fogs (d' + 1) [.ref 1000, .int x1, .int x2, .int x3, .int x4, .ref 1118] (n, shE, I, L, R) (fun v n' J M' R' => ∃ r, v = r.toInt64 ∧ Qc r (n', shE, J, M', R')) := by
  refine jCt_ofH hW (by decide) (by decide) (Nat.le_of_ble_eq_true rfl) ?_
  refine jx_aload dL_fogs_0 rfl ?_
  refine jx_iconst dL_fogs_2 rfl ?_
  refine jx_aload_n dL_fogs_3 rfl ?_
  refine jx_iload_n dL_fogs_4 rfl ?_
  refine jx_iload_n dL_fogs_5 rfl ?_
  refine jx_iload_n dL_fogs_6 rfl ?_
  refine jx_iload dL_fogs_7 rfl ?_
  refine jx_invVC (as := [.int x1, .int x2, .int x3, .int x4]) dL_fogs_9 mlL_102 okX10_fogs viX10_fogs rfl rfl rfl rfl (Nat.lt_succ_self _) (Nat.zero_le _) (Nat.zero_le _) (Nat.le_of_ble_eq_true rfl) hC ?_ (fun _ _ h => h.elim)
  rintro v t ⟨r, rfl, hr⟩
  obtain ⟨n', J, M', R', rfl⟩ := hq r t hr
  refine jx_i2l dL_fogs_12 ?_
  refine jx_lastN 0 dL_fogs_13 rfl rfl (by decide) (by decide) ?_
  refine jx_goto 25 dL_fogs_14 (by decide) ?_
  refine jx_iconst dL_fogs_25 rfl ?_
  refine jx_iret dL_fogs_26 rfl ?_
  exact ⟨rfl, _, _, _, _, _, ⟨r, rfl, hr⟩, rfl⟩
theorem bL_fogs (hW : jWok w l) {x1 x2 x3 x4 : Int32} {d' : Nat} (hC : jTh w l mX10_fogs d' [.ref 1000, .int x1, .int x2, .int x3, .int x4] n I L R eN) : jBa w l mL_fogs (d' + 1) [.ref 1000, .int x1, .int x2, .int x3, .int x4, .ref 1118] n I L R 1 := by
  refine jCt_ofH hW (by decide) (by decide) (Nat.le_of_ble_eq_true rfl) ?_
  refine jx_aload dL_fogs_0 rfl ?_
  refine jx_iconst dL_fogs_2 rfl ?_
  refine jx_aload_n dL_fogs_3 rfl ?_
  refine jx_iload_n dL_fogs_4 rfl ?_
  refine jx_iload_n dL_fogs_5 rfl ?_
  refine jx_iload_n dL_fogs_6 rfl ?_
  refine jx_iload dL_fogs_7 rfl ?_
  refine jx_invVC (as := [.int x1, .int x2, .int x3, .int x4]) dL_fogs_9 mlL_102 okX10_fogs viX10_fogs rfl rfl rfl rfl (Nat.lt_succ_self _) (Nat.le_refl _) (Nat.le_refl _) (Nat.le_of_ble_eq_true rfl) hC (fun _ _ h => h.elim) ?_
  rintro E t ⟨rfl, n', hn, rfl⟩
  refine ⟨17, 2, ⟨[], (0, 14, 17, 18), [(0, 14, 21, 13)], eN, rfl, rfl, rfl, by decide, kL18, kNS, fun _ h => by cases h⟩, Or.inr ⟨6, dL_fogs_17, by decide, rfl⟩, ?_⟩
  refine jx_iconst dL_fogs_19 rfl ?_
  refine jx_iret dL_fogs_20 rfl ?_
  exact ⟨rfl, n', hn, rfl⟩
theorem b2L_fogs (hW : jWok w l) (hNc : va_Nc eI eN w.1) {x1 x2 x3 x4 : Int32} {d' : Nat} (hC : jTh w l mX10_fogs d' [.ref 1000, .int x1, .int x2, .int x3, .int x4] n I L R eI) : jBa w l mL_fogs (d' + 1) [.ref 1000, .int x1, .int x2, .int x3, .int x4, .ref 1118] n I L R 2 := by
  refine jCt_ofH hW (by decide) (by decide) (Nat.le_of_ble_eq_true rfl) ?_
  refine jx_aload dL_fogs_0 rfl ?_
  refine jx_iconst dL_fogs_2 rfl ?_
  refine jx_aload_n dL_fogs_3 rfl ?_
  refine jx_iload_n dL_fogs_4 rfl ?_
  refine jx_iload_n dL_fogs_5 rfl ?_
  refine jx_iload_n dL_fogs_6 rfl ?_
  refine jx_iload dL_fogs_7 rfl ?_
  refine jx_invVC (as := [.int x1, .int x2, .int x3, .int x4]) dL_fogs_9 mlL_102 okX10_fogs viX10_fogs rfl rfl rfl rfl (Nat.lt_succ_self _) (Nat.le_refl _) (Nat.le_refl _) (Nat.le_of_ble_eq_true rfl) hC (fun _ _ h => h.elim) ?_
  rintro E t ⟨rfl, n', hn, rfl⟩
  refine ⟨21, 2, ⟨[(0, 14, 17, 18)], (0, 14, 21, 13), [], eI, rfl, rfl, rfl, by decide, kL13, kIA, fun z hz => by rw [List.mem_singleton.mp hz]; exact ⟨by decide, eN, kL18, hNc⟩⟩, Or.inr ⟨6, dL_fogs_21, by decide, rfl⟩, ?_⟩
  refine jx_iconst dL_fogs_23 rfl ?_
  refine jx_iret dL_fogs_24 rfl ?_
  exact ⟨rfl, n', hn, rfl⟩
end LW
