/-! THE REFERENCE, its small methods. 1069: the object; 1072 told, 1073 height, 1074 what, 1075 quickAt, 1076.. kind speed load row died quarrels 1081, 1082 signs -/
theorem i64_le (x y : Int32) : x.toInt64 ≤ y.toInt64 ↔ x.toInt ≤ y.toInt := by rw [Int64.le_iff_toInt_le, Int32.toInt_toInt64, Int32.toInt_toInt64]
theorem i64_0 (x : Int32) : (0 : Int64) ≤ x.toInt64 ↔ 0 ≤ x.toInt := by rw [Int64.le_iff_toInt_le, Int32.toInt_toInt64]; rfl
theorem i64_lit (x : Int32) (c : Int64) : x.toInt64 ≤ c ↔ x.toInt ≤ c.toInt := by rw [Int64.le_iff_toInt_le, Int32.toInt_toInt64]
theorem i64_lit2 (x : Int32) (c : Int64) : c ≤ x.toInt64 ↔ c.toInt ≤ x.toInt := by rw [Int64.le_iff_toInt_le, Int32.toInt_toInt64]
def MT (I : Nat → Nat → Int32) (W H : Nat) : Prop := I 1072 0 = nI W ∧ I 1072 1 = nI H ∧ 3 ≤ W ∧ W ≤ 9 ∧ 1 ≤ H ∧ H ≤ 7
theorem MT.wh {I : Nat → Nat → Int32} {W H : Nat} (h : MT I W H) : 3 ≤ W * H ∧ W * H ≤ 63 := by
  obtain ⟨-, -, h1, h2, h3, h4⟩ := h
  exact ⟨Nat.le_trans h1 (Nat.le_mul_of_pos_right W h3), Nat.mul_le_mul h2 h4⟩
def dayQ (d : Int32) : Bool := decide (0 ≤ d.toInt ∧ d.toInt ≤ 40)
def tickQ (t : Int32) : Bool := decide (0 ≤ t.toInt ∧ t.toInt ≤ 95)
def ltQ (c : Int32) (n : Nat) : Bool := decide (0 ≤ c.toInt ∧ c.toInt < n)
section RA
variable {w : jWD} {l : Launch} {n : Nat} {I : Nat → Nat → Int32} {L : Nat → Nat → Int64} {R : Nat → Nat → Option Nat}

theorem tX11_isIn (hW : jWok w l) (v a b : Int64) (σ : jHS) : jCD w l mX11_isIn 1 [.long v, .long a, .long b] σ (some (.int (jb (decide (a ≤ v ∧ v ≤ b))))) σ := by
  refine jCD_of hW (by decide) rfl (Nat.le_of_ble_eq_true rfl) ?_
  refine jx_lload_n dX11_isIn_0 rfl ?_
  refine jx_lload_n dX11_isIn_1 rfl ?_
  refine jx_lcmp dX11_isIn_2 ?_
  refine jx_if_lt 17 dX11_isIn_3 (by decide) (fun h3 => ?_) (fun h3 => ?_)
  · refine jx_iconst (v := 0) dX11_isIn_17 (by decide) ?_
    refine jx_zret dX11_isIn_18 rfl ?_ ?_
    · first | exact Or.inl rfl | exact Or.inr rfl | exact jb_or _
    refine ⟨?_, rfl⟩
    rw [lg_cmp_lt] at h3
    try rw [lg_cmp_gt] at h10
    have e : decide (a ≤ v ∧ v ≤ b) = false := by
      simp only [Int64.lt_iff_toInt_lt, Int64.le_iff_toInt_le] at *
      first | (apply decide_eq_true; omega) | (apply decide_eq_false; omega)
    rw [e]; rfl
  · refine jx_lload_n dX11_isIn_6 rfl ?_
    refine jx_lload dX11_isIn_7 rfl ?_
    refine jx_lcmp dX11_isIn_9 ?_
    refine jx_if_gt 17 dX11_isIn_10 (by decide) (fun h10 => ?_) (fun h10 => ?_)
    · refine jx_iconst (v := 0) dX11_isIn_17 (by decide) ?_
      refine jx_zret dX11_isIn_18 rfl ?_ ?_
      · first | exact Or.inl rfl | exact Or.inr rfl | exact jb_or _
      refine ⟨?_, rfl⟩
      rw [lg_cmp_lt] at h3
      try rw [lg_cmp_gt] at h10
      have e : decide (a ≤ v ∧ v ≤ b) = false := by
        simp only [Int64.lt_iff_toInt_lt, Int64.le_iff_toInt_le] at *
        first | (apply decide_eq_true; omega) | (apply decide_eq_false; omega)
      rw [e]; rfl
    · refine jx_iconst (v := 1) dX11_isIn_13 (by decide) ?_
      refine jx_goto 18 dX11_isIn_14 (by decide) ?_
      refine jx_zret dX11_isIn_18 rfl ?_ ?_
      · first | exact Or.inl rfl | exact Or.inr rfl | exact jb_or _
      refine ⟨?_, rfl⟩
      rw [lg_cmp_lt] at h3
      try rw [lg_cmp_gt] at h10
      have e : decide (a ≤ v ∧ v ≤ b) = true := by
        simp only [Int64.lt_iff_toInt_lt, Int64.le_iff_toInt_le] at *
        first | (apply decide_eq_true; omega) | (apply decide_eq_false; omega)
      rw [e]; rfl
set_option maxHeartbeats 1000000 in
set_option maxRecDepth 20000 in
theorem tX11_thrown (hW : jWok w l)  : jCD w l mX11_thrown 1 [.ref 1069] (n, shE, I, L, R) (some (.int (I 1069 2))) (n, shE, I, L, R) := by
  refine jCD_of hW (by decide) rfl (Nat.le_of_ble_eq_true rfl) ?_
  refine jx_aload_n dX11_thrown_0 rfl ?_
  refine jx_getI dX11_thrown_1 flX11_187 rfl rfl ?_
  refine jx_iret dX11_thrown_4 rfl ?_
  exact ⟨rfl, rfl⟩
set_option maxHeartbeats 1000000 in
set_option maxRecDepth 20000 in
theorem tX11_fail (hW : jWok w l) (k : Int32)  : jCD w l mX11_fail 1 [.ref 1069, .int k] (n, shE, I, L, R) (some (.int (0))) (n, shE, upI I 1069 2 k, L, R) := by
  refine jCD_of hW (by decide) rfl (Nat.le_of_ble_eq_true rfl) ?_
  refine jx_aload_n dX11_fail_0 rfl ?_
  refine jx_iload_n dX11_fail_1 rfl ?_
  refine jx_putI dX11_fail_2 flX11_187 rfl rfl (fun r h => by cases h; rfl) ?_
  refine jx_iconst (v := 0) dX11_fail_5 (by decide) ?_
  refine jx_iret dX11_fail_6 rfl ?_
  exact ⟨rfl, rfl⟩
set_option maxHeartbeats 1000000 in
set_option maxRecDepth 20000 in
theorem tX11_refuses (hW : jWok w l)  : jCD w l mX11_refuses 1 [.ref 1069] (n, shE, I, L, R) (some (.int (jb false))) (n, shE, upI I 1069 2 1, L, R) := by
  refine jCD_of hW (by decide) rfl (Nat.le_of_ble_eq_true rfl) ?_
  refine jx_aload_n dX11_refuses_0 rfl ?_
  refine jx_iconst (v := 1) dX11_refuses_1 (by decide) ?_
  refine jx_putI dX11_refuses_2 flX11_187 rfl rfl (fun r h => by cases h; rfl) ?_
  refine jx_iconst (v := 0) dX11_refuses_5 (by decide) ?_
  refine jx_zret dX11_refuses_6 rfl ?_ ?_
  · first | exact Or.inl rfl | exact Or.inr rfl | exact jb_or _
  exact ⟨rfl, rfl⟩
set_option maxHeartbeats 1000000 in
set_option maxRecDepth 20000 in
theorem tX11_isCell (hW : jWok w l) (hR : RS R) {W H : Nat} (hT : MT I W H) (c : Int32)  : jCD w l mX11_isCell 2 [.ref 1069, .int c] (n, shE, I, L, R) (some (.int (jb (ltQ c (W * H))))) (n, shE, I, L, R) := by
  refine jCD_of hW (by decide) rfl (Nat.le_of_ble_eq_true rfl) ?_
  refine jx_iload_n dX11_isCell_0 rfl ?_
  refine jx_i2l dX11_isCell_1 ?_
  refine jx_lconst (v := 0) dX11_isCell_2 (by decide) ?_
  refine jx_aload_n dX11_isCell_3 rfl ?_
  refine jx_getR dX11_isCell_4 flX11_34 rfl rfl (hR _ _ _ rfl) ?_
  refine jx_iconst (v := 0) dX11_isCell_7 (by decide) ?_
  refine jx_ialdN (0) dX11_isCell_8 rfl (rfl) (by decide) (by decide) ?_
  refine jx_aload_n dX11_isCell_9 rfl ?_
  refine jx_getR dX11_isCell_10 flX11_34 rfl rfl (hR _ _ _ rfl) ?_
  refine jx_iconst (v := 1) dX11_isCell_13 (by decide) ?_
  refine jx_ialdN (1) dX11_isCell_14 rfl (rfl) (by decide) (by decide) ?_
  refine jx_imul dX11_isCell_15 ?_
  refine jx_iconst (v := 1) dX11_isCell_16 (by decide) ?_
  refine jx_isub dX11_isCell_17 ?_
  refine jx_i2l dX11_isCell_18 ?_
  refine jx_Si (as := [.long _, .long _, .long _]) dX11_isCell_19 mlX11_190 okX11_isIn stX11_isIn rfl rfl (by decide) (Nat.le_of_ble_eq_true rfl) (tX11_isIn hW _ _ _ _) ?_
  refine jx_zret dX11_isCell_22 rfl ?_ ?_
  · first | exact Or.inl rfl | exact Or.inr rfl | exact jb_or _
  refine ⟨?_, rfl⟩
  have hz := hT.wh
  rw [hT.1, hT.2.1, pk_mul, show (1 : Int32) = nI 1 from rfl, pk_sub (by omega)]
  congr 3
  unfold ltQ
  rw [decide_eq_decide, i64_0, i64_le, nI_toInt (by omega)]
  omega
set_option maxHeartbeats 1000000 in
set_option maxRecDepth 20000 in
theorem tX11_isParty (hW : jWok w l) (hR : RS R) {p : Nat} (hp : I 1072 10 = nI p) (hp6 : p ≤ 6) (c : Int32)  : jCD w l mX11_isParty 2 [.ref 1069, .int c] (n, shE, I, L, R) (some (.int (jb (ltQ c p)))) (n, shE, I, L, R) := by
  refine jCD_of hW (by decide) rfl (Nat.le_of_ble_eq_true rfl) ?_
  refine jx_iload_n dX11_isParty_0 rfl ?_
  refine jx_i2l dX11_isParty_1 ?_
  refine jx_lconst (v := 0) dX11_isParty_2 (by decide) ?_
  refine jx_aload_n dX11_isParty_3 rfl ?_
  refine jx_getR dX11_isParty_4 flX11_34 rfl rfl (hR _ _ _ rfl) ?_
  refine jx_bipush (v := 10) dX11_isParty_7 (by decide) ?_
  refine jx_ialdN (10) dX11_isParty_9 rfl (rfl) (by decide) (by decide) ?_
  refine jx_iconst (v := 1) dX11_isParty_10 (by decide) ?_
  refine jx_isub dX11_isParty_11 ?_
  refine jx_i2l dX11_isParty_12 ?_
  refine jx_Si (as := [.long _, .long _, .long _]) dX11_isParty_13 mlX11_190 okX11_isIn stX11_isIn rfl rfl (by decide) (Nat.le_of_ble_eq_true rfl) (tX11_isIn hW _ _ _ _) ?_
  refine jx_zret dX11_isParty_16 rfl ?_ ?_
  · first | exact Or.inl rfl | exact Or.inr rfl | exact jb_or _
  refine ⟨?_, rfl⟩
  rw [hp]
  congr 3
  unfold ltQ
  rw [decide_eq_decide, i64_0, i64_le]
  have e : (nI p - 1).toInt = (p : Int) - 1 := by
    have := pk_sub_toInt (a := p) (b := 1) (by omega) (by omega)
    exact this
  rw [e]
  omega
set_option maxHeartbeats 1000000 in
set_option maxRecDepth 20000 in
theorem tX11_isDay (hW : jWok w l) (c : Int32)  : jCD w l mX11_isDay 2 [.int c] (n, shE, I, L, R) (some (.int (jb (dayQ c)))) (n, shE, I, L, R) := by
  refine jCD_of hW (by decide) rfl (Nat.le_of_ble_eq_true rfl) ?_
  refine jx_iload_n dX11_isDay_0 rfl ?_
  refine jx_i2l dX11_isDay_1 ?_
  refine jx_lconst (v := 0) dX11_isDay_2 (by decide) ?_
  refine jx_ldc2 dX11_isDay_3 ctX11_194 ?_
  refine jx_Si (as := [.long _, .long _, .long _]) dX11_isDay_6 mlX11_190 okX11_isIn stX11_isIn rfl rfl (by decide) (Nat.le_of_ble_eq_true rfl) (tX11_isIn hW _ _ _ _) ?_
  refine jx_zret dX11_isDay_9 rfl ?_ ?_
  · first | exact Or.inl rfl | exact Or.inr rfl | exact jb_or _
  refine ⟨?_, rfl⟩
  congr 3
  unfold dayQ
  rw [decide_eq_decide, i64_0, i64_lit]
  exact Iff.rfl
set_option maxHeartbeats 1000000 in
set_option maxRecDepth 20000 in
theorem tX11_isTick (hW : jWok w l) (c : Int32)  : jCD w l mX11_isTick 2 [.int c] (n, shE, I, L, R) (some (.int (jb (tickQ c)))) (n, shE, I, L, R) := by
  refine jCD_of hW (by decide) rfl (Nat.le_of_ble_eq_true rfl) ?_
  refine jx_iload_n dX11_isTick_0 rfl ?_
  refine jx_i2l dX11_isTick_1 ?_
  refine jx_lconst (v := 0) dX11_isTick_2 (by decide) ?_
  refine jx_ldc2 dX11_isTick_3 ctX11_196 ?_
  refine jx_Si (as := [.long _, .long _, .long _]) dX11_isTick_6 mlX11_190 okX11_isIn stX11_isIn rfl rfl (by decide) (Nat.le_of_ble_eq_true rfl) (tX11_isIn hW _ _ _ _) ?_
  refine jx_zret dX11_isTick_9 rfl ?_ ?_
  · first | exact Or.inl rfl | exact Or.inr rfl | exact jb_or _
  refine ⟨?_, rfl⟩
  congr 3
  unfold tickQ
  rw [decide_eq_decide, i64_0, i64_lit]
  exact Iff.rfl
end RA
