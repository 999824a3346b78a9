/-! THE REFERENCE: counts, cells, parties, the fault -/
def cntG (k : Int32) : Bool := decide ((0 ≤ k.toInt ∧ k.toInt ≤ 15) ∨ (20 ≤ k.toInt ∧ k.toInt ≤ 23))
def cntV (I : Nat → Nat → Int32) (k : Nat) : Int32 := if k < 2 then I 1072 k else if k < 10 then I 1072 (k + 2) else if k = 10 then I 1069 32 else if k = 11 then I 1069 33 else if k = 12 then I 1069 17 else if k < 16 then I 1083 (k - 13) else I 1072 (k - 8)
theorem in_of {k : Int32} {a b : Nat} (h : decide ((a : Int) ≤ k.toInt ∧ k.toInt ≤ (b : Int)) = true) : ∃ j, a ≤ j ∧ j ≤ b ∧ k = nI j := by
  obtain ⟨h1, h2⟩ := of_decide_eq_true h
  have h3 : 0 ≤ k.toInt := by omega
  have := cN_cast h3
  exact ⟨cN k, by omega, by omega, nI_cN h3⟩
theorem cntG_t {j : Nat} (h : j ≤ 15 ∨ (20 ≤ j ∧ j ≤ 23)) : cntG (nI j) = true := by
  unfold cntG
  rw [nI_toInt (by omega)]
  apply decide_eq_true
  omega
section RG
variable {w : jWD} {l : Launch} {n : Nat} {I J : Nat → Nat → Int32} {L : Nat → Nat → Int64} {R : Nat → Nat → Option Nat}
theorem tX11_isInC (hW : jWok w l) {v : Int32} {a b : Int64} (za zb : Int) (ha : a.toInt = za) (hb : b.toInt = zb) (σ : jHS) : jCD w l mX11_isIn 1 [.long v.toInt64, .long a, .long b] σ (some (.int (jb (decide (za ≤ v.toInt ∧ v.toInt ≤ zb))))) σ := by
  have := tX11_isIn hW v.toInt64 a b σ
  rw [show decide (a ≤ v.toInt64 ∧ v.toInt64 ≤ b) = decide (za ≤ v.toInt ∧ v.toInt ≤ zb) from decide_eq_decide.mpr (by rw [i64_lit, i64_lit2, ha, hb])] at this
  exact this
theorem tX11_isInC2 (hW : jWok w l) {v u : Int32} {a : Int64} (za : Int) (ha : a.toInt = za) (σ : jHS) : jCD w l mX11_isIn 1 [.long v.toInt64, .long a, .long u.toInt64] σ (some (.int (jb (decide (za ≤ v.toInt ∧ v.toInt ≤ u.toInt))))) σ := tX11_isInC hW za u.toInt ha (Int32.toInt_toInt64 u) σ

set_option maxHeartbeats 1000000 in
set_option maxRecDepth 20000 in
theorem tX11_count (hW : jWok w l) (hR : RS R) (k : Int32) : jCD w l mX11_count 2 [.ref 1069, .int k] (n, shE, I, L, R) (some (.int (if cntG k then cntV I (cN k) else 0))) (n, shE, upI I 1069 2 (if cntG k then (0 : Int32) else 1), L, R) := by
  refine jCD_of hW (by decide) rfl (Nat.le_of_ble_eq_true rfl) ?_
  refine jx_aload_n dX11_count_0 rfl ?_
  refine jx_iconst (v := 0) dX11_count_1 (by decide) ?_
  refine jx_putI dX11_count_2 flX11_187 rfl rfl (fun r h => by cases h; rfl) ?_
  refine jx_iload_n dX11_count_5 rfl ?_
  refine jx_i2l dX11_count_6 ?_
  refine jx_ldc2 dX11_count_7 ctX11_427 ?_
  refine jx_ldc2 dX11_count_10 ctX11_429 ?_
  refine jx_Si (as := [.long _, .long _, .long _]) dX11_count_13 mlX11_190 okX11_isIn stX11_isIn rfl rfl (by decide) (Nat.le_of_ble_eq_true rfl) (tX11_isInC hW 20 23 (by decide) (by decide) _) ?_
  refine jx_ifB_eq 29 dX11_count_16 (by decide) (fun h16 => ?_) (fun h16 => ?_)
  · refine jx_iload_n dX11_count_29 rfl ?_
    refine jx_i2l dX11_count_30 ?_
    refine jx_ldc2 dX11_count_31 ctX11_431 ?_
    refine jx_ldc2 dX11_count_34 ctX11_433 ?_
    refine jx_Si (as := [.long _, .long _, .long _]) dX11_count_37 mlX11_190 okX11_isIn stX11_isIn rfl rfl (by decide) (Nat.le_of_ble_eq_true rfl) (tX11_isInC hW 2 9 (by decide) (by decide) _) ?_
    refine jx_ifB_eq 52 dX11_count_40 (by decide) (fun h40 => ?_) (fun h40 => ?_)
    · refine jx_iload_n dX11_count_52 rfl ?_
      by_cases hs53_0 : k = 0
      · subst hs53_0
        refine jx_tsIn 132 dX11_count_53 (by decide) (by decide) rfl (by decide) ?_
        refine jx_aload_n dX11_count_132 rfl ?_
        refine jx_getR dX11_count_133 flX11_34 rfl rfl (hR _ _ _ rfl) ?_
        refine jx_iload_n dX11_count_136 rfl ?_
        refine jx_ialdN (0) dX11_count_137 rfl (rfl) (by decide) (by omega) ?_
        refine jx_iret dX11_count_138 rfl ?_
        first | exact ⟨rfl, rfl⟩ | (refine ⟨?_, ?_⟩ <;> decide)
      by_cases hs53_1 : k = 1
      · subst hs53_1
        refine jx_tsIn 132 dX11_count_53 (by decide) (by decide) rfl (by decide) ?_
        refine jx_aload_n dX11_count_132 rfl ?_
        refine jx_getR dX11_count_133 flX11_34 rfl rfl (hR _ _ _ rfl) ?_
        refine jx_iload_n dX11_count_136 rfl ?_
        refine jx_ialdN (1) dX11_count_137 rfl (rfl) (by decide) (by omega) ?_
        refine jx_iret dX11_count_138 rfl ?_
        first | exact ⟨rfl, rfl⟩ | (refine ⟨?_, ?_⟩ <;> decide)
      by_cases hs53_2 : k = 2
      · subst hs53_2
        refine jx_tsIn 164 dX11_count_53 (by decide) (by decide) rfl (by decide) ?_
        refine jx_aload_n dX11_count_164 rfl ?_
        refine jx_iconst (v := 1) dX11_count_165 (by decide) ?_
        refine jx_Vi (as := [.int _]) dX11_count_166 mlX11_351 okX11_fail viX11_fail rfl rfl rfl rfl rfl (by decide) (Nat.le_of_ble_eq_true rfl) (tX11_fail hW _) ?_
        refine jx_iret dX11_count_169 rfl ?_
        first
        | (rw [up_up]; exact ⟨rfl, rfl⟩)
        | (have hg : cntG k = false := by
             unfold cntG
             apply decide_eq_false
             have q1 := of_decide_eq_false h16
             have q2 := of_decide_eq_false h40
             have z0 := lv_neT hs53_0 (a := 0) rfl
             have z1 := lv_neT hs53_1 (a := 1) rfl
             have z10 := lv_neT hs53_10 (a := 10) rfl
             have z11 := lv_neT hs53_11 (a := 11) rfl
             have z12 := lv_neT hs53_12 (a := 12) rfl
             have z13 := lv_neT hs53_13 (a := 13) rfl
             have z14 := lv_neT hs53_14 (a := 14) rfl
             have z15 := lv_neT hs53_15 (a := 15) rfl
             omega
           rw [hg, up_up]
           exact ⟨rfl, rfl⟩)
        | (exfalso; revert h40; decide)
      by_cases hs53_3 : k = 3
      · subst hs53_3
        refine jx_tsIn 164 dX11_count_53 (by decide) (by decide) rfl (by decide) ?_
        refine jx_aload_n dX11_count_164 rfl ?_
        refine jx_iconst (v := 1) dX11_count_165 (by decide) ?_
        refine jx_Vi (as := [.int _]) dX11_count_166 mlX11_351 okX11_fail viX11_fail rfl rfl rfl rfl rfl (by decide) (Nat.le_of_ble_eq_true rfl) (tX11_fail hW _) ?_
        refine jx_iret dX11_count_169 rfl ?_
        first
        | (rw [up_up]; exact ⟨rfl, rfl⟩)
        | (have hg : cntG k = false := by
             unfold cntG
             apply decide_eq_false
             have q1 := of_decide_eq_false h16
             have q2 := of_decide_eq_false h40
             have z0 := lv_neT hs53_0 (a := 0) rfl
             have z1 := lv_neT hs53_1 (a := 1) rfl
             have z10 := lv_neT hs53_10 (a := 10) rfl
             have z11 := lv_neT hs53_11 (a := 11) rfl
             have z12 := lv_neT hs53_12 (a := 12) rfl
             have z13 := lv_neT hs53_13 (a := 13) rfl
             have z14 := lv_neT hs53_14 (a := 14) rfl
             have z15 := lv_neT hs53_15 (a := 15) rfl
             omega
           rw [hg, up_up]
           exact ⟨rfl, rfl⟩)
        | (exfalso; revert h40; decide)
      by_cases hs53_4 : k = 4
      · subst hs53_4
        refine jx_tsIn 164 dX11_count_53 (by decide) (by decide) rfl (by decide) ?_
        refine jx_aload_n dX11_count_164 rfl ?_
        refine jx_iconst (v := 1) dX11_count_165 (by decide) ?_
        refine jx_Vi (as := [.int _]) dX11_count_166 mlX11_351 okX11_fail viX11_fail rfl rfl rfl rfl rfl (by decide) (Nat.le_of_ble_eq_true rfl) (tX11_fail hW _) ?_
        refine jx_iret dX11_count_169 rfl ?_
        first
        | (rw [up_up]; exact ⟨rfl, rfl⟩)
        | (have hg : cntG k = false := by
             unfold cntG
             apply decide_eq_false
             have q1 := of_decide_eq_false h16
             have q2 := of_decide_eq_false h40
             have z0 := lv_neT hs53_0 (a := 0) rfl
             have z1 := lv_neT hs53_1 (a := 1) rfl
             have z10 := lv_neT hs53_10 (a := 10) rfl
             have z11 := lv_neT hs53_11 (a := 11) rfl
             have z12 := lv_neT hs53_12 (a := 12) rfl
             have z13 := lv_neT hs53_13 (a := 13) rfl
             have z14 := lv_neT hs53_14 (a := 14) rfl
             have z15 := lv_neT hs53_15 (a := 15) rfl
             omega
           rw [hg, up_up]
           exact ⟨rfl, rfl⟩)
        | (exfalso; revert h40; decide)
      by_cases hs53_5 : k = 5
      · subst hs53_5
        refine jx_tsIn 164 dX11_count_53 (by decide) (by decide) rfl (by decide) ?_
        refine jx_aload_n dX11_count_164 rfl ?_
        refine jx_iconst (v := 1) dX11_count_165 (by decide) ?_
        refine jx_Vi (as := [.int _]) dX11_count_166 mlX11_351 okX11_fail viX11_fail rfl rfl rfl rfl rfl (by decide) (Nat.le_of_ble_eq_true rfl) (tX11_fail hW _) ?_
        refine jx_iret dX11_count_169 rfl ?_
        first
        | (rw [up_up]; exact ⟨rfl, rfl⟩)
        | (have hg : cntG k = false := by
             unfold cntG
             apply decide_eq_false
             have q1 := of_decide_eq_false h16
             have q2 := of_decide_eq_false h40
             have z0 := lv_neT hs53_0 (a := 0) rfl
             have z1 := lv_neT hs53_1 (a := 1) rfl
             have z10 := lv_neT hs53_10 (a := 10) rfl
             have z11 := lv_neT hs53_11 (a := 11) rfl
             have z12 := lv_neT hs53_12 (a := 12) rfl
             have z13 := lv_neT hs53_13 (a := 13) rfl
             have z14 := lv_neT hs53_14 (a := 14) rfl
             have z15 := lv_neT hs53_15 (a := 15) rfl
             omega
           rw [hg, up_up]
           exact ⟨rfl, rfl⟩)
        | (exfalso; revert h40; decide)
      by_cases hs53_6 : k = 6
      · subst hs53_6
        refine jx_tsIn 164 dX11_count_53 (by decide) (by decide) rfl (by decide) ?_
        refine jx_aload_n dX11_count_164 rfl ?_
        refine jx_iconst (v := 1) dX11_count_165 (by decide) ?_
        refine jx_Vi (as := [.int _]) dX11_count_166 mlX11_351 okX11_fail viX11_fail rfl rfl rfl rfl rfl (by decide) (Nat.le_of_ble_eq_true rfl) (tX11_fail hW _) ?_
        refine jx_iret dX11_count_169 rfl ?_
        first
        | (rw [up_up]; exact ⟨rfl, rfl⟩)
        | (have hg : cntG k = false := by
             unfold cntG
             apply decide_eq_false
             have q1 := of_decide_eq_false h16
             have q2 := of_decide_eq_false h40
             have z0 := lv_neT hs53_0 (a := 0) rfl
             have z1 := lv_neT hs53_1 (a := 1) rfl
             have z10 := lv_neT hs53_10 (a := 10) rfl
             have z11 := lv_neT hs53_11 (a := 11) rfl
             have z12 := lv_neT hs53_12 (a := 12) rfl
             have z13 := lv_neT hs53_13 (a := 13) rfl
             have z14 := lv_neT hs53_14 (a := 14) rfl
             have z15 := lv_neT hs53_15 (a := 15) rfl
             omega
           rw [hg, up_up]
           exact ⟨rfl, rfl⟩)
        | (exfalso; revert h40; decide)
      by_cases hs53_7 : k = 7
      · subst hs53_7
        refine jx_tsIn 164 dX11_count_53 (by decide) (by decide) rfl (by decide) ?_
        refine jx_aload_n dX11_count_164 rfl ?_
        refine jx_iconst (v := 1) dX11_count_165 (by decide) ?_
        refine jx_Vi (as := [.int _]) dX11_count_166 mlX11_351 okX11_fail viX11_fail rfl rfl rfl rfl rfl (by decide) (Nat.le_of_ble_eq_true rfl) (tX11_fail hW _) ?_
        refine jx_iret dX11_count_169 rfl ?_
        first
        | (rw [up_up]; exact ⟨rfl, rfl⟩)
        | (have hg : cntG k = false := by
             unfold cntG
             apply decide_eq_false
             have q1 := of_decide_eq_false h16
             have q2 := of_decide_eq_false h40
             have z0 := lv_neT hs53_0 (a := 0) rfl
             have z1 := lv_neT hs53_1 (a := 1) rfl
             have z10 := lv_neT hs53_10 (a := 10) rfl
             have z11 := lv_neT hs53_11 (a := 11) rfl
             have z12 := lv_neT hs53_12 (a := 12) rfl
             have z13 := lv_neT hs53_13 (a := 13) rfl
             have z14 := lv_neT hs53_14 (a := 14) rfl
             have z15 := lv_neT hs53_15 (a := 15) rfl
             omega
           rw [hg, up_up]
           exact ⟨rfl, rfl⟩)
        | (exfalso; revert h40; decide)
      by_cases hs53_8 : k = 8
      · subst hs53_8
        refine jx_tsIn 164 dX11_count_53 (by decide) (by decide) rfl (by decide) ?_
        refine jx_aload_n dX11_count_164 rfl ?_
        refine jx_iconst (v := 1) dX11_count_165 (by decide) ?_
        refine jx_Vi (as := [.int _]) dX11_count_166 mlX11_351 okX11_fail viX11_fail rfl rfl rfl rfl rfl (by decide) (Nat.le_of_ble_eq_true rfl) (tX11_fail hW _) ?_
        refine jx_iret dX11_count_169 rfl ?_
        first
        | (rw [up_up]; exact ⟨rfl, rfl⟩)
        | (have hg : cntG k = false := by
             unfold cntG
             apply decide_eq_false
             have q1 := of_decide_eq_false h16
             have q2 := of_decide_eq_false h40
             have z0 := lv_neT hs53_0 (a := 0) rfl
             have z1 := lv_neT hs53_1 (a := 1) rfl
             have z10 := lv_neT hs53_10 (a := 10) rfl
             have z11 := lv_neT hs53_11 (a := 11) rfl
             have z12 := lv_neT hs53_12 (a := 12) rfl
             have z13 := lv_neT hs53_13 (a := 13) rfl
             have z14 := lv_neT hs53_14 (a := 14) rfl
             have z15 := lv_neT hs53_15 (a := 15) rfl
             omega
           rw [hg, up_up]
           exact ⟨rfl, rfl⟩)
        | (exfalso; revert h40; decide)
      by_cases hs53_9 : k = 9
      · subst hs53_9
        refine jx_tsIn 164 dX11_count_53 (by decide) (by decide) rfl (by decide) ?_
        refine jx_aload_n dX11_count_164 rfl ?_
        refine jx_iconst (v := 1) dX11_count_165 (by decide) ?_
        refine jx_Vi (as := [.int _]) dX11_count_166 mlX11_351 okX11_fail viX11_fail rfl rfl rfl rfl rfl (by decide) (Nat.le_of_ble_eq_true rfl) (tX11_fail hW _) ?_
        refine jx_iret dX11_count_169 rfl ?_
        first
        | (rw [up_up]; exact ⟨rfl, rfl⟩)
        | (have hg : cntG k = false := by
             unfold cntG
             apply decide_eq_false
             have q1 := of_decide_eq_false h16
             have q2 := of_decide_eq_false h40
             have z0 := lv_neT hs53_0 (a := 0) rfl
             have z1 := lv_neT hs53_1 (a := 1) rfl
             have z10 := lv_neT hs53_10 (a := 10) rfl
             have z11 := lv_neT hs53_11 (a := 11) rfl
             have z12 := lv_neT hs53_12 (a := 12) rfl
             have z13 := lv_neT hs53_13 (a := 13) rfl
             have z14 := lv_neT hs53_14 (a := 14) rfl
             have z15 := lv_neT hs53_15 (a := 15) rfl
             omega
           rw [hg, up_up]
           exact ⟨rfl, rfl⟩)
        | (exfalso; revert h40; decide)
      by_cases hs53_10 : k = 10
      · subst hs53_10
        refine jx_tsIn 139 dX11_count_53 (by decide) (by decide) rfl (by decide) ?_
        refine jx_aload_n dX11_count_139 rfl ?_
        refine jx_getI dX11_count_140 flX11_363 rfl rfl ?_
        refine jx_iret dX11_count_143 rfl ?_
        exact ⟨rfl, rfl⟩
      by_cases hs53_11 : k = 11
      · subst hs53_11
        refine jx_tsIn 144 dX11_count_53 (by decide) (by decide) rfl (by decide) ?_
        refine jx_aload_n dX11_count_144 rfl ?_
        refine jx_getI dX11_count_145 flX11_366 rfl rfl ?_
        refine jx_iret dX11_count_148 rfl ?_
        exact ⟨rfl, rfl⟩
      by_cases hs53_12 : k = 12
      · subst hs53_12
        refine jx_tsIn 149 dX11_count_53 (by decide) (by decide) rfl (by decide) ?_
        refine jx_aload_n dX11_count_149 rfl ?_
        refine jx_getI dX11_count_150 flX11_198 rfl rfl ?_
        refine jx_iret dX11_count_153 rfl ?_
        exact ⟨rfl, rfl⟩
      by_cases hs53_13 : k = 13
      · subst hs53_13
        refine jx_tsIn 154 dX11_count_53 (by decide) (by decide) rfl (by decide) ?_
        refine jx_aload_n dX11_count_154 rfl ?_
        refine jx_getR dX11_count_155 flX11_68 rfl rfl (hR _ _ _ rfl) ?_
        refine jx_iload_n dX11_count_158 rfl ?_
        refine jx_bipush (v := 13) dX11_count_159 (by decide) ?_
        refine jx_isub dX11_count_161 ?_
        refine jx_ialdN (0) dX11_count_162 rfl (by decide) (by decide) (by omega) ?_
        refine jx_iret dX11_count_163 rfl ?_
        exact ⟨rfl, rfl⟩
      by_cases hs53_14 : k = 14
      · subst hs53_14
        refine jx_tsIn 154 dX11_count_53 (by decide) (by decide) rfl (by decide) ?_
        refine jx_aload_n dX11_count_154 rfl ?_
        refine jx_getR dX11_count_155 flX11_68 rfl rfl (hR _ _ _ rfl) ?_
        refine jx_iload_n dX11_count_158 rfl ?_
        refine jx_bipush (v := 13) dX11_count_159 (by decide) ?_
        refine jx_isub dX11_count_161 ?_
        refine jx_ialdN (1) dX11_count_162 rfl (by decide) (by decide) (by omega) ?_
        refine jx_iret dX11_count_163 rfl ?_
        exact ⟨rfl, rfl⟩
      by_cases hs53_15 : k = 15
      · subst hs53_15
        refine jx_tsIn 154 dX11_count_53 (by decide) (by decide) rfl (by decide) ?_
        refine jx_aload_n dX11_count_154 rfl ?_
        refine jx_getR dX11_count_155 flX11_68 rfl rfl (hR _ _ _ rfl) ?_
        refine jx_iload_n dX11_count_158 rfl ?_
        refine jx_bipush (v := 13) dX11_count_159 (by decide) ?_
        refine jx_isub dX11_count_161 ?_
        refine jx_ialdN (2) dX11_count_162 rfl (by decide) (by decide) (by omega) ?_
        refine jx_iret dX11_count_163 rfl ?_
        exact ⟨rfl, rfl⟩
      refine jx_tsOut 164 dX11_count_53 ?_ (by decide) ?_
      · have z0 := lv_neT hs53_0 (a := 0) rfl; have z1 := lv_neT hs53_1 (a := 1) rfl; have z2 := lv_neT hs53_2 (a := 2) rfl; have z3 := lv_neT hs53_3 (a := 3) rfl; have z4 := lv_neT hs53_4 (a := 4) rfl; have z5 := lv_neT hs53_5 (a := 5) rfl; have z6 := lv_neT hs53_6 (a := 6) rfl; have z7 := lv_neT hs53_7 (a := 7) rfl; have z8 := lv_neT hs53_8 (a := 8) rfl; have z9 := lv_neT hs53_9 (a := 9) rfl; have z10 := lv_neT hs53_10 (a := 10) rfl; have z11 := lv_neT hs53_11 (a := 11) rfl; have z12 := lv_neT hs53_12 (a := 12) rfl; have z13 := lv_neT hs53_13 (a := 13) rfl; have z14 := lv_neT hs53_14 (a := 14) rfl; have z15 := lv_neT hs53_15 (a := 15) rfl; omega
      refine jx_aload_n dX11_count_164 rfl ?_
      refine jx_iconst (v := 1) dX11_count_165 (by decide) ?_
      refine jx_Vi (as := [.int _]) dX11_count_166 mlX11_351 okX11_fail viX11_fail rfl rfl rfl rfl rfl (by decide) (Nat.le_of_ble_eq_true rfl) (tX11_fail hW _) ?_
      refine jx_iret dX11_count_169 rfl ?_
      first
      | (rw [up_up]; exact ⟨rfl, rfl⟩)
      | (have hg : cntG k = false := by
           unfold cntG
           apply decide_eq_false
           have q1 := of_decide_eq_false h16
           have q2 := of_decide_eq_false h40
           have z0 := lv_neT hs53_0 (a := 0) rfl
           have z1 := lv_neT hs53_1 (a := 1) rfl
           have z10 := lv_neT hs53_10 (a := 10) rfl
           have z11 := lv_neT hs53_11 (a := 11) rfl
           have z12 := lv_neT hs53_12 (a := 12) rfl
           have z13 := lv_neT hs53_13 (a := 13) rfl
           have z14 := lv_neT hs53_14 (a := 14) rfl
           have z15 := lv_neT hs53_15 (a := 15) rfl
           omega
         rw [hg, up_up]
         exact ⟨rfl, rfl⟩)
      | (exfalso; revert h40; decide)
    · obtain ⟨j, hj1, hj2, rfl⟩ := in_of (a := 2) (b := 9) h40
      refine jx_aload_n dX11_count_43 rfl ?_
      refine jx_getR dX11_count_44 flX11_34 rfl rfl (hR _ _ _ rfl) ?_
      refine jx_iload_n dX11_count_47 rfl ?_
      refine jx_iconst (v := 2) dX11_count_48 (by decide) ?_
      refine jx_iaddE (z := nI (j + 2)) dX11_count_49 (nI_add j 2) ?_
      refine jx_ialdN (j + 2) dX11_count_50 rfl (rfl) (by omega) (by omega) ?_
      refine jx_iret dX11_count_51 rfl ?_
      rw [cntG_t (by omega), cN_nI (by omega)]
      refine ⟨?_, rfl⟩
      simp only [if_true]
      unfold cntV
      rw [if_neg (by omega), if_pos (by omega)]
      rfl
  · obtain ⟨j, hj1, hj2, rfl⟩ := in_of (a := 20) (b := 23) h16
    refine jx_aload_n dX11_count_19 rfl ?_
    refine jx_getR dX11_count_20 flX11_34 rfl rfl (hR _ _ _ rfl) ?_
    refine jx_iload_n dX11_count_23 rfl ?_
    refine jx_bipush (v := 8) dX11_count_24 (by decide) ?_
    refine jx_isubE (z := nI (j - 8)) dX11_count_26 (pk_sub (a := j) (b := 8) (by omega)) ?_
    refine jx_ialdN (j - 8) dX11_count_27 rfl (rfl) (by omega) (by omega) ?_
    refine jx_iret dX11_count_28 rfl ?_
    rw [cntG_t (by omega), cN_nI (by omega)]
    refine ⟨?_, rfl⟩
    simp only [if_true]
    unfold cntV
    rw [if_neg (by omega), if_neg (by omega), if_neg (by omega), if_neg (by omega), if_neg (by omega), if_neg (by omega)]
    rfl
set_option maxHeartbeats 1000000 in
set_option maxRecDepth 20000 in
theorem tX11_cellF (hW : jWok w l) (hR : RS R) {W H np len : Nat} (hI : RI I W H np len) (c k : Int32) (hbad : ¬ (ltQ c (W * H) = true ∧ 0 ≤ k.toInt ∧ k.toInt ≤ 1)) : jCD w l mX11_cell 3 [.ref 1069, .int c, .int k] (n, shE, I, L, R) (some (.int 0)) (n, shE, upI I 1069 2 1, L, R) := by
  refine jCD_of hW (by decide) rfl (Nat.le_of_ble_eq_true rfl) ?_
  have hI0 := hI.kp (k0 I)
  refine jx_aload_n dX11_cell_0 rfl ?_
  refine jx_iconst (v := 0) dX11_cell_1 (by decide) ?_
  refine jx_putI dX11_cell_2 flX11_187 rfl rfl (fun r h => by cases h; rfl) ?_
  refine jx_aload_n dX11_cell_5 rfl ?_
  refine jx_iload_n dX11_cell_6 rfl ?_
  refine jx_Vi (as := [.int _]) dX11_cell_7 mlX11_435 okX11_isCell viX11_isCell rfl rfl rfl rfl rfl (by decide) (Nat.le_of_ble_eq_true rfl) (tX11_isCell hW hR hI0.1.1 _) ?_
  refine jx_ifB_eq 22 dX11_cell_10 (by decide) (fun h10 => ?_) (fun h10 => ?_)
  · refine jx_aload_n dX11_cell_22 rfl ?_
    refine jx_iconst (v := 1) dX11_cell_23 (by decide) ?_
    refine jx_Vi (as := [.int _]) dX11_cell_24 mlX11_351 okX11_fail viX11_fail rfl rfl rfl rfl rfl (by decide) (Nat.le_of_ble_eq_true rfl) (tX11_fail hW _) ?_
    refine jx_iret dX11_cell_27 rfl ?_
    exact ⟨rfl, by rw [up_up]⟩
  · refine jx_iload_n dX11_cell_13 rfl ?_
    refine jx_if_lt 22 dX11_cell_14 (by decide) (fun h14 => ?_) (fun h14 => ?_)
    · refine jx_aload_n dX11_cell_22 rfl ?_
      refine jx_iconst (v := 1) dX11_cell_23 (by decide) ?_
      refine jx_Vi (as := [.int _]) dX11_cell_24 mlX11_351 okX11_fail viX11_fail rfl rfl rfl rfl rfl (by decide) (Nat.le_of_ble_eq_true rfl) (tX11_fail hW _) ?_
      refine jx_iret dX11_cell_27 rfl ?_
      exact ⟨rfl, by rw [up_up]⟩
    · refine jx_iload_n dX11_cell_17 rfl ?_
      refine jx_iconst (v := 1) dX11_cell_18 (by decide) ?_
      refine jx_icmp_le 28 dX11_cell_19 (by decide) (fun h19 => ?_) (fun h19 => ?_)
      · exact absurd ⟨h10, by rw [Int32.not_lt, Int32.le_iff_toInt_le] at h14; exact h14, by rw [Int32.le_iff_toInt_le] at h19; exact h19⟩ hbad
      · refine jx_aload_n dX11_cell_22 rfl ?_
        refine jx_iconst (v := 1) dX11_cell_23 (by decide) ?_
        refine jx_Vi (as := [.int _]) dX11_cell_24 mlX11_351 okX11_fail viX11_fail rfl rfl rfl rfl rfl (by decide) (Nat.le_of_ble_eq_true rfl) (tX11_fail hW _) ?_
        refine jx_iret dX11_cell_27 rfl ?_
        exact ⟨rfl, by rw [up_up]⟩
def cellV (I : Nat → Nat → Int32) (W c : Nat) : Int32 := if ¬ wht I c = 0 then nI (wht I c) else if c % W = 0 then 3 else if c % W = W - 1 then 4 else 0
def cellA (I : Nat → Nat → Int32) (W c k : Nat) : Int32 := if k = 0 then nI (hgt I c) else cellV I W c
set_option maxHeartbeats 1000000 in
set_option maxRecDepth 20000 in
theorem tX11_cell (hW : jWok w l) (hR : RS R) {W H np len : Nat} (hI : RI I W H np len) {c k : Nat} (hc : c < W * H) (hk : k ≤ 1) : jRi w l mX11_cell 3 [.ref 1069, .int (nI c), .int (nI k)] (n, shE, I, L, R) (fun r t => r = cellA I W c k ∧ ∃ J, t = (n, shE, J, L, R) ∧ eqs (upI I 1069 2 0) J) := by
  refine jRi_of hW (by decide) rfl (Nat.le_of_ble_eq_true rfl) ?_
  have hI0 := hI.kp (k0 I)
  have hT := hI0.1.1
  have hz := hT.wh
  have hw3 := hT.2.2.1
  have hw9 := hT.2.2.2.1
  have hh1 := hT.2.2.2.2.1
  have hh7 := hT.2.2.2.2.2
  have hnp := hI0.2.2.2.2.1.2
  refine jx_aload_n dX11_cell_0 rfl ?_
  refine jx_iconst (v := 0) dX11_cell_1 (by decide) ?_
  refine jx_putI dX11_cell_2 flX11_187 rfl rfl (fun r h => by cases h; rfl) ?_
  refine jx_aload_n dX11_cell_5 rfl ?_
  refine jx_iload_n dX11_cell_6 rfl ?_
  refine jx_Vi (as := [.int _]) dX11_cell_7 mlX11_435 okX11_isCell viX11_isCell rfl rfl rfl rfl rfl (by decide) (Nat.le_of_ble_eq_true rfl) (tX11_isCellT hW hR hI0.1.1 hc) ?_
  refine jx_ifB_eq 22 dX11_cell_10 (by decide) (fun h10 => by cases h10) (fun h10 => ?_)
  refine jx_iload_n dX11_cell_13 rfl ?_
  refine jx_ifN_lt (a := k) 22 dX11_cell_14 (by decide) (by omega) ?_
  refine jx_iload_n dX11_cell_17 rfl ?_
  refine jx_iconst (v := 1) dX11_cell_18 (by decide) ?_
  refine jx_icmpN_le (a := k) (b := 1) 28 dX11_cell_19 (by decide) (by omega) (by omega) (fun h19 => ?_) (fun h19 => ?_)
  · refine jx_iload_n dX11_cell_28 rfl ?_
    refine jx_ifN_ne (a := k) 41 dX11_cell_29 (by decide) (by omega) (fun h29 => ?_) (fun h29 => ?_)
    · have hwc : wht I c ≤ 2 := (hI.2.1 c hc).2.2
      refine jx_aload_n dX11_cell_41 rfl ?_
      refine jx_getR dX11_cell_42 flX11_41 rfl rfl (hR _ _ _ rfl) ?_
      refine jx_iload_n dX11_cell_45 rfl ?_
      refine jx_ialdE (c) dX11_cell_46 rfl (rfl) (by omega) (by omega) ((congrFun (k0 I 1074 (by omega) (by omega)) c).trans (hI.2.1 c hc).2.1) ?_
      refine jx_ifN_eq (a := (wht I c)) 59 dX11_cell_47 (by decide) (by omega) (fun h47 => ?_) (fun h47 => ?_)
      · refine jx_aload_n dX11_cell_59 rfl ?_
        refine jx_iload_n dX11_cell_60 rfl ?_
        refine jx_Vi (as := [.int _]) dX11_cell_61 mlX11_393 okX11_isShore viX11_isShore rfl rfl rfl rfl rfl (by decide) (Nat.le_of_ble_eq_true rfl) (tX11_isShore hW hR hT (by omega)) ?_
        refine jx_ifB_eq 71 dX11_cell_64 (by decide) (fun h64 => ?_) (fun h64 => ?_)
        · refine jx_aload_n dX11_cell_71 rfl ?_
          refine jx_iload_n dX11_cell_72 rfl ?_
          refine jx_Vi (as := [.int _]) dX11_cell_73 mlX11_396 okX11_isIsland viX11_isIsland rfl rfl rfl rfl rfl (by decide) (Nat.le_of_ble_eq_true rfl) (tX11_isIsland hW hR hT (by omega)) ?_
          refine jx_ifB_eq 83 dX11_cell_76 (by decide) (fun h76 => ?_) (fun h76 => ?_)
          · refine jx_iconst (v := 0) dX11_cell_83 (by decide) ?_
            refine jx_iret dX11_cell_84 rfl ?_
            refine ⟨_, rfl, ?_, _, rfl, eqs_r _⟩
            unfold cellA
            first | (rw [if_pos h29]; try rfl) | (rw [if_neg h29]; unfold cellV; first | (rw [if_pos h47]; try rfl) | (rw [if_neg (fun q => q h47)]; first | rw [if_pos (of_decide_eq_true h64)] | (rw [if_neg (of_decide_eq_false h64)]; first | rw [if_pos (of_decide_eq_true h76)] | rw [if_neg (of_decide_eq_false h76)])))
          · refine jx_iconst (v := 4) dX11_cell_79 (by decide) ?_
            refine jx_goto 84 dX11_cell_80 (by decide) ?_
            refine jx_iret dX11_cell_84 rfl ?_
            refine ⟨_, rfl, ?_, _, rfl, eqs_r _⟩
            unfold cellA
            first | (rw [if_pos h29]; try rfl) | (rw [if_neg h29]; unfold cellV; first | (rw [if_pos h47]; try rfl) | (rw [if_neg (fun q => q h47)]; first | rw [if_pos (of_decide_eq_true h64)] | (rw [if_neg (of_decide_eq_false h64)]; first | rw [if_pos (of_decide_eq_true h76)] | rw [if_neg (of_decide_eq_false h76)])))
        · refine jx_iconst (v := 3) dX11_cell_67 (by decide) ?_
          refine jx_goto 84 dX11_cell_68 (by decide) ?_
          refine jx_iret dX11_cell_84 rfl ?_
          refine ⟨_, rfl, ?_, _, rfl, eqs_r _⟩
          unfold cellA
          first | (rw [if_pos h29]; try rfl) | (rw [if_neg h29]; unfold cellV; first | (rw [if_pos h47]; try rfl) | (rw [if_neg (fun q => q h47)]; first | rw [if_pos (of_decide_eq_true h64)] | (rw [if_neg (of_decide_eq_false h64)]; first | rw [if_pos (of_decide_eq_true h76)] | rw [if_neg (of_decide_eq_false h76)])))
      · refine jx_aload_n dX11_cell_50 rfl ?_
        refine jx_getR dX11_cell_51 flX11_41 rfl rfl (hR _ _ _ rfl) ?_
        refine jx_iload_n dX11_cell_54 rfl ?_
        refine jx_ialdE (c) dX11_cell_55 rfl (rfl) (by omega) (by omega) ((congrFun (k0 I 1074 (by omega) (by omega)) c).trans (hI.2.1 c hc).2.1) ?_
        refine jx_goto 84 dX11_cell_56 (by decide) ?_
        refine jx_iret dX11_cell_84 rfl ?_
        refine ⟨_, rfl, ?_, _, rfl, eqs_r _⟩
        unfold cellA
        first | (rw [if_pos h29]; try rfl) | (rw [if_neg h29]; unfold cellV; first | (rw [if_pos h47]; try rfl) | (rw [if_neg (fun q => q h47)]; first | rw [if_pos (of_decide_eq_true h64)] | (rw [if_neg (of_decide_eq_false h64)]; first | rw [if_pos (of_decide_eq_true h76)] | rw [if_neg (of_decide_eq_false h76)])))
    · refine jx_aload_n dX11_cell_32 rfl ?_
      refine jx_getR dX11_cell_33 flX11_38 rfl rfl (hR _ _ _ rfl) ?_
      refine jx_iload_n dX11_cell_36 rfl ?_
      refine jx_ialdE (c) dX11_cell_37 rfl (rfl) (by omega) (by omega) ((congrFun (k0 I 1073 (by omega) (by omega)) c).trans (hI.2.1 c hc).1.1) ?_
      refine jx_goto 84 dX11_cell_38 (by decide) ?_
      refine jx_iret dX11_cell_84 rfl ?_
      refine ⟨_, rfl, ?_, _, rfl, eqs_r _⟩
      unfold cellA
      first | (rw [if_pos h29]; try rfl) | (rw [if_neg h29]; unfold cellV; first | (rw [if_pos h47]; try rfl) | (rw [if_neg (fun q => q h47)]; first | rw [if_pos (of_decide_eq_true h64)] | (rw [if_neg (of_decide_eq_false h64)]; first | rw [if_pos (of_decide_eq_true h76)] | rw [if_neg (of_decide_eq_false h76)])))
  · omega
def partyV (I : Nat → Nat → Int32) (p k : Nat) : Int32 := I (1076 + k) p
set_option maxHeartbeats 1000000 in
set_option maxRecDepth 20000 in
theorem tX11_partyF (hW : jWok w l) (hR : RS R) {W H np len : Nat} (hI : RI I W H np len) (p k : Int32) (hbad : ¬ (ltQ p np = true ∧ 0 ≤ k.toInt ∧ k.toInt ≤ 5)) : jCD w l mX11_party 3 [.ref 1069, .int p, .int k] (n, shE, I, L, R) (some (.int 0)) (n, shE, upI I 1069 2 1, L, R) := by
  refine jCD_of hW (by decide) rfl (Nat.le_of_ble_eq_true rfl) ?_
  have hI0 := hI.kp (k0 I)
  refine jx_aload_n dX11_party_0 rfl ?_
  refine jx_iconst (v := 0) dX11_party_1 (by decide) ?_
  refine jx_putI dX11_party_2 flX11_187 rfl rfl (fun r h => by cases h; rfl) ?_
  refine jx_aload_n dX11_party_5 rfl ?_
  refine jx_iload_n dX11_party_6 rfl ?_
  refine jx_Vi (as := [.int _]) dX11_party_7 mlX11_448 okX11_isParty viX11_isParty rfl rfl rfl rfl rfl (by decide) (Nat.le_of_ble_eq_true rfl) (tX11_isParty hW hR (hI0.2.2.2.2.1.1) hI0.2.2.2.2.1.2 _) ?_
  refine jx_ifB_ne 19 dX11_party_10 (by decide) (fun h10 => ?_) (fun h10 => ?_)
  · refine jx_iload_n dX11_party_19 rfl ?_
    by_cases hs20_0 : k = 0
    · subst hs20_0
      refine jx_tsIn 60 dX11_party_20 (by decide) (by decide) rfl (by decide) ?_
      exact absurd ⟨h10, by decide, by decide⟩ hbad
    by_cases hs20_1 : k = 1
    · subst hs20_1
      refine jx_tsIn 67 dX11_party_20 (by decide) (by decide) rfl (by decide) ?_
      exact absurd ⟨h10, by decide, by decide⟩ hbad
    by_cases hs20_2 : k = 2
    · subst hs20_2
      refine jx_tsIn 74 dX11_party_20 (by decide) (by decide) rfl (by decide) ?_
      exact absurd ⟨h10, by decide, by decide⟩ hbad
    by_cases hs20_3 : k = 3
    · subst hs20_3
      refine jx_tsIn 81 dX11_party_20 (by decide) (by decide) rfl (by decide) ?_
      exact absurd ⟨h10, by decide, by decide⟩ hbad
    by_cases hs20_4 : k = 4
    · subst hs20_4
      refine jx_tsIn 88 dX11_party_20 (by decide) (by decide) rfl (by decide) ?_
      exact absurd ⟨h10, by decide, by decide⟩ hbad
    by_cases hs20_5 : k = 5
    · subst hs20_5
      refine jx_tsIn 95 dX11_party_20 (by decide) (by decide) rfl (by decide) ?_
      exact absurd ⟨h10, by decide, by decide⟩ hbad
    refine jx_tsOut 102 dX11_party_20 ?_ (by decide) ?_
    · have z0 := lv_neT hs20_0 (a := 0) rfl; have z1 := lv_neT hs20_1 (a := 1) rfl; have z2 := lv_neT hs20_2 (a := 2) rfl; have z3 := lv_neT hs20_3 (a := 3) rfl; have z4 := lv_neT hs20_4 (a := 4) rfl; have z5 := lv_neT hs20_5 (a := 5) rfl; omega
    refine jx_aload_n dX11_party_102 rfl ?_
    refine jx_iconst (v := 1) dX11_party_103 (by decide) ?_
    refine jx_Vi (as := [.int _]) dX11_party_104 mlX11_351 okX11_fail viX11_fail rfl rfl rfl rfl rfl (by decide) (Nat.le_of_ble_eq_true rfl) (tX11_fail hW _) ?_
    refine jx_iret dX11_party_107 rfl ?_
    exact ⟨rfl, by rw [up_up]⟩
  · refine jx_aload_n dX11_party_13 rfl ?_
    refine jx_iconst (v := 1) dX11_party_14 (by decide) ?_
    refine jx_Vi (as := [.int _]) dX11_party_15 mlX11_351 okX11_fail viX11_fail rfl rfl rfl rfl rfl (by decide) (Nat.le_of_ble_eq_true rfl) (tX11_fail hW _) ?_
    refine jx_iret dX11_party_18 rfl ?_
    exact ⟨rfl, by rw [up_up]⟩
set_option maxHeartbeats 1000000 in
set_option maxRecDepth 20000 in
theorem tX11_party (hW : jWok w l) (hR : RS R) {W H np len : Nat} (hI : RI I W H np len) {p : Nat} (k : Int32) (hp : p < np) (hk : 0 ≤ k.toInt ∧ k.toInt ≤ 5) : jRi w l mX11_party 3 [.ref 1069, .int (nI p), .int k] (n, shE, I, L, R) (fun r t => r = partyV I p (cN k) ∧ ∃ J, t = (n, shE, J, L, R) ∧ eqs (upI I 1069 2 0) J) := by
  refine jRi_of hW (by decide) rfl (Nat.le_of_ble_eq_true rfl) ?_
  have hI0 := hI.kp (k0 I)
  have hnp := hI0.2.2.2.2.1.2
  refine jx_aload_n dX11_party_0 rfl ?_
  refine jx_iconst (v := 0) dX11_party_1 (by decide) ?_
  refine jx_putI dX11_party_2 flX11_187 rfl rfl (fun r h => by cases h; rfl) ?_
  refine jx_aload_n dX11_party_5 rfl ?_
  refine jx_iload_n dX11_party_6 rfl ?_
  refine jx_Vi (as := [.int _]) dX11_party_7 mlX11_448 okX11_isParty viX11_isParty rfl rfl rfl rfl rfl (by decide) (Nat.le_of_ble_eq_true rfl) (tX11_isPartyT hW hR (hI0.2.2.2.2.1.1) hI0.2.2.2.2.1.2 hp) ?_
  refine jx_ifB_ne 19 dX11_party_10 (by decide) (fun h10 => ?_) (fun h10 => by cases h10)
  refine jx_iload_n dX11_party_19 rfl ?_
  by_cases hs20_0 : k = 0
  · subst hs20_0
    refine jx_tsIn 60 dX11_party_20 (by decide) (by decide) rfl (by decide) ?_
    refine jx_aload_n dX11_party_60 rfl ?_
    refine jx_getR dX11_party_61 flX11_47 rfl rfl (hR _ _ _ rfl) ?_
    refine jx_iload_n dX11_party_64 rfl ?_
    refine jx_ialdN (p) dX11_party_65 rfl (rfl) (by omega) (by omega) ?_
    refine jx_iret dX11_party_66 rfl ?_
    exact ⟨_, rfl, rfl, _, rfl, eqs_r _⟩
  by_cases hs20_1 : k = 1
  · subst hs20_1
    refine jx_tsIn 67 dX11_party_20 (by decide) (by decide) rfl (by decide) ?_
    refine jx_aload_n dX11_party_67 rfl ?_
    refine jx_getR dX11_party_68 flX11_50 rfl rfl (hR _ _ _ rfl) ?_
    refine jx_iload_n dX11_party_71 rfl ?_
    refine jx_ialdN (p) dX11_party_72 rfl (rfl) (by omega) (by omega) ?_
    refine jx_iret dX11_party_73 rfl ?_
    exact ⟨_, rfl, rfl, _, rfl, eqs_r _⟩
  by_cases hs20_2 : k = 2
  · subst hs20_2
    refine jx_tsIn 74 dX11_party_20 (by decide) (by decide) rfl (by decide) ?_
    refine jx_aload_n dX11_party_74 rfl ?_
    refine jx_getR dX11_party_75 flX11_53 rfl rfl (hR _ _ _ rfl) ?_
    refine jx_iload_n dX11_party_78 rfl ?_
    refine jx_ialdN (p) dX11_party_79 rfl (rfl) (by omega) (by omega) ?_
    refine jx_iret dX11_party_80 rfl ?_
    exact ⟨_, rfl, rfl, _, rfl, eqs_r _⟩
  by_cases hs20_3 : k = 3
  · subst hs20_3
    refine jx_tsIn 81 dX11_party_20 (by decide) (by decide) rfl (by decide) ?_
    refine jx_aload_n dX11_party_81 rfl ?_
    refine jx_getR dX11_party_82 flX11_56 rfl rfl (hR _ _ _ rfl) ?_
    refine jx_iload_n dX11_party_85 rfl ?_
    refine jx_ialdN (p) dX11_party_86 rfl (rfl) (by omega) (by omega) ?_
    refine jx_iret dX11_party_87 rfl ?_
    exact ⟨_, rfl, rfl, _, rfl, eqs_r _⟩
  by_cases hs20_4 : k = 4
  · subst hs20_4
    refine jx_tsIn 88 dX11_party_20 (by decide) (by decide) rfl (by decide) ?_
    refine jx_aload_n dX11_party_88 rfl ?_
    refine jx_getR dX11_party_89 flX11_59 rfl rfl (hR _ _ _ rfl) ?_
    refine jx_iload_n dX11_party_92 rfl ?_
    refine jx_ialdN (p) dX11_party_93 rfl (rfl) (by omega) (by omega) ?_
    refine jx_iret dX11_party_94 rfl ?_
    exact ⟨_, rfl, rfl, _, rfl, eqs_r _⟩
  by_cases hs20_5 : k = 5
  · subst hs20_5
    refine jx_tsIn 95 dX11_party_20 (by decide) (by decide) rfl (by decide) ?_
    refine jx_aload_n dX11_party_95 rfl ?_
    refine jx_getR dX11_party_96 flX11_62 rfl rfl (hR _ _ _ rfl) ?_
    refine jx_iload_n dX11_party_99 rfl ?_
    refine jx_ialdN (p) dX11_party_100 rfl (rfl) (by omega) (by omega) ?_
    refine jx_iret dX11_party_101 rfl ?_
    exact ⟨_, rfl, rfl, _, rfl, eqs_r _⟩
  refine jx_tsOut 102 dX11_party_20 ?_ (by decide) ?_
  · have z0 := lv_neT hs20_0 (a := 0) rfl; have z1 := lv_neT hs20_1 (a := 1) rfl; have z2 := lv_neT hs20_2 (a := 2) rfl; have z3 := lv_neT hs20_3 (a := 3) rfl; have z4 := lv_neT hs20_4 (a := 4) rfl; have z5 := lv_neT hs20_5 (a := 5) rfl; omega
  exfalso
  have z0 := lv_neT hs20_0 (a := 0) rfl; have z1 := lv_neT hs20_1 (a := 1) rfl; have z2 := lv_neT hs20_2 (a := 2) rfl; have z3 := lv_neT hs20_3 (a := 3) rfl; have z4 := lv_neT hs20_4 (a := 4) rfl; have z5 := lv_neT hs20_5 (a := 5) rfl; omega
set_option maxHeartbeats 1000000 in
set_option maxRecDepth 20000 in
theorem tX11_fault (hW : jWok w l)  : jCD w l mX11_fault 1 [.ref 1069] (n, shE, I, L, R) (some (.int (I 1069 26))) (n, shE, upI I 1069 2 0, L, R) := by
  refine jCD_of hW (by decide) rfl (Nat.le_of_ble_eq_true rfl) ?_
  refine jx_aload_n dX11_fault_0 rfl ?_
  refine jx_iconst (v := 0) dX11_fault_1 (by decide) ?_
  refine jx_putI dX11_fault_2 flX11_187 rfl rfl (fun r h => by cases h; rfl) ?_
  refine jx_aload_n dX11_fault_5 rfl ?_
  refine jx_getI dX11_fault_6 flX11_78 rfl rfl ?_
  refine jx_iret dX11_fault_9 rfl ?_
  exact ⟨rfl, rfl⟩
end RG
