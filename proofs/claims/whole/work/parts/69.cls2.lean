/-! THE CLASS: quicksand, firm and safe cells, those beside -/
/-- what the sands need of T -/
def TQ (T : Nat → Nat → Int32) (W H : Nat) : Prop := (3 ≤ W ∧ W ≤ 9) ∧ (1 ≤ H ∧ H ≤ 7) ∧ (T 1072 4 = nI (cN (T 1072 4)) ∧ cN (T 1072 4) ≤ 12) ∧ (∀ k, k < cN (T 1072 4) → T 1075 k = nI (cN (T 1075 k)) ∧ cN (T 1075 k) < W * H) ∧ ((-2 ≤ (T 1072 5).toInt ∧ (T 1072 5).toInt ≤ 2) ∧ -2 ≤ (T 1072 6).toInt ∧ (T 1072 6).toInt ≤ 2) ∧ ∀ c, c < W * H → (T 1073 c = nI (cN (T 1073 c)) ∧ cN (T 1073 c) ≤ 9) ∧ T 1074 c = nI (cN (T 1074 c)) ∧ cN (T 1074 c) ≤ 2
theorem RI.tq {T : Nat → Nat → Int32} {W H np len : Nat} (h : RI T W H np len) : TQ T W H := ⟨⟨h.1.1.2.2.1, h.1.1.2.2.2.1⟩, ⟨h.1.1.2.2.2.2.1, h.1.1.2.2.2.2.2⟩, h.1.2.1, h.1.2.2, h.2.2.1, h.2.1⟩
theorem qOn_lt {W H : Nat} {qa : Nat → Nat} {day : Nat} {dx dy : Int} (hw : 0 < W) (hh : 0 < H) {c : Nat} : ∀ k, qOn W H qa day dx dy k c = true → c < W * H
  | 0, h => by cases h
  | k + 1, h => by
    rw [qOn] at h
    simp only [Bool.or_eq_true, decide_eq_true_eq] at h
    rcases h with h | h
    · exact qOn_lt hw hh k h
    · rw [← h]; exact qpos_lt _ _ _ _ hw hh
def frmF (T : Nat → Nat → Int32) (W H day load c : Nat) : Bool := decide (c < W * H) && !(decide (0 < load) && qq T W H day c)
def safF (T : Nat → Nat → Int32) (W H day lev kind load c : Nat) : Bool := decide (c < W * H) && mayQ W (hgt T) (wht T) (qq T W H day) lev kind load c
theorem saf_eq {T : Nat → Nat → Int32} {W H : Nat} (hT : TQ T W H) {day lev kind load : Nat} (hk : kind < 4) (hl : load < 10) (hlv : lev < 21) (c : Nat) :
    (decide (c < W * H ∧ c % W = 0) || decide (c < W * H ∧ c % W = W - 1) || decide (c < W * H ∧ T 1074 c = 1) || decide (c < W * H ∧ T 1074 c = 2) || (frmF T W H day load c && decide (c < W * H ∧ lwN kind load lev ≤ cN (T 1073 c)))) = safF T W H day lev kind load c := by
  unfold safF frmF mayQ
  by_cases hc : c < W * H
  · have hcl := hT.2.2.2.2.2 c hc
    have e1 : decide (wht T c ≠ 0) = (decide (T 1074 c = 1) || decide (T 1074 c = 2)) := by
      unfold wht
      have : cN (T 1074 c) = 0 ∨ cN (T 1074 c) = 1 ∨ cN (T 1074 c) = 2 := by omega
      have h2 := hcl.2.1
      rcases this with q | q | q <;> rw [q] at h2 ⊢ <;> rw [h2] <;> decide
    have e3 : decide (c < W * H ∧ lwN kind load lev ≤ cN (T 1073 c)) = (!decide (hgt T c + (if kind = 2 then 2 else 0) ≤ lev) && (decide (kind ≠ 1) || decide (load ≤ hgt T c + 2))) := by
      rw [Bool.eq_iff_iff]
      simp only [Bool.and_eq_true, Bool.or_eq_true, Bool.not_eq_true', decide_eq_true_eq, decide_eq_false_iff_not]
      unfold lwN hgt
      by_cases q2 : kind = 2
      · rw [if_pos q2, if_pos q2]
        constructor
        · intro z; exact ⟨by omega, Or.inl (by omega)⟩
        · intro z; exact ⟨hc, by omega⟩
      · rw [if_neg q2, if_neg q2]
        by_cases q1 : kind = 1 ∧ lev + 3 < load
        · rw [if_pos q1]
          constructor
          · intro z; exact ⟨by omega, Or.inr (by omega)⟩
          · rintro ⟨z1, z2⟩; exact ⟨hc, by rcases z2 with z2 | z2 <;> omega⟩
        · rw [if_neg q1]
          constructor
          · intro z
            refine ⟨by omega, ?_⟩
            by_cases q3 : kind = 1
            · exact Or.inr (by omega)
            · exact Or.inl q3
          · rintro ⟨z1, -⟩; exact ⟨hc, by omega⟩
    simp only [hc, true_and, decide_true, Bool.true_and, e1] at e3 ⊢
    rw [e3]
    cases decide (c % W = 0) <;> cases decide (c % W = W - 1) <;> cases decide (T 1074 c = 1) <;> cases decide (T 1074 c = 2) <;> cases decide (hgt T c + (if kind = 2 then 2 else 0) ≤ lev) <;> cases (decide (0 < load) && qq T W H day c) <;> simp
  · simp [hc]
section CB
variable {w : jWD} {l : Launch} {n : Nat} {I : Nat → Nat → Int32} {L : Nat → Nat → Int64} {R : Nat → Nat → Option Nat}

set_option maxHeartbeats 1000000 in
set_option maxRecDepth 20000 in
theorem tX8_quickNow (hW : jWok w l) (hR : RS R) {s W H : Nat} {T : Nat → Nat → Int32} (hs : s = 1009 ∨ s = 1025) (hS : CSn I L s T W H) (hT : TQ T W H) {day : Nat} (hd : day ≤ 40) : jCD w l mX8_quickNow 3 [.ref s, .int (nI day)] (n, shE, I, L, R) (some (.long (bs (qq T W H day)))) (n, shE, I, L, R) := by
  refine jCD_of hW (by decide) rfl (Nat.le_of_ble_eq_true rfl) ?_
  rcases hs with rfl | rfl
  all_goals
    refine jx_aload_n dX8_quickNow_0 rfl ?_
    refine jx_iload_n dX8_quickNow_1 rfl ?_
    refine jx_aload_n dX8_quickNow_2 rfl ?_
    refine jx_getIE dX8_quickNow_3 flX8_51 rfl rfl (hS.2.2.2.1.1) ?_
    refine jx_aload_n dX8_quickNow_6 rfl ?_
    refine jx_getIE dX8_quickNow_7 flX8_54 rfl rfl (hS.2.2.2.1.2) ?_
    refine jx_Vl (as := [.int _, .int _, .int _]) dX8_quickNow_10 mlX8_73 okX8_quickOn viX8_quickOn rfl rfl rfl rfl rfl (by decide) (Nat.le_of_ble_eq_true rfl) (tX8_quickOn hW hR (by decide) hS hT.1 hT.2.1 hT.2.2.1 hT.2.2.2.1 hd hT.2.2.2.2.1.1 hT.2.2.2.2.1.2) ?_
    refine jx_lret dX8_quickNow_13 rfl ?_
    exact ⟨rfl, rfl⟩
set_option maxHeartbeats 1000000 in
set_option maxRecDepth 20000 in
theorem tX8_quickBy (hW : jWok w l) (hR : RS R) {s W H : Nat} {T : Nat → Nat → Int32} (hs : s = 1009 ∨ s = 1025) (hS : CSn I L s T W H) (hT : TQ T W H) {day m : Nat} (hd : day ≤ 40) (hm : m < 25) : jCD w l mX8_quickBy 3 [.ref s, .int (nI m), .int (nI day)] (n, shE, I, L, R) (some (.long (bs (fun c => qOn W H (fun k => cN (T 1075 k)) day ((m / 5 : Nat) - 2 : Int) ((m % 5 : Nat) - 2 : Int) (cN (T 1072 4)) c)))) (n, shE, I, L, R) := by
  refine jCD_of hW (by decide) rfl (Nat.le_of_ble_eq_true rfl) ?_
  have z1 : (nI (m / 5) - 2).toInt = ((m / 5 : Nat) : Int) - 2 := by
    have : m / 5 < 5 := by omega
    generalize m / 5 = q at this
    revert q; decide
  have z2 : (nI (m % 5) - 2).toInt = ((m % 5 : Nat) : Int) - 2 := by
    have : m % 5 < 5 := by omega
    generalize m % 5 = q at this
    revert q; decide
  rcases hs with rfl | rfl
  all_goals
    refine jx_aload_n dX8_quickBy_0 rfl ?_
    refine jx_iload_n dX8_quickBy_1 rfl ?_
    refine jx_iload_n dX8_quickBy_2 rfl ?_
    refine jx_iconst (v := 5) dX8_quickBy_3 (by decide) ?_
    refine jx_idivE (z := nI (m / 5)) dX8_quickBy_4 (nI_ne0 (n := 5) (by omega) (by omega)) (pk_div (a := m) (d := 5) (by omega) (by omega) (by omega)) ?_
    refine jx_iconst (v := 2) dX8_quickBy_5 (by decide) ?_
    refine jx_isub dX8_quickBy_6 ?_
    refine jx_iload_n dX8_quickBy_7 rfl ?_
    refine jx_iconst (v := 5) dX8_quickBy_8 (by decide) ?_
    refine jx_iremE (z := nI (m % 5)) dX8_quickBy_9 (nI_ne0 (n := 5) (by omega) (by omega)) (pk_rem (a := m) (d := 5) (by omega) (by omega) (by omega)) ?_
    refine jx_iconst (v := 2) dX8_quickBy_10 (by decide) ?_
    refine jx_isub dX8_quickBy_11 ?_
    refine jx_Vl (as := [.int _, .int _, .int _]) dX8_quickBy_12 mlX8_73 okX8_quickOn viX8_quickOn rfl rfl rfl rfl rfl (by decide) (Nat.le_of_ble_eq_true rfl) (tX8_quickOn hW hR (by decide) hS hT.1 hT.2.1 hT.2.2.1 hT.2.2.2.1 hd (by rw [z1]; omega) (by rw [z2]; omega)) ?_
    refine jx_lret dX8_quickBy_15 rfl ?_
    refine ⟨?_, rfl⟩
    rw [z1, z2]
set_option maxHeartbeats 1000000 in
set_option maxRecDepth 20000 in
theorem tX8_firmFor (hW : jWok w l) (hR : RS R) {s W H : Nat} {T : Nat → Nat → Int32} (hs : s = 1009 ∨ s = 1025) (hS : CSn I L s T W H) (hT : TQ T W H) {day load : Nat} (hd : day ≤ 40) (hl : load < 10) : jCD w l mX8_firmFor 4 [.ref s, .int (nI load), .int (nI day)] (n, shE, I, L, R) (some (.long (bs (frmF T W H day load)))) (n, shE, I, L, R) := by
  refine jCD_of hW (by decide) rfl (Nat.le_of_ble_eq_true rfl) ?_
  rcases hs with rfl | rfl
  all_goals
    refine jx_iload_n dX8_firmFor_0 rfl ?_
    refine jx_ifN_ne (a := load) 11 dX8_firmFor_1 (by decide) (by omega) (fun h1 => ?_) (fun h1 => ?_)
    · refine jx_aload_n dX8_firmFor_11 rfl ?_
      refine jx_getL dX8_firmFor_12 flX8_57 rfl rfl ?_
      refine jx_aload_n dX8_firmFor_15 rfl ?_
      refine jx_iload_n dX8_firmFor_16 rfl ?_
      refine jx_aload_n dX8_firmFor_17 rfl ?_
      refine jx_getIE dX8_firmFor_18 flX8_51 rfl rfl (hS.2.2.2.1.1) ?_
      refine jx_aload_n dX8_firmFor_21 rfl ?_
      refine jx_getIE dX8_firmFor_22 flX8_54 rfl rfl (hS.2.2.2.1.2) ?_
      refine jx_Vl (as := [.int _, .int _, .int _]) dX8_firmFor_25 mlX8_73 okX8_quickOn viX8_quickOn rfl rfl rfl rfl rfl (by decide) (Nat.le_of_ble_eq_true rfl) (tX8_quickOn hW hR (by decide) hS hT.1 hT.2.1 hT.2.2.1 hT.2.2.2.1 hd hT.2.2.2.2.1.1 hT.2.2.2.2.1.2) ?_
      refine jx_ldc2 dX8_firmFor_28 ctX8_83 ?_
      refine jx_lxor dX8_firmFor_31 ?_
      refine jx_land dX8_firmFor_32 ?_
      refine jx_lret dX8_firmFor_33 rfl ?_
      refine ⟨congrArg (fun z => some (Value.long z)) ?_, rfl⟩
      unfold frmF
      first | (have h1 : load = 0 := h1; rw [hS.2.2.2.2.2.1.1]; exact bs_c (fun c _ => by rw [h1]; simp)) | (have h1 : ¬ load = 0 := h1; rw [hS.2.2.2.2.2.1.1, bs_not, bs_and]; exact bs_c (fun c _ => by rw [decide_eq_true (show 0 < load by omega), Bool.true_and] <;> rfl))
    · refine jx_aload_n dX8_firmFor_4 rfl ?_
      refine jx_getL dX8_firmFor_5 flX8_57 rfl rfl ?_
      refine jx_goto 33 dX8_firmFor_8 (by decide) ?_
      refine jx_lret dX8_firmFor_33 rfl ?_
      refine ⟨congrArg (fun z => some (Value.long z)) ?_, rfl⟩
      unfold frmF
      first | (have h1 : load = 0 := h1; rw [hS.2.2.2.2.2.1.1]; exact bs_c (fun c _ => by rw [h1]; simp)) | (have h1 : ¬ load = 0 := h1; rw [hS.2.2.2.2.2.1.1, bs_not, bs_and]; exact bs_c (fun c _ => by rw [decide_eq_true (show 0 < load by omega), Bool.true_and] <;> rfl))
set_option maxHeartbeats 1000000 in
set_option maxRecDepth 20000 in
theorem tX8_safeFor (hW : jWok w l) (hR : RS R) {s W H : Nat} {T : Nat → Nat → Int32} (hs : s = 1009 ∨ s = 1025) (hS : CSn I L s T W H) (hT : TQ T W H) {day kind load lev : Nat} (hk : kind < 4) (hl : load < 10) (hlv : lev < 21) : jCD w l mX8_safeFor 2 [.ref s, .int (nI kind), .int (nI load), .int (nI lev), .long (bs (frmF T W H day load))] (n, shE, I, L, R) (some (.long (bs (safF T W H day lev kind load)))) (n, shE, I, L, R) := by
  refine jCD_of hW (by decide) rfl (Nat.le_of_ble_eq_true rfl) ?_
  rcases hs with rfl | rfl
  all_goals
    refine jx_iload_n dX8_safeFor_0 rfl ?_
    refine jx_iconst (v := 2) dX8_safeFor_1 (by decide) ?_
    refine jx_icmpN_ne (a := kind) (b := 2) 11 dX8_safeFor_2 (by decide) (by omega) (by omega) (fun h2 => ?_) (fun h2 => ?_)
    · skip
      refine jx_iload_n dX8_safeFor_11 rfl ?_
      refine jx_iconst (v := 1) dX8_safeFor_12 (by decide) ?_
      refine jx_iadd dX8_safeFor_13 ?_
      refine jx_istore dX8_safeFor_14 (by decide) ?_
      refine jx_iload_n dX8_safeFor_16 rfl ?_
      refine jx_iconst (v := 1) dX8_safeFor_17 (by decide) ?_
      refine jx_icmpN_ne (a := kind) (b := 1) 31 dX8_safeFor_18 (by decide) (by omega) (by omega) (fun h18 => ?_) (fun h18 => ?_)
      · skip
        refine jx_iload dX8_safeFor_31 rfl ?_
        refine jx_iconst (v := 0) dX8_safeFor_33 (by decide) ?_
        refine jx_Si (as := [.int _, .int _]) dX8_safeFor_34 mlX8_85 okJ9_max_7cf53 stJ9_max_7cf53 rfl rfl (by decide) (Nat.le_of_ble_eq_true rfl) (tJ9_max_7cf53 hW _ _ _) ?_
        rw [show (if (nI lev + 1) < 0 then 0 else (nI lev + 1)) = nI (lwN kind load lev) from (show (if (nI lev + 1) < 0 then 0 else (nI lev + 1)) = lwI kind load lev by unfold lwI; rw [if_neg h2, if_neg h18]).trans (lw_eq kind hk load hl lev hlv)]
        have hlw : lwN kind load lev ≤ 22 := lwN_le hl hlv
        refine jx_istore dX8_safeFor_37 (by decide) ?_
        refine jx_aload_n dX8_safeFor_39 rfl ?_
        refine jx_getL dX8_safeFor_40 flX8_60 rfl rfl ?_
        refine jx_aload_n dX8_safeFor_43 rfl ?_
        refine jx_getL dX8_safeFor_44 flX8_63 rfl rfl ?_
        refine jx_lor dX8_safeFor_47 ?_
        refine jx_aload_n dX8_safeFor_48 rfl ?_
        refine jx_getL dX8_safeFor_49 flX8_39 rfl rfl ?_
        refine jx_lor dX8_safeFor_52 ?_
        refine jx_aload_n dX8_safeFor_53 rfl ?_
        refine jx_getL dX8_safeFor_54 flX8_42 rfl rfl ?_
        refine jx_lor dX8_safeFor_57 ?_
        refine jx_lstore dX8_safeFor_58 (by decide) ?_
        refine jx_iload dX8_safeFor_60 rfl ?_
        refine jx_bipush (v := 10) dX8_safeFor_62 (by decide) ?_
        refine jx_icmpN_ge (a := (lwN kind load lev)) (b := 10) 83 dX8_safeFor_64 (by decide) (by omega) (by omega) (fun h64 => ?_) (fun h64 => ?_)
        · refine jx_lload dX8_safeFor_83 rfl ?_
          refine jx_lret dX8_safeFor_85 rfl ?_
          refine ⟨congrArg (fun z => some (Value.long z)) ?_, rfl⟩
          have hb := bs_c (fun c (_ : c < 64) => saf_eq hT (day := day) hk hl hlv c)
          rw [← hb, hS.2.2.2.2.2.1.2.1, hS.2.2.2.2.2.1.2.2, hS.2.2.2.2.1.1, hS.2.2.2.2.1.2, bs_or, bs_or, bs_or]
          first | (rw [bs_and, bs_or]) | (exact bs_c (fun c _ => by
            by_cases hc : c < W * H
            · have := (hT.2.2.2.2.2 c hc).1.2
              rw [decide_eq_false (p := c < W * H ∧ lwN kind load lev ≤ cN (T 1073 c)) (by omega), Bool.and_false, Bool.or_false]
            · rw [decide_eq_false (p := c < W * H ∧ lwN kind load lev ≤ cN (T 1073 c)) (fun q => hc q.1), Bool.and_false, Bool.or_false]))
        · refine jx_lload dX8_safeFor_67 rfl ?_
          refine jx_lload dX8_safeFor_69 rfl ?_
          refine jx_aload_n dX8_safeFor_71 rfl ?_
          refine jx_getR dX8_safeFor_72 flX8_18 rfl rfl (hR _ _ _ rfl) ?_
          refine jx_iload dX8_safeFor_75 rfl ?_
          refine jx_laldE (lwN kind load lev) dX8_safeFor_77 rfl (rfl) (by omega) (by omega) (hS.2.2.2.2.2.2 (lwN kind load lev) (by omega)) ?_
          refine jx_land dX8_safeFor_78 ?_
          refine jx_lor dX8_safeFor_79 ?_
          refine jx_goto 85 dX8_safeFor_80 (by decide) ?_
          refine jx_lret dX8_safeFor_85 rfl ?_
          refine ⟨congrArg (fun z => some (Value.long z)) ?_, rfl⟩
          have hb := bs_c (fun c (_ : c < 64) => saf_eq hT (day := day) hk hl hlv c)
          rw [← hb, hS.2.2.2.2.2.1.2.1, hS.2.2.2.2.2.1.2.2, hS.2.2.2.2.1.1, hS.2.2.2.2.1.2, bs_or, bs_or, bs_or]
          first | (rw [bs_and, bs_or]) | (exact bs_c (fun c _ => by
            by_cases hc : c < W * H
            · have := (hT.2.2.2.2.2 c hc).1.2
              rw [decide_eq_false (p := c < W * H ∧ lwN kind load lev ≤ cN (T 1073 c)) (by omega), Bool.and_false, Bool.or_false]
            · rw [decide_eq_false (p := c < W * H ∧ lwN kind load lev ≤ cN (T 1073 c)) (fun q => hc q.1), Bool.and_false, Bool.or_false]))
      · skip
        refine jx_iload dX8_safeFor_21 rfl ?_
        refine jx_iload_n dX8_safeFor_23 rfl ?_
        refine jx_iconst (v := 2) dX8_safeFor_24 (by decide) ?_
        refine jx_isub dX8_safeFor_25 ?_
        refine jx_Si (as := [.int _, .int _]) dX8_safeFor_26 mlX8_85 okJ9_max_7cf53 stJ9_max_7cf53 rfl rfl (by decide) (Nat.le_of_ble_eq_true rfl) (tJ9_max_7cf53 hW _ _ _) ?_
        refine jx_istore dX8_safeFor_29 (by decide) ?_
        refine jx_iload dX8_safeFor_31 rfl ?_
        refine jx_iconst (v := 0) dX8_safeFor_33 (by decide) ?_
        refine jx_Si (as := [.int _, .int _]) dX8_safeFor_34 mlX8_85 okJ9_max_7cf53 stJ9_max_7cf53 rfl rfl (by decide) (Nat.le_of_ble_eq_true rfl) (tJ9_max_7cf53 hW _ _ _) ?_
        rw [show (if (if (nI lev + 1) < nI load - 2 then nI load - 2 else (nI lev + 1)) < 0 then 0 else (if (nI lev + 1) < nI load - 2 then nI load - 2 else (nI lev + 1))) = nI (lwN kind load lev) from (show (if (if (nI lev + 1) < nI load - 2 then nI load - 2 else (nI lev + 1)) < 0 then 0 else (if (nI lev + 1) < nI load - 2 then nI load - 2 else (nI lev + 1))) = lwI kind load lev by unfold lwI; rw [if_neg h2, if_pos h18]).trans (lw_eq kind hk load hl lev hlv)]
        have hlw : lwN kind load lev ≤ 22 := lwN_le hl hlv
        refine jx_istore dX8_safeFor_37 (by decide) ?_
        refine jx_aload_n dX8_safeFor_39 rfl ?_
        refine jx_getL dX8_safeFor_40 flX8_60 rfl rfl ?_
        refine jx_aload_n dX8_safeFor_43 rfl ?_
        refine jx_getL dX8_safeFor_44 flX8_63 rfl rfl ?_
        refine jx_lor dX8_safeFor_47 ?_
        refine jx_aload_n dX8_safeFor_48 rfl ?_
        refine jx_getL dX8_safeFor_49 flX8_39 rfl rfl ?_
        refine jx_lor dX8_safeFor_52 ?_
        refine jx_aload_n dX8_safeFor_53 rfl ?_
        refine jx_getL dX8_safeFor_54 flX8_42 rfl rfl ?_
        refine jx_lor dX8_safeFor_57 ?_
        refine jx_lstore dX8_safeFor_58 (by decide) ?_
        refine jx_iload dX8_safeFor_60 rfl ?_
        refine jx_bipush (v := 10) dX8_safeFor_62 (by decide) ?_
        refine jx_icmpN_ge (a := (lwN kind load lev)) (b := 10) 83 dX8_safeFor_64 (by decide) (by omega) (by omega) (fun h64 => ?_) (fun h64 => ?_)
        · refine jx_lload dX8_safeFor_83 rfl ?_
          refine jx_lret dX8_safeFor_85 rfl ?_
          refine ⟨congrArg (fun z => some (Value.long z)) ?_, rfl⟩
          have hb := bs_c (fun c (_ : c < 64) => saf_eq hT (day := day) hk hl hlv c)
          rw [← hb, hS.2.2.2.2.2.1.2.1, hS.2.2.2.2.2.1.2.2, hS.2.2.2.2.1.1, hS.2.2.2.2.1.2, bs_or, bs_or, bs_or]
          first | (rw [bs_and, bs_or]) | (exact bs_c (fun c _ => by
            by_cases hc : c < W * H
            · have := (hT.2.2.2.2.2 c hc).1.2
              rw [decide_eq_false (p := c < W * H ∧ lwN kind load lev ≤ cN (T 1073 c)) (by omega), Bool.and_false, Bool.or_false]
            · rw [decide_eq_false (p := c < W * H ∧ lwN kind load lev ≤ cN (T 1073 c)) (fun q => hc q.1), Bool.and_false, Bool.or_false]))
        · refine jx_lload dX8_safeFor_67 rfl ?_
          refine jx_lload dX8_safeFor_69 rfl ?_
          refine jx_aload_n dX8_safeFor_71 rfl ?_
          refine jx_getR dX8_safeFor_72 flX8_18 rfl rfl (hR _ _ _ rfl) ?_
          refine jx_iload dX8_safeFor_75 rfl ?_
          refine jx_laldE (lwN kind load lev) dX8_safeFor_77 rfl (rfl) (by omega) (by omega) (hS.2.2.2.2.2.2 (lwN kind load lev) (by omega)) ?_
          refine jx_land dX8_safeFor_78 ?_
          refine jx_lor dX8_safeFor_79 ?_
          refine jx_goto 85 dX8_safeFor_80 (by decide) ?_
          refine jx_lret dX8_safeFor_85 rfl ?_
          refine ⟨congrArg (fun z => some (Value.long z)) ?_, rfl⟩
          have hb := bs_c (fun c (_ : c < 64) => saf_eq hT (day := day) hk hl hlv c)
          rw [← hb, hS.2.2.2.2.2.1.2.1, hS.2.2.2.2.2.1.2.2, hS.2.2.2.2.1.1, hS.2.2.2.2.1.2, bs_or, bs_or, bs_or]
          first | (rw [bs_and, bs_or]) | (exact bs_c (fun c _ => by
            by_cases hc : c < W * H
            · have := (hT.2.2.2.2.2 c hc).1.2
              rw [decide_eq_false (p := c < W * H ∧ lwN kind load lev ≤ cN (T 1073 c)) (by omega), Bool.and_false, Bool.or_false]
            · rw [decide_eq_false (p := c < W * H ∧ lwN kind load lev ≤ cN (T 1073 c)) (fun q => hc q.1), Bool.and_false, Bool.or_false]))
    · skip
      refine jx_iload_n dX8_safeFor_5 rfl ?_
      refine jx_iconst (v := 1) dX8_safeFor_6 (by decide) ?_
      refine jx_isub dX8_safeFor_7 ?_
      refine jx_goto 14 dX8_safeFor_8 (by decide) ?_
      refine jx_istore dX8_safeFor_14 (by decide) ?_
      refine jx_iload_n dX8_safeFor_16 rfl ?_
      refine jx_iconst (v := 1) dX8_safeFor_17 (by decide) ?_
      refine jx_icmpN_ne (a := kind) (b := 1) 31 dX8_safeFor_18 (by decide) (by omega) (by omega) (fun h18 => ?_) (fun h18 => ?_)
      · skip
        refine jx_iload dX8_safeFor_31 rfl ?_
        refine jx_iconst (v := 0) dX8_safeFor_33 (by decide) ?_
        refine jx_Si (as := [.int _, .int _]) dX8_safeFor_34 mlX8_85 okJ9_max_7cf53 stJ9_max_7cf53 rfl rfl (by decide) (Nat.le_of_ble_eq_true rfl) (tJ9_max_7cf53 hW _ _ _) ?_
        rw [show (if (nI lev - 1) < 0 then 0 else (nI lev - 1)) = nI (lwN kind load lev) from (show (if (nI lev - 1) < 0 then 0 else (nI lev - 1)) = lwI kind load lev by unfold lwI; rw [if_pos h2, if_neg h18]).trans (lw_eq kind hk load hl lev hlv)]
        have hlw : lwN kind load lev ≤ 22 := lwN_le hl hlv
        refine jx_istore dX8_safeFor_37 (by decide) ?_
        refine jx_aload_n dX8_safeFor_39 rfl ?_
        refine jx_getL dX8_safeFor_40 flX8_60 rfl rfl ?_
        refine jx_aload_n dX8_safeFor_43 rfl ?_
        refine jx_getL dX8_safeFor_44 flX8_63 rfl rfl ?_
        refine jx_lor dX8_safeFor_47 ?_
        refine jx_aload_n dX8_safeFor_48 rfl ?_
        refine jx_getL dX8_safeFor_49 flX8_39 rfl rfl ?_
        refine jx_lor dX8_safeFor_52 ?_
        refine jx_aload_n dX8_safeFor_53 rfl ?_
        refine jx_getL dX8_safeFor_54 flX8_42 rfl rfl ?_
        refine jx_lor dX8_safeFor_57 ?_
        refine jx_lstore dX8_safeFor_58 (by decide) ?_
        refine jx_iload dX8_safeFor_60 rfl ?_
        refine jx_bipush (v := 10) dX8_safeFor_62 (by decide) ?_
        refine jx_icmpN_ge (a := (lwN kind load lev)) (b := 10) 83 dX8_safeFor_64 (by decide) (by omega) (by omega) (fun h64 => ?_) (fun h64 => ?_)
        · refine jx_lload dX8_safeFor_83 rfl ?_
          refine jx_lret dX8_safeFor_85 rfl ?_
          refine ⟨congrArg (fun z => some (Value.long z)) ?_, rfl⟩
          have hb := bs_c (fun c (_ : c < 64) => saf_eq hT (day := day) hk hl hlv c)
          rw [← hb, hS.2.2.2.2.2.1.2.1, hS.2.2.2.2.2.1.2.2, hS.2.2.2.2.1.1, hS.2.2.2.2.1.2, bs_or, bs_or, bs_or]
          first | (rw [bs_and, bs_or]) | (exact bs_c (fun c _ => by
            by_cases hc : c < W * H
            · have := (hT.2.2.2.2.2 c hc).1.2
              rw [decide_eq_false (p := c < W * H ∧ lwN kind load lev ≤ cN (T 1073 c)) (by omega), Bool.and_false, Bool.or_false]
            · rw [decide_eq_false (p := c < W * H ∧ lwN kind load lev ≤ cN (T 1073 c)) (fun q => hc q.1), Bool.and_false, Bool.or_false]))
        · refine jx_lload dX8_safeFor_67 rfl ?_
          refine jx_lload dX8_safeFor_69 rfl ?_
          refine jx_aload_n dX8_safeFor_71 rfl ?_
          refine jx_getR dX8_safeFor_72 flX8_18 rfl rfl (hR _ _ _ rfl) ?_
          refine jx_iload dX8_safeFor_75 rfl ?_
          refine jx_laldE (lwN kind load lev) dX8_safeFor_77 rfl (rfl) (by omega) (by omega) (hS.2.2.2.2.2.2 (lwN kind load lev) (by omega)) ?_
          refine jx_land dX8_safeFor_78 ?_
          refine jx_lor dX8_safeFor_79 ?_
          refine jx_goto 85 dX8_safeFor_80 (by decide) ?_
          refine jx_lret dX8_safeFor_85 rfl ?_
          refine ⟨congrArg (fun z => some (Value.long z)) ?_, rfl⟩
          have hb := bs_c (fun c (_ : c < 64) => saf_eq hT (day := day) hk hl hlv c)
          rw [← hb, hS.2.2.2.2.2.1.2.1, hS.2.2.2.2.2.1.2.2, hS.2.2.2.2.1.1, hS.2.2.2.2.1.2, bs_or, bs_or, bs_or]
          first | (rw [bs_and, bs_or]) | (exact bs_c (fun c _ => by
            by_cases hc : c < W * H
            · have := (hT.2.2.2.2.2 c hc).1.2
              rw [decide_eq_false (p := c < W * H ∧ lwN kind load lev ≤ cN (T 1073 c)) (by omega), Bool.and_false, Bool.or_false]
            · rw [decide_eq_false (p := c < W * H ∧ lwN kind load lev ≤ cN (T 1073 c)) (fun q => hc q.1), Bool.and_false, Bool.or_false]))
      · skip
        refine jx_iload dX8_safeFor_21 rfl ?_
        refine jx_iload_n dX8_safeFor_23 rfl ?_
        refine jx_iconst (v := 2) dX8_safeFor_24 (by decide) ?_
        refine jx_isub dX8_safeFor_25 ?_
        refine jx_Si (as := [.int _, .int _]) dX8_safeFor_26 mlX8_85 okJ9_max_7cf53 stJ9_max_7cf53 rfl rfl (by decide) (Nat.le_of_ble_eq_true rfl) (tJ9_max_7cf53 hW _ _ _) ?_
        refine jx_istore dX8_safeFor_29 (by decide) ?_
        refine jx_iload dX8_safeFor_31 rfl ?_
        refine jx_iconst (v := 0) dX8_safeFor_33 (by decide) ?_
        refine jx_Si (as := [.int _, .int _]) dX8_safeFor_34 mlX8_85 okJ9_max_7cf53 stJ9_max_7cf53 rfl rfl (by decide) (Nat.le_of_ble_eq_true rfl) (tJ9_max_7cf53 hW _ _ _) ?_
        rw [show (if (if (nI lev - 1) < nI load - 2 then nI load - 2 else (nI lev - 1)) < 0 then 0 else (if (nI lev - 1) < nI load - 2 then nI load - 2 else (nI lev - 1))) = nI (lwN kind load lev) from (show (if (if (nI lev - 1) < nI load - 2 then nI load - 2 else (nI lev - 1)) < 0 then 0 else (if (nI lev - 1) < nI load - 2 then nI load - 2 else (nI lev - 1))) = lwI kind load lev by unfold lwI; rw [if_pos h2, if_pos h18]).trans (lw_eq kind hk load hl lev hlv)]
        have hlw : lwN kind load lev ≤ 22 := lwN_le hl hlv
        refine jx_istore dX8_safeFor_37 (by decide) ?_
        refine jx_aload_n dX8_safeFor_39 rfl ?_
        refine jx_getL dX8_safeFor_40 flX8_60 rfl rfl ?_
        refine jx_aload_n dX8_safeFor_43 rfl ?_
        refine jx_getL dX8_safeFor_44 flX8_63 rfl rfl ?_
        refine jx_lor dX8_safeFor_47 ?_
        refine jx_aload_n dX8_safeFor_48 rfl ?_
        refine jx_getL dX8_safeFor_49 flX8_39 rfl rfl ?_
        refine jx_lor dX8_safeFor_52 ?_
        refine jx_aload_n dX8_safeFor_53 rfl ?_
        refine jx_getL dX8_safeFor_54 flX8_42 rfl rfl ?_
        refine jx_lor dX8_safeFor_57 ?_
        refine jx_lstore dX8_safeFor_58 (by decide) ?_
        refine jx_iload dX8_safeFor_60 rfl ?_
        refine jx_bipush (v := 10) dX8_safeFor_62 (by decide) ?_
        refine jx_icmpN_ge (a := (lwN kind load lev)) (b := 10) 83 dX8_safeFor_64 (by decide) (by omega) (by omega) (fun h64 => ?_) (fun h64 => ?_)
        · refine jx_lload dX8_safeFor_83 rfl ?_
          refine jx_lret dX8_safeFor_85 rfl ?_
          refine ⟨congrArg (fun z => some (Value.long z)) ?_, rfl⟩
          have hb := bs_c (fun c (_ : c < 64) => saf_eq hT (day := day) hk hl hlv c)
          rw [← hb, hS.2.2.2.2.2.1.2.1, hS.2.2.2.2.2.1.2.2, hS.2.2.2.2.1.1, hS.2.2.2.2.1.2, bs_or, bs_or, bs_or]
          first | (rw [bs_and, bs_or]) | (exact bs_c (fun c _ => by
            by_cases hc : c < W * H
            · have := (hT.2.2.2.2.2 c hc).1.2
              rw [decide_eq_false (p := c < W * H ∧ lwN kind load lev ≤ cN (T 1073 c)) (by omega), Bool.and_false, Bool.or_false]
            · rw [decide_eq_false (p := c < W * H ∧ lwN kind load lev ≤ cN (T 1073 c)) (fun q => hc q.1), Bool.and_false, Bool.or_false]))
        · refine jx_lload dX8_safeFor_67 rfl ?_
          refine jx_lload dX8_safeFor_69 rfl ?_
          refine jx_aload_n dX8_safeFor_71 rfl ?_
          refine jx_getR dX8_safeFor_72 flX8_18 rfl rfl (hR _ _ _ rfl) ?_
          refine jx_iload dX8_safeFor_75 rfl ?_
          refine jx_laldE (lwN kind load lev) dX8_safeFor_77 rfl (rfl) (by omega) (by omega) (hS.2.2.2.2.2.2 (lwN kind load lev) (by omega)) ?_
          refine jx_land dX8_safeFor_78 ?_
          refine jx_lor dX8_safeFor_79 ?_
          refine jx_goto 85 dX8_safeFor_80 (by decide) ?_
          refine jx_lret dX8_safeFor_85 rfl ?_
          refine ⟨congrArg (fun z => some (Value.long z)) ?_, rfl⟩
          have hb := bs_c (fun c (_ : c < 64) => saf_eq hT (day := day) hk hl hlv c)
          rw [← hb, hS.2.2.2.2.2.1.2.1, hS.2.2.2.2.2.1.2.2, hS.2.2.2.2.1.1, hS.2.2.2.2.1.2, bs_or, bs_or, bs_or]
          first | (rw [bs_and, bs_or]) | (exact bs_c (fun c _ => by
            by_cases hc : c < W * H
            · have := (hT.2.2.2.2.2 c hc).1.2
              rw [decide_eq_false (p := c < W * H ∧ lwN kind load lev ≤ cN (T 1073 c)) (by omega), Bool.and_false, Bool.or_false]
            · rw [decide_eq_false (p := c < W * H ∧ lwN kind load lev ≤ cN (T 1073 c)) (fun q => hc q.1), Bool.and_false, Bool.or_false]))
set_option maxHeartbeats 1000000 in
set_option maxRecDepth 20000 in
theorem tX8_beside (hW : jWok w l) (hR : RS R) {s W H : Nat} {T : Nat → Nat → Int32} (hs : s = 1009 ∨ s = 1025) (hS : CSn I L s T W H) (hT : TQ T W H) {f : Nat → Bool} (hf : ∀ c, f c = true → c < W * H) : jCD w l mX8_beside 1 [.ref s, .long (bs f)] (n, shE, I, L, R) (some (.long (bs (fun c => decide (c < W * H) && besF W H f c)))) (n, shE, I, L, R) := by
  refine jCD_of hW (by decide) rfl (Nat.le_of_ble_eq_true rfl) ?_
  have hw := hT.1
  have hh := hT.2.1
  have hwh : W * H ≤ 63 := Nat.mul_le_mul hw.2 hh.2
  have hkey : ∀ c, c < 64 → (((decide (W + c < 64) && f (W + c) || decide (W ≤ c) && f (c - W) || decide (1 ≤ c) && (f (c - 1) && !decide (c - 1 < W * H ∧ (c - 1) % W = W - 1))) || decide (1 + c < 64) && (f (1 + c) && !decide (1 + c < W * H ∧ (1 + c) % W = 0))) && decide (c < W * H)) = (decide (c < W * H) && besF W H f c) := by
    intro c hc64
    by_cases hc : c < W * H
    · rw [decide_eq_true hc, Bool.and_true, Bool.true_and]
      unfold besF
      have hm := Nat.mod_lt c (show 0 < W by omega)
      have ff : ∀ q, W * H ≤ q → f q = false := fun q hq => by
        cases e : f q
        · rfl
        · exact absurd (hf q e) (by omega)
      have a0 : anyN (fun w => opB f (nbr W H c w)) 4 = ((((opB f (nbr W H c 0)) || (opB f (nbr W H c 1))) || (opB f (nbr W H c 2))) || (opB f (nbr W H c 3))) := by
        show (((((false || _) || _) || _) || _)) = _
        rw [Bool.false_or]
      rw [a0]
      have n0 : opB f (nbr W H c 0) = (decide (W ≤ c) && f (c - W)) := by
        unfold nbr
        rw [if_pos rfl]
        by_cases q : W ≤ c
        · rw [if_pos q, decide_eq_true q]; rfl
        · rw [if_neg q, decide_eq_false q]; rfl
      have n1 : (opB f (nbr W H c 1)) = (decide (1 + c < 64) && (f (1 + c) && !decide (1 + c < W * H ∧ (1 + c) % W = 0))) := by
        unfold nbr
        rw [if_neg (by decide), if_pos rfl]
        by_cases q : c % W + 1 < W
        · rw [if_pos q, Nat.add_comm c 1, decide_eq_false (p := 1 + c < W * H ∧ (1 + c) % W = 0) (fun z => by
            have e : (1 + c) % W = c % W + 1 := by rw [Nat.add_comm, Nat.add_mod, Nat.mod_eq_of_lt (show 1 < W by omega), Nat.mod_eq_of_lt q]
            omega)]
          by_cases q2 : 1 + c < 64
          · rw [decide_eq_true q2]; simp [opB]
          · show f (1 + c) = _
            rw [ff (1 + c) (by omega)]; simp [opB]
        · rw [if_neg q]
          have e : (1 + c) % W = 0 := by
            have q3 : c % W + 1 = W := by omega
            rw [Nat.add_comm, Nat.add_mod, Nat.mod_eq_of_lt (show 1 < W by omega), q3, Nat.mod_self]
          by_cases q4 : 1 + c < W * H
          · rw [decide_eq_true (⟨q4, e⟩ : 1 + c < W * H ∧ (1 + c) % W = 0)]; simp [opB]
          · rw [ff (1 + c) (by omega)]; simp [opB]
      have n2 : (opB f (nbr W H c 2)) = (decide (W + c < 64) && f (W + c)) := by
        unfold nbr
        rw [if_neg (by decide), if_neg (by decide), if_pos rfl]
        by_cases q : c + W < W * H
        · rw [if_pos q, decide_eq_true (show W + c < 64 by omega), Nat.add_comm c W]; rfl
        · rw [if_neg q, ff (W + c) (by omega)]; simp [opB]
      have n3 : (opB f (nbr W H c 3)) = (decide (1 ≤ c) && (f (c - 1) && !decide (c - 1 < W * H ∧ (c - 1) % W = W - 1))) := by
        unfold nbr
        rw [if_neg (by decide), if_neg (by decide), if_neg (by decide)]
        by_cases q : c % W = 0
        · rw [if_pos q]
          by_cases q1 : 1 ≤ c
          · have e : (c - 1) % W = W - 1 := by
              obtain ⟨k, hk⟩ := Nat.dvd_of_mod_eq_zero q
              cases k with
              | zero => omega
              | succ k =>
                have e2 : c - 1 = W - 1 + W * k := by rw [hk, Nat.mul_succ]; omega
                rw [e2, Nat.add_mul_mod_self_left, Nat.mod_eq_of_lt (by omega)]
            rw [decide_eq_true (⟨by omega, e⟩ : c - 1 < W * H ∧ (c - 1) % W = W - 1)]; simp [opB]
          · rw [decide_eq_false q1]; rfl
        · rw [if_neg q, decide_eq_true (show 1 ≤ c by
            rcases Nat.eq_zero_or_pos c with z | z
            · rw [z, Nat.zero_mod] at q; exact absurd rfl q
            · exact z)]
          rw [decide_eq_false (p := c - 1 < W * H ∧ (c - 1) % W = W - 1) (fun z => by
            have e : (c - 1 + 1) % W = 0 := by rw [Nat.add_mod, z.2, Nat.mod_eq_of_lt (show 1 < W by omega), show W - 1 + 1 = W by omega, Nat.mod_self]
            have h1 : 1 ≤ c := by
              rcases Nat.eq_zero_or_pos c with y | y
              · rw [y, Nat.zero_mod] at q; exact absurd rfl q
              · exact y
            rw [show c - 1 + 1 = c by omega] at e
            exact q e)]
          simp [opB]
      rw [n0, n1, n2, n3]
      cases decide (W + c < 64) && f (W + c) <;> cases decide (W ≤ c) && f (c - W) <;> cases (decide (1 ≤ c) && (f (c - 1) && !decide (c - 1 < W * H ∧ (c - 1) % W = W - 1))) <;> cases (decide (1 + c < 64) && (f (1 + c) && !decide (1 + c < W * H ∧ (1 + c) % W = 0))) <;> rfl
    · rw [decide_eq_false hc, Bool.and_false, Bool.false_and]
  rcases hs with rfl | rfl
  all_goals
    refine jx_lload_n dX8_beside_0 rfl ?_
    refine jx_aload_n dX8_beside_1 rfl ?_
    refine jx_getIE dX8_beside_2 flX8_22 rfl rfl (hS.1.1) ?_
    refine jx_lushr dX8_beside_5 ?_
    refine jx_lload_n dX8_beside_6 rfl ?_
    refine jx_aload_n dX8_beside_7 rfl ?_
    refine jx_getIE dX8_beside_8 flX8_22 rfl rfl (hS.1.1) ?_
    refine jx_lshl dX8_beside_11 ?_
    refine jx_lor dX8_beside_12 ?_
    refine jx_lload_n dX8_beside_13 rfl ?_
    refine jx_aload_n dX8_beside_14 rfl ?_
    refine jx_getL dX8_beside_15 flX8_63 rfl rfl ?_
    refine jx_ldc2 dX8_beside_18 ctX8_83 ?_
    refine jx_lxor dX8_beside_21 ?_
    refine jx_land dX8_beside_22 ?_
    refine jx_iconst (v := 1) dX8_beside_23 (by decide) ?_
    refine jx_lshl dX8_beside_24 ?_
    refine jx_lor dX8_beside_25 ?_
    refine jx_lload_n dX8_beside_26 rfl ?_
    refine jx_aload_n dX8_beside_27 rfl ?_
    refine jx_getL dX8_beside_28 flX8_60 rfl rfl ?_
    refine jx_ldc2 dX8_beside_31 ctX8_83 ?_
    refine jx_lxor dX8_beside_34 ?_
    refine jx_land dX8_beside_35 ?_
    refine jx_iconst (v := 1) dX8_beside_36 (by decide) ?_
    refine jx_lushr dX8_beside_37 ?_
    refine jx_lor dX8_beside_38 ?_
    refine jx_aload_n dX8_beside_39 rfl ?_
    refine jx_getL dX8_beside_40 flX8_57 rfl rfl ?_
    refine jx_land dX8_beside_43 ?_
    refine jx_lret dX8_beside_44 rfl ?_
    refine ⟨congrArg (fun z => some (Value.long z)) ?_, rfl⟩
    rw [hS.2.2.2.2.2.1.1, hS.2.2.2.2.2.1.2.1, hS.2.2.2.2.2.1.2.2, bs_not, bs_not, bs_and, bs_and]
    have s1 : ∀ g : Nat → Bool, bs g <<< (Int32.toInt64 1 &&& 63) = bs (fun c => decide (1 ≤ c) && g (c - 1)) := fun g => bs_shl (k := 1) (by omega)
    have s2 : ∀ g : Nat → Bool, ((bs g).toUInt64 >>> ((Int32.toInt64 1).toUInt64 &&& Int64.toUInt64 63)).toInt64 = bs (fun c => decide (1 + c < 64) && g (1 + c)) := fun g => bs_shr (k := 1) (by omega)
    rw [bs_shr (by omega), bs_shl (by omega), bs_or, s1, bs_or, s2, bs_or, bs_and]
    refine bs_c (fun c hc64 => ?_)
    exact hkey c hc64
end CB
