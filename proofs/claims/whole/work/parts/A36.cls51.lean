/-! what constructors call, for a heap that isn't whole yet -/
def RSn (R : Nat → Nat → Option Nat) (lo hi : Nat) : Prop := ∀ a k x : Nat, lo ≤ a → a < hi → rtE a k = some x → R a k = some x
section CZ26
variable {w : jWD} {l : Launch} {n N : Nat} {I J : Nat → Nat → Int32} {L M : Nat → Nat → Int64} {R : Nat → Nat → Option Nat} {h W H : Nat} {T : Nat → Nat → Int32}

set_option maxHeartbeats 1000000 in
set_option maxRecDepth 20000 in
theorem gX8_clear (hW : jWok w l) (hR : RSn R h (h + 16)) (hN : h + 16 ≤ N) (hh : h = 1008 ∨ h = 1024) (hWb : 3 ≤ W ∧ W ≤ 9) (hHb : 1 ≤ H ∧ H ≤ 7) : jRv w l mX8_clear 2 [.ref (h + 1), .int (nI W), .int (nI H)] (n, shN N, I, L, R) (fun t => (∃ J M, t = (n, shN N, J, M, R) ∧ (∀ b j, b ≠ h + 1 → b ≠ h + 2 → J b j = I b j) ∧ (∀ b j, b ≠ h + 1 → M b j = L b j) ∧ Clr J M h W H ∧ M (h + 1) 11 = bs (fun c => decide (c < W * H)) ∧ M (h + 1) 12 = bs (fun c => decide (c < W * H ∧ c % W = 0)) ∧ M (h + 1) 13 = bs (fun c => decide (c < W * H ∧ c % W = W - 1)))) := by
  refine jRv_of hW (by decide) rfl (Nat.le_of_ble_eq_true rfl) ?_
  have hWH : W * H ≤ 9 * 7 := Nat.mul_le_mul hWb.2 hHb.2
  have key2 : ∀ k, k ≤ W * H → ∀ (J : Nat → Nat → Int32) (M : Nat → Nat → Int64), (∀ b j, b ≠ h + 1 → b ≠ h + 2 → J b j = I b j) → (∀ b j, b ≠ h + 1 → M b j = L b j) → Clr J M h W H → M (h + 1) 11 = bs (fun c => decide (c < k)) → M (h + 1) 12 = bs (fun c => decide (c < W * H ∧ c % W = 0)) → M (h + 1) 13 = bs (fun c => decide (c < W * H ∧ c % W = W - 1)) → jWP w l mX8_clear 2 0 0 (fun v t => v = none ∧ (∃ J M, t = (n, shN N, J, M, R) ∧ (∀ b j, b ≠ h + 1 → b ≠ h + 2 → J b j = I b j) ∧ (∀ b j, b ≠ h + 1 → M b j = L b j) ∧ Clr J M h W H ∧ M (h + 1) 11 = bs (fun c => decide (c < W * H)) ∧ M (h + 1) 12 = bs (fun c => decide (c < W * H ∧ c % W = 0)) ∧ M (h + 1) 13 = bs (fun c => decide (c < W * H ∧ c % W = W - 1)))) (fun _ _ => False) 127 [(0, .ref (h + 1)), (1, .int (nI W)), (2, .int (nI H)), (3, .int (nI k))] [] (n, shN N, J, M, R) := by
    refine jdown _ (fun k hk ih => ?_)
    intro J M e1 e2 e3 e4 e5 e6
    rcases hh with rfl | rfl
    all_goals
      refine jx_iload_n dX8_clear_127 rfl ?_
      refine jx_aload_n dX8_clear_128 rfl ?_
      refine jx_getIE dX8_clear_129 flX8_22 ((shN_lt (by omega)).trans rfl) rfl (e3.1.1) ?_
      refine jx_aload_n dX8_clear_132 rfl ?_
      refine jx_getIE dX8_clear_133 flX8_26 ((shN_lt (by omega)).trans rfl) rfl (e3.1.2) ?_
      refine jx_imulE (z := nI (W * H)) dX8_clear_136 (pk_mul W H) ?_
      refine jx_icmpN_ge (a := k) (b := (W * H)) 158 dX8_clear_137 (by decide) (by omega) (by omega) (fun h137 => ?_) (fun h137 => ?_)
      · refine jx_vret dX8_clear_158 rfl ?_
        have hkk : k = W * H := by omega
        subst hkk
        exact ⟨rfl, J, M, rfl, e1, e2, e3, e4, e5, e6⟩
      · refine jx_aload_n dX8_clear_140 rfl ?_
        refine jx_dup dX8_clear_141 rfl ?_
        refine jx_getLE dX8_clear_142 flX8_57 ((shN_lt (by omega)).trans rfl) rfl (e4) ?_
        refine jx_lconst (v := 1) dX8_clear_145 (by decide) ?_
        refine jx_iload_n dX8_clear_146 rfl ?_
        refine jx_lshl dX8_clear_147 ?_
        refine jx_lorE (z := bs (fun c => decide (c < k + 1))) dX8_clear_148 (bs_all (by omega)) ?_
        refine jx_putL dX8_clear_149 flX8_57 ((shN_lt (by omega)).trans rfl) rfl (fun r h => by cases h; rfl) ?_
        refine jx_iinc dX8_clear_152 rfl (v := nI (k + 1)) (nI_1 _) (by decide) ?_
        refine jx_goto 127 dX8_clear_155 (by decide) ?_
        exact jx_ls (by exact ⟨rfl, rfl, rfl, rfl, trivial⟩) (ih (by omega) J _ e1 (fun b j hb => (upL_nea hb).trans (e2 b j hb)) e3 upL_s e5 e6)
  have key : ∀ y, y ≤ H → ∀ (J : Nat → Nat → Int32) (M : Nat → Nat → Int64), (∀ b j, b ≠ h + 1 → b ≠ h + 2 → J b j = I b j) → (∀ b j, b ≠ h + 1 → M b j = L b j) → Clr J M h W H → M (h + 1) 11 = 0 → M (h + 1) 12 = bs (fun c => decide (c / W < y ∧ c % W = 0)) → M (h + 1) 13 = bs (fun c => decide (c / W < y ∧ c % W = W - 1)) → jWP w l mX8_clear 2 0 0 (fun v t => v = none ∧ (∃ J M, t = (n, shN N, J, M, R) ∧ (∀ b j, b ≠ h + 1 → b ≠ h + 2 → J b j = I b j) ∧ (∀ b j, b ≠ h + 1 → M b j = L b j) ∧ Clr J M h W H ∧ M (h + 1) 11 = bs (fun c => decide (c < W * H)) ∧ M (h + 1) 12 = bs (fun c => decide (c < W * H ∧ c % W = 0)) ∧ M (h + 1) 13 = bs (fun c => decide (c < W * H ∧ c % W = W - 1)))) (fun _ _ => False) 70 [(0, .ref (h + 1)), (1, .int (nI W)), (2, .int (nI H)), (3, .int (nI y))] [] (n, shN N, J, M, R) := by
    refine jdown _ (fun y hy ih => ?_)
    intro J M e1 e2 e3 e4 e5 e6
    have hb1 : y < H → W * y + (W - 1) < 64 := fun q => by
      have := Nat.mul_le_mul_left W (show y + 1 ≤ H by omega)
      rw [Nat.mul_succ] at this
      omega
    rcases hh with rfl | rfl
    all_goals
      refine jx_iload_n dX8_clear_70 rfl ?_
      refine jx_aload_n dX8_clear_71 rfl ?_
      refine jx_getIE dX8_clear_72 flX8_26 ((shN_lt (by omega)).trans rfl) rfl (e3.1.2) ?_
      refine jx_icmpN_ge (a := y) (b := H) 125 dX8_clear_75 (by decide) (by omega) (by omega) (fun h75 => ?_) (fun h75 => ?_)
      · refine jx_iconst (v := 0) dX8_clear_125 (by decide) ?_
        refine jx_istore_n dX8_clear_126 rfl (by decide) ?_
        have hyy : y = H := by omega
        subst hyy
        exact jx_ls (by exact ⟨rfl, rfl, rfl, rfl, trivial⟩) (key2 0 (Nat.zero_le _) J M e1 e2 e3 (e4.trans bs_z.symm) (e5.trans (bs_rows (by omega))) (e6.trans (bs_rows (by omega))))
      · refine jx_aload_n dX8_clear_78 rfl ?_
        refine jx_dup dX8_clear_79 rfl ?_
        refine jx_getLE dX8_clear_80 flX8_60 ((shN_lt (by omega)).trans rfl) rfl (e5) ?_
        refine jx_lconst (v := 1) dX8_clear_83 (by decide) ?_
        refine jx_aload_n dX8_clear_84 rfl ?_
        refine jx_getIE dX8_clear_85 flX8_22 ((shN_lt (by omega)).trans rfl) rfl (e3.1.1) ?_
        refine jx_iload_n dX8_clear_88 rfl ?_
        refine jx_imulE (z := nI (W * y)) dX8_clear_89 (pk_mul W y) ?_
        refine jx_lshl dX8_clear_90 ?_
        refine jx_lorE (z := bs (fun c => decide (c / W < y + 1 ∧ c % W = 0))) dX8_clear_91 (bs_row (r := 0) (by omega) (by have := hb1 (by omega); omega)) ?_
        refine jx_putL dX8_clear_92 flX8_60 ((shN_lt (by omega)).trans rfl) rfl (fun r h => by cases h; rfl) ?_
        refine jx_aload_n dX8_clear_95 rfl ?_
        refine jx_dup dX8_clear_96 rfl ?_
        refine jx_getLE dX8_clear_97 flX8_63 ((shN_lt (by omega)).trans rfl) rfl (e6) ?_
        refine jx_lconst (v := 1) dX8_clear_100 (by decide) ?_
        refine jx_aload_n dX8_clear_101 rfl ?_
        refine jx_getIE dX8_clear_102 flX8_22 ((shN_lt (by omega)).trans rfl) rfl (e3.1.1) ?_
        refine jx_iload_n dX8_clear_105 rfl ?_
        refine jx_imulE (z := nI (W * y)) dX8_clear_106 (pk_mul W y) ?_
        refine jx_aload_n dX8_clear_107 rfl ?_
        refine jx_getIE dX8_clear_108 flX8_22 ((shN_lt (by omega)).trans rfl) rfl (e3.1.1) ?_
        refine jx_iaddE (z := nI ((W * y) + W)) dX8_clear_111 (nI_add (W * y) W) ?_
        refine jx_iconst (v := 1) dX8_clear_112 (by decide) ?_
        refine jx_isubE (z := nI (W * y + (W - 1))) dX8_clear_113 ((pk_sub (a := W * y + W) (b := 1) (by omega)).trans (congrArg nI (by omega))) ?_
        refine jx_lshl dX8_clear_114 ?_
        refine jx_lorE (z := bs (fun c => decide (c / W < y + 1 ∧ c % W = W - 1))) dX8_clear_115 (bs_row (r := W - 1) (by omega) (hb1 (by omega))) ?_
        refine jx_putL dX8_clear_116 flX8_63 ((shN_lt (by omega)).trans rfl) rfl (fun r h => by cases h; rfl) ?_
        refine jx_iinc dX8_clear_119 rfl (v := nI (y + 1)) (nI_1 _) (by decide) ?_
        refine jx_goto 70 dX8_clear_122 (by decide) ?_
        exact jx_ls (by exact ⟨rfl, rfl, rfl, rfl, trivial⟩) (ih (by omega) J _ e1 (fun b j hb => (upL_nea hb).trans ((upL_nea hb).trans (e2 b j hb))) e3 e4 rfl upL_s)
  rcases hh with rfl | rfl
  all_goals
    refine jx_aload_n dX8_clear_0 rfl ?_
    refine jx_iload_n dX8_clear_1 rfl ?_
    refine jx_putI dX8_clear_2 flX8_22 ((shN_lt (by omega)).trans rfl) rfl (fun r h => by cases h; rfl) ?_
    refine jx_aload_n dX8_clear_5 rfl ?_
    refine jx_iload_n dX8_clear_6 rfl ?_
    refine jx_putI dX8_clear_7 flX8_26 ((shN_lt (by omega)).trans rfl) rfl (fun r h => by cases h; rfl) ?_
    refine jx_aload_n dX8_clear_10 rfl ?_
    refine jx_getR dX8_clear_11 flX8_9 ((shN_lt (by omega)).trans rfl) rfl (hR _ _ _ (by omega) (by omega) rfl) ?_
    refine jx_iconst (v := 4) dX8_clear_14 (by decide) ?_
    refine jx_Sv (as := [.ref _, .int _]) dX8_clear_15 mlX8_29 okJ7_fill_53178 stJ7_fill_53178 rfl rfl (by decide) (Nat.le_of_ble_eq_true rfl) (tJ7_fill_53178 hW (h := 63) _ ((shN_lt (by omega)).trans rfl) (by decide)) ?_
    refine jx_aload_n dX8_clear_18 rfl ?_
    refine jx_lconst (v := 0) dX8_clear_19 (by decide) ?_
    refine jx_putL dX8_clear_20 flX8_35 ((shN_lt (by omega)).trans rfl) rfl (fun r h => by cases h; rfl) ?_
    refine jx_aload_n dX8_clear_23 rfl ?_
    refine jx_lconst (v := 0) dX8_clear_24 (by decide) ?_
    refine jx_putL dX8_clear_25 flX8_39 ((shN_lt (by omega)).trans rfl) rfl (fun r h => by cases h; rfl) ?_
    refine jx_aload_n dX8_clear_28 rfl ?_
    refine jx_lconst (v := 0) dX8_clear_29 (by decide) ?_
    refine jx_putL dX8_clear_30 flX8_42 ((shN_lt (by omega)).trans rfl) rfl (fun r h => by cases h; rfl) ?_
    refine jx_aload_n dX8_clear_33 rfl ?_
    refine jx_iconst (v := 0) dX8_clear_34 (by decide) ?_
    refine jx_putI dX8_clear_35 flX8_45 ((shN_lt (by omega)).trans rfl) rfl (fun r h => by cases h; rfl) ?_
    refine jx_aload_n dX8_clear_38 rfl ?_
    refine jx_lconst (v := 0) dX8_clear_39 (by decide) ?_
    refine jx_putL dX8_clear_40 flX8_48 ((shN_lt (by omega)).trans rfl) rfl (fun r h => by cases h; rfl) ?_
    refine jx_aload_n dX8_clear_43 rfl ?_
    refine jx_iconst (v := 0) dX8_clear_44 (by decide) ?_
    refine jx_putI dX8_clear_45 flX8_51 ((shN_lt (by omega)).trans rfl) rfl (fun r h => by cases h; rfl) ?_
    refine jx_aload_n dX8_clear_48 rfl ?_
    refine jx_iconst (v := 0) dX8_clear_49 (by decide) ?_
    refine jx_putI dX8_clear_50 flX8_54 ((shN_lt (by omega)).trans rfl) rfl (fun r h => by cases h; rfl) ?_
    refine jx_aload_n dX8_clear_53 rfl ?_
    refine jx_lconst (v := 0) dX8_clear_54 (by decide) ?_
    refine jx_putL dX8_clear_55 flX8_57 ((shN_lt (by omega)).trans rfl) rfl (fun r h => by cases h; rfl) ?_
    refine jx_aload_n dX8_clear_58 rfl ?_
    refine jx_lconst (v := 0) dX8_clear_59 (by decide) ?_
    refine jx_putL dX8_clear_60 flX8_60 ((shN_lt (by omega)).trans rfl) rfl (fun r h => by cases h; rfl) ?_
    refine jx_aload_n dX8_clear_63 rfl ?_
    refine jx_lconst (v := 0) dX8_clear_64 (by decide) ?_
    refine jx_putL dX8_clear_65 flX8_63 ((shN_lt (by omega)).trans rfl) rfl (fun r h => by cases h; rfl) ?_
    refine jx_iconst (v := 0) dX8_clear_68 (by decide) ?_
    refine jx_istore_n dX8_clear_69 rfl (by decide) ?_
    refine jx_ls (by exact ⟨rfl, rfl, rfl, rfl, trivial⟩) (key 0 (Nat.zero_le _) _ _ (fun b j h1 h2 => ?_) (fun b j h1 => ?_) ⟨⟨rfl, rfl⟩, ⟨rfl, rfl, rfl⟩, fun c hc => ?_, ⟨rfl, rfl, rfl, rfl⟩⟩ rfl bs_z2.symm bs_z2.symm)
    · rw [upI_nea h1, upI_nea h1, upI_nea h1]; unfold fl; rw [if_neg (fun q => h2 q.1), upI_nea h1, upI_nea h1]
    · rw [upL_nea h1, upL_nea h1, upL_nea h1, upL_nea h1, upL_nea h1, upL_nea h1, upL_nea h1]
    · rw [upI_nea (by decide), upI_nea (by decide), upI_nea (by decide)]; unfold fl; exact if_pos ⟨rfl, hc⟩
set_option maxHeartbeats 1000000 in
set_option maxRecDepth 20000 in
theorem gX6_clear (hW : jWok w l) (hR : RSn R h (h + 16)) (hN : h + 16 ≤ N) (hh : h = 1008 ∨ h = 1024) : jRv w l mX6_clear 1 [.ref (h + 5)] (n, shN N, I, L, R) (fun t => t = (n, shN N, upI I (h + 5) 2 0, L, R)) := by
  refine jRv_of hW (by decide) rfl (Nat.le_of_ble_eq_true rfl) ?_
  rcases hh with rfl | rfl
  all_goals
    refine jx_aload_n dX6_clear_0 rfl ?_
    refine jx_iconst (v := 0) dX6_clear_1 (by decide) ?_
    refine jx_putI dX6_clear_2 flX6_18 ((shN_lt (by omega)).trans rfl) rfl (fun r h => by cases h; rfl) ?_
    refine jx_vret dX6_clear_5 rfl ?_
    exact ⟨rfl, rfl⟩
set_option maxHeartbeats 1000000 in
set_option maxRecDepth 20000 in
theorem gX1_clear (hW : jWok w l) (hR : RSn R h (h + 16)) (hN : h + 16 ≤ N) (hh : h = 1008 ∨ h = 1024) (hT : bgT T) : jRv w l mX1_clear 3 [.ref h] (n, shN N, I, L, R) (fun t => ∃ J M, t = (n, shN N, J, M, R) ∧ (∀ b j, b < h ∨ h + 16 ≤ b → J b j = I b j) ∧ (∀ b j, b ≠ h + 1 → M b j = L b j) ∧ CTl J M h T 6 4) := by
  refine jRv_of hW (by decide) rfl (Nat.le_of_ble_eq_true rfl) ?_
  obtain ⟨t1, t2⟩ := hT
  have q := fun j hj => t1 j hj
  rcases hh with rfl | rfl
  all_goals
    refine jx_aload_n dX1_clear_0 rfl ?_
    refine jx_getR dX1_clear_1 flX1_12 ((shN_lt (by omega)).trans rfl) rfl (hR _ _ _ (by omega) (by omega) rfl) ?_
    refine jx_bipush (v := 6) dX1_clear_4 (by decide) ?_
    refine jx_iconst (v := 4) dX1_clear_6 (by decide) ?_
    refine jx_VRv (as := [.int _, .int _]) dX1_clear_7 mlX1_42 okX8_clear viX8_clear rfl ((shN_lt (by omega)).trans rfl) rfl rfl rfl (by decide) (Nat.le_of_ble_eq_true rfl) (gX8_clear (h := _) (W := 6) (H := 4) hW hR hN (by decide) (by decide) (by decide)) (fun t7 hq7 => ?_)
    obtain ⟨J1, M1, rfl, f1, f2, c1, s1, s2, s3⟩ := hq7
    refine jx_aload_n dX1_clear_10 rfl ?_
    refine jx_getR dX1_clear_11 flX1_21 ((shN_lt (by omega)).trans rfl) rfl (hR _ _ _ (by omega) (by omega) rfl) ?_
    refine jx_VRv (as := []) dX1_clear_14 mlX1_45 okX6_clear viX6_clear rfl ((shN_lt (by omega)).trans rfl) rfl rfl rfl (by decide) (Nat.le_of_ble_eq_true rfl) (gX6_clear hW hR hN (by decide)) (fun t14 hq14 => ?_)
    subst hq14
    refine jx_aload_n dX1_clear_17 rfl ?_
    refine jx_iconst (v := 0) dX1_clear_18 (by decide) ?_
    refine jx_putI dX1_clear_19 flX1_46 ((shN_lt (by omega)).trans rfl) rfl (fun r h => by cases h; rfl) ?_
    refine jx_aload_n dX1_clear_22 rfl ?_
    refine jx_iconst (v := 0) dX1_clear_23 (by decide) ?_
    refine jx_putI dX1_clear_24 flX1_50 ((shN_lt (by omega)).trans rfl) rfl (fun r h => by cases h; rfl) ?_
    refine jx_aload_n dX1_clear_27 rfl ?_
    refine jx_iconst (v := 0) dX1_clear_28 (by decide) ?_
    refine jx_putI dX1_clear_29 flX1_53 ((shN_lt (by omega)).trans rfl) rfl (fun r h => by cases h; rfl) ?_
    refine jx_aload_n dX1_clear_32 rfl ?_
    refine jx_iconst (v := 2) dX1_clear_33 (by decide) ?_
    refine jx_putI dX1_clear_34 flX1_56 ((shN_lt (by omega)).trans rfl) rfl (fun r h => by cases h; rfl) ?_
    refine jx_aload_n dX1_clear_37 rfl ?_
    refine jx_bipush (v := 9) dX1_clear_38 (by decide) ?_
    refine jx_putI dX1_clear_40 flX1_59 ((shN_lt (by omega)).trans rfl) rfl (fun r h => by cases h; rfl) ?_
    refine jx_aload_n dX1_clear_43 rfl ?_
    refine jx_getR dX1_clear_44 flX1_31 ((shN_lt (by omega)).trans rfl) rfl (hR _ _ _ (by omega) (by omega) rfl) ?_
    refine jx_iconst (v := 0) dX1_clear_47 (by decide) ?_
    refine jx_Sv (as := [.ref _, .int _]) dX1_clear_48 mlX1_62 okJ7_fill_53178 stJ7_fill_53178 rfl rfl (by decide) (Nat.le_of_ble_eq_true rfl) (tJ7_fill_53178 hW (h := 4) _ ((shN_lt (by omega)).trans rfl) (by decide)) ?_
    refine jx_aload_n dX1_clear_51 rfl ?_
    refine jx_getR dX1_clear_52 flX1_31 ((shN_lt (by omega)).trans rfl) rfl (hR _ _ _ (by omega) (by omega) rfl) ?_
    refine jx_iconst (v := 0) dX1_clear_55 (by decide) ?_
    refine jx_iconst (v := 1) dX1_clear_56 (by decide) ?_
    refine jx_iastN (0) dX1_clear_57 ((shN_lt (by omega)).trans rfl) (rfl) (by omega) (by omega) ?_
    refine jx_vret dX1_clear_58 rfl ?_
    refine ⟨rfl, _, M1, rfl, fun b j hb => ?_, f2, ⟨c1.1, fun c hc => ?_, ?_, ⟨?_, ?_⟩, ⟨?_, fun k hk => ?_, ?_⟩, ⟨?_, ?_⟩, ⟨s1, s2, s3⟩, ⟨?_, fun k hk => ?_⟩, ⟨?_, fun p k hp hk => ?_⟩, ⟨?_, ?_, ?_, ?_⟩, fun f hf => ?_⟩⟩
    · rw [upI_nea (by omega)]; unfold fl; rw [if_neg (fun q => by omega), upI_nea (by omega), upI_nea (by omega), upI_nea (by omega), upI_nea (by omega), upI_nea (by omega), upI_nea (by omega)]; exact f1 b j (by omega) (by omega)
    · exact (c1.2.2.1 c (by omega)).trans (t2 c (by omega)).1.symm
    · rw [c1.2.2.2.1]; exact (bs_f (fun c _ => decide_eq_false (fun q => q.2 (t2 c (by omega)).2.2))).symm
    · rw [c1.2.2.2.2.1]; exact (bs_f (fun c _ => decide_eq_false (fun q => by rw [(t2 c (by omega)).2.1] at q; exact absurd q.2 (by decide)))).symm
    · rw [c1.2.2.2.2.2.1]; exact (bs_f (fun c _ => decide_eq_false (fun q => by rw [(t2 c (by omega)).2.1] at q; exact absurd q.2 (by decide)))).symm
    · exact c1.2.1.1.trans (q 4 (by decide)).symm
    · rw [q 4 (by decide)] at hk; exact absurd hk (Nat.not_lt_zero k)
    · rw [c1.2.2.2.2.2.2, q 4 (by decide)]; exact (bs_f (fun c _ => by show (_ && anyN _ 0) = false; exact Bool.and_false _)).symm
    · exact c1.2.1.2.1.trans (q 5 (by decide)).symm
    · exact c1.2.1.2.2.trans (q 6 (by decide)).symm
    · exact (q 16 (by decide)).symm
    · rw [q 16 (by decide)] at hk; exact absurd hk (Nat.not_lt_zero k)
    · exact (q 10 (by decide)).symm
    · rw [q 10 (by decide)] at hp; exact absurd hp (Nat.not_lt_zero p)
    · exact (q 11 (by decide)).symm
    · exact (q 7 (by decide)).symm
    · exact (q 8 (by decide)).symm
    · exact (q 9 (by decide)).symm
    · have hf4 : f = 0 ∨ f = 1 ∨ f = 2 ∨ f = 3 := by omega
      rcases hf4 with rfl | rfl | rfl | rfl
      · exact (q 12 (by decide)).symm
      · exact (q 13 (by decide)).symm
      · exact (q 14 (by decide)).symm
      · exact (q 15 (by decide)).symm
set_option maxHeartbeats 1000000 in
set_option maxRecDepth 20000 in
theorem gX8_settle (hW : jWok w l) (hR : RSn R h (h + 16)) (hN : h + 16 ≤ N) (hh : h = 1008 ∨ h = 1024) : jRv w l mX8_settle 2 [.ref (h + 1)] (n, shN N, I, L, R) (fun t => (∃ M lim, t = (n, shN N, I, M, R) ∧ (∀ b j, b ≠ h + 4 → M b j = L b j) ∧ lim ≤ 63 ∧ (lim = 63 ∨ ¬ nI lim < I (h + 1) 0 * I (h + 1) 1) ∧ (∀ c, c < lim → nI c < I (h + 1) 0 * I (h + 1) 1) ∧ ∀ k, k < 10 → M (h + 4) k = atF (I (h + 2)) lim 0 k)) := by
  refine jRv_of hW (by decide) rfl (Nat.le_of_ble_eq_true rfl) ?_
  have key : ∀ a, a ≤ 63 → ∀ (M : Nat → Nat → Int64), (∀ b j, b ≠ h + 4 → M b j = L b j) → (∀ c, c < a → nI c < I (h + 1) 0 * I (h + 1) 1) → (∀ k, k < 10 → M (h + 4) k = atF (I (h + 2)) a 0 k) → jWP w l mX8_settle 2 0 0 (fun v t => v = none ∧ (∃ M lim, t = (n, shN N, I, M, R) ∧ (∀ b j, b ≠ h + 4 → M b j = L b j) ∧ lim ≤ 63 ∧ (lim = 63 ∨ ¬ nI lim < I (h + 1) 0 * I (h + 1) 1) ∧ (∀ c, c < lim → nI c < I (h + 1) 0 * I (h + 1) 1) ∧ ∀ k, k < 10 → M (h + 4) k = atF (I (h + 2)) lim 0 k)) (fun _ _ => False) 10 [(0, .ref (h + 1)), (1, .int (nI a))] [] (n, shN N, I, M, R) := by
    refine jdown _ (fun a ha ih => ?_)
    intro M e1 e2 e3
    have key2 : ∀ j, j ≤ 10 → a < 63 → nI a < I (h + 1) 0 * I (h + 1) 1 → ∀ (M : Nat → Nat → Int64), (∀ b j, b ≠ h + 4 → M b j = L b j) → (∀ k, k < 10 → M (h + 4) k = atF (I (h + 2)) a j k) → jWP w l mX8_settle 2 0 0 (fun v t => v = none ∧ (∃ M lim, t = (n, shN N, I, M, R) ∧ (∀ b j, b ≠ h + 4 → M b j = L b j) ∧ lim ≤ 63 ∧ (lim = 63 ∨ ¬ nI lim < I (h + 1) 0 * I (h + 1) 1) ∧ (∀ c, c < lim → nI c < I (h + 1) 0 * I (h + 1) 1) ∧ ∀ k, k < 10 → M (h + 4) k = atF (I (h + 2)) lim 0 k)) (fun _ _ => False) 31 [(0, .ref (h + 1)), (1, .int (nI a)), (2, .int (nI j))] [] (n, shN N, I, M, R) := by
      refine jdown _ (fun j hj ih2 => ?_)
      intro ha63 haw M f1 f3
      have hout : (I (h + 2) a < nI j ∨ j = 10) → jWP w l mX8_settle 2 0 0 (fun v t => v = none ∧ (∃ M lim, t = (n, shN N, I, M, R) ∧ (∀ b j, b ≠ h + 4 → M b j = L b j) ∧ lim ≤ 63 ∧ (lim = 63 ∨ ¬ nI lim < I (h + 1) 0 * I (h + 1) 1) ∧ (∀ c, c < lim → nI c < I (h + 1) 0 * I (h + 1) 1) ∧ ∀ k, k < 10 → M (h + 4) k = atF (I (h + 2)) lim 0 k)) (fun _ _ => False) 65 [(0, .ref (h + 1)), (1, .int (nI a))] [] (n, shN N, I, M, R) := by
        intro hx
        refine jx_iinc dX8_settle_65 rfl (v := nI (a + 1)) (nI_1 _) (by decide) ?_
        refine jx_goto 10 dX8_settle_68 (by decide) ?_
        exact jx_ls (by exact ⟨rfl, rfl, trivial⟩) (ih (by omega) M f1 (fun c hc => if z : c = a then z ▸ haw else e2 c (by omega)) (fun k hk => (f3 k hk).trans (atF_e hj hk hx)))
      rcases hh with rfl | rfl
      all_goals
        refine jx_iload_n dX8_settle_31 rfl ?_
        refine jx_aload_n dX8_settle_32 rfl ?_
        refine jx_getR dX8_settle_33 flX8_9 ((shN_lt (by omega)).trans rfl) rfl (hR _ _ _ (by omega) (by omega) rfl) ?_
        refine jx_iload_n dX8_settle_36 rfl ?_
        refine jx_ialdN (a) dX8_settle_37 ((shN_lt (by omega)).trans rfl) (rfl) (by omega) (by omega) ?_
        refine jx_icmp_gt 65 dX8_settle_38 (by decide) (fun h38 => ?_) (fun h38 => ?_)
        · exact jx_ls (by exact ⟨rfl, rfl, trivial⟩) (hout (Or.inl h38))
        · refine jx_iload_n dX8_settle_41 rfl ?_
          refine jx_bipush (v := 10) dX8_settle_42 (by decide) ?_
          refine jx_icmpN_ge (a := j) (b := 10) 65 dX8_settle_44 (by decide) (by omega) (by omega) (fun h44 => ?_) (fun h44 => ?_)
          · exact jx_ls (by exact ⟨rfl, rfl, trivial⟩) (hout (Or.inr (by omega)))
          · refine jx_aload_n dX8_settle_47 rfl ?_
            refine jx_getR dX8_settle_48 flX8_18 ((shN_lt (by omega)).trans rfl) rfl (hR _ _ _ (by omega) (by omega) rfl) ?_
            refine jx_iload_n dX8_settle_51 rfl ?_
            refine jx_dup2 dX8_settle_52 rfl rfl ?_
            refine jx_laldE (j) dX8_settle_53 ((shN_lt (by omega)).trans rfl) (rfl) (by omega) (by omega) (f3 j (by omega)) ?_
            refine jx_lconst (v := 1) dX8_settle_54 (by decide) ?_
            refine jx_iload_n dX8_settle_55 rfl ?_
            refine jx_lshl dX8_settle_56 ?_
            refine jx_lorE (z := atF (I _) a (j + 1) j) dX8_settle_57 (atF_s (by omega) (by exact Int32.not_lt.mp h38)) ?_
            refine jx_lastN (j) dX8_settle_58 ((shN_lt (by omega)).trans rfl) (rfl) (by omega) (by omega) ?_
            refine jx_iinc dX8_settle_59 rfl (v := nI (j + 1)) (nI_1 _) (by decide) ?_
            refine jx_goto 31 dX8_settle_62 (by decide) ?_
            refine jx_ls (by exact ⟨rfl, rfl, rfl, trivial⟩) (ih2 (by omega) ha63 haw _ (fun b q hb => (upL_nea hb).trans (f1 b q hb)) (fun k hk => ?_))
            by_cases z : k = j
            · subst z; exact upL_s
            · rw [upL_j z, f3 k hk]; exact (atF_o z).symm
    rcases hh with rfl | rfl
    all_goals
      refine jx_iload_n dX8_settle_10 rfl ?_
      refine jx_aload_n dX8_settle_11 rfl ?_
      refine jx_getI dX8_settle_12 flX8_22 ((shN_lt (by omega)).trans rfl) rfl ?_
      refine jx_aload_n dX8_settle_15 rfl ?_
      refine jx_getI dX8_settle_16 flX8_26 ((shN_lt (by omega)).trans rfl) rfl ?_
      refine jx_imul dX8_settle_19 ?_
      refine jx_icmp_ge 71 dX8_settle_20 (by decide) (fun h20 => ?_) (fun h20 => ?_)
      · refine jx_vret dX8_settle_71 rfl ?_
        exact ⟨rfl, M, a, rfl, e1, ha, Or.inr (Int32.not_lt.mpr h20), e2, e3⟩
      · refine jx_iload_n dX8_settle_23 rfl ?_
        refine jx_bipush (v := 63) dX8_settle_24 (by decide) ?_
        refine jx_icmpN_ge (a := a) (b := 63) 71 dX8_settle_26 (by decide) (by omega) (by omega) (fun h26 => ?_) (fun h26 => ?_)
        · refine jx_vret dX8_settle_71 rfl ?_
          exact ⟨rfl, M, a, rfl, e1, ha, Or.inl (by omega), e2, e3⟩
        · refine jx_iconst (v := 0) dX8_settle_29 (by decide) ?_
          refine jx_istore_n dX8_settle_30 rfl (by decide) ?_
          exact jx_ls (by exact ⟨rfl, rfl, rfl, trivial⟩) (key2 0 (Nat.zero_le _) (by omega) (Int32.not_le.mp h20) M e1 e3)
  rcases hh with rfl | rfl
  all_goals
    refine jx_aload_n dX8_settle_0 rfl ?_
    refine jx_getR dX8_settle_1 flX8_18 ((shN_lt (by omega)).trans rfl) rfl (hR _ _ _ (by omega) (by omega) rfl) ?_
    refine jx_lconst (v := 0) dX8_settle_4 (by decide) ?_
    refine jx_Sv (as := [.ref _, .long _]) dX8_settle_5 mlX8_66 okJ7_fill_d0a16 stJ7_fill_d0a16 rfl rfl (by decide) (Nat.le_of_ble_eq_true rfl) (tJ7_fill_d0a16 hW (h := 10) _ ((shN_lt (by omega)).trans rfl) (by decide)) ?_
    refine jx_iconst (v := 0) dX8_settle_8 (by decide) ?_
    refine jx_istore_n dX8_settle_9 rfl (by decide) ?_
    refine jx_ls (by exact ⟨rfl, rfl, trivial⟩) (key 0 (Nat.zero_le _) _ (fun b j h1 => ?_) (fun c hc => absurd hc (Nat.not_lt_zero c)) (fun k hk => ?_))
    · unfold flL; exact if_neg (fun q => h1 q.1)
    · unfold flL; rw [if_pos ⟨rfl, hk⟩]; exact atF_z.symm
end CZ26
section CZ27
variable {w : jWD} {l : Launch} {n N : Nat} {I J : Nat → Nat → Int32} {L M : Nat → Nat → Int64} {R : Nat → Nat → Option Nat}
set_option maxHeartbeats 1000000 in
set_option maxRecDepth 20000 in
theorem gX11_takeOver (hW : jWok w l) (hR : RSn R 1069 1118) (hN : 1118 ≤ N) : jCD w l mX11_takeOver 2 [.ref 1069] (n, shN N, I, L, R) none (n, shN N, tovH I, L, R) := by
  refine jCD_of hW (by decide) rfl (Nat.le_of_ble_eq_true rfl) ?_
  refine jx_aload_n dX11_takeOver_0 rfl ?_
  refine jx_getR dX11_takeOver_1 flX11_34 ((shN_lt (by omega)).trans rfl) rfl (hR _ _ _ (by decide) (by decide) rfl) ?_
  refine jx_Sv (as := [.ref _]) dX11_takeOver_4 mlX11_359 okX11_takeHalf stX11_takeHalf rfl rfl (by decide) (Nat.le_of_ble_eq_true rfl) (tX11_takeHalf (h := 17) hW ((shN_lt (by omega)).trans rfl) (by omega)) ?_
  refine jx_aload_n dX11_takeOver_7 rfl ?_
  refine jx_getR dX11_takeOver_8 flX11_38 ((shN_lt (by omega)).trans rfl) rfl (hR _ _ _ (by decide) (by decide) rfl) ?_
  refine jx_Sv (as := [.ref _]) dX11_takeOver_11 mlX11_359 okX11_takeHalf stX11_takeHalf rfl rfl (by decide) (Nat.le_of_ble_eq_true rfl) (tX11_takeHalf (h := 63) hW ((shN_lt (by omega)).trans rfl) (by omega)) ?_
  refine jx_aload_n dX11_takeOver_14 rfl ?_
  refine jx_getR dX11_takeOver_15 flX11_41 ((shN_lt (by omega)).trans rfl) rfl (hR _ _ _ (by decide) (by decide) rfl) ?_
  refine jx_Sv (as := [.ref _]) dX11_takeOver_18 mlX11_359 okX11_takeHalf stX11_takeHalf rfl rfl (by decide) (Nat.le_of_ble_eq_true rfl) (tX11_takeHalf (h := 63) hW ((shN_lt (by omega)).trans rfl) (by omega)) ?_
  refine jx_aload_n dX11_takeOver_21 rfl ?_
  refine jx_getR dX11_takeOver_22 flX11_44 ((shN_lt (by omega)).trans rfl) rfl (hR _ _ _ (by decide) (by decide) rfl) ?_
  refine jx_Sv (as := [.ref _]) dX11_takeOver_25 mlX11_359 okX11_takeHalf stX11_takeHalf rfl rfl (by decide) (Nat.le_of_ble_eq_true rfl) (tX11_takeHalf (h := 12) hW ((shN_lt (by omega)).trans rfl) (by omega)) ?_
  refine jx_aload_n dX11_takeOver_28 rfl ?_
  refine jx_getR dX11_takeOver_29 flX11_47 ((shN_lt (by omega)).trans rfl) rfl (hR _ _ _ (by decide) (by decide) rfl) ?_
  refine jx_Sv (as := [.ref _]) dX11_takeOver_32 mlX11_359 okX11_takeHalf stX11_takeHalf rfl rfl (by decide) (Nat.le_of_ble_eq_true rfl) (tX11_takeHalf (h := 6) hW ((shN_lt (by omega)).trans rfl) (by omega)) ?_
  refine jx_aload_n dX11_takeOver_35 rfl ?_
  refine jx_getR dX11_takeOver_36 flX11_50 ((shN_lt (by omega)).trans rfl) rfl (hR _ _ _ (by decide) (by decide) rfl) ?_
  refine jx_Sv (as := [.ref _]) dX11_takeOver_39 mlX11_359 okX11_takeHalf stX11_takeHalf rfl rfl (by decide) (Nat.le_of_ble_eq_true rfl) (tX11_takeHalf (h := 6) hW ((shN_lt (by omega)).trans rfl) (by omega)) ?_
  refine jx_aload_n dX11_takeOver_42 rfl ?_
  refine jx_getR dX11_takeOver_43 flX11_53 ((shN_lt (by omega)).trans rfl) rfl (hR _ _ _ (by decide) (by decide) rfl) ?_
  refine jx_Sv (as := [.ref _]) dX11_takeOver_46 mlX11_359 okX11_takeHalf stX11_takeHalf rfl rfl (by decide) (Nat.le_of_ble_eq_true rfl) (tX11_takeHalf (h := 6) hW ((shN_lt (by omega)).trans rfl) (by omega)) ?_
  refine jx_aload_n dX11_takeOver_49 rfl ?_
  refine jx_getR dX11_takeOver_50 flX11_56 ((shN_lt (by omega)).trans rfl) rfl (hR _ _ _ (by decide) (by decide) rfl) ?_
  refine jx_Sv (as := [.ref _]) dX11_takeOver_53 mlX11_359 okX11_takeHalf stX11_takeHalf rfl rfl (by decide) (Nat.le_of_ble_eq_true rfl) (tX11_takeHalf (h := 6) hW ((shN_lt (by omega)).trans rfl) (by omega)) ?_
  refine jx_aload_n dX11_takeOver_56 rfl ?_
  refine jx_getR dX11_takeOver_57 flX11_59 ((shN_lt (by omega)).trans rfl) rfl (hR _ _ _ (by decide) (by decide) rfl) ?_
  refine jx_Sv (as := [.ref _]) dX11_takeOver_60 mlX11_359 okX11_takeHalf stX11_takeHalf rfl rfl (by decide) (Nat.le_of_ble_eq_true rfl) (tX11_takeHalf (h := 6) hW ((shN_lt (by omega)).trans rfl) (by omega)) ?_
  refine jx_aload_n dX11_takeOver_63 rfl ?_
  refine jx_getR dX11_takeOver_64 flX11_62 ((shN_lt (by omega)).trans rfl) rfl (hR _ _ _ (by decide) (by decide) rfl) ?_
  refine jx_Sv (as := [.ref _]) dX11_takeOver_67 mlX11_359 okX11_takeHalf stX11_takeHalf rfl rfl (by decide) (Nat.le_of_ble_eq_true rfl) (tX11_takeHalf (h := 6) hW ((shN_lt (by omega)).trans rfl) (by omega)) ?_
  refine jx_aload_n dX11_takeOver_70 rfl ?_
  refine jx_getR dX11_takeOver_71 flX11_65 ((shN_lt (by omega)).trans rfl) rfl (hR _ _ _ (by decide) (by decide) rfl) ?_
  refine jx_Sv (as := [.ref _]) dX11_takeOver_74 mlX11_359 okX11_takeHalf stX11_takeHalf rfl rfl (by decide) (Nat.le_of_ble_eq_true rfl) (tX11_takeHalf (h := 700) hW ((shN_lt (by omega)).trans rfl) (by omega)) ?_
  refine jx_aload_n dX11_takeOver_77 rfl ?_
  refine jx_iconst (v := 0) dX11_takeOver_78 (by decide) ?_
  refine jx_putI dX11_takeOver_79 flX11_363 ((shN_lt (by omega)).trans rfl) rfl (fun r h => by cases h; rfl) ?_
  refine jx_aload_n dX11_takeOver_82 rfl ?_
  refine jx_iconst (v := 0) dX11_takeOver_83 (by decide) ?_
  refine jx_putI dX11_takeOver_84 flX11_366 ((shN_lt (by omega)).trans rfl) rfl (fun r h => by cases h; rfl) ?_
  refine jx_aload_n dX11_takeOver_87 rfl ?_
  refine jx_iconst (v := -1) dX11_takeOver_88 (by decide) ?_
  refine jx_putI dX11_takeOver_89 flX11_106 ((shN_lt (by omega)).trans rfl) rfl (fun r h => by cases h; rfl) ?_
  refine jx_aload_n dX11_takeOver_92 rfl ?_
  refine jx_iconst (v := 0) dX11_takeOver_93 (by decide) ?_
  refine jx_putZ dX11_takeOver_94 flX11_369 ((shN_lt (by omega)).trans rfl) rfl (fun r h => by cases h; rfl) (by first | exact Or.inl rfl | exact Or.inr rfl | exact jb_or _) ?_
  refine jx_aload_n dX11_takeOver_97 rfl ?_
  refine jx_iconst (v := 0) dX11_takeOver_98 (by decide) ?_
  refine jx_putZ dX11_takeOver_99 flX11_373 ((shN_lt (by omega)).trans rfl) rfl (fun r h => by cases h; rfl) (by first | exact Or.inl rfl | exact Or.inr rfl | exact jb_or _) ?_
  refine jx_vret dX11_takeOver_102 rfl ?_
  exact ⟨rfl, rfl⟩
set_option maxHeartbeats 1000000 in
set_option maxRecDepth 20000 in
theorem gX11_begin (hW : jWok w l) (hR : RSn R 1069 1118) (hN : 1118 ≤ N) : jCD w l mX11_begin 2 [.ref 1069] (n, shN N, I, L, R) none (n, shN N, begH I, L, R) := by
  refine jCD_of hW (by decide) rfl (Nat.le_of_ble_eq_true rfl) ?_
  have key68 : ∀ c, c ≤ 63 → jWP w l mX11_begin 2 0 0 (fun r t => r = none ∧ t = (n, shN N, begH I, L, R)) (fun _ _ => False) 68 [(0, .ref 1069), (1, .int (nI c))] [] (n, shN N, b2H I c, L, R) := by
    refine jdown _ (fun c hc ih => ?_)
    refine jx_iload_n dX11_begin_68 rfl ?_
    refine jx_bipush (v := 63) dX11_begin_69 (by decide) ?_
    refine jx_icmpN_ge (a := c) (b := 63) 107 dX11_begin_71 (by decide) (by omega) (by omega) (fun h71 => ?_) (fun h71 => ?_)
    · refine jx_vret dX11_begin_107 rfl ?_
      have h63 : c = 63 := by omega
      subst h63
      exact ⟨rfl, rfl⟩
    · refine jx_aload_n dX11_begin_74 rfl ?_
      refine jx_getR dX11_begin_75 flX11_38 ((shN_lt (by omega)).trans rfl) rfl (hR _ _ _ (by decide) (by decide) rfl) ?_
      refine jx_bipush (v := 63) dX11_begin_78 (by decide) ?_
      refine jx_iload_n dX11_begin_80 rfl ?_
      refine jx_iaddE (z := nI (63 + c)) dX11_begin_81 (nI_add 63 c) ?_
      refine jx_iconst (v := 4) dX11_begin_82 (by decide) ?_
      refine jx_iastN (63 + c) dX11_begin_83 ((shN_lt (by omega)).trans rfl) (rfl) (by omega) (by omega) ?_
      refine jx_aload_n dX11_begin_84 rfl ?_
      refine jx_getR dX11_begin_85 flX11_41 ((shN_lt (by omega)).trans rfl) rfl (hR _ _ _ (by decide) (by decide) rfl) ?_
      refine jx_bipush (v := 63) dX11_begin_88 (by decide) ?_
      refine jx_iload_n dX11_begin_90 rfl ?_
      refine jx_iaddE (z := nI (63 + c)) dX11_begin_91 (nI_add 63 c) ?_
      refine jx_iconst (v := 0) dX11_begin_92 (by decide) ?_
      refine jx_iastN (63 + c) dX11_begin_93 ((shN_lt (by omega)).trans rfl) (rfl) (by omega) (by omega) ?_
      refine jx_aload_n dX11_begin_94 rfl ?_
      refine jx_getR dX11_begin_95 flX11_71 ((shN_lt (by omega)).trans rfl) rfl (hR _ _ _ (by decide) (by decide) rfl) ?_
      refine jx_iload_n dX11_begin_98 rfl ?_
      refine jx_iconst (v := 0) dX11_begin_99 (by decide) ?_
      refine jx_zastN (c) dX11_begin_100 ((shN_lt (by omega)).trans rfl) (rfl) (by omega) (by omega) ?_
      refine jx_iinc dX11_begin_101 rfl (v := nI (c + 1)) (nI_1 _) (by decide) ?_
      refine jx_goto 68 dX11_begin_104 (by decide) ?_
      rw [show ((0 : Int32) &&& 1) = 0 by decide, b2H_s]
      exact jx_ls (by exact ⟨rfl, rfl, trivial⟩) (ih h71)
  have key2 : ∀ k, k ≤ 17 → jWP w l mX11_begin 2 0 0 (fun r t => r = none ∧ t = (n, shN N, begH I, L, R)) (fun _ _ => False) 2 [(0, .ref 1069), (1, .int (nI k))] [] (n, shN N, flo I 1072 17 (fun _ => 0) k, L, R) := by
    refine jdown _ (fun k hk ih => ?_)
    refine jx_iload_n dX11_begin_2 rfl ?_
    refine jx_bipush (v := 17) dX11_begin_3 (by decide) ?_
    refine jx_icmpN_ge (a := k) (b := 17) 24 dX11_begin_5 (by decide) (by omega) (by omega) (fun h5 => ?_) (fun h5 => ?_)
    · refine jx_aload_n dX11_begin_24 rfl ?_
      refine jx_getR dX11_begin_25 flX11_34 ((shN_lt (by omega)).trans rfl) rfl (hR _ _ _ (by decide) (by decide) rfl) ?_
      refine jx_bipush (v := 17) dX11_begin_28 (by decide) ?_
      refine jx_bipush (v := 6) dX11_begin_30 (by decide) ?_
      refine jx_iastN (17) dX11_begin_32 ((shN_lt (by omega)).trans rfl) (rfl) (by omega) (by omega) ?_
      refine jx_aload_n dX11_begin_33 rfl ?_
      refine jx_getR dX11_begin_34 flX11_34 ((shN_lt (by omega)).trans rfl) rfl (hR _ _ _ (by decide) (by decide) rfl) ?_
      refine jx_bipush (v := 18) dX11_begin_37 (by decide) ?_
      refine jx_iconst (v := 4) dX11_begin_39 (by decide) ?_
      refine jx_iastN (18) dX11_begin_40 ((shN_lt (by omega)).trans rfl) (rfl) (by omega) (by omega) ?_
      refine jx_aload_n dX11_begin_41 rfl ?_
      refine jx_getR dX11_begin_42 flX11_34 ((shN_lt (by omega)).trans rfl) rfl (hR _ _ _ (by decide) (by decide) rfl) ?_
      refine jx_bipush (v := 25) dX11_begin_45 (by decide) ?_
      refine jx_iconst (v := 2) dX11_begin_47 (by decide) ?_
      refine jx_iastN (25) dX11_begin_48 ((shN_lt (by omega)).trans rfl) (rfl) (by omega) (by omega) ?_
      refine jx_aload_n dX11_begin_49 rfl ?_
      refine jx_getR dX11_begin_50 flX11_34 ((shN_lt (by omega)).trans rfl) rfl (hR _ _ _ (by decide) (by decide) rfl) ?_
      refine jx_bipush (v := 26) dX11_begin_53 (by decide) ?_
      refine jx_bipush (v := 9) dX11_begin_55 (by decide) ?_
      refine jx_iastN (26) dX11_begin_57 ((shN_lt (by omega)).trans rfl) (rfl) (by omega) (by omega) ?_
      refine jx_aload_n dX11_begin_58 rfl ?_
      refine jx_getR dX11_begin_59 flX11_34 ((shN_lt (by omega)).trans rfl) rfl (hR _ _ _ (by decide) (by decide) rfl) ?_
      refine jx_bipush (v := 29) dX11_begin_62 (by decide) ?_
      refine jx_iconst (v := 1) dX11_begin_64 (by decide) ?_
      refine jx_iastN (29) dX11_begin_65 ((shN_lt (by omega)).trans rfl) (rfl) (by omega) (by omega) ?_
      refine jx_iconst (v := 0) dX11_begin_66 (by decide) ?_
      refine jx_istore_n dX11_begin_67 rfl (by decide) ?_
      have h17 : k = 17 := by omega
      subst h17
      have kk := key68 0 (by omega)
      rw [b2H_0] at kk
      exact jx_ls (by exact ⟨rfl, rfl, trivial⟩) kk
    · refine jx_aload_n dX11_begin_8 rfl ?_
      refine jx_getR dX11_begin_9 flX11_34 ((shN_lt (by omega)).trans rfl) rfl (hR _ _ _ (by decide) (by decide) rfl) ?_
      refine jx_bipush (v := 17) dX11_begin_12 (by decide) ?_
      refine jx_iload_n dX11_begin_14 rfl ?_
      refine jx_iaddE (z := nI (17 + k)) dX11_begin_15 (nI_add 17 k) ?_
      refine jx_iconst (v := 0) dX11_begin_16 (by decide) ?_
      refine jx_iastN (17 + k) dX11_begin_17 ((shN_lt (by omega)).trans rfl) (rfl) (by omega) (by omega) ?_
      refine jx_iinc dX11_begin_18 rfl (v := nI (k + 1)) (nI_1 _) (by decide) ?_
      refine jx_goto 2 dX11_begin_21 (by decide) ?_
      rw [flo_s I 1072 17 (fun _ => 0) k]
      exact jx_ls (by exact ⟨rfl, rfl, trivial⟩) (ih h5)
  have kk := key2 0 (by omega)
  rw [flo_0] at kk
  refine jx_iconst (v := 0) dX11_begin_0 (by decide) ?_
  refine jx_istore_n dX11_begin_1 rfl (by decide) ?_
  exact jx_ls (by exact ⟨rfl, rfl, trivial⟩) kk
end CZ27
