/-! THE CLASS: sands are cleared -/
section CZ16
variable {w : jWD} {l : Launch} {n : Nat} {I J : Nat → Nat → Int32} {L M : Nat → Nat → Int64} {R : Nat → Nat → Option Nat} {h W H : Nat}
theorem row_s {W r c y : Nat} (hr : r < W) : (c / W < y + 1 ∧ c % W = r) ↔ ((c / W < y ∧ c % W = r) ∨ c = W * y + r) := by
  have e := Nat.div_add_mod c W
  constructor
  · intro ⟨a, b⟩
    by_cases z : c / W = y
    · right; rw [← z, ← b]; exact e.symm
    · left; exact ⟨by omega, b⟩
  · intro q
    rcases q with q | q
    · exact ⟨by omega, q.2⟩
    · have h1 : c / W = y := by rw [q, Nat.mul_add_div (by omega), Nat.div_eq_of_lt hr]; omega
      have h2 : c % W = r := by rw [q, Nat.mul_add_mod, Nat.mod_eq_of_lt hr]
      exact ⟨by omega, h2⟩
theorem bs_row {W r y : Nat} (hr : r < W) (hl : W * y + r < 64) : bs (fun c => decide (c / W < y ∧ c % W = r)) ||| (1 <<< ((nI (W * y + r)).toInt64 &&& 63)) = bs (fun c => decide (c / W < y + 1 ∧ c % W = r)) := by
  rw [bs_1 hl, bs_or]
  refine bs_c (fun c _ => ?_)
  rw [← Bool.decide_or]
  exact decide_eq_decide.mpr (row_s hr).symm
theorem bs_z : bs (fun c => decide (c < 0)) = 0 := by rw [show (fun c : Nat => decide (c < 0)) = (fun _ => false) from funext (fun c => decide_eq_false (Nat.not_lt_zero c))]; decide +kernel
theorem bs_z2 {W r : Nat} : bs (fun c => decide (c / W < 0 ∧ c % W = r)) = 0 := by
  rw [← bs_z]
  exact bs_c (fun c _ => by rw [decide_eq_false (fun q => absurd q.1 (Nat.not_lt_zero _)), decide_eq_false (Nat.not_lt_zero c)])
theorem bs_all {k : Nat} (hk : k < 64) : bs (fun c => decide (c < k)) ||| (1 <<< ((nI k).toInt64 &&& 63)) = bs (fun c => decide (c < k + 1)) := by
  rw [bs_1 hk, bs_or]
  refine bs_c (fun c _ => ?_)
  rw [← Bool.decide_or]
  exact decide_eq_decide.mpr (by omega)
theorem bs_rows {W H r : Nat} (hW : 0 < W) : bs (fun c => decide (c / W < H ∧ c % W = r)) = bs (fun c => decide (c < W * H ∧ c % W = r)) := bs_c (fun c _ => decide_eq_decide.mpr (by rw [Nat.div_lt_iff_lt_mul hW, Nat.mul_comm H W]))
/-- the sands at h + 1, cleared -/
def Clr (J : Nat → Nat → Int32) (M : Nat → Nat → Int64) (h W H : Nat) : Prop := (J (h + 1) 0 = nI W ∧ J (h + 1) 1 = nI H) ∧ (J (h + 1) 7 = 0 ∧ J (h + 1) 9 = 0 ∧ J (h + 1) 10 = 0) ∧ (∀ c, c < 63 → J (h + 2) c = 4) ∧ (M (h + 1) 3 = 0 ∧ M (h + 1) 4 = 0 ∧ M (h + 1) 5 = 0 ∧ M (h + 1) 8 = 0)

set_option maxHeartbeats 1000000 in
set_option maxRecDepth 20000 in
theorem tX8_clear (hW : jWok w l) (hR : RS R) (hh : h = 1008 ∨ h = 1024) (hWb : 3 ≤ W ∧ W ≤ 9) (hHb : 1 ≤ H ∧ H ≤ 7) : jRv w l mX8_clear 2 [.ref (h + 1), .int (nI W), .int (nI H)] (n, shE, I, L, R) (fun t => (∃ J M, t = (n, shE, J, M, R) ∧ (∀ b j, b ≠ h + 1 → b ≠ h + 2 → J b j = I b j) ∧ (∀ b j, b ≠ h + 1 → M b j = L b j) ∧ Clr J M h W H ∧ M (h + 1) 11 = bs (fun c => decide (c < W * H)) ∧ M (h + 1) 12 = bs (fun c => decide (c < W * H ∧ c % W = 0)) ∧ M (h + 1) 13 = bs (fun c => decide (c < W * H ∧ c % W = W - 1)))) := by
  refine jRv_of hW (by decide) rfl (Nat.le_of_ble_eq_true rfl) ?_
  have hWH : W * H ≤ 9 * 7 := Nat.mul_le_mul hWb.2 hHb.2
  have key2 : ∀ k, k ≤ W * H → ∀ (J : Nat → Nat → Int32) (M : Nat → Nat → Int64), (∀ b j, b ≠ h + 1 → b ≠ h + 2 → J b j = I b j) → (∀ b j, b ≠ h + 1 → M b j = L b j) → Clr J M h W H → M (h + 1) 11 = bs (fun c => decide (c < k)) → M (h + 1) 12 = bs (fun c => decide (c < W * H ∧ c % W = 0)) → M (h + 1) 13 = bs (fun c => decide (c < W * H ∧ c % W = W - 1)) → jWP w l mX8_clear 2 0 0 (fun v t => v = none ∧ (∃ J M, t = (n, shE, J, M, R) ∧ (∀ b j, b ≠ h + 1 → b ≠ h + 2 → J b j = I b j) ∧ (∀ b j, b ≠ h + 1 → M b j = L b j) ∧ Clr J M h W H ∧ M (h + 1) 11 = bs (fun c => decide (c < W * H)) ∧ M (h + 1) 12 = bs (fun c => decide (c < W * H ∧ c % W = 0)) ∧ M (h + 1) 13 = bs (fun c => decide (c < W * H ∧ c % W = W - 1)))) (fun _ _ => False) 127 [(0, .ref (h + 1)), (1, .int (nI W)), (2, .int (nI H)), (3, .int (nI k))] [] (n, shE, J, M, R) := by
    refine jdown _ (fun k hk ih => ?_)
    intro J M e1 e2 e3 e4 e5 e6
    rcases hh with rfl | rfl
    all_goals
      refine jx_iload_n dX8_clear_127 rfl ?_
      refine jx_aload_n dX8_clear_128 rfl ?_
      refine jx_getIE dX8_clear_129 flX8_22 rfl rfl (e3.1.1) ?_
      refine jx_aload_n dX8_clear_132 rfl ?_
      refine jx_getIE dX8_clear_133 flX8_26 rfl rfl (e3.1.2) ?_
      refine jx_imulE (z := nI (W * H)) dX8_clear_136 (pk_mul W H) ?_
      refine jx_icmpN_ge (a := k) (b := (W * H)) 158 dX8_clear_137 (by decide) (by omega) (by omega) (fun h137 => ?_) (fun h137 => ?_)
      · refine jx_vret dX8_clear_158 rfl ?_
        have hkk : k = W * H := by omega
        subst hkk
        exact ⟨rfl, J, M, rfl, e1, e2, e3, e4, e5, e6⟩
      · refine jx_aload_n dX8_clear_140 rfl ?_
        refine jx_dup dX8_clear_141 rfl ?_
        refine jx_getLE dX8_clear_142 flX8_57 rfl rfl (e4) ?_
        refine jx_lconst (v := 1) dX8_clear_145 (by decide) ?_
        refine jx_iload_n dX8_clear_146 rfl ?_
        refine jx_lshl dX8_clear_147 ?_
        refine jx_lorE (z := bs (fun c => decide (c < k + 1))) dX8_clear_148 (bs_all (by omega)) ?_
        refine jx_putL dX8_clear_149 flX8_57 rfl rfl (fun r h => by cases h; rfl) ?_
        refine jx_iinc dX8_clear_152 rfl (v := nI (k + 1)) (nI_1 _) (by decide) ?_
        refine jx_goto 127 dX8_clear_155 (by decide) ?_
        exact jx_ls (by exact ⟨rfl, rfl, rfl, rfl, trivial⟩) (ih (by omega) J _ e1 (fun b j hb => (upL_nea hb).trans (e2 b j hb)) e3 upL_s e5 e6)
  have key : ∀ y, y ≤ H → ∀ (J : Nat → Nat → Int32) (M : Nat → Nat → Int64), (∀ b j, b ≠ h + 1 → b ≠ h + 2 → J b j = I b j) → (∀ b j, b ≠ h + 1 → M b j = L b j) → Clr J M h W H → M (h + 1) 11 = 0 → M (h + 1) 12 = bs (fun c => decide (c / W < y ∧ c % W = 0)) → M (h + 1) 13 = bs (fun c => decide (c / W < y ∧ c % W = W - 1)) → jWP w l mX8_clear 2 0 0 (fun v t => v = none ∧ (∃ J M, t = (n, shE, J, M, R) ∧ (∀ b j, b ≠ h + 1 → b ≠ h + 2 → J b j = I b j) ∧ (∀ b j, b ≠ h + 1 → M b j = L b j) ∧ Clr J M h W H ∧ M (h + 1) 11 = bs (fun c => decide (c < W * H)) ∧ M (h + 1) 12 = bs (fun c => decide (c < W * H ∧ c % W = 0)) ∧ M (h + 1) 13 = bs (fun c => decide (c < W * H ∧ c % W = W - 1)))) (fun _ _ => False) 70 [(0, .ref (h + 1)), (1, .int (nI W)), (2, .int (nI H)), (3, .int (nI y))] [] (n, shE, J, M, R) := by
    refine jdown _ (fun y hy ih => ?_)
    intro J M e1 e2 e3 e4 e5 e6
    have hb1 : y < H → W * y + (W - 1) < 64 := fun q => by
      have := Nat.mul_le_mul_left W (show y + 1 ≤ H by omega)
      rw [Nat.mul_succ] at this
      omega
    rcases hh with rfl | rfl
    all_goals
      refine jx_iload_n dX8_clear_70 rfl ?_
      refine jx_aload_n dX8_clear_71 rfl ?_
      refine jx_getIE dX8_clear_72 flX8_26 rfl rfl (e3.1.2) ?_
      refine jx_icmpN_ge (a := y) (b := H) 125 dX8_clear_75 (by decide) (by omega) (by omega) (fun h75 => ?_) (fun h75 => ?_)
      · refine jx_iconst (v := 0) dX8_clear_125 (by decide) ?_
        refine jx_istore_n dX8_clear_126 rfl (by decide) ?_
        have hyy : y = H := by omega
        subst hyy
        exact jx_ls (by exact ⟨rfl, rfl, rfl, rfl, trivial⟩) (key2 0 (Nat.zero_le _) J M e1 e2 e3 (e4.trans bs_z.symm) (e5.trans (bs_rows (by omega))) (e6.trans (bs_rows (by omega))))
      · refine jx_aload_n dX8_clear_78 rfl ?_
        refine jx_dup dX8_clear_79 rfl ?_
        refine jx_getLE dX8_clear_80 flX8_60 rfl rfl (e5) ?_
        refine jx_lconst (v := 1) dX8_clear_83 (by decide) ?_
        refine jx_aload_n dX8_clear_84 rfl ?_
        refine jx_getIE dX8_clear_85 flX8_22 rfl rfl (e3.1.1) ?_
        refine jx_iload_n dX8_clear_88 rfl ?_
        refine jx_imulE (z := nI (W * y)) dX8_clear_89 (pk_mul W y) ?_
        refine jx_lshl dX8_clear_90 ?_
        refine jx_lorE (z := bs (fun c => decide (c / W < y + 1 ∧ c % W = 0))) dX8_clear_91 (bs_row (r := 0) (by omega) (by have := hb1 (by omega); omega)) ?_
        refine jx_putL dX8_clear_92 flX8_60 rfl rfl (fun r h => by cases h; rfl) ?_
        refine jx_aload_n dX8_clear_95 rfl ?_
        refine jx_dup dX8_clear_96 rfl ?_
        refine jx_getLE dX8_clear_97 flX8_63 rfl rfl (e6) ?_
        refine jx_lconst (v := 1) dX8_clear_100 (by decide) ?_
        refine jx_aload_n dX8_clear_101 rfl ?_
        refine jx_getIE dX8_clear_102 flX8_22 rfl rfl (e3.1.1) ?_
        refine jx_iload_n dX8_clear_105 rfl ?_
        refine jx_imulE (z := nI (W * y)) dX8_clear_106 (pk_mul W y) ?_
        refine jx_aload_n dX8_clear_107 rfl ?_
        refine jx_getIE dX8_clear_108 flX8_22 rfl rfl (e3.1.1) ?_
        refine jx_iaddE (z := nI ((W * y) + W)) dX8_clear_111 (nI_add (W * y) W) ?_
        refine jx_iconst (v := 1) dX8_clear_112 (by decide) ?_
        refine jx_isubE (z := nI (W * y + (W - 1))) dX8_clear_113 ((pk_sub (a := W * y + W) (b := 1) (by omega)).trans (congrArg nI (by omega))) ?_
        refine jx_lshl dX8_clear_114 ?_
        refine jx_lorE (z := bs (fun c => decide (c / W < y + 1 ∧ c % W = W - 1))) dX8_clear_115 (bs_row (r := W - 1) (by omega) (hb1 (by omega))) ?_
        refine jx_putL dX8_clear_116 flX8_63 rfl rfl (fun r h => by cases h; rfl) ?_
        refine jx_iinc dX8_clear_119 rfl (v := nI (y + 1)) (nI_1 _) (by decide) ?_
        refine jx_goto 70 dX8_clear_122 (by decide) ?_
        exact jx_ls (by exact ⟨rfl, rfl, rfl, rfl, trivial⟩) (ih (by omega) J _ e1 (fun b j hb => (upL_nea hb).trans ((upL_nea hb).trans (e2 b j hb))) e3 e4 rfl upL_s)
  rcases hh with rfl | rfl
  all_goals
    refine jx_aload_n dX8_clear_0 rfl ?_
    refine jx_iload_n dX8_clear_1 rfl ?_
    refine jx_putI dX8_clear_2 flX8_22 rfl rfl (fun r h => by cases h; rfl) ?_
    refine jx_aload_n dX8_clear_5 rfl ?_
    refine jx_iload_n dX8_clear_6 rfl ?_
    refine jx_putI dX8_clear_7 flX8_26 rfl rfl (fun r h => by cases h; rfl) ?_
    refine jx_aload_n dX8_clear_10 rfl ?_
    refine jx_getR dX8_clear_11 flX8_9 rfl rfl (hR _ _ _ rfl) ?_
    refine jx_iconst (v := 4) dX8_clear_14 (by decide) ?_
    refine jx_Sv (as := [.ref _, .int _]) dX8_clear_15 mlX8_29 okJ7_fill_53178 stJ7_fill_53178 rfl rfl (by decide) (Nat.le_of_ble_eq_true rfl) (tJ7_fill_53178 hW (h := 63) _ rfl (by decide)) ?_
    refine jx_aload_n dX8_clear_18 rfl ?_
    refine jx_lconst (v := 0) dX8_clear_19 (by decide) ?_
    refine jx_putL dX8_clear_20 flX8_35 rfl rfl (fun r h => by cases h; rfl) ?_
    refine jx_aload_n dX8_clear_23 rfl ?_
    refine jx_lconst (v := 0) dX8_clear_24 (by decide) ?_
    refine jx_putL dX8_clear_25 flX8_39 rfl rfl (fun r h => by cases h; rfl) ?_
    refine jx_aload_n dX8_clear_28 rfl ?_
    refine jx_lconst (v := 0) dX8_clear_29 (by decide) ?_
    refine jx_putL dX8_clear_30 flX8_42 rfl rfl (fun r h => by cases h; rfl) ?_
    refine jx_aload_n dX8_clear_33 rfl ?_
    refine jx_iconst (v := 0) dX8_clear_34 (by decide) ?_
    refine jx_putI dX8_clear_35 flX8_45 rfl rfl (fun r h => by cases h; rfl) ?_
    refine jx_aload_n dX8_clear_38 rfl ?_
    refine jx_lconst (v := 0) dX8_clear_39 (by decide) ?_
    refine jx_putL dX8_clear_40 flX8_48 rfl rfl (fun r h => by cases h; rfl) ?_
    refine jx_aload_n dX8_clear_43 rfl ?_
    refine jx_iconst (v := 0) dX8_clear_44 (by decide) ?_
    refine jx_putI dX8_clear_45 flX8_51 rfl rfl (fun r h => by cases h; rfl) ?_
    refine jx_aload_n dX8_clear_48 rfl ?_
    refine jx_iconst (v := 0) dX8_clear_49 (by decide) ?_
    refine jx_putI dX8_clear_50 flX8_54 rfl rfl (fun r h => by cases h; rfl) ?_
    refine jx_aload_n dX8_clear_53 rfl ?_
    refine jx_lconst (v := 0) dX8_clear_54 (by decide) ?_
    refine jx_putL dX8_clear_55 flX8_57 rfl rfl (fun r h => by cases h; rfl) ?_
    refine jx_aload_n dX8_clear_58 rfl ?_
    refine jx_lconst (v := 0) dX8_clear_59 (by decide) ?_
    refine jx_putL dX8_clear_60 flX8_60 rfl rfl (fun r h => by cases h; rfl) ?_
    refine jx_aload_n dX8_clear_63 rfl ?_
    refine jx_lconst (v := 0) dX8_clear_64 (by decide) ?_
    refine jx_putL dX8_clear_65 flX8_63 rfl rfl (fun r h => by cases h; rfl) ?_
    refine jx_iconst (v := 0) dX8_clear_68 (by decide) ?_
    refine jx_istore_n dX8_clear_69 rfl (by decide) ?_
    refine jx_ls (by exact ⟨rfl, rfl, rfl, rfl, trivial⟩) (key 0 (Nat.zero_le _) _ _ (fun b j h1 h2 => ?_) (fun b j h1 => ?_) ⟨⟨rfl, rfl⟩, ⟨rfl, rfl, rfl⟩, fun c hc => ?_, ⟨rfl, rfl, rfl, rfl⟩⟩ rfl bs_z2.symm bs_z2.symm)
    · rw [upI_nea h1, upI_nea h1, upI_nea h1]; unfold fl; rw [if_neg (fun q => h2 q.1), upI_nea h1, upI_nea h1]
    · rw [upL_nea h1, upL_nea h1, upL_nea h1, upL_nea h1, upL_nea h1, upL_nea h1, upL_nea h1]
    · rw [upI_nea (by decide), upI_nea (by decide), upI_nea (by decide)]; unfold fl; exact if_pos ⟨rfl, hc⟩
end CZ16
