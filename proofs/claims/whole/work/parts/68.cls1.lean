/-! THE CLASS: the sands -/
section CA
variable {w : jWD} {l : Launch} {n : Nat} {I : Nat → Nat → Int32} {L : Nat → Nat → Int64} {R : Nat → Nat → Option Nat}

set_option maxHeartbeats 1000000 in
set_option maxRecDepth 20000 in
theorem tX10_has (hW : jWok w l) {x : Int64} {c : Nat} (hc : c < 64) (σ : jHS) : jCD w l mX10_has 1 [.long x, .int (nI c)] σ (some (.int (jb (bt x c)))) σ := by
  refine jCD_of hW (by decide) rfl (Nat.le_of_ble_eq_true rfl) ?_
  refine jx_lload_n dX10_has_0 rfl ?_
  refine jx_iload_n dX10_has_1 rfl ?_
  refine jx_lushr dX10_has_2 ?_
  refine jx_lconst (v := 1) dX10_has_3 (by decide) ?_
  refine jx_landE (z := if bt x c = true then 1 else 0) dX10_has_4 (bt_shr1 hc) ?_
  refine jx_lconst (v := 0) dX10_has_5 (by decide) ?_
  refine jx_lcmp dX10_has_6 ?_
  rw [lcmp_0]
  refine jx_ifB_eq 14 dX10_has_7 (by decide) (fun h7 => ?_) (fun h7 => ?_)
  · refine jx_iconst (v := 0) dX10_has_14 (by decide) ?_
    refine jx_zret dX10_has_15 rfl ?_ ?_
    · first | exact Or.inl rfl | exact Or.inr rfl | exact jb_or _
    refine ⟨?_, rfl⟩
    rw [h7]; rfl
  · refine jx_iconst (v := 1) dX10_has_10 (by decide) ?_
    refine jx_goto 15 dX10_has_11 (by decide) ?_
    refine jx_zret dX10_has_15 rfl ?_ ?_
    · first | exact Or.inl rfl | exact Or.inr rfl | exact jb_or _
    refine ⟨?_, rfl⟩
    rw [h7]; rfl
set_option maxHeartbeats 1000000 in
set_option maxRecDepth 20000 in
theorem tX8_groundOf (hW : jWok w l) (hR : RS R) {s W H : Nat} {T : Nat → Nat → Int32} (hs : s = 1009 ∨ s = 1025) (hS : CSn I L s T W H) (hw : 3 ≤ W ∧ W ≤ 9) (hh : 1 ≤ H ∧ H ≤ 7) (hq : ∀ c, c < W * H → T 1074 c = nI (cN (T 1074 c)) ∧ cN (T 1074 c) ≤ 2) {c : Nat} (hc : c < W * H) (hX : T 1074 c ≠ 0 → c % W ≠ 0 ∧ c % W ≠ W - 1) : jCD w l mX8_groundOf 2 [.ref s, .int (nI c)] (n, shE, I, L, R) (some (.int (cellV T W c))) (n, shE, I, L, R) := by
  refine jCD_of hW (by decide) rfl (Nat.le_of_ble_eq_true rfl) ?_
  have hwh : W * H ≤ 63 := Nat.mul_le_mul hw.2 hh.2
  obtain ⟨-, -, -, -, ⟨hrk, hld⟩, ⟨hal, hsh, his⟩, -⟩ := hS
  have e1 : bt (L s 12) c = decide (c < W * H ∧ c % W = 0) := by rw [hsh]; exact bt_bs (by omega)
  have e2 : bt (L s 13) c = decide (c < W * H ∧ c % W = W - 1) := by rw [his]; exact bt_bs (by omega)
  have e3 : bt (L s 4) c = decide (c < W * H ∧ T 1074 c = 1) := by rw [hrk]; exact bt_bs (by omega)
  have e4 : bt (L s 5) c = decide (c < W * H ∧ T 1074 c = 2) := by rw [hld]; exact bt_bs (by omega)
  have cv : ∀ v : Int32, ((T 1074 c = 1 ∧ v = 1) ∨ (T 1074 c = 2 ∧ v = 2) ∨ (c % W = 0 ∧ v = 3) ∨ (c % W = W - 1 ∧ v = 4) ∨ (¬ T 1074 c ≠ 0 ∧ ¬ c % W = 0 ∧ ¬ c % W = W - 1 ∧ v = 0)) → cellV T W c = v := by
    intro v hv
    unfold cellV wht
    rcases hv with ⟨h1, rfl⟩ | ⟨h1, rfl⟩ | ⟨h1, rfl⟩ | ⟨h1, rfl⟩ | ⟨h1, h2, h3, rfl⟩
    · rw [h1]; rfl
    · rw [h1]; rfl
    · have : ¬ T 1074 c ≠ 0 := fun q => (hX q).1 h1
      have z : T 1074 c = 0 := Classical.not_not.mp this
      rw [z, if_neg (by decide), if_pos h1]
    · have : ¬ T 1074 c ≠ 0 := fun q => (hX q).2 h1
      have z : T 1074 c = 0 := Classical.not_not.mp this
      rw [z, if_neg (by decide), if_neg (by omega), if_pos h1]
    · have z : T 1074 c = 0 := Classical.not_not.mp h1
      rw [z, if_neg (by decide), if_neg h2, if_neg h3]
  rcases hs with rfl | rfl
  all_goals
    refine jx_aload_n dX8_groundOf_0 rfl ?_
    refine jx_getL dX8_groundOf_1 flX8_60 rfl rfl ?_
    refine jx_iload_n dX8_groundOf_4 rfl ?_
    refine jx_Ni (as := [.long _, .int _]) dX8_groundOf_5 mlX8_69 okX10_has stX10_has rfl (by decide) (Nat.le_of_ble_eq_true rfl) (tX10_has hW (c := c) (by omega) _) ?_
    refine jx_ifB_eq 13 dX8_groundOf_8 (by decide) (fun h8 => ?_) (fun h8 => ?_)
    · refine jx_aload_n dX8_groundOf_13 rfl ?_
      refine jx_getL dX8_groundOf_14 flX8_63 rfl rfl ?_
      refine jx_iload_n dX8_groundOf_17 rfl ?_
      refine jx_Ni (as := [.long _, .int _]) dX8_groundOf_18 mlX8_69 okX10_has stX10_has rfl (by decide) (Nat.le_of_ble_eq_true rfl) (tX10_has hW (c := c) (by omega) _) ?_
      refine jx_ifB_eq 26 dX8_groundOf_21 (by decide) (fun h21 => ?_) (fun h21 => ?_)
      · refine jx_aload_n dX8_groundOf_26 rfl ?_
        refine jx_getL dX8_groundOf_27 flX8_39 rfl rfl ?_
        refine jx_iload_n dX8_groundOf_30 rfl ?_
        refine jx_Ni (as := [.long _, .int _]) dX8_groundOf_31 mlX8_69 okX10_has stX10_has rfl (by decide) (Nat.le_of_ble_eq_true rfl) (tX10_has hW (c := c) (by omega) _) ?_
        refine jx_ifB_eq 39 dX8_groundOf_34 (by decide) (fun h34 => ?_) (fun h34 => ?_)
        · refine jx_aload_n dX8_groundOf_39 rfl ?_
          refine jx_getL dX8_groundOf_40 flX8_42 rfl rfl ?_
          refine jx_iload_n dX8_groundOf_43 rfl ?_
          refine jx_Ni (as := [.long _, .int _]) dX8_groundOf_44 mlX8_69 okX10_has stX10_has rfl (by decide) (Nat.le_of_ble_eq_true rfl) (tX10_has hW (c := c) (by omega) _) ?_
          refine jx_ifB_eq 54 dX8_groundOf_47 (by decide) (fun h47 => ?_) (fun h47 => ?_)
          · refine jx_iconst (v := 0) dX8_groundOf_54 (by decide) ?_
            refine jx_iret dX8_groundOf_55 rfl ?_
            refine ⟨congrArg (fun z => some (Value.int z)) ?_, rfl⟩
            refine (cv 0 (Or.inr (Or.inr (Or.inr (Or.inr ⟨?_, ?_, ?_, rfl⟩))))).symm
            · rw [e3] at h34; rw [e4] at h47
              have a1 := of_decide_eq_false h34; have a2 := of_decide_eq_false h47
              intro q
              have q1 := (hq c hc)
              have : cN (T 1074 c) = 0 ∨ cN (T 1074 c) = 1 ∨ cN (T 1074 c) = 2 := by omega
              rcases this with q2 | q2 | q2 <;> rw [q2] at q1
              · exact q q1.1
              · exact a1 ⟨hc, q1.1⟩
              · exact a2 ⟨hc, q1.1⟩
            · rw [e1] at h8; exact fun q => of_decide_eq_false h8 ⟨hc, q⟩
            · rw [e2] at h21; exact fun q => of_decide_eq_false h21 ⟨hc, q⟩
          · refine jx_iconst (v := 2) dX8_groundOf_50 (by decide) ?_
            refine jx_goto 55 dX8_groundOf_51 (by decide) ?_
            refine jx_iret dX8_groundOf_55 rfl ?_
            refine ⟨congrArg (fun z => some (Value.int z)) ?_, rfl⟩
            exact (cv 2 (by rw [e4] at h47; have := of_decide_eq_true h47; exact Or.inr (Or.inl ⟨this.2, rfl⟩))).symm
        · refine jx_iconst (v := 1) dX8_groundOf_37 (by decide) ?_
          refine jx_iret dX8_groundOf_38 rfl ?_
          refine ⟨congrArg (fun z => some (Value.int z)) ?_, rfl⟩
          exact (cv 1 (by rw [e3] at h34; have := of_decide_eq_true h34; exact Or.inl ⟨this.2, rfl⟩)).symm
      · refine jx_iconst (v := 4) dX8_groundOf_24 (by decide) ?_
        refine jx_iret dX8_groundOf_25 rfl ?_
        refine ⟨congrArg (fun z => some (Value.int z)) ?_, rfl⟩
        exact (cv 4 (by rw [e2] at h21; have := of_decide_eq_true h21; exact Or.inr (Or.inr (Or.inr (Or.inl ⟨this.2, rfl⟩))))).symm
    · refine jx_iconst (v := 3) dX8_groundOf_11 (by decide) ?_
      refine jx_iret dX8_groundOf_12 rfl ?_
      refine ⟨congrArg (fun z => some (Value.int z)) ?_, rfl⟩
      exact (cv 3 (by rw [e1] at h8; have := of_decide_eq_true h8; exact Or.inr (Or.inr (Or.inl ⟨this.2, rfl⟩)))).symm
set_option maxHeartbeats 1000000 in
set_option maxRecDepth 20000 in
theorem tX8_quickOn (hW : jWok w l) (hR : RS R) {s W H : Nat} {T : Nat → Nat → Int32} (hs : s = 1009 ∨ s = 1025) (hS : CSn I L s T W H) (hw : 3 ≤ W ∧ W ≤ 9) (hh : 1 ≤ H ∧ H ≤ 7) (hn : T 1072 4 = nI (cN (T 1072 4)) ∧ cN (T 1072 4) ≤ 12) (hqc : ∀ k, k < cN (T 1072 4) → T 1075 k = nI (cN (T 1075 k)) ∧ cN (T 1075 k) < W * H) {day : Nat} (hd : day ≤ 40) {ax ay : Int32} (hx : -2 ≤ ax.toInt ∧ ax.toInt ≤ 2) (hy : -2 ≤ ay.toInt ∧ ay.toInt ≤ 2) : jCD w l mX8_quickOn 2 [.ref s, .int (nI day), .int ax, .int ay] (n, shE, I, L, R) (some (.long (bs (fun c => qOn W H (fun k => cN (T 1075 k)) day ax.toInt ay.toInt (cN (T 1072 4)) c)))) (n, shE, I, L, R) := by
  refine jCD_of hW (by decide) rfl (Nat.le_of_ble_eq_true rfl) ?_
  have hwh : W * H ≤ 63 := Nat.mul_le_mul hw.2 hh.2
  obtain ⟨⟨hsw, hsd⟩, -, ⟨hsn, hsq⟩, -, -, -, -⟩ := hS
  have hlin : ∀ (a d : Nat) (x : Int32), a < 1000 → d ≤ 40 → -2 ≤ x.toInt → x.toInt ≤ 2 → (nI a + nI d * x).toInt = (a : Int) + x.toInt * d := fun a d x h1 h2 h3 h4 => by rw [Int32.mul_comm]; exact lin_toInt h1 h2 h3 h4
  have key : ∀ k, k ≤ cN (T 1072 4) → jWP w l mX8_quickOn 2 0 0 (fun r t => r = (some (.long (bs (fun c => qOn W H (fun k => cN (T 1075 k)) day ax.toInt ay.toInt (cN (T 1072 4)) c)))) ∧ t = (n, shE, I, L, R)) (fun _ _ => False) 25 [(0, .ref s), (1, .int (nI day)), (2, .int ax), (3, .int ay), (4, .long (bs (fun c => qOn W H (fun k => cN (T 1075 k)) day ax.toInt ay.toInt k c))), (6, .int (nI k))] [] (n, shE, I, L, R) := by
    refine jdown _ (fun k hk ih => ?_)
    rcases hs with rfl | rfl
    all_goals
      refine jx_iload dX8_quickOn_25 rfl ?_
      refine jx_aload_n dX8_quickOn_27 rfl ?_
      refine jx_getIE dX8_quickOn_28 flX8_45 rfl rfl (hsn.trans hn.1) ?_
      refine jx_icmpN_ge (a := k) (b := (cN (T 1072 4))) 114 dX8_quickOn_31 (by decide) (by omega) (by omega) (fun h31 => ?_) (fun h31 => ?_)
      · refine jx_lload dX8_quickOn_114 rfl ?_
        refine jx_lret dX8_quickOn_116 rfl ?_
        exact ⟨by rw [show k = cN (T 1072 4) by omega], rfl⟩
      · have h31 : k < cN (T 1072 4) := by omega
        have hqk := (hqc k h31).2
        have hm1 := Nat.mod_lt (cN (T 1075 k)) (show 0 < W by omega)
        have hm2 := divlt hqk
        refine jx_iload dX8_quickOn_34 rfl ?_
        refine jx_bipush (v := 12) dX8_quickOn_36 (by decide) ?_
        refine jx_icmpN_ge (a := k) (b := 12) 114 dX8_quickOn_38 (by decide) (by omega) (by omega) (fun h38 => ?_) (fun h38 => ?_)
        · exact absurd h38 (by omega)
        · refine jx_aload_n dX8_quickOn_41 rfl ?_
          refine jx_getR dX8_quickOn_42 flX8_15 rfl rfl (hR _ _ _ rfl) ?_
          refine jx_iload dX8_quickOn_45 rfl ?_
          refine jx_ialdE (k) dX8_quickOn_47 rfl (rfl) (by omega) (by omega) ((hsq k h31).trans (hqc k h31).1) ?_
          refine jx_aload_n dX8_quickOn_48 rfl ?_
          refine jx_getIE dX8_quickOn_49 flX8_22 rfl rfl (hsw) ?_
          refine jx_iremE (z := nI ((cN (T 1075 k)) % W)) dX8_quickOn_52 (nI_ne0 (n := W) (by omega) (by omega)) (pk_rem (a := (cN (T 1075 k))) (d := W) (by omega) (by omega) (by omega)) ?_
          refine jx_iload_n dX8_quickOn_53 rfl ?_
          refine jx_iload_n dX8_quickOn_54 rfl ?_
          refine jx_imul dX8_quickOn_55 ?_
          refine jx_iadd dX8_quickOn_56 ?_
          refine jx_aload_n dX8_quickOn_57 rfl ?_
          refine jx_getIE dX8_quickOn_58 flX8_22 rfl rfl (hsw) ?_
          refine jx_Si (as := [.int _, .int _]) dX8_quickOn_61 mlX8_77 okJ9_floorMod_7cf53 stJ9_floorMod_7cf53 rfl rfl (by decide) (Nat.le_of_ble_eq_true rfl) (tJ9_floorMod_7cf53 hW _ _ (nI_ne0 (n := W) (by omega) (by omega)) _) ?_
          rw [fm_eq _ (by omega) (by omega), hlin _ _ _ (by omega) hd hx.1 hx.2]
          have hr1 := rmod_lt (((cN (T 1075 k) % W : Nat) : Int) + ax.toInt * day) (show 0 < W by omega)
          refine jx_istore dX8_quickOn_64 (by decide) ?_
          refine jx_aload_n dX8_quickOn_66 rfl ?_
          refine jx_getR dX8_quickOn_67 flX8_15 rfl rfl (hR _ _ _ rfl) ?_
          refine jx_iload dX8_quickOn_70 rfl ?_
          refine jx_ialdE (k) dX8_quickOn_72 rfl (rfl) (by omega) (by omega) ((hsq k h31).trans (hqc k h31).1) ?_
          refine jx_aload_n dX8_quickOn_73 rfl ?_
          refine jx_getIE dX8_quickOn_74 flX8_22 rfl rfl (hsw) ?_
          refine jx_idivE (z := nI ((cN (T 1075 k)) / W)) dX8_quickOn_77 (nI_ne0 (n := W) (by omega) (by omega)) (pk_div (a := (cN (T 1075 k))) (d := W) (by omega) (by omega) (by omega)) ?_
          refine jx_iload_n dX8_quickOn_78 rfl ?_
          refine jx_iload_n dX8_quickOn_79 rfl ?_
          refine jx_imul dX8_quickOn_80 ?_
          refine jx_iadd dX8_quickOn_81 ?_
          refine jx_aload_n dX8_quickOn_82 rfl ?_
          refine jx_getIE dX8_quickOn_83 flX8_26 rfl rfl (hsd) ?_
          refine jx_Si (as := [.int _, .int _]) dX8_quickOn_86 mlX8_77 okJ9_floorMod_7cf53 stJ9_floorMod_7cf53 rfl rfl (by decide) (Nat.le_of_ble_eq_true rfl) (tJ9_floorMod_7cf53 hW _ _ (nI_ne0 (n := H) (by omega) (by omega)) _) ?_
          rw [fm_eq _ (by omega) (by omega), hlin _ _ _ (by omega) hd hy.1 hy.2]
          have hr2 := rmod_lt (((cN (T 1075 k) / W : Nat) : Int) + ay.toInt * day) (show 0 < H by omega)
          refine jx_istore dX8_quickOn_89 (by decide) ?_
          refine jx_lload dX8_quickOn_91 rfl ?_
          refine jx_lconst (v := 1) dX8_quickOn_93 (by decide) ?_
          refine jx_aload_n dX8_quickOn_94 rfl ?_
          refine jx_getIE dX8_quickOn_95 flX8_22 rfl rfl (hsw) ?_
          refine jx_iload dX8_quickOn_98 rfl ?_
          refine jx_imulE (z := nI (W * (rmod (((cN (T 1075 k) / W : Nat) : Int) + ay.toInt * day) H))) dX8_quickOn_100 (pk_mul W (rmod (((cN (T 1075 k) / W : Nat) : Int) + ay.toInt * day) H)) ?_
          refine jx_iload dX8_quickOn_101 rfl ?_
          refine jx_iaddE (z := nI ((W * (rmod (((cN (T 1075 k) / W : Nat) : Int) + ay.toInt * day) H)) + (rmod (((cN (T 1075 k) % W : Nat) : Int) + ax.toInt * day) W))) dX8_quickOn_103 (nI_add (W * (rmod (((cN (T 1075 k) / W : Nat) : Int) + ay.toInt * day) H)) (rmod (((cN (T 1075 k) % W : Nat) : Int) + ax.toInt * day) W)) ?_
          refine jx_lshl dX8_quickOn_104 ?_
          refine jx_lor dX8_quickOn_105 ?_
          refine jx_lstore dX8_quickOn_106 (by decide) ?_
          refine jx_iinc dX8_quickOn_108 rfl (v := nI (k + 1)) (nI_1 _) (by decide) ?_
          refine jx_goto 25 dX8_quickOn_111 (by decide) ?_
          have hp : W * rmod (((cN (T 1075 k) / W : Nat) : Int) + ay.toInt * day) H + rmod (((cN (T 1075 k) % W : Nat) : Int) + ax.toInt * day) W = qpos W H (cN (T 1075 k)) day ax.toInt ay.toInt := rfl
          have hpl := qpos_lt (W := W) (H := H) (cN (T 1075 k)) day ax.toInt ay.toInt (by omega) (by omega)
          have kk := ih h31
          rw [hp, bs_1 (by omega), bs_or]
          have e : bs (fun c => qOn W H (fun k => cN (T 1075 k)) day ax.toInt ay.toInt k c || decide (c = qpos W H (cN (T 1075 k)) day ax.toInt ay.toInt)) = bs (fun c => qOn W H (fun k => cN (T 1075 k)) day ax.toInt ay.toInt (k + 1) c) := bs_c (fun c _ => by
            show _ = (_ || decide (qpos W H (cN (T 1075 k)) day ax.toInt ay.toInt = c))
            congr 1
            exact decide_eq_decide.mpr ⟨Eq.symm, Eq.symm⟩)
          rw [e]
          exact jx_ls (by exact ⟨rfl, rfl, rfl, rfl, rfl, rfl, trivial⟩) kk
  rcases hs with rfl | rfl
  all_goals
    refine jx_lconst (v := 0) dX8_quickOn_0 (by decide) ?_
    refine jx_lstore dX8_quickOn_1 (by decide) ?_
    refine jx_aload_n dX8_quickOn_3 rfl ?_
    refine jx_getIE dX8_quickOn_4 flX8_22 rfl rfl (hsw) ?_
    refine jx_iconst (v := 1) dX8_quickOn_7 (by decide) ?_
    refine jx_icmpN_lt (a := W) (b := 1) 19 dX8_quickOn_8 (by decide) (by omega) (by omega) (fun h8 => ?_) (fun h8 => ?_)
    · exact absurd h8 (by omega)
    · refine jx_aload_n dX8_quickOn_11 rfl ?_
      refine jx_getIE dX8_quickOn_12 flX8_26 rfl rfl (hsd) ?_
      refine jx_iconst (v := 1) dX8_quickOn_15 (by decide) ?_
      refine jx_icmpN_ge (a := H) (b := 1) 22 dX8_quickOn_16 (by decide) (by omega) (by omega) (fun h16 => ?_) (fun h16 => ?_)
      · refine jx_iconst (v := 0) dX8_quickOn_22 (by decide) ?_
        refine jx_istore dX8_quickOn_23 (by decide) ?_
        have kk := key 0 (by omega)
        rw [show bs (fun c => qOn W H (fun k => cN (T 1075 k)) day ax.toInt ay.toInt 0 c) = (0 : Int64) from (bs_of (fun c _ => bt_0 c)).symm] at kk
        exact jx_ls (by exact ⟨rfl, rfl, rfl, rfl, rfl, rfl, trivial⟩) kk
      · exact absurd h16 (by omega)
end CA
