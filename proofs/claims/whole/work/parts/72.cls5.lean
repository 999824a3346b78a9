/-! THE CLASS: a crossing is prepared -/
def Prep (J : Nat → Nat → Int32) (M : Nat → Nat → Int64) (W H home pace : Nat) (m : Nat → Nat → Bool) : Prop := J 1040 7 = nI home ∧ J 1040 8 = nI pace ∧ ∀ t, t < 96 → M 1043 t = bs (fun c => decide (c < W * H) && m c t)
theorem mx1 {X : Nat} (h1 : 1 ≤ X) (h2 : X < 2 ^ 31) : (if (1 : Int32) < nI X then nI X else 1) = nI X := by
  by_cases h : (1 : Int32) < nI X
  · rw [if_pos h]
  · rw [if_neg h]
    have h3 := Int32.not_lt.mp h
    rw [Int32.le_iff_toInt_le, nI_toInt h2, show (1 : Int32).toInt = 1 from by decide] at h3
    have : X = 1 := by omega
    rw [this]; rfl
section CE1
variable {w : jWD} {l : Launch} {n : Nat} {I : Nat → Nat → Int32} {L : Nat → Nat → Int64} {R : Nat → Nat → Option Nat}

set_option maxHeartbeats 1000000 in
set_option maxRecDepth 20000 in
theorem tX0_prepare (hW : jWok w l) (hR : RS R) {h : Nat} {T : Nat → Nat → Int32} {W H np len : Nat} (hC : CF I L R h T W H np len) {p kind day fog : Nat} (hp : p < np) (hk : kind < 4) (hd : day ≤ 40) (wind : Int32) (hf : fog ≤ 3) : jRv w l mX0_prepare 5 [.ref 1040, .int (nI p), .int (nI kind), .int (nI day), .int wind, .int (nI fog)] (n, shE, I, L, R) (fun t => ∃ J M, t = (n, shE, J, M, R) ∧ eqC I J ∧ eqCL L M ∧ CF J M R h T W H np len ∧ Prep J M W H (W * cN (T 1079 p)) (paceOf kind (cN (T 1077 p)) fog) (mK T W H len day wind kind (cN (T 1078 p)))) := by
  refine jRv_of hW (by decide) rfl (Nat.le_of_ble_eq_true rfl) ?_
  have hC0 := hC
  obtain ⟨⟨hh, hRi⟩, hI, hRI, hok, hFL, hSK⟩ := hC
  have hrl := hRI.2.2.2.2.2.2.1
  have hpp := hRI.2.2.2.2.2.1 p hp
  obtain ⟨hp0, ⟨hp1, hp1a, hp1b⟩, ⟨hp2, hp2a⟩, ⟨hp3, hp3a⟩, -, -⟩ := hpp
  have hp6 : p < 6 := Nat.lt_of_lt_of_le hp hRI.2.2.2.2.1.2
  have hT := RI.tq hRI
  have hw := hT.1
  have hhh := hT.2.1
  have hrw : W * cN (T 1079 p) < 63 := by
    have h1 : W * (cN (T 1079 p) + 1) ≤ W * H := Nat.mul_le_mul_left W hp3a
    have h2 : W * H ≤ 63 := Nat.mul_le_mul hw.2 hhh.2
    rw [Nat.mul_add, Nat.mul_one] at h1
    omega
  have key : ∀ (J0 : Nat → Nat → Int32) (M0 : Nat → Nat → Int64), eqC I J0 → eqCL L M0 → CF J0 M0 R h T W H np len → bt (M0 1040 2) day = true → J0 1040 7 = nI (W * cN (T 1079 p)) → J0 1040 8 = nI (paceOf kind (cN (T 1077 p)) fog) → ∀ t, t ≤ 96 → ∀ (J : Nat → Nat → Int32) (M : Nat → Nat → Int64) (bf : Int32), eqx [1015, 1031] J0 J → (∀ b j, b ≠ 1043 → M b j = M0 b j) → (∀ k, k < t → M 1043 k = bs (safF T W H day (wlev (T 1082) len day k wind) kind (cN (T 1078 p)))) → (0 < t → bf = nI (wlev (T 1082) len day (t - 1) wind)) → jWP w l mX0_prepare 5 0 0 (fun v t => v = none ∧ ∃ J M, t = (n, shE, J, M, R) ∧ eqC I J ∧ eqCL L M ∧ CF J M R h T W H np len ∧ Prep J M W H (W * cN (T 1079 p)) (paceOf kind (cN (T 1077 p)) fog) (mK T W H len day wind kind (cN (T 1078 p)))) (fun _ _ => False) 92 [(0, .ref 1040), (1, .int (nI p)), (2, .int (nI kind)), (3, .int (nI day)), (4, .int wind), (5, .int (nI fog)), (6, .ref (h + 1)), (7, .ref (h + 10 + p)), (8, .long (bs (frmF T W H day (cN (T 1078 p))))), (10, .int bf), (11, .int (nI t))] [] (n, shE, J, M, R) := by
    intro J0 M0 e0 e1 hC1 hb0 hho hst
    refine jdown _ (fun t ht ih => ?_)
    intro J M bf hJ hM hv hbf
    have heC : eqC J0 J := eqx_C hJ (by intro b hb j; simp at hb; rcases hb with rfl | rfl <;> rfl)
    have heM : eqCL M0 M := fun b j hb => hM b j (fun q => by rw [q] at hb; cases hb)
    have hC2 : CF J M R h T W H np len := CF_k hC1 heC heM (fun k => hJ 1041 k (by decide)) (fun k => hJ 1042 k (by decide)) (hM 1040 2 (by decide))
    have hb2 : bt (M 1040 2) day = true := by rw [hM 1040 2 (by decide)]; exact hb0
    have key141 : t < 96 → ∀ (J3 : Nat → Nat → Int32), eqx [1015, 1031] J0 J3 → jWP w l mX0_prepare 5 0 0 (fun v t => v = none ∧ ∃ J M, t = (n, shE, J, M, R) ∧ eqC I J ∧ eqCL L M ∧ CF J M R h T W H np len ∧ Prep J M W H (W * cN (T 1079 p)) (paceOf kind (cN (T 1077 p)) fog) (mK T W H len day wind kind (cN (T 1078 p)))) (fun _ _ => False) 141 [(0, .ref 1040), (1, .int (nI p)), (2, .int (nI kind)), (3, .int (nI day)), (4, .int wind), (5, .int (nI fog)), (6, .ref (h + 1)), (7, .ref (h + 10 + p)), (8, .long (bs (frmF T W H day (cN (T 1078 p))))), (10, .int bf), (11, .int (nI t))] [.int (nI (wlev (T 1082) len day t wind))] (n, shE, J3, M, R) := by
      intro ht96 J3 hJ3
      have heC3 : eqC J0 J3 := eqx_C hJ3 (by intro b hb j; simp at hb; rcases hb with rfl | rfl <;> rfl)
      have hC3 : CF J3 M R h T W H np len := CF_k hC1 heC3 heM (fun k => hJ3 1041 k (by decide)) (fun k => hJ3 1042 k (by decide)) (hM 1040 2 (by decide))
      have hwl := wlev_le (T 1082) len day t wind
      have nx : ∀ (M4 : Nat → Nat → Int64), M4 = upL M 1043 t (bs (safF T W H day (wlev (T 1082) len day t wind) kind (cN (T 1078 p)))) → jWP w l mX0_prepare 5 0 0 (fun v t => v = none ∧ ∃ J M, t = (n, shE, J, M, R) ∧ eqC I J ∧ eqCL L M ∧ CF J M R h T W H np len ∧ Prep J M W H (W * cN (T 1079 p)) (paceOf kind (cN (T 1077 p)) fog) (mK T W H len day wind kind (cN (T 1078 p)))) (fun _ _ => False) 92 [(0, .ref 1040), (1, .int (nI p)), (2, .int (nI kind)), (3, .int (nI day)), (4, .int wind), (5, .int (nI fog)), (6, .ref (h + 1)), (7, .ref (h + 10 + p)), (8, .long (bs (frmF T W H day (cN (T 1078 p))))), (10, .int (nI (wlev (T 1082) len day t wind))), (11, .int (nI (t + 1)))] [] (n, shE, J3, M4, R) := by
        intro M4 e4
        subst e4
        refine ih ht96 J3 _ _ hJ3 (fun b j hb => by rw [upL_nea hb]; exact hM b j hb) (fun k hk => ?_) (fun _ => rfl)
        by_cases z : k = t
        · rw [z, upL_same]
        · rw [upL_ne (fun q => z q.2)]; exact hv k (by omega)
      rcases hh with rfl | rfl
      all_goals
      refine jx_istore dX0_prepare_141 (by decide) ?_
      refine jx_aload_n dX0_prepare_143 rfl ?_
      refine jx_getR dX0_prepare_144 flX0_19 rfl rfl (hR _ _ _ rfl) ?_
      refine jx_iload dX0_prepare_147 rfl ?_
      refine jx_iload dX0_prepare_149 rfl ?_
      refine jx_iload dX0_prepare_151 rfl ?_
      refine jx_icmp_ne 173 dX0_prepare_153 (by decide) (fun h153 => ?_) (fun h153 => ?_)
      · refine jx_aload dX0_prepare_173 rfl ?_
        refine jx_iload_n dX0_prepare_175 rfl ?_
        refine jx_aload dX0_prepare_176 rfl ?_
        refine jx_getIE dX0_prepare_178 flX0_124 (by first | exact shPa _ hp6 | exact shPb _ hp6) rfl ((hC3.2.1.2.2.1.2 p 2 hp (by decide)).trans hp2) ?_
        refine jx_iload dX0_prepare_181 rfl ?_
        refine jx_lload dX0_prepare_183 rfl ?_
        refine jx_Vl (as := [.int _, .int _, .int _, .long _]) dX0_prepare_185 mlX0_130 okX8_safeFor viX8_safeFor rfl rfl rfl rfl rfl (by decide) (Nat.le_of_ble_eq_true rfl) (tX8_safeFor hW hR (by decide) hC3.2.1.1 hT hk (by omega) (by omega)) ?_
        refine jx_lastN (t) dX0_prepare_188 rfl (rfl) (by omega) (by omega) ?_
        refine jx_iload dX0_prepare_189 rfl ?_
        refine jx_istore dX0_prepare_191 (by decide) ?_
        refine jx_iinc dX0_prepare_193 rfl (v := nI (t + 1)) (nI_1 _) (by decide) ?_
        refine jx_goto 92 dX0_prepare_196 (by decide) ?_
        exact jx_ls (by exact ⟨rfl, rfl, rfl, rfl, rfl, rfl, rfl, rfl, rfl, rfl, rfl, trivial⟩) (nx _ rfl)
      · refine jx_iload dX0_prepare_156 rfl ?_
        refine jx_ifN_le (a := t) 173 dX0_prepare_158 (by decide) (by omega) (fun h158 => ?_) (fun h158 => ?_)
        · refine jx_aload dX0_prepare_173 rfl ?_
          refine jx_iload_n dX0_prepare_175 rfl ?_
          refine jx_aload dX0_prepare_176 rfl ?_
          refine jx_getIE dX0_prepare_178 flX0_124 (by first | exact shPa _ hp6 | exact shPb _ hp6) rfl ((hC3.2.1.2.2.1.2 p 2 hp (by decide)).trans hp2) ?_
          refine jx_iload dX0_prepare_181 rfl ?_
          refine jx_lload dX0_prepare_183 rfl ?_
          refine jx_Vl (as := [.int _, .int _, .int _, .long _]) dX0_prepare_185 mlX0_130 okX8_safeFor viX8_safeFor rfl rfl rfl rfl rfl (by decide) (Nat.le_of_ble_eq_true rfl) (tX8_safeFor hW hR (by decide) hC3.2.1.1 hT hk (by omega) (by omega)) ?_
          refine jx_lastN (t) dX0_prepare_188 rfl (rfl) (by omega) (by omega) ?_
          refine jx_iload dX0_prepare_189 rfl ?_
          refine jx_istore dX0_prepare_191 (by decide) ?_
          refine jx_iinc dX0_prepare_193 rfl (v := nI (t + 1)) (nI_1 _) (by decide) ?_
          refine jx_goto 92 dX0_prepare_196 (by decide) ?_
          exact jx_ls (by exact ⟨rfl, rfl, rfl, rfl, rfl, rfl, rfl, rfl, rfl, rfl, rfl, trivial⟩) (nx _ rfl)
        · have hlt : 0 < t := h158
          refine jx_aload_n dX0_prepare_161 rfl ?_
          refine jx_getR dX0_prepare_162 flX0_19 rfl rfl (hR _ _ _ rfl) ?_
          refine jx_iload dX0_prepare_165 rfl ?_
          refine jx_iconst (v := 1) dX0_prepare_167 (by decide) ?_
          refine jx_isubE (z := nI (t - 1)) dX0_prepare_168 (pk_sub (a := t) (b := 1) (by omega)) ?_
          refine jx_laldE (t - 1) dX0_prepare_169 rfl (rfl) (by omega) (by omega) (hv (t - 1) (by omega)) ?_
          have hsame : wlev (T 1082) len day t wind = wlev (T 1082) len day (t - 1) wind := by
            have q := hbf hlt
            have q2 := h153.trans q
            have q3 := congrArg cN q2
            have hwl2 := wlev_le (T 1082) len day (t - 1) wind
            rw [cN_nI (by omega), cN_nI (by omega)] at q3
            exact q3
          rw [show bs (safF T W H day (wlev (T 1082) len day (t - 1) wind) kind (cN (T 1078 p))) = bs (safF T W H day (wlev (T 1082) len day t wind) kind (cN (T 1078 p))) from by rw [hsame]]
          refine jx_goto 188 dX0_prepare_170 (by decide) ?_
          refine jx_lastN (t) dX0_prepare_188 rfl (rfl) (by omega) (by omega) ?_
          refine jx_iload dX0_prepare_189 rfl ?_
          refine jx_istore dX0_prepare_191 (by decide) ?_
          refine jx_iinc dX0_prepare_193 rfl (v := nI (t + 1)) (nI_1 _) (by decide) ?_
          refine jx_goto 92 dX0_prepare_196 (by decide) ?_
          exact jx_ls (by exact ⟨rfl, rfl, rfl, rfl, rfl, rfl, rfl, rfl, rfl, rfl, rfl, trivial⟩) (nx _ rfl)
    rcases hh with rfl | rfl
    all_goals
      refine jx_iload dX0_prepare_92 rfl ?_
      refine jx_bipush (v := 96) dX0_prepare_94 (by decide) ?_
      refine jx_icmpN_ge (a := t) (b := 96) 199 dX0_prepare_96 (by decide) (by omega) (by omega) (fun h96 => ?_) (fun h96 => ?_)
      · refine jx_vret dX0_prepare_199 rfl ?_
        have ht96 : t = 96 := by omega
        subst ht96
        refine ⟨rfl, J, M, rfl, eqC_t e0 heC, eqCL_t e1 heM, hC2, (hJ 1040 7 (by decide)).trans hho, (hJ 1040 8 (by decide)).trans hst, fun t ht => ?_⟩
        rw [hv t ht]
        rfl
      · have h96 : t < 96 := by omega
        refine jx_iload dX0_prepare_99 rfl ?_
        refine jx_aload_n dX0_prepare_101 rfl ?_
        refine jx_getR dX0_prepare_102 flX0_29 rfl rfl hRi ?_
        refine jx_getIE dX0_prepare_105 flX0_57 rfl rfl (hC2.2.1.2.2.2.1.2.1) ?_
        refine jx_icmp_ne 126 dX0_prepare_108 (by decide) (fun h108 => ?_) (fun h108 => ?_)
        · refine jx_aload_n dX0_prepare_126 rfl ?_
          refine jx_getR dX0_prepare_127 flX0_29 rfl rfl hRi ?_
          refine jx_getR dX0_prepare_130 flX0_51 rfl rfl (hR _ _ _ rfl) ?_
          refine jx_iload_n dX0_prepare_133 rfl ?_
          refine jx_iload dX0_prepare_134 rfl ?_
          refine jx_iload dX0_prepare_136 rfl ?_
          refine jx_VRi (as := [.int _, .int _, .int _]) dX0_prepare_138 mlX0_61 okX6_level viX6_level rfl rfl rfl rfl rfl (by decide) (Nat.le_of_ble_eq_true rfl) (tX6_level hW hR (r := _) (by decide) hC2.2.1.2.1 hrl.2.1 hrl.2.2.1 hok hrl.2.2.2 hd h96 wind) (fun x138 t138 hq138 => ?_)
          obtain ⟨rfl, J2, rfl, he2⟩ := hq138
          first | exact key141 h96 J hJ | exact key141 h96 J2 (eqx_t hJ (eqx_m he2 (by intro b hb; simp at hb; subst hb; decide)))
        · refine jx_aload_n dX0_prepare_111 rfl ?_
          refine jx_getR dX0_prepare_112 flX0_9 rfl rfl (hR _ _ _ rfl) ?_
          refine jx_iload_n dX0_prepare_115 rfl ?_
          refine jx_bipush (v := 96) dX0_prepare_116 (by decide) ?_
          refine jx_imulE (z := nI (day * 96)) dX0_prepare_118 (pk_mul day 96) ?_
          refine jx_iload dX0_prepare_119 rfl ?_
          refine jx_iaddE (z := nI ((day * 96) + t)) dX0_prepare_121 (nI_add (day * 96) t) ?_
          refine jx_baldE ((day * 96) + t) dX0_prepare_122 rfl (rfl) (by omega) (by omega) (hC2.2.2.2.2.1 day hd hb2 t h96) ?_
          rw [← h108]
          refine jx_goto 141 dX0_prepare_123 (by decide) ?_
          first | exact key141 h96 J hJ | exact key141 h96 J2 (eqx_t hJ (eqx_m he2 (by intro b hb; simp at hb; subst hb; decide)))
  have hI1 : CIs (upI I 1040 7 (nI (W * cN (T 1079 p)))) L h T W H np len := CIs_e hh hRI.2.2.2.2.1.2 hI (eqC_u (eqC_r I) rfl) (eqCL_r L)
  have hC3 : CF (upI (upI I 1040 7 (nI (W * cN (T 1079 p)))) 1040 8 (nI (paceOf kind (cN (T 1077 p)) fog))) L R h T W H np len := CF_k hC0 (eqC_u (eqC_u (eqC_r I) rfl) rfl) (eqCL_r L) (fun k => by rw [upI_nea (by decide), upI_nea (by decide)]) (fun k => by rw [upI_nea (by decide), upI_nea (by decide)]) rfl
  have hI2 := hC3.2.1
  rcases hh with rfl | rfl
  all_goals
    refine jx_aload_n dX0_prepare_0 rfl ?_
    refine jx_getR dX0_prepare_1 flX0_29 rfl rfl hRi ?_
    refine jx_getR dX0_prepare_4 flX0_87 rfl rfl (hR _ _ _ rfl) ?_
    refine jx_astore dX0_prepare_7 (by decide) ?_
    refine jx_aload_n dX0_prepare_9 rfl ?_
    refine jx_getR dX0_prepare_10 flX0_29 rfl rfl hRi ?_
    refine jx_getR dX0_prepare_13 flX0_67 rfl rfl (hR _ _ _ rfl) ?_
    refine jx_iload_n dX0_prepare_16 rfl ?_
    refine jx_aald5N (p) dX0_prepare_17 rfl (rfl) (by omega) (by decide) (hR _ _ _ (by first | exact rtPa _ hp6 | exact rtPb _ hp6)) ?_
    refine jx_astore dX0_prepare_18 (by decide) ?_
    refine jx_aload_n dX0_prepare_20 rfl ?_
    refine jx_aload dX0_prepare_21 rfl ?_
    refine jx_getIE dX0_prepare_23 flX0_109 rfl rfl (hI.1.1.1) ?_
    refine jx_aload dX0_prepare_26 rfl ?_
    refine jx_getIE dX0_prepare_28 flX0_112 (by first | exact shPa _ hp6 | exact shPb _ hp6) rfl ((hI.2.2.1.2 p 3 hp (by decide)).trans hp3) ?_
    refine jx_imulE (z := nI (W * (cN (T 1079 p)))) dX0_prepare_31 (pk_mul W (cN (T 1079 p))) ?_
    refine jx_putI dX0_prepare_32 flX0_100 rfl rfl (fun r h => by cases h; rfl) ?_
    refine jx_aload_n dX0_prepare_35 rfl ?_
    refine jx_iconst (v := 1) dX0_prepare_36 (by decide) ?_
    refine jx_iload_n dX0_prepare_37 rfl ?_
    refine jx_iconst (v := 3) dX0_prepare_38 (by decide) ?_
    refine jx_icmpN_ne (a := kind) (b := 3) 54 dX0_prepare_39 (by decide) (by omega) (by omega) (fun h39 => ?_) (fun h39 => ?_)
    · skip
      refine jx_aload dX0_prepare_54 rfl ?_
      refine jx_getIE dX0_prepare_56 flX0_115 (by first | exact shPa _ hp6 | exact shPb _ hp6) rfl ((hI1.2.2.1.2 p 1 hp (by decide)).trans hp1) ?_
      refine jx_iload dX0_prepare_59 rfl ?_
      refine jx_iaddE (z := nI ((cN (T 1077 p)) + fog)) dX0_prepare_61 (nI_add (cN (T 1077 p)) fog) ?_
      refine jx_Si (as := [.int _, .int _]) dX0_prepare_62 mlX0_118 okJ9_max_7cf53 stJ9_max_7cf53 rfl rfl (by decide) (Nat.le_of_ble_eq_true rfl) (tJ9_max_7cf53 hW _ _ _) ?_
      rw [show (if (1 : Int32) < nI (cN (T 1077 p) + fog) then nI (cN (T 1077 p) + fog) else 1) = nI (paceOf kind (cN (T 1077 p)) fog) from (mx1 (by omega) (by omega)).trans (by unfold paceOf; rw [if_neg h39])]
      refine jx_putI dX0_prepare_65 flX0_106 rfl rfl (fun r h => by cases h; rfl) ?_
      refine jx_aload dX0_prepare_68 rfl ?_
      refine jx_aload dX0_prepare_70 rfl ?_
      refine jx_getIE dX0_prepare_72 flX0_124 (by first | exact shPa _ hp6 | exact shPb _ hp6) rfl ((hI2.2.2.1.2 p 2 hp (by decide)).trans hp2) ?_
      refine jx_iload_n dX0_prepare_75 rfl ?_
      refine jx_Vl (as := [.int _, .int _]) dX0_prepare_76 mlX0_127 okX8_firmFor viX8_firmFor rfl rfl rfl rfl rfl (by decide) (Nat.le_of_ble_eq_true rfl) (tX8_firmFor hW hR (by decide) hI2.1 hT hd (by omega)) ?_
      refine jx_lstore dX0_prepare_79 (by decide) ?_
      refine jx_aload_n dX0_prepare_81 rfl ?_
      refine jx_iload_n dX0_prepare_82 rfl ?_
      refine jx_VRv (as := [.int _]) dX0_prepare_83 mlX0_43 okX0_learnLevels viX0_learnLevels rfl rfl rfl rfl rfl (by decide) (Nat.le_of_ble_eq_true rfl) (tX0_learnLevels hW hR hC3 hd) (fun t83 hq83 => ?_)
      obtain ⟨J0, M0, rfl, he0, hM0, hC4, hb0⟩ := hq83
      have heC0 := eqx_C he0 (by intro b hb j; simp at hb; rcases hb with rfl | rfl | rfl <;> rfl)
      refine jx_iconst (v := -1) dX0_prepare_86 (by decide) ?_
      refine jx_istore dX0_prepare_87 (by decide) ?_
      refine jx_iconst (v := 0) dX0_prepare_89 (by decide) ?_
      refine jx_istore dX0_prepare_90 (by decide) ?_
      exact jx_ls (by exact ⟨rfl, rfl, rfl, rfl, rfl, rfl, rfl, rfl, rfl, rfl, rfl, trivial⟩) (key J0 M0 (eqC_t (eqC_u (eqC_u (eqC_r I) rfl) rfl) heC0) (fun b j hb => hM0 b j (fun q => by rw [q.1, q.2] at hb; exact absurd hb (by decide))) hC4 hb0 ((he0 1040 7 (by decide)).trans (by rw [upI_j (by decide), upI_s])) ((he0 1040 8 (by decide)).trans upI_s) 0 (by omega) J0 M0 (-1) (eqx_r _ _) (fun _ _ _ => rfl) (fun k hk => absurd hk (by omega)) (fun q => absurd q (by omega)))
    · skip
      refine jx_aload dX0_prepare_42 rfl ?_
      refine jx_getIE dX0_prepare_44 flX0_115 (by first | exact shPa _ hp6 | exact shPb _ hp6) rfl ((hI1.2.2.1.2 p 1 hp (by decide)).trans hp1) ?_
      refine jx_iconst (v := 1) dX0_prepare_47 (by decide) ?_
      refine jx_iaddE (z := nI ((cN (T 1077 p)) + 1)) dX0_prepare_48 (nI_add (cN (T 1077 p)) 1) ?_
      refine jx_iconst (v := 2) dX0_prepare_49 (by decide) ?_
      refine jx_idivE (z := nI (((cN (T 1077 p)) + 1) / 2)) dX0_prepare_50 (nI_ne0 (n := 2) (by omega) (by omega)) (pk_div (a := ((cN (T 1077 p)) + 1)) (d := 2) (by omega) (by omega) (by omega)) ?_
      refine jx_goto 59 dX0_prepare_51 (by decide) ?_
      refine jx_iload dX0_prepare_59 rfl ?_
      refine jx_iaddE (z := nI ((((cN (T 1077 p)) + 1) / 2) + fog)) dX0_prepare_61 (nI_add (((cN (T 1077 p)) + 1) / 2) fog) ?_
      refine jx_Si (as := [.int _, .int _]) dX0_prepare_62 mlX0_118 okJ9_max_7cf53 stJ9_max_7cf53 rfl rfl (by decide) (Nat.le_of_ble_eq_true rfl) (tJ9_max_7cf53 hW _ _ _) ?_
      rw [show (if (1 : Int32) < nI ((cN (T 1077 p) + 1) / 2 + fog) then nI ((cN (T 1077 p) + 1) / 2 + fog) else 1) = nI (paceOf kind (cN (T 1077 p)) fog) from (mx1 (by omega) (by omega)).trans (by unfold paceOf; rw [if_pos h39])]
      refine jx_putI dX0_prepare_65 flX0_106 rfl rfl (fun r h => by cases h; rfl) ?_
      refine jx_aload dX0_prepare_68 rfl ?_
      refine jx_aload dX0_prepare_70 rfl ?_
      refine jx_getIE dX0_prepare_72 flX0_124 (by first | exact shPa _ hp6 | exact shPb _ hp6) rfl ((hI2.2.2.1.2 p 2 hp (by decide)).trans hp2) ?_
      refine jx_iload_n dX0_prepare_75 rfl ?_
      refine jx_Vl (as := [.int _, .int _]) dX0_prepare_76 mlX0_127 okX8_firmFor viX8_firmFor rfl rfl rfl rfl rfl (by decide) (Nat.le_of_ble_eq_true rfl) (tX8_firmFor hW hR (by decide) hI2.1 hT hd (by omega)) ?_
      refine jx_lstore dX0_prepare_79 (by decide) ?_
      refine jx_aload_n dX0_prepare_81 rfl ?_
      refine jx_iload_n dX0_prepare_82 rfl ?_
      refine jx_VRv (as := [.int _]) dX0_prepare_83 mlX0_43 okX0_learnLevels viX0_learnLevels rfl rfl rfl rfl rfl (by decide) (Nat.le_of_ble_eq_true rfl) (tX0_learnLevels hW hR hC3 hd) (fun t83 hq83 => ?_)
      obtain ⟨J0, M0, rfl, he0, hM0, hC4, hb0⟩ := hq83
      have heC0 := eqx_C he0 (by intro b hb j; simp at hb; rcases hb with rfl | rfl | rfl <;> rfl)
      refine jx_iconst (v := -1) dX0_prepare_86 (by decide) ?_
      refine jx_istore dX0_prepare_87 (by decide) ?_
      refine jx_iconst (v := 0) dX0_prepare_89 (by decide) ?_
      refine jx_istore dX0_prepare_90 (by decide) ?_
      exact jx_ls (by exact ⟨rfl, rfl, rfl, rfl, rfl, rfl, rfl, rfl, rfl, rfl, rfl, trivial⟩) (key J0 M0 (eqC_t (eqC_u (eqC_u (eqC_r I) rfl) rfl) heC0) (fun b j hb => hM0 b j (fun q => by rw [q.1, q.2] at hb; exact absurd hb (by decide))) hC4 hb0 ((he0 1040 7 (by decide)).trans (by rw [upI_j (by decide), upI_s])) ((he0 1040 8 (by decide)).trans upI_s) 0 (by omega) J0 M0 (-1) (eqx_r _ _) (fun _ _ _ => rfl) (fun k hk => absurd hk (by omega)) (fun q => absurd q (by omega)))
end CE1
