/-! THE REFERENCE: the days that each can cross on, heirs -/
def sn0 (I : Nat → Nat → Int32) (W H len p d : Nat) : Nat := arr I W H len d (I 1072 7) p 0 0
def cnD (I : Nat → Nat → Int32) (W H len p d : Nat) : Bool := decide (cN (I 1080 p) ≤ d) && !decide (sn0 I W H len p d = 1000)
def DYs (I J : Nat → Nat → Int32) (W H len N : Nat) : Prop := ∀ p d, d ≤ 40 → 41 * p + d < N → J 1099 (41 * p + d) = jb (cnD I W H len p d) ∧ (cN (I 1080 p) ≤ d → J 1100 (41 * p + d) = nI (sn0 I W H len p d))
theorem sn0_kp {I J : Nat → Nat → Int32} (h : kp I J) (W H len p d : Nat) : sn0 J W H len p d = sn0 I W H len p d := by
  unfold sn0; rw [arr_kp h, h 1072 (by omega) (by omega)]
theorem cnD_kp {I J : Nat → Nat → Int32} (h : kp I J) (W H len p d : Nat) : cnD J W H len p d = cnD I W H len p d := by
  unfold cnD; rw [sn0_kp h, h 1080 (by omega) (by omega)]
/-- by when one would inherit -/
def hKey (I : Nat → Nat → Int32) (W H len p : Nat) : Option Nat := (fnd (cnD I W H len p) 41).map (fun d => (96 * d + sn0 I W H len p d) * 6 + p)
theorem cnD_lt {I : Nat → Nat → Int32} {W H len p d : Nat} (h : cnD I W H len p d = true) : cN (I 1080 p) ≤ d ∧ ¬ sn0 I W H len p d = 1000 := by
  unfold cnD at h
  simp at h
  exact h
theorem eqP_s {I J : Nat → Nat → Int32} (h : eqP I J) : eqs I J := fun b j hb => by
  unfold scr at hb
  simp only [Bool.or_eq_false_iff, decide_eq_false_iff_not] at hb
  exact h b j (by omega) (by omega)
section RQ2
variable {w : jWD} {l : Launch} {n : Nat} {I J : Nat → Nat → Int32} {L : Nat → Nat → Int64} {R : Nat → Nat → Option Nat}

set_option maxHeartbeats 1000000 in
set_option maxRecDepth 20000 in
theorem tX11_tellDays (hW : jWok w l) (hR : RS R) {W H np len : Nat} (hI : RI I W H np len) : jRv w l mX11_tellDays 6 [.ref 1069] (n, shE, I, L, R) (fun t => ∃ K, t = (n, shE, K, L, R) ∧ eqs I K ∧ DYs I K W H len (41 * np)) := by
  refine jRv_of hW (by decide) rfl (Nat.le_of_ble_eq_true rfl) ?_
  have hT := hI.1.1
  have hz := hT.wh
  have hw3 := hT.2.2.1
  have hw9 := hT.2.2.2.1
  have hh1 := hT.2.2.2.2.1
  have hh7 := hT.2.2.2.2.2
  have hnp := hI.2.2.2.2.1.2
  have keyP : ∀ p, p ≤ np → ∀ J, eqs I J → DYs I J W H len (41 * p) → jWP w l mX11_tellDays 6 0 0 (fun v t => v = none ∧ (fun t => ∃ K, t = (n, shE, K, L, R) ∧ eqs I K ∧ DYs I K W H len (41 * np)) t) (fun _ _ => False) 2 [(0, .ref 1069), (1, .int (nI p))] [] (n, shE, J, L, R) := by
    refine jdown _ (fun p hp ih => ?_)
    have keyD : p < np → ∀ d, d ≤ 41 → ∀ J, eqs I J → DYs I J W H len (41 * p + d) → jWP w l mX11_tellDays 6 0 0 (fun v t => v = none ∧ (fun t => ∃ K, t = (n, shE, K, L, R) ∧ eqs I K ∧ DYs I K W H len (41 * np)) t) (fun _ _ => False) 15 [(0, .ref 1069), (1, .int (nI p)), (2, .int (nI d))] [] (n, shE, J, L, R) := by
      intro hpn
      obtain ⟨-, -, -, hk4, hk5, -⟩ := hI.2.2.2.2.2.1 p hpn
      have hwr : W * cN (I 1079 p) < W * H := Nat.mul_lt_mul_of_pos_left hk4.2 (by omega)
      have hd20 := hk5.2
      refine jdown _ (fun d hd ihd => ?_)
      intro J he hdy
      have hkp := eqs_kp he
      have hJ := hI.kp hkp
      have hal := fun t => arr_le I W H len d (I 1072 7) p 0 t
      refine jx_iload_n dX11_tellDays_15 rfl ?_
      refine jx_bipush (v := 40) dX11_tellDays_16 (by decide) ?_
      refine jx_icmpN_gt (a := d) (b := 40) 147 dX11_tellDays_18 (by decide) (by omega) (by omega) (fun h18 => ?_) (fun h18 => ?_)
      · refine jx_iinc dX11_tellDays_147 rfl (v := nI (p + 1)) (nI_1 _) (by decide) ?_
        refine jx_goto 2 dX11_tellDays_150 (by decide) ?_
        have hd41 : d = 41 := by omega
        subst hd41
        exact jx_ls (by exact ⟨rfl, rfl, trivial⟩) (ih hpn J he (fun p' d' h1 h2 => hdy p' d' h1 (by omega)))
      · refine jx_bipush (v := 41) dX11_tellDays_21 (by decide) ?_
        refine jx_iload_n dX11_tellDays_23 rfl ?_
        refine jx_imulE (z := nI (41 * p)) dX11_tellDays_24 (pk_mul 41 p) ?_
        refine jx_iload_n dX11_tellDays_25 rfl ?_
        refine jx_iaddE (z := nI ((41 * p) + d)) dX11_tellDays_26 (nI_add (41 * p) d) ?_
        refine jx_istore_n dX11_tellDays_27 rfl (by decide) ?_
        refine jx_aload_n dX11_tellDays_28 rfl ?_
        refine jx_getR dX11_tellDays_29 flX11_124 rfl rfl (hR _ _ _ rfl) ?_
        refine jx_iload_n dX11_tellDays_32 rfl ?_
        refine jx_iconst (v := 0) dX11_tellDays_33 (by decide) ?_
        refine jx_zastN (41 * p + d) dX11_tellDays_34 rfl (rfl) (by omega) (by omega) ?_
        refine jx_iload_n dX11_tellDays_35 rfl ?_
        refine jx_aload_n dX11_tellDays_36 rfl ?_
        refine jx_getR dX11_tellDays_37 flX11_59 rfl rfl (hR _ _ _ rfl) ?_
        refine jx_iload_n dX11_tellDays_40 rfl ?_
        refine jx_ialdE (p) dX11_tellDays_41 rfl (rfl) (by omega) (by omega) ((upI_nea' (by decide)).trans ((congrFun (hkp 1080 (by omega) (by omega)) p).trans hk5.1)) ?_
        refine jx_icmpN_ge (a := d) (b := (cN (I 1080 p))) 48 dX11_tellDays_42 (by decide) (by omega) (by omega) (fun h42 => ?_) (fun h42 => ?_)
        · have he1 : eqs I (upI J 1099 (41 * p + d) (0 &&& 1)) := eqs_u he (scrA (by decide) (by decide) _)
          have hJ1 := hI.kp (eqs_kp he1)
          refine jx_aload_n dX11_tellDays_48 rfl ?_
          refine jx_iload_n dX11_tellDays_49 rfl ?_
          refine jx_iload_n dX11_tellDays_50 rfl ?_
          refine jx_aload_n dX11_tellDays_51 rfl ?_
          refine jx_getR dX11_tellDays_52 flX11_34 rfl rfl (hR _ _ _ rfl) ?_
          refine jx_bipush (v := 7) dX11_tellDays_55 (by decide) ?_
          refine jx_ialdN (7) dX11_tellDays_57 rfl (rfl) (by omega) (by omega) ?_
          refine jx_iconst (v := 0) dX11_tellDays_58 (by decide) ?_
          refine jx_VRv (as := [.int _, .int _, .int _, .int _]) dX11_tellDays_59 mlX11_451 okX11_tellParty viX11_tellParty rfl rfl rfl rfl rfl (by decide) (Nat.le_of_ble_eq_true rfl) (tX11_tellPartyP (fog := 0) hW hR hJ1 hpn (by omega) (by omega) _) (fun t59 hq59 => ?_)
          obtain ⟨J2, rfl, he2, hts⟩ := hq59
          have heT := eqs_t he1 (eqP_s he2)
          have hkp2 := eqs_kp heT
          have hJ2 := hI.kp hkp2
          have hk1 := eqs_kp he1
          rw [hk1 1072 (by omega) (by omega), pcOf_kp hk1, mP_kp hk1] at hts
          have hdie := h42
          refine jx_aload_n dX11_tellDays_62 rfl ?_
          refine jx_getR dX11_tellDays_63 flX11_127 rfl rfl (hR _ _ _ rfl) ?_
          refine jx_iload_n dX11_tellDays_66 rfl ?_
          refine jx_sipush (v := 1000) dX11_tellDays_67 (by decide) ?_
          refine jx_iastN ((41 * p) + d) dX11_tellDays_70 rfl (rfl) (by omega) (by omega) ?_
          refine jx_iconst (v := 0) dX11_tellDays_71 (by decide) ?_
          refine jx_istore dX11_tellDays_72 (by decide) ?_
          have keyT : ∀ t, t ≤ 96 → jWP w l mX11_tellDays 6 0 0 (fun v t => v = none ∧ (fun t => ∃ K, t = (n, shE, K, L, R) ∧ eqs I K ∧ DYs I K W H len (41 * np)) t) (fun _ _ => False) 74 [(0, .ref 1069), (1, .int (nI p)), (2, .int (nI d)), (3, .int (nI (41 * p + d))), (4, .int (nI t))] [] (n, shE, upI J2 1100 (41 * p + d) (nI (if t = 0 then 1000 else sn0 I W H len p d)), L, R) := by
            refine jdown _ (fun t ht iht => ?_)
            have hJT : MT (upI J2 1100 (41 * p + d) (nI (if t = 0 then 1000 else sn0 I W H len p d))) W H := hJ2.1.1.of (funext fun j => upI_nea' (by decide))
            have halt := hal t
            have hal0 := hal 0
            have hb0 : (if t = 0 then 1000 else sn0 I W H len p d) ≤ 1000 := by split <;> first | exact Nat.le_refl _ | exact hal0
            refine jx_iload dX11_tellDays_74 rfl ?_
            refine jx_bipush (v := 96) dX11_tellDays_76 (by decide) ?_
            refine jx_icmpN_ge (a := t) (b := 96) 118 dX11_tellDays_78 (by decide) (by omega) (by omega) (fun h78 => ?_) (fun h78 => ?_)
            · refine jx_aload_n dX11_tellDays_118 rfl ?_
              refine jx_getR dX11_tellDays_119 flX11_124 rfl rfl (hR _ _ _ rfl) ?_
              refine jx_iload_n dX11_tellDays_122 rfl ?_
              refine jx_aload_n dX11_tellDays_123 rfl ?_
              refine jx_getR dX11_tellDays_124 flX11_127 rfl rfl (hR _ _ _ rfl) ?_
              refine jx_iload_n dX11_tellDays_127 rfl ?_
              refine jx_ialdE (41 * p + d) dX11_tellDays_128 rfl (rfl) (by omega) (by omega) (upI_s) ?_
              refine jx_sipush (v := 1000) dX11_tellDays_129 (by decide) ?_
              refine jx_icmpN_ge (a := ((if t = 0 then 1000 else sn0 I W H len p d))) (b := 1000) 139 dX11_tellDays_132 (by decide) (by omega) (by omega) (fun h132 => ?_) (fun h132 => ?_)
              · refine jx_iconst (v := 0) dX11_tellDays_139 (by decide) ?_
                refine jx_zastN (41 * p + d) dX11_tellDays_140 rfl (rfl) (by omega) (by omega) ?_
                refine jx_iinc dX11_tellDays_141 rfl (v := nI (d + 1)) (nI_1 _) (by decide) ?_
                refine jx_goto 15 dX11_tellDays_144 (by decide) ?_
                have ht96 : t = 96 := by omega
                subst ht96
                refine jx_ls (by exact ⟨rfl, rfl, rfl, trivial⟩) (ihd (by omega) _ (eqs_u (eqs_u heT (scrA (by decide) (by decide) _)) (scrA (by decide) (by decide) _)) (fun p' d' h1 h2 => ?_))
                by_cases e : 41 * p' + d' = 41 * p + d
                · have e1 : p = p' := by omega
                  have e2 : d = d' := by omega
                  subst e1 e2
                  refine ⟨?_, fun q => ?_⟩
                  · rw [upI_s]
                    unfold cnD
                    rw [decide_eq_true hdie]
                    have hh : ¬ (96 : Nat) = 0 := by decide
                    rw [if_neg hh] at h132
                    first | (rw [decide_eq_false (by omega)]; rfl) | (rw [decide_eq_true (by have : sn0 I W H len p d ≤ 1000 := hal0; omega)]; rfl)
                  · rw [upI_nea' (by decide), upI_s, if_neg (by decide)]
                · have hold := hdy p' d' h1 (by omega)
                  refine ⟨?_, fun q => ?_⟩
                  · rw [upI_j e, upI_nea' (by decide), he2 1099 _ (by omega) (by omega), upI_j e]; exact hold.1
                  · rw [upI_nea' (by decide), upI_j e, he2 1100 _ (by omega) (by omega), upI_nea' (by decide)]; exact hold.2 q
              · refine jx_iconst (v := 1) dX11_tellDays_135 (by decide) ?_
                refine jx_goto 140 dX11_tellDays_136 (by decide) ?_
                refine jx_zastN (41 * p + d) dX11_tellDays_140 rfl (rfl) (by omega) (by omega) ?_
                refine jx_iinc dX11_tellDays_141 rfl (v := nI (d + 1)) (nI_1 _) (by decide) ?_
                refine jx_goto 15 dX11_tellDays_144 (by decide) ?_
                have ht96 : t = 96 := by omega
                subst ht96
                refine jx_ls (by exact ⟨rfl, rfl, rfl, trivial⟩) (ihd (by omega) _ (eqs_u (eqs_u heT (scrA (by decide) (by decide) _)) (scrA (by decide) (by decide) _)) (fun p' d' h1 h2 => ?_))
                by_cases e : 41 * p' + d' = 41 * p + d
                · have e1 : p = p' := by omega
                  have e2 : d = d' := by omega
                  subst e1 e2
                  refine ⟨?_, fun q => ?_⟩
                  · rw [upI_s]
                    unfold cnD
                    rw [decide_eq_true hdie]
                    have hh : ¬ (96 : Nat) = 0 := by decide
                    rw [if_neg hh] at h132
                    first | (rw [decide_eq_false (by omega)]; rfl) | (rw [decide_eq_true (by have : sn0 I W H len p d ≤ 1000 := hal0; omega)]; rfl)
                  · rw [upI_nea' (by decide), upI_s, if_neg (by decide)]
                · have hold := hdy p' d' h1 (by omega)
                  refine ⟨?_, fun q => ?_⟩
                  · rw [upI_j e, upI_nea' (by decide), he2 1099 _ (by omega) (by omega), upI_j e]; exact hold.1
                  · rw [upI_nea' (by decide), upI_j e, he2 1100 _ (by omega) (by omega), upI_nea' (by decide)]; exact hold.2 q
            · refine jx_aload_n dX11_tellDays_81 rfl ?_
              refine jx_getR dX11_tellDays_82 flX11_127 rfl rfl (hR _ _ _ rfl) ?_
              refine jx_iload_n dX11_tellDays_85 rfl ?_
              refine jx_aload_n dX11_tellDays_86 rfl ?_
              refine jx_getR dX11_tellDays_87 flX11_127 rfl rfl (hR _ _ _ rfl) ?_
              refine jx_iload_n dX11_tellDays_90 rfl ?_
              refine jx_ialdE (41 * p + d) dX11_tellDays_91 rfl (rfl) (by omega) (by omega) (upI_s) ?_
              refine jx_aload_n dX11_tellDays_92 rfl ?_
              refine jx_getR dX11_tellDays_93 flX11_97 rfl rfl (hR _ _ _ rfl) ?_
              refine jx_bipush (v := 96) dX11_tellDays_96 (by decide) ?_
              refine jx_aload_n dX11_tellDays_98 rfl ?_
              refine jx_iload_n dX11_tellDays_99 rfl ?_
              refine jx_Vi (as := [.int _]) dX11_tellDays_100 mlX11_424 okX11_shoreOf viX11_shoreOf rfl rfl rfl rfl rfl (by decide) (Nat.le_of_ble_eq_true rfl) (tX11_shoreOf hW hR hJT (by omega) ((upI_nea' (by decide)).trans ((congrFun (hkp2 1079 (by omega) (by omega)) p).trans hk4.1))) ?_
              refine jx_imulE (z := nI (96 * (W * cN (I 1079 p)))) dX11_tellDays_103 (pk_mul 96 (W * cN (I 1079 p))) ?_
              refine jx_iload dX11_tellDays_104 rfl ?_
              refine jx_iaddE (z := nI ((96 * (W * cN (I 1079 p))) + t)) dX11_tellDays_106 (nI_add (96 * (W * cN (I 1079 p))) t) ?_
              refine jx_ialdE ((96 * (W * cN (I 1079 p))) + t) dX11_tellDays_107 rfl (rfl) (by omega) (by omega) ((upI_nea' (by decide)).trans (show J2 1091 (96 * (W * cN (I 1079 p)) + t) = nI (arr I W H len d (I 1072 7) p 0 t) from hts.2.2 (W * cN (I 1079 p)) t hwr h78)) ?_
              refine jx_Si (as := [.int _, .int _]) dX11_tellDays_108 mlX11_228 okJ9_min_7cf53 stJ9_min_7cf53 rfl rfl (by decide) (Nat.le_of_ble_eq_true rfl) (tJ9_min_7cf53 hW _ _ _) ?_
              rw [show (if nI (arr I W H len d (I 1072 7) p 0 t) < nI (if t = 0 then 1000 else sn0 I W H len p d) then nI (arr I W H len d (I 1072 7) p 0 t) else nI (if t = 0 then 1000 else sn0 I W H len p d)) = nI (if t + 1 = 0 then 1000 else sn0 I W H len p d) from by
                rw [if_neg (by omega : ¬ t + 1 = 0)]
                by_cases h0 : t = 0
                · subst h0
                  rw [if_pos rfl]
                  by_cases h1 : arr I W H len d (I 1072 7) p 0 0 < 1000
                  · rw [if_pos ((nI_ltI (by omega) (by omega)).mpr h1)]; rfl
                  · rw [if_neg (fun q => h1 ((nI_ltI (by omega) (by omega)).mp q))]
                    show nI 1000 = nI (sn0 I W H len p d)
                    congr 1
                    show 1000 = arr I W H len d (I 1072 7) p 0 0
                    omega
                · rw [if_neg h0]
                  have hmo := arr_mono hI hpn (fog := 0) (by omega) d (I 1072 7) t 0 (by omega)
                  rw [Nat.zero_add] at hmo
                  rw [if_neg (fun q => by have := (nI_ltI (a := arr I W H len d (I 1072 7) p 0 t) (b := sn0 I W H len p d) (by omega) (Nat.lt_of_le_of_lt hal0 (by decide))).mp q; have hmo2 : sn0 I W H len p d ≤ arr I W H len d (I 1072 7) p 0 t := hmo; omega)]]
              refine jx_iastN (41 * p + d) dX11_tellDays_111 rfl (rfl) (by omega) (by omega) ?_
              refine jx_iinc dX11_tellDays_112 rfl (v := nI (t + 1)) (nI_1 _) (by decide) ?_
              refine jx_goto 74 dX11_tellDays_115 (by decide) ?_
              rw [up_up]
              exact jx_ls (by exact ⟨rfl, rfl, rfl, rfl, rfl, trivial⟩) (iht h78)
          exact jx_ls (by exact ⟨rfl, rfl, rfl, rfl, rfl, trivial⟩) (keyT 0 (by omega))
        · refine jx_goto 141 dX11_tellDays_45 (by decide) ?_
          refine jx_iinc dX11_tellDays_141 rfl (v := nI (d + 1)) (nI_1 _) (by decide) ?_
          refine jx_goto 15 dX11_tellDays_144 (by decide) ?_
          refine jx_ls (by exact ⟨rfl, rfl, rfl, trivial⟩) (ihd (by omega) _ (eqs_u he (scrA (by decide) (by decide) _)) (fun p' d' h1 h2 => ?_))
          by_cases e : 41 * p' + d' = 41 * p + d
          · have e1 : p = p' := by omega
            have e2 : d = d' := by omega
            subst e1 e2
            refine ⟨?_, fun q => absurd q (by omega)⟩
            rw [upI_s]
            unfold cnD
            rw [decide_eq_false (by omega)]
            rfl
          · rw [upI_j e, upI_nea' (by decide)]
            exact hdy p' d' h1 (by omega)
    intro J he hdy
    refine jx_iload_n dX11_tellDays_2 rfl ?_
    refine jx_aload_n dX11_tellDays_3 rfl ?_
    refine jx_getR dX11_tellDays_4 flX11_34 rfl rfl (hR _ _ _ rfl) ?_
    refine jx_bipush (v := 10) dX11_tellDays_7 (by decide) ?_
    refine jx_ialdE (10) dX11_tellDays_9 rfl (rfl) (by omega) (by omega) ((congrFun (eqs_kp he 1072 (by omega) (by omega)) 10).trans hI.2.2.2.2.1.1) ?_
    refine jx_icmpN_ge (a := p) (b := np) 153 dX11_tellDays_10 (by decide) (by omega) (by omega) (fun h10 => ?_) (fun h10 => ?_)
    · refine jx_vret dX11_tellDays_153 rfl ?_
      have hpn : p = np := by omega
      subst hpn
      exact ⟨rfl, J, rfl, he, hdy⟩
    · refine jx_iconst (v := 0) dX11_tellDays_13 (by decide) ?_
      refine jx_istore_n dX11_tellDays_14 rfl (by decide) ?_
      exact jx_ls (by exact ⟨rfl, rfl, rfl, trivial⟩) (keyD h10 0 (by omega) J he hdy)
  refine jx_iconst (v := 0) dX11_tellDays_0 (by decide) ?_
  refine jx_istore_n dX11_tellDays_1 rfl (by decide) ?_
  exact jx_ls (by exact ⟨rfl, rfl, trivial⟩) (keyP 0 (by omega) I (eqs_r _) (fun p d h1 h2 => absurd h2 (by omega)))
end RQ2
