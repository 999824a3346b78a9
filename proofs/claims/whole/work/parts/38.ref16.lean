/-! THE REFERENCE: fogs -/
theorem pfx_mono (I : Nat → Nat → Int32) : ∀ {a b : Nat}, a ≤ b → pfx I a ≤ pfx I b
  | a, 0, h => by have : a = 0 := by omega
                  subst this; exact Nat.le_refl _
  | a, b + 1, h => by
    by_cases e : a = b + 1
    · subst e; exact Nat.le_refl _
    · exact Nat.le_trans (pfx_mono I (a := a) (b := b) (by omega)) (Nat.le_add_right _ _)
theorem pfx_pos {I : Nat → Nat → Int32} {W H np len : Nat} (hI : RI I W H np len) : 0 < pfx I 4 := by
  have := hI.2.2.2.2.2.2.2.2
  show 0 < 0 + cN (I 1072 12) + cN (I 1072 13) + cN (I 1072 14) + cN (I 1072 15)
  omega
theorem stf_eq {I : Nat → Nat → Int32} {x f : Nat} (hf : f < 4) (h1 : pfx I f ≤ x) (h2 : x < pfx I (f + 1)) : stf I x = f := by
  unfold stf
  rw [show fnd (fun f => decide (x < pfx I (f + 1))) 4 = some f from fnd_some.mpr ⟨hf, decide_eq_true h2, fun j hj => decide_eq_false (fun q => by
    have := pfx_mono I (a := j + 1) (b := f) (by omega)
    omega)⟩]
  rfl
theorem drw_le (v : Int32) : cN (drw v) ≤ 32767 := by
  have h := and_pos (v >>> (16 &&& 31))
  have h2 := cN_cast h.1
  have e : drw v = (v >>> (16 &&& 31)) &&& 32767 := rfl
  rw [e]
  omega
section RP
variable {w : jWD} {l : Launch} {n : Nat} {I J : Nat → Nat → Int32} {L : Nat → Nat → Int64} {R : Nat → Nat → Option Nat}

set_option maxHeartbeats 1000000 in
set_option maxRecDepth 20000 in
theorem tX11_fogsF (hW : jWok w l) (hR : RS R) {W H np len : Nat} (hI : RI I W H np len) (p tick v k : Int32) (hbad : ¬ (ltQ p np = true ∧ tickQ tick = true)) : jCD w l mX11_fogs 3 [.ref 1069, .int p, .int tick, .int v, .int k] (n, shE, I, L, R) (some (.int 0)) (n, shE, upI I 1069 2 1, L, R) := by
  refine jCD_of hW (by decide) rfl (Nat.le_of_ble_eq_true rfl) ?_
  have hI0 := hI.kp (k0 I)
  refine jx_aload_n dX11_fogs_0 rfl ?_
  refine jx_iconst (v := 0) dX11_fogs_1 (by decide) ?_
  refine jx_putI dX11_fogs_2 flX11_187 rfl rfl (fun r h => by cases h; rfl) ?_
  refine jx_aload_n dX11_fogs_5 rfl ?_
  refine jx_iload_n dX11_fogs_6 rfl ?_
  refine jx_Vi (as := [.int _]) dX11_fogs_7 mlX11_448 okX11_isParty viX11_isParty rfl rfl rfl rfl rfl (by decide) (Nat.le_of_ble_eq_true rfl) (tX11_isParty hW hR (hI0.2.2.2.2.1.1) hI0.2.2.2.2.1.2 _) ?_
  refine jx_ifB_eq 20 dX11_fogs_10 (by decide) (fun h10 => ?_) (fun h10 => ?_)
  · refine jx_aload_n dX11_fogs_20 rfl ?_
    refine jx_iconst (v := 1) dX11_fogs_21 (by decide) ?_
    refine jx_Vi (as := [.int _]) dX11_fogs_22 mlX11_351 okX11_fail viX11_fail rfl rfl rfl rfl rfl (by decide) (Nat.le_of_ble_eq_true rfl) (tX11_fail hW _) ?_
    refine jx_iret dX11_fogs_25 rfl ?_
    exact ⟨rfl, by rw [up_up]⟩
  · refine jx_iload_n dX11_fogs_13 rfl ?_
    refine jx_Si (as := [.int _]) dX11_fogs_14 mlX11_445 okX11_isTick stX11_isTick rfl rfl (by decide) (Nat.le_of_ble_eq_true rfl) (tX11_isTick hW _) ?_
    refine jx_ifB_ne 26 dX11_fogs_17 (by decide) (fun h17 => ?_) (fun h17 => ?_)
    · exact absurd ⟨h10, h17⟩ hbad
    · refine jx_aload_n dX11_fogs_20 rfl ?_
      refine jx_iconst (v := 1) dX11_fogs_21 (by decide) ?_
      refine jx_Vi (as := [.int _]) dX11_fogs_22 mlX11_351 okX11_fail viX11_fail rfl rfl rfl rfl rfl (by decide) (Nat.le_of_ble_eq_true rfl) (tX11_fail hW _) ?_
      refine jx_iret dX11_fogs_25 rfl ?_
      exact ⟨rfl, by rw [up_up]⟩
set_option maxHeartbeats 1000000 in
set_option maxRecDepth 20000 in
theorem tX11_fogsF2 (hW : jWok w l) (hR : RS R) {W H np len : Nat} (hI : RI I W H np len) {p tick : Nat} (v k : Int32) (hp : p < np) (ht : tick < 96) (hbad : ¬ (0 ≤ k.toInt ∧ k.toInt ≤ 40)) : jCD w l mX11_fogs 6 [.ref 1069, .int (nI p), .int (nI tick), .int v, .int k] (n, shE, I, L, R) (some (.int 0)) (n, shE, upI I 1069 2 2, L, R) := by
  refine jCD_of hW (by decide) rfl (Nat.le_of_ble_eq_true rfl) ?_
  have hI0 := hI.kp (k0 I)
  refine jx_aload_n dX11_fogs_0 rfl ?_
  refine jx_iconst (v := 0) dX11_fogs_1 (by decide) ?_
  refine jx_putI dX11_fogs_2 flX11_187 rfl rfl (fun r h => by cases h; rfl) ?_
  refine jx_aload_n dX11_fogs_5 rfl ?_
  refine jx_iload_n dX11_fogs_6 rfl ?_
  refine jx_Vi (as := [.int _]) dX11_fogs_7 mlX11_448 okX11_isParty viX11_isParty rfl rfl rfl rfl rfl (by decide) (Nat.le_of_ble_eq_true rfl) (tX11_isPartyT hW hR (hI0.2.2.2.2.1.1) hI0.2.2.2.2.1.2 hp) ?_
  refine jx_ifB_eq 20 dX11_fogs_10 (by decide) (fun h10 => by cases h10) (fun h10 => ?_)
  refine jx_iload_n dX11_fogs_13 rfl ?_
  refine jx_Si (as := [.int _]) dX11_fogs_14 mlX11_445 okX11_isTick stX11_isTick rfl rfl (by decide) (Nat.le_of_ble_eq_true rfl) (tX11_isTickT hW ht) ?_
  refine jx_ifB_ne 26 dX11_fogs_17 (by decide) (fun h17 => ?_) (fun h17 => by cases h17)
  refine jx_iload dX11_fogs_26 rfl ?_
  refine jx_i2l dX11_fogs_28 ?_
  refine jx_lconst (v := 0) dX11_fogs_29 (by decide) ?_
  refine jx_ldc2 dX11_fogs_30 ctX11_194 ?_
  refine jx_Si (as := [.long _, .long _, .long _]) dX11_fogs_33 mlX11_190 okX11_isIn stX11_isIn rfl rfl (by decide) (Nat.le_of_ble_eq_true rfl) (tX11_isInC hW 0 40 (by decide) (by decide) _) ?_
  refine jx_ifB_ne 45 dX11_fogs_36 (by decide) (fun h36 => ?_) (fun h36 => ?_)
  · exact absurd (of_decide_eq_true h36) hbad
  · refine jx_aload_n dX11_fogs_39 rfl ?_
    refine jx_iconst (v := 2) dX11_fogs_40 (by decide) ?_
    refine jx_Vi (as := [.int _]) dX11_fogs_41 mlX11_351 okX11_fail viX11_fail rfl rfl rfl rfl rfl (by decide) (Nat.le_of_ble_eq_true rfl) (tX11_fail hW _) ?_
    refine jx_iret dX11_fogs_44 rfl ?_
    exact ⟨rfl, by rw [up_up]⟩
set_option maxHeartbeats 1000000 in
set_option maxRecDepth 20000 in
theorem tX11_fogs (hW : jWok w l) (hR : RS R) {W H np len : Nat} (hI : RI I W H np len) {p tick N : Nat} (se : Int32) (hp : p < np) (ht : tick < 96) (hN : N ≤ 40) : jRi w l mX11_fogs 6 [.ref 1069, .int (nI p), .int (nI tick), .int (se), .int (nI N)] (n, shE, I, L, R) (fun r t => r = nI (cntN (fgT I W H len p tick se) N) ∧ ∃ J, t = (n, shE, J, L, R) ∧ eqs (upI I 1069 2 0) J) := by
  refine jRi_of hW (by decide) rfl (Nat.le_of_ble_eq_true rfl) ?_
  have hI0 := hI.kp (k0 I)
  have hT := hI0.1.1
  have hz := hT.wh
  have hw3 := hT.2.2.1
  have hw9 := hT.2.2.2.1
  have hh1 := hT.2.2.2.2.1
  have hh7 := hT.2.2.2.2.2
  have hnp := hI0.2.2.2.2.1.2
  refine jx_aload_n dX11_fogs_0 rfl ?_
  refine jx_iconst (v := 0) dX11_fogs_1 (by decide) ?_
  refine jx_putI dX11_fogs_2 flX11_187 rfl rfl (fun r h => by cases h; rfl) ?_
  refine jx_aload_n dX11_fogs_5 rfl ?_
  refine jx_iload_n dX11_fogs_6 rfl ?_
  refine jx_Vi (as := [.int _]) dX11_fogs_7 mlX11_448 okX11_isParty viX11_isParty rfl rfl rfl rfl rfl (by decide) (Nat.le_of_ble_eq_true rfl) (tX11_isPartyT hW hR (hI0.2.2.2.2.1.1) hI0.2.2.2.2.1.2 hp) ?_
  refine jx_ifB_eq 20 dX11_fogs_10 (by decide) (fun h10 => by cases h10) (fun h10 => ?_)
  refine jx_iload_n dX11_fogs_13 rfl ?_
  refine jx_Si (as := [.int _]) dX11_fogs_14 mlX11_445 okX11_isTick stX11_isTick rfl rfl (by decide) (Nat.le_of_ble_eq_true rfl) (tX11_isTickT hW ht) ?_
  refine jx_ifB_ne 26 dX11_fogs_17 (by decide) (fun h17 => ?_) (fun h17 => by cases h17)
  refine jx_iload dX11_fogs_26 rfl ?_
  refine jx_i2l dX11_fogs_28 ?_
  refine jx_lconst (v := 0) dX11_fogs_29 (by decide) ?_
  refine jx_ldc2 dX11_fogs_30 ctX11_194 ?_
  refine jx_Si (as := [.long _, .long _, .long _]) dX11_fogs_33 mlX11_190 okX11_isIn stX11_isIn rfl rfl (by decide) (Nat.le_of_ble_eq_true rfl) (tX11_isInC hW 0 40 (by decide) (by decide) _) ?_
  refine jx_ifB_ne 45 dX11_fogs_36 (by decide) (fun h36 => ?_) (fun h36 => ?_)
  · refine jx_aload_n dX11_fogs_45 rfl ?_
    refine jx_getR dX11_fogs_46 flX11_34 rfl rfl (hR _ _ _ rfl) ?_
    refine jx_bipush (v := 12) dX11_fogs_49 (by decide) ?_
    refine jx_ialdE (12) dX11_fogs_51 rfl (rfl) (by omega) (by omega) ((congrFun (k0 I 1072 (by omega) (by omega)) 12).trans (hI.2.2.2.2.2.2.2.1 0 (by omega)).1) ?_
    refine jx_aload_n dX11_fogs_52 rfl ?_
    refine jx_getR dX11_fogs_53 flX11_34 rfl rfl (hR _ _ _ rfl) ?_
    refine jx_bipush (v := 13) dX11_fogs_56 (by decide) ?_
    refine jx_ialdE (13) dX11_fogs_58 rfl (rfl) (by omega) (by omega) ((congrFun (k0 I 1072 (by omega) (by omega)) 13).trans (hI.2.2.2.2.2.2.2.1 1 (by omega)).1) ?_
    refine jx_iaddE (z := nI (pfx I 2)) dX11_fogs_59 (by rw [nI_add]; exact congrArg nI (by show wf I 0 + wf I 1 = 0 + wf I 0 + wf I 1; omega)) ?_
    refine jx_aload_n dX11_fogs_60 rfl ?_
    refine jx_getR dX11_fogs_61 flX11_34 rfl rfl (hR _ _ _ rfl) ?_
    refine jx_bipush (v := 14) dX11_fogs_64 (by decide) ?_
    refine jx_ialdE (14) dX11_fogs_66 rfl (rfl) (by omega) (by omega) ((congrFun (k0 I 1072 (by omega) (by omega)) 14).trans (hI.2.2.2.2.2.2.2.1 2 (by omega)).1) ?_
    refine jx_iaddE (z := nI (pfx I 3)) dX11_fogs_67 (by rw [nI_add]; exact congrArg nI (by show pfx I 2 + wf I 2 = pfx I 2 + wf I 2; omega)) ?_
    refine jx_aload_n dX11_fogs_68 rfl ?_
    refine jx_getR dX11_fogs_69 flX11_34 rfl rfl (hR _ _ _ rfl) ?_
    refine jx_bipush (v := 15) dX11_fogs_72 (by decide) ?_
    refine jx_ialdE (15) dX11_fogs_74 rfl (rfl) (by omega) (by omega) ((congrFun (k0 I 1072 (by omega) (by omega)) 15).trans (hI.2.2.2.2.2.2.2.1 3 (by omega)).1) ?_
    refine jx_iaddE (z := nI (pfx I 4)) dX11_fogs_75 (by rw [nI_add]; exact congrArg nI (by show pfx I 3 + wf I 3 = pfx I 3 + wf I 3; omega)) ?_
    refine jx_istore dX11_fogs_76 (by decide) ?_
    refine jx_iload_n dX11_fogs_78 rfl ?_
    refine jx_istore dX11_fogs_79 (by decide) ?_
    refine jx_iconst (v := 0) dX11_fogs_81 (by decide) ?_
    refine jx_istore dX11_fogs_82 (by decide) ?_
    refine jx_iconst (v := 0) dX11_fogs_84 (by decide) ?_
    refine jx_istore dX11_fogs_85 (by decide) ?_
    have hfw := hI.2.2.2.2.2.2.2.1
    have hpp := pfx_pos hI
    have hp36 := pfx_le hI 4 (by omega)
    have key : ∀ d, d ≤ N → ∀ J, eqs (upI I 1069 2 0) J → jWP w l mX11_fogs 6 0 0 (fun v t => ∃ r, v = some (.int r) ∧ (fun r t => r = nI (cntN (fgT I W H len p tick se) N) ∧ ∃ J, t = (n, shE, J, L, R) ∧ eqs (upI I 1069 2 0) J) r t) (fun _ _ => False) 87 [(0, .ref 1069), (1, .int (nI p)), (2, .int (nI tick)), (3, .int se), (4, .int (nI N)), (5, .int (nI (pfx I 4))), (6, .int (sd se d)), (7, .int (nI (cntN (fgT I W H len p tick se) d))), (8, .int (nI d))] [] (n, shE, J, L, R) := by
      refine jdown _ (fun d hd ih => ?_)
      intro J he
      have hkp := kp_t (k0 I) (eqs_kp he)
      have hJ := hI.kp hkp
      have hcl := cntN_le (fgT I W H len p tick se) d
      have hdr := drw_le (sd se (d + 1))
      obtain ⟨x, hx⟩ : ∃ x, x = cN (drw (sd se (d + 1))) % pfx I 4 := ⟨_, rfl⟩
      have hxl : x < pfx I 4 := by rw [hx]; exact Nat.mod_lt _ hpp
      have keyF : d < N → ∀ f, f ≤ 4 → pfx I f ≤ x → jWP w l mX11_fogs 6 0 0 (fun v t => ∃ r, v = some (.int r) ∧ (fun r t => r = nI (cntN (fgT I W H len p tick se) N) ∧ ∃ J, t = (n, shE, J, L, R) ∧ eqs (upI I 1069 2 0) J) r t) (fun _ _ => False) 123 [(0, .ref 1069), (1, .int (nI p)), (2, .int (nI tick)), (3, .int se), (4, .int (nI N)), (5, .int (nI (pfx I 4))), (6, .int (sd se (d + 1))), (7, .int (nI (cntN (fgT I W H len p tick se) d))), (8, .int (nI d)), (9, .int (nI (x - pfx I f))), (10, .int (nI f))] [] (n, shE, J, L, R) := by
        intro hdN
        refine jdown _ (fun f hf ihf => ?_)
        intro hpx
        have hf4 : f < 4 := by
          rcases Nat.lt_or_ge f 4 with z | z
          · exact z
          · have : f = 4 := by omega
            subst this
            omega
        have hwf9 : wf I f ≤ 9 := (hfw f hf4).2
        have hps : pfx I (f + 1) = pfx I f + wf I f := rfl
        refine jx_iload dX11_fogs_123 rfl ?_
        refine jx_aload_n dX11_fogs_125 rfl ?_
        refine jx_getR dX11_fogs_126 flX11_34 rfl rfl (hR _ _ _ rfl) ?_
        refine jx_bipush (v := 12) dX11_fogs_129 (by decide) ?_
        refine jx_iload dX11_fogs_131 rfl ?_
        refine jx_iaddE (z := nI (12 + f)) dX11_fogs_133 (nI_add 12 f) ?_
        refine jx_ialdE (12 + f) dX11_fogs_134 rfl (rfl) (by omega) (by omega) ((congrFun (hkp 1072 (by omega) (by omega)) (12 + f)).trans (hfw f hf4).1) ?_
        refine jx_icmpN_lt (a := (x - pfx I f)) (b := (wf I f)) 159 dX11_fogs_135 (by decide) (by omega) (by omega) (fun h135 => ?_) (fun h135 => ?_)
        · refine jx_aload_n dX11_fogs_159 rfl ?_
          refine jx_iload_n dX11_fogs_160 rfl ?_
          refine jx_iload dX11_fogs_161 rfl ?_
          refine jx_aload_n dX11_fogs_163 rfl ?_
          refine jx_getR dX11_fogs_164 flX11_34 rfl rfl (hR _ _ _ rfl) ?_
          refine jx_bipush (v := 7) dX11_fogs_167 (by decide) ?_
          refine jx_ialdN (7) dX11_fogs_169 rfl (rfl) (by omega) (by omega) ?_
          refine jx_iload dX11_fogs_170 rfl ?_
          refine jx_VRv (as := [.int _, .int _, .int _, .int _]) dX11_fogs_172 mlX11_451 okX11_tellParty viX11_tellParty rfl rfl rfl rfl rfl (by decide) (Nat.le_of_ble_eq_true rfl) (tX11_tellParty (fog := f) hW hR hJ hp (by omega) (by omega) _) (fun t172 hq172 => ?_)
          obtain ⟨J2, rfl, he2, hts⟩ := hq172
          have hal := arr_le I W H len d (I 1072 7) p f tick
          refine jx_iload dX11_fogs_175 rfl ?_
          refine jx_aload_n dX11_fogs_177 rfl ?_
          refine jx_iload_n dX11_fogs_178 rfl ?_
          refine jx_iload_n dX11_fogs_179 rfl ?_
          refine jx_Vi (as := [.int _, .int _]) dX11_fogs_180 mlX11_454 okX11_arrives viX11_arrives rfl rfl rfl rfl rfl (by decide) (Nat.le_of_ble_eq_true rfl) (tX11_arrivesP hW hR hJ he2 hts hp ht) ?_
          rw [arr_kp hkp, hkp 1072 (by omega) (by omega)]
          refine jx_iconst (v := -1) dX11_fogs_183 (by decide) ?_
          refine jx_icmp_ne 191 dX11_fogs_184 (by decide) (fun h184 => ?_) (fun h184 => ?_)
          · refine jx_iconst (v := 1) dX11_fogs_191 (by decide) ?_
            refine jx_iaddE (z := nI ((cntN (fgT I W H len p tick se) d) + 1)) dX11_fogs_192 (nI_add (cntN (fgT I W H len p tick se) d) 1) ?_
            refine jx_istore dX11_fogs_193 (by decide) ?_
            refine jx_iinc dX11_fogs_195 rfl (v := nI (d + 1)) (nI_1 _) (by decide) ?_
            refine jx_goto 87 dX11_fogs_198 (by decide) ?_
            have hsf : stf I (cN (drw (sd se (d + 1))) % pfx I 4) = f := by rw [← hx]; exact stf_eq hf4 hpx (by omega)
            have hg : (fgT I W H len p tick se) d = true := by
              unfold fgT
              rw [hsf]
              exact decide_eq_true (fun q => h184 ((aI_m (by omega)).mpr q))
            have kk := ih hdN _ (eqs_t he he2)
            rw [show cntN (fgT I W H len p tick se) (d + 1) = cntN (fgT I W H len p tick se) d + 1 from by
              show cntN (fgT I W H len p tick se) d + (if (fgT I W H len p tick se) d = true then 1 else 0) = _
              rw [hg]; rfl] at kk
            exact jx_ls (by exact ⟨rfl, rfl, rfl, rfl, rfl, rfl, rfl, rfl, rfl, trivial⟩) kk
          · refine jx_iconst (v := 0) dX11_fogs_187 (by decide) ?_
            refine jx_goto 192 dX11_fogs_188 (by decide) ?_
            refine jx_iaddE (z := nI ((cntN (fgT I W H len p tick se) d) + 0)) dX11_fogs_192 (nI_add (cntN (fgT I W H len p tick se) d) 0) ?_
            refine jx_istore dX11_fogs_193 (by decide) ?_
            refine jx_iinc dX11_fogs_195 rfl (v := nI (d + 1)) (nI_1 _) (by decide) ?_
            refine jx_goto 87 dX11_fogs_198 (by decide) ?_
            have hsf : stf I (cN (drw (sd se (d + 1))) % pfx I 4) = f := by rw [← hx]; exact stf_eq hf4 hpx (by omega)
            have hg : (fgT I W H len p tick se) d = false := by
              unfold fgT
              rw [hsf]
              exact decide_eq_false (fun q => q ((aI_m (by omega)).mp h184))
            have kk := ih hdN _ (eqs_t he he2)
            rw [show cntN (fgT I W H len p tick se) (d + 1) = cntN (fgT I W H len p tick se) d + 0 from by
              show cntN (fgT I W H len p tick se) d + (if (fgT I W H len p tick se) d = true then 1 else 0) = _
              rw [hg]; rfl] at kk
            exact jx_ls (by exact ⟨rfl, rfl, rfl, rfl, rfl, rfl, rfl, rfl, rfl, trivial⟩) kk
        · refine jx_iload dX11_fogs_138 rfl ?_
          refine jx_aload_n dX11_fogs_140 rfl ?_
          refine jx_getR dX11_fogs_141 flX11_34 rfl rfl (hR _ _ _ rfl) ?_
          refine jx_bipush (v := 12) dX11_fogs_144 (by decide) ?_
          refine jx_iload dX11_fogs_146 rfl ?_
          refine jx_iaddE (z := nI (12 + f)) dX11_fogs_148 (nI_add 12 f) ?_
          refine jx_ialdE (12 + f) dX11_fogs_149 rfl (rfl) (by omega) (by omega) ((congrFun (hkp 1072 (by omega) (by omega)) (12 + f)).trans (hfw f hf4).1) ?_
          refine jx_isubE (z := nI ((x - pfx I f) - (wf I f))) dX11_fogs_150 (pk_sub (a := (x - pfx I f)) (b := (wf I f)) (by omega)) ?_
          refine jx_istore dX11_fogs_151 (by decide) ?_
          refine jx_iinc dX11_fogs_153 rfl (v := nI (f + 1)) (nI_1 _) (by decide) ?_
          refine jx_goto 123 dX11_fogs_156 (by decide) ?_
          have kk := ihf (by omega) (by omega)
          rw [show x - pfx I (f + 1) = x - pfx I f - wf I f by omega] at kk
          exact jx_ls (by exact ⟨rfl, rfl, rfl, rfl, rfl, rfl, rfl, rfl, rfl, rfl, rfl, trivial⟩) kk
      refine jx_iload dX11_fogs_87 rfl ?_
      refine jx_iload dX11_fogs_89 rfl ?_
      refine jx_icmpN_ge (a := d) (b := N) 201 dX11_fogs_91 (by decide) (by omega) (by omega) (fun h91 => ?_) (fun h91 => ?_)
      · refine jx_iload dX11_fogs_201 rfl ?_
        refine jx_iret dX11_fogs_203 rfl ?_
        have hdN : d = N := by omega
        subst hdN
        exact ⟨_, rfl, rfl, _, rfl, he⟩
      · refine jx_iload dX11_fogs_94 rfl ?_
        refine jx_ldcw dX11_fogs_96 ctX11_520 ?_
        refine jx_imul dX11_fogs_99 ?_
        refine jx_sipush (v := 12345) dX11_fogs_100 (by decide) ?_
        refine jx_iadd dX11_fogs_103 ?_
        refine jx_istore dX11_fogs_104 (by decide) ?_
        refine jx_iload dX11_fogs_106 rfl ?_
        refine jx_bipush (v := 16) dX11_fogs_108 (by decide) ?_
        refine jx_ishr dX11_fogs_110 ?_
        refine jx_sipush (v := 32767) dX11_fogs_111 (by decide) ?_
        refine jx_iandE (z := nI (cN (drw (sd se (d + 1))))) dX11_fogs_114 (nI_cN (and_pos _).1) ?_
        refine jx_iload dX11_fogs_115 rfl ?_
        refine jx_iremE (z := nI ((cN (drw (sd se (d + 1)))) % (pfx I 4))) dX11_fogs_117 (nI_ne0 (n := (pfx I 4)) (by omega) (by omega)) (pk_rem (a := (cN (drw (sd se (d + 1))))) (d := (pfx I 4)) (by omega) (by omega) (by omega)) ?_
        refine jx_istore dX11_fogs_118 (by decide) ?_
        refine jx_iconst (v := 0) dX11_fogs_120 (by decide) ?_
        refine jx_istore dX11_fogs_121 (by decide) ?_
        rw [← hx]
        have kk := keyF h91 0 (by omega) (by show 0 ≤ x; omega)
        exact jx_ls (by exact ⟨rfl, rfl, rfl, rfl, rfl, rfl, rfl, rfl, rfl, rfl, rfl, trivial⟩) kk
    exact jx_ls (by exact ⟨rfl, rfl, rfl, rfl, rfl, rfl, rfl, rfl, rfl, trivial⟩) (key 0 (by omega) _ (eqs_r _))
  · exfalso
    have h3 := of_decide_eq_false h36
    rw [nI_toInt (by omega)] at h3
    omega
end RP
