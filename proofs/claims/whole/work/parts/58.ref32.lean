/-! THE REFERENCE: things -/
section RF1
variable {w : jWD} {l : Launch} {n : Nat} {I J : Nat → Nat → Int32} {L : Nat → Nat → Int64} {R : Nat → Nat → Option Nat}

set_option maxHeartbeats 1000000 in
set_option maxRecDepth 20000 in
theorem tX11_readThing (hW : jWok w l) (hR : RS R) {sz b bp W H np len : Nat} {tp : Nat → Nat} {T : Nat → Nat → Int32} (hP : P3 I sz tp (b, 0, bp)) (hT : TL I T) (hB : BT T W H np len) {k : Nat} (hk : k = 2 ∨ k = 3 ∨ k = 4) : jRv w l mX11_readThing 5 [.ref 1069, .int (nI k)] (n, shE, I, L, R) (fun t => ∃ J, t = (n, shE, J, L, R) ∧ eqL I J ∧ P3 J sz tp (liThg tp sz k (b, 0, bp) T).1 ∧ ((liThg tp sz k (b, 0, bp) T).1.2.1 = 0 → TL J (liThg tp sz k (b, 0, bp) T).2)) := by
  refine jRv_of hW (by decide) rfl (Nat.le_of_ble_eq_true rfl) ?_
  have hM := hB.1.1.1
  have hw0 : I 1072 17 = nI W := (hT.g 1072 0 rfl rfl).trans hM.1
  have hh0 : I 1072 18 = nI H := (hT.g 1072 1 rfl rfl).trans hM.2.1
  have hwh := hM.wh
  obtain ⟨hMw, hMh, hw3, hw9, hh1, hh7⟩ := hM
  have hcw : cN (T 1072 0) = W := by rw [hMw]; exact cN_nI (by omega)
  have hch : cN (T 1072 1) = H := by rw [hMh]; exact cN_nI (by omega)
  have hct : vCl tp sz W H (stX tp sz (b, 0, bp)) < W * H := vCl_lt (by omega) hh1
  have htk : T 1072 k = nI (cN (T 1072 k)) ∧ cN (T 1072 k) ≤ 12 := by
    rcases hk with h | h | h
    · exact hB.2.1 k (Or.inl h)
    · exact hB.2.1 k (Or.inr h)
    · rw [h]; exact hB.1.1.2.1
  have htlk : tlR 1072 k = true := decide_eq_true (by omega)
  unfold liThg
  rw [hcw, hch]
  refine jx_aload_n dX11_readThing_0 rfl ?_
  refine jx_getR dX11_readThing_1 flX11_34 rfl rfl (hR _ _ _ rfl) ?_
  refine jx_bipush (v := 17) dX11_readThing_4 (by decide) ?_
  refine jx_iload_n dX11_readThing_6 rfl ?_
  refine jx_iaddE (z := nI (17 + k)) dX11_readThing_7 (nI_add 17 k) ?_
  refine jx_ialdE (17 + k) dX11_readThing_8 rfl (rfl) (by omega) (by omega) ((hT.g 1072 k htlk rfl).trans htk.1) ?_
  refine jx_bipush (v := 12) dX11_readThing_9 (by decide) ?_
  refine jx_icmpN_ne (a := (cN (T 1072 k))) (b := 12) 19 dX11_readThing_11 (by decide) (by omega) (by omega) (fun h11 => ?_) (fun h11 => ?_)
  · refine jx_aload_n dX11_readThing_19 rfl ?_
    refine jx_getIE dX11_readThing_20 flX11_240 rfl rfl (hP.1.2.2.2.1) ?_
    refine jx_ifN_eq (a := 0) 27 dX11_readThing_23 (by decide) (by decide) (fun h23 => ?_) (fun h23 => absurd h23 (by decide))
    refine jx_aload_n dX11_readThing_27 rfl ?_
    refine jx_VRv (as := []) dX11_readThing_28 mlX11_265 okX11_stepOn viX11_stepOn rfl rfl rfl rfl rfl (by decide) (Nat.le_of_ble_eq_true rfl) (tX11_stepOn hW hR hP.1.1 hP.1.2.1.1 (tEnd_le hP.1.2.2.1).2) (fun t28 hq28 => ?_)
    obtain ⟨J1, rfl, he1, hts⟩ := hq28
    have hP1 : P3 J1 sz tp (nxt tp sz b, 0, bp) := P3_step hP he1 hts
    refine jx_aload_n dX11_readThing_31 rfl ?_
    refine jx_VRi (as := []) dX11_readThing_32 mlX11_308 okX11_cellNow viX11_cellNow rfl rfl rfl rfl rfl (by decide) (Nat.le_of_ble_eq_true rfl) (tX11_cellNow (b := nxt tp sz b) (bd := 0) (bp := bp) hW hR hP1 (((eqT_n he1) 1072 17 (by decide)).trans hw0) (((eqT_n he1) 1072 18 (by decide)).trans hh0) (by omega) hw9 hh1 hh7) (fun x32 t32 hq32 => ?_)
    obtain ⟨rfl, J2, rfl, he2, hP2⟩ := hq32
    have hT2 : TL J2 T := TL_n (TL_n hT (eqT_n he1)) he2
    have hL2 : eqL I J2 := eqL_t (eqN_L (eqT_n he1)) (eqN_L he2)
    have hP2 : P3 J2 sz tp (pCl tp sz W H (stX tp sz (b, 0, bp))) := hP2
    have hx5 : (pCl tp sz W H (stX tp sz (b, 0, bp))).2.1 ≤ 5 := hP2.1.2.2.2.2
    have hbd2 : J2 1069 24 = nI (pCl tp sz W H (stX tp sz (b, 0, bp))).2.1 := hP2.1.2.2.2.1
    change jWP _ _ _ _ _ _ _ _ _ _ (.int (nI (vCl tp sz W H (stX tp sz (b, 0, bp)))) :: _) _
    generalize hcc : vCl tp sz W H (stX tp sz (b, 0, bp)) = c at hct ⊢
    generalize hxx : pCl tp sz W H (stX tp sz (b, 0, bp)) = x2 at hP2 hx5 hbd2 ⊢
    refine jx_istore_n dX11_readThing_35 rfl (by decide) ?_
    refine jx_aload_n dX11_readThing_36 rfl ?_
    refine jx_getIE dX11_readThing_37 flX11_240 rfl rfl (hbd2) ?_
    refine jx_ifN_eq (a := x2.2.1) 44 dX11_readThing_40 (by decide) (by omega) (fun h40 => ?_) (fun h40 => ?_)
    · rw [if_neg h11, if_neg (fun q => q h40)]
      have hc63 : c < 63 := by omega
      have hw4 : P3 (wrg J2 x2.2.1 4) sz tp (x2.1, 4, x2.1) := by have q := P3_wr hP2 (k := 4) (by omega) (by omega); unfold pWr at q; rw [if_pos h40] at q; exact q
      have ht : tkn T k c = true → jWP w l mX11_readThing 5 0 0 (fun v t => v = none ∧ ∃ J, t = (n, shE, J, L, R) ∧ eqL I J ∧ P3 J sz tp (if tkn T k c = true then (pWr 4 x2, T) else (stX tp sz x2, upI (if k = 4 then upI T 1075 (cN (T 1072 4)) (nI c) else upI T 1074 c (nI (k - 1))) 1072 k (nI (cN (T 1072 k) + 1)))).1 ∧ ((if tkn T k c = true then (pWr 4 x2, T) else (stX tp sz x2, upI (if k = 4 then upI T 1075 (cN (T 1072 4)) (nI c) else upI T 1074 c (nI (k - 1))) 1072 k (nI (cN (T 1072 k) + 1)))).1.2.1 = 0 → TL J (if tkn T k c = true then (pWr 4 x2, T) else (stX tp sz x2, upI (if k = 4 then upI T 1075 (cN (T 1072 4)) (nI c) else upI T 1074 c (nI (k - 1))) 1072 k (nI (cN (T 1072 k) + 1)))).2)) (fun _ _ => False) 139 [(0, .ref 1069), (1, .int (nI k)), (2, .int (nI c))] [] (n, shE, wrg J2 x2.2.1 4, L, R) := by
        intro htk1
        refine jx_aload_n dX11_readThing_139 rfl ?_
        refine jx_getIE dX11_readThing_140 flX11_240 rfl rfl (hw4.1.2.2.2.1) ?_
        refine jx_ifN_eq (a := 4) 147 dX11_readThing_143 (by decide) (by decide) (fun h143 => absurd h143 (by decide)) (fun h143 => ?_)
        refine jx_vret dX11_readThing_146 rfl ?_
        rw [if_pos htk1]
        refine ⟨rfl, _, rfl, eqL_t hL2 (eqN_L (wrg_n _ _)), ?_, fun q => ?_⟩
        · show P3 _ sz tp (pWr 4 x2); exact P3_wr hP2 (by omega) (by omega)
        · have q2 : (pWr 4 x2).2.1 = 0 := q
          unfold pWr at q2; rw [if_pos h40] at q2; cases q2
      have hf : tkn T k c = false → jWP w l mX11_readThing 5 0 0 (fun v t => v = none ∧ ∃ J, t = (n, shE, J, L, R) ∧ eqL I J ∧ P3 J sz tp (if tkn T k c = true then (pWr 4 x2, T) else (stX tp sz x2, upI (if k = 4 then upI T 1075 (cN (T 1072 4)) (nI c) else upI T 1074 c (nI (k - 1))) 1072 k (nI (cN (T 1072 k) + 1)))).1 ∧ ((if tkn T k c = true then (pWr 4 x2, T) else (stX tp sz x2, upI (if k = 4 then upI T 1075 (cN (T 1072 4)) (nI c) else upI T 1074 c (nI (k - 1))) 1072 k (nI (cN (T 1072 k) + 1)))).1.2.1 = 0 → TL J (if tkn T k c = true then (pWr 4 x2, T) else (stX tp sz x2, upI (if k = 4 then upI T 1075 (cN (T 1072 4)) (nI c) else upI T 1074 c (nI (k - 1))) 1072 k (nI (cN (T 1072 k) + 1)))).2)) (fun _ _ => False) 139 [(0, .ref 1069), (1, .int (nI k)), (2, .int (nI c))] [] (n, shE, J2, L, R) := by
        intro htk1
        have htk1 : ¬ tkn T k c = true := by rw [htk1]; decide
        refine jx_aload_n dX11_readThing_139 rfl ?_
        refine jx_getIE dX11_readThing_140 flX11_240 rfl rfl (hbd2) ?_
        refine jx_ifN_eq (a := x2.2.1) 147 dX11_readThing_143 (by decide) (by omega) (fun h143 => ?_) (fun h143 => ?_)
        · refine jx_aload_n dX11_readThing_147 rfl ?_
          refine jx_VRv (as := []) dX11_readThing_148 mlX11_265 okX11_stepOn viX11_stepOn rfl rfl rfl rfl rfl (by decide) (Nat.le_of_ble_eq_true rfl) (tX11_stepOn hW hR hP2.1.1 hP2.1.2.1.1 (tEnd_le hP2.1.2.2.1).2) (fun t148 hq148 => ?_)
          obtain ⟨J3, rfl, he3, hts3⟩ := hq148
          have hP3 : P3 J3 sz tp (stX tp sz x2) := P3_step (b := x2.1) (bd := x2.2.1) (bp := x2.2.2) hP2 he3 hts3
          have hT3 : TL J3 T := TL_n hT2 (eqT_n he3)
          refine jx_iload_n dX11_readThing_151 rfl ?_
          refine jx_iconst (v := 4) dX11_readThing_152 (by decide) ?_
          refine jx_icmpN_ne (a := k) (b := 4) 175 dX11_readThing_153 (by decide) (by omega) (by omega) (fun h153 => ?_) (fun h153 => ?_)
          · refine jx_aload_n dX11_readThing_175 rfl ?_
            refine jx_getR dX11_readThing_176 flX11_41 rfl rfl (hR _ _ _ rfl) ?_
            refine jx_bipush (v := 63) dX11_readThing_179 (by decide) ?_
            refine jx_iload_n dX11_readThing_181 rfl ?_
            refine jx_iaddE (z := nI (63 + c)) dX11_readThing_182 (nI_add 63 c) ?_
            refine jx_iload_n dX11_readThing_183 rfl ?_
            refine jx_iconst (v := 1) dX11_readThing_184 (by decide) ?_
            refine jx_isubE (z := nI (k - 1)) dX11_readThing_185 (pk_sub (a := k) (b := 1) (by omega)) ?_
            refine jx_iastN (63 + c) dX11_readThing_186 rfl (rfl) (by omega) (by omega) ?_
            refine jx_aload_n dX11_readThing_187 rfl ?_
            refine jx_getR dX11_readThing_188 flX11_34 rfl rfl (hR _ _ _ rfl) ?_
            refine jx_bipush (v := 17) dX11_readThing_191 (by decide) ?_
            refine jx_iload_n dX11_readThing_193 rfl ?_
            refine jx_iaddE (z := nI (17 + k)) dX11_readThing_194 (nI_add 17 k) ?_
            refine jx_dup2 dX11_readThing_195 rfl rfl ?_
            refine jx_ialdE (17 + k) dX11_readThing_196 rfl (rfl) (by omega) (by omega) ((upI_nea (by decide)).trans ((hT3.g 1072 k htlk rfl).trans htk.1)) ?_
            refine jx_iconst (v := 1) dX11_readThing_197 (by decide) ?_
            refine jx_iaddE (z := nI ((cN (T 1072 k)) + 1)) dX11_readThing_198 (nI_add (cN (T 1072 k)) 1) ?_
            refine jx_iastN (17 + k) dX11_readThing_199 rfl (rfl) (by omega) (by omega) ?_
            refine jx_vret dX11_readThing_200 rfl ?_
            rw [if_neg htk1, if_neg h153]
            refine ⟨rfl, _, rfl, eqL_u (eqL_u (eqL_t hL2 (eqN_L (eqT_n he3))) (decide_eq_true (by omega))) (decide_eq_true (by omega)), P3_u (P3_u hP3 (by decide) (by decide)) (by decide) (by decide), fun _ => ?_⟩
            exact TL_uk (TL_uk hT3 1074 (c) _ rfl) 1072 k _ rfl
          · have h4l := hB.1.1.2.1.2
            have hlt12 : cN (T 1072 4) < 12 := by rw [h153] at h11; omega
            refine jx_aload_n dX11_readThing_156 rfl ?_
            refine jx_getR dX11_readThing_157 flX11_44 rfl rfl (hR _ _ _ rfl) ?_
            refine jx_bipush (v := 12) dX11_readThing_160 (by decide) ?_
            refine jx_aload_n dX11_readThing_162 rfl ?_
            refine jx_getR dX11_readThing_163 flX11_34 rfl rfl (hR _ _ _ rfl) ?_
            refine jx_bipush (v := 21) dX11_readThing_166 (by decide) ?_
            refine jx_ialdE (21) dX11_readThing_168 rfl (rfl) (by omega) (by omega) ((hT3.g 1072 4 rfl rfl).trans hB.1.1.2.1.1) ?_
            refine jx_iaddE (z := nI (12 + (cN (T 1072 4)))) dX11_readThing_169 (nI_add 12 (cN (T 1072 4))) ?_
            refine jx_iload_n dX11_readThing_170 rfl ?_
            refine jx_iastN (12 + (cN (T 1072 4))) dX11_readThing_171 rfl (rfl) (by omega) (by omega) ?_
            refine jx_goto 187 dX11_readThing_172 (by decide) ?_
            refine jx_aload_n dX11_readThing_187 rfl ?_
            refine jx_getR dX11_readThing_188 flX11_34 rfl rfl (hR _ _ _ rfl) ?_
            refine jx_bipush (v := 17) dX11_readThing_191 (by decide) ?_
            refine jx_iload_n dX11_readThing_193 rfl ?_
            refine jx_iaddE (z := nI (17 + k)) dX11_readThing_194 (nI_add 17 k) ?_
            refine jx_dup2 dX11_readThing_195 rfl rfl ?_
            refine jx_ialdE (17 + k) dX11_readThing_196 rfl (rfl) (by omega) (by omega) ((upI_nea (by decide)).trans ((hT3.g 1072 k htlk rfl).trans htk.1)) ?_
            refine jx_iconst (v := 1) dX11_readThing_197 (by decide) ?_
            refine jx_iaddE (z := nI ((cN (T 1072 k)) + 1)) dX11_readThing_198 (nI_add (cN (T 1072 k)) 1) ?_
            refine jx_iastN (17 + k) dX11_readThing_199 rfl (rfl) (by omega) (by omega) ?_
            refine jx_vret dX11_readThing_200 rfl ?_
            rw [if_neg htk1, if_pos h153]
            refine ⟨rfl, _, rfl, eqL_u (eqL_u (eqL_t hL2 (eqN_L (eqT_n he3))) (decide_eq_true (by omega))) (decide_eq_true (by omega)), P3_u (P3_u hP3 (by decide) (by decide)) (by decide) (by decide), fun _ => ?_⟩
            exact TL_uk (TL_uk hT3 1075 (cN (T 1072 4)) _ rfl) 1072 k _ rfl
        · exact absurd h40 h143
      by_cases hk4 : k = 4
      · have hn4 := hB.1.1.2.1
        have htkn : tkn T k c = anyN (fun q => decide (T 1075 q = nI c)) (cN (T 1072 4)) := by unfold tkn; rw [if_pos hk4]
        have key : ∀ q, q ≤ cN (T 1072 4) → jWP w l mX11_readThing 5 0 0 (fun v t => v = none ∧ ∃ J, t = (n, shE, J, L, R) ∧ eqL I J ∧ P3 J sz tp (if tkn T k c = true then (pWr 4 x2, T) else (stX tp sz x2, upI (if k = 4 then upI T 1075 (cN (T 1072 4)) (nI c) else upI T 1074 c (nI (k - 1))) 1072 k (nI (cN (T 1072 k) + 1)))).1 ∧ ((if tkn T k c = true then (pWr 4 x2, T) else (stX tp sz x2, upI (if k = 4 then upI T 1075 (cN (T 1072 4)) (nI c) else upI T 1074 c (nI (k - 1))) 1072 k (nI (cN (T 1072 k) + 1)))).1.2.1 = 0 → TL J (if tkn T k c = true then (pWr 4 x2, T) else (stX tp sz x2, upI (if k = 4 then upI T 1075 (cN (T 1072 4)) (nI c) else upI T 1074 c (nI (k - 1))) 1072 k (nI (cN (T 1072 k) + 1)))).2)) (fun _ _ => False) 51 [(0, .ref 1069), (1, .int (nI k)), (2, .int (nI c)), (3, .int (nI q))] [] (n, shE, if anyN (fun q => decide (T 1075 q = nI c)) q = true then wrg J2 x2.2.1 4 else J2, L, R) := by
          refine jdown _ (fun q hq ih => ?_)
          have hPq : ∀ j, prsF 1072 j = false → (if anyN (fun q => decide (T 1075 q = nI c)) q = true then wrg J2 x2.2.1 4 else J2) 1072 j = J2 1072 j := fun j hj => by split; exact wrg_n _ _ 1072 j hj; rfl
          have hPr : ∀ j, (if anyN (fun q => decide (T 1075 q = nI c)) q = true then wrg J2 x2.2.1 4 else J2) 1075 j = J2 1075 j := fun j => by split; exact wrg_n _ _ 1075 j (prsF_9 (by decide)); rfl
          refine jx_iload_n dX11_readThing_51 rfl ?_
          refine jx_aload_n dX11_readThing_52 rfl ?_
          refine jx_getR dX11_readThing_53 flX11_34 rfl rfl (hR _ _ _ rfl) ?_
          refine jx_bipush (v := 21) dX11_readThing_56 (by decide) ?_
          refine jx_ialdE (21) dX11_readThing_58 rfl (rfl) (by omega) (by omega) ((hPq 21 rfl).trans ((hT2.g 1072 4 rfl rfl).trans hn4.1)) ?_
          refine jx_icmpN_ge (a := q) (b := (cN (T 1072 4))) 86 dX11_readThing_59 (by decide) (by omega) (by omega) (fun h59 => ?_) (fun h59 => ?_)
          · refine jx_goto 139 dX11_readThing_86 (by decide) ?_
            have hqe : q = cN (T 1072 4) := by omega
            by_cases ha : anyN (fun q => decide (T 1075 q = nI c)) q = true
            · rw [if_pos ha]
              rw [hqe] at ha
              exact jx_ls (by exact ⟨rfl, rfl, rfl, trivial⟩) (ht (htkn.trans ha))
            · rw [if_neg ha]
              rw [hqe] at ha
              exact jx_ls (by exact ⟨rfl, rfl, rfl, trivial⟩) (hf (htkn.trans (Bool.eq_false_iff.mpr ha)))
          · have h59 : q < cN (T 1072 4) := by omega
            have h4l := hn4.2
            have hqv := hB.1.1.2.2 q h59
            refine jx_aload_n dX11_readThing_62 rfl ?_
            refine jx_getR dX11_readThing_63 flX11_44 rfl rfl (hR _ _ _ rfl) ?_
            refine jx_bipush (v := 12) dX11_readThing_66 (by decide) ?_
            refine jx_iload_n dX11_readThing_68 rfl ?_
            refine jx_iaddE (z := nI (12 + q)) dX11_readThing_69 (nI_add 12 q) ?_
            refine jx_ialdE (12 + q) dX11_readThing_70 rfl (rfl) (by omega) (by omega) ((hPr _).trans ((hT2.g 1075 q (decide_eq_true (by omega)) rfl).trans hqv.1)) ?_
            refine jx_iload_n dX11_readThing_71 rfl ?_
            refine jx_icmpN_ne (a := (cN (T 1075 q))) (b := c) 80 dX11_readThing_72 (by decide) (by omega) (by omega) (fun h72 => ?_) (fun h72 => ?_)
            · have hval : ¬ T 1075 q = nI c := fun e => h72 (by rw [e]; exact cN_nI (by omega))
              refine jx_iinc dX11_readThing_80 rfl (v := nI (q + 1)) (nI_1 _) (by decide) ?_
              refine jx_goto 51 dX11_readThing_83 (by decide) ?_
              have kk := ih h59
              rw [show anyN (fun q => decide (T 1075 q = nI c)) (q + 1) = anyN (fun q => decide (T 1075 q = nI c)) q from by show (_ || decide (T 1075 q = nI c)) = _; rw [decide_eq_false hval]; simp] at kk
              exact jx_ls (by exact ⟨rfl, rfl, rfl, rfl, trivial⟩) kk
            · have hval : T 1075 q = nI c := by rw [hqv.1, h72]
              have hwr : jCD w l mX11_wrong 1 [.ref 1069, .int (nI 4)] (n, shE, if anyN (fun q => decide (T 1075 q = nI c)) q = true then wrg J2 x2.2.1 4 else J2, L, R) none (n, shE, wrg J2 x2.2.1 4, L, R) := by
                split
                · have q := tX11_wrongP (n := n) (L := L) (R := R) hW hw4.1 4
                  exact q
                · exact tX11_wrongP hW hP2.1 4
              refine jx_aload_n dX11_readThing_75 rfl ?_
              refine jx_iconst (v := 4) dX11_readThing_76 (by decide) ?_
              refine jx_Vv (as := [.int _]) dX11_readThing_77 mlX11_261 okX11_wrong viX11_wrong rfl rfl rfl rfl rfl (by decide) (Nat.le_of_ble_eq_true rfl) (hwr) ?_
              refine jx_iinc dX11_readThing_80 rfl (v := nI (q + 1)) (nI_1 _) (by decide) ?_
              refine jx_goto 51 dX11_readThing_83 (by decide) ?_
              have kk := ih h59
              rw [show anyN (fun q => decide (T 1075 q = nI c)) (q + 1) = true from anyN_of (k := q) (decide_eq_true hval) (by omega)] at kk
              exact jx_ls (by exact ⟨rfl, rfl, rfl, rfl, trivial⟩) kk
        refine jx_iload_n dX11_readThing_44 rfl ?_
        refine jx_iconst (v := 4) dX11_readThing_45 (by decide) ?_
        refine jx_icmpN_ne (a := k) (b := 4) 89 dX11_readThing_46 (by decide) (by omega) (by omega) (fun h46 => absurd hk4 h46) (fun h46 => ?_)
        refine jx_iconst (v := 0) dX11_readThing_49 (by decide) ?_
        refine jx_istore_n dX11_readThing_50 rfl (by decide) ?_
        exact jx_ls (by exact ⟨rfl, rfl, rfl, rfl, trivial⟩) (key 0 (by omega))
      · have hwt := (hB.1.2.1 c hct).2
        have hcm : c % W < W := Nat.mod_lt _ (by omega)
        refine jx_iload_n dX11_readThing_44 rfl ?_
        refine jx_iconst (v := 4) dX11_readThing_45 (by decide) ?_
        refine jx_icmpN_ne (a := k) (b := 4) 89 dX11_readThing_46 (by decide) (by omega) (by omega) (fun h46 => ?_) (fun h46 => ?_)
        · refine jx_aload_n dX11_readThing_89 rfl ?_
          refine jx_getR dX11_readThing_90 flX11_41 rfl rfl (hR _ _ _ rfl) ?_
          refine jx_bipush (v := 63) dX11_readThing_93 (by decide) ?_
          refine jx_iload_n dX11_readThing_95 rfl ?_
          refine jx_iaddE (z := nI (63 + c)) dX11_readThing_96 (nI_add 63 c) ?_
          refine jx_ialdE (63 + c) dX11_readThing_97 rfl (rfl) (by omega) (by omega) ((hT2.g 1074 c (decide_eq_true (by omega)) rfl).trans hwt.1) ?_
          have hw2 := hwt.2
          refine jx_ifN_ne (a := (cN (T 1074 c))) 134 dX11_readThing_98 (by decide) (by omega) (fun h98 => ?_) (fun h98 => ?_)
          · refine jx_aload_n dX11_readThing_134 rfl ?_
            refine jx_iconst (v := 4) dX11_readThing_135 (by decide) ?_
            refine jx_Vv (as := [.int _]) dX11_readThing_136 mlX11_261 okX11_wrong viX11_wrong rfl rfl rfl rfl rfl (by decide) (Nat.le_of_ble_eq_true rfl) (tX11_wrongP (k := 4) hW hP2.1) ?_
            exact jx_ls (by exact ⟨rfl, rfl, rfl, trivial⟩) (ht (by unfold tkn; rw [if_neg hk4, hcw]; exact decide_eq_true (by first | exact Or.inl (fun e => h98 (by rw [e]; rfl)) | exact Or.inr (Or.inl h110) | exact Or.inr (Or.inr h131))))
          · refine jx_iload_n dX11_readThing_101 rfl ?_
            refine jx_aload_n dX11_readThing_102 rfl ?_
            refine jx_getR dX11_readThing_103 flX11_34 rfl rfl (hR _ _ _ rfl) ?_
            refine jx_bipush (v := 17) dX11_readThing_106 (by decide) ?_
            refine jx_ialdE (17) dX11_readThing_108 rfl (rfl) (by omega) (by omega) ((hT2.g 1072 0 rfl rfl).trans hMw) ?_
            refine jx_iremE (z := nI (c % W)) dX11_readThing_109 (nI_ne0 (n := W) (by omega) (by omega)) (pk_rem (a := c) (d := W) (by omega) (by omega) (by omega)) ?_
            refine jx_ifN_eq (a := (c % W)) 134 dX11_readThing_110 (by decide) (by omega) (fun h110 => ?_) (fun h110 => ?_)
            · refine jx_aload_n dX11_readThing_134 rfl ?_
              refine jx_iconst (v := 4) dX11_readThing_135 (by decide) ?_
              refine jx_Vv (as := [.int _]) dX11_readThing_136 mlX11_261 okX11_wrong viX11_wrong rfl rfl rfl rfl rfl (by decide) (Nat.le_of_ble_eq_true rfl) (tX11_wrongP (k := 4) hW hP2.1) ?_
              exact jx_ls (by exact ⟨rfl, rfl, rfl, trivial⟩) (ht (by unfold tkn; rw [if_neg hk4, hcw]; exact decide_eq_true (by first | exact Or.inl (fun e => h98 (by rw [e]; rfl)) | exact Or.inr (Or.inl h110) | exact Or.inr (Or.inr h131))))
            · refine jx_iload_n dX11_readThing_113 rfl ?_
              refine jx_aload_n dX11_readThing_114 rfl ?_
              refine jx_getR dX11_readThing_115 flX11_34 rfl rfl (hR _ _ _ rfl) ?_
              refine jx_bipush (v := 17) dX11_readThing_118 (by decide) ?_
              refine jx_ialdE (17) dX11_readThing_120 rfl (rfl) (by omega) (by omega) ((hT2.g 1072 0 rfl rfl).trans hMw) ?_
              refine jx_iremE (z := nI (c % W)) dX11_readThing_121 (nI_ne0 (n := W) (by omega) (by omega)) (pk_rem (a := c) (d := W) (by omega) (by omega) (by omega)) ?_
              refine jx_aload_n dX11_readThing_122 rfl ?_
              refine jx_getR dX11_readThing_123 flX11_34 rfl rfl (hR _ _ _ rfl) ?_
              refine jx_bipush (v := 17) dX11_readThing_126 (by decide) ?_
              refine jx_ialdE (17) dX11_readThing_128 rfl (rfl) (by omega) (by omega) ((hT2.g 1072 0 rfl rfl).trans hMw) ?_
              refine jx_iconst (v := 1) dX11_readThing_129 (by decide) ?_
              refine jx_isubE (z := nI (W - 1)) dX11_readThing_130 (pk_sub (a := W) (b := 1) (by omega)) ?_
              refine jx_icmpN_ne (a := (c % W)) (b := (W - 1)) 139 dX11_readThing_131 (by decide) (by omega) (by omega) (fun h131 => ?_) (fun h131 => ?_)
              · exact jx_ls (by exact ⟨rfl, rfl, rfl, trivial⟩) (hf (by unfold tkn; rw [if_neg hk4, hcw]; exact decide_eq_false (fun q => by rcases q with q | q | q; exact q (by rw [hwt.1, h98]; rfl); exact h110 q; exact h131 q)))
              · refine jx_aload_n dX11_readThing_134 rfl ?_
                refine jx_iconst (v := 4) dX11_readThing_135 (by decide) ?_
                refine jx_Vv (as := [.int _]) dX11_readThing_136 mlX11_261 okX11_wrong viX11_wrong rfl rfl rfl rfl rfl (by decide) (Nat.le_of_ble_eq_true rfl) (tX11_wrongP (k := 4) hW hP2.1) ?_
                exact jx_ls (by exact ⟨rfl, rfl, rfl, trivial⟩) (ht (by unfold tkn; rw [if_neg hk4, hcw]; exact decide_eq_true (by first | exact Or.inl (fun e => h98 (by rw [e]; rfl)) | exact Or.inr (Or.inl h110) | exact Or.inr (Or.inr h131))))
        · exact absurd h46 hk4
    · refine jx_vret dX11_readThing_43 rfl ?_
      rw [if_neg h11, if_pos h40]
      exact ⟨rfl, _, rfl, hL2, hP2, fun q => absurd q h40⟩
  · refine jx_aload_n dX11_readThing_14 rfl ?_
    refine jx_iconst (v := 2) dX11_readThing_15 (by decide) ?_
    refine jx_Vv (as := [.int _]) dX11_readThing_16 mlX11_261 okX11_wrong viX11_wrong rfl rfl rfl rfl rfl (by decide) (Nat.le_of_ble_eq_true rfl) (tX11_wrongP (k := 2) hW hP.1) ?_
    have hw2 : P3 (wrg I 0 2) sz tp (b, 2, b) := P3_wr hP (k := 2) (by omega) (by omega)
    refine jx_aload_n dX11_readThing_19 rfl ?_
    refine jx_getIE dX11_readThing_20 flX11_240 rfl rfl (hw2.1.2.2.2.1) ?_
    refine jx_ifN_eq (a := 2) 27 dX11_readThing_23 (by decide) (by decide) (fun h23 => absurd h23 (by decide)) (fun h23 => ?_)
    refine jx_vret dX11_readThing_26 rfl ?_
    rw [if_pos h11]
    exact ⟨rfl, _, rfl, eqN_L (wrg_n 0 2), hw2, fun q => absurd q (by show ¬ (2 = 0); decide)⟩
end RF1
