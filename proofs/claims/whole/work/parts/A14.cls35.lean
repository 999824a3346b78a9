/-! THE CLASS: the rule reader -/
section CZ10
variable {w : jWD} {l : Launch} {n : Nat} {I J K : Nat → Nat → Int32} {L M : Nat → Nat → Int64} {R : Nat → Nat → Option Nat} {sz : Nat} {tp : Nat → Nat} {x : Nat × Nat × Nat} {h : Nat} {code wt : List Int32} {d nt cp : Nat} {eb nm pd : Bool} {s : Rst}

theorem StQ_z {q : Nat × Rst} {r : Int32} {t : jHS} (hq : StQ n R sz tp h I L x q r t) : r = 0 ∨ r = 1 := by
  obtain ⟨_, _, _, _, _, z⟩ := hq
  rw [z]; exact jb_or _
theorem rPart_o (hm : mayE tp sz x = true) (hd6 : ¬ (eb = true ∧ 6 ≤ d)) (m : mkX tp sz x 40 = true) : rPart tp sz x (code, wt, d, nt, cp, eb, nm, true) = (0, (code, hdW wt (-14), d + 1, 0, cpC cp (d + 1), true, true, true)) := by
  unfold rPart
  rw [if_neg (by rw [hm]; decide), if_neg hd6, if_pos m]
theorem rPart_n (hm : mayE tp sz x = true) (hd6 : ¬ (eb = true ∧ 6 ≤ d)) (m : ¬ mkX tp sz x 40 = true) (k : tKd tp sz x.1 = 2) : (rPart tp sz x (code, wt, d, nt, cp, eb, nm, true)).1 = (pNum tp sz x (code, wt, d, nt, cp, false, nm, true)).1 ∧ ((pNum tp sz x (code, wt, d, nt, cp, false, nm, true)).1 = 0 → (rPart tp sz x (code, wt, d, nt, cp, eb, nm, true)).2 = (pNum tp sz x (code, wt, d, nt, cp, false, nm, true)).2) := by
  unfold rPart pNum
  rw [if_neg (by rw [hm]; decide), if_neg hd6, if_neg m, if_pos k]
  by_cases e : numC tp sz x.1 0 9999 = 0
  · rw [if_pos e, if_pos e]; exact ⟨rfl, fun _ => rfl⟩
  · rw [if_neg e, if_neg e]; exact ⟨rfl, fun q => absurd q e⟩
theorem rPart_t (hm : mayE tp sz x = true) (hd6 : ¬ (eb = true ∧ 6 ≤ d)) (m : ¬ mkX tp sz x 40 = true) (k : ¬ tKd tp sz x.1 = 2) (hn : nm = true) (hi : isX tp sz x [110, 111, 116] = true) : (rPart tp sz x (code, wt, d, nt, cp, eb, nm, true)).1 = (pNot (code, wt, d, nt, cp, false, nm, true)).1 ∧ ((pNot (code, wt, d, nt, cp, false, nm, true)).1 = 0 → (rPart tp sz x (code, wt, d, nt, cp, eb, nm, true)).2 = (pNot (code, wt, d, nt, cp, false, nm, true)).2) := by
  unfold rPart pNot
  rw [if_neg (by rw [hm]; decide), if_neg hd6, if_neg m, if_neg k, if_pos ⟨hn, hi⟩]
  by_cases e : 6 < nt + 1
  · rw [if_pos (show 6 < (code, wt, d, nt, cp, eb, nm, true).2.2.2.1 + 1 from e), if_pos (show 6 < (code, wt, d, nt, cp, false, nm, true).2.2.2.1 + 1 from e)]; exact ⟨rfl, fun q => by cases q⟩
  · rw [if_neg (show ¬ 6 < (code, wt, d, nt, cp, eb, nm, true).2.2.2.1 + 1 from e), if_neg (show ¬ 6 < (code, wt, d, nt, cp, false, nm, true).2.2.2.1 + 1 from e)]; exact ⟨rfl, fun q => rfl⟩
theorem rPart_v (hm : mayE tp sz x = true) (hd6 : ¬ (eb = true ∧ 6 ≤ d)) (m : ¬ mkX tp sz x 40 = true) (k : ¬ tKd tp sz x.1 = 2) (hn : ¬ (nm = true ∧ isX tp sz x [110, 111, 116] = true)) : (rPart tp sz x (code, wt, d, nt, cp, eb, nm, true)).1 = (pVal tp sz x (code, wt, d, nt, cp, false, nm, true)).1 ∧ ((pVal tp sz x (code, wt, d, nt, cp, false, nm, true)).1 = 0 → (rPart tp sz x (code, wt, d, nt, cp, eb, nm, true)).2 = (pVal tp sz x (code, wt, d, nt, cp, false, nm, true)).2) := by
  unfold rPart pVal
  rw [if_neg (by rw [hm]; decide), if_neg hd6, if_neg m, if_neg k, if_neg hn]
  cases e : valX tp sz x with
  | some v => exact ⟨rfl, fun _ => rfl⟩
  | none => exact ⟨rfl, fun q => by cases q⟩

set_option maxHeartbeats 1000000 in
set_option maxRecDepth 20000 in
theorem tX7_readPart (hW : jWok w l) (hR : RS R) (hh : h = 1008 ∨ h = 1024) (hRt : R 1006 3 = some (h + 5)) (hx : C3 I sz tp x) (h0 : x.2.1 = 0) (hS : RRc I h (code, wt, d, nt, cp, eb, nm, true)) : jRi w l mX7_readPart 7 [.ref 1006] (n, shE, I, L, R) (StQ n R sz tp h I L x (rPart tp sz x (code, wt, d, nt, cp, eb, nm, true))) := by
  refine jRi_of hW (by decide) rfl (Nat.le_of_ble_eq_true rfl) ?_
  obtain ⟨F1, F2, F3, F4, F5, F6⟩ : RF I d nt cp eb nm true := hS.2.2
  have F12 : d ≤ 6 := F1.2.1
  have F13 : d = 6 → eb = true ∧ true = true := F1.2.2
  have F32 : cp < 128 := F3.2
  have hk : I 1005 4 = nI (kdC tp sz x.1) := hx.2.1.2.2.1
  have hkl := kdC_lt hx.1 x.1
  have hkd := kdC_s (tp := tp) (sz := sz) (b := x.1)
  have hm40 : kdC tp sz x.1 = 40 ↔ mkX tp sz x 40 = true := by
    rw [kdC_mk (by decide)]
    unfold mkX
    rw [h0]
  have key2 : mayE tp sz x = true → ¬ (eb = true ∧ 6 ≤ d) → d ≤ 5 → jWP w l mX7_readPart 7 0 0 (fun v t => ∃ r, v = some (.int r) ∧ StQ n R sz tp h I L x (rPart tp sz x (code, wt, d, nt, cp, eb, nm, true)) r t) (fun _ _ => False) 68 [(0, .ref 1006)] [] (n, shE, I, L, R) := by
    intro hm hd6 hd5
    have kk : eqK h I (upI I 1006 7 0) := eqK_u eqK_r
    have sS : RRc (upI I 1006 7 0) h (code, wt, d, nt, cp, false, nm, true) := ⟨hS.1.f (J := upI I 1006 7 0) (fun _ => upI_nea (by omega)) (fun _ => upI_nea (by omega)), hS.2.1, ⟨F1.1, F12, fun q => by have q : d = 6 := q; omega⟩, F2, F3, rfl, F5, F6⟩
    have sx : C3 (upI I 1006 7 0) sz tp x := hx.k hh kk
    rcases hh with rfl | rfl
    all_goals
      refine jx_aload_n dX7_readPart_68 rfl ?_
      refine jx_iconst (v := 0) dX7_readPart_69 (by decide) ?_
      refine jx_putZ dX7_readPart_70 flX7_60 rfl rfl (fun r h => by cases h; rfl) (by first | exact Or.inl rfl | exact Or.inr rfl | exact jb_or _) ?_
      refine jx_aload_n dX7_readPart_73 rfl ?_
      refine jx_getR dX7_readPart_74 flX7_15 rfl rfl (hR _ _ _ rfl) ?_
      refine jx_getIE dX7_readPart_77 flX7_37 rfl rfl (hk) ?_
      refine jx_bipush (v := 40) dX7_readPart_80 (by decide) ?_
      refine jx_icmpN_ne (a := (kdC tp sz x.1)) (b := 40) 107 dX7_readPart_82 (by decide) (by omega) (by omega) (fun h82 => ?_) (fun h82 => ?_)
      · have m40 : ¬ mkX tp sz x 40 = true := fun q => h82 (hm40.mpr q)
        refine jx_aload_n dX7_readPart_107 rfl ?_
        refine jx_getR dX7_readPart_108 flX7_15 rfl rfl (hR _ _ _ rfl) ?_
        refine jx_getIE dX7_readPart_111 flX7_37 rfl rfl (hk) ?_
        refine jx_iconst (v := 3) dX7_readPart_114 (by decide) ?_
        refine jx_icmpN_ne (a := (kdC tp sz x.1)) (b := 3) 123 dX7_readPart_115 (by decide) (by omega) (by omega) (fun h115 => ?_) (fun h115 => ?_)
        · have k2 : ¬ tKd tp sz x.1 = 2 := fun q => h115 (hkd.2.2.mpr q)
          refine jx_aload_n dX7_readPart_123 rfl ?_
          refine jx_getIE dX7_readPart_124 flX7_72 rfl rfl (F5) ?_
          refine jx_ifB_eq 149 dX7_readPart_127 (by decide) (fun h127 => ?_) (fun h127 => ?_)
          · have hno : ¬ (nm = true ∧ isX tp sz x [110, 111, 116] = true) := fun q => by rw [h127] at q; cases q.1
            refine jx_aload_n dX7_readPart_149 rfl ?_
            refine jx_VRi (as := []) dX7_readPart_150 mlX7_90 okX7_readValue viX7_readValue rfl rfl rfl rfl rfl (by decide) (Nat.le_of_ble_eq_true rfl) (tX7_readValue hW hR (by decide) hRt sx h0 sS hd5) (fun x150 t150 hq150 => ?_)
            
            refine jx_zret dX7_readPart_153 rfl ?_ ?_
            · first | exact Or.inl rfl | exact Or.inr rfl | exact jb_or _ | exact StQ_z hq119 | exact StQ_z hq143 | exact StQ_z hq150
            first
            | exact ⟨_, rfl, StQ_f (eqK_Q kk) (StQ_c (rPart_t hm hd6 m40 k2 h127 h139).1 (rPart_t hm hd6 m40 k2 h127 h139).2 hq143)⟩
            | exact ⟨_, rfl, StQ_f (eqK_Q kk) (StQ_c (rPart_v hm hd6 m40 k2 hno).1 (rPart_v hm hd6 m40 k2 hno).2 hq150)⟩
          · refine jx_aload_n dX7_readPart_130 rfl ?_
            refine jx_getR dX7_readPart_131 flX7_15 rfl rfl (hR _ _ _ rfl) ?_
            refine jx_ldcS 17 dX7_readPart_134 rfl rfl rfl (by decide) ?_
            refine jx_Vi (as := [.ref _]) dX7_readPart_136 mlX7_83 okX9_isWord viX9_isWord rfl rfl rfl rfl rfl (by decide) (Nat.le_of_ble_eq_true rfl) (tX9_isWord_x hW hR sx h0 (i := 17) (cs := [110, 111, 116]) ⟨by decide, ⟨_, rfl, rfl⟩, by decide, by decide⟩) ?_
            refine jx_ifB_eq 149 dX7_readPart_139 (by decide) (fun h139 => ?_) (fun h139 => ?_)
            · have hno : ¬ (nm = true ∧ isX tp sz x [110, 111, 116] = true) := fun q => by rw [h139] at q; cases q.2
              refine jx_aload_n dX7_readPart_149 rfl ?_
              refine jx_VRi (as := []) dX7_readPart_150 mlX7_90 okX7_readValue viX7_readValue rfl rfl rfl rfl rfl (by decide) (Nat.le_of_ble_eq_true rfl) (tX7_readValue hW hR (by decide) hRt sx h0 sS hd5) (fun x150 t150 hq150 => ?_)
              
              refine jx_zret dX7_readPart_153 rfl ?_ ?_
              · first | exact Or.inl rfl | exact Or.inr rfl | exact jb_or _ | exact StQ_z hq119 | exact StQ_z hq143 | exact StQ_z hq150
              first
              | exact ⟨_, rfl, StQ_f (eqK_Q kk) (StQ_c (rPart_t hm hd6 m40 k2 h127 h139).1 (rPart_t hm hd6 m40 k2 h127 h139).2 hq143)⟩
              | exact ⟨_, rfl, StQ_f (eqK_Q kk) (StQ_c (rPart_v hm hd6 m40 k2 hno).1 (rPart_v hm hd6 m40 k2 hno).2 hq150)⟩
            · refine jx_aload_n dX7_readPart_142 rfl ?_
              refine jx_VRi (as := []) dX7_readPart_143 mlX7_87 okX7_readNot viX7_readNot rfl rfl rfl rfl rfl (by decide) (Nat.le_of_ble_eq_true rfl) (tX7_readNot hW hR (by decide) hRt sx h0 sS) (fun x143 t143 hq143 => ?_)
              
              refine jx_goto 153 dX7_readPart_146 (by decide) ?_
              refine jx_zret dX7_readPart_153 rfl ?_ ?_
              · first | exact Or.inl rfl | exact Or.inr rfl | exact jb_or _ | exact StQ_z hq119 | exact StQ_z hq143 | exact StQ_z hq150
              first
              | exact ⟨_, rfl, StQ_f (eqK_Q kk) (StQ_c (rPart_t hm hd6 m40 k2 h127 h139).1 (rPart_t hm hd6 m40 k2 h127 h139).2 hq143)⟩
              | exact ⟨_, rfl, StQ_f (eqK_Q kk) (StQ_c (rPart_v hm hd6 m40 k2 hno).1 (rPart_v hm hd6 m40 k2 hno).2 hq150)⟩
        · have k2 := hkd.2.2.mp h115
          refine jx_aload_n dX7_readPart_118 rfl ?_
          refine jx_VRi (as := []) dX7_readPart_119 mlX7_78 okX7_readNumber viX7_readNumber rfl rfl rfl rfl rfl (by decide) (Nat.le_of_ble_eq_true rfl) (tX7_readNumber hW hR (by decide) hRt sx h0 sS hd5) (fun x119 t119 hq119 => ?_)
          
          refine jx_zret dX7_readPart_122 rfl ?_ ?_
          · first | exact Or.inl rfl | exact Or.inr rfl | exact jb_or _ | exact StQ_z hq119 | exact StQ_z hq143 | exact StQ_z hq150
          exact ⟨_, rfl, StQ_f (eqK_Q kk) (StQ_c (rPart_n hm hd6 m40 k2).1 (rPart_n hm hd6 m40 k2).2 hq119)⟩
      · have m40 := hm40.mp h82
        refine jx_aload_n dX7_readPart_85 rfl ?_
        refine jx_bipush (v := -14) dX7_readPart_86 (by decide) ?_
        refine jx_VRv (as := [.int _]) dX7_readPart_88 mlX7_75 okX7_hold viX7_hold rfl rfl rfl rfl rfl (by decide) (Nat.le_of_ble_eq_true rfl) (tX7_hold hW hR sS.2.1) (fun t88 hq88 => ?_)
        obtain ⟨K2, rfl, a2, f2⟩ := hq88
        have g6 : ∀ j, 4 ≤ j → K2 1006 j = upI I 1006 7 0 1006 j := fun j hj => f2 1006 j (by decide) (fun q => by omega)
        refine jx_aload_n dX7_readPart_91 rfl ?_
        refine jx_dup dX7_readPart_92 rfl ?_
        refine jx_getIE dX7_readPart_93 flX7_27 rfl rfl ((g6 4 (by decide)).trans F1.1) ?_
        refine jx_iconst (v := 1) dX7_readPart_96 (by decide) ?_
        refine jx_iaddE (z := nI (d + 1)) dX7_readPart_97 (nI_add d 1) ?_
        refine jx_putI dX7_readPart_98 flX7_27 rfl rfl (fun r h => by cases h; rfl) ?_
        refine jx_aload_n dX7_readPart_101 rfl ?_
        refine jx_VRv (as := []) dX7_readPart_102 mlX7_30 okX7_beginExpr viX7_beginExpr rfl rfl rfl rfl rfl (by decide) (Nat.le_of_ble_eq_true rfl) (tX7_beginExpr (d := d + 1) (cp := cp) hW hR rfl (by omega) ((g6 6 (by decide)).trans F3.1) F32) (fun t102 hq102 => ?_)
        subst hq102
        refine jx_iconst (v := 1) dX7_readPart_105 (by decide) ?_
        refine jx_zret dX7_readPart_106 rfl ?_ ?_
        · first | exact Or.inl rfl | exact Or.inr rfl | exact jb_or _ | exact StQ_z hq119 | exact StQ_z hq143 | exact StQ_z hq150
        have k2 : eqK _ I _ := eqK_t kk (eqK_u (k := 9) (v := 1) (eqK_u (k := 8) (v := 1) (eqK_u (k := 5) (v := 0) (eqK_u (k := 6) (v := nI (cpC cp (d + 1))) (eqK_u (k := 7) (v := 1) (eqK_u (k := 4) (v := nI (d + 1)) (fun b j a1 a2 a3 a4 => f2 b j a2 (fun q => a1 q.1))))))))
        have hA := hS.1.f (J := K2) (fun j => (f2 _ j (by decide) (fun q => absurd q.1 (by decide))).trans (upI_nea (by decide))) (fun j => (f2 _ j (by decide) (fun q => absurd q.1 (by decide))).trans (upI_nea (by decide)))
        exact ⟨_, rfl, StQ_g (u := (code, hdW wt (-14), d + 1, 0, cpC cp (d + 1), true, true, true)) (rPart_o hm hd6 m40) (eqK_Q k2) (hx.k (by decide) k2) ⟨hA, a2, ⟨rfl, by show d + 1 ≤ 6; omega, fun _ => ⟨rfl, rfl⟩⟩, ⟨rfl, by show 0 ≤ 6; decide⟩, ⟨rfl, (cp_1 cp F32 (d + 1) (by omega)).1⟩, rfl, rfl, rfl⟩⟩
  have key : mayE tp sz x = true → jWP w l mX7_readPart 7 0 0 (fun v t => ∃ r, v = some (.int r) ∧ StQ n R sz tp h I L x (rPart tp sz x (code, wt, d, nt, cp, eb, nm, true)) r t) (fun _ _ => False) 43 [(0, .ref 1006)] [] (n, shE, I, L, R) := by
    intro hm
    refine jx_aload_n dX7_readPart_43 rfl ?_
    refine jx_getIE dX7_readPart_44 flX7_60 rfl rfl (F4) ?_
    refine jx_ifB_eq 68 dX7_readPart_47 (by decide) (fun h47 => ?_) (fun h47 => ?_)
    · have hd6 : ¬ (eb = true ∧ 6 ≤ d) := fun q => by rw [h47] at q; cases q.1
      have hd5 : d ≤ 5 := by
        by_cases e6 : d = 6
        · have := (F13 e6).1; rw [h47] at this; cases this
        · omega
      exact jx_ls (by exact ⟨rfl, trivial⟩) (key2 hm hd6 hd5)
    · refine jx_aload_n dX7_readPart_50 rfl ?_
      refine jx_getIE dX7_readPart_51 flX7_27 rfl rfl (F1.1) ?_
      refine jx_bipush (v := 6) dX7_readPart_54 (by decide) ?_
      refine jx_icmpN_lt (a := d) (b := 6) 68 dX7_readPart_56 (by decide) (by omega) (by omega) (fun h56 => ?_) (fun h56 => ?_)
      · have hd6 : ¬ (eb = true ∧ 6 ≤ d) := fun q => by omega
        have hd5 : d ≤ 5 := by omega
        exact jx_ls (by exact ⟨rfl, trivial⟩) (key2 hm hd6 hd5)
      · refine jx_aload_n dX7_readPart_59 rfl ?_
        refine jx_getR dX7_readPart_60 flX7_15 rfl rfl (hR _ _ _ rfl) ?_
        refine jx_iconst (v := 2) dX7_readPart_63 (by decide) ?_
        refine jx_VRi (as := [.int _]) dX7_readPart_64 mlX7_56 okX9_refuse viX9_refuse rfl rfl rfl rfl rfl (by decide) (Nat.le_of_ble_eq_true rfl) (tX9_refuse_x (k := 2) hW hR hx h0 (by decide)) (fun x64 t64 hq64 => ?_)
        obtain ⟨J2, rfl, fJ2, gJ2, rfl⟩ := hq64
        refine jx_zret dX7_readPart_67 rfl ?_ ?_
        · first | exact Or.inl rfl | exact Or.inr rfl | exact jb_or _
        exact ⟨_, rfl, StQ_b (k := 2) (u := (code, wt, d, nt, cp, eb, nm, true)) (by unfold rPart; rw [if_neg (by rw [hm]; decide)]; exact if_pos ⟨h47, show 6 ≤ d by omega⟩) (by decide) (eqR_Q fJ2) gJ2 (hS.c.r fJ2)⟩
  refine jx_aload_n dX7_readPart_0 rfl ?_
  refine jx_getR dX7_readPart_1 flX7_15 rfl rfl (hR _ _ _ rfl) ?_
  refine jx_getIE dX7_readPart_4 flX7_37 rfl rfl (hk) ?_
  refine jx_iconst (v := 3) dX7_readPart_7 (by decide) ?_
  refine jx_icmpN_eq (a := (kdC tp sz x.1)) (b := 3) 43 dX7_readPart_8 (by decide) (by omega) (by omega) (fun h8 => ?_) (fun h8 => ?_)
  · have hm : mayE tp sz x = true := by unfold mayE; rw [decide_eq_true (hkd.2.2.mp h8)]; simp
    exact jx_ls (by exact ⟨rfl, trivial⟩) (key hm)
  · refine jx_aload_n dX7_readPart_11 rfl ?_
    refine jx_getR dX7_readPart_12 flX7_15 rfl rfl (hR _ _ _ rfl) ?_
    refine jx_getIE dX7_readPart_15 flX7_37 rfl rfl (hk) ?_
    refine jx_iconst (v := 2) dX7_readPart_18 (by decide) ?_
    refine jx_icmpN_eq (a := (kdC tp sz x.1)) (b := 2) 43 dX7_readPart_19 (by decide) (by omega) (by omega) (fun h19 => ?_) (fun h19 => ?_)
    · have hm : mayE tp sz x = true := by unfold mayE; rw [decide_eq_true (hkd.2.1.mp h19)]; simp
      exact jx_ls (by exact ⟨rfl, trivial⟩) (key hm)
    · refine jx_aload_n dX7_readPart_22 rfl ?_
      refine jx_getR dX7_readPart_23 flX7_15 rfl rfl (hR _ _ _ rfl) ?_
      refine jx_getIE dX7_readPart_26 flX7_37 rfl rfl (hk) ?_
      refine jx_bipush (v := 40) dX7_readPart_29 (by decide) ?_
      refine jx_icmpN_eq (a := (kdC tp sz x.1)) (b := 40) 43 dX7_readPart_31 (by decide) (by omega) (by omega) (fun h31 => ?_) (fun h31 => ?_)
      · have hm : mayE tp sz x = true := by unfold mayE; rw [hm40.mp h31]; simp
        exact jx_ls (by exact ⟨rfl, trivial⟩) (key hm)
      · have hm : mayE tp sz x = false := by unfold mayE; rw [decide_eq_false (fun q => h8 (hkd.2.2.mpr q)), decide_eq_false (fun q => h19 (hkd.2.1.mpr q)), Bool.eq_false_iff.mpr (fun q => h31 (hm40.mpr q))]; rfl
        refine jx_aload_n dX7_readPart_34 rfl ?_
        refine jx_getR dX7_readPart_35 flX7_15 rfl rfl (hR _ _ _ rfl) ?_
        refine jx_iconst (v := 1) dX7_readPart_38 (by decide) ?_
        refine jx_VRi (as := [.int _]) dX7_readPart_39 mlX7_56 okX9_refuse viX9_refuse rfl rfl rfl rfl rfl (by decide) (Nat.le_of_ble_eq_true rfl) (tX9_refuse_x (k := 1) hW hR hx h0 (by decide)) (fun x39 t39 hq39 => ?_)
        obtain ⟨J2, rfl, fJ2, gJ2, rfl⟩ := hq39
        refine jx_zret dX7_readPart_42 rfl ?_ ?_
        · first | exact Or.inl rfl | exact Or.inr rfl | exact jb_or _
        exact ⟨_, rfl, StQ_b (k := 1) (u := (code, wt, d, nt, cp, eb, nm, true)) (by unfold rPart; exact if_pos hm) (by decide) (eqR_Q fJ2) gJ2 (hS.c.r fJ2)⟩
end CZ10
