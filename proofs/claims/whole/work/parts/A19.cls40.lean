/-! THE CLASS: a line is read -/
section CZ15
variable {w : jWD} {l : Launch} {n : Nat} {I J : Nat → Nat → Int32} {L M : Nat → Nat → Int64} {R : Nat → Nat → Option Nat} {sz : Nat} {tp : Nat → Nat} {x : Nat × Nat × Nat} {T : Nat → Nat → Int32} {h W H np len s : Nat}
theorem RuQ_e {cp : Nat} {r : Int32} {t : jHS} (hsz : sz ≤ 700) (hb : x.1 ≤ sz) (h0 : x.2.1 = 0) (hcp : cp < 128) (hq : RuQ n R sz tp h I L (mGo tp sz 701 x ([], [], 0, 0, cpC cp 0, true, true, true)) r t) : ∃ J b, t = (n, shE, J, L, R) ∧ eqQ h I J ∧ CPk J ∧ r = jb b ∧ (b = true → (exprE tp sz 6 (x, [])).1.2.1 = 0 ∧ C3 J sz tp (exprE tp sz 6 (x, [])).1 ∧ RA J h ((exprE tp sz 6 (x, [])).2.map opc)) ∧ (b = false → (pMk tp sz 59 (exprE tp sz 6 (x, [])).1).2.1 ≠ 0 ∧ C3 J sz tp (pMk tp sz 59 (exprE tp sz 6 (x, [])).1)) := by
  have c1 := cp_1 cp hcp 0 (by decide)
  obtain ⟨-, m1, m2, m3⟩ := mGo_e (tp := tp) hsz hb h0 c1.1 c1.2.2.1 rfl
  obtain ⟨J, e, f, p, c, a1, a2⟩ := hq
  generalize exprE tp sz 6 (x, []) = y at m1 m2 m3
  by_cases hz : y.1.2.1 = 0
  · by_cases m : mkX tp sz y.1 59 = true
    · rw [m2 hz m] at c a1 a2
      obtain ⟨q1, q2⟩ := a1 _ rfl
      exact ⟨J, true, e, f, p, q2, fun _ => ⟨hz, c, q1⟩, fun q => (by cases q)⟩
    · rw [m3 hz (Bool.eq_false_iff.mpr m)] at c a1 a2
      have e2 : pMk tp sz 59 y.1 = pWr 1 y.1 := by
        unfold pMk pWr
        rw [if_pos hz, if_neg (by unfold mkX at m; rw [hz] at m; exact m), if_pos hz]
      exact ⟨J, false, e, f, p, a2 rfl, fun q => (by cases q), fun _ => by rw [e2]; exact ⟨pWr_z hz (by decide), c⟩⟩
  · rw [m1 hz] at c a1 a2
    exact ⟨J, false, e, f, p, a2 rfl, fun q => (by cases q), fun _ => by rw [pMk_f hz]; exact ⟨hz, c⟩⟩

set_option maxHeartbeats 1000000 in
set_option maxRecDepth 20000 in
theorem tX5_readLine (hW : jWok w l) (hR : RS R) (hS : LnS R sz tp h W H np len I L x T s) (hK : KT T W H) (hcp : CPk I) (hs6 : s < 64) (h16 : s &&& 32 = 0 → T 1072 16 = 0) : jRi w l mX5_readLine 9 [.ref 1004] (n, shE, I, L, R) (LnR n R sz tp h W H I L (liBody tp sz s x T) (s ||| kLn tp sz x)) := by
  refine jRi_of hW (by decide) rfl (Nat.le_of_ble_eq_true rfl) ?_
  have hS0 := hS
  obtain ⟨hh, hRt, hx, h0, hC, hs, hB⟩ := hS
  obtain ⟨dW, dH, hWb, hHb, hWH, dnp, hnp⟩ := BT_d hB
  have hsz := hx.1.2.1
  have hxl := (nxt_le (tp := tp) hx.2.2.1).2
  have hRr : R h 1 = some (h + 5) := by
    rcases hh with z | z
    · rw [z]; exact hR _ _ _ rfl
    · rw [z]; exact hR _ _ _ rfl
  have hsh : shE h = shE 1008 := by
    rcases hh with z | z
    · rw [z]
    · rw [z]; rfl
  refine jx_aload_n dX5_readLine_0 rfl ?_
  refine jx_Vi (as := []) dX5_readLine_1 mlX5_93 okX5_lineNumber viX5_lineNumber rfl rfl rfl rfl rfl (by decide) (Nat.le_of_ble_eq_true rfl) (tX5_lineNumber hW hR hx h0) ?_
  have hcs := lnN_c tp sz x
  rcases hcs with ⟨hl, aa⟩ | ⟨hl, aa⟩ | ⟨hl, aa⟩ | ⟨hl, aa⟩ | ⟨hl, aa⟩ | ⟨hl, aa⟩ | ⟨hl, aa⟩ | ⟨hl, aa⟩ | ⟨hl, aa⟩ | ⟨hl, aa⟩ | ⟨hl, aa⟩ | ⟨hl, aa⟩ | ⟨hl, aa⟩ | ⟨hl, aa⟩ | ⟨hl, aa⟩ | ⟨hl, q0, q1, q2⟩
  · rw [hl]
    refine jx_tsIn 80 dX5_readLine_4 (by decide) (by decide) rfl (by decide) ?_
    obtain ⟨q1, q2⟩ := liB_Hei (s := s) (T := T) aa
    rw [q1, q2, Nat.or_zero]
    refine jx_aload_n dX5_readLine_80 rfl ?_
    refine jx_VRi (as := []) dX5_readLine_81 mlX5_97 okX5_readHeight viX5_readHeight rfl rfl rfl rfl rfl (by decide) (Nat.le_of_ble_eq_true rfl) (tX5_readHeight hW hR hS0) (fun x81 t81 hq81 => ?_)
    
    refine jx_zret dX5_readLine_84 rfl ?_ ?_
    · exact LnR_z (LnR_q hh hcp hq81)
    exact ⟨_, rfl, LnR_q hh hcp hq81⟩
  · rw [hl]
    refine jx_tsIn 85 dX5_readLine_4 (by decide) (by decide) rfl (by decide) ?_
    obtain ⟨q1, q2⟩ := liB_Roc (s := s) (T := T) aa
    rw [q1, q2, Nat.or_zero]
    refine jx_aload_n dX5_readLine_85 rfl ?_
    refine jx_VRi (as := []) dX5_readLine_86 mlX5_100 okX5_readRock viX5_readRock rfl rfl rfl rfl rfl (by decide) (Nat.le_of_ble_eq_true rfl) (tX5_readRock hW hR hS0 hK) (fun x86 t86 hq86 => ?_)
    
    refine jx_zret dX5_readLine_89 rfl ?_ ?_
    · exact LnR_z (LnR_q hh hcp hq86)
    exact ⟨_, rfl, LnR_q hh hcp hq86⟩
  · rw [hl]
    refine jx_tsIn 90 dX5_readLine_4 (by decide) (by decide) rfl (by decide) ?_
    obtain ⟨q1, q2⟩ := liB_Lad (s := s) (T := T) aa
    rw [q1, q2, Nat.or_zero]
    refine jx_aload_n dX5_readLine_90 rfl ?_
    refine jx_VRi (as := []) dX5_readLine_91 mlX5_103 okX5_readLadder viX5_readLadder rfl rfl rfl rfl rfl (by decide) (Nat.le_of_ble_eq_true rfl) (tX5_readLadder hW hR hS0 hK) (fun x91 t91 hq91 => ?_)
    
    refine jx_zret dX5_readLine_94 rfl ?_ ?_
    · exact LnR_z (LnR_q hh hcp hq91)
    exact ⟨_, rfl, LnR_q hh hcp hq91⟩
  · rw [hl]
    refine jx_tsIn 95 dX5_readLine_4 (by decide) (by decide) rfl (by decide) ?_
    obtain ⟨q1, q2⟩ := liB_Qui (s := s) (T := T) aa
    rw [q1, q2, Nat.or_zero]
    refine jx_aload_n dX5_readLine_95 rfl ?_
    refine jx_VRi (as := []) dX5_readLine_96 mlX5_106 okX5_readQuick viX5_readQuick rfl rfl rfl rfl rfl (by decide) (Nat.le_of_ble_eq_true rfl) (tX5_readQuick hW hR hS0) (fun x96 t96 hq96 => ?_)
    
    refine jx_zret dX5_readLine_99 rfl ?_ ?_
    · exact LnR_z (LnR_q hh hcp hq96)
    exact ⟨_, rfl, LnR_q hh hcp hq96⟩
  · rw [hl]
    refine jx_tsIn 100 dX5_readLine_4 (by decide) (by decide) rfl (by decide) ?_
    obtain ⟨q1, q2⟩ := liB_knd (j := 0) (s := s) (T := T) (by decide) aa
    rw [q1, q2, Nat.or_zero]
    refine jx_aload_n dX5_readLine_100 rfl ?_
    refine jx_iconst (v := 0) dX5_readLine_101 (by decide) ?_
    refine jx_VRi (as := [.int _]) dX5_readLine_102 mlX5_109 okX5_readParty viX5_readParty rfl rfl rfl rfl rfl (by decide) (Nat.le_of_ble_eq_true rfl) (tX5_readParty (k := 0) hW hR hS0 (by decide)) (fun x102 t102 hq102 => ?_)
    
    refine jx_zret dX5_readLine_105 rfl ?_ ?_
    · exact LnR_z (LnR_q hh hcp hq102)
    exact ⟨_, rfl, LnR_q hh hcp hq102⟩
  · rw [hl]
    refine jx_tsIn 106 dX5_readLine_4 (by decide) (by decide) rfl (by decide) ?_
    obtain ⟨q1, q2⟩ := liB_knd (j := 1) (s := s) (T := T) (by decide) aa
    rw [q1, q2, Nat.or_zero]
    refine jx_aload_n dX5_readLine_106 rfl ?_
    refine jx_iconst (v := 1) dX5_readLine_107 (by decide) ?_
    refine jx_VRi (as := [.int _]) dX5_readLine_108 mlX5_109 okX5_readParty viX5_readParty rfl rfl rfl rfl rfl (by decide) (Nat.le_of_ble_eq_true rfl) (tX5_readParty (k := 1) hW hR hS0 (by decide)) (fun x108 t108 hq108 => ?_)
    
    refine jx_zret dX5_readLine_111 rfl ?_ ?_
    · exact LnR_z (LnR_q hh hcp hq108)
    exact ⟨_, rfl, LnR_q hh hcp hq108⟩
  · rw [hl]
    refine jx_tsIn 112 dX5_readLine_4 (by decide) (by decide) rfl (by decide) ?_
    obtain ⟨q1, q2⟩ := liB_knd (j := 2) (s := s) (T := T) (by decide) aa
    rw [q1, q2, Nat.or_zero]
    refine jx_aload_n dX5_readLine_112 rfl ?_
    refine jx_iconst (v := 2) dX5_readLine_113 (by decide) ?_
    refine jx_VRi (as := [.int _]) dX5_readLine_114 mlX5_109 okX5_readParty viX5_readParty rfl rfl rfl rfl rfl (by decide) (Nat.le_of_ble_eq_true rfl) (tX5_readParty (k := 2) hW hR hS0 (by decide)) (fun x114 t114 hq114 => ?_)
    
    refine jx_zret dX5_readLine_117 rfl ?_ ?_
    · exact LnR_z (LnR_q hh hcp hq114)
    exact ⟨_, rfl, LnR_q hh hcp hq114⟩
  · rw [hl]
    refine jx_tsIn 118 dX5_readLine_4 (by decide) (by decide) rfl (by decide) ?_
    obtain ⟨q1, q2⟩ := liB_knd (j := 3) (s := s) (T := T) (by decide) aa
    rw [q1, q2, Nat.or_zero]
    refine jx_aload_n dX5_readLine_118 rfl ?_
    refine jx_iconst (v := 3) dX5_readLine_119 (by decide) ?_
    refine jx_VRi (as := [.int _]) dX5_readLine_120 mlX5_109 okX5_readParty viX5_readParty rfl rfl rfl rfl rfl (by decide) (Nat.le_of_ble_eq_true rfl) (tX5_readParty (k := 3) hW hR hS0 (by decide)) (fun x120 t120 hq120 => ?_)
    
    refine jx_zret dX5_readLine_123 rfl ?_ ?_
    · exact LnR_z (LnR_q hh hcp hq120)
    exact ⟨_, rfl, LnR_q hh hcp hq120⟩
  · rw [hl]
    refine jx_tsIn 124 dX5_readLine_4 (by decide) (by decide) rfl (by decide) ?_
    obtain ⟨q1, q2⟩ := liB_Qua (s := s) (T := T) aa
    rw [q1, q2, Nat.or_zero]
    refine jx_aload_n dX5_readLine_124 rfl ?_
    refine jx_VRi (as := []) dX5_readLine_125 mlX5_112 okX5_readQuarrel viX5_readQuarrel rfl rfl rfl rfl rfl (by decide) (Nat.le_of_ble_eq_true rfl) (tX5_readQuarrel hW hR hS0) (fun x125 t125 hq125 => ?_)
    
    refine jx_zret dX5_readLine_128 rfl ?_ ?_
    · exact LnR_z (LnR_q hh hcp hq125)
    exact ⟨_, rfl, LnR_q hh hcp hq125⟩
  · rw [hl]
    refine jx_tsIn 129 dX5_readLine_4 (by decide) (by decide) rfl (by decide) ?_
    obtain ⟨q1, q2⟩ := liB_s1 (s := s) (T := T) aa
    rw [q1, q2]
    refine jx_aload_n dX5_readLine_129 rfl ?_
    refine jx_bipush (v := 10) dX5_readLine_130 (by decide) ?_
    refine jx_VRi (as := [.int _]) dX5_readLine_132 mlX5_115 okX5_isFirst viX5_isFirst rfl rfl rfl rfl rfl (by decide) (Nat.le_of_ble_eq_true rfl) (tX5_isFirst (s := s) (m := 10) (i := 0) hW hR hx h0 rfl (by decide) hs hs6) (fun x132 t132 hq132 => ?_)
    obtain ⟨J1, rfl, t1, c1, rfl⟩ := hq132
    have p1 : CPk J1 := ⟨hcp.choose, (t1 1006 6 (by decide) (by decide)).trans hcp.choose_spec.1, hcp.choose_spec.2⟩
    refine jx_ifB_eq 149 dX5_readLine_135 (by decide) (fun h135 => ?_) (fun h135 => ?_)
    · have hz : ¬ s &&& 1 = 0 := of_decide_eq_false h135
      rw [if_neg (show ¬ s &&& 2 ^ 0 = 0 from hz)] at c1
      refine jx_iconst (v := 0) dX5_readLine_149 (by decide) ?_
      refine jx_zret dX5_readLine_150 rfl ?_ ?_
      · first | exact Or.inl rfl | exact Or.inr rfl | exact jb_or _
      exact ⟨_, rfl, LnR_b (X := pWr 5 x) (by rw [if_neg hz]; exact pMk_f (pWr_z h0 (by decide))) (pWr_z h0 (by decide)) (fun _ _ _ => rfl) (eqG_W (eqTt_G t1)) (eqGL_r _ L) p1 c1⟩
    · have hz : s &&& 1 = 0 := of_decide_eq_true h135
      rw [if_pos (show s &&& 2 ^ 0 = 0 from hz)] at c1
      have hS1 : LnS R sz tp h W H np len J1 L (stX tp sz x) T (s ||| 1) := ⟨hh, hRt, c1.1, h0, hC.t hh t1 (by omega), c1.2, hB⟩
      refine jx_aload_n dX5_readLine_138 rfl ?_
      refine jx_VRi (as := []) dX5_readLine_139 mlX5_118 okX5_readMoves viX5_readMoves rfl rfl rfl rfl rfl (by decide) (Nat.le_of_ble_eq_true rfl) (tX5_readMoves hW hR hS1) (fun x139 t139 hq139 => ?_)
      have hq2 := hq139
      obtain ⟨J2, M2, rfl, g1, g2, g3, g4, rfl⟩ := hq139
      refine jx_ifB_eq 149 dX5_readLine_142 (by decide) (fun h142 => ?_) (fun h142 => ?_)
      · rw [h142] at hq2
        refine jx_iconst (v := 0) dX5_readLine_149 (by decide) ?_
        refine jx_zret dX5_readLine_150 rfl ?_ ?_
        · first | exact Or.inl rfl | exact Or.inr rfl | exact jb_or _
        exact ⟨_, rfl, by rw [if_pos hz]; exact LnR_f (eqG_W (eqTt_G t1)) (LnR_q hh p1 hq2)⟩
      · rw [h142] at hq2
        refine jx_iconst (v := 1) dX5_readLine_145 (by decide) ?_
        refine jx_goto 150 dX5_readLine_146 (by decide) ?_
        refine jx_zret dX5_readLine_150 rfl ?_ ?_
        · first | exact Or.inl rfl | exact Or.inr rfl | exact jb_or _
        exact ⟨_, rfl, by rw [if_pos hz]; exact LnR_f (eqG_W (eqTt_G t1)) (LnR_q hh p1 hq2)⟩
  · rw [hl]
    refine jx_tsIn 151 dX5_readLine_4 (by decide) (by decide) rfl (by decide) ?_
    obtain ⟨q1, q2⟩ := liB_s2 (s := s) (T := T) aa
    rw [q1, q2]
    refine jx_aload_n dX5_readLine_151 rfl ?_
    refine jx_bipush (v := 11) dX5_readLine_152 (by decide) ?_
    refine jx_VRi (as := [.int _]) dX5_readLine_154 mlX5_115 okX5_isFirst viX5_isFirst rfl rfl rfl rfl rfl (by decide) (Nat.le_of_ble_eq_true rfl) (tX5_isFirst (s := s) (m := 11) (i := 1) hW hR hx h0 rfl (by decide) hs hs6) (fun x154 t154 hq154 => ?_)
    obtain ⟨J1, rfl, t1, c1, rfl⟩ := hq154
    have p1 : CPk J1 := ⟨hcp.choose, (t1 1006 6 (by decide) (by decide)).trans hcp.choose_spec.1, hcp.choose_spec.2⟩
    refine jx_ifB_eq 171 dX5_readLine_157 (by decide) (fun h157 => ?_) (fun h157 => ?_)
    · have hz : ¬ s &&& 2 = 0 := of_decide_eq_false h157
      rw [if_neg (show ¬ s &&& 2 ^ 1 = 0 from hz)] at c1
      refine jx_iconst (v := 0) dX5_readLine_171 (by decide) ?_
      refine jx_zret dX5_readLine_172 rfl ?_ ?_
      · first | exact Or.inl rfl | exact Or.inr rfl | exact jb_or _
      exact ⟨_, rfl, LnR_b (X := pWr 5 x) (by rw [if_neg hz]; exact pMk_f (pWr_z h0 (by decide))) (pWr_z h0 (by decide)) (fun _ _ _ => rfl) (eqG_W (eqTt_G t1)) (eqGL_r _ L) p1 c1⟩
    · have hz : s &&& 2 = 0 := of_decide_eq_true h157
      rw [if_pos (show s &&& 2 ^ 1 = 0 from hz)] at c1
      have hS1 : LnS R sz tp h W H np len J1 L (stX tp sz x) T (s ||| 2) := ⟨hh, hRt, c1.1, h0, hC.t hh t1 (by omega), c1.2, hB⟩
      refine jx_aload_n dX5_readLine_160 rfl ?_
      refine jx_VRi (as := []) dX5_readLine_161 mlX5_121 okX5_readWind viX5_readWind rfl rfl rfl rfl rfl (by decide) (Nat.le_of_ble_eq_true rfl) (tX5_readWind hW hR hS1) (fun x161 t161 hq161 => ?_)
      have hq2 := hq161
      obtain ⟨J2, M2, rfl, g1, g2, g3, g4, rfl⟩ := hq161
      refine jx_ifB_eq 171 dX5_readLine_164 (by decide) (fun h164 => ?_) (fun h164 => ?_)
      · rw [h164] at hq2
        refine jx_iconst (v := 0) dX5_readLine_171 (by decide) ?_
        refine jx_zret dX5_readLine_172 rfl ?_ ?_
        · first | exact Or.inl rfl | exact Or.inr rfl | exact jb_or _
        exact ⟨_, rfl, by rw [if_pos hz]; exact LnR_f (eqG_W (eqTt_G t1)) (LnR_q hh p1 hq2)⟩
      · rw [h164] at hq2
        refine jx_iconst (v := 1) dX5_readLine_167 (by decide) ?_
        refine jx_goto 172 dX5_readLine_168 (by decide) ?_
        refine jx_zret dX5_readLine_172 rfl ?_ ?_
        · first | exact Or.inl rfl | exact Or.inr rfl | exact jb_or _
        exact ⟨_, rfl, by rw [if_pos hz]; exact LnR_f (eqG_W (eqTt_G t1)) (LnR_q hh p1 hq2)⟩
  · rw [hl]
    refine jx_tsIn 173 dX5_readLine_4 (by decide) (by decide) rfl (by decide) ?_
    obtain ⟨q1, q2⟩ := liB_s4 (s := s) (T := T) aa
    rw [q1, q2]
    refine jx_aload_n dX5_readLine_173 rfl ?_
    refine jx_bipush (v := 12) dX5_readLine_174 (by decide) ?_
    refine jx_VRi (as := [.int _]) dX5_readLine_176 mlX5_115 okX5_isFirst viX5_isFirst rfl rfl rfl rfl rfl (by decide) (Nat.le_of_ble_eq_true rfl) (tX5_isFirst (s := s) (m := 12) (i := 2) hW hR hx h0 rfl (by decide) hs hs6) (fun x176 t176 hq176 => ?_)
    obtain ⟨J1, rfl, t1, c1, rfl⟩ := hq176
    have p1 : CPk J1 := ⟨hcp.choose, (t1 1006 6 (by decide) (by decide)).trans hcp.choose_spec.1, hcp.choose_spec.2⟩
    refine jx_ifB_eq 193 dX5_readLine_179 (by decide) (fun h179 => ?_) (fun h179 => ?_)
    · have hz : ¬ s &&& 4 = 0 := of_decide_eq_false h179
      rw [if_neg (show ¬ s &&& 2 ^ 2 = 0 from hz)] at c1
      refine jx_iconst (v := 0) dX5_readLine_193 (by decide) ?_
      refine jx_zret dX5_readLine_194 rfl ?_ ?_
      · first | exact Or.inl rfl | exact Or.inr rfl | exact jb_or _
      exact ⟨_, rfl, LnR_b (X := pWr 5 x) (by rw [if_neg hz]; exact pMk_f (pWr_z h0 (by decide))) (pWr_z h0 (by decide)) (fun _ _ _ => rfl) (eqG_W (eqTt_G t1)) (eqGL_r _ L) p1 c1⟩
    · have hz : s &&& 4 = 0 := of_decide_eq_true h179
      rw [if_pos (show s &&& 2 ^ 2 = 0 from hz)] at c1
      have hS1 : LnS R sz tp h W H np len J1 L (stX tp sz x) T (s ||| 4) := ⟨hh, hRt, c1.1, h0, hC.t hh t1 (by omega), c1.2, hB⟩
      refine jx_aload_n dX5_readLine_182 rfl ?_
      refine jx_VRi (as := []) dX5_readLine_183 mlX5_124 okX5_readEbb viX5_readEbb rfl rfl rfl rfl rfl (by decide) (Nat.le_of_ble_eq_true rfl) (tX5_readEbb hW hR hS1) (fun x183 t183 hq183 => ?_)
      have hq2 := hq183
      obtain ⟨J2, M2, rfl, g1, g2, g3, g4, rfl⟩ := hq183
      refine jx_ifB_eq 193 dX5_readLine_186 (by decide) (fun h186 => ?_) (fun h186 => ?_)
      · rw [h186] at hq2
        refine jx_iconst (v := 0) dX5_readLine_193 (by decide) ?_
        refine jx_zret dX5_readLine_194 rfl ?_ ?_
        · first | exact Or.inl rfl | exact Or.inr rfl | exact jb_or _
        exact ⟨_, rfl, by rw [if_pos hz]; exact LnR_f (eqG_W (eqTt_G t1)) (LnR_q hh p1 hq2)⟩
      · rw [h186] at hq2
        refine jx_iconst (v := 1) dX5_readLine_189 (by decide) ?_
        refine jx_goto 194 dX5_readLine_190 (by decide) ?_
        refine jx_zret dX5_readLine_194 rfl ?_ ?_
        · first | exact Or.inl rfl | exact Or.inr rfl | exact jb_or _
        exact ⟨_, rfl, by rw [if_pos hz]; exact LnR_f (eqG_W (eqTt_G t1)) (LnR_q hh p1 hq2)⟩
  · rw [hl]
    refine jx_tsIn 195 dX5_readLine_4 (by decide) (by decide) rfl (by decide) ?_
    obtain ⟨q1, q2⟩ := liB_s8 (s := s) (T := T) aa
    rw [q1, q2]
    refine jx_aload_n dX5_readLine_195 rfl ?_
    refine jx_bipush (v := 13) dX5_readLine_196 (by decide) ?_
    refine jx_VRi (as := [.int _]) dX5_readLine_198 mlX5_115 okX5_isFirst viX5_isFirst rfl rfl rfl rfl rfl (by decide) (Nat.le_of_ble_eq_true rfl) (tX5_isFirst (s := s) (m := 13) (i := 3) hW hR hx h0 rfl (by decide) hs hs6) (fun x198 t198 hq198 => ?_)
    obtain ⟨J1, rfl, t1, c1, rfl⟩ := hq198
    have p1 : CPk J1 := ⟨hcp.choose, (t1 1006 6 (by decide) (by decide)).trans hcp.choose_spec.1, hcp.choose_spec.2⟩
    refine jx_ifB_eq 215 dX5_readLine_201 (by decide) (fun h201 => ?_) (fun h201 => ?_)
    · have hz : ¬ s &&& 8 = 0 := of_decide_eq_false h201
      rw [if_neg (show ¬ s &&& 2 ^ 3 = 0 from hz)] at c1
      refine jx_iconst (v := 0) dX5_readLine_215 (by decide) ?_
      refine jx_zret dX5_readLine_216 rfl ?_ ?_
      · first | exact Or.inl rfl | exact Or.inr rfl | exact jb_or _
      exact ⟨_, rfl, LnR_b (X := pWr 5 x) (by rw [if_neg hz]; exact pMk_f (pWr_z h0 (by decide))) (pWr_z h0 (by decide)) (fun _ _ _ => rfl) (eqG_W (eqTt_G t1)) (eqGL_r _ L) p1 c1⟩
    · have hz : s &&& 8 = 0 := of_decide_eq_true h201
      rw [if_pos (show s &&& 2 ^ 3 = 0 from hz)] at c1
      have hS1 : LnS R sz tp h W H np len J1 L (stX tp sz x) T (s ||| 8) := ⟨hh, hRt, c1.1, h0, hC.t hh t1 (by omega), c1.2, hB⟩
      refine jx_aload_n dX5_readLine_204 rfl ?_
      refine jx_VRi (as := []) dX5_readLine_205 mlX5_127 okX5_readWait viX5_readWait rfl rfl rfl rfl rfl (by decide) (Nat.le_of_ble_eq_true rfl) (tX5_readWait hW hR hS1) (fun x205 t205 hq205 => ?_)
      have hq2 := hq205
      obtain ⟨J2, M2, rfl, g1, g2, g3, g4, rfl⟩ := hq205
      refine jx_ifB_eq 215 dX5_readLine_208 (by decide) (fun h208 => ?_) (fun h208 => ?_)
      · rw [h208] at hq2
        refine jx_iconst (v := 0) dX5_readLine_215 (by decide) ?_
        refine jx_zret dX5_readLine_216 rfl ?_ ?_
        · first | exact Or.inl rfl | exact Or.inr rfl | exact jb_or _
        exact ⟨_, rfl, by rw [if_pos hz]; exact LnR_f (eqG_W (eqTt_G t1)) (LnR_q hh p1 hq2)⟩
      · rw [h208] at hq2
        refine jx_iconst (v := 1) dX5_readLine_211 (by decide) ?_
        refine jx_goto 216 dX5_readLine_212 (by decide) ?_
        refine jx_zret dX5_readLine_216 rfl ?_ ?_
        · first | exact Or.inl rfl | exact Or.inr rfl | exact jb_or _
        exact ⟨_, rfl, by rw [if_pos hz]; exact LnR_f (eqG_W (eqTt_G t1)) (LnR_q hh p1 hq2)⟩
  · rw [hl]
    refine jx_tsIn 217 dX5_readLine_4 (by decide) (by decide) rfl (by decide) ?_
    obtain ⟨q1, q2⟩ := liB_s16 (s := s) (T := T) aa
    rw [q1, q2]
    refine jx_aload_n dX5_readLine_217 rfl ?_
    refine jx_bipush (v := 14) dX5_readLine_218 (by decide) ?_
    refine jx_VRi (as := [.int _]) dX5_readLine_220 mlX5_115 okX5_isFirst viX5_isFirst rfl rfl rfl rfl rfl (by decide) (Nat.le_of_ble_eq_true rfl) (tX5_isFirst (s := s) (m := 14) (i := 4) hW hR hx h0 rfl (by decide) hs hs6) (fun x220 t220 hq220 => ?_)
    obtain ⟨J1, rfl, t1, c1, rfl⟩ := hq220
    have p1 : CPk J1 := ⟨hcp.choose, (t1 1006 6 (by decide) (by decide)).trans hcp.choose_spec.1, hcp.choose_spec.2⟩
    refine jx_ifB_eq 237 dX5_readLine_223 (by decide) (fun h223 => ?_) (fun h223 => ?_)
    · have hz : ¬ s &&& 16 = 0 := of_decide_eq_false h223
      rw [if_neg (show ¬ s &&& 2 ^ 4 = 0 from hz)] at c1
      refine jx_iconst (v := 0) dX5_readLine_237 (by decide) ?_
      refine jx_zret dX5_readLine_238 rfl ?_ ?_
      · first | exact Or.inl rfl | exact Or.inr rfl | exact jb_or _
      exact ⟨_, rfl, LnR_b (X := pWr 5 x) (by rw [if_neg hz]; exact pMk_f (pWr_z h0 (by decide))) (pWr_z h0 (by decide)) (fun _ _ _ => rfl) (eqG_W (eqTt_G t1)) (eqGL_r _ L) p1 c1⟩
    · have hz : s &&& 16 = 0 := of_decide_eq_true h223
      rw [if_pos (show s &&& 2 ^ 4 = 0 from hz)] at c1
      have hS1 : LnS R sz tp h W H np len J1 L (stX tp sz x) T (s ||| 16) := ⟨hh, hRt, c1.1, h0, hC.t hh t1 (by omega), c1.2, hB⟩
      refine jx_aload_n dX5_readLine_226 rfl ?_
      refine jx_VRi (as := []) dX5_readLine_227 mlX5_130 okX5_readFog viX5_readFog rfl rfl rfl rfl rfl (by decide) (Nat.le_of_ble_eq_true rfl) (tX5_readFog hW hR hS1) (fun x227 t227 hq227 => ?_)
      have hq2 := hq227
      obtain ⟨J2, M2, rfl, g1, g2, g3, g4, rfl⟩ := hq227
      refine jx_ifB_eq 237 dX5_readLine_230 (by decide) (fun h230 => ?_) (fun h230 => ?_)
      · rw [h230] at hq2
        refine jx_iconst (v := 0) dX5_readLine_237 (by decide) ?_
        refine jx_zret dX5_readLine_238 rfl ?_ ?_
        · first | exact Or.inl rfl | exact Or.inr rfl | exact jb_or _
        exact ⟨_, rfl, by rw [if_pos hz]; exact LnR_f (eqG_W (eqTt_G t1)) (LnR_q hh p1 hq2)⟩
      · rw [h230] at hq2
        refine jx_iconst (v := 1) dX5_readLine_233 (by decide) ?_
        refine jx_goto 238 dX5_readLine_234 (by decide) ?_
        refine jx_zret dX5_readLine_238 rfl ?_ ?_
        · first | exact Or.inl rfl | exact Or.inr rfl | exact jb_or _
        exact ⟨_, rfl, by rw [if_pos hz]; exact LnR_f (eqG_W (eqTt_G t1)) (LnR_q hh p1 hq2)⟩
  · rw [hl]
    refine jx_tsIn 239 dX5_readLine_4 (by decide) (by decide) rfl (by decide) ?_
    obtain ⟨q1, q2⟩ := liB_s32 (s := s) (T := T) aa
    rw [q1, q2]
    refine jx_aload_n dX5_readLine_239 rfl ?_
    refine jx_bipush (v := 15) dX5_readLine_240 (by decide) ?_
    refine jx_VRi (as := [.int _]) dX5_readLine_242 mlX5_115 okX5_isFirst viX5_isFirst rfl rfl rfl rfl rfl (by decide) (Nat.le_of_ble_eq_true rfl) (tX5_isFirst (s := s) (m := 15) (i := 5) hW hR hx h0 rfl (by decide) hs hs6) (fun x242 t242 hq242 => ?_)
    obtain ⟨J1, rfl, t1, c1, rfl⟩ := hq242
    have p1 : CPk J1 := ⟨hcp.choose, (t1 1006 6 (by decide) (by decide)).trans hcp.choose_spec.1, hcp.choose_spec.2⟩
    refine jx_ifB_eq 269 dX5_readLine_245 (by decide) (fun h245 => ?_) (fun h245 => ?_)
    · have hz : ¬ s &&& 32 = 0 := of_decide_eq_false h245
      rw [if_neg (show ¬ s &&& 2 ^ 5 = 0 from hz)] at c1
      refine jx_iconst (v := 0) dX5_readLine_269 (by decide) ?_
      refine jx_zret dX5_readLine_270 rfl ?_ ?_
      · first | exact Or.inl rfl | exact Or.inr rfl | exact jb_or _
      exact ⟨_, rfl, LnR_b (X := pWr 5 x) (by rw [if_neg hz]; exact pMk_f (pWr_z h0 (by decide))) (pWr_z h0 (by decide)) (fun _ _ _ => rfl) (eqG_W (eqTt_G t1)) (eqGL_r _ L) p1 c1⟩
    · have hz : s &&& 32 = 0 := of_decide_eq_true h245
      rw [if_pos (show s &&& 2 ^ 5 = 0 from hz)] at c1
      have hC1 := hC.t hh t1 (by omega)
      have hA0 : RA J1 h [] := ⟨hC1.2.2.2.2.2.2.2.1.1.trans (h16 hz), Nat.zero_le _, fun k hk => absurd hk (Nat.not_lt_zero k)⟩
      refine jx_aload_n dX5_readLine_248 rfl ?_
      refine jx_getR dX5_readLine_249 flX5_25 rfl rfl (hR _ _ _ rfl) ?_
      refine jx_aload_n dX5_readLine_252 rfl ?_
      refine jx_getR dX5_readLine_253 flX5_33 rfl rfl hRt ?_
      refine jx_getR dX5_readLine_256 flX5_133 (hsh.trans rfl) rfl hRr ?_
      refine jx_VRi (as := [.ref _]) dX5_readLine_259 mlX5_137 okX7_readRule viX7_readRule rfl rfl rfl rfl rfl (by decide) (Nat.le_of_ble_eq_true rfl) (tX7_readRule (cp := p1.choose) hW hR hh c1.1 h0 hA0 p1.choose_spec.1 p1.choose_spec.2) (fun x259 t259 hq259 => ?_)
      obtain ⟨J2, bb, rfl, f2, p2, rfl, y1, y2⟩ := RuQ_e (x := stX tp sz x) hsz hxl h0 p1.choose_spec.2 hq259
      refine jx_ifB_eq 269 dX5_readLine_262 (by decide) (fun h262 => ?_) (fun h262 => ?_)
      · obtain ⟨y3, y4⟩ := y2 h262
        refine jx_iconst (v := 0) dX5_readLine_269 (by decide) ?_
        refine jx_zret dX5_readLine_270 rfl ?_ ?_
        · first | exact Or.inl rfl | exact Or.inr rfl | exact jb_or _
        exact ⟨_, rfl, by rw [if_pos hz]; exact LnR_b rfl y3 (fun a k q => by unfold upR; rw [if_neg q]) (eqW_t (eqG_W (eqTt_G t1)) (eqQ_W hh f2)) (eqGL_r _ L) p2 y4⟩
      · obtain ⟨y3, y4, y5⟩ := y1 h262
        refine jx_iconst (v := 1) dX5_readLine_265 (by decide) ?_
        refine jx_goto 270 dX5_readLine_266 (by decide) ?_
        refine jx_zret dX5_readLine_270 rfl ?_ ?_
        · first | exact Or.inl rfl | exact Or.inr rfl | exact jb_or _
        exact ⟨_, rfl, by rw [if_pos hz]; exact ⟨J2, L, _, rfl, fun a k q => by unfold upR; rw [if_neg q], eqW_t (eqG_W (eqTt_G t1)) (eqQ_W hh f2), eqGL_r _ L, p2, Or.inl ⟨rfl, y3, y4, CTl_rl hh hC1 f2 y5 (by omega), (f2 1004 3 (by decide) (by decide) (by decide) (by omega) (by omega)).trans c1.2⟩⟩⟩
  · rw [hl, q0, Nat.or_zero, liB_0 q0 q1 q2]
    refine jx_tsOut 271 dX5_readLine_4 (by decide) (by decide) ?_
    refine jx_aload_n dX5_readLine_271 rfl ?_
    refine jx_getR dX5_readLine_272 flX5_14 rfl rfl (hR _ _ _ rfl) ?_
    refine jx_iconst (v := 1) dX5_readLine_275 (by decide) ?_
    refine jx_VRi (as := [.int _]) dX5_readLine_276 mlX5_141 okX9_refuse viX9_refuse rfl rfl rfl rfl rfl (by decide) (Nat.le_of_ble_eq_true rfl) (tX9_refuse_x (k := 1) hW hR hx h0 (by decide)) (fun x276 t276 hq276 => ?_)
    obtain ⟨J1, rfl, fJ1, gJ1, rfl⟩ := hq276
    refine jx_zret dX5_readLine_279 rfl ?_ ?_
    · first | exact Or.inl rfl | exact Or.inr rfl | exact jb_or _
    exact ⟨_, rfl, LnR_q hh hcp (LnQ_b rfl (pWr_z h0 (by decide)) (eqR_G fJ1) (eqGL_r _ L) gJ1)⟩
end CZ15
