/-! THE REFERENCE: marks, numbers -/
/-- the parser stands before the token at b; bd is the fault so far -/
def PSt (J : Nat → Nat → Int32) (sz : Nat) (tp : Nat → Nat) (b bd : Nat) : Prop := TK J sz tp ∧ TS1 J sz tp b ∧ b ≤ sz ∧ J 1069 24 = nI bd ∧ bd ≤ 5
def nxt (tp : Nat → Nat) (sz b : Nat) : Nat := tBeg tp sz (tEnd tp sz b)
def mkQ (tp : Nat → Nat) (sz b bd c : Nat) : Bool := decide (bd = 0) && decide (tKd tp sz b = 3) && decide (tp b = c)
def numC (tp : Nat → Nat) (sz b lo hi : Nat) : Nat := if ¬ tKd tp sz b = 2 then 1 else if 4 < tEnd tp sz b - b ∨ tVal tp b (tEnd tp sz b - b) < lo ∨ hi < tVal tp b (tEnd tp sz b - b) then 2 else 0
def numV (tp : Nat → Nat) (sz b : Nat) : Nat := tVal tp b (tEnd tp sz b - b)
def wrg (I : Nat → Nat → Int32) (bd k : Nat) : Nat → Nat → Int32 := if bd = 0 then upI (upI I 1069 24 (nI k)) 1069 25 (I 1069 22) else I
theorem tEnd_le {tp : Nat → Nat} {sz b : Nat} (hb : b ≤ sz) : b ≤ tEnd tp sz b ∧ tEnd tp sz b ≤ sz := by
  unfold tEnd
  split
  · exact ⟨Nat.le_refl _, hb⟩
  · split
    · exact scn_le _ b rfl hb
    · split
      · exact scn_le _ b rfl hb
      · omega
theorem tKd_lt {tp : Nat → Nat} {sz b : Nat} (h : tKd tp sz b ≠ 0) : b < sz := by
  unfold tKd at h
  by_cases e : sz ≤ b
  · rw [if_pos e] at h; exact absurd rfl h
  · omega
theorem tKd_le (tp : Nat → Nat) (sz b : Nat) : tKd tp sz b ≤ 4 := by
  unfold tKd
  split
  · omega
  · split
    · omega
    · split
      · omega
      · split <;> omega
section RW
variable {w : jWD} {l : Launch} {n : Nat} {I J : Nat → Nat → Int32} {L : Nat → Nat → Int64} {R : Nat → Nat → Option Nat}

set_option maxHeartbeats 1000000 in
set_option maxRecDepth 20000 in
theorem tX11_isMarked (hW : jWok w l) (hR : RS R) {sz b bd : Nat} {tp : Nat → Nat} (hP : PSt I sz tp b bd) {c : Nat} (hc : c < 256)  : jCD w l mX11_isMarked 1 [.ref 1069, .int (nI c)] (n, shE, I, L, R) (some (.int (jb (mkQ tp sz b bd c)))) (n, shE, I, L, R) := by
  refine jCD_of hW (by decide) rfl (Nat.le_of_ble_eq_true rfl) ?_
  obtain ⟨hK, ⟨t18, t20, t22, t23, t21⟩, hbs, hbd, hb5⟩ := hP
  have hz7 := hK.2.1
  have hkl := tKd_le tp sz b
  obtain ⟨hel, her⟩ := tEnd_le (tp := tp) hbs
  refine jx_aload_n dX11_isMarked_0 rfl ?_
  refine jx_getIE dX11_isMarked_1 flX11_240 rfl rfl (hbd) ?_
  refine jx_ifN_ne (a := bd) 32 dX11_isMarked_4 (by decide) (by omega) (fun h4 => ?_) (fun h4 => ?_)
  · refine jx_iconst (v := 0) dX11_isMarked_32 (by decide) ?_
    refine jx_zret dX11_isMarked_33 rfl ?_ ?_
    · first | exact Or.inl rfl | exact Or.inr rfl | exact jb_or _
    refine ⟨?_, rfl⟩
    unfold mkQ
    first | (rw [decide_eq_false h4]; rfl) | (rw [decide_eq_false h12, Bool.and_false]; rfl) | (rw [decide_eq_false h25, Bool.and_false]; rfl)
  · refine jx_aload_n dX11_isMarked_7 rfl ?_
    refine jx_getIE dX11_isMarked_8 flX11_214 rfl rfl (t20) ?_
    refine jx_iconst (v := 3) dX11_isMarked_11 (by decide) ?_
    refine jx_icmpN_ne (a := (tKd tp sz b)) (b := 3) 32 dX11_isMarked_12 (by decide) (by omega) (by omega) (fun h12 => ?_) (fun h12 => ?_)
    · refine jx_iconst (v := 0) dX11_isMarked_32 (by decide) ?_
      refine jx_zret dX11_isMarked_33 rfl ?_ ?_
      · first | exact Or.inl rfl | exact Or.inr rfl | exact jb_or _
      refine ⟨?_, rfl⟩
      unfold mkQ
      first | (rw [decide_eq_false h4]; rfl) | (rw [decide_eq_false h12, Bool.and_false]; rfl) | (rw [decide_eq_false h25, Bool.and_false]; rfl)
    · have hbl := tKd_lt (tp := tp) (sz := sz) (b := b) (by omega)
      have htp := (hK.2.2 b hbl).2
      refine jx_aload_n dX11_isMarked_15 rfl ?_
      refine jx_getR dX11_isMarked_16 flX11_75 rfl rfl (hR _ _ _ rfl) ?_
      refine jx_aload_n dX11_isMarked_19 rfl ?_
      refine jx_getIE dX11_isMarked_20 flX11_211 rfl rfl (t22) ?_
      refine jx_ialdE (b) dX11_isMarked_23 rfl (rfl) (by omega) (by omega) ((hK.2.2 b hbl).1) ?_
      refine jx_iload_n dX11_isMarked_24 rfl ?_
      refine jx_icmpN_ne (a := (tp b)) (b := c) 32 dX11_isMarked_25 (by decide) (by omega) (by omega) (fun h25 => ?_) (fun h25 => ?_)
      · refine jx_iconst (v := 0) dX11_isMarked_32 (by decide) ?_
        refine jx_zret dX11_isMarked_33 rfl ?_ ?_
        · first | exact Or.inl rfl | exact Or.inr rfl | exact jb_or _
        refine ⟨?_, rfl⟩
        unfold mkQ
        first | (rw [decide_eq_false h4]; rfl) | (rw [decide_eq_false h12, Bool.and_false]; rfl) | (rw [decide_eq_false h25, Bool.and_false]; rfl)
      · refine jx_iconst (v := 1) dX11_isMarked_28 (by decide) ?_
        refine jx_goto 33 dX11_isMarked_29 (by decide) ?_
        refine jx_zret dX11_isMarked_33 rfl ?_ ?_
        · first | exact Or.inl rfl | exact Or.inr rfl | exact jb_or _
        refine ⟨?_, rfl⟩
        unfold mkQ
        rw [decide_eq_true h4, decide_eq_true h12, decide_eq_true h25]; rfl
theorem tX11_wrongP (hW : jWok w l) {sz b bd : Nat} {tp : Nat → Nat} (hP : PSt I sz tp b bd) (k : Nat) : jCD w l mX11_wrong 1 [.ref 1069, .int (nI k)] (n, shE, I, L, R) none (n, shE, wrg I bd k, L, R) := tX11_wrong hW hP.2.2.2.1 hP.2.2.2.2 (nI k)
set_option maxHeartbeats 1000000 in
set_option maxRecDepth 20000 in
theorem tX11_numberNow (hW : jWok w l) (hR : RS R) {sz b bd : Nat} {tp : Nat → Nat} (hP : PSt I sz tp b bd) {lo hi : Nat} (hlo : lo < 100000) (hhi : hi < 100000)  : jCD w l mX11_numberNow 2 [.ref 1069, .int (nI lo), .int (nI hi)] (n, shE, I, L, R) (some (.int (if bd = 0 ∧ numC tp sz b lo hi = 0 then nI (numV tp sz b) else 0))) (n, shE, if numC tp sz b lo hi = 0 then I else wrg I bd (numC tp sz b lo hi), L, R) := by
  refine jCD_of hW (by decide) rfl (Nat.le_of_ble_eq_true rfl) ?_
  have hP0 := hP
  obtain ⟨hK, ⟨t18, t20, t22, t23, t21⟩, hbs, hbd, hb5⟩ := hP
  have hz7 := hK.2.1
  have hkl := tKd_le tp sz b
  obtain ⟨hel, her⟩ := tEnd_le (tp := tp) hbs
  refine jx_aload_n dX11_numberNow_0 rfl ?_
  refine jx_getIE dX11_numberNow_1 flX11_240 rfl rfl (hbd) ?_
  refine jx_ifN_eq (a := bd) 9 dX11_numberNow_4 (by decide) (by omega) (fun h4 => ?_) (fun h4 => ?_)
  · refine jx_aload_n dX11_numberNow_9 rfl ?_
    refine jx_getIE dX11_numberNow_10 flX11_214 rfl rfl (t20) ?_
    refine jx_iconst (v := 2) dX11_numberNow_13 (by decide) ?_
    refine jx_icmpN_eq (a := (tKd tp sz b)) (b := 2) 25 dX11_numberNow_14 (by decide) (by omega) (by omega) (fun h14 => ?_) (fun h14 => ?_)
    · have hvl : numV tp sz b ≤ 100000 := tVal_le _ _ _
      refine jx_aload_n dX11_numberNow_25 rfl ?_
      refine jx_getIE dX11_numberNow_26 flX11_237 rfl rfl (t23) ?_
      refine jx_aload_n dX11_numberNow_29 rfl ?_
      refine jx_getIE dX11_numberNow_30 flX11_211 rfl rfl (t22) ?_
      refine jx_isubE (z := nI ((tEnd tp sz b) - b)) dX11_numberNow_33 (pk_sub (a := (tEnd tp sz b)) (b := b) (by omega)) ?_
      refine jx_iconst (v := 4) dX11_numberNow_34 (by decide) ?_
      refine jx_icmpN_gt (a := ((tEnd tp sz b) - b)) (b := 4) 54 dX11_numberNow_35 (by decide) (by omega) (by omega) (fun h35 => ?_) (fun h35 => ?_)
      · refine jx_aload_n dX11_numberNow_54 rfl ?_
        refine jx_iconst (v := 2) dX11_numberNow_55 (by decide) ?_
        refine jx_Vv (as := [.int _]) dX11_numberNow_56 mlX11_261 okX11_wrong viX11_wrong rfl rfl rfl rfl rfl (by decide) (Nat.le_of_ble_eq_true rfl) (tX11_wrongP (k := 2) hW hP0) ?_
        have hc : numC tp sz b lo hi = 2 := by unfold numC; rw [if_neg (by omega), if_pos (by have : numV tp sz b = tVal tp b (tEnd tp sz b - b) := rfl; omega)]
        have ew : wrg I bd 2 = upI (upI I 1069 24 (nI 2)) 1069 25 (I 1069 22) := if_pos h4
        rw [hc, if_neg (by omega), if_neg (by omega), ew]
        refine jx_aload_n dX11_numberNow_59 rfl ?_
        refine jx_getIE dX11_numberNow_60 flX11_240 rfl rfl ((upI_j (by decide)).trans upI_s) ?_
        refine jx_ifN_ne (a := 2) 73 dX11_numberNow_63 (by decide) (by decide) (fun h63 => ?_) (fun h63 => absurd h63 (by decide))
        refine jx_iconst (v := 0) dX11_numberNow_73 (by decide) ?_
        refine jx_iret dX11_numberNow_74 rfl ?_
        exact ⟨rfl, rfl⟩
      · refine jx_aload_n dX11_numberNow_38 rfl ?_
        refine jx_getIE dX11_numberNow_39 flX11_224 rfl rfl (t21 h14) ?_
        refine jx_iload_n dX11_numberNow_42 rfl ?_
        refine jx_icmpN_lt (a := (numV tp sz b)) (b := lo) 54 dX11_numberNow_43 (by decide) (by omega) (by omega) (fun h43 => ?_) (fun h43 => ?_)
        · refine jx_aload_n dX11_numberNow_54 rfl ?_
          refine jx_iconst (v := 2) dX11_numberNow_55 (by decide) ?_
          refine jx_Vv (as := [.int _]) dX11_numberNow_56 mlX11_261 okX11_wrong viX11_wrong rfl rfl rfl rfl rfl (by decide) (Nat.le_of_ble_eq_true rfl) (tX11_wrongP (k := 2) hW hP0) ?_
          have hc : numC tp sz b lo hi = 2 := by unfold numC; rw [if_neg (by omega), if_pos (by have : numV tp sz b = tVal tp b (tEnd tp sz b - b) := rfl; omega)]
          have ew : wrg I bd 2 = upI (upI I 1069 24 (nI 2)) 1069 25 (I 1069 22) := if_pos h4
          rw [hc, if_neg (by omega), if_neg (by omega), ew]
          refine jx_aload_n dX11_numberNow_59 rfl ?_
          refine jx_getIE dX11_numberNow_60 flX11_240 rfl rfl ((upI_j (by decide)).trans upI_s) ?_
          refine jx_ifN_ne (a := 2) 73 dX11_numberNow_63 (by decide) (by decide) (fun h63 => ?_) (fun h63 => absurd h63 (by decide))
          refine jx_iconst (v := 0) dX11_numberNow_73 (by decide) ?_
          refine jx_iret dX11_numberNow_74 rfl ?_
          exact ⟨rfl, rfl⟩
        · refine jx_aload_n dX11_numberNow_46 rfl ?_
          refine jx_getIE dX11_numberNow_47 flX11_224 rfl rfl (t21 h14) ?_
          refine jx_iload_n dX11_numberNow_50 rfl ?_
          refine jx_icmpN_le (a := (numV tp sz b)) (b := hi) 59 dX11_numberNow_51 (by decide) (by omega) (by omega) (fun h51 => ?_) (fun h51 => ?_)
          · have hc : numC tp sz b lo hi = 0 := by unfold numC; rw [if_neg (by omega), if_neg (by have : numV tp sz b = tVal tp b (tEnd tp sz b - b) := rfl; omega)]
            rw [if_pos ⟨h4, hc⟩, if_pos hc]
            refine jx_aload_n dX11_numberNow_59 rfl ?_
            refine jx_getIE dX11_numberNow_60 flX11_240 rfl rfl (hbd) ?_
            refine jx_ifN_ne (a := bd) 73 dX11_numberNow_63 (by decide) (by omega) (fun h63 => ?_) (fun h63 => ?_)
            · exact absurd h4 h63
            · refine jx_aload_n dX11_numberNow_66 rfl ?_
              refine jx_getIE dX11_numberNow_67 flX11_224 rfl rfl (t21 h14) ?_
              refine jx_goto 74 dX11_numberNow_70 (by decide) ?_
              refine jx_iret dX11_numberNow_74 rfl ?_
              exact ⟨rfl, rfl⟩
          · refine jx_aload_n dX11_numberNow_54 rfl ?_
            refine jx_iconst (v := 2) dX11_numberNow_55 (by decide) ?_
            refine jx_Vv (as := [.int _]) dX11_numberNow_56 mlX11_261 okX11_wrong viX11_wrong rfl rfl rfl rfl rfl (by decide) (Nat.le_of_ble_eq_true rfl) (tX11_wrongP (k := 2) hW hP0) ?_
            have hc : numC tp sz b lo hi = 2 := by unfold numC; rw [if_neg (by omega), if_pos (by have : numV tp sz b = tVal tp b (tEnd tp sz b - b) := rfl; omega)]
            have ew : wrg I bd 2 = upI (upI I 1069 24 (nI 2)) 1069 25 (I 1069 22) := if_pos h4
            rw [hc, if_neg (by omega), if_neg (by omega), ew]
            refine jx_aload_n dX11_numberNow_59 rfl ?_
            refine jx_getIE dX11_numberNow_60 flX11_240 rfl rfl ((upI_j (by decide)).trans upI_s) ?_
            refine jx_ifN_ne (a := 2) 73 dX11_numberNow_63 (by decide) (by decide) (fun h63 => ?_) (fun h63 => absurd h63 (by decide))
            refine jx_iconst (v := 0) dX11_numberNow_73 (by decide) ?_
            refine jx_iret dX11_numberNow_74 rfl ?_
            exact ⟨rfl, rfl⟩
    · refine jx_aload_n dX11_numberNow_17 rfl ?_
      refine jx_iconst (v := 1) dX11_numberNow_18 (by decide) ?_
      refine jx_Vv (as := [.int _]) dX11_numberNow_19 mlX11_261 okX11_wrong viX11_wrong rfl rfl rfl rfl rfl (by decide) (Nat.le_of_ble_eq_true rfl) (tX11_wrongP (k := 1) hW hP0) ?_
      refine jx_goto 59 dX11_numberNow_22 (by decide) ?_
      have hc : numC tp sz b lo hi = 1 := by unfold numC; rw [if_pos h14]
      have ew : wrg I bd 1 = upI (upI I 1069 24 (nI 1)) 1069 25 (I 1069 22) := if_pos h4
      rw [hc, if_neg (by omega), if_neg (by omega), ew]
      refine jx_aload_n dX11_numberNow_59 rfl ?_
      refine jx_getIE dX11_numberNow_60 flX11_240 rfl rfl ((upI_j (by decide)).trans upI_s) ?_
      refine jx_ifN_ne (a := 1) 73 dX11_numberNow_63 (by decide) (by decide) (fun h63 => ?_) (fun h63 => absurd h63 (by decide))
      refine jx_iconst (v := 0) dX11_numberNow_73 (by decide) ?_
      refine jx_iret dX11_numberNow_74 rfl ?_
      exact ⟨rfl, rfl⟩
  · refine jx_iconst (v := 0) dX11_numberNow_7 (by decide) ?_
    refine jx_iret dX11_numberNow_8 rfl ?_
    rw [if_neg (fun q => h4 q.1)]
    refine ⟨rfl, ?_⟩
    unfold wrg
    rw [if_neg h4]
    split <;> rfl
set_option maxHeartbeats 1000000 in
set_option maxRecDepth 20000 in
theorem tX11_lay (hW : jWok w l) (hR : RS R) {bd len : Nat} (hbd : I 1069 24 = nI bd) (hb5 : bd ≤ 5) (hl : I 1072 33 = nI len) (hl7 : len < 700) (s : Int32)  : jCD w l mX11_lay 1 [.ref 1069, .int s] (n, shE, I, L, R) none (n, shE, if bd = 0 then upI (upI I 1082 (700 + len) s) 1072 33 (nI (len + 1)) else I, L, R) := by
  refine jCD_of hW (by decide) rfl (Nat.le_of_ble_eq_true rfl) ?_
  refine jx_aload_n dX11_lay_0 rfl ?_
  refine jx_getIE dX11_lay_1 flX11_240 rfl rfl (hbd) ?_
  refine jx_ifN_eq (a := bd) 8 dX11_lay_4 (by decide) (by omega) (fun h4 => ?_) (fun h4 => ?_)
  · refine jx_aload_n dX11_lay_8 rfl ?_
    refine jx_getR dX11_lay_9 flX11_65 rfl rfl (hR _ _ _ rfl) ?_
    refine jx_sipush (v := 700) dX11_lay_12 (by decide) ?_
    refine jx_aload_n dX11_lay_15 rfl ?_
    refine jx_getR dX11_lay_16 flX11_34 rfl rfl (hR _ _ _ rfl) ?_
    refine jx_bipush (v := 33) dX11_lay_19 (by decide) ?_
    refine jx_ialdE (33) dX11_lay_21 rfl (rfl) (by omega) (by omega) (hl) ?_
    refine jx_iaddE (z := nI (700 + len)) dX11_lay_22 (nI_add 700 len) ?_
    refine jx_iload_n dX11_lay_23 rfl ?_
    refine jx_iastN (700 + len) dX11_lay_24 rfl (rfl) (by omega) (by omega) ?_
    refine jx_aload_n dX11_lay_25 rfl ?_
    refine jx_getR dX11_lay_26 flX11_34 rfl rfl (hR _ _ _ rfl) ?_
    refine jx_bipush (v := 33) dX11_lay_29 (by decide) ?_
    refine jx_dup2 dX11_lay_31 rfl rfl ?_
    refine jx_ialdE (33) dX11_lay_32 rfl (rfl) (by omega) (by omega) ((upI_nea' (by decide)).trans hl) ?_
    refine jx_iconst (v := 1) dX11_lay_33 (by decide) ?_
    refine jx_iaddE (z := nI (len + 1)) dX11_lay_34 (nI_add len 1) ?_
    refine jx_iastN (33) dX11_lay_35 rfl (rfl) (by omega) (by omega) ?_
    refine jx_vret dX11_lay_36 rfl ?_
    rw [if_pos h4]
    exact ⟨rfl, rfl⟩
  · refine jx_vret dX11_lay_7 rfl ?_
    rw [if_neg h4]
    exact ⟨rfl, rfl⟩
end RW
