/-! THE REFERENCE: reading on; x = (place, fault, place of the fault) -/
def P3 (J : Nat → Nat → Int32) (sz : Nat) (tp : Nat → Nat) (x : Nat × Nat × Nat) : Prop := PSt J sz tp x.1 x.2.1 ∧ (x.2.1 ≠ 0 → J 1069 25 = nI x.2.2)
def prsF (b j : Nat) : Bool := stpF b j || decide (b = 1069 ∧ (j = 24 ∨ j = 25))
def eqN (I J : Nat → Nat → Int32) : Prop := ∀ b j : Nat, prsF b j = false → J b j = I b j
theorem eqN_r (I : Nat → Nat → Int32) : eqN I I := fun _ _ _ => rfl
theorem eqN_t {I J K : Nat → Nat → Int32} (h1 : eqN I J) (h2 : eqN J K) : eqN I K := fun b j h => (h2 b j h).trans (h1 b j h)
theorem eqT_n {I J : Nat → Nat → Int32} (h : eqT I J) : eqN I J := fun b j hb => h b j (by
  unfold prsF at hb
  simp only [Bool.or_eq_false_iff] at hb
  exact hb.1)
theorem eqN_u {I J : Nat → Nat → Int32} {a k : Nat} {v : Int32} (h : eqN I J) (ha : prsF a k = true) : eqN I (upI J a k v) := fun b j hb => by
  by_cases e : b = a ∧ j = k
  · rw [e.1, e.2, ha] at hb; cases hb
  · have : upI J a k v b j = J b j := by simp [upI, e]
    rw [this]; exact h b j hb
theorem wrg_n {I : Nat → Nat → Int32} (bd k : Nat) : eqN I (wrg I bd k) := by
  unfold wrg
  split
  · exact eqN_u (eqN_u (eqN_r I) (by decide)) (by decide)
  · exact eqN_r I
def pWr (k : Nat) (x : Nat × Nat × Nat) : Nat × Nat × Nat := if x.2.1 = 0 then (x.1, k, x.1) else x
theorem P3_wr {I : Nat → Nat → Int32} {sz : Nat} {tp : Nat → Nat} {x : Nat × Nat × Nat} (h : P3 I sz tp x) {k : Nat} (hk : k ≤ 5) (hk0 : k ≠ 0) : P3 (wrg I x.2.1 k) sz tp (pWr k x) := by
  unfold wrg pWr
  by_cases e : x.2.1 = 0
  · rw [if_pos e, if_pos e]
    obtain ⟨⟨hK, ⟨t18, t20, t22, t23, t21⟩, hbs, hbd, hb5⟩, hbp⟩ := h
    refine ⟨⟨⟨(upI_j (by decide)).trans ((upI_j (by decide)).trans hK.1), hK.2.1, fun q hq => ⟨(upI_nea' (by decide)).trans ((upI_nea' (by decide)).trans (hK.2.2 q hq).1), (hK.2.2 q hq).2⟩⟩, ⟨(upI_j (by decide)).trans ((upI_j (by decide)).trans t18), (upI_j (by decide)).trans ((upI_j (by decide)).trans t20), (upI_j (by decide)).trans ((upI_j (by decide)).trans t22), (upI_j (by decide)).trans ((upI_j (by decide)).trans t23), fun q => (upI_j (by decide)).trans ((upI_j (by decide)).trans (t21 q))⟩, hbs, (upI_j (by decide)).trans upI_s, hk⟩, fun _ => upI_s.trans t22⟩
  · rw [if_neg e, if_neg e]
    exact h
def pMk (tp : Nat → Nat) (sz c : Nat) (x : Nat × Nat × Nat) : Nat × Nat × Nat := if x.2.1 = 0 then (if mkQ tp sz x.1 0 c = true then (nxt tp sz x.1, 0, x.2.2) else (x.1, 1, x.1)) else x
def pNu (tp : Nat → Nat) (sz lo hi : Nat) (x : Nat × Nat × Nat) : Nat × Nat × Nat := if x.2.1 = 0 then (if numC tp sz x.1 lo hi = 0 then (nxt tp sz x.1, 0, x.2.2) else (x.1, numC tp sz x.1 lo hi, x.1)) else x
def vNu (tp : Nat → Nat) (sz lo hi : Nat) (x : Nat × Nat × Nat) : Nat := if x.2.1 = 0 ∧ numC tp sz x.1 lo hi = 0 then numV tp sz x.1 else 0
section RX
variable {w : jWD} {l : Launch} {n : Nat} {I J : Nat → Nat → Int32} {L : Nat → Nat → Int64} {R : Nat → Nat → Option Nat}
theorem P3_step {sz b bd bp : Nat} {tp : Nat → Nat} (hP : P3 I sz tp (b, bd, bp)) (he : eqT I J) (hts : TS1 J sz tp (tBeg tp sz (tEnd tp sz b))) : P3 J sz tp (nxt tp sz b, bd, bp) := by
  obtain ⟨⟨hK, -, hbs, hbd, hb5⟩, hbp⟩ := hP
  have hb2 := (scn_le (p := fun k => blkQ (tp k)) (sz := sz) _ (tEnd tp sz b) rfl (tEnd_le (tp := tp) hbs).2).2
  exact ⟨⟨hK.t he, hts, hb2, (he 1069 24 (by decide)).trans hbd, hb5⟩, fun q => (he 1069 25 (by decide)).trans (hbp q)⟩

set_option maxHeartbeats 1000000 in
set_option maxRecDepth 20000 in
theorem tX11_mark (hW : jWok w l) (hR : RS R) {sz b bd bp c : Nat} {tp : Nat → Nat} (hP : P3 I sz tp (b, bd, bp)) (hc : c < 256) : jRv w l mX11_mark 3 [.ref 1069, .int (nI c)] (n, shE, I, L, R) (fun t => ∃ J, t = (n, shE, J, L, R) ∧ eqN I J ∧ P3 J sz tp (pMk tp sz c (b, bd, bp))) := by
  refine jRv_of hW (by decide) rfl (Nat.le_of_ble_eq_true rfl) ?_
  have hb5 : bd ≤ 5 := hP.1.2.2.2.2
  have hbd : I 1069 24 = nI bd := hP.1.2.2.2.1
  refine jx_aload_n dX11_mark_0 rfl ?_
  refine jx_getIE dX11_mark_1 flX11_240 rfl rfl (hbd) ?_
  refine jx_ifN_ne (a := bd) 20 dX11_mark_4 (by decide) (by omega) (fun h4 => ?_) (fun h4 => ?_)
  · have hx : pMk tp sz c (b, bd, bp) = (b, bd, bp) := if_neg h4
    rw [hx]
    refine jx_aload_n dX11_mark_20 rfl ?_
    refine jx_getIE dX11_mark_21 flX11_240 rfl rfl (hbd) ?_
    refine jx_ifN_ne (a := bd) 31 dX11_mark_24 (by decide) (by omega) (fun h24 => ?_) (fun h24 => ?_)
    · refine jx_vret dX11_mark_31 rfl ?_
      exact ⟨rfl, _, rfl, eqN_r _, hP⟩
    · exact absurd h24 h4
  · refine jx_aload_n dX11_mark_7 rfl ?_
    refine jx_iload_n dX11_mark_8 rfl ?_
    refine jx_Vi (as := [.int _]) dX11_mark_9 mlX11_258 okX11_isMarked viX11_isMarked rfl rfl rfl rfl rfl (by decide) (Nat.le_of_ble_eq_true rfl) (tX11_isMarked hW hR hP.1 hc) ?_
    refine jx_ifB_ne 20 dX11_mark_12 (by decide) (fun h12 => ?_) (fun h12 => ?_)
    · subst h4
      have hx : pMk tp sz c (b, 0, bp) = (nxt tp sz b, 0, bp) := by unfold pMk; rw [if_pos rfl, if_pos h12]
      rw [hx]
      refine jx_aload_n dX11_mark_20 rfl ?_
      refine jx_getIE dX11_mark_21 flX11_240 rfl rfl (hbd) ?_
      refine jx_ifN_ne (a := 0) 31 dX11_mark_24 (by decide) (by decide) (fun h24 => absurd h24 (by decide)) (fun h24 => ?_)
      refine jx_aload_n dX11_mark_27 rfl ?_
      refine jx_VRv (as := []) dX11_mark_28 mlX11_265 okX11_stepOn viX11_stepOn rfl rfl rfl rfl rfl (by decide) (Nat.le_of_ble_eq_true rfl) (tX11_stepOn hW hR hP.1.1 hP.1.2.1.1 (tEnd_le hP.1.2.2.1).2) (fun t28 hq28 => ?_)
      obtain ⟨J1, rfl, he1, hts⟩ := hq28
      refine jx_vret dX11_mark_31 rfl ?_
      exact ⟨rfl, _, rfl, eqT_n he1, P3_step hP he1 hts⟩
    · refine jx_aload_n dX11_mark_15 rfl ?_
      refine jx_iconst (v := 1) dX11_mark_16 (by decide) ?_
      refine jx_Vv (as := [.int _]) dX11_mark_17 mlX11_261 okX11_wrong viX11_wrong rfl rfl rfl rfl rfl (by decide) (Nat.le_of_ble_eq_true rfl) (tX11_wrongP (k := 1) hW hP.1) ?_
      subst h4
      have hw : P3 (wrg I 0 1) sz tp (b, 1, b) := P3_wr hP (k := 1) (by omega) (by omega)
      have hx : pMk tp sz c (b, 0, bp) = (b, 1, b) := by unfold pMk; rw [if_pos rfl, if_neg (by rw [h12]; decide)]
      rw [hx]
      refine jx_aload_n dX11_mark_20 rfl ?_
      refine jx_getIE dX11_mark_21 flX11_240 rfl rfl (hw.1.2.2.2.1) ?_
      refine jx_ifN_ne (a := 1) 31 dX11_mark_24 (by decide) (by decide) (fun h24 => ?_) (fun h24 => absurd h24 (by decide))
      refine jx_vret dX11_mark_31 rfl ?_
      exact ⟨rfl, _, rfl, wrg_n 0 1, hw⟩
set_option maxHeartbeats 1000000 in
set_option maxRecDepth 20000 in
theorem tX11_readNumber (hW : jWok w l) (hR : RS R) {sz b bd bp lo hi : Nat} {tp : Nat → Nat} (hP : P3 I sz tp (b, bd, bp)) (hlo : lo < 100000) (hhi : hi < 100000) : jRi w l mX11_readNumber 3 [.ref 1069, .int (nI lo), .int (nI hi)] (n, shE, I, L, R) (fun r t => r = nI (vNu tp sz lo hi (b, bd, bp)) ∧ ∃ J, t = (n, shE, J, L, R) ∧ eqN I J ∧ P3 J sz tp (pNu tp sz lo hi (b, bd, bp))) := by
  refine jRi_of hW (by decide) rfl (Nat.le_of_ble_eq_true rfl) ?_
  have hb5 : bd ≤ 5 := hP.1.2.2.2.2
  have hbd : I 1069 24 = nI bd := hP.1.2.2.2.1
  have hnc : numC tp sz b lo hi ≤ 2 := by unfold numC; split <;> (try split) <;> omega
  by_cases e : bd = 0
  · subst e
    by_cases z : numC tp sz b lo hi = 0
    · refine jx_aload_n dX11_readNumber_0 rfl ?_
      refine jx_iload_n dX11_readNumber_1 rfl ?_
      refine jx_iload_n dX11_readNumber_2 rfl ?_
      refine jx_Vi (as := [.int _, .int _]) dX11_readNumber_3 mlX11_268 okX11_numberNow viX11_numberNow rfl rfl rfl rfl rfl (by decide) (Nat.le_of_ble_eq_true rfl) (tX11_numberNow hW hR hP.1 hlo hhi) ?_
      rw [if_pos ⟨rfl, z⟩, if_pos z]
      refine jx_istore_n dX11_readNumber_6 rfl (by decide) ?_
      refine jx_aload_n dX11_readNumber_7 rfl ?_
      refine jx_getIE dX11_readNumber_8 flX11_240 rfl rfl (hbd) ?_
      refine jx_ifN_ne (a := 0) 18 dX11_readNumber_11 (by decide) (by decide) (fun h11 => absurd h11 (by decide)) (fun h11 => ?_)
      refine jx_aload_n dX11_readNumber_14 rfl ?_
      refine jx_VRv (as := []) dX11_readNumber_15 mlX11_265 okX11_stepOn viX11_stepOn rfl rfl rfl rfl rfl (by decide) (Nat.le_of_ble_eq_true rfl) (tX11_stepOn hW hR hP.1.1 hP.1.2.1.1 (tEnd_le hP.1.2.2.1).2) (fun t15 hq15 => ?_)
      obtain ⟨J1, rfl, he1, hts⟩ := hq15
      refine jx_iload_n dX11_readNumber_18 rfl ?_
      refine jx_iret dX11_readNumber_19 rfl ?_
      refine ⟨_, rfl, ?_, _, rfl, eqT_n he1, ?_⟩
      · unfold vNu; rw [if_pos ⟨rfl, z⟩]
      · rw [show pNu tp sz lo hi (b, 0, bp) = (nxt tp sz b, 0, bp) from by unfold pNu; rw [if_pos rfl, if_pos z]]; exact P3_step hP he1 hts
    · have hw : P3 (wrg I 0 (numC tp sz b lo hi)) sz tp (b, numC tp sz b lo hi, b) := P3_wr hP (k := numC tp sz b lo hi) (by omega) z
      refine jx_aload_n dX11_readNumber_0 rfl ?_
      refine jx_iload_n dX11_readNumber_1 rfl ?_
      refine jx_iload_n dX11_readNumber_2 rfl ?_
      refine jx_Vi (as := [.int _, .int _]) dX11_readNumber_3 mlX11_268 okX11_numberNow viX11_numberNow rfl rfl rfl rfl rfl (by decide) (Nat.le_of_ble_eq_true rfl) (tX11_numberNow hW hR hP.1 hlo hhi) ?_
      rw [if_neg (fun q => z q.2), if_neg z]
      refine jx_istore_n dX11_readNumber_6 rfl (by decide) ?_
      refine jx_aload_n dX11_readNumber_7 rfl ?_
      refine jx_getIE dX11_readNumber_8 flX11_240 rfl rfl (hw.1.2.2.2.1) ?_
      refine jx_ifN_ne (a := (numC tp sz b lo hi)) 18 dX11_readNumber_11 (by decide) (by omega) (fun h11 => ?_) (fun h11 => ?_)
      · refine jx_iload_n dX11_readNumber_18 rfl ?_
        refine jx_iret dX11_readNumber_19 rfl ?_
        refine ⟨_, rfl, ?_, _, rfl, wrg_n _ _, ?_⟩
        · unfold vNu; rw [if_neg (fun q => z q.2)]; rfl
        · rw [show pNu tp sz lo hi (b, 0, bp) = (b, numC tp sz b lo hi, b) from by unfold pNu; rw [if_pos rfl, if_neg z]]; exact hw
      · exact absurd h11 z
  · refine jx_aload_n dX11_readNumber_0 rfl ?_
    refine jx_iload_n dX11_readNumber_1 rfl ?_
    refine jx_iload_n dX11_readNumber_2 rfl ?_
    refine jx_Vi (as := [.int _, .int _]) dX11_readNumber_3 mlX11_268 okX11_numberNow viX11_numberNow rfl rfl rfl rfl rfl (by decide) (Nat.le_of_ble_eq_true rfl) (tX11_numberNow hW hR hP.1 hlo hhi) ?_
    rw [if_neg (fun q => e q.1)]
    refine jx_istore_n dX11_readNumber_6 rfl (by decide) ?_
    refine jx_aload_n dX11_readNumber_7 rfl ?_
    refine jx_getIE dX11_readNumber_8 flX11_240 rfl rfl ((by split <;> first | exact hbd | (unfold wrg; rw [if_neg e]; exact hbd))) ?_
    refine jx_ifN_ne (a := bd) 18 dX11_readNumber_11 (by decide) (by omega) (fun h11 => ?_) (fun h11 => ?_)
    · refine jx_iload_n dX11_readNumber_18 rfl ?_
      refine jx_iret dX11_readNumber_19 rfl ?_
      refine ⟨_, rfl, ?_, _, rfl, ?_, ?_⟩
      · unfold vNu; rw [if_neg (fun q => e q.1)]; rfl
      · split
        · exact eqN_r _
        · exact wrg_n _ _
      · rw [show pNu tp sz lo hi (b, bd, bp) = (b, bd, bp) from if_neg e, show (if numC tp sz b lo hi = 0 then I else wrg I bd (numC tp sz b lo hi)) = I from by split <;> first | rfl | (unfold wrg; rw [if_neg e])]; exact hP
    · exact absurd h11 e
end RX
