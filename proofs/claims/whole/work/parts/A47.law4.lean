/-! special cases of the law -/
section SP
variable {w : jWD} {l : Launch} {n : Nat} {I J K : Nat → Nat → Int32} {L M : Nat → Nat → Int64} {R : Nat → Nat → Option Nat} {h g W H np len b s tn : Nat} {tp : Nat → Nat}
theorem hR_C (e : ∀ a j, 1069 ≤ a → K a j = I a j) : hR K = hR I := hR_e (fun a j q => e a j (hRd_s q).1)
theorem RI_h (hI : RI (hR I) W H np len) (e : hR K = hR I) : RI K W H np len := by
  have q : RI (hR K) W H np len := by rw [e]; exact hI
  exact q
theorem b255 (y : Int32) : 0 ≤ (y &&& 255).toInt ∧ (y &&& 255).toInt < 256 := by
  have e : (y &&& 255).toBitVec = y.toBitVec &&& 255#32 := rfl
  have e2 : (y &&& 255).toBitVec.toNat ≤ 255 := by rw [e, BitVec.toNat_and]; exact Nat.and_le_right
  have e3 : (y &&& 255).toInt = (y &&& 255).toBitVec.toInt := rfl
  rw [e3, BitVec.toInt_eq_toNat_of_lt (by omega)]
  omega
set_option maxHeartbeats 1000000 in
theorem kD_feed (hW : jWok w l) (hV : INV I L R) (x1 x2 x3 x4 x5 : Int32) : jDir w l mX10_feed mX11_feed [.int x1, .int x2, .int x3, .int x4, .int x5] n I L R := by
  obtain ⟨h, g, W, H, np, len, b, s, tn, tp, hv⟩ := hV
  have hRS := hv.rs
  obtain ⟨f1, f2, f3, f4⟩ := hv.pf
  by_cases hb : 700 < tn + 20
  · refine ⟨2, 1, by decide, by decide, jCD_i (tX10_feed0 hW hRS f1 f3 hb x1 x2 x3 x4 x5) ⟨I, L, rfl, jCD_i (tX11_feed hW hRS f2 f3 x1 x2 x3 x4 x5) ⟨if_pos hb, _, rfl, ?_⟩⟩⟩
    rw [if_pos hb]
    exact ⟨h, g, W, H, np, len, b, s, tn, tp, IV_2 hv 0⟩
  · refine ⟨2, 1, by decide, by decide, jRi_m (tX10_feed hW hRS f1 (by omega) x1 x2 x3 x4 x5) ?_⟩
    rintro r t ⟨rfl, J, rfl, j1, j2, j3⟩
    have e17 : J 1069 17 = nI tn := (j3 _ _ (by omega) (by omega)).trans f2
    refine ⟨J, L, rfl, jCD_i (tX11_feed hW hRS e17 f3 x1 x2 x3 x4 x5) ⟨if_neg hb, _, rfl, ?_⟩⟩
    rw [if_neg hb]
    generalize hK : flo (upI (upI J 1069 2 0) 1069 17 (nI (tn + 20))) 1085 tn (fedB x1 x2 x3 x4 x5) 20 = K
    have e : ∀ a j, ¬ (a = 1000 ∧ j = 1) → a ≠ 1001 → ¬ (a = 1069 ∧ (j = 2 ∨ j = 17)) → a ≠ 1085 → K a j = I a j := fun a j h1 h2 h3 h4 => by
      rw [← hK, flo_ne h4, upI_ne (by omega), upI_ne (by omega)]
      exact j3 a j (by omega) h1
    have eJ : ∀ a j, a < 1069 → K a j = J a j := fun a j h1 => by
      rw [← hK, flo_ne (by omega), upI_nea (by omega), upI_nea (by omega)]
    refine ⟨h, g, W, H, np, len, b, s, tn + 20, fun k => if k < tn then tp k else cN (fedB x1 x2 x3 x4 x5 (k - tn)), hv.rs, hv.hg, hv.r5, ?_, PT_f hv.wh.1 hv.wh.2 hv.pt (fun a j q => e a j (by omega) (by omega) (by omega) (by omega)), CPk_f hv.cp (e _ _ (by omega) (by omega) (by omega) (by omega)), PB_f hv.pb (fun a j q => e a j (by omega) (by omega) (by omega) (by omega)), PS_f hv.ps (fun a j q => e a j (by omega) (by omega) (by omega) (by omega)), PN_f hv.pn (fun a j q => e a j (by omega) (by omega) (by omega) (by omega)), ?_, PG_f hv.pg (fun a j q => e a j (by omega) (by omega) (by omega) (by omega)), PC_f hv.pc (fun a j q => e a j (by omega) (by omega) (by omega) (by omega)), PW_f hv.pw (fun a j q => e a j (by omega) (by omega) (by omega) (by omega)), PD_f hv.pd (fun a j q => e a j (by omega) (by omega) (by omega) (by omega)), PI_f hv.pi (fun a j q => e a j (by omega) (by omega) (by omega) (by omega))⟩
    · exact CX_KK hv.cx (fun a j _ _ => e a j (by omega) (by omega) (by omega) (by omega)) (fun a j _ _ => e a j (by omega) (by omega) (by omega) (by omega))
    · refine ⟨(eJ _ _ (by decide)).trans j1, ?_, by omega, fun k hk => ?_⟩
      · rw [← hK, flo_ne (by decide), upI_s]
      · dsimp only
        by_cases z : k < tn
        · rw [if_pos z]
          obtain ⟨q1, q2, q3⟩ := f4 k z
          refine ⟨(eJ _ _ (by decide)).trans ((j3 _ _ (by omega) (by omega)).trans q1), ?_, q3⟩
          rw [← hK]
          unfold flo
          rw [if_neg (by omega), upI_nea (by decide), upI_nea (by decide)]
          exact (j3 _ _ (by omega) (by omega)).trans q2
        · rw [if_neg z]
          obtain ⟨d, rfl⟩ : ∃ d, k = tn + d := ⟨k - tn, by omega⟩
          have hd : d < 20 := by omega
          rw [show tn + d - tn = d by omega]
          have hy := b255 (wdQ x1 x2 x3 x4 x5 d >>> (nI (24 - 8 * (d % 4)) &&& 31))
          have hc : (cN (fedB x1 x2 x3 x4 x5 d) : Int) = (fedB x1 x2 x3 x4 x5 d).toInt := Int.toNat_of_nonneg hy.1
          have hn : nI (cN (fedB x1 x2 x3 x4 x5 d)) = fedB x1 x2 x3 x4 x5 d := (nI_cN hy.1).symm
          have hy2 : (fedB x1 x2 x3 x4 x5 d).toInt < 256 := hy.2
          refine ⟨(eJ _ _ (by decide)).trans ((j2 d hd).trans ?_), ?_, by omega⟩
          · unfold sb
            rw [hn]
            unfold fedB pbB
            rw [i8_m]
          · rw [hn, ← hK]
            unfold flo
            rw [if_pos (by omega), show tn + d - tn = d by omega]

set_option maxHeartbeats 2000000 in
theorem kL_cross (hW : jWok w l) (hV : INV I L R) (x1 x2 x3 : Int32) : jCas w l mL_cross mX11_cross [.int x1, .int x2, .int x3] (fun r => r.toInt64) n I L R := by
  obtain ⟨h, g, W, H, np, len, b, s, tn, tp, hv⟩ := hV
  have hRS := hv.rs
  by_cases hg : ltQ x1 np = true ∧ dayQ x2 = true ∧ tickQ x3 = true
  · obtain ⟨g1, g2, g3⟩ := hg
    obtain ⟨p, rfl, hp⟩ := ltQ_n g1
    obtain ⟨day, rfl, hd⟩ := dayQ_n g2
    obtain ⟨tick, rfl, ht⟩ := tickQ_n g3
    have hd : day ≤ 40 := by omega
    refine ⟨8, 6, 0, by decide, by decide, jCt_m (gL_cross hW (tX10_cross hW hRS hv.cx hp hd ht) ?_) ?_⟩
    · rintro r t ⟨-, J, M, -, -, c1, c2⟩
      by_cases z : arr (hR I) W H len day (hR I 1072 7) p 0 tick = 1000
      · exact ⟨_, _, _, _, (c1 z).1⟩
      · exact ⟨_, _, _, _, (c2 z).2.2.1⟩
    rintro v t ⟨rfl, r, n', J', M', R', ⟨r', rfl, rfl, J, M, e1, e2, c1, c2⟩, rfl⟩
    generalize ha : arr (hR I) W H len day (hR I 1072 7) p 0 tick = a at c1 c2 ⊢
    by_cases z : a = 1000
    · obtain ⟨q, cx⟩ := c1 z
      cases q
      have hJ : hR J' = hR I := hR_D (eqC_D e1)
      have iv := IV_D hv (eqC_D e1) cx (aI a).toInt64
      have ha' : arr J' W H len day (J' 1072 7) p 0 tick = a := by rw [← ha, ← hJ, h_arr] <;> rfl
      refine ⟨rfl, n, J', _, R, Nat.le_refl _, rfl, jRi_m (tX11_cross hW hRS iv.ri hp hd ht) ?_⟩
      rintro r t ⟨rfl, K, rfl, ek⟩
      rw [ha', if_pos z] at ek
      refine ⟨K, rfl, code_S ek, fun _ => ?_, ⟨h, g, W, H, np, len, b, s, tn, tp, IV_S iv ek⟩⟩
      rw [upL_same, ha']
    · obtain ⟨q1, q2, q, cx⟩ := c2 z
      cases q
      generalize hJ2 : upI (upI (flo J 1002 tick (wyF (hR I) W H len day (hR I 1072 7) p tick) (a - tick + 1)) 1000 12 (nI tick)) 1000 13 (nI a) = J2 at cx ⊢
      have eJ2 : ∀ a' j, ¬ (a' = 1000 ∧ (j = 12 ∨ j = 13)) → a' ≠ 1002 → J2 a' j = J a' j := fun a' j h1 h2 => by
        rw [← hJ2, upI_ne (by omega), upI_ne (by omega), flo_ne h2]
      have hJ : hR J2 = hR I := (hR_C (fun a' j h1 => eJ2 a' j (by omega) (by omega))).trans (hR_D (eqC_D e1))
      have ha' : arr J2 W H len day (J2 1072 7) p 0 tick = a := by rw [← ha, ← hJ, h_arr] <;> rfl
      have hw' : wyF J2 W H len day (J2 1072 7) p tick = wyF (hR I) W H len day (hR I 1072 7) p tick := by rw [← hJ, h_wyF] <;> rfl
      refine ⟨rfl, n, J2, _, R, Nat.le_refl _, rfl, jRi_m (tX11_cross hW hRS (RI_h hv.cx.1.2.2.1 hJ) hp hd ht) ?_⟩
      rintro r t ⟨rfl, K, rfl, ek⟩
      rw [ha', if_neg z, hw'] at ek
      have e : ∀ a' j, qk a' j → ¬ (a' = 1000 ∧ (j = 12 ∨ j = 13)) → a' ≠ 1002 → ¬ (a' = 1069 ∧ j = 38) → a' ≠ 1092 → K a' j = I a' j := fun a' j h1 h2 h3 h4 h5 => by
        rw [ek a' j (qk_s h1).1, fl_ne h5, upI_ne h4, upI_ne (qk_s h1).2, eJ2 a' j h2 h3]
        exact eqC_D e1 a' j (qk_D h1)
      refine ⟨K, rfl, ?_, fun _ => ?_, ⟨h, g, W, H, np, len, b, s, tn, tp, hv.rs, hv.hg, hv.r5, ?_, PT_f hv.wh.1 hv.wh.2 hv.pt (fun a j q => e a j (by unfold qk; omega) (by omega) (by omega) (by omega) (by omega)), CPk_f hv.cp (e _ _ (by unfold qk; omega) (by omega) (by omega) (by omega) (by omega)), PB_f hv.pb (fun a j q => e a j (by unfold qk; omega) (by omega) (by omega) (by omega) (by omega)), PS_f hv.ps (fun a j q => e a j (by unfold qk; omega) (by omega) (by omega) (by omega) (by omega)), PN_f hv.pn (fun a j q => e a j (by unfold qk; omega) (by omega) (by omega) (by omega) (by omega)), PF_f hv.pf (fun a j q => e a j (by unfold qk; omega) (by omega) (by omega) (by omega) (by omega)), PG_f hv.pg (fun a j q => e a j (by unfold qk; omega) (by omega) (by omega) (by omega) (by omega)), PC_f hv.pc (fun a j q => e a j (by unfold qk; omega) (by omega) (by omega) (by omega) (by omega)), ?_, PD_f hv.pd (fun a j q => e a j (by unfold qk; omega) (by omega) (by omega) (by omega) (by omega)), PI_f hv.pi (fun a j q => e a j (by unfold qk; omega) (by omega) (by omega) (by omega) (by omega))⟩⟩
      · rw [ek 1069 2 rfl, fl_ne (by decide), upI_j (by decide), upI_s]
      · rw [upL_same, ha']
      · refine CX_o (CX_K cx (fun a' j h1 h2 => e a' j (by unfold qk; omega) (by omega) (by omega) (by omega) (by omega))) (fun a' j h1 h2 => ?_) (fun a' j h1 h2 => upL_nea (by omega))
        rw [ek a' j (by simp [scr]; omega), fl_ne (by omega), upI_nea (by omega), upI_nea (by omega)]
      · refine Or.inr ⟨tick, a, q1, q2, ?_, ?_, ?_, fun i hi => ?_⟩
        · rw [ek 1000 12 rfl, fl_ne (by decide), upI_nea (by decide), upI_nea (by decide), ← hJ2, upI_j (by decide), upI_s]
        · rw [ek 1000 13 rfl, fl_ne (by decide), upI_nea (by decide), upI_nea (by decide), ← hJ2, upI_s]
        · rw [ek 1069 38 rfl, fl_ne (by decide), upI_s]
        · rw [ek 1002 (tick + i) rfl, fl_ne (by decide), upI_nea (by decide), upI_nea (by decide), ek 1092 i rfl, fl_in hi, ← hJ2, upI_nea (by decide), upI_nea (by decide)]
          unfold flo
          rw [if_pos (by omega), show tick + i - tick = i by omega]
  · exact case_B hv (by decide) (by decide) (by decide) (bL_cross hW (tX10_crossF hW hRS hv.cx x1 x2 x3 hg)) (fun n' => tX11_crossF hW hRS hv.ri x1 x2 x3 hg)

set_option maxHeartbeats 2000000 in
theorem kD_burials (hW : jWok w l) (hV : INV I L R) : jDir w l mX10_burials mX11_burials [] n I L R := by
  obtain ⟨h, g, W, H, np, len, b, s, tn, tp, hv⟩ := hV
  have hRS := hv.rs
  refine ⟨9, 9, by decide, by decide, jRi_m (tX10_burials hW hRS hv.cx hv.pt.1) ?_⟩
  rintro r t ⟨rfl, J, M, rfl, eL, cx, eJ, b1, b2⟩
  have hJ : hR J = hR I := hR_C (fun a j h1 => eJ a j (by simp [scD, scI]; omega) (by omega) (by omega))
  have hb : burR J W H np len = burR (hR I) W H np len := by rw [← hJ, h_burR]
  refine ⟨J, M, rfl, jRi_m (tX11_burials hW hRS (RI_h hv.cx.1.2.2.1 hJ)) ?_⟩
  rintro r t ⟨rfl, K, rfl, ek⟩
  rw [hb] at ek ⊢
  refine ⟨rfl, K, rfl, ?_⟩
  have eK : ∀ a j, scr a j = false → ¬ (a = 1069 ∧ (j = 2 ∨ j = 49)) → a ≠ 1102 → K a j = J a j := fun a j h1 h2 h3 => by
    rw [ek a j h1]
    cases burR (hR I) W H np len with
    | none => exact upI_ne (by omega)
    | some y =>
      show fl (upI (upI J 1069 2 0) 1069 49 1) 1102 (fun k => nI (y.2 k)) np a j = J a j
      rw [fl_ne h3, upI_ne (by omega), upI_ne (by omega)]
  have e : ∀ a j, qk a j → ¬ (a = 1000 ∧ j = 15) → a ≠ 1003 → ¬ (a = 1069 ∧ j = 49) → a ≠ 1102 → K a j = I a j := fun a j h1 h2 h3 h4 h5 => by
    have h6 := (qk_s h1).2
    rw [eK a j (qk_s h1).1 (by omega) h5]
    exact eJ a j (qk_D h1) h3 h2
  refine ⟨h, g, W, H, np, len, b, s, tn, tp, hv.rs, hv.hg, hv.r5, ?_, PT_f hv.wh.1 hv.wh.2 hv.pt (fun a j q => e a j (by unfold qk; omega) (by omega) (by omega) (by omega) (by omega)), CPk_f hv.cp (e _ _ (by unfold qk; omega) (by omega) (by omega) (by omega) (by omega)), PB_f hv.pb (fun a j q => e a j (by unfold qk; omega) (by omega) (by omega) (by omega) (by omega)), PS_f hv.ps (fun a j q => e a j (by unfold qk; omega) (by omega) (by omega) (by omega) (by omega)), PN_f hv.pn (fun a j q => e a j (by unfold qk; omega) (by omega) (by omega) (by omega) (by omega)), PF_f hv.pf (fun a j q => e a j (by unfold qk; omega) (by omega) (by omega) (by omega) (by omega)), PG_f hv.pg (fun a j q => e a j (by unfold qk; omega) (by omega) (by omega) (by omega) (by omega)), PC_f hv.pc (fun a j q => e a j (by unfold qk; omega) (by omega) (by omega) (by omega) (by omega)), PW_f hv.pw (fun a j q => e a j (by unfold qk; omega) (by omega) (by omega) (by omega) (by omega)), ?_, PI_f hv.pi (fun a j q => e a j (by unfold qk; omega) (by omega) (by omega) (by omega) (by omega))⟩
  · refine CX_o (CX_K cx (fun a' j h1 h2 => e a' j (by unfold qk; omega) (by omega) (by omega) (by omega) (by omega))) (fun a' j h1 h2 => ?_) (fun a' j h1 h2 => rfl)
    exact eK a' j (by simp [scr]; omega) (by omega) (by omega)
  · obtain ⟨z, z1, z2, z3⟩ := hv.pd
    cases hc : burR (hR I) W H np len with
    | none =>
      obtain ⟨c1, c2⟩ := b1 hc
      rw [hc] at ek
      refine ⟨z, (eK _ _ rfl (by omega) (by omega)).trans (c2.trans z1), ?_, fun hz k hk => ?_⟩
      · rw [ek 1069 49 rfl]
        show upI J 1069 2 0 1069 49 = jb z
        rw [upI_j (by decide)]
        exact (eJ _ _ rfl (by omega) (by omega)).trans z2
      · rw [eK 1003 k rfl (by omega) (by omega), c1 k, z3 hz k hk, ek 1102 k rfl]
        show _ = upI J 1069 2 0 1102 k
        rw [upI_nea (by decide)]
        exact (eJ _ _ rfl (by omega) (by omega)).symm
    | some y =>
      obtain ⟨c1, c2⟩ := b2 y hc
      rw [hc] at ek
      refine ⟨true, (eK _ _ rfl (by omega) (by omega)).trans c1, ?_, fun hz k hk => ?_⟩
      · rw [ek 1069 49 rfl]
        show fl (upI (upI J 1069 2 0) 1069 49 1) 1102 (fun k => nI (y.2 k)) np 1069 49 = jb true
        rw [fl_ne (by decide), upI_s]; rfl
      · rw [eK 1003 k rfl (by omega) (by omega), c2 k hk, ek 1102 k rfl]
        exact (fl_in (I := upI (upI J 1069 2 0) 1069 49 1) (a := 1102) (f := fun k => nI (y.2 k)) hk).symm
end SP
