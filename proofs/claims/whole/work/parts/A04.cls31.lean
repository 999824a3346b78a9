/-! THE CLASS: parties, quarrels, fog -/
section CZ6
variable {w : jWD} {l : Launch} {n : Nat} {I J : Nat → Nat → Int32} {L M : Nat → Nat → Int64} {R : Nat → Nat → Option Nat} {sz : Nat} {tp : Nat → Nat} {x : Nat × Nat × Nat} {T : Nat → Nat → Int32} {h W H np len s : Nat}
theorem C3.p {a c : Nat} {v : Int32} (hx : C3 I sz tp x) (ha : a ≠ 1005 ∧ a ≠ 1001) : C3 (upI I a c v) sz tp x := hx.f (fun _ => upI_nea ha.1.symm) (fun _ => upI_nea ha.2.symm)
theorem tkR_a {a : Nat} (ha : a ≠ 1005 ∧ a ≠ 1004) (j : Nat) : tkR a j = false := by
  unfold tkR
  rw [Bool.or_eq_false_iff]
  exact ⟨decide_eq_false (fun q => ha.1 q.1), decide_eq_false (fun q => ha.2 q.1)⟩
section PT
variable {a : Nat} {v0 v1 v2 v3 v4 v5 : Int32} {J1 J2 J3 J4 J5 : Nat → Nat → Int32}
theorem ptC (ha : a ≠ 1005 ∧ a ≠ 1004) (f2 : eqR (upI (upI J1 a 0 v0) a 5 v5) J2) (f3 : eqR (upI J2 a 1 v1) J3) (f4 : eqR (upI J3 a 2 v2) J4) (f5 : eqR (upI J4 a 3 v3) J5) : ∀ k, k < 6 → upI J5 a 4 v4 a k = if k = 0 then v0 else if k = 1 then v1 else if k = 2 then v2 else if k = 3 then v3 else if k = 4 then v4 else v5 := by
  have g5 := fun j => f5 a j (tkR_a ha j)
  have g4 := fun j => f4 a j (tkR_a ha j)
  have g3 := fun j => f3 a j (tkR_a ha j)
  have g2 := fun j => f2 a j (tkR_a ha j)
  intro k hk
  have hk6 : k = 0 ∨ k = 1 ∨ k = 2 ∨ k = 3 ∨ k = 4 ∨ k = 5 := by omega
  rcases hk6 with rfl | rfl | rfl | rfl | rfl | rfl
  · rw [upI_j (by decide), g5, upI_j (by decide), g4, upI_j (by decide), g3, upI_j (by decide), g2, upI_j (by decide), upI_s]; rfl
  · rw [upI_j (by decide), g5, upI_j (by decide), g4, upI_j (by decide), g3, upI_s]; rfl
  · rw [upI_j (by decide), g5, upI_j (by decide), g4, upI_s]; rfl
  · rw [upI_j (by decide), g5, upI_s]; rfl
  · rw [upI_s]; rfl
  · rw [upI_j (by decide), g5, upI_j (by decide), g4, upI_j (by decide), g3, upI_j (by decide), g2, upI_s]; rfl
theorem ptF (f1 : eqR I J1) (f2 : eqR (upI (upI J1 a 0 v0) a 5 v5) J2) (f3 : eqR (upI J2 a 1 v1) J3) (f4 : eqR (upI J3 a 2 v2) J4) (f5 : eqR (upI J4 a 3 v3) J5) (b j : Nat) (hb : tkR b j = false) (hba : b ≠ a) : upI J5 a 4 v4 b j = I b j := by
  rw [upI_nea hba, f5 b j hb, upI_nea hba, f4 b j hb, upI_nea hba, f3 b j hb, upI_nea hba, f2 b j hb, upI_nea hba, upI_nea hba, f1 b j hb]
end PT
theorem CTl_pt {v0 v1 v2 v3 v4 v5 : Int32} (hh : h = 1008 ∨ h = 1024) (hC : CTl J L h T W H) (hn : T 1072 10 = nI np) (hnp : np < 6) (hv : ∀ k, k < 6 → J (h + 10 + np) k = if k = 0 then v0 else if k = 1 then v1 else if k = 2 then v2 else if k = 3 then v3 else if k = 4 then v4 else v5) : CTl (upI J h 3 (nI (np + 1))) L h (upI (upI (upI (upI (upI (upI (upI T 1076 np v0) 1077 np v1) 1078 np v2) 1079 np v3) 1080 np v4) 1081 np v5) 1072 10 (nI (np + 1))) W H := by
  obtain ⟨e1, e2, e3, e4, e5, e6, e7, e8, e9, e10, e11⟩ := hC
  have hcN : cN (T 1072 10) = np := by rw [hn]; exact cN_nI (by omega)
  have hcN' : cN (nI (np + 1)) = np + 1 := cN_nI (by omega)
  have hpar : ∀ p k, p < np + 1 → k < 6 → J (h + 10 + p) k = upI (upI (upI (upI (upI (upI T 1076 np v0) 1077 np v1) 1078 np v2) 1079 np v3) 1080 np v4) 1081 np v5 (1076 + k) p := by
    intro p k hp hk
    have hk6 : k = 0 ∨ k = 1 ∨ k = 2 ∨ k = 3 ∨ k = 4 ∨ k = 5 := by omega
    by_cases z : p = np
    · rw [z, hv k hk]
      rcases hk6 with rfl | rfl | rfl | rfl | rfl | rfl
      all_goals exact Eq.symm upI_s
    · have hz : J (h + 10 + p) k = T (1076 + k) p := e9.2 p k (by omega) hk
      rw [hz]
      rw [upI_ne (fun q => z q.2), upI_ne (fun q => z q.2), upI_ne (fun q => z q.2), upI_ne (fun q => z q.2), upI_ne (fun q => z q.2), upI_ne (fun q => z q.2)]
  rcases hh with rfl | rfl
  all_goals
    refine ⟨e1, e2, e3, e4, e5, e6, e7, e8, ⟨upI_s.trans upI_s.symm, fun p k hp hk => ?_⟩, e10, fun f hf => ?_⟩
    · rw [upI_s, hcN'] at hp
      rw [upI_nea (by omega), upI_nea (show 1076 + k ≠ 1072 by omega)]; exact hpar p k hp hk
    · rw [upI_nea (by decide), upI_j (by omega)]; exact e11 f hf
theorem CTl_ql {a b q : Nat} (hh : h = 1008 ∨ h = 1024) (hC : CTl I L h T W H) (hn : cN (T 1072 10) = np) (hnp : np ≤ 6) (ha : a < np) (hb : b < np) (hq : T 1072 11 = nI q) (hq6 : q < 6) : CTl (upI (upI (upI I (h + 10 + a) 5 (I (h + 10 + a) 5 ||| (1 <<< (nI b &&& 31)))) (h + 10 + b) 5 (upI I (h + 10 + a) 5 (I (h + 10 + a) 5 ||| (1 <<< (nI b &&& 31))) (h + 10 + b) 5 ||| (1 <<< (nI a &&& 31)))) h 4 (nI (q + 1))) L h (qrH T a b) W H := by
  obtain ⟨e1, e2, e3, e4, e5, e6, e7, e8, e9, e10, e11⟩ := hC
  have hcq : cN (T 1072 11) = q := by rw [hq]; exact cN_nI (by omega)
  unfold qrH
  rw [hcq]
  have pa : I (h + 10 + a) 5 = T 1081 a := e9.2 a 5 (by omega) (by decide)
  have pb : I (h + 10 + b) 5 = T 1081 b := e9.2 b 5 (by omega) (by decide)
  rw [pa]
  generalize hva : T 1081 a ||| (1 <<< (nI b &&& 31)) = va
  have pb2 : upI I (h + 10 + a) 5 va (h + 10 + b) 5 = upI T 1081 a va 1081 b := by
    by_cases z : b = a
    · rw [z, upI_s, upI_s]
    · rw [upI_nea (by omega), upI_j z]; exact pb
  rw [pb2]
  generalize upI T 1081 a va 1081 b ||| (1 <<< (nI a &&& 31)) = vb
  have hpar : ∀ p k, p < np → k < 6 → upI (upI I (h + 10 + a) 5 va) (h + 10 + b) 5 vb (h + 10 + p) k = upI (upI T 1081 a va) 1081 b vb (1076 + k) p := by
    intro p k hp hk
    by_cases z5 : k = 5
    · subst z5
      by_cases zb : p = b
      · rw [zb, upI_s]; exact Eq.symm upI_s
      · rw [upI_nea (by omega), upI_j (a := 1081) zb]
        by_cases za : p = a
        · rw [za, upI_s]; exact Eq.symm upI_s
        · rw [upI_nea (by omega), upI_j (a := 1081) za]; exact e9.2 p 5 (by omega) (by decide)
    · rw [upI_ne (fun q => z5 q.2), upI_ne (fun q => z5 q.2), upI_nea (show 1076 + k ≠ 1081 by omega), upI_nea (show 1076 + k ≠ 1081 by omega)]
      exact e9.2 p k (by omega) hk
  have hne : ∀ c j, (∀ p, p < 6 → c ≠ h + 10 + p) → upI (upI I (h + 10 + a) 5 va) (h + 10 + b) 5 vb c j = I c j := fun c j hc => by rw [upI_nea (hc b (by omega)), upI_nea (hc a (by omega))]
  generalize upI (upI I (h + 10 + a) 5 va) (h + 10 + b) 5 vb = K at hpar hne
  rcases hh with rfl | rfl
  all_goals
    refine ⟨⟨?_, ?_⟩, fun c hc => ?_, e3, e4, ⟨?_, fun k hk => ?_, e5.2.2⟩, ⟨?_, ?_⟩, e7, ⟨?_, fun k hk => ?_⟩, ⟨?_, fun p k hp hk => ?_⟩, ⟨upI_s.trans upI_s.symm, ?_, ?_, ?_⟩, fun f hf => ?_⟩
    · exact (hne _ _ (by omega)).trans e1.1
    · exact (hne _ _ (by omega)).trans e1.2
    · exact (hne _ _ (by omega)).trans (e2 c hc)
    · exact (hne _ _ (by omega)).trans e5.1
    · exact (hne _ _ (by omega)).trans (e5.2.1 k hk)
    · exact (hne _ _ (by omega)).trans e6.1
    · exact (hne _ _ (by omega)).trans e6.2
    · exact (hne _ _ (by omega)).trans e8.1
    · exact (hne _ _ (by omega)).trans (e8.2 k hk)
    · exact (hne _ _ (by omega)).trans e9.1
    · rw [upI_nea (by omega), upI_nea (show 1076 + k ≠ 1072 by omega)]; exact hpar p k (by rw [upI_j (by decide), upI_nea (by decide), upI_nea (by decide)] at hp; omega) hk
    · exact (hne _ _ (by omega)).trans e10.2.1
    · exact (hne _ _ (by omega)).trans e10.2.2.1
    · exact (hne _ _ (by omega)).trans e10.2.2.2
    · rw [upI_nea (by decide), upI_j (by omega), upI_nea (by decide), upI_nea (by decide)]; exact (hne _ _ (by omega)).trans (e11 f hf)
/-- the frame of isFirst -/
def eqTt (I J : Nat → Nat → Int32) : Prop := ∀ b j : Nat, tkR b j = false → ¬ (b = 1004 ∧ j = 3) → J b j = I b j
theorem eqTt_G (he : eqTt I J) : eqG h I J := fun b j hb => he b j (by
  have hb := of_decide_eq_false hb
  unfold tkR
  rw [Bool.or_eq_false_iff]
  exact ⟨decide_eq_false (fun q => hb (Or.inr (Or.inl q))), decide_eq_false (fun q => hb (Or.inl ⟨q.1, Or.inr q.2⟩))⟩) (fun q => by
  have hb := of_decide_eq_false hb
  exact hb (Or.inl ⟨q.1, Or.inl q.2⟩))
theorem CTl.t (hC : CTl I L h T W H) (hh : h = 1008 ∨ h = 1024) (he : eqTt I J) (hn : cN (T 1072 10) ≤ 6) : CTl J L h T W H := hC.f (fun b j h1 h2 _ => he b j (tkR_a (by omega) j) (by omega)) (fun _ => rfl) hn
theorem fst_r : ∀ i, i < 6 → ∀ s, s < 64 → (nI (1024 * s) >>> (nI (10 + i) &&& 31)) &&& 1 = jb (decide (¬ s &&& 2 ^ i = 0)) := by decide +kernel
theorem fst_s : ∀ i, i < 6 → ∀ s, s < 64 → nI (1024 * s) ||| (1 <<< (nI (10 + i) &&& 31)) = nI (1024 * (s ||| 2 ^ i)) := by decide +kernel

set_option maxHeartbeats 1000000 in
set_option maxRecDepth 20000 in
theorem tX5_readParty (hW : jWok w l) (hR : RS R) (hS : LnS R sz tp h W H np len I L x T s) {k : Nat} (hk : k ≤ 3) : jRi w l mX5_readParty 4 [.ref 1004, .int (nI k)] (n, shE, I, L, R) (LnQ n R sz tp h W H I L (liPty tp sz k x T) s) := by
  refine jRi_of hW (by decide) rfl (Nat.le_of_ble_eq_true rfl) ?_
  obtain ⟨hh, hRt, hx, h0, hC, hs, hB⟩ := hS
  obtain ⟨dW, dH, hWb, hHb, hWH, dnp, hnp⟩ := BT_d hB
  have h10 : T 1072 10 = nI np := hB.1.2.2.2.2.1.1
  have hI3 : I h 3 = nI np := hC.2.2.2.2.2.2.2.2.1.1.trans h10
  have hf2 : np = 6 → liPty tp sz k x T = (pWr 2 x, T) := fun q => by unfold liPty; rw [if_pos (by omega)]
  have hf : np < 6 → liPty tp sz k x T = (pNu tp sz 0 20 (pNu tp sz 0 (H - 1) (pNu tp sz 0 9 (pNu tp sz 1 4 (stX tp sz x)))), upI (upI (upI (upI (upI (upI (upI T 1076 np (nI k)) 1077 np (nI (vNu tp sz 1 4 (stX tp sz x)))) 1078 np (nI (vNu tp sz 0 9 (pNu tp sz 1 4 (stX tp sz x))))) 1079 np (nI (vNu tp sz 0 (H - 1) (pNu tp sz 0 9 (pNu tp sz 1 4 (stX tp sz x)))))) 1080 np (nI (vNu tp sz 0 20 (pNu tp sz 0 (H - 1) (pNu tp sz 0 9 (pNu tp sz 1 4 (stX tp sz x))))))) 1081 np 0) 1072 10 (nI (np + 1))) := fun q => by unfold liPty; rw [if_neg (by omega), dH, dnp]
  have h01 : (stX tp sz x).2.1 = 0 := h0
  have eG : ∀ K, eqG h I K → eqG h I K := fun _ q => q
  rcases hh with rfl | rfl
  all_goals
    refine jx_aload_n dX5_readParty_0 rfl ?_
    refine jx_getR dX5_readParty_1 flX5_33 rfl rfl hRt ?_
    refine jx_getIE dX5_readParty_4 flX5_247 rfl rfl (hI3) ?_
    refine jx_bipush (v := 6) dX5_readParty_7 (by decide) ?_
    refine jx_icmpN_lt (a := np) (b := 6) 21 dX5_readParty_9 (by decide) (by omega) (by omega) (fun h9 => ?_) (fun h9 => ?_)
    · have hp6 : np < 6 := by omega
      have hf := hf hp6
      refine jx_aload_n dX5_readParty_21 rfl ?_
      refine jx_getR dX5_readParty_22 flX5_14 rfl rfl (hR _ _ _ rfl) ?_
      refine jx_VRv (as := []) dX5_readParty_25 mlX5_80 okX9_advance viX9_advance rfl rfl rfl rfl rfl (by decide) (Nat.le_of_ble_eq_true rfl) (tX9_advance_x hW hR hx) (fun t25 hq25 => ?_)
      obtain ⟨J1, rfl, fJ1, gJ1⟩ := hq25
      refine jx_aload_n dX5_readParty_28 rfl ?_
      refine jx_getR dX5_readParty_29 flX5_33 rfl rfl hRt ?_
      refine jx_getR dX5_readParty_32 flX5_250 rfl rfl (hR _ _ _ rfl) ?_
      refine jx_aload_n dX5_readParty_35 rfl ?_
      refine jx_getR dX5_readParty_36 flX5_33 rfl rfl hRt ?_
      refine jx_getIE dX5_readParty_39 flX5_247 rfl rfl ((fJ1 _ _ (by decide)).trans hI3) ?_
      refine jx_aald5N (np) dX5_readParty_42 rfl (rfl) (by omega) (by decide) (hR _ _ _ (by first | exact rtPa _ hp6 | exact rtPb _ hp6)) ?_
      refine jx_astore_n dX5_readParty_43 rfl (by decide) ?_
      refine jx_aload_n dX5_readParty_44 rfl ?_
      refine jx_iload_n dX5_readParty_45 rfl ?_
      refine jx_putI dX5_readParty_46 flX5_254 (by first | exact shPa _ hp6 | exact shPb _ hp6) rfl (fun r h => by cases h; rfl) ?_
      refine jx_aload_n dX5_readParty_49 rfl ?_
      refine jx_iconst (v := 0) dX5_readParty_50 (by decide) ?_
      refine jx_putI dX5_readParty_51 flX5_257 (by first | exact shPa _ hp6 | exact shPb _ hp6) rfl (fun r h => by cases h; rfl) ?_
      refine jx_aload_n dX5_readParty_54 rfl ?_
      refine jx_iconst (v := 1) dX5_readParty_55 (by decide) ?_
      refine jx_iconst (v := 4) dX5_readParty_56 (by decide) ?_
      refine jx_VRi (as := [.int _, .int _]) dX5_readParty_57 mlX5_83 okX5_takeNumber viX5_takeNumber rfl rfl rfl rfl rfl (by decide) (Nat.le_of_ble_eq_true rfl) (tX5_takeNumber (lo := 1) (hi := 4) hW hR ((gJ1.p (by omega)).p (by omega)) h01 (by decide) (by decide)) (fun x57 t57 hq57 => ?_)
      obtain ⟨J2, rfl, fJ2, gJ2, vJ2, rfl⟩ := hq57
      have e2 := eG _ (eqG_t (eqG_u (eqG_u (eqR_G (eqV_R fJ1)) (gF_h (by omega) (by omega))) (gF_h (by omega) (by omega))) (eqR_G fJ2))
      refine jx_ifB_ne 65 dX5_readParty_60 (by decide) (fun h60 => ?_) (fun h60 => ?_)
      · have hz1 := of_decide_eq_true h60
        refine jx_aload_n dX5_readParty_65 rfl ?_
        refine jx_aload_n dX5_readParty_66 rfl ?_
        refine jx_getIE dX5_readParty_67 flX5_87 rfl rfl (vJ2 hz1) ?_
        refine jx_putI dX5_readParty_70 flX5_260 (by first | exact shPa _ hp6 | exact shPb _ hp6) rfl (fun r h => by cases h; rfl) ?_
        refine jx_aload_n dX5_readParty_73 rfl ?_
        refine jx_iconst (v := 0) dX5_readParty_74 (by decide) ?_
        refine jx_bipush (v := 9) dX5_readParty_75 (by decide) ?_
        refine jx_VRi (as := [.int _, .int _]) dX5_readParty_77 mlX5_83 okX5_takeNumber viX5_takeNumber rfl rfl rfl rfl rfl (by decide) (Nat.le_of_ble_eq_true rfl) (tX5_takeNumber (lo := 0) (hi := 9) hW hR (gJ2.p (by omega)) hz1 (by decide) (by decide)) (fun x77 t77 hq77 => ?_)
        obtain ⟨J3, rfl, fJ3, gJ3, vJ3, rfl⟩ := hq77
        have e3 := eqG_t (eqG_u e2 (gF_h (by omega) (by omega))) (eqR_G fJ3)
        refine jx_ifB_ne 85 dX5_readParty_80 (by decide) (fun h80 => ?_) (fun h80 => ?_)
        · have hz2 := of_decide_eq_true h80
          refine jx_aload_n dX5_readParty_85 rfl ?_
          refine jx_aload_n dX5_readParty_86 rfl ?_
          refine jx_getIE dX5_readParty_87 flX5_87 rfl rfl (vJ3 hz2) ?_
          refine jx_putI dX5_readParty_90 flX5_263 (by first | exact shPa _ hp6 | exact shPb _ hp6) rfl (fun r h => by cases h; rfl) ?_
          refine jx_aload_n dX5_readParty_93 rfl ?_
          refine jx_iconst (v := 0) dX5_readParty_94 (by decide) ?_
          refine jx_aload_n dX5_readParty_95 rfl ?_
          refine jx_getR dX5_readParty_96 flX5_33 rfl rfl hRt ?_
          refine jx_getR dX5_readParty_99 flX5_69 rfl rfl (hR _ _ _ rfl) ?_
          refine jx_getIE dX5_readParty_102 flX5_186 rfl rfl ((upI_nea (by omega)).trans ((fJ3 _ _ (tkR_a (by omega) _)).trans ((upI_nea (by omega)).trans ((fJ2 _ _ (tkR_a (by omega) _)).trans ((upI_nea (by omega)).trans ((upI_nea (by omega)).trans ((fJ1 _ _ (by decide)).trans hC.1.2))))))) ?_
          refine jx_iconst (v := 1) dX5_readParty_105 (by decide) ?_
          refine jx_isubE (z := nI (H - 1)) dX5_readParty_106 (pk_sub (a := H) (b := 1) (by omega)) ?_
          refine jx_VRi (as := [.int _, .int _]) dX5_readParty_107 mlX5_83 okX5_takeNumber viX5_takeNumber rfl rfl rfl rfl rfl (by decide) (Nat.le_of_ble_eq_true rfl) (tX5_takeNumber (lo := 0) (hi := (H - 1)) hW hR (gJ3.p (by omega)) hz2 (by omega) (by omega)) (fun x107 t107 hq107 => ?_)
          obtain ⟨J4, rfl, fJ4, gJ4, vJ4, rfl⟩ := hq107
          have e4 := eqG_t (eqG_u e3 (gF_h (by omega) (by omega))) (eqR_G fJ4)
          refine jx_ifB_ne 115 dX5_readParty_110 (by decide) (fun h110 => ?_) (fun h110 => ?_)
          · have hz3 := of_decide_eq_true h110
            refine jx_aload_n dX5_readParty_115 rfl ?_
            refine jx_aload_n dX5_readParty_116 rfl ?_
            refine jx_getIE dX5_readParty_117 flX5_87 rfl rfl (vJ4 hz3) ?_
            refine jx_putI dX5_readParty_120 flX5_266 (by first | exact shPa _ hp6 | exact shPb _ hp6) rfl (fun r h => by cases h; rfl) ?_
            refine jx_aload_n dX5_readParty_123 rfl ?_
            refine jx_iconst (v := 0) dX5_readParty_124 (by decide) ?_
            refine jx_bipush (v := 20) dX5_readParty_125 (by decide) ?_
            refine jx_VRi (as := [.int _, .int _]) dX5_readParty_127 mlX5_83 okX5_takeNumber viX5_takeNumber rfl rfl rfl rfl rfl (by decide) (Nat.le_of_ble_eq_true rfl) (tX5_takeNumber (lo := 0) (hi := 20) hW hR (gJ4.p (by omega)) hz3 (by decide) (by decide)) (fun x127 t127 hq127 => ?_)
            obtain ⟨J5, rfl, fJ5, gJ5, vJ5, rfl⟩ := hq127
            have e5 := eqG_t (eqG_u e4 (gF_h (by omega) (by omega))) (eqR_G fJ5)
            refine jx_ifB_ne 135 dX5_readParty_130 (by decide) (fun h130 => ?_) (fun h130 => ?_)
            · have hz4 := of_decide_eq_true h130
              refine jx_aload_n dX5_readParty_135 rfl ?_
              refine jx_aload_n dX5_readParty_136 rfl ?_
              refine jx_getIE dX5_readParty_137 flX5_87 rfl rfl (vJ5 hz4) ?_
              refine jx_putI dX5_readParty_140 flX5_269 (by first | exact shPa _ hp6 | exact shPb _ hp6) rfl (fun r h => by cases h; rfl) ?_
              have hF := ptF (v4 := nI (vNu tp sz 0 20 (pNu tp sz 0 (H - 1) (pNu tp sz 0 9 (pNu tp sz 1 4 (stX tp sz x)))))) (eqV_R fJ1) fJ2 fJ3 fJ4 fJ5
              have hV := ptC (v4 := nI (vNu tp sz 0 20 (pNu tp sz 0 (H - 1) (pNu tp sz 0 9 (pNu tp sz 1 4 (stX tp sz x)))))) (by omega) fJ2 fJ3 fJ4 fJ5
              refine jx_aload_n dX5_readParty_143 rfl ?_
              refine jx_getR dX5_readParty_144 flX5_33 rfl rfl hRt ?_
              refine jx_dup dX5_readParty_147 rfl ?_
              refine jx_getIE dX5_readParty_148 flX5_247 rfl rfl ((hF _ _ (by decide) (by omega)).trans hI3) ?_
              refine jx_iconst (v := 1) dX5_readParty_151 (by decide) ?_
              refine jx_iaddE (z := nI (np + 1)) dX5_readParty_152 (nI_add np 1) ?_
              refine jx_putI dX5_readParty_153 flX5_247 rfl rfl (fun r h => by cases h; rfl) ?_
              refine jx_iconst (v := 1) dX5_readParty_156 (by decide) ?_
              refine jx_zret dX5_readParty_157 rfl ?_ ?_
              · first | exact Or.inl rfl | exact Or.inr rfl | exact jb_or _
              exact ⟨_, rfl, LnQ_g hf hz4 (eqG_u (eqG_u e5 (gF_h (by omega) (by omega))) (gF_h (by decide) (by decide))) (eqGL_r _ L) ((gJ5.p (by omega)).p (by decide)) (CTl_pt (by decide) (hC.f (fun b j h1 h2 hp => hF b j (tkR_a (by omega) j) (fun q => by have := hp np (by omega); omega)) (fun _ => rfl) (by omega)) h10 hp6 hV) (((upI_nea (by decide)).trans (hF 1004 3 (by decide) (by omega))).trans hs)⟩
            · have hz4 := of_decide_eq_false h130
              refine jx_iconst (v := 0) dX5_readParty_133 (by decide) ?_
              refine jx_zret dX5_readParty_134 rfl ?_ ?_
              · first | exact Or.inl rfl | exact Or.inr rfl | exact jb_or _
              exact ⟨_, rfl, LnQ_b (X := pNu tp sz 0 20 (pNu tp sz 0 (H - 1) (pNu tp sz 0 9 (pNu tp sz 1 4 (stX tp sz x))))) (by rw [hf]) hz4 e5 (eqGL_r _ L) gJ5⟩
          · have hz3 := of_decide_eq_false h110
            refine jx_iconst (v := 0) dX5_readParty_113 (by decide) ?_
            refine jx_zret dX5_readParty_114 rfl ?_ ?_
            · first | exact Or.inl rfl | exact Or.inr rfl | exact jb_or _
            exact ⟨_, rfl, LnQ_b (X := pNu tp sz 0 (H - 1) (pNu tp sz 0 9 (pNu tp sz 1 4 (stX tp sz x)))) (by rw [hf, pNu_b hz3]) hz3 e4 (eqGL_r _ L) gJ4⟩
        · have hz2 := of_decide_eq_false h80
          refine jx_iconst (v := 0) dX5_readParty_83 (by decide) ?_
          refine jx_zret dX5_readParty_84 rfl ?_ ?_
          · first | exact Or.inl rfl | exact Or.inr rfl | exact jb_or _
          exact ⟨_, rfl, LnQ_b (X := pNu tp sz 0 9 (pNu tp sz 1 4 (stX tp sz x))) (by rw [hf, pNu_b hz2, pNu_b hz2]) hz2 e3 (eqGL_r _ L) gJ3⟩
      · have hz1 := of_decide_eq_false h60
        refine jx_iconst (v := 0) dX5_readParty_63 (by decide) ?_
        refine jx_zret dX5_readParty_64 rfl ?_ ?_
        · first | exact Or.inl rfl | exact Or.inr rfl | exact jb_or _
        exact ⟨_, rfl, LnQ_b (X := pNu tp sz 1 4 (stX tp sz x)) (by rw [hf, pNu_b hz1, pNu_b hz1, pNu_b hz1]) hz1 e2 (eqGL_r _ L) gJ2⟩
    · have hf := hf2 (by omega)
      have hz1 : (pWr 2 x).2.1 ≠ 0 := pWr_z h0 (by decide)
      refine jx_aload_n dX5_readParty_12 rfl ?_
      refine jx_getR dX5_readParty_13 flX5_14 rfl rfl (hR _ _ _ rfl) ?_
      refine jx_iconst (v := 2) dX5_readParty_16 (by decide) ?_
      refine jx_VRi (as := [.int _]) dX5_readParty_17 mlX5_141 okX9_refuse viX9_refuse rfl rfl rfl rfl rfl (by decide) (Nat.le_of_ble_eq_true rfl) (tX9_refuse_x (k := 2) hW hR hx h0 (by decide)) (fun x17 t17 hq17 => ?_)
      obtain ⟨J1, rfl, fJ1, gJ1, rfl⟩ := hq17
      refine jx_zret dX5_readParty_20 rfl ?_ ?_
      · first | exact Or.inl rfl | exact Or.inr rfl | exact jb_or _
      exact ⟨_, rfl, LnQ_b hf hz1 (eqR_G fJ1) (eqGL_r _ L) gJ1⟩
end CZ6
