/-! THE CLASS: motions and sound sand -/
/-- who sank, as the class keeps it -/
def LSk (I T : Nat → Nat → Int32) (W H s : Nat) : Prop := I 1051 9 = nI s ∧ RSk T W H s ∧ ∀ i, i < s → I 1057 i = T 1104 i ∧ I 1058 i = T 1105 i ∧ ((I 1051 8 >>> (nI i &&& 31)) &&& 1) = T 1106 i
theorem jbe1 {b : Bool} : jb b = 1 ↔ b = true := by cases b <;> decide
theorem jbe0 {b : Bool} : jb b = 0 ↔ b = false := by cases b <;> decide
section CM1
variable {w : jWD} {l : Launch} {n : Nat} {I : Nat → Nat → Int32} {L : Nat → Nat → Int64} {R : Nat → Nat → Option Nat}

set_option maxHeartbeats 1000000 in
set_option maxRecDepth 20000 in
theorem tX10_fits (hW : jWok w l) (hR : RS R) {h : Nat} {T : Nat → Nat → Int32} {W H np len : Nat} (hX : CX I L R h T W H np len) {s : Nat} (hS : LSk I T W H s) {m : Nat} (hm : m < 25) : jCD w l mX10_fits 4 [.ref 1000, .int (nI m)] (n, shE, I, L, R) (some (.int (jb (ftM T W H s m)))) (n, shE, I, L, R) := by
  refine jCD_of hW (by decide) rfl (Nat.le_of_ble_eq_true rfl) ?_
  obtain ⟨⟨⟨hh, hRi⟩, hI, hRI, -, -, -⟩, hRh⟩ := hX
  have hT := RI.tq hRI
  have hw := hT.1
  have hhh := hT.2.1
  have hwh : W * H ≤ 63 := Nat.mul_le_mul hw.2 hhh.2
  obtain ⟨hs, ⟨-, hs12, hsk⟩, hsi⟩ := hS
  have key : ∀ k, k ≤ s → (∀ j, j < k → (fun k => qm T W H m (cN (T 1105 k)) (cN (T 1104 k)) != decide (T 1106 k = 1)) j = false) → jWP w l mX10_fits 4 0 0 (fun r t => r = some (.int (jb (ftM T W H s m))) ∧ t = (n, shE, I, L, R)) (fun _ _ => False) 2 [(0, .ref 1000), (1, .int (nI m)), (2, .int (nI k))] [] (n, shE, I, L, R) := by
    refine jdown _ (fun k hk ih hj => ?_)
    rcases hh with rfl | rfl
    all_goals
    refine jx_iload_n dX10_fits_2 rfl ?_
    refine jx_aload_n dX10_fits_3 rfl ?_
    refine jx_getR dX10_fits_4 flX10_60 rfl rfl (hR _ _ _ rfl) ?_
    refine jx_getIE dX10_fits_7 flX10_104 rfl rfl (hs) ?_
    refine jx_icmpN_ge (a := k) (b := s) 83 dX10_fits_10 (by decide) (by omega) (by omega) (fun h10 => ?_) (fun h10 => ?_)
    · refine jx_iconst (v := 1) dX10_fits_83 (by decide) ?_
      refine jx_zret dX10_fits_84 rfl ?_ ?_
      · first | exact Or.inl rfl | exact Or.inr rfl | exact jb_or _
      refine ⟨?_, rfl⟩
      unfold ftM
      rw [anyN_f.mpr (fun j hj2 => hj j (by omega))]
      rfl
    · have h10 : k < s := by omega
      obtain ⟨hk4, hk5, hz⟩ := hsk k h10
      have hk5b := hk5.2
      have hk4b := hk4.2
      refine jx_iload_n dX10_fits_13 rfl ?_
      refine jx_bipush (v := 12) dX10_fits_14 (by decide) ?_
      refine jx_icmpN_ge (a := k) (b := 12) 83 dX10_fits_16 (by decide) (by omega) (by omega) (fun h16 => ?_) (fun h16 => ?_)
      · exact absurd h16 (by omega)
      · refine jx_aload_n dX10_fits_19 rfl ?_
        refine jx_getR dX10_fits_20 flX10_60 rfl rfl (hR _ _ _ rfl) ?_
        refine jx_getI dX10_fits_23 flX10_323 rfl rfl ?_
        refine jx_iload_n dX10_fits_26 rfl ?_
        refine jx_ishr dX10_fits_27 ?_
        refine jx_iconst (v := 1) dX10_fits_28 (by decide) ?_
        refine jx_iandE (z := T 1106 k) dX10_fits_29 ((hsi k h10).2.2) ?_
        refine jx_if_eq 37 dX10_fits_30 (by decide) (fun h30 => ?_) (fun h30 => ?_)
        · refine jx_iconst (v := 0) dX10_fits_37 (by decide) ?_
          refine jx_istore_n dX10_fits_38 rfl (by decide) ?_
          refine jx_aload_n dX10_fits_39 rfl ?_
          refine jx_getR dX10_fits_40 flX10_32 rfl rfl hRh ?_
          refine jx_getR dX10_fits_43 flX10_114 rfl rfl (hR _ _ _ rfl) ?_
          refine jx_iload_n dX10_fits_46 rfl ?_
          refine jx_aload_n dX10_fits_47 rfl ?_
          refine jx_getR dX10_fits_48 flX10_60 rfl rfl (hR _ _ _ rfl) ?_
          refine jx_getR dX10_fits_51 flX10_320 rfl rfl (hR _ _ _ rfl) ?_
          refine jx_iload_n dX10_fits_54 rfl ?_
          refine jx_ialdE (k) dX10_fits_55 rfl (rfl) (by omega) (by omega) ((hsi k h10).2.1.trans hk5.1) ?_
          refine jx_Vl (as := [.int _, .int _]) dX10_fits_56 mlX10_335 okX8_quickBy viX8_quickBy rfl rfl rfl rfl rfl (by decide) (Nat.le_of_ble_eq_true rfl) (tX8_quickBy hW hR (by decide) hI.1 hT hk5b hm) ?_
          refine jx_aload_n dX10_fits_59 rfl ?_
          refine jx_getR dX10_fits_60 flX10_60 rfl rfl (hR _ _ _ rfl) ?_
          refine jx_getR dX10_fits_63 flX10_317 rfl rfl (hR _ _ _ rfl) ?_
          refine jx_iload_n dX10_fits_66 rfl ?_
          refine jx_ialdE (k) dX10_fits_67 rfl (rfl) (by omega) (by omega) ((hsi k h10).1.trans hk4.1) ?_
          refine jx_Si (as := [.long _, .int _]) dX10_fits_68 mlX10_177 okX10_has stX10_has rfl rfl (by decide) (Nat.le_of_ble_eq_true rfl) (tX10_has hW (c := cN (T 1104 k)) (by omega) _) ?_
          rw [bt_bs (by omega)]
          change jWP _ _ _ _ _ _ _ _ _ _ (.int (jb (qm T W H m (cN (T 1105 k)) (cN (T 1104 k)))) :: _) _
          refine jx_iload_n dX10_fits_71 rfl ?_
          refine jx_icmp_eq 77 dX10_fits_72 (by decide) (fun h72 => ?_) (fun h72 => ?_)
          · refine jx_iinc dX10_fits_77 rfl (v := nI (k + 1)) (nI_1 _) (by decide) ?_
            refine jx_goto 2 dX10_fits_80 (by decide) ?_
            have hg : (fun k => qm T W H m (cN (T 1105 k)) (cN (T 1104 k)) != decide (T 1106 k = 1)) k = false := by
              have e2 : decide (T 1106 k = 1) = false := decide_eq_false (fun q => by rw [h30] at q; exact absurd q (by decide))
              have e1 : qm T W H m (cN (T 1105 k)) (cN (T 1104 k)) = false := jbe0.mp h72
              show (_ != _) = false
              rw [e1, e2]; rfl
            exact jx_ls (by exact ⟨rfl, rfl, rfl, trivial⟩) (ih (by omega) (fun j hj2 => by
              by_cases z : j = k
              · rw [z]; exact hg
              · exact hj j (by omega)))
          · refine jx_iconst (v := 0) dX10_fits_75 (by decide) ?_
            refine jx_zret dX10_fits_76 rfl ?_ ?_
            · first | exact Or.inl rfl | exact Or.inr rfl | exact jb_or _
            refine ⟨?_, rfl⟩
            have hg : (fun k => qm T W H m (cN (T 1105 k)) (cN (T 1104 k)) != decide (T 1106 k = 1)) k = true := by
              have e2 : decide (T 1106 k = 1) = false := decide_eq_false (fun q => by rw [h30] at q; exact absurd q (by decide))
              have e1 : qm T W H m (cN (T 1105 k)) (cN (T 1104 k)) = true := by
                cases e : qm T W H m (cN (T 1105 k)) (cN (T 1104 k))
                · exact absurd (jbe0.mpr e) h72
                · rfl
              show (_ != _) = true
              rw [e1, e2]; rfl
            unfold ftM
            rw [anyN_of (g := (fun k => qm T W H m (cN (T 1105 k)) (cN (T 1104 k)) != decide (T 1106 k = 1))) hg (by omega)]
            rfl
        · refine jx_iconst (v := 1) dX10_fits_33 (by decide) ?_
          refine jx_goto 38 dX10_fits_34 (by decide) ?_
          refine jx_istore_n dX10_fits_38 rfl (by decide) ?_
          refine jx_aload_n dX10_fits_39 rfl ?_
          refine jx_getR dX10_fits_40 flX10_32 rfl rfl hRh ?_
          refine jx_getR dX10_fits_43 flX10_114 rfl rfl (hR _ _ _ rfl) ?_
          refine jx_iload_n dX10_fits_46 rfl ?_
          refine jx_aload_n dX10_fits_47 rfl ?_
          refine jx_getR dX10_fits_48 flX10_60 rfl rfl (hR _ _ _ rfl) ?_
          refine jx_getR dX10_fits_51 flX10_320 rfl rfl (hR _ _ _ rfl) ?_
          refine jx_iload_n dX10_fits_54 rfl ?_
          refine jx_ialdE (k) dX10_fits_55 rfl (rfl) (by omega) (by omega) ((hsi k h10).2.1.trans hk5.1) ?_
          refine jx_Vl (as := [.int _, .int _]) dX10_fits_56 mlX10_335 okX8_quickBy viX8_quickBy rfl rfl rfl rfl rfl (by decide) (Nat.le_of_ble_eq_true rfl) (tX8_quickBy hW hR (by decide) hI.1 hT hk5b hm) ?_
          refine jx_aload_n dX10_fits_59 rfl ?_
          refine jx_getR dX10_fits_60 flX10_60 rfl rfl (hR _ _ _ rfl) ?_
          refine jx_getR dX10_fits_63 flX10_317 rfl rfl (hR _ _ _ rfl) ?_
          refine jx_iload_n dX10_fits_66 rfl ?_
          refine jx_ialdE (k) dX10_fits_67 rfl (rfl) (by omega) (by omega) ((hsi k h10).1.trans hk4.1) ?_
          refine jx_Si (as := [.long _, .int _]) dX10_fits_68 mlX10_177 okX10_has stX10_has rfl rfl (by decide) (Nat.le_of_ble_eq_true rfl) (tX10_has hW (c := cN (T 1104 k)) (by omega) _) ?_
          rw [bt_bs (by omega)]
          change jWP _ _ _ _ _ _ _ _ _ _ (.int (jb (qm T W H m (cN (T 1105 k)) (cN (T 1104 k)))) :: _) _
          refine jx_iload_n dX10_fits_71 rfl ?_
          refine jx_icmp_eq 77 dX10_fits_72 (by decide) (fun h72 => ?_) (fun h72 => ?_)
          · refine jx_iinc dX10_fits_77 rfl (v := nI (k + 1)) (nI_1 _) (by decide) ?_
            refine jx_goto 2 dX10_fits_80 (by decide) ?_
            have hg : (fun k => qm T W H m (cN (T 1105 k)) (cN (T 1104 k)) != decide (T 1106 k = 1)) k = false := by
              have e2 : decide (T 1106 k = 1) = true := decide_eq_true (by rcases hz with z | z; exact absurd z h30; exact z)
              have e1 : qm T W H m (cN (T 1105 k)) (cN (T 1104 k)) = true := jbe1.mp h72
              show (_ != _) = false
              rw [e1, e2]; rfl
            exact jx_ls (by exact ⟨rfl, rfl, rfl, trivial⟩) (ih (by omega) (fun j hj2 => by
              by_cases z : j = k
              · rw [z]; exact hg
              · exact hj j (by omega)))
          · refine jx_iconst (v := 0) dX10_fits_75 (by decide) ?_
            refine jx_zret dX10_fits_76 rfl ?_ ?_
            · first | exact Or.inl rfl | exact Or.inr rfl | exact jb_or _
            refine ⟨?_, rfl⟩
            have hg : (fun k => qm T W H m (cN (T 1105 k)) (cN (T 1104 k)) != decide (T 1106 k = 1)) k = true := by
              have e2 : decide (T 1106 k = 1) = true := decide_eq_true (by rcases hz with z | z; exact absurd z h30; exact z)
              have e1 : qm T W H m (cN (T 1105 k)) (cN (T 1104 k)) = false := by
                cases e : qm T W H m (cN (T 1105 k)) (cN (T 1104 k))
                · rfl
                · exact absurd (jbe1.mpr e) h72
              show (_ != _) = true
              rw [e1, e2]; rfl
            unfold ftM
            rw [anyN_of (g := (fun k => qm T W H m (cN (T 1105 k)) (cN (T 1104 k)) != decide (T 1106 k = 1))) hg (by omega)]
            rfl
  refine jx_iconst (v := 0) dX10_fits_0 (by decide) ?_
  refine jx_istore_n dX10_fits_1 rfl (by decide) ?_
  exact jx_ls (by exact ⟨rfl, rfl, rfl, trivial⟩) (key 0 (by omega) (fun j hj => absurd hj (by omega)))
theorem cntN_l (g : Nat → Bool) : ∀ m, cntN g m ≤ m
  | 0 => Nat.le_refl _
  | m + 1 => by
    have := cntN_l g m
    rw [cntN]
    split <;> omega
theorem fnd_keep {f : Nat → Bool} {m : Nat} (h : f m = false) : fnd f (m + 1) = fnd f m := by
  cases e : fnd f m with
  | none => exact fnd_none.mpr (fun t ht => by
      by_cases z : t = m
      · rw [z]; exact h
      · exact fnd_none.mp e t (by omega))
  | some x =>
    obtain ⟨h1, h2, h3⟩ := fnd_some.mp e
    exact fnd_some.mpr ⟨by omega, h2, h3⟩
theorem fnd_new {f : Nat → Bool} {m : Nat} (e : fnd f m = none) (h : f m = true) : fnd f (m + 1) = some m := fnd_some.mpr ⟨by omega, h, fun j hj => fnd_none.mp e j hj⟩
theorem fnd_old {f : Nat → Bool} {m x : Nat} (e : fnd f m = some x) : fnd f (m + 1) = some x := by
  obtain ⟨h1, h2, h3⟩ := fnd_some.mp e
  exact fnd_some.mpr ⟨by omega, h2, h3⟩
set_option maxHeartbeats 1000000 in
set_option maxRecDepth 20000 in
theorem tX10_motions (hW : jWok w l) (hR : RS R) {h : Nat} {T : Nat → Nat → Int32} {W H np len : Nat} (hX : CX I L R h T W H np len) {s : Nat} (hS : LSk I T W H s) {k : Nat} (hk : k ≤ 1) : jQ w l mX10_motions 7 [.ref 1000, .int (nI k)] n I L R h T W H np len (if k = 0 then nI (cntN (ftM T W H s) 25) else oI (fnd (ftM T W H s) 25)) := by
  refine jRi_of hW (by decide) rfl (Nat.le_of_ble_eq_true rfl) ?_
  have hX0 := hX
  obtain ⟨⟨⟨hh, hRi⟩, hI, hRI, hok, hFL, hSK⟩, hRh⟩ := hX
  have hT := RI.tq hRI
  have hw := hT.1
  have hhh := hT.2.1
  have hwh : W * H ≤ 63 := Nat.mul_le_mul hw.2 hhh.2
  have hn6 := hRI.2.2.2.2.1.2
  have key : ∀ m, m ≤ 25 → ∀ lv : Int32, (lv = oI (fnd (ftM T W H s) m)) → jWP w l mX10_motions 7 0 0 (fun v t => ∃ r, v = some (.int r) ∧ (r = (if k = 0 then nI (cntN (ftM T W H s) 25) else oI (fnd (ftM T W H s) 25)) ∧ ∃ J M', t = (n, shE, J, M', R) ∧ eqC I J ∧ eqCL L M' ∧ CX J M' R h T W H np len)) (fun _ _ => False) 27 [(0, .ref 1000), (1, .int (nI k)), (2, .int (nI (cntN (ftM T W H s) m))), (3, .int lv), (4, .int (nI m))] [] (n, shE, I, L, R) := by
    refine jdown _ (fun m hm ih lv hlv => ?_)
    have hcl : cntN (ftM T W H s) m ≤ m := cntN_l _ m
    refine jx_iload dX10_motions_27 rfl ?_
    refine jx_bipush (v := 25) dX10_motions_29 (by decide) ?_
    refine jx_icmpN_ge (a := m) (b := 25) 64 dX10_motions_31 (by decide) (by omega) (by omega) (fun h31 => ?_) (fun h31 => ?_)
    · refine jx_iload_n dX10_motions_64 rfl ?_
      refine jx_ifN_ne (a := k) 72 dX10_motions_65 (by decide) (by omega) (fun h65 => ?_) (fun h65 => ?_)
      · refine jx_iload_n dX10_motions_72 rfl ?_
        refine jx_iret dX10_motions_73 rfl ?_
        have hm25 : m = 25 := by omega
        subst hm25
        refine ⟨_, rfl, ?_, I, L, rfl, eqC_r I, eqCL_r L, hX0⟩
        first | (rw [if_pos h65]) | (rw [if_neg h65, hlv])
      · refine jx_iload_n dX10_motions_68 rfl ?_
        refine jx_goto 73 dX10_motions_69 (by decide) ?_
        refine jx_iret dX10_motions_73 rfl ?_
        have hm25 : m = 25 := by omega
        subst hm25
        refine ⟨_, rfl, ?_, I, L, rfl, eqC_r I, eqCL_r L, hX0⟩
        first | (rw [if_pos h65]) | (rw [if_neg h65, hlv])
    · refine jx_aload_n dX10_motions_34 rfl ?_
      refine jx_iload dX10_motions_35 rfl ?_
      refine jx_Vi (as := [.int _]) dX10_motions_37 mlX10_328 okX10_fits viX10_fits rfl rfl rfl rfl rfl (by decide) (Nat.le_of_ble_eq_true rfl) (tX10_fits hW hR hX0 hS (by omega)) ?_
      refine jx_ifB_eq 58 dX10_motions_40 (by decide) (fun h40 => ?_) (fun h40 => ?_)
      · skip
        refine jx_iinc dX10_motions_58 rfl (v := nI (m + 1)) (nI_1 _) (by decide) ?_
        refine jx_goto 27 dX10_motions_61 (by decide) ?_
        have e1 : cntN (ftM T W H s) (m + 1) = cntN (ftM T W H s) m := by rw [cntN, if_neg (by rw [h40]; decide), Nat.add_zero]
        have e2 : fnd (ftM T W H s) (m + 1) = fnd (ftM T W H s) m := fnd_keep h40
        have kk := ih (by omega) lv (by rw [e2]; exact hlv)
        rw [e1] at kk
        exact jx_ls (by exact ⟨rfl, rfl, rfl, rfl, rfl, trivial⟩) kk
      · refine jx_iinc dX10_motions_43 rfl (v := nI ((cntN (ftM T W H s) m) + 1)) (nI_1 _) (by decide) ?_
        refine jx_iload_n dX10_motions_46 rfl ?_
        refine jx_iconst (v := -1) dX10_motions_47 (by decide) ?_
        refine jx_icmp_ne 56 dX10_motions_48 (by decide) (fun h48 => ?_) (fun h48 => ?_)
        · skip
          refine jx_iload_n dX10_motions_56 rfl ?_
          refine jx_istore_n dX10_motions_57 rfl (by decide) ?_
          refine jx_iinc dX10_motions_58 rfl (v := nI (m + 1)) (nI_1 _) (by decide) ?_
          refine jx_goto 27 dX10_motions_61 (by decide) ?_
          have e1 : cntN (ftM T W H s) (m + 1) = cntN (ftM T W H s) m + 1 := by rw [cntN, if_pos h40]
          have kk := ih (by omega) lv (by
            cases e : fnd (ftM T W H s) m with
            | none => exact absurd (by rw [hlv, e]; rfl) h48
            | some x => rw [fnd_old e, hlv, e])
          rw [e1] at kk
          exact jx_ls (by exact ⟨rfl, rfl, rfl, rfl, rfl, trivial⟩) kk
        · refine jx_iload dX10_motions_51 rfl ?_
          refine jx_goto 57 dX10_motions_53 (by decide) ?_
          refine jx_istore_n dX10_motions_57 rfl (by decide) ?_
          refine jx_iinc dX10_motions_58 rfl (v := nI (m + 1)) (nI_1 _) (by decide) ?_
          refine jx_goto 27 dX10_motions_61 (by decide) ?_
          have e1 : cntN (ftM T W H s) (m + 1) = cntN (ftM T W H s) m + 1 := by rw [cntN, if_pos h40]
          have kk := ih (by omega) (nI m) (by
            cases e : fnd (ftM T W H s) m with
            | none => rw [fnd_new e h40]; rfl
            | some x => exact absurd h48 (fun q => by
              rw [hlv, e] at q
              have hx := fnd_lt e
              have q2 := congrArg Int32.toInt (show nI x = -1 from q)
              rw [nI_toInt (by omega)] at q2
              have : (-1 : Int32).toInt = -1 := by decide
              omega))
          rw [e1] at kk
          exact jx_ls (by exact ⟨rfl, rfl, rfl, rfl, rfl, trivial⟩) kk
  refine jx_iload_n dX10_motions_0 rfl ?_
  refine jx_ifN_eq (a := k) 20 dX10_motions_1 (by decide) (by omega) (fun h1 => ?_) (fun h1 => ?_)
  · refine jx_iconst (v := 0) dX10_motions_20 (by decide) ?_
    refine jx_istore_n dX10_motions_21 rfl (by decide) ?_
    refine jx_iconst (v := -1) dX10_motions_22 (by decide) ?_
    refine jx_istore_n dX10_motions_23 rfl (by decide) ?_
    refine jx_iconst (v := 0) dX10_motions_24 (by decide) ?_
    refine jx_istore dX10_motions_25 (by decide) ?_
    exact jx_ls (by exact ⟨rfl, rfl, rfl, rfl, rfl, trivial⟩) (key 0 (by omega) (-1) rfl)
  · refine jx_iload_n dX10_motions_4 rfl ?_
    refine jx_iconst (v := 1) dX10_motions_5 (by decide) ?_
    refine jx_icmpN_eq (a := k) (b := 1) 20 dX10_motions_6 (by decide) (by omega) (by omega) (fun h6 => ?_) (fun h6 => ?_)
    · refine jx_iconst (v := 0) dX10_motions_20 (by decide) ?_
      refine jx_istore_n dX10_motions_21 rfl (by decide) ?_
      refine jx_iconst (v := -1) dX10_motions_22 (by decide) ?_
      refine jx_istore_n dX10_motions_23 rfl (by decide) ?_
      refine jx_iconst (v := 0) dX10_motions_24 (by decide) ?_
      refine jx_istore dX10_motions_25 (by decide) ?_
      exact jx_ls (by exact ⟨rfl, rfl, rfl, rfl, rfl, trivial⟩) (key 0 (by omega) (-1) rfl)
    · exact absurd h6 (by omega)
set_option maxHeartbeats 1000000 in
set_option maxRecDepth 20000 in
theorem tX10_motionsF (hW : jWok w l) (hR : RS R) (k : Int32) (hbad : ¬ (0 ≤ k.toInt ∧ k.toInt ≤ 1)) : jTh w l mX10_motions 3 [.ref 1000, .int k] n I L R eN := by
  refine jTh_of hW (by decide) rfl (Nat.le_of_ble_eq_true rfl) ?_
  refine jx_iload_n dX10_motions_0 rfl ?_
  refine jx_if_eq 20 dX10_motions_1 (by decide) (fun h1 => ?_) (fun h1 => ?_)
  · exact absurd (show 0 ≤ k.toInt ∧ k.toInt ≤ 1 by rw [h1]; decide) hbad
  · refine jx_iload_n dX10_motions_4 rfl ?_
    refine jx_iconst (v := 1) dX10_motions_5 (by decide) ?_
    refine jx_icmp_eq 20 dX10_motions_6 (by decide) (fun h6 => ?_) (fun h6 => ?_)
    · exact absurd (show 0 ≤ k.toInt ∧ k.toInt ≤ 1 by rw [h6]; decide) hbad
    · exact jx_thN (is := 326) (len := 3) 38 rfl rfl rfl rfl rfl (Nat.le_of_ble_eq_true rfl) dX10_motions_9 dX10_motions_12 (Or.inr ⟨dX10_motions_13, rfl⟩) dX10_motions_16 dX10_motions_19 (by decide) (by decide) (fun n1 hn1 => ⟨rfl, n1, hn1, rfl⟩)
theorem bt_allV : ∀ k, k < 64 → ∀ c, c < 64 → bt (sh1 k - 1) c = decide (c < k) := by decide +kernel
theorem allV_bs {W H : Nat} (h : W * H ≤ 63) : allV W H = bs (fun c => decide (c < W * H)) := bs_of (fun c hc => by unfold allV; exact bt_allV (W * H) (by omega) c hc)
theorem qset_bs {T : Nat → Nat → Int32} {W H m day : Nat} (hw : 0 < W) (hh : 0 < H) (h : W * H ≤ 63) : qset T W H m day = bs (qm T W H m day) := bs_of (fun c hc => by
  unfold qset
  rw [bt_bset _ _ (by omega)]
  cases e : qm T W H m day c
  · rw [Bool.and_false]
  · have := qOn_lt hw hh _ e
    rw [decide_eq_true this]; rfl)
set_option maxHeartbeats 1000000 in
set_option maxRecDepth 20000 in
theorem tX10_sound (hW : jWok w l) (hR : RS R) {h : Nat} {T : Nat → Nat → Int32} {W H np len : Nat} (hX : CX I L R h T W H np len) {s : Nat} (hS : LSk I T W H s) {day : Nat} (z : Bool) (hd : day ≤ 40) : jCD w l mX10_sound 5 [.ref 1000, .int (nI day), .int (jb z)] (n, shE, I, L, R) (some (.long (sndV (ftM T W H s) (fun m => qset T W H m day) (allV W H) z))) (n, shE, I, L, R) := by
  refine jCD_of hW (by decide) rfl (Nat.le_of_ble_eq_true rfl) ?_
  have hX0 := hX
  obtain ⟨⟨⟨hh, hRi⟩, hI, hRI, -, -, -⟩, hRh⟩ := hX
  have hT := RI.tq hRI
  have hw := hT.1
  have hhh := hT.2.1
  have hwh : W * H ≤ 63 := Nat.mul_le_mul hw.2 hhh.2
  have hal := allV_bs (W := W) (H := H) hwh
  have hqs := fun m => qset_bs (T := T) (m := m) (day := day) (show 0 < W by omega) (show 0 < H by omega) hwh
  have key : ∀ m, m ≤ 25 → jWP w l mX10_sound 5 0 0 (fun r t => r = some (.long (sndV (ftM T W H s) (fun m => qset T W H m day) (allV W H) z)) ∧ t = (n, shE, I, L, R)) (fun _ _ => False) 25 [(0, .ref 1000), (1, .int (nI day)), (2, .int (jb z)), (3, .int (jb (!anyN (ftM T W H s) m))), (4, .long (smN (ftM T W H s) (fun m => qset T W H m day) m)), (6, .long (evN (ftM T W H s) (fun m => qset T W H m day) (allV W H) m)), (8, .int (nI m))] [] (n, shE, I, L, R) := by
    refine jdown _ (fun m hm ih => ?_)
    rcases hh with rfl | rfl
    all_goals
    refine jx_iload dX10_sound_25 rfl ?_
    refine jx_bipush (v := 25) dX10_sound_27 (by decide) ?_
    refine jx_icmpN_ge (a := m) (b := 25) 78 dX10_sound_29 (by decide) (by omega) (by omega) (fun h29 => ?_) (fun h29 => ?_)
    · refine jx_iload_n dX10_sound_78 rfl ?_
      refine jx_ifB_eq 84 dX10_sound_79 (by decide) (fun h79 => ?_) (fun h79 => ?_)
      · refine jx_iload_n dX10_sound_84 rfl ?_
        refine jx_ifB_eq 100 dX10_sound_85 (by decide) (fun h85 => ?_) (fun h85 => ?_)
        · refine jx_aload_n dX10_sound_100 rfl ?_
          refine jx_getR dX10_sound_101 flX10_32 rfl rfl hRh ?_
          refine jx_getR dX10_sound_104 flX10_114 rfl rfl (hR _ _ _ rfl) ?_
          refine jx_getLE dX10_sound_107 flX10_332 rfl rfl (hI.1.2.2.2.2.2.1.1.trans hal.symm) ?_
          refine jx_lload dX10_sound_110 rfl ?_
          refine jx_ldc2 dX10_sound_112 ctX10_338 ?_
          refine jx_lxor dX10_sound_115 ?_
          refine jx_land dX10_sound_116 ?_
          refine jx_lret dX10_sound_117 rfl ?_
          have hm25 : m = 25 := by omega
          subst hm25
          refine ⟨congrArg (fun v => some (Value.long v)) ?_, rfl⟩
          unfold sndV
          first
            | (have q : anyN (ftM T W H s) 25 = false := by cases e : anyN (ftM T W H s) 25; rfl; rw [e] at h79; cases h79
               rw [if_pos q])
            | (have q : ¬ anyN (ftM T W H s) 25 = false := by intro e; rw [e] at h79; cases h79
               rw [if_neg q]
               first | rw [if_pos h85] | rw [if_neg (by rw [h85]; decide)])
        · refine jx_lload dX10_sound_88 rfl ?_
          refine jx_lload dX10_sound_90 rfl ?_
          refine jx_ldc2 dX10_sound_92 ctX10_338 ?_
          refine jx_lxor dX10_sound_95 ?_
          refine jx_land dX10_sound_96 ?_
          refine jx_goto 117 dX10_sound_97 (by decide) ?_
          refine jx_lret dX10_sound_117 rfl ?_
          have hm25 : m = 25 := by omega
          subst hm25
          refine ⟨congrArg (fun v => some (Value.long v)) ?_, rfl⟩
          unfold sndV
          first
            | (have q : anyN (ftM T W H s) 25 = false := by cases e : anyN (ftM T W H s) 25; rfl; rw [e] at h79; cases h79
               rw [if_pos q])
            | (have q : ¬ anyN (ftM T W H s) 25 = false := by intro e; rw [e] at h79; cases h79
               rw [if_neg q]
               first | rw [if_pos h85] | rw [if_neg (by rw [h85]; decide)])
      · refine jx_lconst (v := 0) dX10_sound_82 (by decide) ?_
        refine jx_lret dX10_sound_83 rfl ?_
        have hm25 : m = 25 := by omega
        subst hm25
        refine ⟨congrArg (fun v => some (Value.long v)) ?_, rfl⟩
        unfold sndV
        first
          | (have q : anyN (ftM T W H s) 25 = false := by cases e : anyN (ftM T W H s) 25; rfl; rw [e] at h79; cases h79
             rw [if_pos q])
          | (have q : ¬ anyN (ftM T W H s) 25 = false := by intro e; rw [e] at h79; cases h79
             rw [if_neg q]
             first | rw [if_pos h85] | rw [if_neg (by rw [h85]; decide)])
    · refine jx_aload_n dX10_sound_32 rfl ?_
      refine jx_iload dX10_sound_33 rfl ?_
      refine jx_Vi (as := [.int _]) dX10_sound_35 mlX10_328 okX10_fits viX10_fits rfl rfl rfl rfl rfl (by decide) (Nat.le_of_ble_eq_true rfl) (tX10_fits hW hR hX0 hS (by omega)) ?_
      refine jx_ifB_eq 72 dX10_sound_38 (by decide) (fun h38 => ?_) (fun h38 => ?_)
      · skip
        refine jx_iinc dX10_sound_72 rfl (v := nI (m + 1)) (nI_1 _) (by decide) ?_
        refine jx_goto 25 dX10_sound_75 (by decide) ?_
        have e1 : smN (ftM T W H s) (fun m => qset T W H m day) (m + 1) = smN (ftM T W H s) (fun m => qset T W H m day) m := by rw [smN, if_neg (by rw [h38]; decide)]
        have e2 : evN (ftM T W H s) (fun m => qset T W H m day) (allV W H) (m + 1) = evN (ftM T W H s) (fun m => qset T W H m day) (allV W H) m := by rw [evN, if_neg (by rw [h38]; decide)]
        have e3 : anyN (ftM T W H s) (m + 1) = anyN (ftM T W H s) m := by rw [anyN, h38, Bool.or_false]
        have kk := ih (by omega)
        rw [e1, e2, e3] at kk
        exact jx_ls (by exact ⟨rfl, rfl, rfl, rfl, rfl, rfl, rfl, trivial⟩) kk
      · refine jx_aload_n dX10_sound_41 rfl ?_
        refine jx_getR dX10_sound_42 flX10_32 rfl rfl hRh ?_
        refine jx_getR dX10_sound_45 flX10_114 rfl rfl (hR _ _ _ rfl) ?_
        refine jx_iload dX10_sound_48 rfl ?_
        refine jx_iload_n dX10_sound_50 rfl ?_
        refine jx_Vl (as := [.int _, .int _]) dX10_sound_51 mlX10_335 okX8_quickBy viX8_quickBy rfl rfl rfl rfl rfl (by decide) (Nat.le_of_ble_eq_true rfl) (tX8_quickBy hW hR (by decide) hI.1 hT hd (by omega)) ?_
        refine jx_lstore dX10_sound_54 (by decide) ?_
        refine jx_iconst (v := 0) dX10_sound_56 (by decide) ?_
        refine jx_istore_n dX10_sound_57 rfl (by decide) ?_
        refine jx_lload dX10_sound_58 rfl ?_
        refine jx_lload dX10_sound_60 rfl ?_
        refine jx_lor dX10_sound_62 ?_
        refine jx_lstore dX10_sound_63 (by decide) ?_
        refine jx_lload dX10_sound_65 rfl ?_
        refine jx_lload dX10_sound_67 rfl ?_
        refine jx_land dX10_sound_69 ?_
        refine jx_lstore dX10_sound_70 (by decide) ?_
        refine jx_iinc dX10_sound_72 rfl (v := nI (m + 1)) (nI_1 _) (by decide) ?_
        refine jx_goto 25 dX10_sound_75 (by decide) ?_
        have e0 : bs (fun c => qOn W H (fun k => cN (T 1075 k)) day ((m / 5 : Nat) - 2 : Int) ((m % 5 : Nat) - 2 : Int) (cN (T 1072 4)) c) = qset T W H m day := (hqs m).symm
        rw [e0]
        have e1 : smN (ftM T W H s) (fun m => qset T W H m day) (m + 1) = smN (ftM T W H s) (fun m => qset T W H m day) m ||| qset T W H m day := by rw [smN, if_pos h38]
        have e2 : evN (ftM T W H s) (fun m => qset T W H m day) (allV W H) (m + 1) = evN (ftM T W H s) (fun m => qset T W H m day) (allV W H) m &&& qset T W H m day := by rw [evN, if_pos h38]
        have e3 : anyN (ftM T W H s) (m + 1) = true := by rw [anyN, h38, Bool.or_true]
        have kk := ih (by omega)
        rw [e1, e2, e3] at kk
        exact jx_ls (by exact ⟨rfl, rfl, rfl, rfl, rfl, rfl, rfl, trivial⟩) kk
  rcases hh with rfl | rfl
  all_goals
    refine jx_aload_n dX10_sound_0 rfl ?_
    refine jx_iload_n dX10_sound_1 rfl ?_
    refine jx_Vv (as := [.int _]) dX10_sound_2 mlX10_170 okX10_needDay viX10_needDay rfl rfl rfl rfl rfl (by decide) (Nat.le_of_ble_eq_true rfl) (tX10_needDay hW hR (by omega)) ?_
    refine jx_iconst (v := 1) dX10_sound_5 (by decide) ?_
    refine jx_istore_n dX10_sound_6 rfl (by decide) ?_
    refine jx_lconst (v := 0) dX10_sound_7 (by decide) ?_
    refine jx_lstore dX10_sound_8 (by decide) ?_
    refine jx_aload_n dX10_sound_10 rfl ?_
    refine jx_getR dX10_sound_11 flX10_32 rfl rfl hRh ?_
    refine jx_getR dX10_sound_14 flX10_114 rfl rfl (hR _ _ _ rfl) ?_
    refine jx_getLE dX10_sound_17 flX10_332 rfl rfl (hI.1.2.2.2.2.2.1.1.trans hal.symm) ?_
    refine jx_lstore dX10_sound_20 (by decide) ?_
    refine jx_iconst (v := 0) dX10_sound_22 (by decide) ?_
    refine jx_istore dX10_sound_23 (by decide) ?_
    exact jx_ls (by exact ⟨rfl, rfl, rfl, rfl, rfl, rfl, rfl, trivial⟩) (key 0 (by omega))
set_option maxHeartbeats 1000000 in
set_option maxRecDepth 20000 in
theorem tX10_soundF (hW : jWok w l) (hR : RS R) (day z : Int32) (hbad : ¬ dayQ day = true) : jTh w l mX10_sound 3 [.ref 1000, .int day, .int z] n I L R eN := by
  refine jTh_of hW (by decide) rfl (Nat.le_of_ble_eq_true rfl) ?_
  refine jx_aload_n dX10_sound_0 rfl ?_
  refine jx_iload_n dX10_sound_1 rfl ?_
  exact jx_VT (as := [.int _]) dX10_sound_2 mlX10_170 okX10_needDay viX10_needDay rfl rfl rfl rfl rfl (by decide) (Nat.le_of_ble_eq_true rfl) (by decide) (by decide) (tX10_needDayF hW hR (fun z => hbad (decide_eq_true ⟨z.1, by omega⟩))) (fun E t h => h)
end CM1
