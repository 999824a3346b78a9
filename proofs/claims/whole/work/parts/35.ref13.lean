/-! THE REFERENCE: leave, what sank, the image -/
theorem thr_lt {I : Nat → Nat → Int32} {W H np b : Nat} (hB : RK I W H np b) (hnp : np ≤ 6) (day : Nat) : ∀ k, k ≤ b → thr I day k < 64
  | 0, _ => (by show (0 : Nat) < 64; omega)
  | k + 1, h => by
    have ih := thr_lt hB hnp day k (by omega)
    have h6 := (hB.2.2 k (by omega)).1.2
    show (if onD I day k = true then _ else _) < 64
    split
    · exact (or_all ⟨_, ih⟩ ⟨_, (by omega : cN (I 1094 k) < 6)⟩).2
    · exact ih
theorem lvN_lt {I : Nat → Nat → Int32} {W b day there : Nat} (h : there < 64) : ∀ s, s ≤ 64 → lvN I W b day there s < 64
  | 0, _ => h
  | s + 1, hs => by
    show (if _ then s else lvN I W b day there s) < 64
    split
    · omega
    · exact lvN_lt h s (by omega)
theorem thr_c (I : Nat → Nat → Int32) (day : Nat) (v : Int32) : ∀ k, thr (upI I 1069 2 v) day k = thr I day k
  | 0 => rfl
  | k + 1 => by
    show (if onD (upI I 1069 2 v) day k = true then thr (upI I 1069 2 v) day k ||| _ else thr (upI I 1069 2 v) day k) = _
    rw [thr_c I day v k]
    rfl
theorem lvN_c (I : Nat → Nat → Int32) (W b day there : Nat) (v : Int32) : ∀ s, lvN (upI I 1069 2 v) W b day there s = lvN I W b day there s
  | 0 => rfl
  | s + 1 => by
    show (if s &&& there = s ∧ pc6 s < pc6 (lvN (upI I 1069 2 v) W b day there s) ∧ crw (upI I 1069 2 v) W b day s = none then s else lvN (upI I 1069 2 v) W b day there s) = _
    rw [lvN_c I W b day there v s, crw_c]
    rfl
/-- what sank -/
def SK (W H s : Nat) (cell day sk : Nat → Int32) : Prop := s ≤ 12 ∧ ∀ i, i < s → (cell i = nI (cN (cell i)) ∧ cN (cell i) < W * H) ∧ (day i = nI (cN (day i)) ∧ cN (day i) ≤ 40) ∧ (sk i = 0 ∨ sk i = 1)
def RSk (I : Nat → Nat → Int32) (W H s : Nat) : Prop := I 1069 33 = nI s ∧ SK W H s (I 1104) (I 1105) (I 1106)
def imgH (I : Nat → Nat → Int32) : Nat → Nat → Int32 := fl (fl (fl (fl (fl (fl (fl (fl (fl (upI (upI (upI (upI I 1069 2 0) 1069 55 1) 1069 56 (I 1069 32)) 1069 57 (I 1069 33)) 1109 (I 1094) 12) 1110 (I 1095) 12) 1111 (I 1096) 12) 1112 (I 1097) 12) 1113 (I 1098) 1152) 1114 (I 1104) 12) 1115 (I 1105) 12) 1117 (I 1106) 12) 1116 (I 1083) 3
def resH (I : Nat → Nat → Int32) : Nat → Nat → Int32 := fl (fl (fl (fl (fl (fl (fl (fl (fl (upI (upI (upI I 1069 2 0) 1069 32 (I 1069 56)) 1069 33 (I 1069 57)) 1094 (I 1109) 12) 1095 (I 1110) 12) 1096 (I 1111) 12) 1097 (I 1112) 12) 1098 (I 1113) 1152) 1104 (I 1114) 12) 1105 (I 1115) 12) 1106 (I 1117) 12) 1083 (I 1116) 3
section RM
variable {w : jWD} {l : Launch} {n : Nat} {I J : Nat → Nat → Int32} {L : Nat → Nat → Int64} {R : Nat → Nat → Option Nat}

set_option maxHeartbeats 1000000 in
set_option maxRecDepth 20000 in
theorem tX11_leaveF (hW : jWok w l) (hR : RS R) {W H np len : Nat} (hI : RI I W H np len) (day : Int32) (hbad : ¬ (dayQ day = true)) : jCD w l mX11_leave 3 [.ref 1069, .int day] (n, shE, I, L, R) (some (.int 0)) (n, shE, upI I 1069 2 1, L, R) := by
  refine jCD_of hW (by decide) rfl (Nat.le_of_ble_eq_true rfl) ?_
  have hI0 := hI.kp (k0 I)
  refine jx_aload_n dX11_leave_0 rfl ?_
  refine jx_iconst (v := 0) dX11_leave_1 (by decide) ?_
  refine jx_putI dX11_leave_2 flX11_187 rfl rfl (fun r h => by cases h; rfl) ?_
  refine jx_iload_n dX11_leave_5 rfl ?_
  refine jx_Si (as := [.int _]) dX11_leave_6 mlX11_438 okX11_isDay stX11_isDay rfl rfl (by decide) (Nat.le_of_ble_eq_true rfl) (tX11_isDay hW _) ?_
  refine jx_ifB_ne 18 dX11_leave_9 (by decide) (fun h9 => ?_) (fun h9 => ?_)
  · exact absurd h9 hbad
  · refine jx_aload_n dX11_leave_12 rfl ?_
    refine jx_iconst (v := 1) dX11_leave_13 (by decide) ?_
    refine jx_Vi (as := [.int _]) dX11_leave_14 mlX11_351 okX11_fail viX11_fail rfl rfl rfl rfl rfl (by decide) (Nat.le_of_ble_eq_true rfl) (tX11_fail hW _) ?_
    refine jx_iret dX11_leave_17 rfl ?_
    exact ⟨rfl, by rw [up_up]⟩
set_option maxHeartbeats 1000000 in
set_option maxRecDepth 20000 in
theorem tX11_leave (hW : jWok w l) (hR : RS R) {W H np len : Nat} (hI : RI I W H np len) {b : Nat} (hB : RK I W H np b) {day : Nat} (hd : day ≤ 40) : jRi w l mX11_leave 6 [.ref 1069, .int (nI day)] (n, shE, I, L, R) (fun r t => r = nI (lvN I W b day (thr I day b) 64) ∧ ∃ J, t = (n, shE, J, L, R) ∧ eqs (upI I 1069 2 0) J) := by
  refine jRi_of hW (by decide) rfl (Nat.le_of_ble_eq_true rfl) ?_
  have hI0 := hI.kp (k0 I)
  have hT := hI0.1.1
  have hz := hT.wh
  have hw3 := hT.2.2.1
  have hw9 := hT.2.2.2.1
  have hh1 := hT.2.2.2.2.1
  have hh7 := hT.2.2.2.2.2
  have hnp := hI0.2.2.2.2.1.2
  refine jx_aload_n dX11_leave_0 rfl ?_
  refine jx_iconst (v := 0) dX11_leave_1 (by decide) ?_
  refine jx_putI dX11_leave_2 flX11_187 rfl rfl (fun r h => by cases h; rfl) ?_
  refine jx_iload_n dX11_leave_5 rfl ?_
  refine jx_Si (as := [.int _]) dX11_leave_6 mlX11_438 okX11_isDay stX11_isDay rfl rfl (by decide) (Nat.le_of_ble_eq_true rfl) (tX11_isDayT hW hd) ?_
  refine jx_ifB_ne 18 dX11_leave_9 (by decide) (fun h9 => ?_) (fun h9 => by cases h9)
  refine jx_iconst (v := 0) dX11_leave_18 (by decide) ?_
  refine jx_istore_n dX11_leave_19 rfl (by decide) ?_
  refine jx_iconst (v := 0) dX11_leave_20 (by decide) ?_
  refine jx_istore_n dX11_leave_21 rfl (by decide) ?_
  have hB0 := hB.c 0
  have hb12 := hB0.2.1
  have hbk := hB0.2.2
  have key2 : ∀ s, s ≤ 64 → jWP w l mX11_leave 6 0 0 (fun v t => ∃ r, v = some (.int r) ∧ (fun r t => r = nI (lvN I W b day (thr I day b) 64) ∧ ∃ J, t = (n, shE, J, L, R) ∧ eqs (upI I 1069 2 0) J) r t) (fun _ _ => False) 66 [(0, .ref 1069), (1, .int (nI day)), (2, .int (nI (thr (upI I 1069 2 0) day b))), (3, .int (nI (lvN (upI I 1069 2 0) W b day (thr (upI I 1069 2 0) day b) s))), (4, .int (nI s))] [] (n, shE, upI I 1069 2 0, L, R) := by
    have hth := thr_lt hB0 hnp day b (Nat.le_refl _)
    refine jdown _ (fun s hs ih => ?_)
    have hlv := lvN_lt (I := upI I 1069 2 0) (W := W) (b := b) (day := day) hth s hs
    refine jx_iload dX11_leave_66 rfl ?_
    refine jx_bipush (v := 64) dX11_leave_68 (by decide) ?_
    refine jx_icmpN_ge (a := s) (b := 64) 114 dX11_leave_70 (by decide) (by omega) (by omega) (fun h70 => ?_) (fun h70 => ?_)
    · refine jx_iload_n dX11_leave_114 rfl ?_
      refine jx_iret dX11_leave_115 rfl ?_
      have h64 : s = 64 := by omega
      subst h64
      refine ⟨_, rfl, ?_, _, rfl, eqs_r _⟩
      rw [lvN_c, thr_c]
    · refine jx_iload dX11_leave_73 rfl ?_
      refine jx_iload_n dX11_leave_75 rfl ?_
      refine jx_iconst (v := -1) dX11_leave_76 (by decide) ?_
      refine jx_ixor dX11_leave_77 ?_
      refine jx_iand dX11_leave_78 ?_
      refine jx_if_ne 108 dX11_leave_79 (by decide) (fun h79 => ?_) (fun h79 => ?_)
      · refine jx_iinc dX11_leave_108 rfl (v := nI (s + 1)) (nI_1 _) (by decide) ?_
        refine jx_goto 66 dX11_leave_111 (by decide) ?_
        have kk := ih h70
        rw [show lvN (upI I 1069 2 0) W b day (thr (upI I 1069 2 0) day b) (s + 1) = lvN (upI I 1069 2 0) W b day (thr (upI I 1069 2 0) day b) s from by
          show (if _ then s else _) = _
          refine if_neg (fun z => ?_)
          first | exact h79 ((sub_all ⟨s, by omega⟩ ⟨_, hth⟩).mpr z.1) | exact absurd z.2.1 (by omega) | exact h102 ((oI_m (fun a ha => by have := fnd_lt ha; omega)).mpr z.2.2)] at kk
        exact jx_ls (by exact ⟨rfl, rfl, rfl, rfl, rfl, trivial⟩) kk
      · refine jx_iload dX11_leave_82 rfl ?_
        refine jx_Si (as := [.int _]) dX11_leave_84 mlX11_482 okX11_bitsOf stX11_bitsOf rfl rfl (by decide) (Nat.le_of_ble_eq_true rfl) (tX11_bitsOf hW (by omega) _) ?_
        refine jx_iload_n dX11_leave_87 rfl ?_
        refine jx_Si (as := [.int _]) dX11_leave_88 mlX11_482 okX11_bitsOf stX11_bitsOf rfl rfl (by decide) (Nat.le_of_ble_eq_true rfl) (tX11_bitsOf hW hlv _) ?_
        have hp1 := pc6_le s
        have hp2 := pc6_le (lvN (upI I 1069 2 0) W b day (thr (upI I 1069 2 0) day b) s)
        refine jx_icmpN_ge (a := (pc6 s)) (b := (pc6 (lvN (upI I 1069 2 0) W b day (thr (upI I 1069 2 0) day b) s))) 108 dX11_leave_91 (by decide) (by omega) (by omega) (fun h91 => ?_) (fun h91 => ?_)
        · refine jx_iinc dX11_leave_108 rfl (v := nI (s + 1)) (nI_1 _) (by decide) ?_
          refine jx_goto 66 dX11_leave_111 (by decide) ?_
          have kk := ih h70
          rw [show lvN (upI I 1069 2 0) W b day (thr (upI I 1069 2 0) day b) (s + 1) = lvN (upI I 1069 2 0) W b day (thr (upI I 1069 2 0) day b) s from by
            show (if _ then s else _) = _
            refine if_neg (fun z => ?_)
            first | exact h79 ((sub_all ⟨s, by omega⟩ ⟨_, hth⟩).mpr z.1) | exact absurd z.2.1 (by omega) | exact h102 ((oI_m (fun a ha => by have := fnd_lt ha; omega)).mpr z.2.2)] at kk
          exact jx_ls (by exact ⟨rfl, rfl, rfl, rfl, rfl, trivial⟩) kk
        · refine jx_aload_n dX11_leave_94 rfl ?_
          refine jx_iload_n dX11_leave_95 rfl ?_
          refine jx_iload dX11_leave_96 rfl ?_
          refine jx_Vi (as := [.int _, .int _]) dX11_leave_98 mlX11_479 okX11_crowdedBut viX11_crowdedBut rfl rfl rfl rfl rfl (by decide) (Nat.le_of_ble_eq_true rfl) (tX11_crowdedBut hW hR hI0 hB0 hd (by omega)) ?_
          refine jx_iconst (v := -1) dX11_leave_101 (by decide) ?_
          refine jx_icmp_ne 108 dX11_leave_102 (by decide) (fun h102 => ?_) (fun h102 => ?_)
          · refine jx_iinc dX11_leave_108 rfl (v := nI (s + 1)) (nI_1 _) (by decide) ?_
            refine jx_goto 66 dX11_leave_111 (by decide) ?_
            have kk := ih h70
            rw [show lvN (upI I 1069 2 0) W b day (thr (upI I 1069 2 0) day b) (s + 1) = lvN (upI I 1069 2 0) W b day (thr (upI I 1069 2 0) day b) s from by
              show (if _ then s else _) = _
              refine if_neg (fun z => ?_)
              first | exact h79 ((sub_all ⟨s, by omega⟩ ⟨_, hth⟩).mpr z.1) | exact absurd z.2.1 (by omega) | exact h102 ((oI_m (fun a ha => by have := fnd_lt ha; omega)).mpr z.2.2)] at kk
            exact jx_ls (by exact ⟨rfl, rfl, rfl, rfl, rfl, trivial⟩) kk
          · refine jx_iload dX11_leave_105 rfl ?_
            refine jx_istore_n dX11_leave_107 rfl (by decide) ?_
            refine jx_iinc dX11_leave_108 rfl (v := nI (s + 1)) (nI_1 _) (by decide) ?_
            refine jx_goto 66 dX11_leave_111 (by decide) ?_
            have kk := ih h70
            rw [show lvN (upI I 1069 2 0) W b day (thr (upI I 1069 2 0) day b) (s + 1) = s from by
              show (if _ then s else _) = _
              rw [if_pos ⟨(sub_all ⟨s, by omega⟩ ⟨_, hth⟩).mp h79, h91, (oI_m (fun a ha => by have := fnd_lt ha; omega)).mp h102⟩]] at kk
            exact jx_ls (by exact ⟨rfl, rfl, rfl, rfl, rfl, trivial⟩) kk
  have key1 : ∀ k, k ≤ b → jWP w l mX11_leave 6 0 0 (fun v t => ∃ r, v = some (.int r) ∧ (fun r t => r = nI (lvN I W b day (thr I day b) 64) ∧ ∃ J, t = (n, shE, J, L, R) ∧ eqs (upI I 1069 2 0) J) r t) (fun _ _ => False) 22 [(0, .ref 1069), (1, .int (nI day)), (2, .int (nI (thr (upI I 1069 2 0) day k))), (3, .int (nI k))] [] (n, shE, upI I 1069 2 0, L, R) := by
    refine jdown _ (fun k hk ih => ?_)
    have hth := thr_lt hB0 hnp day k hk
    refine jx_iload_n dX11_leave_22 rfl ?_
    refine jx_aload_n dX11_leave_23 rfl ?_
    refine jx_getIE dX11_leave_24 flX11_363 rfl rfl (hB0.1) ?_
    refine jx_icmpN_ge (a := k) (b := b) 61 dX11_leave_27 (by decide) (by omega) (by omega) (fun h27 => ?_) (fun h27 => ?_)
    · refine jx_iload_n dX11_leave_61 rfl ?_
      refine jx_istore_n dX11_leave_62 rfl (by decide) ?_
      refine jx_iconst (v := 0) dX11_leave_63 (by decide) ?_
      refine jx_istore dX11_leave_64 (by decide) ?_
      have hkb : k = b := by omega
      subst hkb
      exact jx_ls (by exact ⟨rfl, rfl, rfl, rfl, rfl, trivial⟩) (key2 0 (by omega))
    · have hk1 := hbk k h27
      have hq1 : cN (I 1094 k) < np := hk1.1.2
      have hq2 : cN (I 1095 k) ≤ 40 := hk1.2.1.2
      refine jx_iload_n dX11_leave_30 rfl ?_
      refine jx_aload_n dX11_leave_31 rfl ?_
      refine jx_getR dX11_leave_32 flX11_112 rfl rfl (hR _ _ _ rfl) ?_
      refine jx_iload_n dX11_leave_35 rfl ?_
      refine jx_ialdE (k) dX11_leave_36 rfl (rfl) (by omega) (by omega) (hk1.2.1.1) ?_
      refine jx_iload_n dX11_leave_37 rfl ?_
      refine jx_icmpN_ne (a := (cN (I 1095 k))) (b := day) 52 dX11_leave_38 (by decide) (by omega) (by omega) (fun h38 => ?_) (fun h38 => ?_)
      · refine jx_iconst (v := 0) dX11_leave_52 (by decide) ?_
        refine jx_iorE (z := nI (thr (upI I 1069 2 0) day k)) dX11_leave_53 (Int32.or_zero) ?_
        refine jx_istore_n dX11_leave_54 rfl (by decide) ?_
        refine jx_iinc dX11_leave_55 rfl (v := nI (k + 1)) (nI_1 _) (by decide) ?_
        refine jx_goto 22 dX11_leave_58 (by decide) ?_
        have kk := ih h27
        rw [show thr (upI I 1069 2 0) day (k + 1) = thr (upI I 1069 2 0) day k from by
          show (if onD (upI I 1069 2 0) day k = true then _ else _) = _
          exact if_neg (fun z => h38 (of_decide_eq_true z))] at kk
        exact jx_ls (by exact ⟨rfl, rfl, rfl, rfl, trivial⟩) kk
      · refine jx_iconst (v := 1) dX11_leave_41 (by decide) ?_
        refine jx_aload_n dX11_leave_42 rfl ?_
        refine jx_getR dX11_leave_43 flX11_109 rfl rfl (hR _ _ _ rfl) ?_
        refine jx_iload_n dX11_leave_46 rfl ?_
        refine jx_ialdE (k) dX11_leave_47 rfl (rfl) (by omega) (by omega) (hk1.1.1) ?_
        refine jx_ishl dX11_leave_48 ?_
        refine jx_goto 53 dX11_leave_49 (by decide) ?_
        refine jx_iorE (z := nI (thr (upI I 1069 2 0) day k ||| (1 <<< cN (I 1094 k)))) dX11_leave_53 ((or_all ⟨_, hth⟩ ⟨_, (by omega : cN (I 1094 k) < 6)⟩).1) ?_
        refine jx_istore_n dX11_leave_54 rfl (by decide) ?_
        refine jx_iinc dX11_leave_55 rfl (v := nI (k + 1)) (nI_1 _) (by decide) ?_
        refine jx_goto 22 dX11_leave_58 (by decide) ?_
        have kk := ih h27
        rw [show thr (upI I 1069 2 0) day (k + 1) = thr (upI I 1069 2 0) day k ||| (1 <<< cN (I 1094 k)) from by
          show (if onD (upI I 1069 2 0) day k = true then _ else _) = _
          exact if_pos (decide_eq_true h38)] at kk
        exact jx_ls (by exact ⟨rfl, rfl, rfl, rfl, trivial⟩) kk
  exact jx_ls (by exact ⟨rfl, rfl, rfl, rfl, trivial⟩) (key1 0 (by omega))
set_option maxHeartbeats 1000000 in
set_option maxRecDepth 20000 in
theorem tX11_sinkF (hW : jWok w l) (hR : RS R) {W H np len : Nat} (hI : RI I W H np len) (c day z : Int32) (hbad : ¬ (ltQ c (W * H) = true ∧ dayQ day = true)) : jCD w l mX11_sink 3 [.ref 1069, .int c, .int day, .int z] (n, shE, I, L, R) (some (.int 0)) (n, shE, upI I 1069 2 1, L, R) := by
  refine jCD_of hW (by decide) rfl (Nat.le_of_ble_eq_true rfl) ?_
  have hI0 := hI.kp (k0 I)
  refine jx_aload_n dX11_sink_0 rfl ?_
  refine jx_iconst (v := 0) dX11_sink_1 (by decide) ?_
  refine jx_putI dX11_sink_2 flX11_187 rfl rfl (fun r h => by cases h; rfl) ?_
  refine jx_aload_n dX11_sink_5 rfl ?_
  refine jx_iload_n dX11_sink_6 rfl ?_
  refine jx_Vi (as := [.int _]) dX11_sink_7 mlX11_435 okX11_isCell viX11_isCell rfl rfl rfl rfl rfl (by decide) (Nat.le_of_ble_eq_true rfl) (tX11_isCell hW hR hI0.1.1 _) ?_
  refine jx_ifB_eq 20 dX11_sink_10 (by decide) (fun h10 => ?_) (fun h10 => ?_)
  · refine jx_aload_n dX11_sink_20 rfl ?_
    refine jx_iconst (v := 1) dX11_sink_21 (by decide) ?_
    refine jx_Vi (as := [.int _]) dX11_sink_22 mlX11_351 okX11_fail viX11_fail rfl rfl rfl rfl rfl (by decide) (Nat.le_of_ble_eq_true rfl) (tX11_fail hW _) ?_
    refine jx_iret dX11_sink_25 rfl ?_
    exact ⟨rfl, by rw [up_up]⟩
  · refine jx_iload_n dX11_sink_13 rfl ?_
    refine jx_Si (as := [.int _]) dX11_sink_14 mlX11_438 okX11_isDay stX11_isDay rfl rfl (by decide) (Nat.le_of_ble_eq_true rfl) (tX11_isDay hW _) ?_
    refine jx_ifB_ne 26 dX11_sink_17 (by decide) (fun h17 => ?_) (fun h17 => ?_)
    · exact absurd ⟨h10, h17⟩ hbad
    · refine jx_aload_n dX11_sink_20 rfl ?_
      refine jx_iconst (v := 1) dX11_sink_21 (by decide) ?_
      refine jx_Vi (as := [.int _]) dX11_sink_22 mlX11_351 okX11_fail viX11_fail rfl rfl rfl rfl rfl (by decide) (Nat.le_of_ble_eq_true rfl) (tX11_fail hW _) ?_
      refine jx_iret dX11_sink_25 rfl ?_
      exact ⟨rfl, by rw [up_up]⟩
set_option maxHeartbeats 1000000 in
set_option maxRecDepth 20000 in
theorem tX11_sink (hW : jWok w l) (hR : RS R) {W H np len s : Nat} (hI : RI I W H np len) (hs : I 1069 33 = nI s) (hs12 : s ≤ 12) {c day : Nat} (z : Int32) (hc : c < W * H) (hd : day ≤ 40) : jCD w l mX11_sink 3 [.ref 1069, .int (nI c), .int (nI day), .int z] (n, shE, I, L, R) (some (.int (if s = 12 then -1 else nI (s + 1)))) (n, shE, if s = 12 then upI (upI I 1069 2 0) 1083 2 (I 1083 2 + 1) else upI (upI (upI (upI (upI I 1069 2 0) 1104 s (nI c)) 1105 s (nI day)) 1106 s (z &&& 1)) 1069 33 (nI (s + 1)), L, R) := by
  refine jCD_of hW (by decide) rfl (Nat.le_of_ble_eq_true rfl) ?_
  have hI0 := hI.kp (k0 I)
  refine jx_aload_n dX11_sink_0 rfl ?_
  refine jx_iconst (v := 0) dX11_sink_1 (by decide) ?_
  refine jx_putI dX11_sink_2 flX11_187 rfl rfl (fun r h => by cases h; rfl) ?_
  refine jx_aload_n dX11_sink_5 rfl ?_
  refine jx_iload_n dX11_sink_6 rfl ?_
  refine jx_Vi (as := [.int _]) dX11_sink_7 mlX11_435 okX11_isCell viX11_isCell rfl rfl rfl rfl rfl (by decide) (Nat.le_of_ble_eq_true rfl) (tX11_isCellT hW hR hI0.1.1 hc) ?_
  refine jx_ifB_eq 20 dX11_sink_10 (by decide) (fun h10 => by cases h10) (fun h10 => ?_)
  refine jx_iload_n dX11_sink_13 rfl ?_
  refine jx_Si (as := [.int _]) dX11_sink_14 mlX11_438 okX11_isDay stX11_isDay rfl rfl (by decide) (Nat.le_of_ble_eq_true rfl) (tX11_isDayT hW hd) ?_
  refine jx_ifB_ne 26 dX11_sink_17 (by decide) (fun h17 => ?_) (fun h17 => by cases h17)
  refine jx_aload_n dX11_sink_26 rfl ?_
  refine jx_getIE dX11_sink_27 flX11_366 rfl rfl (((upI_j (by decide)).trans hs)) ?_
  refine jx_bipush (v := 12) dX11_sink_30 (by decide) ?_
  refine jx_icmpN_ne (a := s) (b := 12) 41 dX11_sink_32 (by decide) (by omega) (by omega) (fun h32 => ?_) (fun h32 => ?_)
  · refine jx_aload_n dX11_sink_41 rfl ?_
    refine jx_getR dX11_sink_42 flX11_139 rfl rfl (hR _ _ _ rfl) ?_
    refine jx_aload_n dX11_sink_45 rfl ?_
    refine jx_getIE dX11_sink_46 flX11_366 rfl rfl (((upI_j (by decide)).trans hs)) ?_
    refine jx_iload_n dX11_sink_49 rfl ?_
    refine jx_iastN (s) dX11_sink_50 rfl (rfl) (by omega) (by omega) ?_
    refine jx_aload_n dX11_sink_51 rfl ?_
    refine jx_getR dX11_sink_52 flX11_142 rfl rfl (hR _ _ _ rfl) ?_
    refine jx_aload_n dX11_sink_55 rfl ?_
    refine jx_getIE dX11_sink_56 flX11_366 rfl rfl (((upI_nea' (by decide)).trans ((upI_j (by decide)).trans hs))) ?_
    refine jx_iload_n dX11_sink_59 rfl ?_
    refine jx_iastN (s) dX11_sink_60 rfl (rfl) (by omega) (by omega) ?_
    refine jx_aload_n dX11_sink_61 rfl ?_
    refine jx_getR dX11_sink_62 flX11_145 rfl rfl (hR _ _ _ rfl) ?_
    refine jx_aload_n dX11_sink_65 rfl ?_
    refine jx_getIE dX11_sink_66 flX11_366 rfl rfl (((upI_nea' (by decide)).trans ((upI_nea' (by decide)).trans ((upI_j (by decide)).trans hs)))) ?_
    refine jx_iload_n dX11_sink_69 rfl ?_
    refine jx_zastN (s) dX11_sink_70 rfl (rfl) (by omega) (by omega) ?_
    refine jx_aload_n dX11_sink_71 rfl ?_
    refine jx_dup dX11_sink_72 rfl ?_
    refine jx_getIE dX11_sink_73 flX11_366 rfl rfl (((upI_nea' (by decide)).trans ((upI_nea' (by decide)).trans ((upI_nea' (by decide)).trans ((upI_j (by decide)).trans hs))))) ?_
    refine jx_iconst (v := 1) dX11_sink_76 (by decide) ?_
    refine jx_iaddE (z := nI (s + 1)) dX11_sink_77 (nI_add s 1) ?_
    refine jx_putI dX11_sink_78 flX11_366 rfl rfl (fun r h => by cases h; rfl) ?_
    refine jx_aload_n dX11_sink_81 rfl ?_
    refine jx_getIE dX11_sink_82 flX11_366 rfl rfl (upI_s) ?_
    refine jx_iret dX11_sink_85 rfl ?_
    rw [if_neg h32, if_neg h32]
    exact ⟨rfl, rfl⟩
  · refine jx_aload_n dX11_sink_35 rfl ?_
    refine jx_iconst (v := 2) dX11_sink_36 (by decide) ?_
    refine jx_Vi (as := [.int _]) dX11_sink_37 mlX11_467 okX11_refuse viX11_refuse rfl rfl rfl rfl rfl (by decide) (Nat.le_of_ble_eq_true rfl) (tX11_refuse (k := 2) hW hR (by omega)) ?_
    refine jx_iret dX11_sink_40 rfl ?_
    rw [if_pos h32, if_pos h32]
    exact ⟨rfl, rfl⟩
set_option maxHeartbeats 1000000 in
set_option maxRecDepth 20000 in
theorem tX11_forget (hW : jWok w l) {b : Nat} (hb : I 1069 33 = nI b) (hb12 : b ≤ 12) : jCD w l mX11_forget 1 [.ref 1069] (n, shE, I, L, R) (some (.int (if b = 0 then -1 else nI (b - 1)))) (n, shE, if b = 0 then upI I 1069 2 0 else upI (upI I 1069 2 0) 1069 33 (nI (b - 1)), L, R) := by
  refine jCD_of hW (by decide) rfl (Nat.le_of_ble_eq_true rfl) ?_
  refine jx_aload_n dX11_forget_0 rfl ?_
  refine jx_iconst (v := 0) dX11_forget_1 (by decide) ?_
  refine jx_putI dX11_forget_2 flX11_187 rfl rfl (fun r h => by cases h; rfl) ?_
  refine jx_aload_n dX11_forget_5 rfl ?_
  refine jx_getIE dX11_forget_6 flX11_366 rfl rfl ((upI_j (by decide)).trans hb) ?_
  refine jx_ifN_ne (a := b) 14 dX11_forget_9 (by decide) (by omega) (fun h9 => ?_) (fun h9 => ?_)
  · refine jx_aload_n dX11_forget_14 rfl ?_
    refine jx_dup dX11_forget_15 rfl ?_
    refine jx_getIE dX11_forget_16 flX11_366 rfl rfl ((upI_j (by decide)).trans hb) ?_
    refine jx_iconst (v := 1) dX11_forget_19 (by decide) ?_
    refine jx_isubE (z := nI (b - 1)) dX11_forget_20 (pk_sub (a := b) (b := 1) (by omega)) ?_
    refine jx_putI dX11_forget_21 flX11_366 rfl rfl (fun r h => by cases h; rfl) ?_
    refine jx_aload_n dX11_forget_24 rfl ?_
    refine jx_getIE dX11_forget_25 flX11_366 rfl rfl (upI_s) ?_
    refine jx_iret dX11_forget_28 rfl ?_
    rw [if_neg h9, if_neg h9]
    exact ⟨rfl, rfl⟩
  · refine jx_iconst (v := -1) dX11_forget_12 (by decide) ?_
    refine jx_iret dX11_forget_13 rfl ?_
    rw [if_pos h9, if_pos h9]
    exact ⟨rfl, rfl⟩
set_option maxHeartbeats 1000000 in
set_option maxRecDepth 20000 in
theorem tX11_buriedF (hW : jWok w l) (hR : RS R) {W H np len : Nat} (hI : RI I W H np len) (p : Int32) {z : Bool} (hz : I 1069 49 = jb z) (hbad : ¬ (ltQ p np = true ∧ z = true)) : jCD w l mX11_buried 3 [.ref 1069, .int p] (n, shE, I, L, R) (some (.int 0)) (n, shE, upI I 1069 2 1, L, R) := by
  refine jCD_of hW (by decide) rfl (Nat.le_of_ble_eq_true rfl) ?_
  have hI0 := hI.kp (k0 I)
  refine jx_aload_n dX11_buried_0 rfl ?_
  refine jx_iconst (v := 0) dX11_buried_1 (by decide) ?_
  refine jx_putI dX11_buried_2 flX11_187 rfl rfl (fun r h => by cases h; rfl) ?_
  refine jx_aload_n dX11_buried_5 rfl ?_
  refine jx_iload_n dX11_buried_6 rfl ?_
  refine jx_Vi (as := [.int _]) dX11_buried_7 mlX11_448 okX11_isParty viX11_isParty rfl rfl rfl rfl rfl (by decide) (Nat.le_of_ble_eq_true rfl) (tX11_isParty hW hR (hI0.2.2.2.2.1.1) hI0.2.2.2.2.1.2 _) ?_
  refine jx_ifB_eq 29 dX11_buried_10 (by decide) (fun h10 => ?_) (fun h10 => ?_)
  · refine jx_aload_n dX11_buried_29 rfl ?_
    refine jx_iconst (v := 1) dX11_buried_30 (by decide) ?_
    refine jx_Vi (as := [.int _]) dX11_buried_31 mlX11_351 okX11_fail viX11_fail rfl rfl rfl rfl rfl (by decide) (Nat.le_of_ble_eq_true rfl) (tX11_fail hW _) ?_
    refine jx_iret dX11_buried_34 rfl ?_
    exact ⟨rfl, by rw [up_up]⟩
  · refine jx_aload_n dX11_buried_13 rfl ?_
    refine jx_getIE dX11_buried_14 flX11_369 rfl rfl ((upI_j (by decide)).trans hz) ?_
    refine jx_ifB_eq 29 dX11_buried_17 (by decide) (fun h17 => ?_) (fun h17 => ?_)
    · refine jx_aload_n dX11_buried_29 rfl ?_
      refine jx_iconst (v := 1) dX11_buried_30 (by decide) ?_
      refine jx_Vi (as := [.int _]) dX11_buried_31 mlX11_351 okX11_fail viX11_fail rfl rfl rfl rfl rfl (by decide) (Nat.le_of_ble_eq_true rfl) (tX11_fail hW _) ?_
      refine jx_iret dX11_buried_34 rfl ?_
      exact ⟨rfl, by rw [up_up]⟩
    · exact absurd ⟨h10, h17⟩ hbad
set_option maxHeartbeats 1000000 in
set_option maxRecDepth 20000 in
theorem tX11_buried (hW : jWok w l) (hR : RS R) {W H np len : Nat} (hI : RI I W H np len) (hbz : I 1069 49 = jb true) {p : Nat} (hp : p < np) : jRi w l mX11_buried 3 [.ref 1069, .int (nI p)] (n, shE, I, L, R) (fun r t => r = I 1102 p ∧ ∃ J, t = (n, shE, J, L, R) ∧ eqs (upI I 1069 2 0) J) := by
  refine jRi_of hW (by decide) rfl (Nat.le_of_ble_eq_true rfl) ?_
  have hI0 := hI.kp (k0 I)
  have hT := hI0.1.1
  have hz := hT.wh
  have hw3 := hT.2.2.1
  have hw9 := hT.2.2.2.1
  have hh1 := hT.2.2.2.2.1
  have hh7 := hT.2.2.2.2.2
  have hnp := hI0.2.2.2.2.1.2
  refine jx_aload_n dX11_buried_0 rfl ?_
  refine jx_iconst (v := 0) dX11_buried_1 (by decide) ?_
  refine jx_putI dX11_buried_2 flX11_187 rfl rfl (fun r h => by cases h; rfl) ?_
  refine jx_aload_n dX11_buried_5 rfl ?_
  refine jx_iload_n dX11_buried_6 rfl ?_
  refine jx_Vi (as := [.int _]) dX11_buried_7 mlX11_448 okX11_isParty viX11_isParty rfl rfl rfl rfl rfl (by decide) (Nat.le_of_ble_eq_true rfl) (tX11_isPartyT hW hR (hI0.2.2.2.2.1.1) hI0.2.2.2.2.1.2 hp) ?_
  refine jx_ifB_eq 29 dX11_buried_10 (by decide) (fun h10 => by cases h10) (fun h10 => ?_)
  refine jx_aload_n dX11_buried_13 rfl ?_
  refine jx_getIE dX11_buried_14 flX11_369 rfl rfl ((upI_j (by decide)).trans hbz) ?_
  refine jx_ifB_eq 29 dX11_buried_17 (by decide) (fun h17 => by cases h17) (fun h17 => ?_)
  refine jx_aload_n dX11_buried_20 rfl ?_
  refine jx_getR dX11_buried_21 flX11_133 rfl rfl (hR _ _ _ rfl) ?_
  refine jx_iload_n dX11_buried_24 rfl ?_
  refine jx_ialdN (p) dX11_buried_25 rfl (rfl) (by omega) (by omega) ?_
  refine jx_goto 34 dX11_buried_26 (by decide) ?_
  refine jx_iret dX11_buried_34 rfl ?_
  exact ⟨_, rfl, rfl, _, rfl, eqs_r _⟩
set_option maxHeartbeats 1000000 in
set_option maxRecDepth 20000 in
theorem tX11_image (hW : jWok w l) (hR : RS R) (hsk : ∀ j, j < 12 → I 1106 j &&& 1 = I 1106 j) : jCD w l mX11_image 2 [.ref 1069] (n, shE, I, L, R) none (n, shE, imgH I, L, R) := by
  refine jCD_of hW (by decide) rfl (Nat.le_of_ble_eq_true rfl) ?_
  refine jx_aload_n dX11_image_0 rfl ?_
  refine jx_iconst (v := 0) dX11_image_1 (by decide) ?_
  refine jx_putI dX11_image_2 flX11_187 rfl rfl (fun r h => by cases h; rfl) ?_
  refine jx_aload_n dX11_image_5 rfl ?_
  refine jx_iconst (v := 1) dX11_image_6 (by decide) ?_
  refine jx_putZ dX11_image_7 flX11_373 rfl rfl (fun r h => by cases h; rfl) (by first | exact Or.inl rfl | exact Or.inr rfl | exact jb_or _) ?_
  refine jx_aload_n dX11_image_10 rfl ?_
  refine jx_aload_n dX11_image_11 rfl ?_
  refine jx_getI dX11_image_12 flX11_363 rfl rfl ?_
  refine jx_putI dX11_image_15 flX11_521 rfl rfl (fun r h => by cases h; rfl) ?_
  refine jx_aload_n dX11_image_18 rfl ?_
  refine jx_aload_n dX11_image_19 rfl ?_
  refine jx_getI dX11_image_20 flX11_366 rfl rfl ?_
  refine jx_putI dX11_image_23 flX11_524 rfl rfl (fun r h => by cases h; rfl) ?_
  refine jx_aload_n dX11_image_26 rfl ?_
  refine jx_getR dX11_image_27 flX11_154 rfl rfl (hR _ _ _ rfl) ?_
  refine jx_aload_n dX11_image_30 rfl ?_
  refine jx_getR dX11_image_31 flX11_109 rfl rfl (hR _ _ _ rfl) ?_
  refine jx_Sv (as := [.ref _, .ref _]) dX11_image_34 mlX11_527 okX11_be stX11_be rfl rfl (by decide) (Nat.le_of_ble_eq_true rfl) (tX11_be hW rfl rfl (by decide) (by decide)) ?_
  refine jx_aload_n dX11_image_37 rfl ?_
  refine jx_getR dX11_image_38 flX11_157 rfl rfl (hR _ _ _ rfl) ?_
  refine jx_aload_n dX11_image_41 rfl ?_
  refine jx_getR dX11_image_42 flX11_112 rfl rfl (hR _ _ _ rfl) ?_
  refine jx_Sv (as := [.ref _, .ref _]) dX11_image_45 mlX11_527 okX11_be stX11_be rfl rfl (by decide) (Nat.le_of_ble_eq_true rfl) (tX11_be hW rfl rfl (by decide) (by decide)) ?_
  refine jx_aload_n dX11_image_48 rfl ?_
  refine jx_getR dX11_image_49 flX11_160 rfl rfl (hR _ _ _ rfl) ?_
  refine jx_aload_n dX11_image_52 rfl ?_
  refine jx_getR dX11_image_53 flX11_115 rfl rfl (hR _ _ _ rfl) ?_
  refine jx_Sv (as := [.ref _, .ref _]) dX11_image_56 mlX11_527 okX11_be stX11_be rfl rfl (by decide) (Nat.le_of_ble_eq_true rfl) (tX11_be hW rfl rfl (by decide) (by decide)) ?_
  refine jx_aload_n dX11_image_59 rfl ?_
  refine jx_getR dX11_image_60 flX11_163 rfl rfl (hR _ _ _ rfl) ?_
  refine jx_aload_n dX11_image_63 rfl ?_
  refine jx_getR dX11_image_64 flX11_118 rfl rfl (hR _ _ _ rfl) ?_
  refine jx_Sv (as := [.ref _, .ref _]) dX11_image_67 mlX11_527 okX11_be stX11_be rfl rfl (by decide) (Nat.le_of_ble_eq_true rfl) (tX11_be hW rfl rfl (by decide) (by decide)) ?_
  refine jx_aload_n dX11_image_70 rfl ?_
  refine jx_getR dX11_image_71 flX11_166 rfl rfl (hR _ _ _ rfl) ?_
  refine jx_aload_n dX11_image_74 rfl ?_
  refine jx_getR dX11_image_75 flX11_121 rfl rfl (hR _ _ _ rfl) ?_
  refine jx_Sv (as := [.ref _, .ref _]) dX11_image_78 mlX11_527 okX11_be stX11_be rfl rfl (by decide) (Nat.le_of_ble_eq_true rfl) (tX11_be hW rfl rfl (by decide) (by decide)) ?_
  refine jx_aload_n dX11_image_81 rfl ?_
  refine jx_getR dX11_image_82 flX11_169 rfl rfl (hR _ _ _ rfl) ?_
  refine jx_aload_n dX11_image_85 rfl ?_
  refine jx_getR dX11_image_86 flX11_139 rfl rfl (hR _ _ _ rfl) ?_
  refine jx_Sv (as := [.ref _, .ref _]) dX11_image_89 mlX11_527 okX11_be stX11_be rfl rfl (by decide) (Nat.le_of_ble_eq_true rfl) (tX11_be hW rfl rfl (by decide) (by decide)) ?_
  refine jx_aload_n dX11_image_92 rfl ?_
  refine jx_getR dX11_image_93 flX11_172 rfl rfl (hR _ _ _ rfl) ?_
  refine jx_aload_n dX11_image_96 rfl ?_
  refine jx_getR dX11_image_97 flX11_142 rfl rfl (hR _ _ _ rfl) ?_
  refine jx_Sv (as := [.ref _, .ref _]) dX11_image_100 mlX11_527 okX11_be stX11_be rfl rfl (by decide) (Nat.le_of_ble_eq_true rfl) (tX11_be hW rfl rfl (by decide) (by decide)) ?_
  refine jx_aload_n dX11_image_103 rfl ?_
  refine jx_getR dX11_image_104 flX11_178 rfl rfl (hR _ _ _ rfl) ?_
  refine jx_aload_n dX11_image_107 rfl ?_
  refine jx_getR dX11_image_108 flX11_145 rfl rfl (hR _ _ _ rfl) ?_
  refine jx_Sv (as := [.ref _, .ref _]) dX11_image_111 mlX11_531 okX11_beAs stX11_beAs rfl rfl (by decide) (Nat.le_of_ble_eq_true rfl) (tX11_beAs hW rfl rfl (by decide) (by decide) hsk) ?_
  refine jx_aload_n dX11_image_114 rfl ?_
  refine jx_getR dX11_image_115 flX11_175 rfl rfl (hR _ _ _ rfl) ?_
  refine jx_aload_n dX11_image_118 rfl ?_
  refine jx_getR dX11_image_119 flX11_68 rfl rfl (hR _ _ _ rfl) ?_
  refine jx_Sv (as := [.ref _, .ref _]) dX11_image_122 mlX11_527 okX11_be stX11_be rfl rfl (by decide) (Nat.le_of_ble_eq_true rfl) (tX11_be hW rfl rfl (by decide) (by decide)) ?_
  refine jx_vret dX11_image_125 rfl ?_
  exact ⟨rfl, rfl⟩
set_option maxHeartbeats 1000000 in
set_option maxRecDepth 20000 in
theorem tX11_restore (hW : jWok w l) (hR : RS R) {z : Bool} (hz : I 1069 55 = jb z) (hsk : z = true → ∀ j, j < 12 → I 1117 j &&& 1 = I 1117 j) : jCD w l mX11_restore 2 [.ref 1069] (n, shE, I, L, R) (some (.int (jb z))) (n, shE, if z = true then resH I else upI I 1069 2 0, L, R) := by
  refine jCD_of hW (by decide) rfl (Nat.le_of_ble_eq_true rfl) ?_
  refine jx_aload_n dX11_restore_0 rfl ?_
  refine jx_iconst (v := 0) dX11_restore_1 (by decide) ?_
  refine jx_putI dX11_restore_2 flX11_187 rfl rfl (fun r h => by cases h; rfl) ?_
  refine jx_aload_n dX11_restore_5 rfl ?_
  refine jx_getIE dX11_restore_6 flX11_373 rfl rfl ((upI_j (by decide)).trans hz) ?_
  refine jx_ifB_ne 14 dX11_restore_9 (by decide) (fun h9 => ?_) (fun h9 => ?_)
  · refine jx_aload_n dX11_restore_14 rfl ?_
    refine jx_aload_n dX11_restore_15 rfl ?_
    refine jx_getI dX11_restore_16 flX11_521 rfl rfl ?_
    refine jx_putI dX11_restore_19 flX11_363 rfl rfl (fun r h => by cases h; rfl) ?_
    refine jx_aload_n dX11_restore_22 rfl ?_
    refine jx_aload_n dX11_restore_23 rfl ?_
    refine jx_getI dX11_restore_24 flX11_524 rfl rfl ?_
    refine jx_putI dX11_restore_27 flX11_366 rfl rfl (fun r h => by cases h; rfl) ?_
    refine jx_aload_n dX11_restore_30 rfl ?_
    refine jx_getR dX11_restore_31 flX11_109 rfl rfl (hR _ _ _ rfl) ?_
    refine jx_aload_n dX11_restore_34 rfl ?_
    refine jx_getR dX11_restore_35 flX11_154 rfl rfl (hR _ _ _ rfl) ?_
    refine jx_Sv (as := [.ref _, .ref _]) dX11_restore_38 mlX11_527 okX11_be stX11_be rfl rfl (by decide) (Nat.le_of_ble_eq_true rfl) (tX11_be hW rfl rfl (by decide) (by decide)) ?_
    refine jx_aload_n dX11_restore_41 rfl ?_
    refine jx_getR dX11_restore_42 flX11_112 rfl rfl (hR _ _ _ rfl) ?_
    refine jx_aload_n dX11_restore_45 rfl ?_
    refine jx_getR dX11_restore_46 flX11_157 rfl rfl (hR _ _ _ rfl) ?_
    refine jx_Sv (as := [.ref _, .ref _]) dX11_restore_49 mlX11_527 okX11_be stX11_be rfl rfl (by decide) (Nat.le_of_ble_eq_true rfl) (tX11_be hW rfl rfl (by decide) (by decide)) ?_
    refine jx_aload_n dX11_restore_52 rfl ?_
    refine jx_getR dX11_restore_53 flX11_115 rfl rfl (hR _ _ _ rfl) ?_
    refine jx_aload_n dX11_restore_56 rfl ?_
    refine jx_getR dX11_restore_57 flX11_160 rfl rfl (hR _ _ _ rfl) ?_
    refine jx_Sv (as := [.ref _, .ref _]) dX11_restore_60 mlX11_527 okX11_be stX11_be rfl rfl (by decide) (Nat.le_of_ble_eq_true rfl) (tX11_be hW rfl rfl (by decide) (by decide)) ?_
    refine jx_aload_n dX11_restore_63 rfl ?_
    refine jx_getR dX11_restore_64 flX11_118 rfl rfl (hR _ _ _ rfl) ?_
    refine jx_aload_n dX11_restore_67 rfl ?_
    refine jx_getR dX11_restore_68 flX11_163 rfl rfl (hR _ _ _ rfl) ?_
    refine jx_Sv (as := [.ref _, .ref _]) dX11_restore_71 mlX11_527 okX11_be stX11_be rfl rfl (by decide) (Nat.le_of_ble_eq_true rfl) (tX11_be hW rfl rfl (by decide) (by decide)) ?_
    refine jx_aload_n dX11_restore_74 rfl ?_
    refine jx_getR dX11_restore_75 flX11_121 rfl rfl (hR _ _ _ rfl) ?_
    refine jx_aload_n dX11_restore_78 rfl ?_
    refine jx_getR dX11_restore_79 flX11_166 rfl rfl (hR _ _ _ rfl) ?_
    refine jx_Sv (as := [.ref _, .ref _]) dX11_restore_82 mlX11_527 okX11_be stX11_be rfl rfl (by decide) (Nat.le_of_ble_eq_true rfl) (tX11_be hW rfl rfl (by decide) (by decide)) ?_
    refine jx_aload_n dX11_restore_85 rfl ?_
    refine jx_getR dX11_restore_86 flX11_139 rfl rfl (hR _ _ _ rfl) ?_
    refine jx_aload_n dX11_restore_89 rfl ?_
    refine jx_getR dX11_restore_90 flX11_169 rfl rfl (hR _ _ _ rfl) ?_
    refine jx_Sv (as := [.ref _, .ref _]) dX11_restore_93 mlX11_527 okX11_be stX11_be rfl rfl (by decide) (Nat.le_of_ble_eq_true rfl) (tX11_be hW rfl rfl (by decide) (by decide)) ?_
    refine jx_aload_n dX11_restore_96 rfl ?_
    refine jx_getR dX11_restore_97 flX11_142 rfl rfl (hR _ _ _ rfl) ?_
    refine jx_aload_n dX11_restore_100 rfl ?_
    refine jx_getR dX11_restore_101 flX11_172 rfl rfl (hR _ _ _ rfl) ?_
    refine jx_Sv (as := [.ref _, .ref _]) dX11_restore_104 mlX11_527 okX11_be stX11_be rfl rfl (by decide) (Nat.le_of_ble_eq_true rfl) (tX11_be hW rfl rfl (by decide) (by decide)) ?_
    refine jx_aload_n dX11_restore_107 rfl ?_
    refine jx_getR dX11_restore_108 flX11_145 rfl rfl (hR _ _ _ rfl) ?_
    refine jx_aload_n dX11_restore_111 rfl ?_
    refine jx_getR dX11_restore_112 flX11_178 rfl rfl (hR _ _ _ rfl) ?_
    refine jx_Sv (as := [.ref _, .ref _]) dX11_restore_115 mlX11_531 okX11_beAs stX11_beAs rfl rfl (by decide) (Nat.le_of_ble_eq_true rfl) (tX11_beAs hW rfl rfl (by decide) (by decide) (hsk h9)) ?_
    refine jx_aload_n dX11_restore_118 rfl ?_
    refine jx_getR dX11_restore_119 flX11_68 rfl rfl (hR _ _ _ rfl) ?_
    refine jx_aload_n dX11_restore_122 rfl ?_
    refine jx_getR dX11_restore_123 flX11_175 rfl rfl (hR _ _ _ rfl) ?_
    refine jx_Sv (as := [.ref _, .ref _]) dX11_restore_126 mlX11_527 okX11_be stX11_be rfl rfl (by decide) (Nat.le_of_ble_eq_true rfl) (tX11_be hW rfl rfl (by decide) (by decide)) ?_
    refine jx_iconst (v := 1) dX11_restore_129 (by decide) ?_
    refine jx_zret dX11_restore_130 rfl ?_ ?_
    · first | exact Or.inl rfl | exact Or.inr rfl | exact jb_or _
    subst h9
    exact ⟨rfl, rfl⟩
  · refine jx_iconst (v := 0) dX11_restore_12 (by decide) ?_
    refine jx_zret dX11_restore_13 rfl ?_ ?_
    · first | exact Or.inl rfl | exact Or.inr rfl | exact jb_or _
    subst h9
    exact ⟨rfl, rfl⟩
end RM
